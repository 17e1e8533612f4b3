/-! PART 53: DeadlineAdmission, utilization and load -/
theorem dok_m {G : vG} {n : Nat} {sc p0 : Int32} (h0 : dok G n sc 0) (h1 : dok G n sc 1) (h : cM p0 = 0) : dok G n sc p0 := by
  unfold cM at h
  split at h
  · rename_i q
    rcases q with q | q <;> rw [q] <;> assumption
  · exact absurd h (by decide)
theorem utl_st {G : vG} {n i : Nat} {mode : Int32} {sm : UInt64} (hG : okG G n) (hn : n ≤ 8) (hi : i < n) (es : sm = utl G mode i) (h0 : mode = 0) : vf_n64 (FP.dadd sm (FP.ddiv (FP.i2d (G 2 i)) (FP.i2d (per G i)))) := by
  have := utl_pn (mode := mode) hG hn (show i + 1 ≤ n from hi)
  rw [utl, if_pos h0, ← es] at this
  exact nn64 (pn64_fin this)
theorem utl_st2 {G : vG} {n i : Nat} {mode : Int32} {sm : UInt64} (hG : okG G n) (hn : n ≤ 8) (hi : i < n) (es : sm = utl G mode i) (h0 : ¬ mode = 0) (h1 : ¬ G 3 i ≤ 0) : vf_n64 (FP.dadd sm (FP.ddiv (FP.i2d (G 3 i)) (FP.i2d (per G i)))) := by
  have := utl_pn (mode := mode) hG hn (show i + 1 ≤ n from hi)
  rw [utl, if_neg h0, if_neg h1, ← es] at this
  exact nn64 (pn64_fin this)
set_option maxHeartbeats 1000000 in
set_option maxRecDepth 100000 in
/-- utilization -/
theorem c_X4_utilization (l : Launch) (hst : l.stackTraces = false) (dC : Nat → ClassId) (dI : Nat → Nat → Nat) (cy : Nat → ClassId) (sz : Nat) (d0 : Nat) (o : Nat → Nat) (F : Nat → Int32) (bc : Nat → Nat) (G : vG) (n : Nat) (hn : n ≤ 8) (sc : Int32) (hG : okG G n) (p0 : Int32) : vx_Met l yX4_utilization wsX4_utilization ({ frames := 7, cells := 1, slots := 6, locals := 102 }) (va_Pc [.ref d0, .int p0] (pR dC dI cy (wObj d0 o F ++ (wCfg cy (o 0) bc G (nI n) sc)) sz)) (va_Qd (fun (r : UInt64) (_ : Unit) => cM p0 = 0 ∧ r = utl G p0 n) (fun (_ : Unit) (_ : State) => True) (fun q => sz ≤ q)) (vx_X (fun (_ : Unit) => True) (fun (E : String) (_ : Unit) (_ : State) => E = "java/lang/IllegalArgumentException" ∧ cM p0 = 1) (fun q => sz ≤ q)) 1 6 (fun q => sz ≤ q) := by
  refine vx_ofW (cc := cX4_utilization) (maxL := 5) (ret := some .double) (by decide) rfl ?_
  intro p e s m args below meth c s₁ B hml hnt hv
  obtain ⟨rfl, hsz, hP, hE, hX, hZ⟩ := hv
  have hK := hE.1
  subst hsz
  have hS : va_S (fun q => s.heap.size ≤ q) s.heap s.heap [] := va_S.rf
  have hA : ∀ q : Nat, s.heap.size ≤ q → (fun q => s.heap.size ≤ q) q := fun q h => h
  have hP : va_P (dC, dI) vwCl (wObj d0 o F ++ (wCfg cy (o 0) bc G (nI n) sc)) s.heap := hP
  have hx := B.exec
  have hb := B.bytes
  have hr := B.returns
  have hts := atoms_spec (ws := wsX4_utilization) B.pre
  have hown : s.vm.findClass RX4 = some m.cls := findClass_of_methodNamed B.named
  have hlocks := B.notSynchronized
  have hin0 : ∀ w ∈ u_ws RX0 TX0 9, w ∈ wsX4_utilization := by decide +kernel
  have hin4 : ∀ w ∈ u_ws RX4 TX4 12, w ∈ wsX4_utilization := by decide +kernel
  have f_12 := hts (.fieldLink RX4 12 "DeadlineAdmission" "current" "LDeadlineAdmission$Configuration;") (by decide +kernel)
  have f_170 := va_Nw.use (A := ([.ref d0, .int p0].toArray)) rfl (hE.f 3 rfl)
  have f_182 := va_Nw.use (A := ([.ref d0, .int p0].toArray)) rfl (hE.f 5 rfl)
  have f_58 := va_Nw.use (A := ([.ref d0, .int p0].toArray)) rfl (hE.f 9 rfl)
  have hl := lv_entry ([.ref d0, .int p0]) (n := 5) (Nat.le_of_ble_eq_true rfl)
  rw [lg_entry_eq]
  generalize (lg_sl ([.ref d0, .int p0]) ++ List.replicate (5 - (lg_sl ([.ref d0, .int p0])).length) Slot.unset).toArray = ls at hl ⊢
  have hl : lv_has ls 5 [(0, .ref d0), (1, .int p0)] := hl
  refine lv_iload_n hx hb dX4_utilization_0 rfl (lv_at hl 1 rfl) ?_
  have hP0 : va_P (dC, dI) vwCl [] s.heap := fun k q h => by simp at h
  refine vx_callv (vx_runS (As := [.int p0]) (rest := []) ⟨hx, hb, hml, hown, hts⟩ (c_X4_requireMode l hst dC dI cy s.heap.size p0) (cwS 1 hts gX4_utilization_X4_requireMode rfl rfl rfl (by decide +kernel) ⟨Nat.le_of_ble_eq_true rfl, Nat.le_of_ble_eq_true rfl⟩) ⟨bl_R, pr_R hP0 hE hX hZ hS hA⟩ rfl rfl hl.1 rfl (lv_room (Nat.le_of_ble_eq_true rfl)) dX4_utilization_1 ⟨Nat.le_of_ble_eq_true rfl, Nat.le_of_ble_eq_true rfl⟩) hS (fun q _ h => hA q (Nat.le_trans hS.1 h)) (fun q h => hA q (Nat.le_trans hS.1 h)) (fun q _ h => hA q (Nat.le_trans hS.1 h)) (fun E ce q9 u t H1 locs ht hvm hpx hBX hz1 hk1 hS hce hcv hcl => ?_) (fun u t H1 locs ht hvm hw hB hz1 hk1 hS => ?_)
  · exact vx_out (fun x hx9 => (hnt x hx9).elim) hlocks hce hcv hcl (fun t ht hvm => ⟨(), trivial, hBX, hS.F ht⟩) hS.2.2 (Nat.le_of_ble_eq_true rfl) (Nat.le_of_ble_eq_true rfl)
  have hm9 := hw
  have hP : va_P (dC, dI) vwCl (wObj d0 o F ++ (wCfg cy (o 0) bc G (nI n) sc)) H1 := hP.kept (fun k q hk => hk1 q.1 ((hP k q hk).lt) (Nat.not_le.mpr ((hP k q hk).lt)))
  clear hz1 hk1
  generalize H1 = H at hP hS ⊢
  refine lv_dconst0 hx hb dX4_utilization_4 ?_
  refine lv_dstore_n (lv' := [(2, .double FP.dconst0), (0, .ref d0), (1, .int p0)]) hx hb dX4_utilization_5 rfl hl (by decide) rfl (fun ls hl => ?_)
  refine lv_iconst (v := 0) hx hb dX4_utilization_6 (by decide) ?_
  refine lv_istore (lv' := [(4, .int 0), (2, .double FP.dconst0), (0, .ref d0), (1, .int p0)]) hx hb dX4_utilization_7 hl (by decide) rfl (fun ls hl => ?_)
  have loop9 : ∀ (k : Nat) (i : Nat) (sm : UInt64) (ls : Array Slot), i ≤ n → n < i + k → sm = utl G p0 i → lv_has ls 5 [(0, .ref d0), (1, .int p0), (2, .double sm), (4, .int (nI i))] → W p l e (headSpec wsX4_utilization ({ frames := 7, cells := 1, slots := 6, locals := 102 }) |>.room) s m (([.ref d0, .int p0].toArray)) below meth c H locs 1 6 (vx_MQ below (va_Qd (fun (r : UInt64) (_ : Unit) => cM p0 = 0 ∧ r = utl G p0 n) (fun (_ : Unit) (_ : State) => True) (fun q => s.heap.size ≤ q)) (vx_X (fun (_ : Unit) => True) (fun (E : String) (_ : Unit) (_ : State) => E = "java/lang/IllegalArgumentException" ∧ cM p0 = 1) (fun q => s.heap.size ≤ q)) ([.ref d0, .int p0].toArray) s 1 6 (fun q => s.heap.size ≤ q)) (F0 m 9 ls []) := by
    intro k
    induction k with
    | zero =>
      intro i sm ls hi hk es
      exfalso; omega
    | succ k ih9 =>
      intro i sm ls hi hk es hl
      refine lv_iload hx hb dX4_utilization_9 (lv_at hl 3 rfl) ?_
      refine lv_aload_n hx hb dX4_utilization_11 rfl (lv_at hl 0 rfl) ?_
      refine va_get (D := (dC, dI)) (ci := 4) (v := .ref (o 0)) (C := RX4) (T := TX4) (N := 12) hx hb hts hin4 hown hK hP 0 rfl rfl 0 (by decide) f_12 (fun _ h9 => h9) rfl dX4_utilization_12 ?_
      refine va_getN (D := (dC, dI)) (ci := 0) (v := .int (nI n)) (C := RX0) (T := TX0) (N := 9) hx hb hts hin0 hown hK hP 1 rfl rfl 7 (by decide) f_58 (fun _ h9 => h9) rfl dX4_utilization_15 ?_
      refine lv_icmp_ge (tgt := 96) hx hb dX4_utilization_18 (by decide) (fun c_18 => ?_) (fun c_18 => ?_)
      · have e_i : i = n := Nat.le_antisymm hi ((nI_leI (by omega) (by omega)).mp c_18)
        refine lv_dload_n hx hb dX4_utilization_96 rfl (lv_at hl 2 rfl) ?_
        refine vx_ret ?_
        refine W.widen (k := 1) (n := 6) (Nat.le_of_ble_eq_true rfl) (Nat.le_of_ble_eq_true rfl) ?_
        exact W.dret (v := sm) hx hb hr (fun t ht hW => ⟨⟨sm, (), rfl, ⟨hm9, by rw [es, e_i]⟩, trivial⟩, hS.F ht⟩) hS.2.2 dX4_utilization_97
      · have hlt : i < n := Nat.lt_of_not_le (fun h => c_18 (nI_le h (by omega)))
        refine lv_iload_n hx hb dX4_utilization_21 rfl (lv_at hl 1 rfl) ?_
        refine lv_if_ne (tgt := 53) hx hb dX4_utilization_22 (by decide) (fun c_22 => ?_) (fun c_22 => ?_)
        · refine lv_aload_n hx hb dX4_utilization_53 rfl (lv_at hl 0 rfl) ?_
          refine va_get (D := (dC, dI)) (ci := 4) (v := .ref (o 0)) (C := RX4) (T := TX4) (N := 12) hx hb hts hin4 hown hK hP 0 rfl rfl 0 (by decide) f_12 (fun _ h9 => h9) rfl dX4_utilization_54 ?_
          refine lv_iload hx hb dX4_utilization_57 (lv_at hl 3 rfl) ?_
          refine vp_callSi (va_runV (As := [.int (nI i)]) (rest := []) ⟨hx, hb, hml, hown, hts⟩ (c_X0_hasHighBudget l dC dI cy (o 0) bc G (nI n) sc  i (by omega)) (cwV 1 hts gX4_utilization_X0_hasHighBudget rfl rfl rfl (by decide +kernel) ⟨Nat.le_of_ble_eq_true rfl, Nat.le_of_ble_eq_true rfl⟩) ⟨bl_ro, va_recv hK (hP.sub (ws' := wCfg cy (o 0) bc G (nI n) sc) [1, 2, 3, 4, 5, 6, 7, 8] rfl) (ci := 0) (q0 := 0) rfl rfl, pr_ro (hP.sub (ws' := wCfg cy (o 0) bc G (nI n) sc) [1, 2, 3, 4, 5, 6, 7, 8] rfl) hE⟩ rfl rfl hl.1 rfl (lv_room (Nat.le_of_ble_eq_true rfl)) dX4_utilization_59 ⟨Nat.le_of_ble_eq_true rfl, Nat.le_of_ble_eq_true rfl⟩).run (fun r e_r => ?_)
          subst e_r
          refine lv_if_eq (tgt := 90) hx hb dX4_utilization_62 (by decide) (fun c_62 => ?_) (fun c_62 => ?_)
          · refine lv_iinc (v := nI (i + 1)) (lv' := [(4, .int (nI (i + 1))), (0, .ref d0), (1, .int p0), (2, .double sm)]) hx hb dX4_utilization_90 hl (k := 3) rfl (nI_1 _) (by decide) rfl (fun ls hl => ?_)
            refine lv_goto (tgt := 9) hx hb dX4_utilization_93 (by decide) ?_
            exact ih9 (i + 1) _ ls (by omega) (by omega) (by rw [es]; simp only [utl, if_neg c_22, if_pos (b01.mp c_62)]) (lv_sub hl [1, 2, 3, 0] rfl)
          · have hh : ¬ G 3 i ≤ 0 := fun h => c_62 (b01.mpr h)
            refine lv_dload_n hx hb dX4_utilization_65 rfl (lv_at hl 2 rfl) ?_
            refine lv_aload_n hx hb dX4_utilization_66 rfl (lv_at hl 0 rfl) ?_
            refine va_get (D := (dC, dI)) (ci := 4) (v := .ref (o 0)) (C := RX4) (T := TX4) (N := 12) hx hb hts hin4 hown hK hP 0 rfl rfl 0 (by decide) f_12 (fun _ h9 => h9) rfl dX4_utilization_67 ?_
            refine va_getN (D := (dC, dI)) (ci := 0) (v := .ref (bc 3)) (C := RX0) (T := TX0) (N := 9) hx hb hts hin0 hown hK hP 1 rfl rfl 3 (by decide) f_182 (fun _ h9 => h9) rfl dX4_utilization_70 ?_
            refine lv_iload hx hb dX4_utilization_73 (lv_at hl 3 rfl) ?_
            refine wI_alv (v := G 3 i) hx hb hK hP 5 0 rfl rfl i rfl (by omega) (by decide) rfl dX4_utilization_75 ?_
            refine lv_i2d hx hb dX4_utilization_76 ?_
            refine lv_aload_n hx hb dX4_utilization_77 rfl (lv_at hl 0 rfl) ?_
            refine va_get (D := (dC, dI)) (ci := 4) (v := .ref (o 0)) (C := RX4) (T := TX4) (N := 12) hx hb hts hin4 hown hK hP 0 rfl rfl 0 (by decide) f_12 (fun _ h9 => h9) rfl dX4_utilization_78 ?_
            refine lv_iload hx hb dX4_utilization_81 (lv_at hl 3 rfl) ?_
            refine vp_callSi (va_runV (As := [.int (nI i)]) (rest := [.double (FP.i2d (G 3 i)), .double sm]) ⟨hx, hb, hml, hown, hts⟩ (c_X0_effectivePeriod l dC dI cy (o 0) bc G (nI n) sc  i (by omega)) (cwV 1 hts gX4_utilization_X0_effectivePeriod rfl rfl rfl (by decide +kernel) ⟨Nat.le_of_ble_eq_true rfl, Nat.le_of_ble_eq_true rfl⟩) ⟨bl_ro, va_recv hK (hP.sub (ws' := wCfg cy (o 0) bc G (nI n) sc) [1, 2, 3, 4, 5, 6, 7, 8] rfl) (ci := 0) (q0 := 0) rfl rfl, pr_ro (hP.sub (ws' := wCfg cy (o 0) bc G (nI n) sc) [1, 2, 3, 4, 5, 6, 7, 8] rfl) hE⟩ rfl rfl hl.1 rfl (lv_room (Nat.le_of_ble_eq_true rfl)) dX4_utilization_83 ⟨Nat.le_of_ble_eq_true rfl, Nat.le_of_ble_eq_true rfl⟩).run (fun r e_r => ?_)
            subst e_r
            refine lv_i2d hx hb dX4_utilization_86 ?_
            refine lv_ddiv hx hb dX4_utilization_87 (nn64 (pn64_fin (qhi hG hlt hh))) ?_
            refine lv_dadd hx hb dX4_utilization_88 (utl_st2 hG hn hlt es c_22 hh) ?_
            refine lv_dstore_n (lv' := [(2, .double (FP.dadd sm (FP.ddiv (FP.i2d (G 3 i)) (FP.i2d (per G i))))), (0, .ref d0), (1, .int p0), (4, .int (nI i))]) hx hb dX4_utilization_89 rfl hl (by decide) rfl (fun ls hl => ?_)
            refine lv_iinc (v := nI (i + 1)) (lv' := [(4, .int (nI (i + 1))), (2, .double (FP.dadd sm (FP.ddiv (FP.i2d (G 3 i)) (FP.i2d (per G i))))), (0, .ref d0), (1, .int p0)]) hx hb dX4_utilization_90 hl (k := 3) rfl (nI_1 _) (by decide) rfl (fun ls hl => ?_)
            refine lv_goto (tgt := 9) hx hb dX4_utilization_93 (by decide) ?_
            exact ih9 (i + 1) _ ls (by omega) (by omega) (by rw [es]; simp only [utl, if_neg c_22, if_neg hh]) (lv_sub hl [2, 3, 1, 0] rfl)
        · refine lv_dload_n hx hb dX4_utilization_25 rfl (lv_at hl 2 rfl) ?_
          refine lv_aload_n hx hb dX4_utilization_26 rfl (lv_at hl 0 rfl) ?_
          refine va_get (D := (dC, dI)) (ci := 4) (v := .ref (o 0)) (C := RX4) (T := TX4) (N := 12) hx hb hts hin4 hown hK hP 0 rfl rfl 0 (by decide) f_12 (fun _ h9 => h9) rfl dX4_utilization_27 ?_
          refine va_getN (D := (dC, dI)) (ci := 0) (v := .ref (bc 2)) (C := RX0) (T := TX0) (N := 9) hx hb hts hin0 hown hK hP 1 rfl rfl 2 (by decide) f_170 (fun _ h9 => h9) rfl dX4_utilization_30 ?_
          refine lv_iload hx hb dX4_utilization_33 (lv_at hl 3 rfl) ?_
          refine wI_alv (v := G 2 i) hx hb hK hP 4 0 rfl rfl i rfl (by omega) (by decide) rfl dX4_utilization_35 ?_
          refine lv_i2d hx hb dX4_utilization_36 ?_
          refine lv_aload_n hx hb dX4_utilization_37 rfl (lv_at hl 0 rfl) ?_
          refine va_get (D := (dC, dI)) (ci := 4) (v := .ref (o 0)) (C := RX4) (T := TX4) (N := 12) hx hb hts hin4 hown hK hP 0 rfl rfl 0 (by decide) f_12 (fun _ h9 => h9) rfl dX4_utilization_38 ?_
          refine lv_iload hx hb dX4_utilization_41 (lv_at hl 3 rfl) ?_
          refine vp_callSi (va_runV (As := [.int (nI i)]) (rest := [.double (FP.i2d (G 2 i)), .double sm]) ⟨hx, hb, hml, hown, hts⟩ (c_X0_effectivePeriod l dC dI cy (o 0) bc G (nI n) sc  i (by omega)) (cwV 1 hts gX4_utilization_X0_effectivePeriod rfl rfl rfl (by decide +kernel) ⟨Nat.le_of_ble_eq_true rfl, Nat.le_of_ble_eq_true rfl⟩) ⟨bl_ro, va_recv hK (hP.sub (ws' := wCfg cy (o 0) bc G (nI n) sc) [1, 2, 3, 4, 5, 6, 7, 8] rfl) (ci := 0) (q0 := 0) rfl rfl, pr_ro (hP.sub (ws' := wCfg cy (o 0) bc G (nI n) sc) [1, 2, 3, 4, 5, 6, 7, 8] rfl) hE⟩ rfl rfl hl.1 rfl (lv_room (Nat.le_of_ble_eq_true rfl)) dX4_utilization_43 ⟨Nat.le_of_ble_eq_true rfl, Nat.le_of_ble_eq_true rfl⟩).run (fun r e_r => ?_)
          subst e_r
          refine lv_i2d hx hb dX4_utilization_46 ?_
          refine lv_ddiv hx hb dX4_utilization_47 (nn64 (pn64_fin (qlo hG hlt))) ?_
          refine lv_dadd hx hb dX4_utilization_48 (utl_st hG hn hlt es c_22) ?_
          refine lv_dstore_n (lv' := [(2, .double (FP.dadd sm (FP.ddiv (FP.i2d (G 2 i)) (FP.i2d (per G i))))), (0, .ref d0), (1, .int p0), (4, .int (nI i))]) hx hb dX4_utilization_49 rfl hl (by decide) rfl (fun ls hl => ?_)
          refine lv_goto (tgt := 90) hx hb dX4_utilization_50 (by decide) ?_
          refine lv_iinc (v := nI (i + 1)) (lv' := [(4, .int (nI (i + 1))), (2, .double (FP.dadd sm (FP.ddiv (FP.i2d (G 2 i)) (FP.i2d (per G i))))), (0, .ref d0), (1, .int p0)]) hx hb dX4_utilization_90 hl (k := 3) rfl (nI_1 _) (by decide) rfl (fun ls hl => ?_)
          refine lv_goto (tgt := 9) hx hb dX4_utilization_93 (by decide) ?_
          exact ih9 (i + 1) _ ls (by omega) (by omega) (by rw [es]; simp only [utl, if_pos c_22]) (lv_sub hl [2, 3, 1, 0] rfl)
  exact loop9 (n + 1) 0 _ ls (Nat.zero_le _) (by omega) rfl (lv_sub hl [2, 3, 1, 0] rfl)
set_option maxHeartbeats 1000000 in
set_option maxRecDepth 100000 in
/-- utilizationBits -/
theorem c_X4_utilizationBits (l : Launch) (hst : l.stackTraces = false) (dC : Nat → ClassId) (dI : Nat → Nat → Nat) (cy : Nat → ClassId) (sz : Nat) (d0 : Nat) (o : Nat → Nat) (F : Nat → Int32) (bc : Nat → Nat) (G : vG) (n : Nat) (hn : n ≤ 8) (sc : Int32) (hG : okG G n) (p0 : Int32) : vx_Met l yX4_utilizationBits wsX4_utilizationBits ({ frames := 8, cells := 1, slots := 6, locals := 126 }) (va_Pc [.ref d0, .int p0] (pR dC dI cy (wObj d0 o F ++ (wCfg cy (o 0) bc G (nI n) sc)) sz)) (va_Ql (fun (r : Int64) (_ : Unit) => cM p0 = 0 ∧ r = (utl G p0 n).toInt64) (fun (_ : Unit) (_ : State) => True) (fun q => sz ≤ q)) (vx_X (fun (_ : Unit) => True) (fun (E : String) (_ : Unit) (_ : State) => E = "java/lang/IllegalArgumentException" ∧ cM p0 = 1) (fun q => sz ≤ q)) 1 6 (fun q => sz ≤ q) := by
  refine vx_ofW (cc := cX4_utilizationBits) (maxL := 2) (ret := some .long) (by decide) rfl ?_
  intro p e s m args below meth c s₁ B hml hnt hv
  obtain ⟨rfl, hsz, hP, hE, hX, hZ⟩ := hv
  have hK := hE.1
  subst hsz
  have hS : va_S (fun q => s.heap.size ≤ q) s.heap s.heap [] := va_S.rf
  have hA : ∀ q : Nat, s.heap.size ≤ q → (fun q => s.heap.size ≤ q) q := fun q h => h
  have hP : va_P (dC, dI) vwCl (wObj d0 o F ++ (wCfg cy (o 0) bc G (nI n) sc)) s.heap := hP
  have hx := B.exec
  have hb := B.bytes
  have hr := B.returns
  have hts := atoms_spec (ws := wsX4_utilizationBits) B.pre
  have hown : s.vm.findClass RX4 = some m.cls := findClass_of_methodNamed B.named
  have hlocks := B.notSynchronized
  have hl := lv_entry ([.ref d0, .int p0]) (n := 2) (Nat.le_of_ble_eq_true rfl)
  rw [lg_entry_eq]
  generalize (lg_sl ([.ref d0, .int p0]) ++ List.replicate (2 - (lg_sl ([.ref d0, .int p0])).length) Slot.unset).toArray = ls at hl ⊢
  have hl : lv_has ls 2 [(0, .ref d0), (1, .int p0)] := hl
  refine lv_aload_n hx hb dX4_utilizationBits_0 rfl (lv_at hl 0 rfl) ?_
  refine lv_iload_n hx hb dX4_utilizationBits_1 rfl (lv_at hl 1 rfl) ?_
  refine vx_calld (vx_runV (As := [.int p0]) (rest := []) ⟨hx, hb, hml, hown, hts⟩ (c_X4_utilization l hst dC dI cy s.heap.size d0 o F bc G n hn sc hG p0) (cwV 1 hts gX4_utilizationBits_X4_utilization rfl rfl rfl (by decide +kernel) ⟨Nat.le_of_ble_eq_true rfl, Nat.le_of_ble_eq_true rfl⟩) ⟨bl_R, va_recv hK hP (ci := 4) (q0 := 0) rfl rfl, pr_R hP hE hX hZ hS hA⟩ rfl rfl hl.1 rfl (lv_room (Nat.le_of_ble_eq_true rfl)) dX4_utilizationBits_2 ⟨Nat.le_of_ble_eq_true rfl, Nat.le_of_ble_eq_true rfl⟩) hS (fun q _ h => hA q (Nat.le_trans hS.1 h)) (fun q h => hA q (Nat.le_trans hS.1 h)) (fun q _ h => hA q (Nat.le_trans hS.1 h)) (fun E ce q9 u t H1 locs ht hvm hpx hBX hz1 hk1 hS hce hcv hcl => ?_) (fun r u t H1 locs ht hvm hw hB hz1 hk1 hS => ?_)
  · exact vx_out (fun x hx9 => (hnt x hx9).elim) hlocks hce hcv hcl (fun t ht hvm => ⟨(), trivial, hBX, hS.F ht⟩) hS.2.2 (Nat.le_of_ble_eq_true rfl) (Nat.le_of_ble_eq_true rfl)
  obtain ⟨hm9, rfl⟩ := hw
  have hP : va_P (dC, dI) vwCl (wObj d0 o F ++ (wCfg cy (o 0) bc G (nI n) sc)) H1 := hP.kept (fun k q hk => hk1 q.1 ((hP k q hk).lt) (Nat.not_le.mpr ((hP k q hk).lt)))
  clear hz1 hk1
  generalize H1 = H at hP hS ⊢
  refine vp_callSl (va_runS (As := [.double (utl G p0 n)]) (rest := []) ⟨hx, hb, hml, hown, hts⟩ (c_X4_doubleBits l (utl G p0 n) (utl_pn hG hn (Nat.le_refl n))) (cwS 1 hts gX4_utilizationBits_X4_doubleBits rfl rfl rfl (by decide +kernel) ⟨Nat.le_of_ble_eq_true rfl, Nat.le_of_ble_eq_true rfl⟩) ⟨fun a U g mk q => q, fun U hU hW => ⟨rfl, trivial⟩⟩ rfl rfl hl.1 rfl (lv_room (Nat.le_of_ble_eq_true rfl)) dX4_utilizationBits_5 ⟨Nat.le_of_ble_eq_true rfl, Nat.le_of_ble_eq_true rfl⟩).run (fun r e_r => ?_)
  subst e_r
  refine vx_ret ?_
  refine W.widen (k := 1) (n := 6) (Nat.le_of_ble_eq_true rfl) (Nat.le_of_ble_eq_true rfl) ?_
  exact W.lret (v := (utl G p0 n).toInt64) hx hb hr (fun t ht hW => ⟨⟨(utl G p0 n).toInt64, (), rfl, ⟨hm9, rfl⟩, trivial⟩, hS.F ht⟩) hS.2.2 dX4_utilizationBits_8
set_option maxHeartbeats 1000000 in
set_option maxRecDepth 100000 in
/-- load -/
theorem c_X4_load (l : Launch) (hst : l.stackTraces = false) (dC : Nat → ClassId) (dI : Nat → Nat → Nat) (cy : Nat → ClassId) (sz : Nat) (d0 : Nat) (o : Nat → Nat) (F : Nat → Int32) (bc : Nat → Nat) (G : vG) (n : Nat) (hn : n ≤ 8) (sc : Int32) (hd0 : dok G n sc 0) (hd1 : dok G n sc 1) (p0 : Int32) : vx_Met l yX4_load wsX4_load ({ frames := 7, cells := 1, slots := 6, locals := 102 }) (va_Pc [.ref d0, .int p0] (pR dC dI cy (wObj d0 o F ++ (wCfg cy (o 0) bc G (nI n) sc)) sz)) (va_Qf (fun (r : UInt32) (_ : Unit) => cM p0 = 0 ∧ r = lod G n sc p0) (fun (_ : Unit) (_ : State) => True) (fun q => sz ≤ q)) (vx_X (fun (_ : Unit) => True) (fun (E : String) (_ : Unit) (_ : State) => E = "java/lang/IllegalArgumentException" ∧ cM p0 = 1) (fun q => sz ≤ q)) 1 6 (fun q => sz ≤ q) := by
  refine vx_ofW (cc := cX4_load) (maxL := 5) (ret := some .float) (by decide) rfl ?_
  intro p e s m args below meth c s₁ B hml hnt hv
  obtain ⟨rfl, hsz, hP, hE, hX, hZ⟩ := hv
  have hK := hE.1
  subst hsz
  have hS : va_S (fun q => s.heap.size ≤ q) s.heap s.heap [] := va_S.rf
  have hA : ∀ q : Nat, s.heap.size ≤ q → (fun q => s.heap.size ≤ q) q := fun q h => h
  have hP : va_P (dC, dI) vwCl (wObj d0 o F ++ (wCfg cy (o 0) bc G (nI n) sc)) s.heap := hP
  have hx := B.exec
  have hb := B.bytes
  have hr := B.returns
  have hts := atoms_spec (ws := wsX4_load) B.pre
  have hown : s.vm.findClass RX4 = some m.cls := findClass_of_methodNamed B.named
  have hlocks := B.notSynchronized
  have hin0 : ∀ w ∈ u_ws RX0 TX0 9, w ∈ wsX4_load := by decide +kernel
  have hin4 : ∀ w ∈ u_ws RX4 TX4 12, w ∈ wsX4_load := by decide +kernel
  have f_12 := hts (.fieldLink RX4 12 "DeadlineAdmission" "current" "LDeadlineAdmission$Configuration;") (by decide +kernel)
  have f_154 := va_Nw.use (A := ([.ref d0, .int p0].toArray)) rfl (hE.f 12 rfl)
  have hl := lv_entry ([.ref d0, .int p0]) (n := 5) (Nat.le_of_ble_eq_true rfl)
  rw [lg_entry_eq]
  generalize (lg_sl ([.ref d0, .int p0]) ++ List.replicate (5 - (lg_sl ([.ref d0, .int p0])).length) Slot.unset).toArray = ls at hl ⊢
  have hl : lv_has ls 5 [(0, .ref d0), (1, .int p0)] := hl
  refine lv_iload_n hx hb dX4_load_0 rfl (lv_at hl 1 rfl) ?_
  have hP0 : va_P (dC, dI) vwCl [] s.heap := fun k q h => by simp at h
  refine vx_callv (vx_runS (As := [.int p0]) (rest := []) ⟨hx, hb, hml, hown, hts⟩ (c_X4_requireMode l hst dC dI cy s.heap.size p0) (cwS 1 hts gX4_load_X4_requireMode rfl rfl rfl (by decide +kernel) ⟨Nat.le_of_ble_eq_true rfl, Nat.le_of_ble_eq_true rfl⟩) ⟨bl_R, pr_R hP0 hE hX hZ hS hA⟩ rfl rfl hl.1 rfl (lv_room (Nat.le_of_ble_eq_true rfl)) dX4_load_1 ⟨Nat.le_of_ble_eq_true rfl, Nat.le_of_ble_eq_true rfl⟩) hS (fun q _ h => hA q (Nat.le_trans hS.1 h)) (fun q h => hA q (Nat.le_trans hS.1 h)) (fun q _ h => hA q (Nat.le_trans hS.1 h)) (fun E ce q9 u t H1 locs ht hvm hpx hBX hz1 hk1 hS hce hcv hcl => ?_) (fun u t H1 locs ht hvm hw hB hz1 hk1 hS => ?_)
  · exact vx_out (fun x hx9 => (hnt x hx9).elim) hlocks hce hcv hcl (fun t ht hvm => ⟨(), trivial, hBX, hS.F ht⟩) hS.2.2 (Nat.le_of_ble_eq_true rfl) (Nat.le_of_ble_eq_true rfl)
  have hm9 := hw
  have hP : va_P (dC, dI) vwCl (wObj d0 o F ++ (wCfg cy (o 0) bc G (nI n) sc)) H1 := hP.kept (fun k q hk => hk1 q.1 ((hP k q hk).lt) (Nat.not_le.mpr ((hP k q hk).lt)))
  clear hz1 hk1
  generalize H1 = H at hP hS ⊢
  refine lv_fconst0 hx hb dX4_load_4 ?_
  refine lv_fstore_n (lv' := [(2, .float FP.fconst0), (0, .ref d0), (1, .int p0)]) hx hb dX4_load_5 rfl hl (by decide) rfl (fun ls hl => ?_)
  refine lv_iconst (v := 1) hx hb dX4_load_6 (by decide) ?_
  refine lv_istore_n (lv' := [(3, .int 1), (2, .float FP.fconst0), (0, .ref d0), (1, .int p0)]) hx hb dX4_load_7 rfl hl (by decide) rfl (fun ls hl => ?_)
  have loop8 : ∀ (k : Nat) (j : Nat) (t : Nat) (g : UInt32) (ls : Array Slot), t + j = 201 → 1 ≤ t → j < k → ldr (tdem G n sc p0) j t g = lod G n sc p0 → lv_has ls 5 [(0, .ref d0), (1, .int p0), (2, .float g), (3, .int (nI t))] → W p l e (headSpec wsX4_load ({ frames := 7, cells := 1, slots := 6, locals := 102 }) |>.room) s m (([.ref d0, .int p0].toArray)) below meth c H locs 1 6 (vx_MQ below (va_Qf (fun (r : UInt32) (_ : Unit) => cM p0 = 0 ∧ r = lod G n sc p0) (fun (_ : Unit) (_ : State) => True) (fun q => s.heap.size ≤ q)) (vx_X (fun (_ : Unit) => True) (fun (E : String) (_ : Unit) (_ : State) => E = "java/lang/IllegalArgumentException" ∧ cM p0 = 1) (fun q => s.heap.size ≤ q)) ([.ref d0, .int p0].toArray) s 1 6 (fun q => s.heap.size ≤ q)) (F0 m 8 ls []) := by
    intro k
    induction k with
    | zero =>
      intro j t g ls hi ht1 hk ef
      exfalso; omega
    | succ k ih8 =>
      intro j t g ls hi ht1 hk ef hl
      refine lv_iload_n hx hb dX4_load_8 rfl (lv_at hl 3 rfl) ?_
      refine lv_sipush (v := 200) hx hb dX4_load_9 (by decide) ?_
      refine lv_icmp_gt (tgt := 53) hx hb dX4_load_12 (by decide) (fun c_12 => ?_) (fun c_12 => ?_)
      · have e_j : j = 0 := by have := (nI_ltI (a := 200) (b := t) (by omega) (by omega)).mp c_12; omega
        refine lv_fload_n hx hb dX4_load_53 rfl (lv_at hl 2 rfl) ?_
        refine vx_ret ?_
        refine W.widen (k := 1) (n := 6) (Nat.le_of_ble_eq_true rfl) (Nat.le_of_ble_eq_true rfl) ?_
        exact W.fret (v := g) hx hb hr (fun t ht hW => ⟨⟨g, (), rfl, ⟨hm9, by rw [← ef, e_j]; rfl⟩, trivial⟩, hS.F ht⟩) hS.2.2 dX4_load_54
      · obtain ⟨j, rfl⟩ : ∃ z, j = z + 1 := ⟨j - 1, by have h : ¬ (200 < t) := fun h => c_12 ((nI_ltI (a := 200) (b := t) (by omega) (by omega)).mpr h); omega⟩
        refine lv_aload_n hx hb dX4_load_15 rfl (lv_at hl 0 rfl) ?_
        refine va_get (D := (dC, dI)) (ci := 4) (v := .ref (o 0)) (C := RX4) (T := TX4) (N := 12) hx hb hts hin4 hown hK hP 0 rfl rfl 0 (by decide) f_12 (fun _ h9 => h9) rfl dX4_load_16 ?_
        refine lv_iload_n hx hb dX4_load_19 rfl (lv_at hl 1 rfl) ?_
        refine lv_iload_n hx hb dX4_load_20 rfl (lv_at hl 3 rfl) ?_
        refine lv_aload_n hx hb dX4_load_21 rfl (lv_at hl 0 rfl) ?_
        refine va_get (D := (dC, dI)) (ci := 4) (v := .ref (o 0)) (C := RX4) (T := TX4) (N := 12) hx hb hts hin4 hown hK hP 0 rfl rfl 0 (by decide) f_12 (fun _ h9 => h9) rfl dX4_load_22 ?_
        refine va_getN (D := (dC, dI)) (ci := 0) (v := .int sc) (C := RX0) (T := TX0) (N := 9) hx hb hts hin0 hown hK hP 1 rfl rfl 8 (by decide) f_154 (fun _ h9 => h9) rfl dX4_load_25 ?_
        refine vp_callSi (va_runV (As := [.int p0, .int (nI t), .int sc]) (rest := []) ⟨hx, hb, hml, hown, hts⟩ (c_X0_totalDemand l dC dI cy (o 0) bc G n hn sc p0 (nI t) sc) (cwV 3 hts gX4_load_X0_totalDemand rfl rfl rfl (by decide +kernel) ⟨Nat.le_of_ble_eq_true rfl, Nat.le_of_ble_eq_true rfl⟩) ⟨bl_ro, va_recv hK (hP.sub (ws' := wCfg cy (o 0) bc G (nI n) sc) [1, 2, 3, 4, 5, 6, 7, 8] rfl) (ci := 0) (q0 := 0) rfl rfl, pr_ro (hP.sub (ws' := wCfg cy (o 0) bc G (nI n) sc) [1, 2, 3, 4, 5, 6, 7, 8] rfl) hE⟩ rfl rfl hl.1 rfl (lv_room (Nat.le_of_ble_eq_true rfl)) dX4_load_28 ⟨Nat.le_of_ble_eq_true rfl, Nat.le_of_ble_eq_true rfl⟩).run (fun r e_r => ?_)
        subst e_r
        refine lv_i2f hx hb dX4_load_31 ?_
        refine lv_iload_n hx hb dX4_load_32 rfl (lv_at hl 3 rfl) ?_
        refine lv_i2f hx hb dX4_load_33 ?_
        refine lv_fdiv hx hb dX4_load_34 (nn32 (pn32_fin (ldq (dok_m hd0 hd1 hm9) ht1 (by omega)))) ?_
        refine lv_fstore (lv' := [(4, .float (FP.fdiv (FP.i2f (tdem G n sc p0 (nI t))) (FP.i2f (nI t)))), (0, .ref d0), (1, .int p0), (2, .float g), (3, .int (nI t))]) hx hb dX4_load_35 hl (by decide) rfl (fun ls hl => ?_)
        refine lv_fload hx hb dX4_load_37 (lv_at hl 0 rfl) ?_
        refine lv_fload_n hx hb dX4_load_39 rfl (lv_at hl 3 rfl) ?_
        refine lv_fcmp hx hb dX4_load_40 ?_
        refine lv_if_le (tgt := 47) hx hb dX4_load_41 (by decide) (fun c_41 => ?_) (fun c_41 => ?_)
        · refine lv_iinc (v := nI (t + 1)) (lv' := [(3, .int (nI (t + 1))), (4, .float (FP.fdiv (FP.i2f (tdem G n sc p0 (nI t))) (FP.i2f (nI t)))), (0, .ref d0), (1, .int p0), (2, .float g)]) hx hb dX4_load_47 hl (k := 4) rfl (nI_1 _) (by decide) rfl (fun ls hl => ?_)
          refine lv_goto (tgt := 8) hx hb dX4_load_50 (by decide) ?_
          exact ih8 j (t + 1) _ ls (by omega) (by omega) (by omega) (by rw [← ef, ldr, if_pos c_41]) (lv_sub hl [2, 3, 4, 0] rfl)
        · refine lv_fload hx hb dX4_load_44 (lv_at hl 0 rfl) ?_
          refine lv_fstore_n (lv' := [(2, .float (FP.fdiv (FP.i2f (tdem G n sc p0 (nI t))) (FP.i2f (nI t)))), (4, .float (FP.fdiv (FP.i2f (tdem G n sc p0 (nI t))) (FP.i2f (nI t)))), (0, .ref d0), (1, .int p0), (3, .int (nI t))]) hx hb dX4_load_46 rfl hl (by decide) rfl (fun ls hl => ?_)
          refine lv_iinc (v := nI (t + 1)) (lv' := [(3, .int (nI (t + 1))), (2, .float (FP.fdiv (FP.i2f (tdem G n sc p0 (nI t))) (FP.i2f (nI t)))), (4, .float (FP.fdiv (FP.i2f (tdem G n sc p0 (nI t))) (FP.i2f (nI t)))), (0, .ref d0), (1, .int p0)]) hx hb dX4_load_47 hl (k := 4) rfl (nI_1 _) (by decide) rfl (fun ls hl => ?_)
          refine lv_goto (tgt := 8) hx hb dX4_load_50 (by decide) ?_
          exact ih8 j (t + 1) _ ls (by omega) (by omega) (by omega) (by rw [← ef, ldr, if_neg c_41]) (lv_sub hl [3, 4, 1, 0] rfl)
  exact loop8 201 200 1 _ ls rfl (Nat.le_refl _) (by omega) rfl (lv_sub hl [2, 3, 1, 0] rfl)
set_option maxHeartbeats 1000000 in
set_option maxRecDepth 100000 in
/-- loadBits -/
theorem c_X4_loadBits (l : Launch) (hst : l.stackTraces = false) (dC : Nat → ClassId) (dI : Nat → Nat → Nat) (cy : Nat → ClassId) (sz : Nat) (d0 : Nat) (o : Nat → Nat) (F : Nat → Int32) (bc : Nat → Nat) (G : vG) (n : Nat) (hn : n ≤ 8) (sc : Int32) (hd0 : dok G n sc 0) (hd1 : dok G n sc 1) (p0 : Int32) : vx_Met l yX4_loadBits wsX4_loadBits ({ frames := 8, cells := 1, slots := 6, locals := 126 }) (va_Pc [.ref d0, .int p0] (pR dC dI cy (wObj d0 o F ++ (wCfg cy (o 0) bc G (nI n) sc)) sz)) (va_Qi (fun (r : Int32) (_ : Unit) => cM p0 = 0 ∧ r = (lod G n sc p0).toInt32) (fun (_ : Unit) (_ : State) => True) (fun q => sz ≤ q)) (vx_X (fun (_ : Unit) => True) (fun (E : String) (_ : Unit) (_ : State) => E = "java/lang/IllegalArgumentException" ∧ cM p0 = 1) (fun q => sz ≤ q)) 1 6 (fun q => sz ≤ q) := by
  refine vx_ofW (cc := cX4_loadBits) (maxL := 2) (ret := some .int) (by decide) rfl ?_
  intro p e s m args below meth c s₁ B hml hnt hv
  obtain ⟨rfl, hsz, hP, hE, hX, hZ⟩ := hv
  have hK := hE.1
  subst hsz
  have hS : va_S (fun q => s.heap.size ≤ q) s.heap s.heap [] := va_S.rf
  have hA : ∀ q : Nat, s.heap.size ≤ q → (fun q => s.heap.size ≤ q) q := fun q h => h
  have hP : va_P (dC, dI) vwCl (wObj d0 o F ++ (wCfg cy (o 0) bc G (nI n) sc)) s.heap := hP
  have hx := B.exec
  have hb := B.bytes
  have hr := B.returns
  have hts := atoms_spec (ws := wsX4_loadBits) B.pre
  have hown : s.vm.findClass RX4 = some m.cls := findClass_of_methodNamed B.named
  have hlocks := B.notSynchronized
  have hl := lv_entry ([.ref d0, .int p0]) (n := 2) (Nat.le_of_ble_eq_true rfl)
  rw [lg_entry_eq]
  generalize (lg_sl ([.ref d0, .int p0]) ++ List.replicate (2 - (lg_sl ([.ref d0, .int p0])).length) Slot.unset).toArray = ls at hl ⊢
  have hl : lv_has ls 2 [(0, .ref d0), (1, .int p0)] := hl
  refine lv_aload_n hx hb dX4_loadBits_0 rfl (lv_at hl 0 rfl) ?_
  refine lv_iload_n hx hb dX4_loadBits_1 rfl (lv_at hl 1 rfl) ?_
  refine vx_callf (vx_runV (As := [.int p0]) (rest := []) ⟨hx, hb, hml, hown, hts⟩ (c_X4_load l hst dC dI cy s.heap.size d0 o F bc G n hn sc hd0 hd1 p0) (cwV 1 hts gX4_loadBits_X4_load rfl rfl rfl (by decide +kernel) ⟨Nat.le_of_ble_eq_true rfl, Nat.le_of_ble_eq_true rfl⟩) ⟨bl_R, va_recv hK hP (ci := 4) (q0 := 0) rfl rfl, pr_R hP hE hX hZ hS hA⟩ rfl rfl hl.1 rfl (lv_room (Nat.le_of_ble_eq_true rfl)) dX4_loadBits_2 ⟨Nat.le_of_ble_eq_true rfl, Nat.le_of_ble_eq_true rfl⟩) hS (fun q _ h => hA q (Nat.le_trans hS.1 h)) (fun q h => hA q (Nat.le_trans hS.1 h)) (fun q _ h => hA q (Nat.le_trans hS.1 h)) (fun E ce q9 u t H1 locs ht hvm hpx hBX hz1 hk1 hS hce hcv hcl => ?_) (fun r u t H1 locs ht hvm hw hB hz1 hk1 hS => ?_)
  · exact vx_out (fun x hx9 => (hnt x hx9).elim) hlocks hce hcv hcl (fun t ht hvm => ⟨(), trivial, hBX, hS.F ht⟩) hS.2.2 (Nat.le_of_ble_eq_true rfl) (Nat.le_of_ble_eq_true rfl)
  obtain ⟨hm9, rfl⟩ := hw
  have hP : va_P (dC, dI) vwCl (wObj d0 o F ++ (wCfg cy (o 0) bc G (nI n) sc)) H1 := hP.kept (fun k q hk => hk1 q.1 ((hP k q hk).lt) (Nat.not_le.mpr ((hP k q hk).lt)))
  clear hz1 hk1
  generalize H1 = H at hP hS ⊢
  refine vp_callSi (va_runS (As := [.float (lod G n sc p0)]) (rest := []) ⟨hx, hb, hml, hown, hts⟩ (c_X4_floatBits l (lod G n sc p0) (lod_pn (dok_m hd0 hd1 hm9))) (cwS 1 hts gX4_loadBits_X4_floatBits rfl rfl rfl (by decide +kernel) ⟨Nat.le_of_ble_eq_true rfl, Nat.le_of_ble_eq_true rfl⟩) ⟨fun a U g mk q => q, fun U hU hW => ⟨rfl, trivial⟩⟩ rfl rfl hl.1 rfl (lv_room (Nat.le_of_ble_eq_true rfl)) dX4_loadBits_5 ⟨Nat.le_of_ble_eq_true rfl, Nat.le_of_ble_eq_true rfl⟩).run (fun r e_r => ?_)
  subst e_r
  refine vx_ret ?_
  refine W.widen (k := 1) (n := 6) (Nat.le_of_ble_eq_true rfl) (Nat.le_of_ble_eq_true rfl) ?_
  exact W.iret (v := (lod G n sc p0).toInt32) hx hb hr (fun t ht hW => ⟨⟨(lod G n sc p0).toInt32, (), rfl, ⟨hm9, rfl⟩, trivial⟩, hS.F ht⟩) hS.2.2 dX4_loadBits_8

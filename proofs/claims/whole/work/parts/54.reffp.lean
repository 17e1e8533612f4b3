/-! PART 54: the reference, utilization and load -/
set_option maxHeartbeats 1000000 in
set_option maxRecDepth 100000 in
/-- utilizationOf -/
theorem c_X5_utilizationOf (l : Launch) (dC : Nat → ClassId) (dI : Nat → Nat → Nat) (cy : Nat → ClassId) (m0 : Nat) (a : Nat → Nat) (I : Nat → Int32) (R : vG) (n : Nat) (hn : n ≤ 8) (hS0 : R 1 0 = nI n) (hG : okG (Gs (R 1)) n) (p0 : Int32) : Met l yX5_utilizationOf wsX5_utilizationOf ({ frames := 1, cells := 0, slots := 0, locals := 21 }) (va_Pc [.ref m0, .int p0] (fun U => va_P (dC, dI) vwCl (wMdl cy m0 a I R) U.heap ∧ EV dC dI cy U)) (vp_Sd (fun r => r = utl (Gs (R 1)) p0 n)) 0 0 (fun _ => False) := by
  refine Met.ofW (cc := cX5_utilizationOf) (maxL := 5) (ret := some .double) (by decide) rfl ?_
  intro p e s m args below meth c s₁ B hml hv
  obtain ⟨rfl, hP, hE⟩ := hv
  have hK := hE.1
  have hx := B.exec
  have hb := B.bytes
  have hr := B.returns
  have hts := atoms_spec (ws := wsX5_utilizationOf) B.pre
  have hown : s.vm.findClass RX5 = some m.cls := findClass_of_methodNamed B.named
  have hlocks := B.notSynchronized
  have hin5 : ∀ w ∈ u_ws RX5 TX5 32, w ∈ wsX5_utilizationOf := by decide +kernel
  have f_9 := hts (.fieldLink RX5 9 "DeadlineAdmissionModel" "s" "[I") (by decide +kernel)
  have hl := lv_entry ([.ref m0, .int p0]) (n := 5) (Nat.le_of_ble_eq_true rfl)
  rw [lg_entry_eq]
  generalize (lg_sl ([.ref m0, .int p0]) ++ List.replicate (5 - (lg_sl ([.ref m0, .int p0])).length) Slot.unset).toArray = ls at hl ⊢
  have hl : lv_has ls 5 [(0, .ref m0), (1, .int p0)] := hl
  refine lv_dconst0 hx hb dX5_utilizationOf_0 ?_
  refine lv_dstore_n (lv' := [(2, .double FP.dconst0), (0, .ref m0), (1, .int p0)]) hx hb dX5_utilizationOf_1 rfl hl (by decide) rfl (fun ls hl => ?_)
  refine lv_iconst (v := 0) hx hb dX5_utilizationOf_2 (by decide) ?_
  refine lv_istore (lv' := [(4, .int 0), (2, .double FP.dconst0), (0, .ref m0), (1, .int p0)]) hx hb dX5_utilizationOf_3 hl (by decide) rfl (fun ls hl => ?_)
  have loop5 : ∀ (k : Nat) (i : Nat) (sm : UInt64) (ls : Array Slot), i ≤ n → n < i + k → sm = utl (Gs (R 1)) p0 i → lv_has ls 5 [(0, .ref m0), (1, .int p0), (2, .double sm), (4, .int (nI i))] → W p l e (headSpec wsX5_utilizationOf ({ frames := 1, cells := 0, slots := 0, locals := 21 }) |>.room) s m (([.ref m0, .int p0].toArray)) below meth c s.heap [] 0 0 (MQ below (vp_Sd (fun r => r = utl (Gs (R 1)) p0 n)) ([.ref m0, .int p0].toArray) s 0 0 (fun _ => False)) (F0 m 5 ls []) := by
    intro k
    induction k with
    | zero =>
      intro i sm ls hi hk es
      exfalso; omega
    | succ k ih5 =>
      intro i sm ls hi hk es hl
      refine lv_iload hx hb dX5_utilizationOf_5 (lv_at hl 3 rfl) ?_
      refine lv_aload_n hx hb dX5_utilizationOf_7 rfl (lv_at hl 0 rfl) ?_
      refine va_get (D := (dC, dI)) (ci := 5) (v := .ref (a 1)) (C := RX5) (T := TX5) (N := 32) hx hb hts hin5 hown hK hP 0 rfl rfl 1 (by decide) f_9 (fun _ h9 => h9) rfl dX5_utilizationOf_8 ?_
      refine lv_iconst (v := 0) hx hb dX5_utilizationOf_11 (by decide) ?_
      refine wI_alv (v := nI n) hx hb hK hP 1 0 rfl rfl 0 rfl (by omega) (by decide) hS0 dX5_utilizationOf_12 ?_
      refine lv_icmp_ge (tgt := 74) hx hb dX5_utilizationOf_13 (by decide) (fun c_13 => ?_) (fun c_13 => ?_)
      · have e_i : i = n := Nat.le_antisymm hi ((nI_leI (by omega) (by omega)).mp c_13)
        refine lv_dload_n hx hb dX5_utilizationOf_74 rfl (lv_at hl 2 rfl) ?_
        exact W.dret (v := sm) hx hb hr (fun t ht hW => ⟨_, rfl, (by rw [es, e_i]), ht⟩) (fun q hq => absurd hq List.not_mem_nil) dX5_utilizationOf_75
      · have hlt : i < n := Nat.lt_of_not_le (fun h => c_13 (nI_le h (by omega)))
        refine lv_iload_n hx hb dX5_utilizationOf_16 rfl (lv_at hl 1 rfl) ?_
        refine lv_if_eq (tgt := 29) hx hb dX5_utilizationOf_17 (by decide) (fun c_17 => ?_) (fun c_17 => ?_)
        · refine lv_dload_n hx hb dX5_utilizationOf_29 rfl (lv_at hl 2 rfl) ?_
          refine lv_iload_n hx hb dX5_utilizationOf_30 rfl (lv_at hl 1 rfl) ?_
          refine lv_if_ne (tgt := 47) hx hb dX5_utilizationOf_31 (by decide) (fun h0 => absurd c_17 h0) (fun c_31 => ?_)
          refine lv_aload_n hx hb dX5_utilizationOf_34 rfl (lv_at hl 0 rfl) ?_
          refine va_get (D := (dC, dI)) (ci := 5) (v := .ref (a 1)) (C := RX5) (T := TX5) (N := 32) hx hb hts hin5 hown hK hP 0 rfl rfl 1 (by decide) f_9 (fun _ h9 => h9) rfl dX5_utilizationOf_35 ?_
          refine lv_bipush (v := 18) hx hb dX5_utilizationOf_38 (by decide) ?_
          refine lv_iload hx hb dX5_utilizationOf_40 (lv_at hl 3 rfl) ?_
          refine lv_iadd hx hb dX5_utilizationOf_42 ?_
          refine wI_alv (v := Gs (R 1) 2 i) hx hb hK hP 1 0 rfl rfl (18 + i) (nadd rfl rfl) (by omega) (by decide) rfl dX5_utilizationOf_43 ?_
          refine lv_goto (tgt := 57) hx hb dX5_utilizationOf_44 (by decide) ?_
          refine lv_i2d hx hb dX5_utilizationOf_57 ?_
          refine lv_aload_n hx hb dX5_utilizationOf_58 rfl (lv_at hl 0 rfl) ?_
          refine lv_iload hx hb dX5_utilizationOf_59 (lv_at hl 3 rfl) ?_
          refine vp_callSi (va_runV (As := [.int (nI i)]) (rest := [.double (FP.i2d (Gs (R 1) 2 i)), .double sm]) ⟨hx, hb, hml, hown, hts⟩ (c_X5_periodOf l dC dI cy m0 a I R  i (by omega) (hG _ hlt)) (cwV 1 hts gX5_utilizationOf_X5_periodOf rfl rfl rfl (by decide +kernel) ⟨Nat.le_of_ble_eq_true rfl, Nat.le_of_ble_eq_true rfl⟩) ⟨bl_ro, va_recv hK hP (ci := 5) (q0 := 0) rfl rfl, pr_ro hP hE⟩ rfl rfl hl.1 rfl (lv_room (Nat.le_of_ble_eq_true rfl)) dX5_utilizationOf_61 ⟨Nat.le_of_ble_eq_true rfl, Nat.le_of_ble_eq_true rfl⟩).run (fun r e_r => ?_)
          subst e_r
          refine lv_i2d hx hb dX5_utilizationOf_64 ?_
          refine lv_ddiv hx hb dX5_utilizationOf_65 (nn64 (pn64_fin (qlo hG hlt))) ?_
          refine lv_dadd hx hb dX5_utilizationOf_66 (utl_st hG hn hlt es c_17) ?_
          refine lv_dstore_n (lv' := [(2, .double (FP.dadd sm (FP.ddiv (FP.i2d (Gs (R 1) 2 i)) (FP.i2d (per (Gs (R 1)) i))))), (0, .ref m0), (1, .int p0), (4, .int (nI i))]) hx hb dX5_utilizationOf_67 rfl hl (by decide) rfl (fun ls hl => ?_)
          refine lv_iinc (v := nI (i + 1)) (lv' := [(4, .int (nI (i + 1))), (2, .double (FP.dadd sm (FP.ddiv (FP.i2d (Gs (R 1) 2 i)) (FP.i2d (per (Gs (R 1)) i))))), (0, .ref m0), (1, .int p0)]) hx hb dX5_utilizationOf_68 hl (k := 3) rfl (nI_1 _) (by decide) rfl (fun ls hl => ?_)
          refine lv_goto (tgt := 5) hx hb dX5_utilizationOf_71 (by decide) ?_
          exact ih5 (i + 1) _ ls (by omega) (by omega) (by rw [es]; simp only [utl, if_pos c_17]) (lv_sub hl [2, 3, 1, 0] rfl)
        · refine lv_aload_n hx hb dX5_utilizationOf_20 rfl (lv_at hl 0 rfl) ?_
          refine lv_iload hx hb dX5_utilizationOf_21 (lv_at hl 3 rfl) ?_
          refine vp_callSi (va_runV (As := [.int (nI i)]) (rest := []) ⟨hx, hb, hml, hown, hts⟩ (c_X5_isHighTask l dC dI cy m0 a I R  i (by omega)) (cwV 1 hts gX5_utilizationOf_X5_isHighTask rfl rfl rfl (by decide +kernel) ⟨Nat.le_of_ble_eq_true rfl, Nat.le_of_ble_eq_true rfl⟩) ⟨bl_ro, va_recv hK hP (ci := 5) (q0 := 0) rfl rfl, pr_ro hP hE⟩ rfl rfl hl.1 rfl (lv_room (Nat.le_of_ble_eq_true rfl)) dX5_utilizationOf_23 ⟨Nat.le_of_ble_eq_true rfl, Nat.le_of_ble_eq_true rfl⟩).run (fun r e_r => ?_)
          subst e_r
          refine lv_if_eq (tgt := 68) hx hb dX5_utilizationOf_26 (by decide) (fun c_26 => ?_) (fun c_26 => ?_)
          · refine lv_iinc (v := nI (i + 1)) (lv' := [(4, .int (nI (i + 1))), (0, .ref m0), (1, .int p0), (2, .double sm)]) hx hb dX5_utilizationOf_68 hl (k := 3) rfl (nI_1 _) (by decide) rfl (fun ls hl => ?_)
            refine lv_goto (tgt := 5) hx hb dX5_utilizationOf_71 (by decide) ?_
            exact ih5 (i + 1) _ ls (by omega) (by omega) (by rw [es]; simp only [utl, if_neg c_17, if_pos (b01.mp c_26)]) (lv_sub hl [1, 2, 3, 0] rfl)
          · have hh : ¬ (Gs (R 1)) 3 i ≤ 0 := fun h => c_26 (b01.mpr h)
            refine lv_dload_n hx hb dX5_utilizationOf_29 rfl (lv_at hl 2 rfl) ?_
            refine lv_iload_n hx hb dX5_utilizationOf_30 rfl (lv_at hl 1 rfl) ?_
            refine lv_if_ne (tgt := 47) hx hb dX5_utilizationOf_31 (by decide) (fun c_31 => ?_) (fun h0 => absurd h0 c_17)
            refine lv_aload_n hx hb dX5_utilizationOf_47 rfl (lv_at hl 0 rfl) ?_
            refine va_get (D := (dC, dI)) (ci := 5) (v := .ref (a 1)) (C := RX5) (T := TX5) (N := 32) hx hb hts hin5 hown hK hP 0 rfl rfl 1 (by decide) f_9 (fun _ h9 => h9) rfl dX5_utilizationOf_48 ?_
            refine lv_bipush (v := 26) hx hb dX5_utilizationOf_51 (by decide) ?_
            refine lv_iload hx hb dX5_utilizationOf_53 (lv_at hl 3 rfl) ?_
            refine lv_iadd hx hb dX5_utilizationOf_55 ?_
            refine wI_alv (v := Gs (R 1) 3 i) hx hb hK hP 1 0 rfl rfl (26 + i) (nadd rfl rfl) (by omega) (by decide) rfl dX5_utilizationOf_56 ?_
            refine lv_i2d hx hb dX5_utilizationOf_57 ?_
            refine lv_aload_n hx hb dX5_utilizationOf_58 rfl (lv_at hl 0 rfl) ?_
            refine lv_iload hx hb dX5_utilizationOf_59 (lv_at hl 3 rfl) ?_
            refine vp_callSi (va_runV (As := [.int (nI i)]) (rest := [.double (FP.i2d (Gs (R 1) 3 i)), .double sm]) ⟨hx, hb, hml, hown, hts⟩ (c_X5_periodOf l dC dI cy m0 a I R  i (by omega) (hG _ hlt)) (cwV 1 hts gX5_utilizationOf_X5_periodOf rfl rfl rfl (by decide +kernel) ⟨Nat.le_of_ble_eq_true rfl, Nat.le_of_ble_eq_true rfl⟩) ⟨bl_ro, va_recv hK hP (ci := 5) (q0 := 0) rfl rfl, pr_ro hP hE⟩ rfl rfl hl.1 rfl (lv_room (Nat.le_of_ble_eq_true rfl)) dX5_utilizationOf_61 ⟨Nat.le_of_ble_eq_true rfl, Nat.le_of_ble_eq_true rfl⟩).run (fun r e_r => ?_)
            subst e_r
            refine lv_i2d hx hb dX5_utilizationOf_64 ?_
            refine lv_ddiv hx hb dX5_utilizationOf_65 (nn64 (pn64_fin (qhi hG hlt hh))) ?_
            refine lv_dadd hx hb dX5_utilizationOf_66 (utl_st2 hG hn hlt es c_17 hh) ?_
            refine lv_dstore_n (lv' := [(2, .double (FP.dadd sm (FP.ddiv (FP.i2d (Gs (R 1) 3 i)) (FP.i2d (per (Gs (R 1)) i))))), (0, .ref m0), (1, .int p0), (4, .int (nI i))]) hx hb dX5_utilizationOf_67 rfl hl (by decide) rfl (fun ls hl => ?_)
            refine lv_iinc (v := nI (i + 1)) (lv' := [(4, .int (nI (i + 1))), (2, .double (FP.dadd sm (FP.ddiv (FP.i2d (Gs (R 1) 3 i)) (FP.i2d (per (Gs (R 1)) i))))), (0, .ref m0), (1, .int p0)]) hx hb dX5_utilizationOf_68 hl (k := 3) rfl (nI_1 _) (by decide) rfl (fun ls hl => ?_)
            refine lv_goto (tgt := 5) hx hb dX5_utilizationOf_71 (by decide) ?_
            exact ih5 (i + 1) _ ls (by omega) (by omega) (by rw [es]; simp only [utl, if_neg c_17, if_neg hh]) (lv_sub hl [2, 3, 1, 0] rfl)
  exact loop5 (n + 1) 0 _ ls (Nat.zero_le _) (by omega) rfl (lv_sub hl [2, 3, 1, 0] rfl)
set_option maxHeartbeats 1000000 in
set_option maxRecDepth 100000 in
/-- loadOf -/
theorem c_X5_loadOf (l : Launch) (dC : Nat → ClassId) (dI : Nat → Nat → Nat) (cy : Nat → ClassId) (m0 : Nat) (a : Nat → Nat) (I : Nat → Int32) (R : vG) (n : Nat) (hn : n ≤ 8) (hS0 : R 1 0 = nI n) (hG : okG (Gs (R 1)) n) (p0 : Int32) (hm : p0 = 0 ∨ p0 = 1) (hdk : dok (Gs (R 1)) n (R 1 1) p0) : Met l yX5_loadOf wsX5_loadOf ({ frames := 4, cells := 0, slots := 0, locals := 94 }) (va_Pc [.ref m0, .int p0] (fun U => va_P (dC, dI) vwCl (wMdl cy m0 a I R) U.heap ∧ EV dC dI cy U)) (vp_Sf (fun r => r = lod (Gs (R 1)) n (R 1 1) p0)) 0 0 (fun _ => False) := by
  refine Met.ofW (cc := cX5_loadOf) (maxL := 5) (ret := some .float) (by decide) rfl ?_
  intro p e s m args below meth c s₁ B hml hv
  obtain ⟨rfl, hP, hE⟩ := hv
  have hK := hE.1
  have hx := B.exec
  have hb := B.bytes
  have hr := B.returns
  have hts := atoms_spec (ws := wsX5_loadOf) B.pre
  have hown : s.vm.findClass RX5 = some m.cls := findClass_of_methodNamed B.named
  have hlocks := B.notSynchronized
  have hl := lv_entry ([.ref m0, .int p0]) (n := 5) (Nat.le_of_ble_eq_true rfl)
  rw [lg_entry_eq]
  generalize (lg_sl ([.ref m0, .int p0]) ++ List.replicate (5 - (lg_sl ([.ref m0, .int p0])).length) Slot.unset).toArray = ls at hl ⊢
  have hl : lv_has ls 5 [(0, .ref m0), (1, .int p0)] := hl
  refine lv_fconst0 hx hb dX5_loadOf_0 ?_
  refine lv_fstore_n (lv' := [(2, .float FP.fconst0), (0, .ref m0), (1, .int p0)]) hx hb dX5_loadOf_1 rfl hl (by decide) rfl (fun ls hl => ?_)
  refine lv_iconst (v := 1) hx hb dX5_loadOf_2 (by decide) ?_
  refine lv_istore_n (lv' := [(3, .int 1), (2, .float FP.fconst0), (0, .ref m0), (1, .int p0)]) hx hb dX5_loadOf_3 rfl hl (by decide) rfl (fun ls hl => ?_)
  have loop4 : ∀ (k : Nat) (j : Nat) (t : Nat) (g : UInt32) (ls : Array Slot), t + j = 201 → 1 ≤ t → j < k → ldr (tdem (Gs (R 1)) n (R 1 1) p0) j t g = lod (Gs (R 1)) n (R 1 1) p0 → lv_has ls 5 [(0, .ref m0), (1, .int p0), (2, .float g), (3, .int (nI t))] → W p l e (headSpec wsX5_loadOf ({ frames := 4, cells := 0, slots := 0, locals := 94 }) |>.room) s m (([.ref m0, .int p0].toArray)) below meth c s.heap [] 0 0 (MQ below (vp_Sf (fun r => r = lod (Gs (R 1)) n (R 1 1) p0)) ([.ref m0, .int p0].toArray) s 0 0 (fun _ => False)) (F0 m 4 ls []) := by
    intro k
    induction k with
    | zero =>
      intro j t g ls hi ht1 hk ef
      exfalso; omega
    | succ k ih4 =>
      intro j t g ls hi ht1 hk ef hl
      refine lv_iload_n hx hb dX5_loadOf_4 rfl (lv_at hl 3 rfl) ?_
      refine lv_sipush (v := 200) hx hb dX5_loadOf_5 (by decide) ?_
      refine lv_icmp_gt (tgt := 43) hx hb dX5_loadOf_8 (by decide) (fun c_8 => ?_) (fun c_8 => ?_)
      · have e_j : j = 0 := by have := (nI_ltI (a := 200) (b := t) (by omega) (by omega)).mp c_8; omega
        refine lv_fload_n hx hb dX5_loadOf_43 rfl (lv_at hl 2 rfl) ?_
        exact W.fret (v := g) hx hb hr (fun t ht hW => ⟨_, rfl, (by rw [← ef, e_j]; rfl), ht⟩) (fun q hq => absurd hq List.not_mem_nil) dX5_loadOf_44
      · obtain ⟨j, rfl⟩ : ∃ z, j = z + 1 := ⟨j - 1, by have h : ¬ (200 < t) := fun h => c_8 ((nI_ltI (a := 200) (b := t) (by omega) (by omega)).mpr h); omega⟩
        refine lv_aload_n hx hb dX5_loadOf_11 rfl (lv_at hl 0 rfl) ?_
        refine lv_iload_n hx hb dX5_loadOf_12 rfl (lv_at hl 1 rfl) ?_
        refine lv_iload_n hx hb dX5_loadOf_13 rfl (lv_at hl 3 rfl) ?_
        refine vp_callSi (va_runV (As := [.int p0, .int (nI t)]) (rest := []) ⟨hx, hb, hml, hown, hts⟩ (c_X5_demandOf l dC dI cy m0 a I R n hn hS0 hG p0 (nI t) hm) (cwV 2 hts gX5_loadOf_X5_demandOf rfl rfl rfl (by decide +kernel) ⟨Nat.le_of_ble_eq_true rfl, Nat.le_of_ble_eq_true rfl⟩) ⟨bl_ro, va_recv hK hP (ci := 5) (q0 := 0) rfl rfl, pr_ro hP hE⟩ rfl rfl hl.1 rfl (lv_room (Nat.le_of_ble_eq_true rfl)) dX5_loadOf_14 ⟨Nat.le_of_ble_eq_true rfl, Nat.le_of_ble_eq_true rfl⟩).run (fun r e_r => ?_)
        subst e_r
        refine lv_i2f hx hb dX5_loadOf_17 ?_
        refine lv_iload_n hx hb dX5_loadOf_18 rfl (lv_at hl 3 rfl) ?_
        refine lv_i2f hx hb dX5_loadOf_19 ?_
        refine lv_fdiv hx hb dX5_loadOf_20 (nn32 (pn32_fin (ldq hdk ht1 (by omega)))) ?_
        refine lv_fstore (lv' := [(4, .float (FP.fdiv (FP.i2f (tdem (Gs (R 1)) n ((R 1) 1) p0 (nI t))) (FP.i2f (nI t)))), (0, .ref m0), (1, .int p0), (2, .float g), (3, .int (nI t))]) hx hb dX5_loadOf_21 hl (by decide) rfl (fun ls hl => ?_)
        refine lv_fload hx hb dX5_loadOf_23 (lv_at hl 0 rfl) ?_
        refine lv_fload_n hx hb dX5_loadOf_25 rfl (lv_at hl 3 rfl) ?_
        refine lv_fcmp hx hb dX5_loadOf_26 ?_
        refine lv_if_le (tgt := 35) hx hb dX5_loadOf_27 (by decide) (fun c_27 => ?_) (fun c_27 => ?_)
        · refine lv_fload_n hx hb dX5_loadOf_35 rfl (lv_at hl 3 rfl) ?_
          refine lv_fstore_n (lv' := [(2, .float g), (4, .float (FP.fdiv (FP.i2f (tdem (Gs (R 1)) n ((R 1) 1) p0 (nI t))) (FP.i2f (nI t)))), (0, .ref m0), (1, .int p0), (3, .int (nI t))]) hx hb dX5_loadOf_36 rfl hl (by decide) rfl (fun ls hl => ?_)
          refine lv_iinc (v := nI (t + 1)) (lv' := [(3, .int (nI (t + 1))), (2, .float g), (4, .float (FP.fdiv (FP.i2f (tdem (Gs (R 1)) n ((R 1) 1) p0 (nI t))) (FP.i2f (nI t)))), (0, .ref m0), (1, .int p0)]) hx hb dX5_loadOf_37 hl (k := 4) rfl (nI_1 _) (by decide) rfl (fun ls hl => ?_)
          refine lv_goto (tgt := 4) hx hb dX5_loadOf_40 (by decide) ?_
          exact ih4 j (t + 1) _ ls (by omega) (by omega) (by omega) (by rw [← ef, ldr, if_pos c_27]) (lv_sub hl [3, 4, 1, 0] rfl)
        · refine lv_fload hx hb dX5_loadOf_30 (lv_at hl 0 rfl) ?_
          refine lv_goto (tgt := 36) hx hb dX5_loadOf_32 (by decide) ?_
          refine lv_fstore_n (lv' := [(2, .float (FP.fdiv (FP.i2f (tdem (Gs (R 1)) n ((R 1) 1) p0 (nI t))) (FP.i2f (nI t)))), (4, .float (FP.fdiv (FP.i2f (tdem (Gs (R 1)) n ((R 1) 1) p0 (nI t))) (FP.i2f (nI t)))), (0, .ref m0), (1, .int p0), (3, .int (nI t))]) hx hb dX5_loadOf_36 rfl hl (by decide) rfl (fun ls hl => ?_)
          refine lv_iinc (v := nI (t + 1)) (lv' := [(3, .int (nI (t + 1))), (2, .float (FP.fdiv (FP.i2f (tdem (Gs (R 1)) n ((R 1) 1) p0 (nI t))) (FP.i2f (nI t)))), (4, .float (FP.fdiv (FP.i2f (tdem (Gs (R 1)) n ((R 1) 1) p0 (nI t))) (FP.i2f (nI t)))), (0, .ref m0), (1, .int p0)]) hx hb dX5_loadOf_37 hl (k := 4) rfl (nI_1 _) (by decide) rfl (fun ls hl => ?_)
          refine lv_goto (tgt := 4) hx hb dX5_loadOf_40 (by decide) ?_
          exact ih4 j (t + 1) _ ls (by omega) (by omega) (by omega) (by rw [← ef, ldr, if_neg c_27]) (lv_sub hl [3, 4, 1, 0] rfl)
  exact loop4 201 200 1 _ ls rfl (Nat.le_refl _) (by omega) rfl (lv_sub hl [2, 3, 1, 0] rfl)
set_option maxHeartbeats 1000000 in
set_option maxRecDepth 100000 in
/-- utilization -/
theorem c_X5_utilization (l : Launch) (dC : Nat → ClassId) (dI : Nat → Nat → Nat) (cy : Nat → ClassId) (sz : Nat) (m0 : Nat) (a : Nat → Nat) (I : Nat → Int32) (R : vG) (n : Nat) (hn : n ≤ 8) (hS0 : R 1 0 = nI n) (hG : okG (Gs (R 1)) n) (p0 : Int32) : Met l yX5_utilization wsX5_utilization ({ frames := 2, cells := 0, slots := 0, locals := 45 }) (va_Pc [.ref m0, .int p0] (pIn dC dI cy (wMdl cy m0 a I R) sz)) (va_Qd (fun (r : UInt64) (u : Nat → Int32) => u = upd I 0 (cM p0) ∧ (cM p0 = 0 → r = utl (Gs (R 1)) p0 n)) (fun (u : Nat → Int32) t => va_P (dC, dI) vwCl (wMdl cy m0 a u R) t.heap ∧ va_D (va_A (wMdl cy m0 a I R) sz) (wMdl cy m0 a u R)) (va_A (wMdl cy m0 a I R) sz)) 0 0 (va_A (wMdl cy m0 a I R) sz) := by
  refine Met.ofW (cc := cX5_utilization) (maxL := 2) (ret := some .double) (by decide) rfl ?_
  intro p e s m args below meth c s₁ B hml hv
  obtain ⟨rfl, hsz, hP, hE, hD0⟩ := hv
  have hK := hE.1
  subst hsz
  have hD := hD0.self (sz := s.heap.size)
  generalize hAe : va_A (wMdl cy m0 a I R) s.heap.size = A at hD ⊢
  have hA : ∀ q : Nat, s.heap.size ≤ q → A q := fun q h => by rw [← hAe]; exact Or.inr h
  have hS : va_S A s.heap s.heap [] := va_S.rf
  have hP : va_P (dC, dI) vwCl (wMdl cy m0 a I R) s.heap := hP
  have hx := B.exec
  have hb := B.bytes
  have hr := B.returns
  have hts := atoms_spec (ws := wsX5_utilization) B.pre
  have hown : s.vm.findClass RX5 = some m.cls := findClass_of_methodNamed B.named
  have hlocks := B.notSynchronized
  have hin5 : ∀ w ∈ u_ws RX5 TX5 32, w ∈ wsX5_utilization := by decide +kernel
  have f_50 := hts (.fieldLink RX5 50 "DeadlineAdmissionModel" "thrown" "I") (by decide +kernel)
  have hl := lv_entry ([.ref m0, .int p0]) (n := 2) (Nat.le_of_ble_eq_true rfl)
  rw [lg_entry_eq]
  generalize (lg_sl ([.ref m0, .int p0]) ++ List.replicate (2 - (lg_sl ([.ref m0, .int p0])).length) Slot.unset).toArray = ls at hl ⊢
  have hl : lv_has ls 2 [(0, .ref m0), (1, .int p0)] := hl
  refine lv_aload_n hx hb dX5_utilization_0 rfl (lv_at hl 0 rfl) ?_
  refine lv_iload_n hx hb dX5_utilization_1 rfl (lv_at hl 1 rfl) ?_
  refine lv_iconst (v := 0) hx hb dX5_utilization_2 (by decide) ?_
  refine lv_iconst (v := 1) hx hb dX5_utilization_3 (by decide) ?_
  refine vp_callSi (va_runS (As := [.int p0, .int 0, .int 1]) (rest := [.ref m0]) ⟨hx, hb, hml, hown, hts⟩ (c_X5_in l p0 0 1) (cwS 3 hts gX5_utilization_X5_in rfl rfl rfl (by decide +kernel) ⟨Nat.le_of_ble_eq_true rfl, Nat.le_of_ble_eq_true rfl⟩) ⟨fun a U g mk q => q, fun U hU hW => ⟨rfl, trivial⟩⟩ rfl rfl hl.1 rfl (lv_room (Nat.le_of_ble_eq_true rfl)) dX5_utilization_4 ⟨Nat.le_of_ble_eq_true rfl, Nat.le_of_ble_eq_true rfl⟩).run (fun r e_r => ?_)
  subst e_r
  refine lv_if_eq (tgt := 14) hx hb dX5_utilization_7 (by decide) (fun c_7 => ?_) (fun c_7 => ?_)
  · refine lv_iconst (v := 1) hx hb dX5_utilization_14 (by decide) ?_
    refine va_put (D := (dC, dI)) (ci := 5) (v := .int 1) (ty := .int) (C := RX5) (T := TX5) (N := 32) hx hb hts hin5 tyX5 tyX5_ok nmX5 hown hK hP hD hS 0 rfl rfl 0 (by decide) f_50 (fun _ h9 => h9) rfl (by decide +kernel) rfl rfl (Nat.le_of_ble_eq_true rfl) dX5_utilization_15 (fun H locs hP hD hS => ?_)
    have hP : va_P (dC, dI) vwCl (wMdl cy m0 a (upd I 0 1) R) H := hP
    have hD : va_D A (wMdl cy m0 a (upd I 0 1) R) := hD
    refine lv_aload_n hx hb dX5_utilization_18 rfl (lv_at hl 0 rfl) ?_
    refine va_get (D := (dC, dI)) (ci := 5) (v := .int 1) (C := RX5) (T := TX5) (N := 32) hx hb hts hin5 hown hK hP 0 rfl rfl 0 (by decide) f_50 (fun _ h9 => h9) rfl dX5_utilization_19 ?_
    refine lv_if_ne (tgt := 33) hx hb dX5_utilization_22 (by decide) (fun _ => ?_) (fun h0 => absurd h0 (by decide))
    refine lv_dconst0 hx hb dX5_utilization_33 ?_
    have hP9 : va_P (dC, dI) vwCl (wMdl cy m0 a (upd I 0 1) R) H := hP
    have hD9 : va_D A (wMdl cy m0 a (upd I 0 1) R) := hD
    exact W.dret (v := FP.dconst0) hx hb hr (fun t ht hW => ⟨⟨FP.dconst0, (upd I 0 1), rfl, (by have e9 : cM p0 = 1 := cM_no (mode_no (b10.mp c_7)); exact ⟨by rw [e9], fun h => absurd (e9.symm.trans h) (by decide)⟩), by rw [ht]; exact hP9, hD9⟩, hS.F ht⟩) hS.2.2 dX5_utilization_34
  · refine lv_iconst (v := 0) hx hb dX5_utilization_10 (by decide) ?_
    refine lv_goto (tgt := 15) hx hb dX5_utilization_11 (by decide) ?_
    refine va_put (D := (dC, dI)) (ci := 5) (v := .int 0) (ty := .int) (C := RX5) (T := TX5) (N := 32) hx hb hts hin5 tyX5 tyX5_ok nmX5 hown hK hP hD hS 0 rfl rfl 0 (by decide) f_50 (fun _ h9 => h9) rfl (by decide +kernel) rfl rfl (Nat.le_of_ble_eq_true rfl) dX5_utilization_15 (fun H locs hP hD hS => ?_)
    have hP : va_P (dC, dI) vwCl (wMdl cy m0 a (upd I 0 0) R) H := hP
    have hD : va_D A (wMdl cy m0 a (upd I 0 0) R) := hD
    refine lv_aload_n hx hb dX5_utilization_18 rfl (lv_at hl 0 rfl) ?_
    refine va_get (D := (dC, dI)) (ci := 5) (v := .int 0) (C := RX5) (T := TX5) (N := 32) hx hb hts hin5 hown hK hP 0 rfl rfl 0 (by decide) f_50 (fun _ h9 => h9) rfl dX5_utilization_19 ?_
    refine lv_if_ne (tgt := 33) hx hb dX5_utilization_22 (by decide) (fun h0 => absurd h0 (by decide)) (fun _ => ?_)
    refine lv_aload_n hx hb dX5_utilization_25 rfl (lv_at hl 0 rfl) ?_
    refine lv_iload_n hx hb dX5_utilization_26 rfl (lv_at hl 1 rfl) ?_
    refine vp_callSd (va_runV (As := [.int p0]) (rest := []) ⟨hx, hb, hml, hown, hts⟩ (c_X5_utilizationOf l dC dI cy m0 a (upd I 0 0) R n hn hS0 hG p0) (cwV 1 hts gX5_utilization_X5_utilizationOf rfl rfl rfl (by decide +kernel) ⟨Nat.le_of_ble_eq_true rfl, Nat.le_of_ble_eq_true rfl⟩) ⟨bl_ro, va_recv hK hP (ci := 5) (q0 := 0) rfl rfl, pr_ro hP hE⟩ rfl rfl hl.1 rfl (lv_room (Nat.le_of_ble_eq_true rfl)) dX5_utilization_27 ⟨Nat.le_of_ble_eq_true rfl, Nat.le_of_ble_eq_true rfl⟩).run (fun r e_r => ?_)
    subst e_r
    refine lv_topd (fun y_ ey_ => ?_)
    obtain rfl : y_ = utl (Gs (R 1)) p0 n := ey_
    refine lv_goto (tgt := 34) hx hb dX5_utilization_30 (by decide) ?_
    have hP9 : va_P (dC, dI) vwCl (wMdl cy m0 a (upd I 0 0) R) H := hP
    have hD9 : va_D A (wMdl cy m0 a (upd I 0 0) R) := hD
    exact W.dret (v := utl (Gs (R 1)) p0 n) hx hb hr (fun t ht hW => ⟨⟨utl (Gs (R 1)) p0 n, (upd I 0 0), rfl, (by have e9 : cM p0 = 0 := cM_ok (mode_of (nb10 c_7)); exact ⟨by rw [e9], fun _ => rfl⟩), by rw [ht]; exact hP9, hD9⟩, hS.F ht⟩) hS.2.2 dX5_utilization_34
set_option maxHeartbeats 1000000 in
set_option maxRecDepth 100000 in
/-- utilizationBits -/
theorem c_X5_utilizationBits (l : Launch) (dC : Nat → ClassId) (dI : Nat → Nat → Nat) (cy : Nat → ClassId) (sz : Nat) (m0 : Nat) (a : Nat → Nat) (I : Nat → Int32) (R : vG) (n : Nat) (hn : n ≤ 8) (hS0 : R 1 0 = nI n) (hG : okG (Gs (R 1)) n) (p0 : Int32) : Met l yX5_utilizationBits wsX5_utilizationBits ({ frames := 2, cells := 0, slots := 0, locals := 51 }) (va_Pc [.ref m0, .int p0] (pIn dC dI cy (wMdl cy m0 a I R) sz)) (va_Ql (fun (r : Int64) (u : Nat → Int32) => u = upd I 0 (cM p0) ∧ (cM p0 = 0 → r = (utl (Gs (R 1)) p0 n).toInt64)) (fun (u : Nat → Int32) t => va_P (dC, dI) vwCl (wMdl cy m0 a u R) t.heap ∧ va_D (va_A (wMdl cy m0 a I R) sz) (wMdl cy m0 a u R)) (va_A (wMdl cy m0 a I R) sz)) 0 0 (va_A (wMdl cy m0 a I R) sz) := by
  refine Met.ofW (cc := cX5_utilizationBits) (maxL := 2) (ret := some .long) (by decide) rfl ?_
  intro p e s m args below meth c s₁ B hml hv
  obtain ⟨rfl, hsz, hP, hE, hD0⟩ := hv
  have hK := hE.1
  subst hsz
  have hD := hD0.self (sz := s.heap.size)
  generalize hAe : va_A (wMdl cy m0 a I R) s.heap.size = A at hD ⊢
  have hA : ∀ q : Nat, s.heap.size ≤ q → A q := fun q h => by rw [← hAe]; exact Or.inr h
  have hS : va_S A s.heap s.heap [] := va_S.rf
  have hP : va_P (dC, dI) vwCl (wMdl cy m0 a I R) s.heap := hP
  have hx := B.exec
  have hb := B.bytes
  have hr := B.returns
  have hts := atoms_spec (ws := wsX5_utilizationBits) B.pre
  have hown : s.vm.findClass RX5 = some m.cls := findClass_of_methodNamed B.named
  have hlocks := B.notSynchronized
  have hin5 : ∀ w ∈ u_ws RX5 TX5 32, w ∈ wsX5_utilizationBits := by decide +kernel
  have f_50 := hts (.fieldLink RX5 50 "DeadlineAdmissionModel" "thrown" "I") (by decide +kernel)
  have hl := lv_entry ([.ref m0, .int p0]) (n := 2) (Nat.le_of_ble_eq_true rfl)
  rw [lg_entry_eq]
  generalize (lg_sl ([.ref m0, .int p0]) ++ List.replicate (2 - (lg_sl ([.ref m0, .int p0])).length) Slot.unset).toArray = ls at hl ⊢
  have hl : lv_has ls 2 [(0, .ref m0), (1, .int p0)] := hl
  refine lv_aload_n hx hb dX5_utilizationBits_0 rfl (lv_at hl 0 rfl) ?_
  refine lv_iload_n hx hb dX5_utilizationBits_1 rfl (lv_at hl 1 rfl) ?_
  refine lv_iconst (v := 0) hx hb dX5_utilizationBits_2 (by decide) ?_
  refine lv_iconst (v := 1) hx hb dX5_utilizationBits_3 (by decide) ?_
  refine vp_callSi (va_runS (As := [.int p0, .int 0, .int 1]) (rest := [.ref m0]) ⟨hx, hb, hml, hown, hts⟩ (c_X5_in l p0 0 1) (cwS 3 hts gX5_utilizationBits_X5_in rfl rfl rfl (by decide +kernel) ⟨Nat.le_of_ble_eq_true rfl, Nat.le_of_ble_eq_true rfl⟩) ⟨fun a U g mk q => q, fun U hU hW => ⟨rfl, trivial⟩⟩ rfl rfl hl.1 rfl (lv_room (Nat.le_of_ble_eq_true rfl)) dX5_utilizationBits_4 ⟨Nat.le_of_ble_eq_true rfl, Nat.le_of_ble_eq_true rfl⟩).run (fun r e_r => ?_)
  subst e_r
  refine lv_if_eq (tgt := 14) hx hb dX5_utilizationBits_7 (by decide) (fun c_7 => ?_) (fun c_7 => ?_)
  · refine lv_iconst (v := 1) hx hb dX5_utilizationBits_14 (by decide) ?_
    refine va_put (D := (dC, dI)) (ci := 5) (v := .int 1) (ty := .int) (C := RX5) (T := TX5) (N := 32) hx hb hts hin5 tyX5 tyX5_ok nmX5 hown hK hP hD hS 0 rfl rfl 0 (by decide) f_50 (fun _ h9 => h9) rfl (by decide +kernel) rfl rfl (Nat.le_of_ble_eq_true rfl) dX5_utilizationBits_15 (fun H locs hP hD hS => ?_)
    have hP : va_P (dC, dI) vwCl (wMdl cy m0 a (upd I 0 1) R) H := hP
    have hD : va_D A (wMdl cy m0 a (upd I 0 1) R) := hD
    refine lv_aload_n hx hb dX5_utilizationBits_18 rfl (lv_at hl 0 rfl) ?_
    refine va_get (D := (dC, dI)) (ci := 5) (v := .int 1) (C := RX5) (T := TX5) (N := 32) hx hb hts hin5 hown hK hP 0 rfl rfl 0 (by decide) f_50 (fun _ h9 => h9) rfl dX5_utilizationBits_19 ?_
    refine lv_if_ne (tgt := 36) hx hb dX5_utilizationBits_22 (by decide) (fun _ => ?_) (fun h0 => absurd h0 (by decide))
    refine lv_lconst (v := 0) hx hb dX5_utilizationBits_36 (by decide) ?_
    have hP9 : va_P (dC, dI) vwCl (wMdl cy m0 a (upd I 0 1) R) H := hP
    have hD9 : va_D A (wMdl cy m0 a (upd I 0 1) R) := hD
    exact W.lret (v := 0) hx hb hr (fun t ht hW => ⟨⟨0, (upd I 0 1), rfl, (by have e9 : cM p0 = 1 := cM_no (mode_no (b10.mp c_7)); exact ⟨by rw [e9], fun h => absurd (e9.symm.trans h) (by decide)⟩), by rw [ht]; exact hP9, hD9⟩, hS.F ht⟩) hS.2.2 dX5_utilizationBits_37
  · refine lv_iconst (v := 0) hx hb dX5_utilizationBits_10 (by decide) ?_
    refine lv_goto (tgt := 15) hx hb dX5_utilizationBits_11 (by decide) ?_
    refine va_put (D := (dC, dI)) (ci := 5) (v := .int 0) (ty := .int) (C := RX5) (T := TX5) (N := 32) hx hb hts hin5 tyX5 tyX5_ok nmX5 hown hK hP hD hS 0 rfl rfl 0 (by decide) f_50 (fun _ h9 => h9) rfl (by decide +kernel) rfl rfl (Nat.le_of_ble_eq_true rfl) dX5_utilizationBits_15 (fun H locs hP hD hS => ?_)
    have hP : va_P (dC, dI) vwCl (wMdl cy m0 a (upd I 0 0) R) H := hP
    have hD : va_D A (wMdl cy m0 a (upd I 0 0) R) := hD
    refine lv_aload_n hx hb dX5_utilizationBits_18 rfl (lv_at hl 0 rfl) ?_
    refine va_get (D := (dC, dI)) (ci := 5) (v := .int 0) (C := RX5) (T := TX5) (N := 32) hx hb hts hin5 hown hK hP 0 rfl rfl 0 (by decide) f_50 (fun _ h9 => h9) rfl dX5_utilizationBits_19 ?_
    refine lv_if_ne (tgt := 36) hx hb dX5_utilizationBits_22 (by decide) (fun h0 => absurd h0 (by decide)) (fun _ => ?_)
    refine lv_aload_n hx hb dX5_utilizationBits_25 rfl (lv_at hl 0 rfl) ?_
    refine lv_iload_n hx hb dX5_utilizationBits_26 rfl (lv_at hl 1 rfl) ?_
    refine vp_callSd (va_runV (As := [.int p0]) (rest := []) ⟨hx, hb, hml, hown, hts⟩ (c_X5_utilizationOf l dC dI cy m0 a (upd I 0 0) R n hn hS0 hG p0) (cwV 1 hts gX5_utilizationBits_X5_utilizationOf rfl rfl rfl (by decide +kernel) ⟨Nat.le_of_ble_eq_true rfl, Nat.le_of_ble_eq_true rfl⟩) ⟨bl_ro, va_recv hK hP (ci := 5) (q0 := 0) rfl rfl, pr_ro hP hE⟩ rfl rfl hl.1 rfl (lv_room (Nat.le_of_ble_eq_true rfl)) dX5_utilizationBits_27 ⟨Nat.le_of_ble_eq_true rfl, Nat.le_of_ble_eq_true rfl⟩).run (fun r e_r => ?_)
    subst e_r
    refine lv_topd (fun y_ ey_ => ?_)
    obtain rfl : y_ = utl (Gs (R 1)) p0 n := ey_
    refine vp_callSl (va_runS (As := [.double (utl (Gs (R 1)) p0 n)]) (rest := []) ⟨hx, hb, hml, hown, hts⟩ (c_Jxe99ae_doubleToLongBits_ccdee l (utl (Gs (R 1)) p0 n) (pn64_fin (utl_pn hG hn (Nat.le_refl n))).notNaN) (va_cwS 1 hts gX5_utilizationBits_Jxe99ae_doubleToLongBits_ccdee rfl rfl rfl (by decide +kernel) ⟨Nat.le_of_ble_eq_true rfl, Nat.le_of_ble_eq_true rfl⟩) ⟨fun a U g mk q => q, fun U hU hW => ⟨rfl, trivial⟩⟩ rfl rfl hl.1 rfl (lv_room (Nat.le_of_ble_eq_true rfl)) dX5_utilizationBits_30 ⟨Nat.le_of_ble_eq_true rfl, Nat.le_of_ble_eq_true rfl⟩).run (fun r e_r => ?_)
    subst e_r
    refine lv_topl (fun y_ ey_ => ?_)
    obtain rfl : y_ = (utl (Gs (R 1)) p0 n).toInt64 := ey_
    refine lv_goto (tgt := 37) hx hb dX5_utilizationBits_33 (by decide) ?_
    have hP9 : va_P (dC, dI) vwCl (wMdl cy m0 a (upd I 0 0) R) H := hP
    have hD9 : va_D A (wMdl cy m0 a (upd I 0 0) R) := hD
    exact W.lret (v := (utl (Gs (R 1)) p0 n).toInt64) hx hb hr (fun t ht hW => ⟨⟨(utl (Gs (R 1)) p0 n).toInt64, (upd I 0 0), rfl, (by have e9 : cM p0 = 0 := cM_ok (mode_of (nb10 c_7)); exact ⟨by rw [e9], fun _ => rfl⟩), by rw [ht]; exact hP9, hD9⟩, hS.F ht⟩) hS.2.2 dX5_utilizationBits_37
set_option maxHeartbeats 1000000 in
set_option maxRecDepth 100000 in
/-- load -/
theorem c_X5_load (l : Launch) (dC : Nat → ClassId) (dI : Nat → Nat → Nat) (cy : Nat → ClassId) (sz : Nat) (m0 : Nat) (a : Nat → Nat) (I : Nat → Int32) (R : vG) (n : Nat) (hn : n ≤ 8) (hS0 : R 1 0 = nI n) (hG : okG (Gs (R 1)) n) (hd0 : dok (Gs (R 1)) n (R 1 1) 0) (hd1 : dok (Gs (R 1)) n (R 1 1) 1) (p0 : Int32) : Met l yX5_load wsX5_load ({ frames := 5, cells := 0, slots := 0, locals := 118 }) (va_Pc [.ref m0, .int p0] (pIn dC dI cy (wMdl cy m0 a I R) sz)) (va_Qf (fun (r : UInt32) (u : Nat → Int32) => u = upd I 0 (cM p0) ∧ (cM p0 = 0 → r = lod (Gs (R 1)) n (R 1 1) p0)) (fun (u : Nat → Int32) t => va_P (dC, dI) vwCl (wMdl cy m0 a u R) t.heap ∧ va_D (va_A (wMdl cy m0 a I R) sz) (wMdl cy m0 a u R)) (va_A (wMdl cy m0 a I R) sz)) 0 0 (va_A (wMdl cy m0 a I R) sz) := by
  refine Met.ofW (cc := cX5_load) (maxL := 2) (ret := some .float) (by decide) rfl ?_
  intro p e s m args below meth c s₁ B hml hv
  obtain ⟨rfl, hsz, hP, hE, hD0⟩ := hv
  have hK := hE.1
  subst hsz
  have hD := hD0.self (sz := s.heap.size)
  generalize hAe : va_A (wMdl cy m0 a I R) s.heap.size = A at hD ⊢
  have hA : ∀ q : Nat, s.heap.size ≤ q → A q := fun q h => by rw [← hAe]; exact Or.inr h
  have hS : va_S A s.heap s.heap [] := va_S.rf
  have hP : va_P (dC, dI) vwCl (wMdl cy m0 a I R) s.heap := hP
  have hx := B.exec
  have hb := B.bytes
  have hr := B.returns
  have hts := atoms_spec (ws := wsX5_load) B.pre
  have hown : s.vm.findClass RX5 = some m.cls := findClass_of_methodNamed B.named
  have hlocks := B.notSynchronized
  have hin5 : ∀ w ∈ u_ws RX5 TX5 32, w ∈ wsX5_load := by decide +kernel
  have f_50 := hts (.fieldLink RX5 50 "DeadlineAdmissionModel" "thrown" "I") (by decide +kernel)
  have hl := lv_entry ([.ref m0, .int p0]) (n := 2) (Nat.le_of_ble_eq_true rfl)
  rw [lg_entry_eq]
  generalize (lg_sl ([.ref m0, .int p0]) ++ List.replicate (2 - (lg_sl ([.ref m0, .int p0])).length) Slot.unset).toArray = ls at hl ⊢
  have hl : lv_has ls 2 [(0, .ref m0), (1, .int p0)] := hl
  refine lv_aload_n hx hb dX5_load_0 rfl (lv_at hl 0 rfl) ?_
  refine lv_iload_n hx hb dX5_load_1 rfl (lv_at hl 1 rfl) ?_
  refine lv_iconst (v := 0) hx hb dX5_load_2 (by decide) ?_
  refine lv_iconst (v := 1) hx hb dX5_load_3 (by decide) ?_
  refine vp_callSi (va_runS (As := [.int p0, .int 0, .int 1]) (rest := [.ref m0]) ⟨hx, hb, hml, hown, hts⟩ (c_X5_in l p0 0 1) (cwS 3 hts gX5_load_X5_in rfl rfl rfl (by decide +kernel) ⟨Nat.le_of_ble_eq_true rfl, Nat.le_of_ble_eq_true rfl⟩) ⟨fun a U g mk q => q, fun U hU hW => ⟨rfl, trivial⟩⟩ rfl rfl hl.1 rfl (lv_room (Nat.le_of_ble_eq_true rfl)) dX5_load_4 ⟨Nat.le_of_ble_eq_true rfl, Nat.le_of_ble_eq_true rfl⟩).run (fun r e_r => ?_)
  subst e_r
  refine lv_if_eq (tgt := 14) hx hb dX5_load_7 (by decide) (fun c_7 => ?_) (fun c_7 => ?_)
  · refine lv_iconst (v := 1) hx hb dX5_load_14 (by decide) ?_
    refine va_put (D := (dC, dI)) (ci := 5) (v := .int 1) (ty := .int) (C := RX5) (T := TX5) (N := 32) hx hb hts hin5 tyX5 tyX5_ok nmX5 hown hK hP hD hS 0 rfl rfl 0 (by decide) f_50 (fun _ h9 => h9) rfl (by decide +kernel) rfl rfl (Nat.le_of_ble_eq_true rfl) dX5_load_15 (fun H locs hP hD hS => ?_)
    have hP : va_P (dC, dI) vwCl (wMdl cy m0 a (upd I 0 1) R) H := hP
    have hD : va_D A (wMdl cy m0 a (upd I 0 1) R) := hD
    refine lv_aload_n hx hb dX5_load_18 rfl (lv_at hl 0 rfl) ?_
    refine va_get (D := (dC, dI)) (ci := 5) (v := .int 1) (C := RX5) (T := TX5) (N := 32) hx hb hts hin5 hown hK hP 0 rfl rfl 0 (by decide) f_50 (fun _ h9 => h9) rfl dX5_load_19 ?_
    refine lv_if_ne (tgt := 33) hx hb dX5_load_22 (by decide) (fun _ => ?_) (fun h0 => absurd h0 (by decide))
    refine lv_fconst0 hx hb dX5_load_33 ?_
    have hP9 : va_P (dC, dI) vwCl (wMdl cy m0 a (upd I 0 1) R) H := hP
    have hD9 : va_D A (wMdl cy m0 a (upd I 0 1) R) := hD
    exact W.fret (v := FP.fconst0) hx hb hr (fun t ht hW => ⟨⟨FP.fconst0, (upd I 0 1), rfl, (by have e9 : cM p0 = 1 := cM_no (mode_no (b10.mp c_7)); exact ⟨by rw [e9], fun h => absurd (e9.symm.trans h) (by decide)⟩), by rw [ht]; exact hP9, hD9⟩, hS.F ht⟩) hS.2.2 dX5_load_34
  · refine lv_iconst (v := 0) hx hb dX5_load_10 (by decide) ?_
    refine lv_goto (tgt := 15) hx hb dX5_load_11 (by decide) ?_
    refine va_put (D := (dC, dI)) (ci := 5) (v := .int 0) (ty := .int) (C := RX5) (T := TX5) (N := 32) hx hb hts hin5 tyX5 tyX5_ok nmX5 hown hK hP hD hS 0 rfl rfl 0 (by decide) f_50 (fun _ h9 => h9) rfl (by decide +kernel) rfl rfl (Nat.le_of_ble_eq_true rfl) dX5_load_15 (fun H locs hP hD hS => ?_)
    have hP : va_P (dC, dI) vwCl (wMdl cy m0 a (upd I 0 0) R) H := hP
    have hD : va_D A (wMdl cy m0 a (upd I 0 0) R) := hD
    refine lv_aload_n hx hb dX5_load_18 rfl (lv_at hl 0 rfl) ?_
    refine va_get (D := (dC, dI)) (ci := 5) (v := .int 0) (C := RX5) (T := TX5) (N := 32) hx hb hts hin5 hown hK hP 0 rfl rfl 0 (by decide) f_50 (fun _ h9 => h9) rfl dX5_load_19 ?_
    refine lv_if_ne (tgt := 33) hx hb dX5_load_22 (by decide) (fun h0 => absurd h0 (by decide)) (fun _ => ?_)
    refine lv_aload_n hx hb dX5_load_25 rfl (lv_at hl 0 rfl) ?_
    refine lv_iload_n hx hb dX5_load_26 rfl (lv_at hl 1 rfl) ?_
    refine vp_callSf (va_runV (As := [.int p0]) (rest := []) ⟨hx, hb, hml, hown, hts⟩ (c_X5_loadOf l dC dI cy m0 a (upd I 0 0) R n hn hS0 hG p0 (mode_of (nb10 c_7)) (dok_m hd0 hd1 (cM_ok (mode_of (nb10 c_7))))) (cwV 1 hts gX5_load_X5_loadOf rfl rfl rfl (by decide +kernel) ⟨Nat.le_of_ble_eq_true rfl, Nat.le_of_ble_eq_true rfl⟩) ⟨bl_ro, va_recv hK hP (ci := 5) (q0 := 0) rfl rfl, pr_ro hP hE⟩ rfl rfl hl.1 rfl (lv_room (Nat.le_of_ble_eq_true rfl)) dX5_load_27 ⟨Nat.le_of_ble_eq_true rfl, Nat.le_of_ble_eq_true rfl⟩).run (fun r e_r => ?_)
    subst e_r
    refine lv_topf (fun y_ ey_ => ?_)
    obtain rfl : y_ = lod (Gs (R 1)) n (R 1 1) p0 := ey_
    refine lv_goto (tgt := 34) hx hb dX5_load_30 (by decide) ?_
    have hP9 : va_P (dC, dI) vwCl (wMdl cy m0 a (upd I 0 0) R) H := hP
    have hD9 : va_D A (wMdl cy m0 a (upd I 0 0) R) := hD
    exact W.fret (v := lod (Gs (R 1)) n (R 1 1) p0) hx hb hr (fun t ht hW => ⟨⟨lod (Gs (R 1)) n (R 1 1) p0, (upd I 0 0), rfl, (by have e9 : cM p0 = 0 := cM_ok (mode_of (nb10 c_7)); exact ⟨by rw [e9], fun _ => rfl⟩), by rw [ht]; exact hP9, hD9⟩, hS.F ht⟩) hS.2.2 dX5_load_34
set_option maxHeartbeats 1000000 in
set_option maxRecDepth 100000 in
/-- loadBits -/
theorem c_X5_loadBits (l : Launch) (dC : Nat → ClassId) (dI : Nat → Nat → Nat) (cy : Nat → ClassId) (sz : Nat) (m0 : Nat) (a : Nat → Nat) (I : Nat → Int32) (R : vG) (n : Nat) (hn : n ≤ 8) (hS0 : R 1 0 = nI n) (hG : okG (Gs (R 1)) n) (hd0 : dok (Gs (R 1)) n (R 1 1) 0) (hd1 : dok (Gs (R 1)) n (R 1 1) 1) (p0 : Int32) : Met l yX5_loadBits wsX5_loadBits ({ frames := 5, cells := 0, slots := 0, locals := 118 }) (va_Pc [.ref m0, .int p0] (pIn dC dI cy (wMdl cy m0 a I R) sz)) (va_Qi (fun (r : Int32) (u : Nat → Int32) => u = upd I 0 (cM p0) ∧ (cM p0 = 0 → r = (lod (Gs (R 1)) n (R 1 1) p0).toInt32)) (fun (u : Nat → Int32) t => va_P (dC, dI) vwCl (wMdl cy m0 a u R) t.heap ∧ va_D (va_A (wMdl cy m0 a I R) sz) (wMdl cy m0 a u R)) (va_A (wMdl cy m0 a I R) sz)) 0 0 (va_A (wMdl cy m0 a I R) sz) := by
  refine Met.ofW (cc := cX5_loadBits) (maxL := 2) (ret := some .int) (by decide) rfl ?_
  intro p e s m args below meth c s₁ B hml hv
  obtain ⟨rfl, hsz, hP, hE, hD0⟩ := hv
  have hK := hE.1
  subst hsz
  have hD := hD0.self (sz := s.heap.size)
  generalize hAe : va_A (wMdl cy m0 a I R) s.heap.size = A at hD ⊢
  have hA : ∀ q : Nat, s.heap.size ≤ q → A q := fun q h => by rw [← hAe]; exact Or.inr h
  have hS : va_S A s.heap s.heap [] := va_S.rf
  have hP : va_P (dC, dI) vwCl (wMdl cy m0 a I R) s.heap := hP
  have hx := B.exec
  have hb := B.bytes
  have hr := B.returns
  have hts := atoms_spec (ws := wsX5_loadBits) B.pre
  have hown : s.vm.findClass RX5 = some m.cls := findClass_of_methodNamed B.named
  have hlocks := B.notSynchronized
  have hin5 : ∀ w ∈ u_ws RX5 TX5 32, w ∈ wsX5_loadBits := by decide +kernel
  have f_50 := hts (.fieldLink RX5 50 "DeadlineAdmissionModel" "thrown" "I") (by decide +kernel)
  have hl := lv_entry ([.ref m0, .int p0]) (n := 2) (Nat.le_of_ble_eq_true rfl)
  rw [lg_entry_eq]
  generalize (lg_sl ([.ref m0, .int p0]) ++ List.replicate (2 - (lg_sl ([.ref m0, .int p0])).length) Slot.unset).toArray = ls at hl ⊢
  have hl : lv_has ls 2 [(0, .ref m0), (1, .int p0)] := hl
  refine lv_aload_n hx hb dX5_loadBits_0 rfl (lv_at hl 0 rfl) ?_
  refine lv_iload_n hx hb dX5_loadBits_1 rfl (lv_at hl 1 rfl) ?_
  refine lv_iconst (v := 0) hx hb dX5_loadBits_2 (by decide) ?_
  refine lv_iconst (v := 1) hx hb dX5_loadBits_3 (by decide) ?_
  refine vp_callSi (va_runS (As := [.int p0, .int 0, .int 1]) (rest := [.ref m0]) ⟨hx, hb, hml, hown, hts⟩ (c_X5_in l p0 0 1) (cwS 3 hts gX5_loadBits_X5_in rfl rfl rfl (by decide +kernel) ⟨Nat.le_of_ble_eq_true rfl, Nat.le_of_ble_eq_true rfl⟩) ⟨fun a U g mk q => q, fun U hU hW => ⟨rfl, trivial⟩⟩ rfl rfl hl.1 rfl (lv_room (Nat.le_of_ble_eq_true rfl)) dX5_loadBits_4 ⟨Nat.le_of_ble_eq_true rfl, Nat.le_of_ble_eq_true rfl⟩).run (fun r e_r => ?_)
  subst e_r
  refine lv_if_eq (tgt := 14) hx hb dX5_loadBits_7 (by decide) (fun c_7 => ?_) (fun c_7 => ?_)
  · refine lv_iconst (v := 1) hx hb dX5_loadBits_14 (by decide) ?_
    refine va_put (D := (dC, dI)) (ci := 5) (v := .int 1) (ty := .int) (C := RX5) (T := TX5) (N := 32) hx hb hts hin5 tyX5 tyX5_ok nmX5 hown hK hP hD hS 0 rfl rfl 0 (by decide) f_50 (fun _ h9 => h9) rfl (by decide +kernel) rfl rfl (Nat.le_of_ble_eq_true rfl) dX5_loadBits_15 (fun H locs hP hD hS => ?_)
    have hP : va_P (dC, dI) vwCl (wMdl cy m0 a (upd I 0 1) R) H := hP
    have hD : va_D A (wMdl cy m0 a (upd I 0 1) R) := hD
    refine lv_aload_n hx hb dX5_loadBits_18 rfl (lv_at hl 0 rfl) ?_
    refine va_get (D := (dC, dI)) (ci := 5) (v := .int 1) (C := RX5) (T := TX5) (N := 32) hx hb hts hin5 hown hK hP 0 rfl rfl 0 (by decide) f_50 (fun _ h9 => h9) rfl dX5_loadBits_19 ?_
    refine lv_if_ne (tgt := 36) hx hb dX5_loadBits_22 (by decide) (fun _ => ?_) (fun h0 => absurd h0 (by decide))
    refine lv_iconst (v := 0) hx hb dX5_loadBits_36 (by decide) ?_
    have hP9 : va_P (dC, dI) vwCl (wMdl cy m0 a (upd I 0 1) R) H := hP
    have hD9 : va_D A (wMdl cy m0 a (upd I 0 1) R) := hD
    exact W.iret (v := 0) hx hb hr (fun t ht hW => ⟨⟨0, (upd I 0 1), rfl, (by have e9 : cM p0 = 1 := cM_no (mode_no (b10.mp c_7)); exact ⟨by rw [e9], fun h => absurd (e9.symm.trans h) (by decide)⟩), by rw [ht]; exact hP9, hD9⟩, hS.F ht⟩) hS.2.2 dX5_loadBits_37
  · refine lv_iconst (v := 0) hx hb dX5_loadBits_10 (by decide) ?_
    refine lv_goto (tgt := 15) hx hb dX5_loadBits_11 (by decide) ?_
    refine va_put (D := (dC, dI)) (ci := 5) (v := .int 0) (ty := .int) (C := RX5) (T := TX5) (N := 32) hx hb hts hin5 tyX5 tyX5_ok nmX5 hown hK hP hD hS 0 rfl rfl 0 (by decide) f_50 (fun _ h9 => h9) rfl (by decide +kernel) rfl rfl (Nat.le_of_ble_eq_true rfl) dX5_loadBits_15 (fun H locs hP hD hS => ?_)
    have hP : va_P (dC, dI) vwCl (wMdl cy m0 a (upd I 0 0) R) H := hP
    have hD : va_D A (wMdl cy m0 a (upd I 0 0) R) := hD
    refine lv_aload_n hx hb dX5_loadBits_18 rfl (lv_at hl 0 rfl) ?_
    refine va_get (D := (dC, dI)) (ci := 5) (v := .int 0) (C := RX5) (T := TX5) (N := 32) hx hb hts hin5 hown hK hP 0 rfl rfl 0 (by decide) f_50 (fun _ h9 => h9) rfl dX5_loadBits_19 ?_
    refine lv_if_ne (tgt := 36) hx hb dX5_loadBits_22 (by decide) (fun h0 => absurd h0 (by decide)) (fun _ => ?_)
    refine lv_aload_n hx hb dX5_loadBits_25 rfl (lv_at hl 0 rfl) ?_
    refine lv_iload_n hx hb dX5_loadBits_26 rfl (lv_at hl 1 rfl) ?_
    refine vp_callSf (va_runV (As := [.int p0]) (rest := []) ⟨hx, hb, hml, hown, hts⟩ (c_X5_loadOf l dC dI cy m0 a (upd I 0 0) R n hn hS0 hG p0 (mode_of (nb10 c_7)) (dok_m hd0 hd1 (cM_ok (mode_of (nb10 c_7))))) (cwV 1 hts gX5_loadBits_X5_loadOf rfl rfl rfl (by decide +kernel) ⟨Nat.le_of_ble_eq_true rfl, Nat.le_of_ble_eq_true rfl⟩) ⟨bl_ro, va_recv hK hP (ci := 5) (q0 := 0) rfl rfl, pr_ro hP hE⟩ rfl rfl hl.1 rfl (lv_room (Nat.le_of_ble_eq_true rfl)) dX5_loadBits_27 ⟨Nat.le_of_ble_eq_true rfl, Nat.le_of_ble_eq_true rfl⟩).run (fun r e_r => ?_)
    subst e_r
    refine lv_topf (fun y_ ey_ => ?_)
    obtain rfl : y_ = lod (Gs (R 1)) n (R 1 1) p0 := ey_
    refine vp_callSi (va_runS (As := [.float (lod (Gs (R 1)) n (R 1 1) p0)]) (rest := []) ⟨hx, hb, hml, hown, hts⟩ (c_Jxf58ca_floatToIntBits_5c35a l (lod (Gs (R 1)) n (R 1 1) p0) (pn32_fin (lod_pn (dok_m hd0 hd1 (cM_ok (mode_of (nb10 c_7)))))).notNaN) (va_cwS 1 hts gX5_loadBits_Jxf58ca_floatToIntBits_5c35a rfl rfl rfl (by decide +kernel) ⟨Nat.le_of_ble_eq_true rfl, Nat.le_of_ble_eq_true rfl⟩) ⟨fun a U g mk q => q, fun U hU hW => ⟨rfl, trivial⟩⟩ rfl rfl hl.1 rfl (lv_room (Nat.le_of_ble_eq_true rfl)) dX5_loadBits_30 ⟨Nat.le_of_ble_eq_true rfl, Nat.le_of_ble_eq_true rfl⟩).run (fun r e_r => ?_)
    subst e_r
    refine lv_topi (fun y_ ey_ => ?_)
    obtain rfl : y_ = (lod (Gs (R 1)) n (R 1 1) p0).toInt32 := ey_
    refine lv_goto (tgt := 37) hx hb dX5_loadBits_33 (by decide) ?_
    have hP9 : va_P (dC, dI) vwCl (wMdl cy m0 a (upd I 0 0) R) H := hP
    have hD9 : va_D A (wMdl cy m0 a (upd I 0 0) R) := hD
    exact W.iret (v := (lod (Gs (R 1)) n (R 1 1) p0).toInt32) hx hb hr (fun t ht hW => ⟨⟨(lod (Gs (R 1)) n (R 1 1) p0).toInt32, (upd I 0 0), rfl, (by have e9 : cM p0 = 0 := cM_ok (mode_of (nb10 c_7)); exact ⟨by rw [e9], fun _ => rfl⟩), by rw [ht]; exact hP9, hD9⟩, hS.F ht⟩) hS.2.2 dX5_loadBits_37

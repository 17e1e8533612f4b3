/-! PART 45: DeadlineAdmission, the reads that may throw -/
/-- the simulation's object: its references z 0 .. z 5, its numbers M 6 .. M 14 -/
abbrev wSim (s0 : Nat) (z : Nat → Nat) (M : Nat → Int32) : va_W := [(s0, .inr (2, [.ref (z 0), .ref (z 1), .ref (z 2), .ref (z 3), .ref (z 4), .ref (z 5), .int (M 6), .int (M 7), .int (M 8), .int (M 9), .int (M 10), .int (M 11), .int (M 12), .int (M 13), .int (M 14)]))]
theorem dcnt_dpt {G : vG} {n : Nat} {sc : Int32} (hs : scOk sc) (ho : okG G n) : ∀ (k f q : Nat), q ≤ f → q ≤ 200 → (k < dcnt G n sc f (nI q) ↔ ¬ dpt G n sc k (nI q) = 0) := by
  intro k
  induction k with
  | zero =>
    intro f q h1 h2
    cases f with
    | zero => rw [show q = 0 by omega]; simp [dcnt, dpt]; rfl
    | succ f =>
      simp only [dcnt, dpt]
      by_cases h : q = 0
      · subst h; simp [show nI 0 ≤ 0 from by decide]; rfl
      · rw [if_neg (nI_nle (by omega) (by omega))]
        exact ⟨fun _ => nI_ne0 (by omega) (by omega), fun _ => by omega⟩
  | succ k ih =>
    intro f q h1 h2
    cases f with
    | zero => rw [show q = 0 by omega]; simp [dcnt, dpt, show nI 0 ≤ 0 from by decide]
    | succ f =>
      simp only [dcnt, dpt]
      by_cases h : q = 0
      · subst h; simp [show nI 0 ≤ 0 from by decide]
      · rw [if_neg (nI_nle (by omega) (by omega)), if_neg (nI_nle (by omega) (by omega))]
        obtain ⟨q2, e2, hq2⟩ := dnext_lt hs ho (show 1 ≤ q by omega) h2
        rw [e2, Nat.add_lt_add_iff_right]
        exact ih f q2 (by omega) (by omega)
theorem dlen_dpoint {G : vG} {n : Nat} {sc : Int32} (hs : scOk sc) (ho : okG G n) (k : Nat) : k < dlen G n sc ↔ ¬ dpoint G n sc k = 0 := by
  unfold dlen dpoint
  have e : gtp G sc 201 n = nI (pbN (fun t => rpI G sc (nI t) n) 200) := gtp_pb (lim := 201) hs (by omega) (by omega) ho
  rw [e]
  exact dcnt_dpt hs ho k 200 _ (pbN_le _ _) (pbN_le _ _)
set_option maxHeartbeats 1000000 in
set_option maxRecDepth 100000 in
/-- period -/
theorem c_X4_period (l : Launch) (hst : l.stackTraces = false) (dC : Nat → ClassId) (dI : Nat → Nat → Nat) (cy : Nat → ClassId) (sz : Nat) (d0 : Nat) (o : Nat → Nat) (F : Nat → Int32) (bc : Nat → Nat) (G : vG) (n : Nat) (hn : n ≤ 8) (sc : Int32) (p0 : Int32) : vx_Met l yX4_period wsX4_period ({ frames := 7, cells := 1, slots := 6, locals := 103 }) (va_Pc [.ref d0, .int p0] (pR dC dI cy (wObj d0 o F ++ (wCfg cy (o 0) bc G (nI n) sc)) sz)) (va_Qi (fun (r : Int32) (_ : Unit) => cT n p0 = 0 ∧ r = per G p0.toNatClampNeg) (fun (_ : Unit) (_ : State) => True) (fun q => sz ≤ q)) (vx_X (fun (_ : Unit) => True) (fun (E : String) (_ : Unit) (_ : State) => E = "java/lang/IndexOutOfBoundsException" ∧ cT n p0 = 1) (fun q => sz ≤ q)) 1 6 (fun q => sz ≤ q) := by
  refine vx_ofW (cc := cX4_period) (maxL := 2) (ret := some .int) (by decide) rfl ?_
  intro p e s m args below meth c s₁ B hml hnt hv
  obtain ⟨rfl, hsz, hP, hE, hX, hZ⟩ := hv
  have hK := hE.1
  subst hsz
  have hS : va_S (fun q => s.heap.size ≤ q) s.heap s.heap [] := va_S.rf
  have hA : ∀ q : Nat, s.heap.size ≤ q → (fun q => s.heap.size ≤ q) q := fun q h => h
  have hP : va_P (dC, dI) vwCl (wObj d0 o F ++ (wCfg cy (o 0) bc G (nI n) sc)) s.heap := hP
  have hx := B.exec
  have hb := B.bytes
  have hr := B.returns
  have hts := atoms_spec (ws := wsX4_period) B.pre
  have hown : s.vm.findClass RX4 = some m.cls := findClass_of_methodNamed B.named
  have hlocks := B.notSynchronized
  have hin4 : ∀ w ∈ u_ws RX4 TX4 12, w ∈ wsX4_period := by decide +kernel
  have f_12 := hts (.fieldLink RX4 12 "DeadlineAdmission" "current" "LDeadlineAdmission$Configuration;") (by decide +kernel)
  have hl := lv_entry ([.ref d0, .int p0]) (n := 2) (Nat.le_of_ble_eq_true rfl)
  rw [lg_entry_eq]
  generalize (lg_sl ([.ref d0, .int p0]) ++ List.replicate (2 - (lg_sl ([.ref d0, .int p0])).length) Slot.unset).toArray = ls at hl ⊢
  have hl : lv_has ls 2 [(0, .ref d0), (1, .int p0)] := hl
  refine lv_aload_n hx hb dX4_period_0 rfl (lv_at hl 0 rfl) ?_
  refine lv_iload_n hx hb dX4_period_1 rfl (lv_at hl 1 rfl) ?_
  refine vx_callv (vx_runV (As := [.int p0]) (rest := []) ⟨hx, hb, hml, hown, hts⟩ (c_X4_requireTask l hst dC dI cy s.heap.size d0 o F bc G n hn sc p0) (cwV 1 hts gX4_period_X4_requireTask rfl rfl rfl (by decide +kernel) ⟨Nat.le_of_ble_eq_true rfl, Nat.le_of_ble_eq_true rfl⟩) ⟨bl_R, va_recv hK hP (ci := 4) (q0 := 0) rfl rfl, pr_R hP hE hX hZ hS hA⟩ rfl rfl hl.1 rfl (lv_room (Nat.le_of_ble_eq_true rfl)) dX4_period_2 ⟨Nat.le_of_ble_eq_true rfl, Nat.le_of_ble_eq_true rfl⟩) hS (fun q _ h => hA q (Nat.le_trans hS.1 h)) (fun q h => hA q (Nat.le_trans hS.1 h)) (fun q _ h => hA q (Nat.le_trans hS.1 h)) (fun E ce q9 u t H1 locs ht hvm hpx hBX hz1 hk1 hS hce hcv hcl => ?_) (fun u t H1 locs ht hvm hw hB hz1 hk1 hS => ?_)
  · exact vx_out (fun x hx9 => (hnt x hx9).elim) hlocks hce hcv hcl (fun t ht hvm => ⟨(), trivial, hBX, hS.F ht⟩) hS.2.2 (Nat.le_of_ble_eq_true rfl) (Nat.le_of_ble_eq_true rfl)
  obtain ⟨i, hin, rfl⟩ := cT_get hn hw
  have hP : va_P (dC, dI) vwCl (wObj d0 o F ++ (wCfg cy (o 0) bc G (nI n) sc)) H1 := hP.kept (fun k q hk => hk1 q.1 ((hP k q hk).lt) (Nat.not_le.mpr ((hP k q hk).lt)))
  clear hz1 hk1
  generalize H1 = H at hP hS ⊢
  refine lv_aload_n hx hb dX4_period_5 rfl (lv_at hl 0 rfl) ?_
  refine va_get (D := (dC, dI)) (ci := 4) (v := .ref (o 0)) (C := RX4) (T := TX4) (N := 12) hx hb hts hin4 hown hK hP 0 rfl rfl 0 (by decide) f_12 (fun _ h9 => h9) rfl dX4_period_6 ?_
  refine lv_iload_n hx hb dX4_period_9 rfl (lv_at hl 1 rfl) ?_
  refine vp_callSi (va_runV (As := [.int (nI i)]) (rest := []) ⟨hx, hb, hml, hown, hts⟩ (c_X0_effectivePeriod l dC dI cy (o 0) bc G (nI n) sc  i (by omega)) (cwV 1 hts gX4_period_X0_effectivePeriod rfl rfl rfl (by decide +kernel) ⟨Nat.le_of_ble_eq_true rfl, Nat.le_of_ble_eq_true rfl⟩) ⟨bl_ro, va_recv hK (hP.sub (ws' := wCfg cy (o 0) bc G (nI n) sc) [1, 2, 3, 4, 5, 6, 7, 8] rfl) (ci := 0) (q0 := 0) rfl rfl, pr_ro (hP.sub (ws' := wCfg cy (o 0) bc G (nI n) sc) [1, 2, 3, 4, 5, 6, 7, 8] rfl) hE⟩ rfl rfl hl.1 rfl (lv_room (Nat.le_of_ble_eq_true rfl)) dX4_period_10 ⟨Nat.le_of_ble_eq_true rfl, Nat.le_of_ble_eq_true rfl⟩).run (fun r e_r => ?_)
  subst e_r
  refine vx_ret ?_
  refine W.widen (k := 1) (n := 6) (Nat.le_of_ble_eq_true rfl) (Nat.le_of_ble_eq_true rfl) ?_
  exact W.iret (v := per G i) hx hb hr (fun t ht hW => ⟨⟨per G i, (), rfl, ⟨cT_ok hn hin, by rw [nI_clamp (by omega)]⟩, trivial⟩, hS.F ht⟩) hS.2.2 dX4_period_13
set_option maxHeartbeats 1000000 in
set_option maxRecDepth 100000 in
/-- deadline -/
theorem c_X4_deadline (l : Launch) (hst : l.stackTraces = false) (dC : Nat → ClassId) (dI : Nat → Nat → Nat) (cy : Nat → ClassId) (sz : Nat) (d0 : Nat) (o : Nat → Nat) (F : Nat → Int32) (bc : Nat → Nat) (G : vG) (n : Nat) (hn : n ≤ 8) (sc : Int32) (p0 : Int32) : vx_Met l yX4_deadline wsX4_deadline ({ frames := 7, cells := 1, slots := 6, locals := 103 }) (va_Pc [.ref d0, .int p0] (pR dC dI cy (wObj d0 o F ++ (wCfg cy (o 0) bc G (nI n) sc)) sz)) (va_Qi (fun (r : Int32) (_ : Unit) => cT n p0 = 0 ∧ r = G 1 p0.toNatClampNeg) (fun (_ : Unit) (_ : State) => True) (fun q => sz ≤ q)) (vx_X (fun (_ : Unit) => True) (fun (E : String) (_ : Unit) (_ : State) => E = "java/lang/IndexOutOfBoundsException" ∧ cT n p0 = 1) (fun q => sz ≤ q)) 1 6 (fun q => sz ≤ q) := by
  refine vx_ofW (cc := cX4_deadline) (maxL := 2) (ret := some .int) (by decide) rfl ?_
  intro p e s m args below meth c s₁ B hml hnt hv
  obtain ⟨rfl, hsz, hP, hE, hX, hZ⟩ := hv
  have hK := hE.1
  subst hsz
  have hS : va_S (fun q => s.heap.size ≤ q) s.heap s.heap [] := va_S.rf
  have hA : ∀ q : Nat, s.heap.size ≤ q → (fun q => s.heap.size ≤ q) q := fun q h => h
  have hP : va_P (dC, dI) vwCl (wObj d0 o F ++ (wCfg cy (o 0) bc G (nI n) sc)) s.heap := hP
  have hx := B.exec
  have hb := B.bytes
  have hr := B.returns
  have hts := atoms_spec (ws := wsX4_deadline) B.pre
  have hown : s.vm.findClass RX4 = some m.cls := findClass_of_methodNamed B.named
  have hlocks := B.notSynchronized
  have hin0 : ∀ w ∈ u_ws RX0 TX0 9, w ∈ wsX4_deadline := by decide +kernel
  have hin4 : ∀ w ∈ u_ws RX4 TX4 12, w ∈ wsX4_deadline := by decide +kernel
  have f_12 := hts (.fieldLink RX4 12 "DeadlineAdmission" "current" "LDeadlineAdmission$Configuration;") (by decide +kernel)
  have f_160 := va_Nw.use (A := ([.ref d0, .int p0].toArray)) rfl (hE.f 1 rfl)
  have hl := lv_entry ([.ref d0, .int p0]) (n := 2) (Nat.le_of_ble_eq_true rfl)
  rw [lg_entry_eq]
  generalize (lg_sl ([.ref d0, .int p0]) ++ List.replicate (2 - (lg_sl ([.ref d0, .int p0])).length) Slot.unset).toArray = ls at hl ⊢
  have hl : lv_has ls 2 [(0, .ref d0), (1, .int p0)] := hl
  refine lv_aload_n hx hb dX4_deadline_0 rfl (lv_at hl 0 rfl) ?_
  refine lv_iload_n hx hb dX4_deadline_1 rfl (lv_at hl 1 rfl) ?_
  refine vx_callv (vx_runV (As := [.int p0]) (rest := []) ⟨hx, hb, hml, hown, hts⟩ (c_X4_requireTask l hst dC dI cy s.heap.size d0 o F bc G n hn sc p0) (cwV 1 hts gX4_deadline_X4_requireTask rfl rfl rfl (by decide +kernel) ⟨Nat.le_of_ble_eq_true rfl, Nat.le_of_ble_eq_true rfl⟩) ⟨bl_R, va_recv hK hP (ci := 4) (q0 := 0) rfl rfl, pr_R hP hE hX hZ hS hA⟩ rfl rfl hl.1 rfl (lv_room (Nat.le_of_ble_eq_true rfl)) dX4_deadline_2 ⟨Nat.le_of_ble_eq_true rfl, Nat.le_of_ble_eq_true rfl⟩) hS (fun q _ h => hA q (Nat.le_trans hS.1 h)) (fun q h => hA q (Nat.le_trans hS.1 h)) (fun q _ h => hA q (Nat.le_trans hS.1 h)) (fun E ce q9 u t H1 locs ht hvm hpx hBX hz1 hk1 hS hce hcv hcl => ?_) (fun u t H1 locs ht hvm hw hB hz1 hk1 hS => ?_)
  · exact vx_out (fun x hx9 => (hnt x hx9).elim) hlocks hce hcv hcl (fun t ht hvm => ⟨(), trivial, hBX, hS.F ht⟩) hS.2.2 (Nat.le_of_ble_eq_true rfl) (Nat.le_of_ble_eq_true rfl)
  obtain ⟨i, hin, rfl⟩ := cT_get hn hw
  have hP : va_P (dC, dI) vwCl (wObj d0 o F ++ (wCfg cy (o 0) bc G (nI n) sc)) H1 := hP.kept (fun k q hk => hk1 q.1 ((hP k q hk).lt) (Nat.not_le.mpr ((hP k q hk).lt)))
  clear hz1 hk1
  generalize H1 = H at hP hS ⊢
  refine lv_aload_n hx hb dX4_deadline_5 rfl (lv_at hl 0 rfl) ?_
  refine va_get (D := (dC, dI)) (ci := 4) (v := .ref (o 0)) (C := RX4) (T := TX4) (N := 12) hx hb hts hin4 hown hK hP 0 rfl rfl 0 (by decide) f_12 (fun _ h9 => h9) rfl dX4_deadline_6 ?_
  refine va_getN (D := (dC, dI)) (ci := 0) (v := .ref (bc 1)) (C := RX0) (T := TX0) (N := 9) hx hb hts hin0 hown hK hP 1 rfl rfl 1 (by decide) f_160 (fun _ h9 => h9) rfl dX4_deadline_9 ?_
  refine lv_iload_n hx hb dX4_deadline_12 rfl (lv_at hl 1 rfl) ?_
  refine wI_alv (v := G 1 i) hx hb hK hP 3 0 rfl rfl i rfl (by omega) (by decide) rfl dX4_deadline_13 ?_
  refine vx_ret ?_
  refine W.widen (k := 1) (n := 6) (Nat.le_of_ble_eq_true rfl) (Nat.le_of_ble_eq_true rfl) ?_
  exact W.iret (v := G 1 i) hx hb hr (fun t ht hW => ⟨⟨G 1 i, (), rfl, ⟨cT_ok hn hin, by rw [nI_clamp (by omega)]⟩, trivial⟩, hS.F ht⟩) hS.2.2 dX4_deadline_14
set_option maxHeartbeats 1000000 in
set_option maxRecDepth 100000 in
/-- virtualDeadline -/
theorem c_X4_virtualDeadline (l : Launch) (hst : l.stackTraces = false) (dC : Nat → ClassId) (dI : Nat → Nat → Nat) (cy : Nat → ClassId) (sz : Nat) (d0 : Nat) (o : Nat → Nat) (F : Nat → Int32) (bc : Nat → Nat) (G : vG) (n : Nat) (hn : n ≤ 8) (sc : Int32) (p0 : Int32) : vx_Met l yX4_virtualDeadline wsX4_virtualDeadline ({ frames := 7, cells := 1, slots := 6, locals := 103 }) (va_Pc [.ref d0, .int p0] (pR dC dI cy (wObj d0 o F ++ (wCfg cy (o 0) bc G (nI n) sc)) sz)) (va_Qi (fun (r : Int32) (_ : Unit) => cT n p0 = 0 ∧ r = vdl G sc p0.toNatClampNeg) (fun (_ : Unit) (_ : State) => True) (fun q => sz ≤ q)) (vx_X (fun (_ : Unit) => True) (fun (E : String) (_ : Unit) (_ : State) => E = "java/lang/IndexOutOfBoundsException" ∧ cT n p0 = 1) (fun q => sz ≤ q)) 1 6 (fun q => sz ≤ q) := by
  refine vx_ofW (cc := cX4_virtualDeadline) (maxL := 2) (ret := some .int) (by decide) rfl ?_
  intro p e s m args below meth c s₁ B hml hnt hv
  obtain ⟨rfl, hsz, hP, hE, hX, hZ⟩ := hv
  have hK := hE.1
  subst hsz
  have hS : va_S (fun q => s.heap.size ≤ q) s.heap s.heap [] := va_S.rf
  have hA : ∀ q : Nat, s.heap.size ≤ q → (fun q => s.heap.size ≤ q) q := fun q h => h
  have hP : va_P (dC, dI) vwCl (wObj d0 o F ++ (wCfg cy (o 0) bc G (nI n) sc)) s.heap := hP
  have hx := B.exec
  have hb := B.bytes
  have hr := B.returns
  have hts := atoms_spec (ws := wsX4_virtualDeadline) B.pre
  have hown : s.vm.findClass RX4 = some m.cls := findClass_of_methodNamed B.named
  have hlocks := B.notSynchronized
  have hin0 : ∀ w ∈ u_ws RX0 TX0 9, w ∈ wsX4_virtualDeadline := by decide +kernel
  have hin4 : ∀ w ∈ u_ws RX4 TX4 12, w ∈ wsX4_virtualDeadline := by decide +kernel
  have f_12 := hts (.fieldLink RX4 12 "DeadlineAdmission" "current" "LDeadlineAdmission$Configuration;") (by decide +kernel)
  have f_154 := va_Nw.use (A := ([.ref d0, .int p0].toArray)) rfl (hE.f 12 rfl)
  have hl := lv_entry ([.ref d0, .int p0]) (n := 2) (Nat.le_of_ble_eq_true rfl)
  rw [lg_entry_eq]
  generalize (lg_sl ([.ref d0, .int p0]) ++ List.replicate (2 - (lg_sl ([.ref d0, .int p0])).length) Slot.unset).toArray = ls at hl ⊢
  have hl : lv_has ls 2 [(0, .ref d0), (1, .int p0)] := hl
  refine lv_aload_n hx hb dX4_virtualDeadline_0 rfl (lv_at hl 0 rfl) ?_
  refine lv_iload_n hx hb dX4_virtualDeadline_1 rfl (lv_at hl 1 rfl) ?_
  refine vx_callv (vx_runV (As := [.int p0]) (rest := []) ⟨hx, hb, hml, hown, hts⟩ (c_X4_requireTask l hst dC dI cy s.heap.size d0 o F bc G n hn sc p0) (cwV 1 hts gX4_virtualDeadline_X4_requireTask rfl rfl rfl (by decide +kernel) ⟨Nat.le_of_ble_eq_true rfl, Nat.le_of_ble_eq_true rfl⟩) ⟨bl_R, va_recv hK hP (ci := 4) (q0 := 0) rfl rfl, pr_R hP hE hX hZ hS hA⟩ rfl rfl hl.1 rfl (lv_room (Nat.le_of_ble_eq_true rfl)) dX4_virtualDeadline_2 ⟨Nat.le_of_ble_eq_true rfl, Nat.le_of_ble_eq_true rfl⟩) hS (fun q _ h => hA q (Nat.le_trans hS.1 h)) (fun q h => hA q (Nat.le_trans hS.1 h)) (fun q _ h => hA q (Nat.le_trans hS.1 h)) (fun E ce q9 u t H1 locs ht hvm hpx hBX hz1 hk1 hS hce hcv hcl => ?_) (fun u t H1 locs ht hvm hw hB hz1 hk1 hS => ?_)
  · exact vx_out (fun x hx9 => (hnt x hx9).elim) hlocks hce hcv hcl (fun t ht hvm => ⟨(), trivial, hBX, hS.F ht⟩) hS.2.2 (Nat.le_of_ble_eq_true rfl) (Nat.le_of_ble_eq_true rfl)
  obtain ⟨i, hin, rfl⟩ := cT_get hn hw
  have hP : va_P (dC, dI) vwCl (wObj d0 o F ++ (wCfg cy (o 0) bc G (nI n) sc)) H1 := hP.kept (fun k q hk => hk1 q.1 ((hP k q hk).lt) (Nat.not_le.mpr ((hP k q hk).lt)))
  clear hz1 hk1
  generalize H1 = H at hP hS ⊢
  refine lv_aload_n hx hb dX4_virtualDeadline_5 rfl (lv_at hl 0 rfl) ?_
  refine va_get (D := (dC, dI)) (ci := 4) (v := .ref (o 0)) (C := RX4) (T := TX4) (N := 12) hx hb hts hin4 hown hK hP 0 rfl rfl 0 (by decide) f_12 (fun _ h9 => h9) rfl dX4_virtualDeadline_6 ?_
  refine lv_iload_n hx hb dX4_virtualDeadline_9 rfl (lv_at hl 1 rfl) ?_
  refine lv_aload_n hx hb dX4_virtualDeadline_10 rfl (lv_at hl 0 rfl) ?_
  refine va_get (D := (dC, dI)) (ci := 4) (v := .ref (o 0)) (C := RX4) (T := TX4) (N := 12) hx hb hts hin4 hown hK hP 0 rfl rfl 0 (by decide) f_12 (fun _ h9 => h9) rfl dX4_virtualDeadline_11 ?_
  refine va_getN (D := (dC, dI)) (ci := 0) (v := .int sc) (C := RX0) (T := TX0) (N := 9) hx hb hts hin0 hown hK hP 1 rfl rfl 8 (by decide) f_154 (fun _ h9 => h9) rfl dX4_virtualDeadline_14 ?_
  refine vp_callSi (va_runV (As := [.int (nI i), .int sc]) (rest := []) ⟨hx, hb, hml, hown, hts⟩ (c_X0_deadlineWithScale l dC dI cy (o 0) bc G (nI n) sc sc i (by omega)) (cwV 2 hts gX4_virtualDeadline_X0_deadlineWithScale rfl rfl rfl (by decide +kernel) ⟨Nat.le_of_ble_eq_true rfl, Nat.le_of_ble_eq_true rfl⟩) ⟨bl_ro, va_recv hK (hP.sub (ws' := wCfg cy (o 0) bc G (nI n) sc) [1, 2, 3, 4, 5, 6, 7, 8] rfl) (ci := 0) (q0 := 0) rfl rfl, pr_ro (hP.sub (ws' := wCfg cy (o 0) bc G (nI n) sc) [1, 2, 3, 4, 5, 6, 7, 8] rfl) hE⟩ rfl rfl hl.1 rfl (lv_room (Nat.le_of_ble_eq_true rfl)) dX4_virtualDeadline_17 ⟨Nat.le_of_ble_eq_true rfl, Nat.le_of_ble_eq_true rfl⟩).run (fun r e_r => ?_)
  subst e_r
  refine vx_ret ?_
  refine W.widen (k := 1) (n := 6) (Nat.le_of_ble_eq_true rfl) (Nat.le_of_ble_eq_true rfl) ?_
  exact W.iret (v := vdl G sc i) hx hb hr (fun t ht hW => ⟨⟨vdl G sc i, (), rfl, ⟨cT_ok hn hin, by rw [nI_clamp (by omega)]⟩, trivial⟩, hS.F ht⟩) hS.2.2 dX4_virtualDeadline_20
set_option maxHeartbeats 1000000 in
set_option maxRecDepth 100000 in
/-- level -/
theorem c_X4_level (l : Launch) (hst : l.stackTraces = false) (dC : Nat → ClassId) (dI : Nat → Nat → Nat) (cy : Nat → ClassId) (sz : Nat) (d0 : Nat) (o : Nat → Nat) (F : Nat → Int32) (bc : Nat → Nat) (G : vG) (n : Nat) (hn : n ≤ 8) (sc : Int32) (p0 : Int32) : vx_Met l yX4_level wsX4_level ({ frames := 7, cells := 1, slots := 6, locals := 103 }) (va_Pc [.ref d0, .int p0] (pR dC dI cy (wObj d0 o F ++ (wCfg cy (o 0) bc G (nI n) sc)) sz)) (va_Qi (fun (r : Int32) (_ : Unit) => cT n p0 = 0 ∧ r = G 6 p0.toNatClampNeg) (fun (_ : Unit) (_ : State) => True) (fun q => sz ≤ q)) (vx_X (fun (_ : Unit) => True) (fun (E : String) (_ : Unit) (_ : State) => E = "java/lang/IndexOutOfBoundsException" ∧ cT n p0 = 1) (fun q => sz ≤ q)) 1 6 (fun q => sz ≤ q) := by
  refine vx_ofW (cc := cX4_level) (maxL := 2) (ret := some .int) (by decide) rfl ?_
  intro p e s m args below meth c s₁ B hml hnt hv
  obtain ⟨rfl, hsz, hP, hE, hX, hZ⟩ := hv
  have hK := hE.1
  subst hsz
  have hS : va_S (fun q => s.heap.size ≤ q) s.heap s.heap [] := va_S.rf
  have hA : ∀ q : Nat, s.heap.size ≤ q → (fun q => s.heap.size ≤ q) q := fun q h => h
  have hP : va_P (dC, dI) vwCl (wObj d0 o F ++ (wCfg cy (o 0) bc G (nI n) sc)) s.heap := hP
  have hx := B.exec
  have hb := B.bytes
  have hr := B.returns
  have hts := atoms_spec (ws := wsX4_level) B.pre
  have hown : s.vm.findClass RX4 = some m.cls := findClass_of_methodNamed B.named
  have hlocks := B.notSynchronized
  have hin0 : ∀ w ∈ u_ws RX0 TX0 9, w ∈ wsX4_level := by decide +kernel
  have hin4 : ∀ w ∈ u_ws RX4 TX4 12, w ∈ wsX4_level := by decide +kernel
  have f_12 := hts (.fieldLink RX4 12 "DeadlineAdmission" "current" "LDeadlineAdmission$Configuration;") (by decide +kernel)
  have f_132 := va_Nw.use (A := ([.ref d0, .int p0].toArray)) rfl (hE.f 8 rfl)
  have hl := lv_entry ([.ref d0, .int p0]) (n := 2) (Nat.le_of_ble_eq_true rfl)
  rw [lg_entry_eq]
  generalize (lg_sl ([.ref d0, .int p0]) ++ List.replicate (2 - (lg_sl ([.ref d0, .int p0])).length) Slot.unset).toArray = ls at hl ⊢
  have hl : lv_has ls 2 [(0, .ref d0), (1, .int p0)] := hl
  refine lv_aload_n hx hb dX4_level_0 rfl (lv_at hl 0 rfl) ?_
  refine lv_iload_n hx hb dX4_level_1 rfl (lv_at hl 1 rfl) ?_
  refine vx_callv (vx_runV (As := [.int p0]) (rest := []) ⟨hx, hb, hml, hown, hts⟩ (c_X4_requireTask l hst dC dI cy s.heap.size d0 o F bc G n hn sc p0) (cwV 1 hts gX4_level_X4_requireTask rfl rfl rfl (by decide +kernel) ⟨Nat.le_of_ble_eq_true rfl, Nat.le_of_ble_eq_true rfl⟩) ⟨bl_R, va_recv hK hP (ci := 4) (q0 := 0) rfl rfl, pr_R hP hE hX hZ hS hA⟩ rfl rfl hl.1 rfl (lv_room (Nat.le_of_ble_eq_true rfl)) dX4_level_2 ⟨Nat.le_of_ble_eq_true rfl, Nat.le_of_ble_eq_true rfl⟩) hS (fun q _ h => hA q (Nat.le_trans hS.1 h)) (fun q h => hA q (Nat.le_trans hS.1 h)) (fun q _ h => hA q (Nat.le_trans hS.1 h)) (fun E ce q9 u t H1 locs ht hvm hpx hBX hz1 hk1 hS hce hcv hcl => ?_) (fun u t H1 locs ht hvm hw hB hz1 hk1 hS => ?_)
  · exact vx_out (fun x hx9 => (hnt x hx9).elim) hlocks hce hcv hcl (fun t ht hvm => ⟨(), trivial, hBX, hS.F ht⟩) hS.2.2 (Nat.le_of_ble_eq_true rfl) (Nat.le_of_ble_eq_true rfl)
  obtain ⟨i, hin, rfl⟩ := cT_get hn hw
  have hP : va_P (dC, dI) vwCl (wObj d0 o F ++ (wCfg cy (o 0) bc G (nI n) sc)) H1 := hP.kept (fun k q hk => hk1 q.1 ((hP k q hk).lt) (Nat.not_le.mpr ((hP k q hk).lt)))
  clear hz1 hk1
  generalize H1 = H at hP hS ⊢
  refine lv_aload_n hx hb dX4_level_5 rfl (lv_at hl 0 rfl) ?_
  refine va_get (D := (dC, dI)) (ci := 4) (v := .ref (o 0)) (C := RX4) (T := TX4) (N := 12) hx hb hts hin4 hown hK hP 0 rfl rfl 0 (by decide) f_12 (fun _ h9 => h9) rfl dX4_level_6 ?_
  refine va_getN (D := (dC, dI)) (ci := 0) (v := .ref (bc 6)) (C := RX0) (T := TX0) (N := 9) hx hb hts hin0 hown hK hP 1 rfl rfl 6 (by decide) f_132 (fun _ h9 => h9) rfl dX4_level_9 ?_
  refine lv_iload_n hx hb dX4_level_12 rfl (lv_at hl 1 rfl) ?_
  refine wI_alv (v := G 6 i) hx hb hK hP 8 0 rfl rfl i rfl (by omega) (by decide) rfl dX4_level_13 ?_
  refine vx_ret ?_
  refine W.widen (k := 1) (n := 6) (Nat.le_of_ble_eq_true rfl) (Nat.le_of_ble_eq_true rfl) ?_
  exact W.iret (v := G 6 i) hx hb hr (fun t ht hW => ⟨⟨G 6 i, (), rfl, ⟨cT_ok hn hin, by rw [nI_clamp (by omega)]⟩, trivial⟩, hS.F ht⟩) hS.2.2 dX4_level_14
set_option maxHeartbeats 1000000 in
set_option maxRecDepth 100000 in
/-- isCritical -/
theorem c_X4_isCritical (l : Launch) (hst : l.stackTraces = false) (dC : Nat → ClassId) (dI : Nat → Nat → Nat) (cy : Nat → ClassId) (sz : Nat) (d0 : Nat) (o : Nat → Nat) (F : Nat → Int32) (bc : Nat → Nat) (G : vG) (n : Nat) (hn : n ≤ 8) (sc : Int32) (p0 : Int32) : vx_Met l yX4_isCritical wsX4_isCritical ({ frames := 7, cells := 1, slots := 6, locals := 103 }) (va_Pc [.ref d0, .int p0] (pR dC dI cy (wObj d0 o F ++ (wCfg cy (o 0) bc G (nI n) sc)) sz)) (va_Qi (fun (r : Int32) (_ : Unit) => cT n p0 = 0 ∧ r = (if G 3 p0.toNatClampNeg ≤ 0 then 0 else 1)) (fun (_ : Unit) (_ : State) => True) (fun q => sz ≤ q)) (vx_X (fun (_ : Unit) => True) (fun (E : String) (_ : Unit) (_ : State) => E = "java/lang/IndexOutOfBoundsException" ∧ cT n p0 = 1) (fun q => sz ≤ q)) 1 6 (fun q => sz ≤ q) := by
  refine vx_ofW (cc := cX4_isCritical) (maxL := 2) (ret := some .boolean) (by decide) rfl ?_
  intro p e s m args below meth c s₁ B hml hnt hv
  obtain ⟨rfl, hsz, hP, hE, hX, hZ⟩ := hv
  have hK := hE.1
  subst hsz
  have hS : va_S (fun q => s.heap.size ≤ q) s.heap s.heap [] := va_S.rf
  have hA : ∀ q : Nat, s.heap.size ≤ q → (fun q => s.heap.size ≤ q) q := fun q h => h
  have hP : va_P (dC, dI) vwCl (wObj d0 o F ++ (wCfg cy (o 0) bc G (nI n) sc)) s.heap := hP
  have hx := B.exec
  have hb := B.bytes
  have hr := B.returns
  have hts := atoms_spec (ws := wsX4_isCritical) B.pre
  have hown : s.vm.findClass RX4 = some m.cls := findClass_of_methodNamed B.named
  have hlocks := B.notSynchronized
  have hin4 : ∀ w ∈ u_ws RX4 TX4 12, w ∈ wsX4_isCritical := by decide +kernel
  have f_12 := hts (.fieldLink RX4 12 "DeadlineAdmission" "current" "LDeadlineAdmission$Configuration;") (by decide +kernel)
  have hl := lv_entry ([.ref d0, .int p0]) (n := 2) (Nat.le_of_ble_eq_true rfl)
  rw [lg_entry_eq]
  generalize (lg_sl ([.ref d0, .int p0]) ++ List.replicate (2 - (lg_sl ([.ref d0, .int p0])).length) Slot.unset).toArray = ls at hl ⊢
  have hl : lv_has ls 2 [(0, .ref d0), (1, .int p0)] := hl
  refine lv_aload_n hx hb dX4_isCritical_0 rfl (lv_at hl 0 rfl) ?_
  refine lv_iload_n hx hb dX4_isCritical_1 rfl (lv_at hl 1 rfl) ?_
  refine vx_callv (vx_runV (As := [.int p0]) (rest := []) ⟨hx, hb, hml, hown, hts⟩ (c_X4_requireTask l hst dC dI cy s.heap.size d0 o F bc G n hn sc p0) (cwV 1 hts gX4_isCritical_X4_requireTask rfl rfl rfl (by decide +kernel) ⟨Nat.le_of_ble_eq_true rfl, Nat.le_of_ble_eq_true rfl⟩) ⟨bl_R, va_recv hK hP (ci := 4) (q0 := 0) rfl rfl, pr_R hP hE hX hZ hS hA⟩ rfl rfl hl.1 rfl (lv_room (Nat.le_of_ble_eq_true rfl)) dX4_isCritical_2 ⟨Nat.le_of_ble_eq_true rfl, Nat.le_of_ble_eq_true rfl⟩) hS (fun q _ h => hA q (Nat.le_trans hS.1 h)) (fun q h => hA q (Nat.le_trans hS.1 h)) (fun q _ h => hA q (Nat.le_trans hS.1 h)) (fun E ce q9 u t H1 locs ht hvm hpx hBX hz1 hk1 hS hce hcv hcl => ?_) (fun u t H1 locs ht hvm hw hB hz1 hk1 hS => ?_)
  · exact vx_out (fun x hx9 => (hnt x hx9).elim) hlocks hce hcv hcl (fun t ht hvm => ⟨(), trivial, hBX, hS.F ht⟩) hS.2.2 (Nat.le_of_ble_eq_true rfl) (Nat.le_of_ble_eq_true rfl)
  obtain ⟨i, hin, rfl⟩ := cT_get hn hw
  have hP : va_P (dC, dI) vwCl (wObj d0 o F ++ (wCfg cy (o 0) bc G (nI n) sc)) H1 := hP.kept (fun k q hk => hk1 q.1 ((hP k q hk).lt) (Nat.not_le.mpr ((hP k q hk).lt)))
  clear hz1 hk1
  generalize H1 = H at hP hS ⊢
  refine lv_aload_n hx hb dX4_isCritical_5 rfl (lv_at hl 0 rfl) ?_
  refine va_get (D := (dC, dI)) (ci := 4) (v := .ref (o 0)) (C := RX4) (T := TX4) (N := 12) hx hb hts hin4 hown hK hP 0 rfl rfl 0 (by decide) f_12 (fun _ h9 => h9) rfl dX4_isCritical_6 ?_
  refine lv_iload_n hx hb dX4_isCritical_9 rfl (lv_at hl 1 rfl) ?_
  refine vp_callSi (va_runV (As := [.int (nI i)]) (rest := []) ⟨hx, hb, hml, hown, hts⟩ (c_X0_hasHighBudget l dC dI cy (o 0) bc G (nI n) sc  i (by omega)) (cwV 1 hts gX4_isCritical_X0_hasHighBudget rfl rfl rfl (by decide +kernel) ⟨Nat.le_of_ble_eq_true rfl, Nat.le_of_ble_eq_true rfl⟩) ⟨bl_ro, va_recv hK (hP.sub (ws' := wCfg cy (o 0) bc G (nI n) sc) [1, 2, 3, 4, 5, 6, 7, 8] rfl) (ci := 0) (q0 := 0) rfl rfl, pr_ro (hP.sub (ws' := wCfg cy (o 0) bc G (nI n) sc) [1, 2, 3, 4, 5, 6, 7, 8] rfl) hE⟩ rfl rfl hl.1 rfl (lv_room (Nat.le_of_ble_eq_true rfl)) dX4_isCritical_10 ⟨Nat.le_of_ble_eq_true rfl, Nat.le_of_ble_eq_true rfl⟩).run (fun r e_r => ?_)
  subst e_r
  refine vx_ret ?_
  refine W.widen (k := 1) (n := 6) (Nat.le_of_ble_eq_true rfl) (Nat.le_of_ble_eq_true rfl) ?_
  exact W.zret (v := if G 3 i ≤ 0 then 0 else 1) hx hb hr (by split <;> rfl) (fun t ht hW => ⟨⟨if G 3 i ≤ 0 then 0 else 1, (), rfl, ⟨cT_ok hn hin, by rw [nI_clamp (by omega)]⟩, trivial⟩, hS.F ht⟩) hS.2.2 dX4_isCritical_13
theorem cM_1 {p : Int32} (h : cM p = 0) (h0 : ¬ p = 0) : p = 1 := by
  unfold cM at h
  split at h
  · rename_i q; exact q.resolve_left h0
  · exact absurd h (by decide)
set_option maxHeartbeats 1000000 in
set_option maxRecDepth 100000 in
/-- budget -/
theorem c_X4_budget (l : Launch) (hst : l.stackTraces = false) (dC : Nat → ClassId) (dI : Nat → Nat → Nat) (cy : Nat → ClassId) (sz : Nat) (d0 : Nat) (o : Nat → Nat) (F : Nat → Int32) (bc : Nat → Nat) (G : vG) (n : Nat) (hn : n ≤ 8) (sc : Int32) (p0 p1 : Int32) : vx_Met l yX4_budget wsX4_budget ({ frames := 7, cells := 3, slots := 18, locals := 103 }) (va_Pc [.ref d0, .int p0, .int p1] (pR dC dI cy (wObj d0 o F ++ (wCfg cy (o 0) bc G (nI n) sc)) sz)) (va_Qi (fun (r : Int32) (_ : Unit) => cBud G n p0 p1 = 0 ∧ r = vBud G p0 p1) (fun (_ : Unit) (_ : State) => True) (fun q => sz ≤ q)) (vx_X (fun (_ : Unit) => True) (fun (E : String) (_ : Unit) (_ : State) => (E = "java/lang/IndexOutOfBoundsException" ∧ cBud G n p0 p1 = 1) ∨ (E = "java/lang/IllegalArgumentException" ∧ cBud G n p0 p1 = 2) ∨ (E = "java/lang/UnsupportedOperationException" ∧ cBud G n p0 p1 = 3)) (fun q => sz ≤ q)) 3 18 (fun q => sz ≤ q) := by
  refine vx_ofW (cc := cX4_budget) (maxL := 3) (ret := some .int) (by decide) rfl ?_
  intro p e s m args below meth c s₁ B hml hnt hv
  obtain ⟨rfl, hsz, hP, hE, hX, hZ⟩ := hv
  have hK := hE.1
  subst hsz
  have hS : va_S (fun q => s.heap.size ≤ q) s.heap s.heap [] := va_S.rf
  have hA : ∀ q : Nat, s.heap.size ≤ q → (fun q => s.heap.size ≤ q) q := fun q h => h
  have hP : va_P (dC, dI) vwCl (wObj d0 o F ++ (wCfg cy (o 0) bc G (nI n) sc)) s.heap := hP
  have hx := B.exec
  have hb := B.bytes
  have hr := B.returns
  have hts := atoms_spec (ws := wsX4_budget) B.pre
  have hown : s.vm.findClass RX4 = some m.cls := findClass_of_methodNamed B.named
  have hlocks := B.notSynchronized
  have hin0 : ∀ w ∈ u_ws RX0 TX0 9, w ∈ wsX4_budget := by decide +kernel
  have hin4 : ∀ w ∈ u_ws RX4 TX4 12, w ∈ wsX4_budget := by decide +kernel
  have f_12 := hts (.fieldLink RX4 12 "DeadlineAdmission" "current" "LDeadlineAdmission$Configuration;") (by decide +kernel)
  have f_170 := va_Nw.use (A := ([.ref d0, .int p0, .int p1].toArray)) rfl (hE.f 3 rfl)
  have f_182 := va_Nw.use (A := ([.ref d0, .int p0, .int p1].toArray)) rfl (hE.f 5 rfl)
  have hl := lv_entry ([.ref d0, .int p0, .int p1]) (n := 3) (Nat.le_of_ble_eq_true rfl)
  rw [lg_entry_eq]
  generalize (lg_sl ([.ref d0, .int p0, .int p1]) ++ List.replicate (3 - (lg_sl ([.ref d0, .int p0, .int p1])).length) Slot.unset).toArray = ls at hl ⊢
  have hl : lv_has ls 3 [(0, .ref d0), (1, .int p0), (2, .int p1)] := hl
  refine lv_aload_n hx hb dX4_budget_0 rfl (lv_at hl 0 rfl) ?_
  refine lv_iload_n hx hb dX4_budget_1 rfl (lv_at hl 1 rfl) ?_
  refine vx_callv (vx_runV (As := [.int p0]) (rest := []) ⟨hx, hb, hml, hown, hts⟩ (c_X4_requireTask l hst dC dI cy s.heap.size d0 o F bc G n hn sc p0) (cwV 1 hts gX4_budget_X4_requireTask rfl rfl rfl (by decide +kernel) ⟨Nat.le_of_ble_eq_true rfl, Nat.le_of_ble_eq_true rfl⟩) ⟨bl_R, va_recv hK hP (ci := 4) (q0 := 0) rfl rfl, pr_R hP hE hX hZ hS hA⟩ rfl rfl hl.1 rfl (lv_room (Nat.le_of_ble_eq_true rfl)) dX4_budget_2 ⟨Nat.le_of_ble_eq_true rfl, Nat.le_of_ble_eq_true rfl⟩) hS (fun q _ h => hA q (Nat.le_trans hS.1 h)) (fun q h => hA q (Nat.le_trans hS.1 h)) (fun q _ h => hA q (Nat.le_trans hS.1 h)) (fun E ce q9 u t H1 locs ht hvm hpx hBX hz1 hk1 hS hce hcv hcl => ?_) (fun u t H1 locs ht hvm hw hB hz1 hk1 hS => ?_)
  · exact vx_out (fun x hx9 => (hnt x hx9).elim) hlocks hce hcv hcl (fun t ht hvm => ⟨(), trivial, (Or.inl ⟨hBX.1, if_neg (fun h => absurd (hBX.2.symm.trans h) (by decide))⟩), hS.F ht⟩) hS.2.2 (Nat.le_of_ble_eq_true rfl) (Nat.le_of_ble_eq_true rfl)
  obtain ⟨i, hin, rfl⟩ := cT_get hn hw
  have hP : va_P (dC, dI) vwCl (wObj d0 o F ++ (wCfg cy (o 0) bc G (nI n) sc)) H1 := hP.kept (fun k q hk => hk1 q.1 ((hP k q hk).lt) (Nat.not_le.mpr ((hP k q hk).lt)))
  clear hz1 hk1
  generalize H1 = H at hP hS ⊢
  refine lv_iload_n hx hb dX4_budget_5 rfl (lv_at hl 2 rfl) ?_
  have hP0 : va_P (dC, dI) vwCl [] H := fun k q h => by simp at h
  refine vx_callv (vx_runS (As := [.int p1]) (rest := []) ⟨hx, hb, hml, hown, hts⟩ (c_X4_requireMode l hst dC dI cy H.size p1) (cwS 1 hts gX4_budget_X4_requireMode rfl rfl rfl (by decide +kernel) ⟨Nat.le_of_ble_eq_true rfl, Nat.le_of_ble_eq_true rfl⟩) ⟨bl_R, pr_R hP0 hE hX hZ hS hA⟩ rfl rfl hl.1 rfl (lv_room (Nat.le_of_ble_eq_true rfl)) dX4_budget_6 ⟨Nat.le_of_ble_eq_true rfl, Nat.le_of_ble_eq_true rfl⟩) hS (fun q _ h => hA q (Nat.le_trans hS.1 h)) (fun q h => hA q (Nat.le_trans hS.1 h)) (fun q _ h => hA q (Nat.le_trans hS.1 h)) (fun E ce q9 u t H1 locs ht hvm hpx hBX hz1 hk1 hS hce hcv hcl => ?_) (fun u t H1 locs ht hvm hw hB hz1 hk1 hS => ?_)
  · exact vx_out (fun x hx9 => (hnt x hx9).elim) hlocks hce hcv hcl (fun t ht hvm => ⟨(), trivial, (Or.inr (Or.inl ⟨hBX.1, by rw [cBud, if_pos (cT_ok hn hin), if_neg (fun h => absurd (hBX.2.symm.trans h) (by decide))]⟩)), hS.F ht⟩) hS.2.2 (Nat.le_of_ble_eq_true rfl) (Nat.le_of_ble_eq_true rfl)
  have hm9 := hw
  have hP : va_P (dC, dI) vwCl (wObj d0 o F ++ (wCfg cy (o 0) bc G (nI n) sc)) H1 := hP.kept (fun k q hk => hk1 q.1 ((hP k q hk).lt) (Nat.not_le.mpr ((hP k q hk).lt)))
  clear hz1 hk1
  generalize H1 = H at hP hS ⊢
  refine lv_iload_n hx hb dX4_budget_9 rfl (lv_at hl 2 rfl) ?_
  refine lv_if_ne (tgt := 23) hx hb dX4_budget_10 (by decide) (fun c_10 => ?_) (fun c_10 => ?_)
  · refine lv_aload_n hx hb dX4_budget_23 rfl (lv_at hl 0 rfl) ?_
    refine va_get (D := (dC, dI)) (ci := 4) (v := .ref (o 0)) (C := RX4) (T := TX4) (N := 12) hx hb hts hin4 hown hK hP 0 rfl rfl 0 (by decide) f_12 (fun _ h9 => h9) rfl dX4_budget_24 ?_
    refine lv_iload_n hx hb dX4_budget_27 rfl (lv_at hl 1 rfl) ?_
    refine vp_callSi (va_runV (As := [.int (nI i)]) (rest := []) ⟨hx, hb, hml, hown, hts⟩ (c_X0_hasHighBudget l dC dI cy (o 0) bc G (nI n) sc  i (by omega)) (cwV 1 hts gX4_budget_X0_hasHighBudget rfl rfl rfl (by decide +kernel) ⟨Nat.le_of_ble_eq_true rfl, Nat.le_of_ble_eq_true rfl⟩) ⟨bl_ro, va_recv hK (hP.sub (ws' := wCfg cy (o 0) bc G (nI n) sc) [1, 2, 3, 4, 5, 6, 7, 8] rfl) (ci := 0) (q0 := 0) rfl rfl, pr_ro (hP.sub (ws' := wCfg cy (o 0) bc G (nI n) sc) [1, 2, 3, 4, 5, 6, 7, 8] rfl) hE⟩ rfl rfl hl.1 rfl (lv_room (Nat.le_of_ble_eq_true rfl)) dX4_budget_28 ⟨Nat.le_of_ble_eq_true rfl, Nat.le_of_ble_eq_true rfl⟩).run (fun r e_r => ?_)
    subst e_r
    refine lv_if_ne (tgt := 44) hx hb dX4_budget_31 (by decide) (fun c_31 => ?_) (fun c_31 => ?_)
    · refine lv_aload_n hx hb dX4_budget_44 rfl (lv_at hl 0 rfl) ?_
      refine va_get (D := (dC, dI)) (ci := 4) (v := .ref (o 0)) (C := RX4) (T := TX4) (N := 12) hx hb hts hin4 hown hK hP 0 rfl rfl 0 (by decide) f_12 (fun _ h9 => h9) rfl dX4_budget_45 ?_
      refine va_getN (D := (dC, dI)) (ci := 0) (v := .ref (bc 3)) (C := RX0) (T := TX0) (N := 9) hx hb hts hin0 hown hK hP 1 rfl rfl 3 (by decide) f_182 (fun _ h9 => h9) rfl dX4_budget_48 ?_
      refine lv_iload_n hx hb dX4_budget_51 rfl (lv_at hl 1 rfl) ?_
      refine wI_alv (v := G 3 i) hx hb hK hP 5 0 rfl rfl i rfl (by omega) (by decide) rfl dX4_budget_52 ?_
      refine vx_ret ?_
      refine W.widen (k := 3) (n := 18) (Nat.le_of_ble_eq_true rfl) (Nat.le_of_ble_eq_true rfl) ?_
      exact W.iret (v := G 3 i) hx hb hr (fun t ht hW => ⟨⟨G 3 i, (), rfl, ⟨by rw [cBud, if_pos (cT_ok hn hin), if_pos hm9, if_neg (fun h => c_31 (b01.mpr (by rw [nI_clamp (by omega)] at h; exact h.2)))], by rw [vBud, if_neg c_10, nI_clamp (by omega)]⟩, trivial⟩, hS.F ht⟩) hS.2.2 dX4_budget_53
    · obtain ⟨sa, hsa⟩ := hX.s 9 (k := 179) (t := "the task is not critical") rfl
      exact vx_throwS (names := ["java/lang/RuntimeException", "java/lang/Exception"]) hx hb hst hown (by decide +kernel) (by decide +kernel) (hts (.classLink RX4 177 "java/lang/UnsupportedOperationException") (by decide +kernel)) (hts (.initialized "java/lang/UnsupportedOperationException") (by decide +kernel)) hsa (vx_hat (fun w h => hts w (List.mem_cons_of_mem _ (List.mem_append_left _ (List.mem_append_left _ (List.mem_append_right _ h))))) ng_UOE (vx_c (va_Nw.use rfl (hX.c 3 rfl)) (vx_c (va_Nw.use rfl (hX.d 0 rfl)) (vx_c (va_Nw.use rfl (hX.d 1 rfl)) (vx_c (va_Nw.use rfl (hX.d 2 rfl)) vx_n))))) ot_UOE hZ.1 hZ.2 hS (hl.1.trans hml.symm) dX4_budget_34 dX4_budget_37 dX4_budget_38 dX4_budget_40 dX4_budget_43 (fun x hx9 => (hnt x hx9).elim) (Nat.le_of_ble_eq_true rfl) (Nat.le_of_ble_eq_true rfl) (Nat.le_of_ble_eq_true rfl) (Nat.le_of_ble_eq_true rfl) hlocks (fun t hvm hz hk => ⟨(), trivial, Or.inr (Or.inr ⟨rfl, by rw [cBud, if_pos (cT_ok hn hin), if_pos hm9, if_pos ⟨cM_1 hm9 c_10, by rw [nI_clamp (by omega)]; exact b01.mp c_31⟩]⟩), ⟨Nat.le_trans hS.1 hz, fun q h1 h2 => (hk q (Nat.lt_of_lt_of_le h1 hS.1)).trans (hS.2.1 q h1 h2)⟩⟩) hS.2.2 (Nat.le_of_ble_eq_true rfl) (Nat.le_of_ble_eq_true rfl)
  · refine lv_aload_n hx hb dX4_budget_13 rfl (lv_at hl 0 rfl) ?_
    refine va_get (D := (dC, dI)) (ci := 4) (v := .ref (o 0)) (C := RX4) (T := TX4) (N := 12) hx hb hts hin4 hown hK hP 0 rfl rfl 0 (by decide) f_12 (fun _ h9 => h9) rfl dX4_budget_14 ?_
    refine va_getN (D := (dC, dI)) (ci := 0) (v := .ref (bc 2)) (C := RX0) (T := TX0) (N := 9) hx hb hts hin0 hown hK hP 1 rfl rfl 2 (by decide) f_170 (fun _ h9 => h9) rfl dX4_budget_17 ?_
    refine lv_iload_n hx hb dX4_budget_20 rfl (lv_at hl 1 rfl) ?_
    refine wI_alv (v := G 2 i) hx hb hK hP 4 0 rfl rfl i rfl (by omega) (by decide) rfl dX4_budget_21 ?_
    refine vx_ret ?_
    refine W.widen (k := 3) (n := 18) (Nat.le_of_ble_eq_true rfl) (Nat.le_of_ble_eq_true rfl) ?_
    exact W.iret (v := G 2 i) hx hb hr (fun t ht hW => ⟨⟨G 2 i, (), rfl, ⟨by rw [cBud, if_pos (cT_ok hn hin), if_pos hm9, if_neg (fun h => absurd (c_10.symm.trans h.1) (by decide))], by rw [vBud, if_pos c_10, nI_clamp (by omega)]⟩, trivial⟩, hS.F ht⟩) hS.2.2 dX4_budget_22
set_option maxHeartbeats 1000000 in
set_option maxRecDepth 100000 in
/-- demand -/
theorem c_X4_demand (l : Launch) (hst : l.stackTraces = false) (dC : Nat → ClassId) (dI : Nat → Nat → Nat) (cy : Nat → ClassId) (sz : Nat) (d0 : Nat) (o : Nat → Nat) (F : Nat → Int32) (bc : Nat → Nat) (G : vG) (n : Nat) (hn : n ≤ 8) (sc : Int32) (p0 p1 : Int32) : vx_Met l yX4_demand wsX4_demand ({ frames := 7, cells := 2, slots := 12, locals := 102 }) (va_Pc [.ref d0, .int p0, .int p1] (pR dC dI cy (wObj d0 o F ++ (wCfg cy (o 0) bc G (nI n) sc)) sz)) (va_Qi (fun (r : Int32) (_ : Unit) => cDem p0 p1 = 0 ∧ r = tdem G n sc p0 p1) (fun (_ : Unit) (_ : State) => True) (fun q => sz ≤ q)) (vx_X (fun (_ : Unit) => True) (fun (E : String) (_ : Unit) (_ : State) => E = "java/lang/IllegalArgumentException" ∧ cDem p0 p1 = 1) (fun q => sz ≤ q)) 2 12 (fun q => sz ≤ q) := by
  refine vx_ofW (cc := cX4_demand) (maxL := 3) (ret := some .int) (by decide) rfl ?_
  intro p e s m args below meth c s₁ B hml hnt hv
  obtain ⟨rfl, hsz, hP, hE, hX, hZ⟩ := hv
  have hK := hE.1
  subst hsz
  have hS : va_S (fun q => s.heap.size ≤ q) s.heap s.heap [] := va_S.rf
  have hA : ∀ q : Nat, s.heap.size ≤ q → (fun q => s.heap.size ≤ q) q := fun q h => h
  have hP : va_P (dC, dI) vwCl (wObj d0 o F ++ (wCfg cy (o 0) bc G (nI n) sc)) s.heap := hP
  have hx := B.exec
  have hb := B.bytes
  have hr := B.returns
  have hts := atoms_spec (ws := wsX4_demand) B.pre
  have hown : s.vm.findClass RX4 = some m.cls := findClass_of_methodNamed B.named
  have hlocks := B.notSynchronized
  have hin0 : ∀ w ∈ u_ws RX0 TX0 9, w ∈ wsX4_demand := by decide +kernel
  have hin4 : ∀ w ∈ u_ws RX4 TX4 12, w ∈ wsX4_demand := by decide +kernel
  have f_12 := hts (.fieldLink RX4 12 "DeadlineAdmission" "current" "LDeadlineAdmission$Configuration;") (by decide +kernel)
  have f_154 := va_Nw.use (A := ([.ref d0, .int p0, .int p1].toArray)) rfl (hE.f 12 rfl)
  have hl := lv_entry ([.ref d0, .int p0, .int p1]) (n := 3) (Nat.le_of_ble_eq_true rfl)
  rw [lg_entry_eq]
  generalize (lg_sl ([.ref d0, .int p0, .int p1]) ++ List.replicate (3 - (lg_sl ([.ref d0, .int p0, .int p1])).length) Slot.unset).toArray = ls at hl ⊢
  have hl : lv_has ls 3 [(0, .ref d0), (1, .int p0), (2, .int p1)] := hl
  refine lv_iload_n hx hb dX4_demand_0 rfl (lv_at hl 1 rfl) ?_
  have hP0 : va_P (dC, dI) vwCl [] s.heap := fun k q h => by simp at h
  refine vx_callv (vx_runS (As := [.int p0]) (rest := []) ⟨hx, hb, hml, hown, hts⟩ (c_X4_requireMode l hst dC dI cy s.heap.size p0) (cwS 1 hts gX4_demand_X4_requireMode rfl rfl rfl (by decide +kernel) ⟨Nat.le_of_ble_eq_true rfl, Nat.le_of_ble_eq_true rfl⟩) ⟨bl_R, pr_R hP0 hE hX hZ hS hA⟩ rfl rfl hl.1 rfl (lv_room (Nat.le_of_ble_eq_true rfl)) dX4_demand_1 ⟨Nat.le_of_ble_eq_true rfl, Nat.le_of_ble_eq_true rfl⟩) hS (fun q _ h => hA q (Nat.le_trans hS.1 h)) (fun q h => hA q (Nat.le_trans hS.1 h)) (fun q _ h => hA q (Nat.le_trans hS.1 h)) (fun E ce q9 u t H1 locs ht hvm hpx hBX hz1 hk1 hS hce hcv hcl => ?_) (fun u t H1 locs ht hvm hw hB hz1 hk1 hS => ?_)
  · exact vx_out (fun x hx9 => (hnt x hx9).elim) hlocks hce hcv hcl (fun t ht hvm => ⟨(), trivial, ⟨hBX.1, if_neg (fun h => absurd (hBX.2.symm.trans h.1) (by decide))⟩, hS.F ht⟩) hS.2.2 (Nat.le_of_ble_eq_true rfl) (Nat.le_of_ble_eq_true rfl)
  have hm9 := hw
  have hP : va_P (dC, dI) vwCl (wObj d0 o F ++ (wCfg cy (o 0) bc G (nI n) sc)) H1 := hP.kept (fun k q hk => hk1 q.1 ((hP k q hk).lt) (Nat.not_le.mpr ((hP k q hk).lt)))
  clear hz1 hk1
  generalize H1 = H at hP hS ⊢
  refine lv_iload_n hx hb dX4_demand_4 rfl (lv_at hl 2 rfl) ?_
  refine lv_if_lt (tgt := 15) hx hb dX4_demand_5 (by decide) (fun c_5 => ?_) (fun c_5 => ?_)
  · obtain ⟨sa, hsa⟩ := hX.s 10 (k := 185) (t := "t is out of range") rfl
    exact vx_throwS (names := ["java/lang/RuntimeException", "java/lang/Exception"]) hx hb hst hown (by decide +kernel) (by decide +kernel) (hts (.classLink RX4 51 "java/lang/IllegalArgumentException") (by decide +kernel)) (hts (.initialized "java/lang/IllegalArgumentException") (by decide +kernel)) hsa (vx_hat (fun w h => hts w (List.mem_cons_of_mem _ (List.mem_append_right _ h))) ng_IAE (vx_c (va_Nw.use rfl (hX.c 0 rfl)) (vx_c (va_Nw.use rfl (hX.d 0 rfl)) (vx_c (va_Nw.use rfl (hX.d 1 rfl)) (vx_c (va_Nw.use rfl (hX.d 2 rfl)) vx_n))))) ot_IAE hZ.1 hZ.2 hS (hl.1.trans hml.symm) dX4_demand_15 dX4_demand_18 dX4_demand_19 dX4_demand_21 dX4_demand_24 (fun x hx9 => (hnt x hx9).elim) (Nat.le_of_ble_eq_true rfl) (Nat.le_of_ble_eq_true rfl) (Nat.le_of_ble_eq_true rfl) (Nat.le_of_ble_eq_true rfl) hlocks (fun t hvm hz hk => ⟨(), trivial, ⟨rfl, if_neg (fun h => h.2.1 c_5)⟩, ⟨Nat.le_trans hS.1 hz, fun q h1 h2 => (hk q (Nat.lt_of_lt_of_le h1 hS.1)).trans (hS.2.1 q h1 h2)⟩⟩) hS.2.2 (Nat.le_of_ble_eq_true rfl) (Nat.le_of_ble_eq_true rfl)
  · refine lv_iload_n hx hb dX4_demand_8 rfl (lv_at hl 2 rfl) ?_
    refine lv_sipush (v := 200) hx hb dX4_demand_9 (by decide) ?_
    refine lv_icmp_le (tgt := 25) hx hb dX4_demand_12 (by decide) (fun c_12 => ?_) (fun c_12 => ?_)
    · refine lv_aload_n hx hb dX4_demand_25 rfl (lv_at hl 0 rfl) ?_
      refine va_get (D := (dC, dI)) (ci := 4) (v := .ref (o 0)) (C := RX4) (T := TX4) (N := 12) hx hb hts hin4 hown hK hP 0 rfl rfl 0 (by decide) f_12 (fun _ h9 => h9) rfl dX4_demand_26 ?_
      refine lv_iload_n hx hb dX4_demand_29 rfl (lv_at hl 1 rfl) ?_
      refine lv_iload_n hx hb dX4_demand_30 rfl (lv_at hl 2 rfl) ?_
      refine lv_aload_n hx hb dX4_demand_31 rfl (lv_at hl 0 rfl) ?_
      refine va_get (D := (dC, dI)) (ci := 4) (v := .ref (o 0)) (C := RX4) (T := TX4) (N := 12) hx hb hts hin4 hown hK hP 0 rfl rfl 0 (by decide) f_12 (fun _ h9 => h9) rfl dX4_demand_32 ?_
      refine va_getN (D := (dC, dI)) (ci := 0) (v := .int sc) (C := RX0) (T := TX0) (N := 9) hx hb hts hin0 hown hK hP 1 rfl rfl 8 (by decide) f_154 (fun _ h9 => h9) rfl dX4_demand_35 ?_
      refine vp_callSi (va_runV (As := [.int p0, .int p1, .int sc]) (rest := []) ⟨hx, hb, hml, hown, hts⟩ (c_X0_totalDemand l dC dI cy (o 0) bc G n hn sc p0 p1 sc) (cwV 3 hts gX4_demand_X0_totalDemand rfl rfl rfl (by decide +kernel) ⟨Nat.le_of_ble_eq_true rfl, Nat.le_of_ble_eq_true rfl⟩) ⟨bl_ro, va_recv hK (hP.sub (ws' := wCfg cy (o 0) bc G (nI n) sc) [1, 2, 3, 4, 5, 6, 7, 8] rfl) (ci := 0) (q0 := 0) rfl rfl, pr_ro (hP.sub (ws' := wCfg cy (o 0) bc G (nI n) sc) [1, 2, 3, 4, 5, 6, 7, 8] rfl) hE⟩ rfl rfl hl.1 rfl (lv_room (Nat.le_of_ble_eq_true rfl)) dX4_demand_38 ⟨Nat.le_of_ble_eq_true rfl, Nat.le_of_ble_eq_true rfl⟩).run (fun r e_r => ?_)
      subst e_r
      refine vx_ret ?_
      refine W.widen (k := 2) (n := 12) (Nat.le_of_ble_eq_true rfl) (Nat.le_of_ble_eq_true rfl) ?_
      exact W.iret (v := tdem G n sc p0 p1) hx hb hr (fun t ht hW => ⟨⟨tdem G n sc p0 p1, (), rfl, ⟨if_pos ⟨hm9, c_5, Int32.not_lt.mpr c_12⟩, rfl⟩, trivial⟩, hS.F ht⟩) hS.2.2 dX4_demand_41
    · obtain ⟨sa, hsa⟩ := hX.s 10 (k := 185) (t := "t is out of range") rfl
      exact vx_throwS (names := ["java/lang/RuntimeException", "java/lang/Exception"]) hx hb hst hown (by decide +kernel) (by decide +kernel) (hts (.classLink RX4 51 "java/lang/IllegalArgumentException") (by decide +kernel)) (hts (.initialized "java/lang/IllegalArgumentException") (by decide +kernel)) hsa (vx_hat (fun w h => hts w (List.mem_cons_of_mem _ (List.mem_append_right _ h))) ng_IAE (vx_c (va_Nw.use rfl (hX.c 0 rfl)) (vx_c (va_Nw.use rfl (hX.d 0 rfl)) (vx_c (va_Nw.use rfl (hX.d 1 rfl)) (vx_c (va_Nw.use rfl (hX.d 2 rfl)) vx_n))))) ot_IAE hZ.1 hZ.2 hS (hl.1.trans hml.symm) dX4_demand_15 dX4_demand_18 dX4_demand_19 dX4_demand_21 dX4_demand_24 (fun x hx9 => (hnt x hx9).elim) (Nat.le_of_ble_eq_true rfl) (Nat.le_of_ble_eq_true rfl) (Nat.le_of_ble_eq_true rfl) (Nat.le_of_ble_eq_true rfl) hlocks (fun t hvm hz hk => ⟨(), trivial, ⟨rfl, if_neg (fun h => h.2.2 (Int32.not_le.mp c_12))⟩, ⟨Nat.le_trans hS.1 hz, fun q h1 h2 => (hk q (Nat.lt_of_lt_of_le h1 hS.1)).trans (hS.2.1 q h1 h2)⟩⟩) hS.2.2 (Nat.le_of_ble_eq_true rfl) (Nat.le_of_ble_eq_true rfl)
set_option maxHeartbeats 1000000 in
set_option maxRecDepth 100000 in
/-- slack -/
theorem c_X4_slack (l : Launch) (hst : l.stackTraces = false) (dC : Nat → ClassId) (dI : Nat → Nat → Nat) (cy : Nat → ClassId) (sz : Nat) (d0 : Nat) (o : Nat → Nat) (F : Nat → Int32) (bc : Nat → Nat) (G : vG) (n : Nat) (hn : n ≤ 8) (sc : Int32) (p0 : Int32) : vx_Met l yX4_slack wsX4_slack ({ frames := 7, cells := 1, slots := 6, locals := 102 }) (va_Pc [.ref d0, .int p0] (pR dC dI cy (wObj d0 o F ++ (wCfg cy (o 0) bc G (nI n) sc)) sz)) (va_Qi (fun (r : Int32) (_ : Unit) => cM p0 = 0 ∧ r = slk G n sc p0) (fun (_ : Unit) (_ : State) => True) (fun q => sz ≤ q)) (vx_X (fun (_ : Unit) => True) (fun (E : String) (_ : Unit) (_ : State) => E = "java/lang/IllegalArgumentException" ∧ cM p0 = 1) (fun q => sz ≤ q)) 1 6 (fun q => sz ≤ q) := by
  refine vx_ofW (cc := cX4_slack) (maxL := 2) (ret := some .int) (by decide) rfl ?_
  intro p e s m args below meth c s₁ B hml hnt hv
  obtain ⟨rfl, hsz, hP, hE, hX, hZ⟩ := hv
  have hK := hE.1
  subst hsz
  have hS : va_S (fun q => s.heap.size ≤ q) s.heap s.heap [] := va_S.rf
  have hA : ∀ q : Nat, s.heap.size ≤ q → (fun q => s.heap.size ≤ q) q := fun q h => h
  have hP : va_P (dC, dI) vwCl (wObj d0 o F ++ (wCfg cy (o 0) bc G (nI n) sc)) s.heap := hP
  have hx := B.exec
  have hb := B.bytes
  have hr := B.returns
  have hts := atoms_spec (ws := wsX4_slack) B.pre
  have hown : s.vm.findClass RX4 = some m.cls := findClass_of_methodNamed B.named
  have hlocks := B.notSynchronized
  have hl := lv_entry ([.ref d0, .int p0]) (n := 2) (Nat.le_of_ble_eq_true rfl)
  rw [lg_entry_eq]
  generalize (lg_sl ([.ref d0, .int p0]) ++ List.replicate (2 - (lg_sl ([.ref d0, .int p0])).length) Slot.unset).toArray = ls at hl ⊢
  have hl : lv_has ls 2 [(0, .ref d0), (1, .int p0)] := hl
  refine lv_iload_n hx hb dX4_slack_0 rfl (lv_at hl 1 rfl) ?_
  have hP0 : va_P (dC, dI) vwCl [] s.heap := fun k q h => by simp at h
  refine vx_callv (vx_runS (As := [.int p0]) (rest := []) ⟨hx, hb, hml, hown, hts⟩ (c_X4_requireMode l hst dC dI cy s.heap.size p0) (cwS 1 hts gX4_slack_X4_requireMode rfl rfl rfl (by decide +kernel) ⟨Nat.le_of_ble_eq_true rfl, Nat.le_of_ble_eq_true rfl⟩) ⟨bl_R, pr_R hP0 hE hX hZ hS hA⟩ rfl rfl hl.1 rfl (lv_room (Nat.le_of_ble_eq_true rfl)) dX4_slack_1 ⟨Nat.le_of_ble_eq_true rfl, Nat.le_of_ble_eq_true rfl⟩) hS (fun q _ h => hA q (Nat.le_trans hS.1 h)) (fun q h => hA q (Nat.le_trans hS.1 h)) (fun q _ h => hA q (Nat.le_trans hS.1 h)) (fun E ce q9 u t H1 locs ht hvm hpx hBX hz1 hk1 hS hce hcv hcl => ?_) (fun u t H1 locs ht hvm hw hB hz1 hk1 hS => ?_)
  · exact vx_out (fun x hx9 => (hnt x hx9).elim) hlocks hce hcv hcl (fun t ht hvm => ⟨(), trivial, hBX, hS.F ht⟩) hS.2.2 (Nat.le_of_ble_eq_true rfl) (Nat.le_of_ble_eq_true rfl)
  have hm9 := hw
  have hP : va_P (dC, dI) vwCl (wObj d0 o F ++ (wCfg cy (o 0) bc G (nI n) sc)) H1 := hP.kept (fun k q hk => hk1 q.1 ((hP k q hk).lt) (Nat.not_le.mpr ((hP k q hk).lt)))
  clear hz1 hk1
  generalize H1 = H at hP hS ⊢
  refine lv_aload_n hx hb dX4_slack_4 rfl (lv_at hl 0 rfl) ?_
  refine lv_iload_n hx hb dX4_slack_5 rfl (lv_at hl 1 rfl) ?_
  refine lv_aload_n hx hb dX4_slack_6 rfl (lv_at hl 0 rfl) ?_
  refine lv_iload_n hx hb dX4_slack_7 rfl (lv_at hl 1 rfl) ?_
  refine vp_callSi (va_runV (As := [.int p0]) (rest := [.int p0, .ref d0]) ⟨hx, hb, hml, hown, hts⟩ (c_X4_tightestInterval l dC dI cy d0 o F bc G n hn sc p0) (cwV 1 hts gX4_slack_X4_tightestInterval rfl rfl rfl (by decide +kernel) ⟨Nat.le_of_ble_eq_true rfl, Nat.le_of_ble_eq_true rfl⟩) ⟨bl_ro, va_recv hK hP (ci := 4) (q0 := 0) rfl rfl, pr_ro hP hE⟩ rfl rfl hl.1 rfl (lv_room (Nat.le_of_ble_eq_true rfl)) dX4_slack_8 ⟨Nat.le_of_ble_eq_true rfl, Nat.le_of_ble_eq_true rfl⟩).run (fun r e_r => ?_)
  subst e_r
  refine vp_callSi (va_runV (As := [.int p0, .int (tgh G n sc p0)]) (rest := []) ⟨hx, hb, hml, hown, hts⟩ (c_X4_spareTime l dC dI cy d0 o F bc G n hn sc p0 (tgh G n sc p0)) (cwV 2 hts gX4_slack_X4_spareTime rfl rfl rfl (by decide +kernel) ⟨Nat.le_of_ble_eq_true rfl, Nat.le_of_ble_eq_true rfl⟩) ⟨bl_ro, va_recv hK hP (ci := 4) (q0 := 0) rfl rfl, pr_ro hP hE⟩ rfl rfl hl.1 rfl (lv_room (Nat.le_of_ble_eq_true rfl)) dX4_slack_11 ⟨Nat.le_of_ble_eq_true rfl, Nat.le_of_ble_eq_true rfl⟩).run (fun r e_r => ?_)
  subst e_r
  refine vx_ret ?_
  refine W.widen (k := 1) (n := 6) (Nat.le_of_ble_eq_true rfl) (Nat.le_of_ble_eq_true rfl) ?_
  exact W.iret (v := (tgh G n sc p0) - tdem G n sc p0 (tgh G n sc p0)) hx hb hr (fun t ht hW => ⟨⟨(tgh G n sc p0) - tdem G n sc p0 (tgh G n sc p0), (), rfl, ⟨hm9, rfl⟩, trivial⟩, hS.F ht⟩) hS.2.2 dX4_slack_14
set_option maxHeartbeats 1000000 in
set_option maxRecDepth 100000 in
/-- tightest -/
theorem c_X4_tightest (l : Launch) (hst : l.stackTraces = false) (dC : Nat → ClassId) (dI : Nat → Nat → Nat) (cy : Nat → ClassId) (sz : Nat) (d0 : Nat) (o : Nat → Nat) (F : Nat → Int32) (bc : Nat → Nat) (G : vG) (n : Nat) (hn : n ≤ 8) (sc : Int32) (p0 : Int32) : vx_Met l yX4_tightest wsX4_tightest ({ frames := 7, cells := 1, slots := 6, locals := 102 }) (va_Pc [.ref d0, .int p0] (pR dC dI cy (wObj d0 o F ++ (wCfg cy (o 0) bc G (nI n) sc)) sz)) (va_Qi (fun (r : Int32) (_ : Unit) => cM p0 = 0 ∧ r = tgh G n sc p0) (fun (_ : Unit) (_ : State) => True) (fun q => sz ≤ q)) (vx_X (fun (_ : Unit) => True) (fun (E : String) (_ : Unit) (_ : State) => E = "java/lang/IllegalArgumentException" ∧ cM p0 = 1) (fun q => sz ≤ q)) 1 6 (fun q => sz ≤ q) := by
  refine vx_ofW (cc := cX4_tightest) (maxL := 2) (ret := some .int) (by decide) rfl ?_
  intro p e s m args below meth c s₁ B hml hnt hv
  obtain ⟨rfl, hsz, hP, hE, hX, hZ⟩ := hv
  have hK := hE.1
  subst hsz
  have hS : va_S (fun q => s.heap.size ≤ q) s.heap s.heap [] := va_S.rf
  have hA : ∀ q : Nat, s.heap.size ≤ q → (fun q => s.heap.size ≤ q) q := fun q h => h
  have hP : va_P (dC, dI) vwCl (wObj d0 o F ++ (wCfg cy (o 0) bc G (nI n) sc)) s.heap := hP
  have hx := B.exec
  have hb := B.bytes
  have hr := B.returns
  have hts := atoms_spec (ws := wsX4_tightest) B.pre
  have hown : s.vm.findClass RX4 = some m.cls := findClass_of_methodNamed B.named
  have hlocks := B.notSynchronized
  have hl := lv_entry ([.ref d0, .int p0]) (n := 2) (Nat.le_of_ble_eq_true rfl)
  rw [lg_entry_eq]
  generalize (lg_sl ([.ref d0, .int p0]) ++ List.replicate (2 - (lg_sl ([.ref d0, .int p0])).length) Slot.unset).toArray = ls at hl ⊢
  have hl : lv_has ls 2 [(0, .ref d0), (1, .int p0)] := hl
  refine lv_iload_n hx hb dX4_tightest_0 rfl (lv_at hl 1 rfl) ?_
  have hP0 : va_P (dC, dI) vwCl [] s.heap := fun k q h => by simp at h
  refine vx_callv (vx_runS (As := [.int p0]) (rest := []) ⟨hx, hb, hml, hown, hts⟩ (c_X4_requireMode l hst dC dI cy s.heap.size p0) (cwS 1 hts gX4_tightest_X4_requireMode rfl rfl rfl (by decide +kernel) ⟨Nat.le_of_ble_eq_true rfl, Nat.le_of_ble_eq_true rfl⟩) ⟨bl_R, pr_R hP0 hE hX hZ hS hA⟩ rfl rfl hl.1 rfl (lv_room (Nat.le_of_ble_eq_true rfl)) dX4_tightest_1 ⟨Nat.le_of_ble_eq_true rfl, Nat.le_of_ble_eq_true rfl⟩) hS (fun q _ h => hA q (Nat.le_trans hS.1 h)) (fun q h => hA q (Nat.le_trans hS.1 h)) (fun q _ h => hA q (Nat.le_trans hS.1 h)) (fun E ce q9 u t H1 locs ht hvm hpx hBX hz1 hk1 hS hce hcv hcl => ?_) (fun u t H1 locs ht hvm hw hB hz1 hk1 hS => ?_)
  · exact vx_out (fun x hx9 => (hnt x hx9).elim) hlocks hce hcv hcl (fun t ht hvm => ⟨(), trivial, hBX, hS.F ht⟩) hS.2.2 (Nat.le_of_ble_eq_true rfl) (Nat.le_of_ble_eq_true rfl)
  have hm9 := hw
  have hP : va_P (dC, dI) vwCl (wObj d0 o F ++ (wCfg cy (o 0) bc G (nI n) sc)) H1 := hP.kept (fun k q hk => hk1 q.1 ((hP k q hk).lt) (Nat.not_le.mpr ((hP k q hk).lt)))
  clear hz1 hk1
  generalize H1 = H at hP hS ⊢
  refine lv_aload_n hx hb dX4_tightest_4 rfl (lv_at hl 0 rfl) ?_
  refine lv_iload_n hx hb dX4_tightest_5 rfl (lv_at hl 1 rfl) ?_
  refine vp_callSi (va_runV (As := [.int p0]) (rest := []) ⟨hx, hb, hml, hown, hts⟩ (c_X4_tightestInterval l dC dI cy d0 o F bc G n hn sc p0) (cwV 1 hts gX4_tightest_X4_tightestInterval rfl rfl rfl (by decide +kernel) ⟨Nat.le_of_ble_eq_true rfl, Nat.le_of_ble_eq_true rfl⟩) ⟨bl_ro, va_recv hK hP (ci := 4) (q0 := 0) rfl rfl, pr_ro hP hE⟩ rfl rfl hl.1 rfl (lv_room (Nat.le_of_ble_eq_true rfl)) dX4_tightest_6 ⟨Nat.le_of_ble_eq_true rfl, Nat.le_of_ble_eq_true rfl⟩).run (fun r e_r => ?_)
  subst e_r
  refine vx_ret ?_
  refine W.widen (k := 1) (n := 6) (Nat.le_of_ble_eq_true rfl) (Nat.le_of_ble_eq_true rfl) ?_
  exact W.iret (v := tgh G n sc p0) hx hb hr (fun t ht hW => ⟨⟨tgh G n sc p0, (), rfl, ⟨hm9, rfl⟩, trivial⟩, hS.F ht⟩) hS.2.2 dX4_tightest_9
set_option maxHeartbeats 1000000 in
set_option maxRecDepth 100000 in
/-- passes -/
theorem c_X4_passes (l : Launch) (hst : l.stackTraces = false) (dC : Nat → ClassId) (dI : Nat → Nat → Nat) (cy : Nat → ClassId) (sz : Nat) (d0 : Nat) (o : Nat → Nat) (F : Nat → Int32) (bc : Nat → Nat) (G : vG) (n : Nat) (hn : n ≤ 8) (sc : Int32) (p0 p1 : Int32) : vx_Met l yX4_passes wsX4_passes ({ frames := 7, cells := 2, slots := 12, locals := 102 }) (va_Pc [.ref d0, .int p0, .int p1] (pR dC dI cy (wObj d0 o F ++ (wCfg cy (o 0) bc G (nI n) sc)) sz)) (va_Qi (fun (r : Int32) (_ : Unit) => cPas p0 p1 = 0 ∧ r = (if ffail G n p1 p0 = 0 then 1 else 0)) (fun (_ : Unit) (_ : State) => True) (fun q => sz ≤ q)) (vx_X (fun (_ : Unit) => True) (fun (E : String) (_ : Unit) (_ : State) => E = "java/lang/IllegalArgumentException" ∧ cPas p0 p1 = 1) (fun q => sz ≤ q)) 2 12 (fun q => sz ≤ q) := by
  refine vx_ofW (cc := cX4_passes) (maxL := 3) (ret := some .boolean) (by decide) rfl ?_
  intro p e s m args below meth c s₁ B hml hnt hv
  obtain ⟨rfl, hsz, hP, hE, hX, hZ⟩ := hv
  have hK := hE.1
  subst hsz
  have hS : va_S (fun q => s.heap.size ≤ q) s.heap s.heap [] := va_S.rf
  have hA : ∀ q : Nat, s.heap.size ≤ q → (fun q => s.heap.size ≤ q) q := fun q h => h
  have hP : va_P (dC, dI) vwCl (wObj d0 o F ++ (wCfg cy (o 0) bc G (nI n) sc)) s.heap := hP
  have hx := B.exec
  have hb := B.bytes
  have hr := B.returns
  have hts := atoms_spec (ws := wsX4_passes) B.pre
  have hown : s.vm.findClass RX4 = some m.cls := findClass_of_methodNamed B.named
  have hlocks := B.notSynchronized
  have hin4 : ∀ w ∈ u_ws RX4 TX4 12, w ∈ wsX4_passes := by decide +kernel
  have f_12 := hts (.fieldLink RX4 12 "DeadlineAdmission" "current" "LDeadlineAdmission$Configuration;") (by decide +kernel)
  have hl := lv_entry ([.ref d0, .int p0, .int p1]) (n := 3) (Nat.le_of_ble_eq_true rfl)
  rw [lg_entry_eq]
  generalize (lg_sl ([.ref d0, .int p0, .int p1]) ++ List.replicate (3 - (lg_sl ([.ref d0, .int p0, .int p1])).length) Slot.unset).toArray = ls at hl ⊢
  have hl : lv_has ls 3 [(0, .ref d0), (1, .int p0), (2, .int p1)] := hl
  refine lv_iload_n hx hb dX4_passes_0 rfl (lv_at hl 1 rfl) ?_
  have hP0 : va_P (dC, dI) vwCl [] s.heap := fun k q h => by simp at h
  refine vx_callv (vx_runS (As := [.int p0]) (rest := []) ⟨hx, hb, hml, hown, hts⟩ (c_X4_requireMode l hst dC dI cy s.heap.size p0) (cwS 1 hts gX4_passes_X4_requireMode rfl rfl rfl (by decide +kernel) ⟨Nat.le_of_ble_eq_true rfl, Nat.le_of_ble_eq_true rfl⟩) ⟨bl_R, pr_R hP0 hE hX hZ hS hA⟩ rfl rfl hl.1 rfl (lv_room (Nat.le_of_ble_eq_true rfl)) dX4_passes_1 ⟨Nat.le_of_ble_eq_true rfl, Nat.le_of_ble_eq_true rfl⟩) hS (fun q _ h => hA q (Nat.le_trans hS.1 h)) (fun q h => hA q (Nat.le_trans hS.1 h)) (fun q _ h => hA q (Nat.le_trans hS.1 h)) (fun E ce q9 u t H1 locs ht hvm hpx hBX hz1 hk1 hS hce hcv hcl => ?_) (fun u t H1 locs ht hvm hw hB hz1 hk1 hS => ?_)
  · exact vx_out (fun x hx9 => (hnt x hx9).elim) hlocks hce hcv hcl (fun t ht hvm => ⟨(), trivial, ⟨hBX.1, if_neg (fun h => absurd (hBX.2.symm.trans h.1) (by decide))⟩, hS.F ht⟩) hS.2.2 (Nat.le_of_ble_eq_true rfl) (Nat.le_of_ble_eq_true rfl)
  have hm9 := hw
  have hP : va_P (dC, dI) vwCl (wObj d0 o F ++ (wCfg cy (o 0) bc G (nI n) sc)) H1 := hP.kept (fun k q hk => hk1 q.1 ((hP k q hk).lt) (Nat.not_le.mpr ((hP k q hk).lt)))
  clear hz1 hk1
  generalize H1 = H at hP hS ⊢
  refine lv_iload_n hx hb dX4_passes_4 rfl (lv_at hl 2 rfl) ?_
  refine lv_iconst (v := 1) hx hb dX4_passes_5 (by decide) ?_
  refine lv_icmp_lt (tgt := 15) hx hb dX4_passes_6 (by decide) (fun c_6 => ?_) (fun c_6 => ?_)
  · obtain ⟨sa, hsa⟩ := hX.s 11 (k := 197) (t := "the scale is out of range") rfl
    exact vx_throwS (names := ["java/lang/RuntimeException", "java/lang/Exception"]) hx hb hst hown (by decide +kernel) (by decide +kernel) (hts (.classLink RX4 51 "java/lang/IllegalArgumentException") (by decide +kernel)) (hts (.initialized "java/lang/IllegalArgumentException") (by decide +kernel)) hsa (vx_hat (fun w h => hts w (List.mem_cons_of_mem _ (List.mem_append_right _ h))) ng_IAE (vx_c (va_Nw.use rfl (hX.c 0 rfl)) (vx_c (va_Nw.use rfl (hX.d 0 rfl)) (vx_c (va_Nw.use rfl (hX.d 1 rfl)) (vx_c (va_Nw.use rfl (hX.d 2 rfl)) vx_n))))) ot_IAE hZ.1 hZ.2 hS (hl.1.trans hml.symm) dX4_passes_15 dX4_passes_18 dX4_passes_19 dX4_passes_21 dX4_passes_24 (fun x hx9 => (hnt x hx9).elim) (Nat.le_of_ble_eq_true rfl) (Nat.le_of_ble_eq_true rfl) (Nat.le_of_ble_eq_true rfl) (Nat.le_of_ble_eq_true rfl) hlocks (fun t hvm hz hk => ⟨(), trivial, ⟨rfl, if_neg (fun h => h.2.1 c_6)⟩, ⟨Nat.le_trans hS.1 hz, fun q h1 h2 => (hk q (Nat.lt_of_lt_of_le h1 hS.1)).trans (hS.2.1 q h1 h2)⟩⟩) hS.2.2 (Nat.le_of_ble_eq_true rfl) (Nat.le_of_ble_eq_true rfl)
  · refine lv_iload_n hx hb dX4_passes_9 rfl (lv_at hl 2 rfl) ?_
    refine lv_bipush (v := 8) hx hb dX4_passes_10 (by decide) ?_
    refine lv_icmp_le (tgt := 25) hx hb dX4_passes_12 (by decide) (fun c_12 => ?_) (fun c_12 => ?_)
    · refine lv_aload_n hx hb dX4_passes_25 rfl (lv_at hl 0 rfl) ?_
      refine va_get (D := (dC, dI)) (ci := 4) (v := .ref (o 0)) (C := RX4) (T := TX4) (N := 12) hx hb hts hin4 hown hK hP 0 rfl rfl 0 (by decide) f_12 (fun _ h9 => h9) rfl dX4_passes_26 ?_
      refine lv_iload_n hx hb dX4_passes_29 rfl (lv_at hl 1 rfl) ?_
      refine lv_iload_n hx hb dX4_passes_30 rfl (lv_at hl 2 rfl) ?_
      refine vp_callSi (va_runV (As := [.int p0, .int p1]) (rest := []) ⟨hx, hb, hml, hown, hts⟩ (c_X0_firstFailure l dC dI cy (o 0) bc G n hn sc p0 p1) (cwV 2 hts gX4_passes_X0_firstFailure rfl rfl rfl (by decide +kernel) ⟨Nat.le_of_ble_eq_true rfl, Nat.le_of_ble_eq_true rfl⟩) ⟨bl_ro, va_recv hK (hP.sub (ws' := wCfg cy (o 0) bc G (nI n) sc) [1, 2, 3, 4, 5, 6, 7, 8] rfl) (ci := 0) (q0 := 0) rfl rfl, pr_ro (hP.sub (ws' := wCfg cy (o 0) bc G (nI n) sc) [1, 2, 3, 4, 5, 6, 7, 8] rfl) hE⟩ rfl rfl hl.1 rfl (lv_room (Nat.le_of_ble_eq_true rfl)) dX4_passes_31 ⟨Nat.le_of_ble_eq_true rfl, Nat.le_of_ble_eq_true rfl⟩).run (fun r e_r => ?_)
      subst e_r
      refine lv_if_ne (tgt := 41) hx hb dX4_passes_34 (by decide) (fun c_34 => ?_) (fun c_34 => ?_)
      · refine lv_iconst (v := 0) hx hb dX4_passes_41 (by decide) ?_
        refine vx_ret ?_
        refine W.widen (k := 2) (n := 12) (Nat.le_of_ble_eq_true rfl) (Nat.le_of_ble_eq_true rfl) ?_
        exact W.zret (v := 0) hx hb hr (by decide) (fun t ht hW => ⟨⟨0, (), rfl, ⟨if_pos ⟨hm9, c_6, Int32.not_lt.mpr c_12⟩, by simp only [c_34, ↓reduceIte]⟩, trivial⟩, hS.F ht⟩) hS.2.2 dX4_passes_42
      · refine lv_iconst (v := 1) hx hb dX4_passes_37 (by decide) ?_
        refine lv_goto (tgt := 42) hx hb dX4_passes_38 (by decide) ?_
        refine vx_ret ?_
        refine W.widen (k := 2) (n := 12) (Nat.le_of_ble_eq_true rfl) (Nat.le_of_ble_eq_true rfl) ?_
        exact W.zret (v := 1) hx hb hr (by decide) (fun t ht hW => ⟨⟨1, (), rfl, ⟨if_pos ⟨hm9, c_6, Int32.not_lt.mpr c_12⟩, by simp only [c_34, ↓reduceIte]⟩, trivial⟩, hS.F ht⟩) hS.2.2 dX4_passes_42
    · obtain ⟨sa, hsa⟩ := hX.s 11 (k := 197) (t := "the scale is out of range") rfl
      exact vx_throwS (names := ["java/lang/RuntimeException", "java/lang/Exception"]) hx hb hst hown (by decide +kernel) (by decide +kernel) (hts (.classLink RX4 51 "java/lang/IllegalArgumentException") (by decide +kernel)) (hts (.initialized "java/lang/IllegalArgumentException") (by decide +kernel)) hsa (vx_hat (fun w h => hts w (List.mem_cons_of_mem _ (List.mem_append_right _ h))) ng_IAE (vx_c (va_Nw.use rfl (hX.c 0 rfl)) (vx_c (va_Nw.use rfl (hX.d 0 rfl)) (vx_c (va_Nw.use rfl (hX.d 1 rfl)) (vx_c (va_Nw.use rfl (hX.d 2 rfl)) vx_n))))) ot_IAE hZ.1 hZ.2 hS (hl.1.trans hml.symm) dX4_passes_15 dX4_passes_18 dX4_passes_19 dX4_passes_21 dX4_passes_24 (fun x hx9 => (hnt x hx9).elim) (Nat.le_of_ble_eq_true rfl) (Nat.le_of_ble_eq_true rfl) (Nat.le_of_ble_eq_true rfl) (Nat.le_of_ble_eq_true rfl) hlocks (fun t hvm hz hk => ⟨(), trivial, ⟨rfl, if_neg (fun h => h.2.2 (Int32.not_le.mp c_12))⟩, ⟨Nat.le_trans hS.1 hz, fun q h1 h2 => (hk q (Nat.lt_of_lt_of_le h1 hS.1)).trans (hS.2.1 q h1 h2)⟩⟩) hS.2.2 (Nat.le_of_ble_eq_true rfl) (Nat.le_of_ble_eq_true rfl)
set_option maxHeartbeats 1000000 in
set_option maxRecDepth 100000 in
/-- descentPoint -/
theorem c_X4_descentPoint (l : Launch) (hst : l.stackTraces = false) (dC : Nat → ClassId) (dI : Nat → Nat → Nat) (cy : Nat → ClassId) (sz : Nat) (d0 : Nat) (o : Nat → Nat) (F : Nat → Int32) (bc : Nat → Nat) (G : vG) (n : Nat) (hn : n ≤ 8) (sc : Int32) (hsc : scOk sc) (hG : okG G n) (p0 : Int32) : vx_Met l yX4_descentPoint wsX4_descentPoint ({ frames := 6, cells := 1, slots := 6, locals := 82 }) (va_Pc [.ref d0, .int p0] (pR dC dI cy (wObj d0 o F ++ (wCfg cy (o 0) bc G (nI n) sc)) sz)) (va_Qi (fun (r : Int32) (_ : Unit) => cT (dlen G n sc) p0 = 0 ∧ r = dpoint G n sc p0.toNatClampNeg) (fun (_ : Unit) (_ : State) => True) (fun q => sz ≤ q)) (vx_X (fun (_ : Unit) => True) (fun (E : String) (_ : Unit) (_ : State) => E = "java/lang/IndexOutOfBoundsException" ∧ cT (dlen G n sc) p0 = 1) (fun q => sz ≤ q)) 1 6 (fun q => sz ≤ q) := by
  refine vx_ofW (cc := cX4_descentPoint) (maxL := 4) (ret := some .int) (by decide) rfl ?_
  intro p e s m args below meth c s₁ B hml hnt hv
  obtain ⟨rfl, hsz, hP, hE, hX, hZ⟩ := hv
  have hK := hE.1
  subst hsz
  have hS : va_S (fun q => s.heap.size ≤ q) s.heap s.heap [] := va_S.rf
  have hA : ∀ q : Nat, s.heap.size ≤ q → (fun q => s.heap.size ≤ q) q := fun q h => h
  have hP : va_P (dC, dI) vwCl (wObj d0 o F ++ (wCfg cy (o 0) bc G (nI n) sc)) s.heap := hP
  have hx := B.exec
  have hb := B.bytes
  have hr := B.returns
  have hts := atoms_spec (ws := wsX4_descentPoint) B.pre
  have hown : s.vm.findClass RX4 = some m.cls := findClass_of_methodNamed B.named
  have hlocks := B.notSynchronized
  have hin4 : ∀ w ∈ u_ws RX4 TX4 12, w ∈ wsX4_descentPoint := by decide +kernel
  have f_12 := hts (.fieldLink RX4 12 "DeadlineAdmission" "current" "LDeadlineAdmission$Configuration;") (by decide +kernel)
  have hl := lv_entry ([.ref d0, .int p0]) (n := 4) (Nat.le_of_ble_eq_true rfl)
  rw [lg_entry_eq]
  generalize (lg_sl ([.ref d0, .int p0]) ++ List.replicate (4 - (lg_sl ([.ref d0, .int p0])).length) Slot.unset).toArray = ls at hl ⊢
  have hl : lv_has ls 4 [(0, .ref d0), (1, .int p0)] := hl
  refine lv_iload_n hx hb dX4_descentPoint_0 rfl (lv_at hl 1 rfl) ?_
  refine lv_if_lt (tgt := 11) hx hb dX4_descentPoint_1 (by decide) (fun c_1 => ?_) (fun c_1 => ?_)
  · obtain ⟨sa, hsa⟩ := hX.s 12 (k := 229) (t := "there is no such point") rfl
    exact vx_throwS (names := ["java/lang/RuntimeException", "java/lang/Exception"]) hx hb hst hown (by decide +kernel) (by decide +kernel) (hts (.classLink RX4 227 "java/lang/IndexOutOfBoundsException") (by decide +kernel)) (hts (.initialized "java/lang/IndexOutOfBoundsException") (by decide +kernel)) hsa (vx_hat (fun w h => hts w (List.mem_cons_of_mem _ (List.mem_append_right _ h))) ng_IOOBE (vx_c (va_Nw.use rfl (hX.c 2 rfl)) (vx_c (va_Nw.use rfl (hX.d 0 rfl)) (vx_c (va_Nw.use rfl (hX.d 1 rfl)) (vx_c (va_Nw.use rfl (hX.d 2 rfl)) vx_n))))) ot_IOOBE hZ.1 hZ.2 hS (hl.1.trans hml.symm) dX4_descentPoint_11 dX4_descentPoint_14 dX4_descentPoint_15 dX4_descentPoint_17 dX4_descentPoint_20 (fun x hx9 => (hnt x hx9).elim) (Nat.le_of_ble_eq_true rfl) (Nat.le_of_ble_eq_true rfl) (Nat.le_of_ble_eq_true rfl) (Nat.le_of_ble_eq_true rfl) hlocks (fun t hvm hz hk => ⟨(), trivial, ⟨rfl, if_pos (Or.inl c_1)⟩, ⟨Nat.le_trans hS.1 hz, fun q h1 h2 => (hk q (Nat.lt_of_lt_of_le h1 hS.1)).trans (hS.2.1 q h1 h2)⟩⟩) hS.2.2 (Nat.le_of_ble_eq_true rfl) (Nat.le_of_ble_eq_true rfl)
  · refine lv_iload_n hx hb dX4_descentPoint_4 rfl (lv_at hl 1 rfl) ?_
    refine lv_sipush (v := 200) hx hb dX4_descentPoint_5 (by decide) ?_
    refine lv_icmp_lt (tgt := 21) hx hb dX4_descentPoint_8 (by decide) (fun c_8 => ?_) (fun c_8 => ?_)
    · obtain ⟨i, hi9, rfl⟩ := nI_of c_1
      have hi2 : i < 200 := (nI_ltI (b := 200) (by omega) (by omega)).mp c_8
      refine lv_aload_n hx hb dX4_descentPoint_21 rfl (lv_at hl 0 rfl) ?_
      refine va_get (D := (dC, dI)) (ci := 4) (v := .ref (o 0)) (C := RX4) (T := TX4) (N := 12) hx hb hts hin4 hown hK hP 0 rfl rfl 0 (by decide) f_12 (fun _ h9 => h9) rfl dX4_descentPoint_22 ?_
      refine lv_sipush (v := 201) hx hb dX4_descentPoint_25 (by decide) ?_
      refine vp_callSi (va_runV (As := [.int 201]) (rest := []) ⟨hx, hb, hml, hown, hts⟩ (c_X0_greatestTestPointBelow l dC dI cy (o 0) bc G n hn sc 201) (cwV 1 hts gX4_descentPoint_X0_greatestTestPointBelow rfl rfl rfl (by decide +kernel) ⟨Nat.le_of_ble_eq_true rfl, Nat.le_of_ble_eq_true rfl⟩) ⟨bl_ro, va_recv hK (hP.sub (ws' := wCfg cy (o 0) bc G (nI n) sc) [1, 2, 3, 4, 5, 6, 7, 8] rfl) (ci := 0) (q0 := 0) rfl rfl, pr_ro (hP.sub (ws' := wCfg cy (o 0) bc G (nI n) sc) [1, 2, 3, 4, 5, 6, 7, 8] rfl) hE⟩ rfl rfl hl.1 rfl (lv_room (Nat.le_of_ble_eq_true rfl)) dX4_descentPoint_28 ⟨Nat.le_of_ble_eq_true rfl, Nat.le_of_ble_eq_true rfl⟩).run (fun r e_r => ?_)
      subst e_r
      obtain ⟨g9, eg9, hg9⟩ : ∃ g : Nat, gtp G sc 201 n = nI g ∧ g ≤ 200 := ⟨_, gtp_pb (lim := 201) hsc (by omega) (by omega) hG, pbN_le _ _⟩
      refine lv_topi (fun y_ ey_ => ?_)
      obtain rfl : y_ = nI g9 := ey_.trans eg9
      refine lv_istore_n (lv' := [(2, .int (nI g9)), (0, .ref d0), (1, .int (nI i))]) hx hb dX4_descentPoint_31 rfl hl (by decide) rfl (fun ls hl => ?_)
      refine lv_iconst (v := 0) hx hb dX4_descentPoint_32 (by decide) ?_
      refine lv_istore_n (lv' := [(3, .int 0), (2, .int (nI g9)), (0, .ref d0), (1, .int (nI i))]) hx hb dX4_descentPoint_33 rfl hl (by decide) rfl (fun ls hl => ?_)
      have loop34 : ∀ (k : Nat) (a : Nat) (q : Nat) (ls : Array Slot), a ≤ i → q ≤ 200 → i < a + k → dpt G n sc (i - a) (nI q) = dpoint G n sc i → lv_has ls 4 [(0, .ref d0), (1, .int (nI i)), (2, .int (nI q)), (3, .int (nI a))] → W p l e (headSpec wsX4_descentPoint ({ frames := 6, cells := 1, slots := 6, locals := 82 }) |>.room) s m (([.ref d0, .int (nI i)].toArray)) below meth c s.heap [] 0 0 (vx_MQ below (va_Qi (fun (r : Int32) (_ : Unit) => cT (dlen G n sc) (nI i) = 0 ∧ r = dpoint G n sc (nI i).toNatClampNeg) (fun (_ : Unit) (_ : State) => True) (fun q => s.heap.size ≤ q)) (vx_X (fun (_ : Unit) => True) (fun (E : String) (_ : Unit) (_ : State) => E = "java/lang/IndexOutOfBoundsException" ∧ cT (dlen G n sc) (nI i) = 1) (fun q => s.heap.size ≤ q)) ([.ref d0, .int (nI i)].toArray) s 1 6 (fun q => s.heap.size ≤ q)) (F0 m 34 ls []) := by
        intro k
        induction k with
        | zero =>
          intro a q ls ha hq hk ed
          exfalso; omega
        | succ k ih34 =>
          intro a q ls ha hq hk ed hl
          refine lv_iload_n hx hb dX4_descentPoint_34 rfl (lv_at hl 3 rfl) ?_
          refine lv_iload_n hx hb dX4_descentPoint_35 rfl (lv_at hl 1 rfl) ?_
          refine lv_icmp_ge (tgt := 55) hx hb dX4_descentPoint_36 (by decide) (fun c_36 => ?_) (fun c_36 => ?_)
          · have e_a : a = i := by have := (nI_leI (a := i) (b := a) (by omega) (by omega)).mp c_36; omega
            have ev : dpoint G n sc i = nI q := by rw [← ed, e_a, Nat.sub_self]; rfl
            refine lv_iload_n hx hb dX4_descentPoint_55 rfl (lv_at hl 2 rfl) ?_
            refine lv_if_ne (tgt := 69) hx hb dX4_descentPoint_56 (by decide) (fun c_56 => ?_) (fun c_56 => ?_)
            · refine lv_iload_n hx hb dX4_descentPoint_69 rfl (lv_at hl 2 rfl) ?_
              refine vx_ret ?_
              refine W.widen (k := 1) (n := 6) (Nat.le_of_ble_eq_true rfl) (Nat.le_of_ble_eq_true rfl) ?_
              exact W.iret (v := nI q) hx hb hr (fun t ht hW => ⟨⟨nI q, (), rfl, ⟨cT_ok9 (by have := dlen_le G n sc; omega) ((dlen_dpoint hsc hG i).mpr (by rw [ev]; exact c_56)), by rw [nI_clamp (by omega), ev]⟩, trivial⟩, hS.F ht⟩) hS.2.2 dX4_descentPoint_70
            · obtain ⟨sa, hsa⟩ := hX.s 12 (k := 229) (t := "there is no such point") rfl
              exact vx_throwS (names := ["java/lang/RuntimeException", "java/lang/Exception"]) hx hb hst hown (by decide +kernel) (by decide +kernel) (hts (.classLink RX4 227 "java/lang/IndexOutOfBoundsException") (by decide +kernel)) (hts (.initialized "java/lang/IndexOutOfBoundsException") (by decide +kernel)) hsa (vx_hat (fun w h => hts w (List.mem_cons_of_mem _ (List.mem_append_right _ h))) ng_IOOBE (vx_c (va_Nw.use rfl (hX.c 2 rfl)) (vx_c (va_Nw.use rfl (hX.d 0 rfl)) (vx_c (va_Nw.use rfl (hX.d 1 rfl)) (vx_c (va_Nw.use rfl (hX.d 2 rfl)) vx_n))))) ot_IOOBE hZ.1 hZ.2 hS (hl.1.trans hml.symm) dX4_descentPoint_59 dX4_descentPoint_62 dX4_descentPoint_63 dX4_descentPoint_65 dX4_descentPoint_68 (fun x hx9 => (hnt x hx9).elim) (Nat.le_of_ble_eq_true rfl) (Nat.le_of_ble_eq_true rfl) (Nat.le_of_ble_eq_true rfl) (Nat.le_of_ble_eq_true rfl) hlocks (fun t hvm hz hk => ⟨(), trivial, ⟨rfl, if_pos (Or.inr (nI_le (Nat.le_of_not_lt (fun h => (dlen_dpoint hsc hG i).mp h (by rw [ev, c_56]))) (by omega)))⟩, ⟨Nat.le_trans hS.1 hz, fun q h1 h2 => (hk q (Nat.lt_of_lt_of_le h1 hS.1)).trans (hS.2.1 q h1 h2)⟩⟩) hS.2.2 (Nat.le_of_ble_eq_true rfl) (Nat.le_of_ble_eq_true rfl)
          · have hai : a < i := Nat.lt_of_not_le (fun h => c_36 (nI_le h (by omega)))
            refine lv_iload_n hx hb dX4_descentPoint_39 rfl (lv_at hl 2 rfl) ?_
            refine lv_if_le (tgt := 55) hx hb dX4_descentPoint_40 (by decide) (fun c_40 => ?_) (fun c_40 => ?_)
            · have e_q : q = 0 := by have := (nI_leI (a := q) (b := 0) (by omega) (by omega)).mp c_40; omega
              have ev : dpoint G n sc i = nI q := by rw [← ed, show i - a = (i - a - 1) + 1 by omega, dpt, if_pos c_40, e_q]; rfl
              refine lv_iload_n hx hb dX4_descentPoint_55 rfl (lv_at hl 2 rfl) ?_
              refine lv_if_ne (tgt := 69) hx hb dX4_descentPoint_56 (by decide) (fun c_56 => ?_) (fun c_56 => ?_)
              · refine lv_iload_n hx hb dX4_descentPoint_69 rfl (lv_at hl 2 rfl) ?_
                refine vx_ret ?_
                refine W.widen (k := 1) (n := 6) (Nat.le_of_ble_eq_true rfl) (Nat.le_of_ble_eq_true rfl) ?_
                exact W.iret (v := nI q) hx hb hr (fun t ht hW => ⟨⟨nI q, (), rfl, ⟨cT_ok9 (by have := dlen_le G n sc; omega) ((dlen_dpoint hsc hG i).mpr (by rw [ev]; exact c_56)), by rw [nI_clamp (by omega), ev]⟩, trivial⟩, hS.F ht⟩) hS.2.2 dX4_descentPoint_70
              · obtain ⟨sa, hsa⟩ := hX.s 12 (k := 229) (t := "there is no such point") rfl
                exact vx_throwS (names := ["java/lang/RuntimeException", "java/lang/Exception"]) hx hb hst hown (by decide +kernel) (by decide +kernel) (hts (.classLink RX4 227 "java/lang/IndexOutOfBoundsException") (by decide +kernel)) (hts (.initialized "java/lang/IndexOutOfBoundsException") (by decide +kernel)) hsa (vx_hat (fun w h => hts w (List.mem_cons_of_mem _ (List.mem_append_right _ h))) ng_IOOBE (vx_c (va_Nw.use rfl (hX.c 2 rfl)) (vx_c (va_Nw.use rfl (hX.d 0 rfl)) (vx_c (va_Nw.use rfl (hX.d 1 rfl)) (vx_c (va_Nw.use rfl (hX.d 2 rfl)) vx_n))))) ot_IOOBE hZ.1 hZ.2 hS (hl.1.trans hml.symm) dX4_descentPoint_59 dX4_descentPoint_62 dX4_descentPoint_63 dX4_descentPoint_65 dX4_descentPoint_68 (fun x hx9 => (hnt x hx9).elim) (Nat.le_of_ble_eq_true rfl) (Nat.le_of_ble_eq_true rfl) (Nat.le_of_ble_eq_true rfl) (Nat.le_of_ble_eq_true rfl) hlocks (fun t hvm hz hk => ⟨(), trivial, ⟨rfl, if_pos (Or.inr (nI_le (Nat.le_of_not_lt (fun h => (dlen_dpoint hsc hG i).mp h (by rw [ev, c_56]))) (by omega)))⟩, ⟨Nat.le_trans hS.1 hz, fun q h1 h2 => (hk q (Nat.lt_of_lt_of_le h1 hS.1)).trans (hS.2.1 q h1 h2)⟩⟩) hS.2.2 (Nat.le_of_ble_eq_true rfl) (Nat.le_of_ble_eq_true rfl)
            · obtain ⟨q2, edn, hq2⟩ := dnext_lt hsc hG (show 1 ≤ q by rcases Nat.eq_zero_or_pos q with h | h; exact absurd (by rw [h]; decide) c_40; exact h) hq
              refine lv_aload_n hx hb dX4_descentPoint_43 rfl (lv_at hl 0 rfl) ?_
              refine lv_iload_n hx hb dX4_descentPoint_44 rfl (lv_at hl 2 rfl) ?_
              refine vp_callSi (va_runV (As := [.int (nI q)]) (rest := []) ⟨hx, hb, hml, hown, hts⟩ (c_X4_descentPointAfter l dC dI cy d0 o F bc G n hn sc (nI q)) (cwV 1 hts gX4_descentPoint_X4_descentPointAfter rfl rfl rfl (by decide +kernel) ⟨Nat.le_of_ble_eq_true rfl, Nat.le_of_ble_eq_true rfl⟩) ⟨bl_ro, va_recv hK hP (ci := 4) (q0 := 0) rfl rfl, pr_ro hP hE⟩ rfl rfl hl.1 rfl (lv_room (Nat.le_of_ble_eq_true rfl)) dX4_descentPoint_45 ⟨Nat.le_of_ble_eq_true rfl, Nat.le_of_ble_eq_true rfl⟩).run (fun r e_r => ?_)
              subst e_r
              refine lv_topi (fun y_ ey_ => ?_)
              obtain rfl : y_ = nI q2 := ey_.trans edn
              refine lv_istore_n (lv' := [(2, .int (nI q2)), (0, .ref d0), (1, .int (nI i)), (3, .int (nI a))]) hx hb dX4_descentPoint_48 rfl hl (by decide) rfl (fun ls hl => ?_)
              refine lv_iinc (v := nI (a + 1)) (lv' := [(3, .int (nI (a + 1))), (2, .int (nI q2)), (0, .ref d0), (1, .int (nI i))]) hx hb dX4_descentPoint_49 hl (k := 3) rfl (nI_1 _) (by decide) rfl (fun ls hl => ?_)
              refine lv_goto (tgt := 34) hx hb dX4_descentPoint_52 (by decide) ?_
              exact ih34 (a + 1) q2 ls (by omega) (by omega) (by omega) (by rw [← ed, show i - a = (i - (a + 1)) + 1 by omega, dpt, if_neg c_40, edn]) (lv_sub hl [2, 3, 1, 0] rfl)
      exact loop34 (i + 1) 0 g9 ls (Nat.zero_le _) hg9 (by omega) (by rw [← eg9]; rfl) (lv_sub hl [2, 3, 1, 0] rfl)
    · obtain ⟨sa, hsa⟩ := hX.s 12 (k := 229) (t := "there is no such point") rfl
      exact vx_throwS (names := ["java/lang/RuntimeException", "java/lang/Exception"]) hx hb hst hown (by decide +kernel) (by decide +kernel) (hts (.classLink RX4 227 "java/lang/IndexOutOfBoundsException") (by decide +kernel)) (hts (.initialized "java/lang/IndexOutOfBoundsException") (by decide +kernel)) hsa (vx_hat (fun w h => hts w (List.mem_cons_of_mem _ (List.mem_append_right _ h))) ng_IOOBE (vx_c (va_Nw.use rfl (hX.c 2 rfl)) (vx_c (va_Nw.use rfl (hX.d 0 rfl)) (vx_c (va_Nw.use rfl (hX.d 1 rfl)) (vx_c (va_Nw.use rfl (hX.d 2 rfl)) vx_n))))) ot_IOOBE hZ.1 hZ.2 hS (hl.1.trans hml.symm) dX4_descentPoint_11 dX4_descentPoint_14 dX4_descentPoint_15 dX4_descentPoint_17 dX4_descentPoint_20 (fun x hx9 => (hnt x hx9).elim) (Nat.le_of_ble_eq_true rfl) (Nat.le_of_ble_eq_true rfl) (Nat.le_of_ble_eq_true rfl) (Nat.le_of_ble_eq_true rfl) hlocks (fun t hvm hz hk => ⟨(), trivial, ⟨rfl, if_pos (Or.inr (Int32.le_trans (nI_le (dlen_le G n sc) (by omega)) (Int32.not_lt.mp c_8)))⟩, ⟨Nat.le_trans hS.1 hz, fun q h1 h2 => (hk q (Nat.lt_of_lt_of_le h1 hS.1)).trans (hS.2.1 q h1 h2)⟩⟩) hS.2.2 (Nat.le_of_ble_eq_true rfl) (Nat.le_of_ble_eq_true rfl)
set_option maxHeartbeats 1000000 in
set_option maxRecDepth 100000 in
/-- rejectionMode -/
theorem c_X4_rejectionMode (l : Launch) (hst : l.stackTraces = false) (dC : Nat → ClassId) (dI : Nat → Nat → Nat) (cy : Nat → ClassId) (sz : Nat) (d0 : Nat) (o : Nat → Nat) (F : Nat → Int32) : vx_Met l yX4_rejectionMode wsX4_rejectionMode ({ frames := 7, cells := 1, slots := 6, locals := 102 }) (va_Pc [.ref d0] (pR dC dI cy (wObj d0 o F) sz)) (va_Qi (fun (r : Int32) (_ : Unit) => c01 (F 8) = 0 ∧ r = F 9) (fun (_ : Unit) (_ : State) => True) (fun q => sz ≤ q)) (vx_X (fun (_ : Unit) => True) (fun (E : String) (_ : Unit) (_ : State) => E = "java/util/NoSuchElementException" ∧ c01 (F 8) = 1) (fun q => sz ≤ q)) 1 6 (fun q => sz ≤ q) := by
  refine vx_ofW (cc := cX4_rejectionMode) (maxL := 1) (ret := some .int) (by decide) rfl ?_
  intro p e s m args below meth c s₁ B hml hnt hv
  obtain ⟨rfl, hsz, hP, hE, hX, hZ⟩ := hv
  have hK := hE.1
  subst hsz
  have hS : va_S (fun q => s.heap.size ≤ q) s.heap s.heap [] := va_S.rf
  have hA : ∀ q : Nat, s.heap.size ≤ q → (fun q => s.heap.size ≤ q) q := fun q h => h
  have hP : va_P (dC, dI) vwCl (wObj d0 o F) s.heap := hP
  have hx := B.exec
  have hb := B.bytes
  have hr := B.returns
  have hts := atoms_spec (ws := wsX4_rejectionMode) B.pre
  have hown : s.vm.findClass RX4 = some m.cls := findClass_of_methodNamed B.named
  have hlocks := B.notSynchronized
  have hin4 : ∀ w ∈ u_ws RX4 TX4 12, w ∈ wsX4_rejectionMode := by decide +kernel
  have f_235 := hts (.fieldLink RX4 235 "DeadlineAdmission" "rejectedMode" "I") (by decide +kernel)
  have hl := lv_entry ([.ref d0]) (n := 1) (Nat.le_of_ble_eq_true rfl)
  rw [lg_entry_eq]
  generalize (lg_sl ([.ref d0]) ++ List.replicate (1 - (lg_sl ([.ref d0])).length) Slot.unset).toArray = ls at hl ⊢
  have hl : lv_has ls 1 [(0, .ref d0)] := hl
  refine lv_aload_n hx hb dX4_rejectionMode_0 rfl (lv_at hl 0 rfl) ?_
  refine vx_callv (vx_runV (As := []) (rest := []) ⟨hx, hb, hml, hown, hts⟩ (c_X4_requireRejection l hst dC dI cy s.heap.size d0 o F) (cwV 0 hts gX4_rejectionMode_X4_requireRejection rfl rfl rfl (by decide +kernel) ⟨Nat.le_of_ble_eq_true rfl, Nat.le_of_ble_eq_true rfl⟩) ⟨bl_R, va_recv hK hP (ci := 4) (q0 := 0) rfl rfl, pr_R hP hE hX hZ hS hA⟩ rfl rfl hl.1 rfl (lv_room (Nat.le_of_ble_eq_true rfl)) dX4_rejectionMode_1 ⟨Nat.le_of_ble_eq_true rfl, Nat.le_of_ble_eq_true rfl⟩) hS (fun q _ h => hA q (Nat.le_trans hS.1 h)) (fun q h => hA q (Nat.le_trans hS.1 h)) (fun q _ h => hA q (Nat.le_trans hS.1 h)) (fun E ce q9 u t H1 locs ht hvm hpx hBX hz1 hk1 hS hce hcv hcl => ?_) (fun u t H1 locs ht hvm hw hB hz1 hk1 hS => ?_)
  · exact vx_out (fun x hx9 => (hnt x hx9).elim) hlocks hce hcv hcl (fun t ht hvm => ⟨(), trivial, hBX, hS.F ht⟩) hS.2.2 (Nat.le_of_ble_eq_true rfl) (Nat.le_of_ble_eq_true rfl)
  have hs9 := hw
  have hP : va_P (dC, dI) vwCl (wObj d0 o F) H1 := hP.kept (fun k q hk => hk1 q.1 ((hP k q hk).lt) (Nat.not_le.mpr ((hP k q hk).lt)))
  clear hz1 hk1
  generalize H1 = H at hP hS ⊢
  refine lv_aload_n hx hb dX4_rejectionMode_4 rfl (lv_at hl 0 rfl) ?_
  refine va_get (D := (dC, dI)) (ci := 4) (v := .int (F 9)) (C := RX4) (T := TX4) (N := 12) hx hb hts hin4 hown hK hP 0 rfl rfl 9 (by decide) f_235 (fun _ h9 => h9) rfl dX4_rejectionMode_5 ?_
  refine vx_ret ?_
  refine W.widen (k := 1) (n := 6) (Nat.le_of_ble_eq_true rfl) (Nat.le_of_ble_eq_true rfl) ?_
  exact W.iret (v := F 9) hx hb hr (fun t ht hW => ⟨⟨F 9, (), rfl, ⟨hs9, rfl⟩, trivial⟩, hS.F ht⟩) hS.2.2 dX4_rejectionMode_8
set_option maxHeartbeats 1000000 in
set_option maxRecDepth 100000 in
/-- rejectionLength -/
theorem c_X4_rejectionLength (l : Launch) (hst : l.stackTraces = false) (dC : Nat → ClassId) (dI : Nat → Nat → Nat) (cy : Nat → ClassId) (sz : Nat) (d0 : Nat) (o : Nat → Nat) (F : Nat → Int32) : vx_Met l yX4_rejectionLength wsX4_rejectionLength ({ frames := 7, cells := 1, slots := 6, locals := 102 }) (va_Pc [.ref d0] (pR dC dI cy (wObj d0 o F) sz)) (va_Qi (fun (r : Int32) (_ : Unit) => c01 (F 8) = 0 ∧ r = F 10) (fun (_ : Unit) (_ : State) => True) (fun q => sz ≤ q)) (vx_X (fun (_ : Unit) => True) (fun (E : String) (_ : Unit) (_ : State) => E = "java/util/NoSuchElementException" ∧ c01 (F 8) = 1) (fun q => sz ≤ q)) 1 6 (fun q => sz ≤ q) := by
  refine vx_ofW (cc := cX4_rejectionLength) (maxL := 1) (ret := some .int) (by decide) rfl ?_
  intro p e s m args below meth c s₁ B hml hnt hv
  obtain ⟨rfl, hsz, hP, hE, hX, hZ⟩ := hv
  have hK := hE.1
  subst hsz
  have hS : va_S (fun q => s.heap.size ≤ q) s.heap s.heap [] := va_S.rf
  have hA : ∀ q : Nat, s.heap.size ≤ q → (fun q => s.heap.size ≤ q) q := fun q h => h
  have hP : va_P (dC, dI) vwCl (wObj d0 o F) s.heap := hP
  have hx := B.exec
  have hb := B.bytes
  have hr := B.returns
  have hts := atoms_spec (ws := wsX4_rejectionLength) B.pre
  have hown : s.vm.findClass RX4 = some m.cls := findClass_of_methodNamed B.named
  have hlocks := B.notSynchronized
  have hin4 : ∀ w ∈ u_ws RX4 TX4 12, w ∈ wsX4_rejectionLength := by decide +kernel
  have f_238 := hts (.fieldLink RX4 238 "DeadlineAdmission" "rejectedLength" "I") (by decide +kernel)
  have hl := lv_entry ([.ref d0]) (n := 1) (Nat.le_of_ble_eq_true rfl)
  rw [lg_entry_eq]
  generalize (lg_sl ([.ref d0]) ++ List.replicate (1 - (lg_sl ([.ref d0])).length) Slot.unset).toArray = ls at hl ⊢
  have hl : lv_has ls 1 [(0, .ref d0)] := hl
  refine lv_aload_n hx hb dX4_rejectionLength_0 rfl (lv_at hl 0 rfl) ?_
  refine vx_callv (vx_runV (As := []) (rest := []) ⟨hx, hb, hml, hown, hts⟩ (c_X4_requireRejection l hst dC dI cy s.heap.size d0 o F) (cwV 0 hts gX4_rejectionLength_X4_requireRejection rfl rfl rfl (by decide +kernel) ⟨Nat.le_of_ble_eq_true rfl, Nat.le_of_ble_eq_true rfl⟩) ⟨bl_R, va_recv hK hP (ci := 4) (q0 := 0) rfl rfl, pr_R hP hE hX hZ hS hA⟩ rfl rfl hl.1 rfl (lv_room (Nat.le_of_ble_eq_true rfl)) dX4_rejectionLength_1 ⟨Nat.le_of_ble_eq_true rfl, Nat.le_of_ble_eq_true rfl⟩) hS (fun q _ h => hA q (Nat.le_trans hS.1 h)) (fun q h => hA q (Nat.le_trans hS.1 h)) (fun q _ h => hA q (Nat.le_trans hS.1 h)) (fun E ce q9 u t H1 locs ht hvm hpx hBX hz1 hk1 hS hce hcv hcl => ?_) (fun u t H1 locs ht hvm hw hB hz1 hk1 hS => ?_)
  · exact vx_out (fun x hx9 => (hnt x hx9).elim) hlocks hce hcv hcl (fun t ht hvm => ⟨(), trivial, hBX, hS.F ht⟩) hS.2.2 (Nat.le_of_ble_eq_true rfl) (Nat.le_of_ble_eq_true rfl)
  have hs9 := hw
  have hP : va_P (dC, dI) vwCl (wObj d0 o F) H1 := hP.kept (fun k q hk => hk1 q.1 ((hP k q hk).lt) (Nat.not_le.mpr ((hP k q hk).lt)))
  clear hz1 hk1
  generalize H1 = H at hP hS ⊢
  refine lv_aload_n hx hb dX4_rejectionLength_4 rfl (lv_at hl 0 rfl) ?_
  refine va_get (D := (dC, dI)) (ci := 4) (v := .int (F 10)) (C := RX4) (T := TX4) (N := 12) hx hb hts hin4 hown hK hP 0 rfl rfl 10 (by decide) f_238 (fun _ h9 => h9) rfl dX4_rejectionLength_5 ?_
  refine vx_ret ?_
  refine W.widen (k := 1) (n := 6) (Nat.le_of_ble_eq_true rfl) (Nat.le_of_ble_eq_true rfl) ?_
  exact W.iret (v := F 10) hx hb hr (fun t ht hW => ⟨⟨F 10, (), rfl, ⟨hs9, rfl⟩, trivial⟩, hS.F ht⟩) hS.2.2 dX4_rejectionLength_8
set_option maxHeartbeats 1000000 in
set_option maxRecDepth 100000 in
/-- rejectionDemand -/
theorem c_X4_rejectionDemand (l : Launch) (hst : l.stackTraces = false) (dC : Nat → ClassId) (dI : Nat → Nat → Nat) (cy : Nat → ClassId) (sz : Nat) (d0 : Nat) (o : Nat → Nat) (F : Nat → Int32) : vx_Met l yX4_rejectionDemand wsX4_rejectionDemand ({ frames := 7, cells := 1, slots := 6, locals := 102 }) (va_Pc [.ref d0] (pR dC dI cy (wObj d0 o F) sz)) (va_Qi (fun (r : Int32) (_ : Unit) => c01 (F 8) = 0 ∧ r = F 11) (fun (_ : Unit) (_ : State) => True) (fun q => sz ≤ q)) (vx_X (fun (_ : Unit) => True) (fun (E : String) (_ : Unit) (_ : State) => E = "java/util/NoSuchElementException" ∧ c01 (F 8) = 1) (fun q => sz ≤ q)) 1 6 (fun q => sz ≤ q) := by
  refine vx_ofW (cc := cX4_rejectionDemand) (maxL := 1) (ret := some .int) (by decide) rfl ?_
  intro p e s m args below meth c s₁ B hml hnt hv
  obtain ⟨rfl, hsz, hP, hE, hX, hZ⟩ := hv
  have hK := hE.1
  subst hsz
  have hS : va_S (fun q => s.heap.size ≤ q) s.heap s.heap [] := va_S.rf
  have hA : ∀ q : Nat, s.heap.size ≤ q → (fun q => s.heap.size ≤ q) q := fun q h => h
  have hP : va_P (dC, dI) vwCl (wObj d0 o F) s.heap := hP
  have hx := B.exec
  have hb := B.bytes
  have hr := B.returns
  have hts := atoms_spec (ws := wsX4_rejectionDemand) B.pre
  have hown : s.vm.findClass RX4 = some m.cls := findClass_of_methodNamed B.named
  have hlocks := B.notSynchronized
  have hin4 : ∀ w ∈ u_ws RX4 TX4 12, w ∈ wsX4_rejectionDemand := by decide +kernel
  have f_241 := hts (.fieldLink RX4 241 "DeadlineAdmission" "rejectedDemand" "I") (by decide +kernel)
  have hl := lv_entry ([.ref d0]) (n := 1) (Nat.le_of_ble_eq_true rfl)
  rw [lg_entry_eq]
  generalize (lg_sl ([.ref d0]) ++ List.replicate (1 - (lg_sl ([.ref d0])).length) Slot.unset).toArray = ls at hl ⊢
  have hl : lv_has ls 1 [(0, .ref d0)] := hl
  refine lv_aload_n hx hb dX4_rejectionDemand_0 rfl (lv_at hl 0 rfl) ?_
  refine vx_callv (vx_runV (As := []) (rest := []) ⟨hx, hb, hml, hown, hts⟩ (c_X4_requireRejection l hst dC dI cy s.heap.size d0 o F) (cwV 0 hts gX4_rejectionDemand_X4_requireRejection rfl rfl rfl (by decide +kernel) ⟨Nat.le_of_ble_eq_true rfl, Nat.le_of_ble_eq_true rfl⟩) ⟨bl_R, va_recv hK hP (ci := 4) (q0 := 0) rfl rfl, pr_R hP hE hX hZ hS hA⟩ rfl rfl hl.1 rfl (lv_room (Nat.le_of_ble_eq_true rfl)) dX4_rejectionDemand_1 ⟨Nat.le_of_ble_eq_true rfl, Nat.le_of_ble_eq_true rfl⟩) hS (fun q _ h => hA q (Nat.le_trans hS.1 h)) (fun q h => hA q (Nat.le_trans hS.1 h)) (fun q _ h => hA q (Nat.le_trans hS.1 h)) (fun E ce q9 u t H1 locs ht hvm hpx hBX hz1 hk1 hS hce hcv hcl => ?_) (fun u t H1 locs ht hvm hw hB hz1 hk1 hS => ?_)
  · exact vx_out (fun x hx9 => (hnt x hx9).elim) hlocks hce hcv hcl (fun t ht hvm => ⟨(), trivial, hBX, hS.F ht⟩) hS.2.2 (Nat.le_of_ble_eq_true rfl) (Nat.le_of_ble_eq_true rfl)
  have hs9 := hw
  have hP : va_P (dC, dI) vwCl (wObj d0 o F) H1 := hP.kept (fun k q hk => hk1 q.1 ((hP k q hk).lt) (Nat.not_le.mpr ((hP k q hk).lt)))
  clear hz1 hk1
  generalize H1 = H at hP hS ⊢
  refine lv_aload_n hx hb dX4_rejectionDemand_4 rfl (lv_at hl 0 rfl) ?_
  refine va_get (D := (dC, dI)) (ci := 4) (v := .int (F 11)) (C := RX4) (T := TX4) (N := 12) hx hb hts hin4 hown hK hP 0 rfl rfl 11 (by decide) f_241 (fun _ h9 => h9) rfl dX4_rejectionDemand_5 ?_
  refine vx_ret ?_
  refine W.widen (k := 1) (n := 6) (Nat.le_of_ble_eq_true rfl) (Nat.le_of_ble_eq_true rfl) ?_
  exact W.iret (v := F 11) hx hb hr (fun t ht hW => ⟨⟨F 11, (), rfl, ⟨hs9, rfl⟩, trivial⟩, hS.F ht⟩) hS.2.2 dX4_rejectionDemand_8
set_option maxHeartbeats 1000000 in
set_option maxRecDepth 100000 in
/-- completed -/
theorem c_X4_completed (l : Launch) (hst : l.stackTraces = false) (dC : Nat → ClassId) (dI : Nat → Nat → Nat) (cy : Nat → ClassId) (sz : Nat) (d0 : Nat) (o : Nat → Nat) (F : Nat → Int32) (z : Nat → Nat) (M : Nat → Int32) : vx_Met l yX4_completed wsX4_completed ({ frames := 7, cells := 1, slots := 6, locals := 102 }) (va_Pc [.ref d0] (pR dC dI cy (wObj d0 o F ++ (wSim (o 5) z M)) sz)) (va_Qi (fun (r : Int32) (_ : Unit) => c01 (F 7) = 0 ∧ r = M 11) (fun (_ : Unit) (_ : State) => True) (fun q => sz ≤ q)) (vx_X (fun (_ : Unit) => True) (fun (E : String) (_ : Unit) (_ : State) => E = "java/lang/IllegalStateException" ∧ c01 (F 7) = 1) (fun q => sz ≤ q)) 1 6 (fun q => sz ≤ q) := by
  refine vx_ofW (cc := cX4_completed) (maxL := 1) (ret := some .int) (by decide) rfl ?_
  intro p e s m args below meth c s₁ B hml hnt hv
  obtain ⟨rfl, hsz, hP, hE, hX, hZ⟩ := hv
  have hK := hE.1
  subst hsz
  have hS : va_S (fun q => s.heap.size ≤ q) s.heap s.heap [] := va_S.rf
  have hA : ∀ q : Nat, s.heap.size ≤ q → (fun q => s.heap.size ≤ q) q := fun q h => h
  have hP : va_P (dC, dI) vwCl (wObj d0 o F ++ (wSim (o 5) z M)) s.heap := hP
  have hx := B.exec
  have hb := B.bytes
  have hr := B.returns
  have hts := atoms_spec (ws := wsX4_completed) B.pre
  have hown : s.vm.findClass RX4 = some m.cls := findClass_of_methodNamed B.named
  have hlocks := B.notSynchronized
  have hin2 : ∀ w ∈ u_ws RX2 TX2 15, w ∈ wsX4_completed := by decide +kernel
  have hin4 : ∀ w ∈ u_ws RX4 TX4 12, w ∈ wsX4_completed := by decide +kernel
  have f_258 := va_Nw.use (A := ([.ref d0].toArray)) rfl (hE.f 19 rfl)
  have f_39 := hts (.fieldLink RX4 39 "DeadlineAdmission" "simulation" "LDeadlineAdmission$Simulation;") (by decide +kernel)
  have hl := lv_entry ([.ref d0]) (n := 1) (Nat.le_of_ble_eq_true rfl)
  rw [lg_entry_eq]
  generalize (lg_sl ([.ref d0]) ++ List.replicate (1 - (lg_sl ([.ref d0])).length) Slot.unset).toArray = ls at hl ⊢
  have hl : lv_has ls 1 [(0, .ref d0)] := hl
  refine lv_aload_n hx hb dX4_completed_0 rfl (lv_at hl 0 rfl) ?_
  refine vx_callv (vx_runV (As := []) (rest := []) ⟨hx, hb, hml, hown, hts⟩ (c_X4_requireSimulation l hst dC dI cy s.heap.size d0 o F) (cwV 0 hts gX4_completed_X4_requireSimulation rfl rfl rfl (by decide +kernel) ⟨Nat.le_of_ble_eq_true rfl, Nat.le_of_ble_eq_true rfl⟩) ⟨bl_R, va_recv hK (hP.sub (ws' := wObj d0 o F) [0] rfl) (ci := 4) (q0 := 0) rfl rfl, pr_R (hP.sub (ws' := wObj d0 o F) [0] rfl) hE hX hZ hS hA⟩ rfl rfl hl.1 rfl (lv_room (Nat.le_of_ble_eq_true rfl)) dX4_completed_1 ⟨Nat.le_of_ble_eq_true rfl, Nat.le_of_ble_eq_true rfl⟩) hS (fun q _ h => hA q (Nat.le_trans hS.1 h)) (fun q h => hA q (Nat.le_trans hS.1 h)) (fun q _ h => hA q (Nat.le_trans hS.1 h)) (fun E ce q9 u t H1 locs ht hvm hpx hBX hz1 hk1 hS hce hcv hcl => ?_) (fun u t H1 locs ht hvm hw hB hz1 hk1 hS => ?_)
  · exact vx_out (fun x hx9 => (hnt x hx9).elim) hlocks hce hcv hcl (fun t ht hvm => ⟨(), trivial, hBX, hS.F ht⟩) hS.2.2 (Nat.le_of_ble_eq_true rfl) (Nat.le_of_ble_eq_true rfl)
  have hs9 := hw
  have hP : va_P (dC, dI) vwCl (wObj d0 o F ++ (wSim (o 5) z M)) H1 := hP.kept (fun k q hk => hk1 q.1 ((hP k q hk).lt) (Nat.not_le.mpr ((hP k q hk).lt)))
  clear hz1 hk1
  generalize H1 = H at hP hS ⊢
  refine lv_aload_n hx hb dX4_completed_4 rfl (lv_at hl 0 rfl) ?_
  refine va_get (D := (dC, dI)) (ci := 4) (v := .ref (o 5)) (C := RX4) (T := TX4) (N := 12) hx hb hts hin4 hown hK hP 0 rfl rfl 5 (by decide) f_39 (fun _ h9 => h9) rfl dX4_completed_5 ?_
  refine va_getN (D := (dC, dI)) (ci := 2) (v := .int (M 11)) (C := RX2) (T := TX2) (N := 15) hx hb hts hin2 hown hK hP 1 rfl rfl 11 (by decide) f_258 (fun _ h9 => h9) rfl dX4_completed_8 ?_
  refine vx_ret ?_
  refine W.widen (k := 1) (n := 6) (Nat.le_of_ble_eq_true rfl) (Nat.le_of_ble_eq_true rfl) ?_
  exact W.iret (v := M 11) hx hb hr (fun t ht hW => ⟨⟨M 11, (), rfl, ⟨hs9, rfl⟩, trivial⟩, hS.F ht⟩) hS.2.2 dX4_completed_11
set_option maxHeartbeats 1000000 in
set_option maxRecDepth 100000 in
/-- dropped -/
theorem c_X4_dropped (l : Launch) (hst : l.stackTraces = false) (dC : Nat → ClassId) (dI : Nat → Nat → Nat) (cy : Nat → ClassId) (sz : Nat) (d0 : Nat) (o : Nat → Nat) (F : Nat → Int32) (z : Nat → Nat) (M : Nat → Int32) : vx_Met l yX4_dropped wsX4_dropped ({ frames := 7, cells := 1, slots := 6, locals := 102 }) (va_Pc [.ref d0] (pR dC dI cy (wObj d0 o F ++ (wSim (o 5) z M)) sz)) (va_Qi (fun (r : Int32) (_ : Unit) => c01 (F 7) = 0 ∧ r = M 12) (fun (_ : Unit) (_ : State) => True) (fun q => sz ≤ q)) (vx_X (fun (_ : Unit) => True) (fun (E : String) (_ : Unit) (_ : State) => E = "java/lang/IllegalStateException" ∧ c01 (F 7) = 1) (fun q => sz ≤ q)) 1 6 (fun q => sz ≤ q) := by
  refine vx_ofW (cc := cX4_dropped) (maxL := 1) (ret := some .int) (by decide) rfl ?_
  intro p e s m args below meth c s₁ B hml hnt hv
  obtain ⟨rfl, hsz, hP, hE, hX, hZ⟩ := hv
  have hK := hE.1
  subst hsz
  have hS : va_S (fun q => s.heap.size ≤ q) s.heap s.heap [] := va_S.rf
  have hA : ∀ q : Nat, s.heap.size ≤ q → (fun q => s.heap.size ≤ q) q := fun q h => h
  have hP : va_P (dC, dI) vwCl (wObj d0 o F ++ (wSim (o 5) z M)) s.heap := hP
  have hx := B.exec
  have hb := B.bytes
  have hr := B.returns
  have hts := atoms_spec (ws := wsX4_dropped) B.pre
  have hown : s.vm.findClass RX4 = some m.cls := findClass_of_methodNamed B.named
  have hlocks := B.notSynchronized
  have hin2 : ∀ w ∈ u_ws RX2 TX2 15, w ∈ wsX4_dropped := by decide +kernel
  have hin4 : ∀ w ∈ u_ws RX4 TX4 12, w ∈ wsX4_dropped := by decide +kernel
  have f_261 := va_Nw.use (A := ([.ref d0].toArray)) rfl (hE.f 20 rfl)
  have f_39 := hts (.fieldLink RX4 39 "DeadlineAdmission" "simulation" "LDeadlineAdmission$Simulation;") (by decide +kernel)
  have hl := lv_entry ([.ref d0]) (n := 1) (Nat.le_of_ble_eq_true rfl)
  rw [lg_entry_eq]
  generalize (lg_sl ([.ref d0]) ++ List.replicate (1 - (lg_sl ([.ref d0])).length) Slot.unset).toArray = ls at hl ⊢
  have hl : lv_has ls 1 [(0, .ref d0)] := hl
  refine lv_aload_n hx hb dX4_dropped_0 rfl (lv_at hl 0 rfl) ?_
  refine vx_callv (vx_runV (As := []) (rest := []) ⟨hx, hb, hml, hown, hts⟩ (c_X4_requireSimulation l hst dC dI cy s.heap.size d0 o F) (cwV 0 hts gX4_dropped_X4_requireSimulation rfl rfl rfl (by decide +kernel) ⟨Nat.le_of_ble_eq_true rfl, Nat.le_of_ble_eq_true rfl⟩) ⟨bl_R, va_recv hK (hP.sub (ws' := wObj d0 o F) [0] rfl) (ci := 4) (q0 := 0) rfl rfl, pr_R (hP.sub (ws' := wObj d0 o F) [0] rfl) hE hX hZ hS hA⟩ rfl rfl hl.1 rfl (lv_room (Nat.le_of_ble_eq_true rfl)) dX4_dropped_1 ⟨Nat.le_of_ble_eq_true rfl, Nat.le_of_ble_eq_true rfl⟩) hS (fun q _ h => hA q (Nat.le_trans hS.1 h)) (fun q h => hA q (Nat.le_trans hS.1 h)) (fun q _ h => hA q (Nat.le_trans hS.1 h)) (fun E ce q9 u t H1 locs ht hvm hpx hBX hz1 hk1 hS hce hcv hcl => ?_) (fun u t H1 locs ht hvm hw hB hz1 hk1 hS => ?_)
  · exact vx_out (fun x hx9 => (hnt x hx9).elim) hlocks hce hcv hcl (fun t ht hvm => ⟨(), trivial, hBX, hS.F ht⟩) hS.2.2 (Nat.le_of_ble_eq_true rfl) (Nat.le_of_ble_eq_true rfl)
  have hs9 := hw
  have hP : va_P (dC, dI) vwCl (wObj d0 o F ++ (wSim (o 5) z M)) H1 := hP.kept (fun k q hk => hk1 q.1 ((hP k q hk).lt) (Nat.not_le.mpr ((hP k q hk).lt)))
  clear hz1 hk1
  generalize H1 = H at hP hS ⊢
  refine lv_aload_n hx hb dX4_dropped_4 rfl (lv_at hl 0 rfl) ?_
  refine va_get (D := (dC, dI)) (ci := 4) (v := .ref (o 5)) (C := RX4) (T := TX4) (N := 12) hx hb hts hin4 hown hK hP 0 rfl rfl 5 (by decide) f_39 (fun _ h9 => h9) rfl dX4_dropped_5 ?_
  refine va_getN (D := (dC, dI)) (ci := 2) (v := .int (M 12)) (C := RX2) (T := TX2) (N := 15) hx hb hts hin2 hown hK hP 1 rfl rfl 12 (by decide) f_261 (fun _ h9 => h9) rfl dX4_dropped_8 ?_
  refine vx_ret ?_
  refine W.widen (k := 1) (n := 6) (Nat.le_of_ble_eq_true rfl) (Nat.le_of_ble_eq_true rfl) ?_
  exact W.iret (v := M 12) hx hb hr (fun t ht hW => ⟨⟨M 12, (), rfl, ⟨hs9, rfl⟩, trivial⟩, hS.F ht⟩) hS.2.2 dX4_dropped_11
set_option maxHeartbeats 1000000 in
set_option maxRecDepth 100000 in
/-- switches -/
theorem c_X4_switches (l : Launch) (hst : l.stackTraces = false) (dC : Nat → ClassId) (dI : Nat → Nat → Nat) (cy : Nat → ClassId) (sz : Nat) (d0 : Nat) (o : Nat → Nat) (F : Nat → Int32) (z : Nat → Nat) (M : Nat → Int32) : vx_Met l yX4_switches wsX4_switches ({ frames := 7, cells := 1, slots := 6, locals := 102 }) (va_Pc [.ref d0] (pR dC dI cy (wObj d0 o F ++ (wSim (o 5) z M)) sz)) (va_Qi (fun (r : Int32) (_ : Unit) => c01 (F 7) = 0 ∧ r = M 13) (fun (_ : Unit) (_ : State) => True) (fun q => sz ≤ q)) (vx_X (fun (_ : Unit) => True) (fun (E : String) (_ : Unit) (_ : State) => E = "java/lang/IllegalStateException" ∧ c01 (F 7) = 1) (fun q => sz ≤ q)) 1 6 (fun q => sz ≤ q) := by
  refine vx_ofW (cc := cX4_switches) (maxL := 1) (ret := some .int) (by decide) rfl ?_
  intro p e s m args below meth c s₁ B hml hnt hv
  obtain ⟨rfl, hsz, hP, hE, hX, hZ⟩ := hv
  have hK := hE.1
  subst hsz
  have hS : va_S (fun q => s.heap.size ≤ q) s.heap s.heap [] := va_S.rf
  have hA : ∀ q : Nat, s.heap.size ≤ q → (fun q => s.heap.size ≤ q) q := fun q h => h
  have hP : va_P (dC, dI) vwCl (wObj d0 o F ++ (wSim (o 5) z M)) s.heap := hP
  have hx := B.exec
  have hb := B.bytes
  have hr := B.returns
  have hts := atoms_spec (ws := wsX4_switches) B.pre
  have hown : s.vm.findClass RX4 = some m.cls := findClass_of_methodNamed B.named
  have hlocks := B.notSynchronized
  have hin2 : ∀ w ∈ u_ws RX2 TX2 15, w ∈ wsX4_switches := by decide +kernel
  have hin4 : ∀ w ∈ u_ws RX4 TX4 12, w ∈ wsX4_switches := by decide +kernel
  have f_264 := va_Nw.use (A := ([.ref d0].toArray)) rfl (hE.f 21 rfl)
  have f_39 := hts (.fieldLink RX4 39 "DeadlineAdmission" "simulation" "LDeadlineAdmission$Simulation;") (by decide +kernel)
  have hl := lv_entry ([.ref d0]) (n := 1) (Nat.le_of_ble_eq_true rfl)
  rw [lg_entry_eq]
  generalize (lg_sl ([.ref d0]) ++ List.replicate (1 - (lg_sl ([.ref d0])).length) Slot.unset).toArray = ls at hl ⊢
  have hl : lv_has ls 1 [(0, .ref d0)] := hl
  refine lv_aload_n hx hb dX4_switches_0 rfl (lv_at hl 0 rfl) ?_
  refine vx_callv (vx_runV (As := []) (rest := []) ⟨hx, hb, hml, hown, hts⟩ (c_X4_requireSimulation l hst dC dI cy s.heap.size d0 o F) (cwV 0 hts gX4_switches_X4_requireSimulation rfl rfl rfl (by decide +kernel) ⟨Nat.le_of_ble_eq_true rfl, Nat.le_of_ble_eq_true rfl⟩) ⟨bl_R, va_recv hK (hP.sub (ws' := wObj d0 o F) [0] rfl) (ci := 4) (q0 := 0) rfl rfl, pr_R (hP.sub (ws' := wObj d0 o F) [0] rfl) hE hX hZ hS hA⟩ rfl rfl hl.1 rfl (lv_room (Nat.le_of_ble_eq_true rfl)) dX4_switches_1 ⟨Nat.le_of_ble_eq_true rfl, Nat.le_of_ble_eq_true rfl⟩) hS (fun q _ h => hA q (Nat.le_trans hS.1 h)) (fun q h => hA q (Nat.le_trans hS.1 h)) (fun q _ h => hA q (Nat.le_trans hS.1 h)) (fun E ce q9 u t H1 locs ht hvm hpx hBX hz1 hk1 hS hce hcv hcl => ?_) (fun u t H1 locs ht hvm hw hB hz1 hk1 hS => ?_)
  · exact vx_out (fun x hx9 => (hnt x hx9).elim) hlocks hce hcv hcl (fun t ht hvm => ⟨(), trivial, hBX, hS.F ht⟩) hS.2.2 (Nat.le_of_ble_eq_true rfl) (Nat.le_of_ble_eq_true rfl)
  have hs9 := hw
  have hP : va_P (dC, dI) vwCl (wObj d0 o F ++ (wSim (o 5) z M)) H1 := hP.kept (fun k q hk => hk1 q.1 ((hP k q hk).lt) (Nat.not_le.mpr ((hP k q hk).lt)))
  clear hz1 hk1
  generalize H1 = H at hP hS ⊢
  refine lv_aload_n hx hb dX4_switches_4 rfl (lv_at hl 0 rfl) ?_
  refine va_get (D := (dC, dI)) (ci := 4) (v := .ref (o 5)) (C := RX4) (T := TX4) (N := 12) hx hb hts hin4 hown hK hP 0 rfl rfl 5 (by decide) f_39 (fun _ h9 => h9) rfl dX4_switches_5 ?_
  refine va_getN (D := (dC, dI)) (ci := 2) (v := .int (M 13)) (C := RX2) (T := TX2) (N := 15) hx hb hts hin2 hown hK hP 1 rfl rfl 13 (by decide) f_264 (fun _ h9 => h9) rfl dX4_switches_8 ?_
  refine vx_ret ?_
  refine W.widen (k := 1) (n := 6) (Nat.le_of_ble_eq_true rfl) (Nat.le_of_ble_eq_true rfl) ?_
  exact W.iret (v := M 13) hx hb hr (fun t ht hW => ⟨⟨M 13, (), rfl, ⟨hs9, rfl⟩, trivial⟩, hS.F ht⟩) hS.2.2 dX4_switches_11
set_option maxHeartbeats 1000000 in
set_option maxRecDepth 100000 in
/-- idleUnits -/
theorem c_X4_idleUnits (l : Launch) (hst : l.stackTraces = false) (dC : Nat → ClassId) (dI : Nat → Nat → Nat) (cy : Nat → ClassId) (sz : Nat) (d0 : Nat) (o : Nat → Nat) (F : Nat → Int32) (z : Nat → Nat) (M : Nat → Int32) : vx_Met l yX4_idleUnits wsX4_idleUnits ({ frames := 7, cells := 1, slots := 6, locals := 102 }) (va_Pc [.ref d0] (pR dC dI cy (wObj d0 o F ++ (wSim (o 5) z M)) sz)) (va_Qi (fun (r : Int32) (_ : Unit) => c01 (F 7) = 0 ∧ r = M 14) (fun (_ : Unit) (_ : State) => True) (fun q => sz ≤ q)) (vx_X (fun (_ : Unit) => True) (fun (E : String) (_ : Unit) (_ : State) => E = "java/lang/IllegalStateException" ∧ c01 (F 7) = 1) (fun q => sz ≤ q)) 1 6 (fun q => sz ≤ q) := by
  refine vx_ofW (cc := cX4_idleUnits) (maxL := 1) (ret := some .int) (by decide) rfl ?_
  intro p e s m args below meth c s₁ B hml hnt hv
  obtain ⟨rfl, hsz, hP, hE, hX, hZ⟩ := hv
  have hK := hE.1
  subst hsz
  have hS : va_S (fun q => s.heap.size ≤ q) s.heap s.heap [] := va_S.rf
  have hA : ∀ q : Nat, s.heap.size ≤ q → (fun q => s.heap.size ≤ q) q := fun q h => h
  have hP : va_P (dC, dI) vwCl (wObj d0 o F ++ (wSim (o 5) z M)) s.heap := hP
  have hx := B.exec
  have hb := B.bytes
  have hr := B.returns
  have hts := atoms_spec (ws := wsX4_idleUnits) B.pre
  have hown : s.vm.findClass RX4 = some m.cls := findClass_of_methodNamed B.named
  have hlocks := B.notSynchronized
  have hin2 : ∀ w ∈ u_ws RX2 TX2 15, w ∈ wsX4_idleUnits := by decide +kernel
  have hin4 : ∀ w ∈ u_ws RX4 TX4 12, w ∈ wsX4_idleUnits := by decide +kernel
  have f_267 := va_Nw.use (A := ([.ref d0].toArray)) rfl (hE.f 22 rfl)
  have f_39 := hts (.fieldLink RX4 39 "DeadlineAdmission" "simulation" "LDeadlineAdmission$Simulation;") (by decide +kernel)
  have hl := lv_entry ([.ref d0]) (n := 1) (Nat.le_of_ble_eq_true rfl)
  rw [lg_entry_eq]
  generalize (lg_sl ([.ref d0]) ++ List.replicate (1 - (lg_sl ([.ref d0])).length) Slot.unset).toArray = ls at hl ⊢
  have hl : lv_has ls 1 [(0, .ref d0)] := hl
  refine lv_aload_n hx hb dX4_idleUnits_0 rfl (lv_at hl 0 rfl) ?_
  refine vx_callv (vx_runV (As := []) (rest := []) ⟨hx, hb, hml, hown, hts⟩ (c_X4_requireSimulation l hst dC dI cy s.heap.size d0 o F) (cwV 0 hts gX4_idleUnits_X4_requireSimulation rfl rfl rfl (by decide +kernel) ⟨Nat.le_of_ble_eq_true rfl, Nat.le_of_ble_eq_true rfl⟩) ⟨bl_R, va_recv hK (hP.sub (ws' := wObj d0 o F) [0] rfl) (ci := 4) (q0 := 0) rfl rfl, pr_R (hP.sub (ws' := wObj d0 o F) [0] rfl) hE hX hZ hS hA⟩ rfl rfl hl.1 rfl (lv_room (Nat.le_of_ble_eq_true rfl)) dX4_idleUnits_1 ⟨Nat.le_of_ble_eq_true rfl, Nat.le_of_ble_eq_true rfl⟩) hS (fun q _ h => hA q (Nat.le_trans hS.1 h)) (fun q h => hA q (Nat.le_trans hS.1 h)) (fun q _ h => hA q (Nat.le_trans hS.1 h)) (fun E ce q9 u t H1 locs ht hvm hpx hBX hz1 hk1 hS hce hcv hcl => ?_) (fun u t H1 locs ht hvm hw hB hz1 hk1 hS => ?_)
  · exact vx_out (fun x hx9 => (hnt x hx9).elim) hlocks hce hcv hcl (fun t ht hvm => ⟨(), trivial, hBX, hS.F ht⟩) hS.2.2 (Nat.le_of_ble_eq_true rfl) (Nat.le_of_ble_eq_true rfl)
  have hs9 := hw
  have hP : va_P (dC, dI) vwCl (wObj d0 o F ++ (wSim (o 5) z M)) H1 := hP.kept (fun k q hk => hk1 q.1 ((hP k q hk).lt) (Nat.not_le.mpr ((hP k q hk).lt)))
  clear hz1 hk1
  generalize H1 = H at hP hS ⊢
  refine lv_aload_n hx hb dX4_idleUnits_4 rfl (lv_at hl 0 rfl) ?_
  refine va_get (D := (dC, dI)) (ci := 4) (v := .ref (o 5)) (C := RX4) (T := TX4) (N := 12) hx hb hts hin4 hown hK hP 0 rfl rfl 5 (by decide) f_39 (fun _ h9 => h9) rfl dX4_idleUnits_5 ?_
  refine va_getN (D := (dC, dI)) (ci := 2) (v := .int (M 14)) (C := RX2) (T := TX2) (N := 15) hx hb hts hin2 hown hK hP 1 rfl rfl 14 (by decide) f_267 (fun _ h9 => h9) rfl dX4_idleUnits_8 ?_
  refine vx_ret ?_
  refine W.widen (k := 1) (n := 6) (Nat.le_of_ble_eq_true rfl) (Nat.le_of_ble_eq_true rfl) ?_
  exact W.iret (v := M 14) hx hb hr (fun t ht hW => ⟨⟨M 14, (), rfl, ⟨hs9, rfl⟩, trivial⟩, hS.F ht⟩) hS.2.2 dX4_idleUnits_11
theorem c01_1 {x : Int32} (h : c01 x = 1) : x = 0 := by
  unfold c01 at h
  split at h
  · assumption
  · exact absurd h (by decide)
theorem c01_0 {x : Int32} (h : c01 x = 0) : ¬ x = 0 := by
  unfold c01 at h
  split at h
  · exact absurd h (by decide)
  · assumption
set_option maxHeartbeats 1000000 in
set_option maxRecDepth 100000 in
/-- response -/
theorem c_X4_response (l : Launch) (hst : l.stackTraces = false) (dC : Nat → ClassId) (dI : Nat → Nat → Nat) (cy : Nat → ClassId) (sz : Nat) (d0 : Nat) (o : Nat → Nat) (F : Nat → Int32) (bc : Nat → Nat) (G : vG) (n : Nat) (hn : n ≤ 8) (sc : Int32) (z : Nat → Nat) (M : Nat → Int32) (GR : Nat → Int32) (hGR : ∀ i, i < 8 → ¬ GR i < 0) (p0 : Int32) : vx_Met l yX4_response wsX4_response ({ frames := 7, cells := 3, slots := 18, locals := 103 }) (va_Pc [.ref d0, .int p0] (pR dC dI cy (wObj d0 o F ++ (wCfg cy (o 0) bc G (nI n) sc ++ (wSim (o 5) z M ++ ([((z 5), .inl ((cy 0), 8, .inl GR))])))) sz)) (va_Qi (fun (r : Int32) (_ : Unit) => cRes n (F 7) GR p0 = 0 ∧ r = GR p0.toNatClampNeg) (fun (_ : Unit) (_ : State) => True) (fun q => sz ≤ q)) (vx_X (fun (_ : Unit) => True) (fun (E : String) (_ : Unit) (_ : State) => (E = "java/lang/IndexOutOfBoundsException" ∧ cRes n (F 7) GR p0 = 1) ∨ (E = "java/lang/IllegalStateException" ∧ cRes n (F 7) GR p0 = 2) ∨ (E = "java/util/NoSuchElementException" ∧ cRes n (F 7) GR p0 = 3)) (fun q => sz ≤ q)) 3 18 (fun q => sz ≤ q) := by
  refine vx_ofW (cc := cX4_response) (maxL := 2) (ret := some .int) (by decide) rfl ?_
  intro p e s m args below meth c s₁ B hml hnt hv
  obtain ⟨rfl, hsz, hP, hE, hX, hZ⟩ := hv
  have hK := hE.1
  subst hsz
  have hS : va_S (fun q => s.heap.size ≤ q) s.heap s.heap [] := va_S.rf
  have hA : ∀ q : Nat, s.heap.size ≤ q → (fun q => s.heap.size ≤ q) q := fun q h => h
  have hP : va_P (dC, dI) vwCl (wObj d0 o F ++ (wCfg cy (o 0) bc G (nI n) sc ++ (wSim (o 5) z M ++ ([((z 5), .inl ((cy 0), 8, .inl GR))])))) s.heap := hP
  have hx := B.exec
  have hb := B.bytes
  have hr := B.returns
  have hts := atoms_spec (ws := wsX4_response) B.pre
  have hown : s.vm.findClass RX4 = some m.cls := findClass_of_methodNamed B.named
  have hlocks := B.notSynchronized
  have hin2 : ∀ w ∈ u_ws RX2 TX2 15, w ∈ wsX4_response := by decide +kernel
  have hin4 : ∀ w ∈ u_ws RX4 TX4 12, w ∈ wsX4_response := by decide +kernel
  have f_270 := va_Nw.use (A := ([.ref d0, .int p0].toArray)) rfl (hE.f 17 rfl)
  have f_39 := hts (.fieldLink RX4 39 "DeadlineAdmission" "simulation" "LDeadlineAdmission$Simulation;") (by decide +kernel)
  have hl := lv_entry ([.ref d0, .int p0]) (n := 2) (Nat.le_of_ble_eq_true rfl)
  rw [lg_entry_eq]
  generalize (lg_sl ([.ref d0, .int p0]) ++ List.replicate (2 - (lg_sl ([.ref d0, .int p0])).length) Slot.unset).toArray = ls at hl ⊢
  have hl : lv_has ls 2 [(0, .ref d0), (1, .int p0)] := hl
  refine lv_aload_n hx hb dX4_response_0 rfl (lv_at hl 0 rfl) ?_
  refine lv_iload_n hx hb dX4_response_1 rfl (lv_at hl 1 rfl) ?_
  refine vx_callv (vx_runV (As := [.int p0]) (rest := []) ⟨hx, hb, hml, hown, hts⟩ (c_X4_requireTask l hst dC dI cy s.heap.size d0 o F bc G n hn sc p0) (cwV 1 hts gX4_response_X4_requireTask rfl rfl rfl (by decide +kernel) ⟨Nat.le_of_ble_eq_true rfl, Nat.le_of_ble_eq_true rfl⟩) ⟨bl_R, va_recv hK (hP.sub (ws' := wObj d0 o F ++ (wCfg cy (o 0) bc G (nI n) sc)) [0, 1, 2, 3, 4, 5, 6, 7, 8] rfl) (ci := 4) (q0 := 0) rfl rfl, pr_R (hP.sub (ws' := wObj d0 o F ++ (wCfg cy (o 0) bc G (nI n) sc)) [0, 1, 2, 3, 4, 5, 6, 7, 8] rfl) hE hX hZ hS hA⟩ rfl rfl hl.1 rfl (lv_room (Nat.le_of_ble_eq_true rfl)) dX4_response_2 ⟨Nat.le_of_ble_eq_true rfl, Nat.le_of_ble_eq_true rfl⟩) hS (fun q _ h => hA q (Nat.le_trans hS.1 h)) (fun q h => hA q (Nat.le_trans hS.1 h)) (fun q _ h => hA q (Nat.le_trans hS.1 h)) (fun E ce q9 u t H1 locs ht hvm hpx hBX hz1 hk1 hS hce hcv hcl => ?_) (fun u t H1 locs ht hvm hw hB hz1 hk1 hS => ?_)
  · exact vx_out (fun x hx9 => (hnt x hx9).elim) hlocks hce hcv hcl (fun t ht hvm => ⟨(), trivial, (Or.inl ⟨hBX.1, if_neg (fun h => absurd (hBX.2.symm.trans h) (by decide))⟩), hS.F ht⟩) hS.2.2 (Nat.le_of_ble_eq_true rfl) (Nat.le_of_ble_eq_true rfl)
  obtain ⟨i, hin, rfl⟩ := cT_get hn hw
  have hP : va_P (dC, dI) vwCl (wObj d0 o F ++ (wCfg cy (o 0) bc G (nI n) sc ++ (wSim (o 5) z M ++ ([((z 5), .inl ((cy 0), 8, .inl GR))])))) H1 := hP.kept (fun k q hk => hk1 q.1 ((hP k q hk).lt) (Nat.not_le.mpr ((hP k q hk).lt)))
  clear hz1 hk1
  generalize H1 = H at hP hS ⊢
  refine lv_aload_n hx hb dX4_response_5 rfl (lv_at hl 0 rfl) ?_
  refine vx_callv (vx_runV (As := []) (rest := []) ⟨hx, hb, hml, hown, hts⟩ (c_X4_requireSimulation l hst dC dI cy H.size d0 o F) (cwV 0 hts gX4_response_X4_requireSimulation rfl rfl rfl (by decide +kernel) ⟨Nat.le_of_ble_eq_true rfl, Nat.le_of_ble_eq_true rfl⟩) ⟨bl_R, va_recv hK (hP.sub (ws' := wObj d0 o F) [0] rfl) (ci := 4) (q0 := 0) rfl rfl, pr_R (hP.sub (ws' := wObj d0 o F) [0] rfl) hE hX hZ hS hA⟩ rfl rfl hl.1 rfl (lv_room (Nat.le_of_ble_eq_true rfl)) dX4_response_6 ⟨Nat.le_of_ble_eq_true rfl, Nat.le_of_ble_eq_true rfl⟩) hS (fun q _ h => hA q (Nat.le_trans hS.1 h)) (fun q h => hA q (Nat.le_trans hS.1 h)) (fun q _ h => hA q (Nat.le_trans hS.1 h)) (fun E ce q9 u t H1 locs ht hvm hpx hBX hz1 hk1 hS hce hcv hcl => ?_) (fun u t H1 locs ht hvm hw hB hz1 hk1 hS => ?_)
  · exact vx_out (fun x hx9 => (hnt x hx9).elim) hlocks hce hcv hcl (fun t ht hvm => ⟨(), trivial, (Or.inr (Or.inl ⟨hBX.1, by rw [cRes, if_pos (cT_ok hn hin), if_pos (c01_1 hBX.2)]⟩)), hS.F ht⟩) hS.2.2 (Nat.le_of_ble_eq_true rfl) (Nat.le_of_ble_eq_true rfl)
  have hs9 := hw
  have hP : va_P (dC, dI) vwCl (wObj d0 o F ++ (wCfg cy (o 0) bc G (nI n) sc ++ (wSim (o 5) z M ++ ([((z 5), .inl ((cy 0), 8, .inl GR))])))) H1 := hP.kept (fun k q hk => hk1 q.1 ((hP k q hk).lt) (Nat.not_le.mpr ((hP k q hk).lt)))
  clear hz1 hk1
  generalize H1 = H at hP hS ⊢
  refine lv_aload_n hx hb dX4_response_9 rfl (lv_at hl 0 rfl) ?_
  refine va_get (D := (dC, dI)) (ci := 4) (v := .ref (o 5)) (C := RX4) (T := TX4) (N := 12) hx hb hts hin4 hown hK hP 0 rfl rfl 5 (by decide) f_39 (fun _ h9 => h9) rfl dX4_response_10 ?_
  refine va_getN (D := (dC, dI)) (ci := 2) (v := .ref (z 5)) (C := RX2) (T := TX2) (N := 15) hx hb hts hin2 hown hK hP 9 rfl rfl 5 (by decide) f_270 (fun _ h9 => h9) rfl dX4_response_13 ?_
  refine lv_iload_n hx hb dX4_response_16 rfl (lv_at hl 1 rfl) ?_
  refine wI_alv (v := GR i) hx hb hK hP 10 0 rfl rfl i rfl (by omega) (by decide) rfl dX4_response_17 ?_
  refine lv_if_ne (tgt := 32) hx hb dX4_response_18 (by decide) (fun c_18 => ?_) (fun c_18 => ?_)
  · refine lv_aload_n hx hb dX4_response_32 rfl (lv_at hl 0 rfl) ?_
    refine va_get (D := (dC, dI)) (ci := 4) (v := .ref (o 5)) (C := RX4) (T := TX4) (N := 12) hx hb hts hin4 hown hK hP 0 rfl rfl 5 (by decide) f_39 (fun _ h9 => h9) rfl dX4_response_33 ?_
    refine va_getN (D := (dC, dI)) (ci := 2) (v := .ref (z 5)) (C := RX2) (T := TX2) (N := 15) hx hb hts hin2 hown hK hP 9 rfl rfl 5 (by decide) f_270 (fun _ h9 => h9) rfl dX4_response_36 ?_
    refine lv_iload_n hx hb dX4_response_39 rfl (lv_at hl 1 rfl) ?_
    refine wI_alv (v := GR i) hx hb hK hP 10 0 rfl rfl i rfl (by omega) (by decide) rfl dX4_response_40 ?_
    refine vx_ret ?_
    refine W.widen (k := 3) (n := 18) (Nat.le_of_ble_eq_true rfl) (Nat.le_of_ble_eq_true rfl) ?_
    exact W.iret (v := GR i) hx hb hr (fun t ht hW => ⟨⟨GR i, (), rfl, ⟨by rw [cRes, if_pos (cT_ok hn hin), if_neg (c01_0 hs9), nI_clamp (by omega), if_neg (fun h => c_18 (Int32.le_antisymm h (Int32.not_lt.mp (hGR i (by omega)))))], by rw [nI_clamp (by omega)]⟩, trivial⟩, hS.F ht⟩) hS.2.2 dX4_response_41
  · obtain ⟨sa, hsa⟩ := hX.s 15 (k := 275) (t := "no job of the task was completed") rfl
    exact vx_throwSW (names := ["java/lang/RuntimeException", "java/lang/Exception"]) hx hb hst hown (by decide +kernel) (by decide +kernel) (hts (.classLink RX4 273 "java/util/NoSuchElementException") (by decide +kernel)) (hts (.initialized "java/util/NoSuchElementException") (by decide +kernel)) hsa (vx_hat (fun w h => hts w (List.mem_cons_of_mem _ (List.mem_append_left _ (List.mem_append_left _ (List.mem_append_right _ h))))) ng_NSEE (vx_c (va_Nw.use rfl (hX.c 4 rfl)) (vx_c (va_Nw.use rfl (hX.d 0 rfl)) (vx_c (va_Nw.use rfl (hX.d 1 rfl)) (vx_c (va_Nw.use rfl (hX.d 2 rfl)) vx_n))))) ot_NSEE hZ.1 hZ.2 hS (hl.1.trans hml.symm) dX4_response_21 dX4_response_24 dX4_response_25 dX4_response_28 dX4_response_31 (fun x hx9 => (hnt x hx9).elim) (Nat.le_of_ble_eq_true rfl) (Nat.le_of_ble_eq_true rfl) (Nat.le_of_ble_eq_true rfl) (Nat.le_of_ble_eq_true rfl) hlocks (fun t hvm hz hk => ⟨(), trivial, Or.inr (Or.inr ⟨rfl, by rw [cRes, if_pos (cT_ok hn hin), if_neg (c01_0 hs9), nI_clamp (by omega), c_18]; rfl⟩), ⟨Nat.le_trans hS.1 hz, fun q h1 h2 => (hk q (Nat.lt_of_lt_of_le h1 hS.1)).trans (hS.2.1 q h1 h2)⟩⟩) hS.2.2 (Nat.le_of_ble_eq_true rfl) (Nat.le_of_ble_eq_true rfl)

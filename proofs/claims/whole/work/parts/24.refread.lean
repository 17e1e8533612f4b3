/-! PART 24: the reference, public reads -/
set_option maxHeartbeats 1000000 in
set_option maxRecDepth 100000 in
/-- the code of the latest call -/
theorem c_X5_thrown (l : Launch) (dC : Nat → ClassId) (dI : Nat → Nat → Nat) (cy : Nat → ClassId) (m0 : Nat) (a : Nat → Nat) (I : Nat → Int32) (R : vG) : Met l yX5_thrown wsX5_thrown ({ frames := 0, cells := 0, slots := 0, locals := 0 }) (va_Pc [.ref m0] (fun U => va_P (dC, dI) vwCl (wMdl cy m0 a I R) U.heap ∧ EV dC dI cy U)) (vp_Si (fun r => r = I 0)) 0 0 (fun _ => False) := by
  refine Met.ofW (cc := cX5_thrown) (maxL := 1) (ret := some .int) (by decide) rfl ?_
  intro p e s m args below meth c s₁ B hml hv
  obtain ⟨rfl, hP, hE⟩ := hv
  have hK := hE.1
  have hx := B.exec
  have hb := B.bytes
  have hr := B.returns
  have hts := atoms_spec (ws := wsX5_thrown) B.pre
  have hown : s.vm.findClass RX5 = some m.cls := findClass_of_methodNamed B.named
  have hlocks := B.notSynchronized
  have hin5 : ∀ w ∈ u_ws RX5 TX5 32, w ∈ wsX5_thrown := by decide +kernel
  have f_50 := hts (.fieldLink RX5 50 "DeadlineAdmissionModel" "thrown" "I") (by decide +kernel)
  have hl := lv_entry ([.ref m0]) (n := 1) (Nat.le_of_ble_eq_true rfl)
  rw [lg_entry_eq]
  generalize (lg_sl ([.ref m0]) ++ List.replicate (1 - (lg_sl ([.ref m0])).length) Slot.unset).toArray = ls at hl ⊢
  have hl : lv_has ls 1 [(0, .ref m0)] := hl
  refine lv_aload_n hx hb dX5_thrown_0 rfl (lv_at hl 0 rfl) ?_
  refine va_get (D := (dC, dI)) (ci := 5) (v := .int (I 0)) (C := RX5) (T := TX5) (N := 32) hx hb hts hin5 hown hK hP 0 rfl rfl 0 (by decide) f_50 (fun _ h9 => h9) rfl dX5_thrown_1 ?_
  exact W.iret (v := I 0) hx hb hr (fun t ht hW => ⟨_, rfl, rfl, ht⟩) (fun q hq => absurd hq List.not_mem_nil) dX5_thrown_4
set_option maxHeartbeats 1000000 in
set_option maxRecDepth 100000 in
/-- the fault position -/
theorem c_X5_faultPosition (l : Launch) (dC : Nat → ClassId) (dI : Nat → Nat → Nat) (cy : Nat → ClassId) (sz : Nat) (m0 : Nat) (a : Nat → Nat) (I : Nat → Int32) (R : vG) : Met l yX5_faultPosition wsX5_faultPosition ({ frames := 0, cells := 0, slots := 0, locals := 0 }) (va_Pc [.ref m0] (pIn dC dI cy (wMdl cy m0 a I R) sz)) (va_Qi (fun (r : Int32) (u : Nat → Int32) => u = upd I 0 0 ∧ r = I 9) (fun (u : Nat → Int32) t => va_P (dC, dI) vwCl (wMdl cy m0 a u R) t.heap ∧ va_D (va_A (wMdl cy m0 a I R) sz) (wMdl cy m0 a u R)) (va_A (wMdl cy m0 a I R) sz)) 0 0 (va_A (wMdl cy m0 a I R) sz) := by
  refine Met.ofW (cc := cX5_faultPosition) (maxL := 1) (ret := some .int) (by decide) rfl ?_
  intro p e s m args below meth c s₁ B hml hv
  obtain ⟨rfl, hsz, hP, hE, hD0⟩ := hv
  have hK := hE.1
  subst hsz
  have hD := hD0.self (sz := s.heap.size)
  generalize hAe : va_A (wMdl cy m0 a I R) s.heap.size = A at hD ⊢
  have hA : ∀ q : Nat, s.heap.size ≤ q → A q := fun q h => by rw [← hAe]; exact Or.inr h
  have hS : va_S A s.heap s.heap [] := va_S.rf
  have hP : va_P (dC, dI) vwCl (wMdl cy m0 a I R) s.heap := hP
  have hx := B.exec
  have hb := B.bytes
  have hr := B.returns
  have hts := atoms_spec (ws := wsX5_faultPosition) B.pre
  have hown : s.vm.findClass RX5 = some m.cls := findClass_of_methodNamed B.named
  have hlocks := B.notSynchronized
  have hin5 : ∀ w ∈ u_ws RX5 TX5 32, w ∈ wsX5_faultPosition := by decide +kernel
  have f_25 := hts (.fieldLink RX5 25 "DeadlineAdmissionModel" "faultAt" "I") (by decide +kernel)
  have f_50 := hts (.fieldLink RX5 50 "DeadlineAdmissionModel" "thrown" "I") (by decide +kernel)
  have hl := lv_entry ([.ref m0]) (n := 1) (Nat.le_of_ble_eq_true rfl)
  rw [lg_entry_eq]
  generalize (lg_sl ([.ref m0]) ++ List.replicate (1 - (lg_sl ([.ref m0])).length) Slot.unset).toArray = ls at hl ⊢
  have hl : lv_has ls 1 [(0, .ref m0)] := hl
  refine lv_aload_n hx hb dX5_faultPosition_0 rfl (lv_at hl 0 rfl) ?_
  refine lv_iconst (v := 0) hx hb dX5_faultPosition_1 (by decide) ?_
  refine va_put (D := (dC, dI)) (ci := 5) (v := .int 0) (ty := .int) (C := RX5) (T := TX5) (N := 32) hx hb hts hin5 tyX5 tyX5_ok nmX5 hown hK hP hD hS 0 rfl rfl 0 (by decide) f_50 (fun _ h9 => h9) rfl (by decide +kernel) rfl rfl (Nat.le_of_ble_eq_true rfl) dX5_faultPosition_2 (fun H locs hP hD hS => ?_)
  have hP : va_P (dC, dI) vwCl (wMdl cy m0 a (upd I 0 0) R) H := hP
  have hD : va_D A (wMdl cy m0 a (upd I 0 0) R) := hD
  refine lv_aload_n hx hb dX5_faultPosition_5 rfl (lv_at hl 0 rfl) ?_
  refine va_get (D := (dC, dI)) (ci := 5) (v := .int (I 9)) (C := RX5) (T := TX5) (N := 32) hx hb hts hin5 hown hK hP 0 rfl rfl 9 (by decide) f_25 (fun _ h9 => h9) rfl dX5_faultPosition_6 ?_
  have hP9 : va_P (dC, dI) vwCl (wMdl cy m0 a (upd I 0 0) R) H := hP
  have hD9 : va_D A (wMdl cy m0 a (upd I 0 0) R) := hD
  exact W.iret (v := I 9) hx hb hr (fun t ht hW => ⟨⟨I 9, (upd I 0 0), rfl, ⟨rfl, rfl⟩, by rw [ht]; exact hP9, hD9⟩, hS.F ht⟩) hS.2.2 dX5_faultPosition_9
set_option maxHeartbeats 1000000 in
set_option maxRecDepth 100000 in
/-- how many tasks -/
theorem c_X5_taskCount (l : Launch) (dC : Nat → ClassId) (dI : Nat → Nat → Nat) (cy : Nat → ClassId) (sz : Nat) (m0 : Nat) (a : Nat → Nat) (I : Nat → Int32) (R : vG) (n : Nat) (hn : n ≤ 8) (hS0 : R 1 0 = nI n) (hG : okG (Gs (R 1)) n) : Met l yX5_taskCount wsX5_taskCount ({ frames := 0, cells := 0, slots := 0, locals := 0 }) (va_Pc [.ref m0] (pIn dC dI cy (wMdl cy m0 a I R) sz)) (va_Qi (fun (r : Int32) (u : Nat → Int32) => u = upd I 0 0 ∧ r = nI n) (fun (u : Nat → Int32) t => va_P (dC, dI) vwCl (wMdl cy m0 a u R) t.heap ∧ va_D (va_A (wMdl cy m0 a I R) sz) (wMdl cy m0 a u R)) (va_A (wMdl cy m0 a I R) sz)) 0 0 (va_A (wMdl cy m0 a I R) sz) := by
  refine Met.ofW (cc := cX5_taskCount) (maxL := 1) (ret := some .int) (by decide) rfl ?_
  intro p e s m args below meth c s₁ B hml hv
  obtain ⟨rfl, hsz, hP, hE, hD0⟩ := hv
  have hK := hE.1
  subst hsz
  have hD := hD0.self (sz := s.heap.size)
  generalize hAe : va_A (wMdl cy m0 a I R) s.heap.size = A at hD ⊢
  have hA : ∀ q : Nat, s.heap.size ≤ q → A q := fun q h => by rw [← hAe]; exact Or.inr h
  have hS : va_S A s.heap s.heap [] := va_S.rf
  have hP : va_P (dC, dI) vwCl (wMdl cy m0 a I R) s.heap := hP
  have hx := B.exec
  have hb := B.bytes
  have hr := B.returns
  have hts := atoms_spec (ws := wsX5_taskCount) B.pre
  have hown : s.vm.findClass RX5 = some m.cls := findClass_of_methodNamed B.named
  have hlocks := B.notSynchronized
  have hin5 : ∀ w ∈ u_ws RX5 TX5 32, w ∈ wsX5_taskCount := by decide +kernel
  have f_50 := hts (.fieldLink RX5 50 "DeadlineAdmissionModel" "thrown" "I") (by decide +kernel)
  have f_9 := hts (.fieldLink RX5 9 "DeadlineAdmissionModel" "s" "[I") (by decide +kernel)
  have hl := lv_entry ([.ref m0]) (n := 1) (Nat.le_of_ble_eq_true rfl)
  rw [lg_entry_eq]
  generalize (lg_sl ([.ref m0]) ++ List.replicate (1 - (lg_sl ([.ref m0])).length) Slot.unset).toArray = ls at hl ⊢
  have hl : lv_has ls 1 [(0, .ref m0)] := hl
  refine lv_aload_n hx hb dX5_taskCount_0 rfl (lv_at hl 0 rfl) ?_
  refine lv_iconst (v := 0) hx hb dX5_taskCount_1 (by decide) ?_
  refine va_put (D := (dC, dI)) (ci := 5) (v := .int 0) (ty := .int) (C := RX5) (T := TX5) (N := 32) hx hb hts hin5 tyX5 tyX5_ok nmX5 hown hK hP hD hS 0 rfl rfl 0 (by decide) f_50 (fun _ h9 => h9) rfl (by decide +kernel) rfl rfl (Nat.le_of_ble_eq_true rfl) dX5_taskCount_2 (fun H locs hP hD hS => ?_)
  have hP : va_P (dC, dI) vwCl (wMdl cy m0 a (upd I 0 0) R) H := hP
  have hD : va_D A (wMdl cy m0 a (upd I 0 0) R) := hD
  refine lv_aload_n hx hb dX5_taskCount_5 rfl (lv_at hl 0 rfl) ?_
  refine va_get (D := (dC, dI)) (ci := 5) (v := .ref (a 1)) (C := RX5) (T := TX5) (N := 32) hx hb hts hin5 hown hK hP 0 rfl rfl 1 (by decide) f_9 (fun _ h9 => h9) rfl dX5_taskCount_6 ?_
  refine lv_iconst (v := 0) hx hb dX5_taskCount_9 (by decide) ?_
  refine wI_alv (v := nI n) hx hb hK hP 1 0 rfl rfl 0 rfl (by omega) (by decide) hS0 dX5_taskCount_10 ?_
  have hP9 : va_P (dC, dI) vwCl (wMdl cy m0 a (upd I 0 0) R) H := hP
  have hD9 : va_D A (wMdl cy m0 a (upd I 0 0) R) := hD
  exact W.iret (v := nI n) hx hb hr (fun t ht hW => ⟨⟨nI n, (upd I 0 0), rfl, ⟨rfl, rfl⟩, by rw [ht]; exact hP9, hD9⟩, hS.F ht⟩) hS.2.2 dX5_taskCount_11
set_option maxHeartbeats 1000000 in
set_option maxRecDepth 100000 in
/-- the scale -/
theorem c_X5_scale (l : Launch) (dC : Nat → ClassId) (dI : Nat → Nat → Nat) (cy : Nat → ClassId) (sz : Nat) (m0 : Nat) (a : Nat → Nat) (I : Nat → Int32) (R : vG) : Met l yX5_scale wsX5_scale ({ frames := 0, cells := 0, slots := 0, locals := 0 }) (va_Pc [.ref m0] (pIn dC dI cy (wMdl cy m0 a I R) sz)) (va_Qi (fun (r : Int32) (u : Nat → Int32) => u = upd I 0 0 ∧ r = R 1 1) (fun (u : Nat → Int32) t => va_P (dC, dI) vwCl (wMdl cy m0 a u R) t.heap ∧ va_D (va_A (wMdl cy m0 a I R) sz) (wMdl cy m0 a u R)) (va_A (wMdl cy m0 a I R) sz)) 0 0 (va_A (wMdl cy m0 a I R) sz) := by
  refine Met.ofW (cc := cX5_scale) (maxL := 1) (ret := some .int) (by decide) rfl ?_
  intro p e s m args below meth c s₁ B hml hv
  obtain ⟨rfl, hsz, hP, hE, hD0⟩ := hv
  have hK := hE.1
  subst hsz
  have hD := hD0.self (sz := s.heap.size)
  generalize hAe : va_A (wMdl cy m0 a I R) s.heap.size = A at hD ⊢
  have hA : ∀ q : Nat, s.heap.size ≤ q → A q := fun q h => by rw [← hAe]; exact Or.inr h
  have hS : va_S A s.heap s.heap [] := va_S.rf
  have hP : va_P (dC, dI) vwCl (wMdl cy m0 a I R) s.heap := hP
  have hx := B.exec
  have hb := B.bytes
  have hr := B.returns
  have hts := atoms_spec (ws := wsX5_scale) B.pre
  have hown : s.vm.findClass RX5 = some m.cls := findClass_of_methodNamed B.named
  have hlocks := B.notSynchronized
  have hin5 : ∀ w ∈ u_ws RX5 TX5 32, w ∈ wsX5_scale := by decide +kernel
  have f_50 := hts (.fieldLink RX5 50 "DeadlineAdmissionModel" "thrown" "I") (by decide +kernel)
  have f_9 := hts (.fieldLink RX5 9 "DeadlineAdmissionModel" "s" "[I") (by decide +kernel)
  have hl := lv_entry ([.ref m0]) (n := 1) (Nat.le_of_ble_eq_true rfl)
  rw [lg_entry_eq]
  generalize (lg_sl ([.ref m0]) ++ List.replicate (1 - (lg_sl ([.ref m0])).length) Slot.unset).toArray = ls at hl ⊢
  have hl : lv_has ls 1 [(0, .ref m0)] := hl
  refine lv_aload_n hx hb dX5_scale_0 rfl (lv_at hl 0 rfl) ?_
  refine lv_iconst (v := 0) hx hb dX5_scale_1 (by decide) ?_
  refine va_put (D := (dC, dI)) (ci := 5) (v := .int 0) (ty := .int) (C := RX5) (T := TX5) (N := 32) hx hb hts hin5 tyX5 tyX5_ok nmX5 hown hK hP hD hS 0 rfl rfl 0 (by decide) f_50 (fun _ h9 => h9) rfl (by decide +kernel) rfl rfl (Nat.le_of_ble_eq_true rfl) dX5_scale_2 (fun H locs hP hD hS => ?_)
  have hP : va_P (dC, dI) vwCl (wMdl cy m0 a (upd I 0 0) R) H := hP
  have hD : va_D A (wMdl cy m0 a (upd I 0 0) R) := hD
  refine lv_aload_n hx hb dX5_scale_5 rfl (lv_at hl 0 rfl) ?_
  refine va_get (D := (dC, dI)) (ci := 5) (v := .ref (a 1)) (C := RX5) (T := TX5) (N := 32) hx hb hts hin5 hown hK hP 0 rfl rfl 1 (by decide) f_9 (fun _ h9 => h9) rfl dX5_scale_6 ?_
  refine lv_iconst (v := 1) hx hb dX5_scale_9 (by decide) ?_
  refine wI_alv (v := R 1 1) hx hb hK hP 1 0 rfl rfl 1 rfl (by omega) (by decide) rfl dX5_scale_10 ?_
  have hP9 : va_P (dC, dI) vwCl (wMdl cy m0 a (upd I 0 0) R) H := hP
  have hD9 : va_D A (wMdl cy m0 a (upd I 0 0) R) := hD
  exact W.iret (v := R 1 1) hx hb hr (fun t ht hW => ⟨⟨R 1 1, (upd I 0 0), rfl, ⟨rfl, rfl⟩, by rw [ht]; exact hP9, hD9⟩, hS.F ht⟩) hS.2.2 dX5_scale_11
set_option maxHeartbeats 1000000 in
set_option maxRecDepth 100000 in
/-- period -/
theorem c_X5_period (l : Launch) (dC : Nat → ClassId) (dI : Nat → Nat → Nat) (cy : Nat → ClassId) (sz : Nat) (m0 : Nat) (a : Nat → Nat) (I : Nat → Int32) (R : vG) (n : Nat) (hn : n ≤ 8) (hS0 : R 1 0 = nI n) (hG : okG (Gs (R 1)) n) (p0 : Int32) : Met l yX5_period wsX5_period ({ frames := 2, cells := 0, slots := 0, locals := 43 }) (va_Pc [.ref m0, .int p0] (pIn dC dI cy (wMdl cy m0 a I R) sz)) (va_Qi (fun (r : Int32) (u : Nat → Int32) => u = upd I 0 (cT n p0) ∧ (cT n p0 = 0 → r = per (Gs (R 1)) p0.toNatClampNeg)) (fun (u : Nat → Int32) t => va_P (dC, dI) vwCl (wMdl cy m0 a u R) t.heap ∧ va_D (va_A (wMdl cy m0 a I R) sz) (wMdl cy m0 a u R)) (va_A (wMdl cy m0 a I R) sz)) 0 0 (va_A (wMdl cy m0 a I R) sz) := by
  refine Met.ofW (cc := cX5_period) (maxL := 2) (ret := some .int) (by decide) rfl ?_
  intro p e s m args below meth c s₁ B hml hv
  obtain ⟨rfl, hsz, hP, hE, hD0⟩ := hv
  have hK := hE.1
  subst hsz
  have hD := hD0.self (sz := s.heap.size)
  generalize hAe : va_A (wMdl cy m0 a I R) s.heap.size = A at hD ⊢
  have hA : ∀ q : Nat, s.heap.size ≤ q → A q := fun q h => by rw [← hAe]; exact Or.inr h
  have hS : va_S A s.heap s.heap [] := va_S.rf
  have hP : va_P (dC, dI) vwCl (wMdl cy m0 a I R) s.heap := hP
  have hx := B.exec
  have hb := B.bytes
  have hr := B.returns
  have hts := atoms_spec (ws := wsX5_period) B.pre
  have hown : s.vm.findClass RX5 = some m.cls := findClass_of_methodNamed B.named
  have hlocks := B.notSynchronized
  have hin5 : ∀ w ∈ u_ws RX5 TX5 32, w ∈ wsX5_period := by decide +kernel
  have f_50 := hts (.fieldLink RX5 50 "DeadlineAdmissionModel" "thrown" "I") (by decide +kernel)
  have hl := lv_entry ([.ref m0, .int p0]) (n := 2) (Nat.le_of_ble_eq_true rfl)
  rw [lg_entry_eq]
  generalize (lg_sl ([.ref m0, .int p0]) ++ List.replicate (2 - (lg_sl ([.ref m0, .int p0])).length) Slot.unset).toArray = ls at hl ⊢
  have hl : lv_has ls 2 [(0, .ref m0), (1, .int p0)] := hl
  refine lv_aload_n hx hb dX5_period_0 rfl (lv_at hl 0 rfl) ?_
  refine lv_iconst (v := 0) hx hb dX5_period_1 (by decide) ?_
  refine va_put (D := (dC, dI)) (ci := 5) (v := .int 0) (ty := .int) (C := RX5) (T := TX5) (N := 32) hx hb hts hin5 tyX5 tyX5_ok nmX5 hown hK hP hD hS 0 rfl rfl 0 (by decide) f_50 (fun _ h9 => h9) rfl (by decide +kernel) rfl rfl (Nat.le_of_ble_eq_true rfl) dX5_period_2 (fun H locs hP hD hS => ?_)
  have hP : va_P (dC, dI) vwCl (wMdl cy m0 a (upd I 0 0) R) H := hP
  have hD : va_D A (wMdl cy m0 a (upd I 0 0) R) := hD
  refine lv_aload_n hx hb dX5_period_5 rfl (lv_at hl 0 rfl) ?_
  refine lv_iload_n hx hb dX5_period_6 rfl (lv_at hl 1 rfl) ?_
  refine vp_callSi (va_runV (As := [.int p0]) (rest := []) ⟨hx, hb, hml, hown, hts⟩ (c_X5_isTask l dC dI cy m0 a (upd I 0 0) R n hS0 p0) (cwV 1 hts gX5_period_X5_isTask rfl rfl rfl (by decide +kernel) ⟨Nat.le_of_ble_eq_true rfl, Nat.le_of_ble_eq_true rfl⟩) ⟨bl_ro, va_recv hK hP (ci := 5) (q0 := 0) rfl rfl, pr_ro hP hE⟩ rfl rfl hl.1 rfl (lv_room (Nat.le_of_ble_eq_true rfl)) dX5_period_7 ⟨Nat.le_of_ble_eq_true rfl, Nat.le_of_ble_eq_true rfl⟩).run (fun r e_r => ?_)
  subst e_r
  refine lv_topi (fun y_ ey_ => ?_)
  obtain rfl : y_ = if ¬ p0 < 0 ∧ ¬ nI n - 1 < p0 then 1 else 0 := ey_
  refine lv_if_eq (tgt := 21) hx hb dX5_period_10 (by decide) (fun c_10 => ?_) (fun c_10 => ?_)
  · refine lv_aload_n hx hb dX5_period_21 rfl (lv_at hl 0 rfl) ?_
    refine lv_iconst (v := 1) hx hb dX5_period_22 (by decide) ?_
    have hPc := hP.sub (ws' := wMdl cy m0 a (upd I 0 0) R) [0, 1, 2, 3, 4, 5, 6, 7, 8, 9, 10, 11, 12] rfl
    have hDc := hD.sub (ws' := wMdl cy m0 a (upd I 0 0) R) [0, 1, 2, 3, 4, 5, 6, 7, 8, 9, 10, 11, 12] (by decide) rfl
    have hFc := va_free (wc := wMdl cy m0 a (upd I 0 0) R) hD hS hA [0, 1, 2, 3, 4, 5, 6, 7, 8, 9, 10, 11, 12] rfl
    refine va_calli (va_runV (As := [.int 1]) (rest := []) ⟨hx, hb, hml, hown, hts⟩ (c_X5_fails l dC dI cy H.size m0 a (upd I 0 0) R 1  ) (cwV 1 hts gX5_period_X5_fails rfl rfl rfl (by decide +kernel) ⟨Nat.le_of_ble_eq_true rfl, Nat.le_of_ble_eq_true rfl⟩) ⟨bl_in, va_recv hK hPc (ci := 5) (q0 := 0) rfl rfl, pr_in hPc hE hDc⟩ rfl rfl hl.1 rfl (lv_room (Nat.le_of_ble_eq_true rfl)) dX5_period_23 ⟨Nat.le_of_ble_eq_true rfl, Nat.le_of_ble_eq_true rfl⟩) hS (fun q _ h => hFc q h) hFc (fun r u t H1 locs ht hvm hw hB hz1 hk1 hS => ?_)
    obtain rfl := hw
    obtain ⟨hP1, hD1⟩ := hB
    rw [ht] at hP1
    obtain ⟨hP, hD⟩ := va_join (wr := []) (w1 := wMdl cy m0 a (upd I 0 1) R) hP hD [0, 1, 2, 3, 4, 5, 6, 7, 8, 9, 10, 11, 12] [] rfl rfl (by decide) (by decide) hk1 hFc hP1 hD1
    have hP : va_P (dC, dI) vwCl (wMdl cy m0 a (upd I 0 1) R) H1 := hP.sub [0, 1, 2, 3, 4, 5, 6, 7, 8, 9, 10, 11, 12] rfl
    have hD : va_D A (wMdl cy m0 a (upd I 0 1) R) := hD.sub [0, 1, 2, 3, 4, 5, 6, 7, 8, 9, 10, 11, 12] (by decide) rfl
    clear hz1 hk1 hPc hDc hFc hP1 hD1
    generalize H1 = H at hP hS ⊢
    have hP9 : va_P (dC, dI) vwCl (wMdl cy m0 a (upd I 0 1) R) H := hP
    have hD9 : va_D A (wMdl cy m0 a (upd I 0 1) R) := hD
    exact W.iret (v := 0) hx hb hr (fun t ht hW => ⟨⟨0, (upd I 0 1), rfl, ⟨by rw [cT_no hn (b10.mp c_10)], fun h => absurd ((cT_no hn (b10.mp c_10)).symm.trans h) (by decide)⟩, by rw [ht]; exact hP9, hD9⟩, hS.F ht⟩) hS.2.2 dX5_period_26
  · obtain ⟨i, hin, rfl⟩ := isT hn p0 (nb10 c_10)
    refine lv_aload_n hx hb dX5_period_13 rfl (lv_at hl 0 rfl) ?_
    refine lv_iload_n hx hb dX5_period_14 rfl (lv_at hl 1 rfl) ?_
    refine vp_callSi (va_runV (As := [.int (nI i)]) (rest := []) ⟨hx, hb, hml, hown, hts⟩ (c_X5_periodOf l dC dI cy m0 a (upd I 0 0) R  i (by omega) (hG _ hin)) (cwV 1 hts gX5_period_X5_periodOf rfl rfl rfl (by decide +kernel) ⟨Nat.le_of_ble_eq_true rfl, Nat.le_of_ble_eq_true rfl⟩) ⟨bl_ro, va_recv hK hP (ci := 5) (q0 := 0) rfl rfl, pr_ro hP hE⟩ rfl rfl hl.1 rfl (lv_room (Nat.le_of_ble_eq_true rfl)) dX5_period_15 ⟨Nat.le_of_ble_eq_true rfl, Nat.le_of_ble_eq_true rfl⟩).run (fun r e_r => ?_)
    subst e_r
    refine lv_topi (fun y_ ey_ => ?_)
    obtain rfl : y_ = per (Gs (R 1)) i := ey_
    refine lv_goto (tgt := 26) hx hb dX5_period_18 (by decide) ?_
    have hP9 : va_P (dC, dI) vwCl (wMdl cy m0 a (upd I 0 0) R) H := hP
    have hD9 : va_D A (wMdl cy m0 a (upd I 0 0) R) := hD
    exact W.iret (v := per (Gs (R 1)) i) hx hb hr (fun t ht hW => ⟨⟨per (Gs (R 1)) i, (upd I 0 0), rfl, ⟨by rw [cT_ok hn hin], fun _ => by rw [nI_clamp (by omega)]⟩, by rw [ht]; exact hP9, hD9⟩, hS.F ht⟩) hS.2.2 dX5_period_26
set_option maxHeartbeats 1000000 in
set_option maxRecDepth 100000 in
/-- deadline -/
theorem c_X5_deadline (l : Launch) (dC : Nat → ClassId) (dI : Nat → Nat → Nat) (cy : Nat → ClassId) (sz : Nat) (m0 : Nat) (a : Nat → Nat) (I : Nat → Int32) (R : vG) (n : Nat) (hn : n ≤ 8) (hS0 : R 1 0 = nI n) (hG : okG (Gs (R 1)) n) (p0 : Int32) : Met l yX5_deadline wsX5_deadline ({ frames := 2, cells := 0, slots := 0, locals := 43 }) (va_Pc [.ref m0, .int p0] (pIn dC dI cy (wMdl cy m0 a I R) sz)) (va_Qi (fun (r : Int32) (u : Nat → Int32) => u = upd I 0 (cT n p0) ∧ (cT n p0 = 0 → r = Gs (R 1) 1 p0.toNatClampNeg)) (fun (u : Nat → Int32) t => va_P (dC, dI) vwCl (wMdl cy m0 a u R) t.heap ∧ va_D (va_A (wMdl cy m0 a I R) sz) (wMdl cy m0 a u R)) (va_A (wMdl cy m0 a I R) sz)) 0 0 (va_A (wMdl cy m0 a I R) sz) := by
  refine Met.ofW (cc := cX5_deadline) (maxL := 2) (ret := some .int) (by decide) rfl ?_
  intro p e s m args below meth c s₁ B hml hv
  obtain ⟨rfl, hsz, hP, hE, hD0⟩ := hv
  have hK := hE.1
  subst hsz
  have hD := hD0.self (sz := s.heap.size)
  generalize hAe : va_A (wMdl cy m0 a I R) s.heap.size = A at hD ⊢
  have hA : ∀ q : Nat, s.heap.size ≤ q → A q := fun q h => by rw [← hAe]; exact Or.inr h
  have hS : va_S A s.heap s.heap [] := va_S.rf
  have hP : va_P (dC, dI) vwCl (wMdl cy m0 a I R) s.heap := hP
  have hx := B.exec
  have hb := B.bytes
  have hr := B.returns
  have hts := atoms_spec (ws := wsX5_deadline) B.pre
  have hown : s.vm.findClass RX5 = some m.cls := findClass_of_methodNamed B.named
  have hlocks := B.notSynchronized
  have hin5 : ∀ w ∈ u_ws RX5 TX5 32, w ∈ wsX5_deadline := by decide +kernel
  have f_50 := hts (.fieldLink RX5 50 "DeadlineAdmissionModel" "thrown" "I") (by decide +kernel)
  have f_9 := hts (.fieldLink RX5 9 "DeadlineAdmissionModel" "s" "[I") (by decide +kernel)
  have hl := lv_entry ([.ref m0, .int p0]) (n := 2) (Nat.le_of_ble_eq_true rfl)
  rw [lg_entry_eq]
  generalize (lg_sl ([.ref m0, .int p0]) ++ List.replicate (2 - (lg_sl ([.ref m0, .int p0])).length) Slot.unset).toArray = ls at hl ⊢
  have hl : lv_has ls 2 [(0, .ref m0), (1, .int p0)] := hl
  refine lv_aload_n hx hb dX5_deadline_0 rfl (lv_at hl 0 rfl) ?_
  refine lv_iconst (v := 0) hx hb dX5_deadline_1 (by decide) ?_
  refine va_put (D := (dC, dI)) (ci := 5) (v := .int 0) (ty := .int) (C := RX5) (T := TX5) (N := 32) hx hb hts hin5 tyX5 tyX5_ok nmX5 hown hK hP hD hS 0 rfl rfl 0 (by decide) f_50 (fun _ h9 => h9) rfl (by decide +kernel) rfl rfl (Nat.le_of_ble_eq_true rfl) dX5_deadline_2 (fun H locs hP hD hS => ?_)
  have hP : va_P (dC, dI) vwCl (wMdl cy m0 a (upd I 0 0) R) H := hP
  have hD : va_D A (wMdl cy m0 a (upd I 0 0) R) := hD
  refine lv_aload_n hx hb dX5_deadline_5 rfl (lv_at hl 0 rfl) ?_
  refine lv_iload_n hx hb dX5_deadline_6 rfl (lv_at hl 1 rfl) ?_
  refine vp_callSi (va_runV (As := [.int p0]) (rest := []) ⟨hx, hb, hml, hown, hts⟩ (c_X5_isTask l dC dI cy m0 a (upd I 0 0) R n hS0 p0) (cwV 1 hts gX5_deadline_X5_isTask rfl rfl rfl (by decide +kernel) ⟨Nat.le_of_ble_eq_true rfl, Nat.le_of_ble_eq_true rfl⟩) ⟨bl_ro, va_recv hK hP (ci := 5) (q0 := 0) rfl rfl, pr_ro hP hE⟩ rfl rfl hl.1 rfl (lv_room (Nat.le_of_ble_eq_true rfl)) dX5_deadline_7 ⟨Nat.le_of_ble_eq_true rfl, Nat.le_of_ble_eq_true rfl⟩).run (fun r e_r => ?_)
  subst e_r
  refine lv_topi (fun y_ ey_ => ?_)
  obtain rfl : y_ = if ¬ p0 < 0 ∧ ¬ nI n - 1 < p0 then 1 else 0 := ey_
  refine lv_if_eq (tgt := 25) hx hb dX5_deadline_10 (by decide) (fun c_10 => ?_) (fun c_10 => ?_)
  · refine lv_aload_n hx hb dX5_deadline_25 rfl (lv_at hl 0 rfl) ?_
    refine lv_iconst (v := 1) hx hb dX5_deadline_26 (by decide) ?_
    have hPc := hP.sub (ws' := wMdl cy m0 a (upd I 0 0) R) [0, 1, 2, 3, 4, 5, 6, 7, 8, 9, 10, 11, 12] rfl
    have hDc := hD.sub (ws' := wMdl cy m0 a (upd I 0 0) R) [0, 1, 2, 3, 4, 5, 6, 7, 8, 9, 10, 11, 12] (by decide) rfl
    have hFc := va_free (wc := wMdl cy m0 a (upd I 0 0) R) hD hS hA [0, 1, 2, 3, 4, 5, 6, 7, 8, 9, 10, 11, 12] rfl
    refine va_calli (va_runV (As := [.int 1]) (rest := []) ⟨hx, hb, hml, hown, hts⟩ (c_X5_fails l dC dI cy H.size m0 a (upd I 0 0) R 1  ) (cwV 1 hts gX5_deadline_X5_fails rfl rfl rfl (by decide +kernel) ⟨Nat.le_of_ble_eq_true rfl, Nat.le_of_ble_eq_true rfl⟩) ⟨bl_in, va_recv hK hPc (ci := 5) (q0 := 0) rfl rfl, pr_in hPc hE hDc⟩ rfl rfl hl.1 rfl (lv_room (Nat.le_of_ble_eq_true rfl)) dX5_deadline_27 ⟨Nat.le_of_ble_eq_true rfl, Nat.le_of_ble_eq_true rfl⟩) hS (fun q _ h => hFc q h) hFc (fun r u t H1 locs ht hvm hw hB hz1 hk1 hS => ?_)
    obtain rfl := hw
    obtain ⟨hP1, hD1⟩ := hB
    rw [ht] at hP1
    obtain ⟨hP, hD⟩ := va_join (wr := []) (w1 := wMdl cy m0 a (upd I 0 1) R) hP hD [0, 1, 2, 3, 4, 5, 6, 7, 8, 9, 10, 11, 12] [] rfl rfl (by decide) (by decide) hk1 hFc hP1 hD1
    have hP : va_P (dC, dI) vwCl (wMdl cy m0 a (upd I 0 1) R) H1 := hP.sub [0, 1, 2, 3, 4, 5, 6, 7, 8, 9, 10, 11, 12] rfl
    have hD : va_D A (wMdl cy m0 a (upd I 0 1) R) := hD.sub [0, 1, 2, 3, 4, 5, 6, 7, 8, 9, 10, 11, 12] (by decide) rfl
    clear hz1 hk1 hPc hDc hFc hP1 hD1
    generalize H1 = H at hP hS ⊢
    have hP9 : va_P (dC, dI) vwCl (wMdl cy m0 a (upd I 0 1) R) H := hP
    have hD9 : va_D A (wMdl cy m0 a (upd I 0 1) R) := hD
    exact W.iret (v := 0) hx hb hr (fun t ht hW => ⟨⟨0, (upd I 0 1), rfl, ⟨by rw [cT_no hn (b10.mp c_10)], fun h => absurd ((cT_no hn (b10.mp c_10)).symm.trans h) (by decide)⟩, by rw [ht]; exact hP9, hD9⟩, hS.F ht⟩) hS.2.2 dX5_deadline_30
  · obtain ⟨i, hin, rfl⟩ := isT hn p0 (nb10 c_10)
    refine lv_aload_n hx hb dX5_deadline_13 rfl (lv_at hl 0 rfl) ?_
    refine va_get (D := (dC, dI)) (ci := 5) (v := .ref (a 1)) (C := RX5) (T := TX5) (N := 32) hx hb hts hin5 hown hK hP 0 rfl rfl 1 (by decide) f_9 (fun _ h9 => h9) rfl dX5_deadline_14 ?_
    refine lv_bipush (v := 10) hx hb dX5_deadline_17 (by decide) ?_
    refine lv_iload_n hx hb dX5_deadline_19 rfl (lv_at hl 1 rfl) ?_
    refine lv_iadd hx hb dX5_deadline_20 ?_
    refine wI_alv (v := Gs (R 1) 1 i) hx hb hK hP 1 0 rfl rfl (10 + i) (nadd rfl rfl) (by omega) (by decide) rfl dX5_deadline_21 ?_
    refine lv_goto (tgt := 30) hx hb dX5_deadline_22 (by decide) ?_
    have hP9 : va_P (dC, dI) vwCl (wMdl cy m0 a (upd I 0 0) R) H := hP
    have hD9 : va_D A (wMdl cy m0 a (upd I 0 0) R) := hD
    exact W.iret (v := Gs (R 1) 1 i) hx hb hr (fun t ht hW => ⟨⟨Gs (R 1) 1 i, (upd I 0 0), rfl, ⟨by rw [cT_ok hn hin], fun _ => by rw [nI_clamp (by omega)]⟩, by rw [ht]; exact hP9, hD9⟩, hS.F ht⟩) hS.2.2 dX5_deadline_30
set_option maxHeartbeats 1000000 in
set_option maxRecDepth 100000 in
/-- virtualDeadline -/
theorem c_X5_virtualDeadline (l : Launch) (dC : Nat → ClassId) (dI : Nat → Nat → Nat) (cy : Nat → ClassId) (sz : Nat) (m0 : Nat) (a : Nat → Nat) (I : Nat → Int32) (R : vG) (n : Nat) (hn : n ≤ 8) (hS0 : R 1 0 = nI n) (hG : okG (Gs (R 1)) n) (p0 : Int32) : Met l yX5_virtualDeadline wsX5_virtualDeadline ({ frames := 2, cells := 0, slots := 0, locals := 43 }) (va_Pc [.ref m0, .int p0] (pIn dC dI cy (wMdl cy m0 a I R) sz)) (va_Qi (fun (r : Int32) (u : Nat → Int32) => u = upd I 0 (cT n p0) ∧ (cT n p0 = 0 → r = vdl (Gs (R 1)) (R 1 1) p0.toNatClampNeg)) (fun (u : Nat → Int32) t => va_P (dC, dI) vwCl (wMdl cy m0 a u R) t.heap ∧ va_D (va_A (wMdl cy m0 a I R) sz) (wMdl cy m0 a u R)) (va_A (wMdl cy m0 a I R) sz)) 0 0 (va_A (wMdl cy m0 a I R) sz) := by
  refine Met.ofW (cc := cX5_virtualDeadline) (maxL := 2) (ret := some .int) (by decide) rfl ?_
  intro p e s m args below meth c s₁ B hml hv
  obtain ⟨rfl, hsz, hP, hE, hD0⟩ := hv
  have hK := hE.1
  subst hsz
  have hD := hD0.self (sz := s.heap.size)
  generalize hAe : va_A (wMdl cy m0 a I R) s.heap.size = A at hD ⊢
  have hA : ∀ q : Nat, s.heap.size ≤ q → A q := fun q h => by rw [← hAe]; exact Or.inr h
  have hS : va_S A s.heap s.heap [] := va_S.rf
  have hP : va_P (dC, dI) vwCl (wMdl cy m0 a I R) s.heap := hP
  have hx := B.exec
  have hb := B.bytes
  have hr := B.returns
  have hts := atoms_spec (ws := wsX5_virtualDeadline) B.pre
  have hown : s.vm.findClass RX5 = some m.cls := findClass_of_methodNamed B.named
  have hlocks := B.notSynchronized
  have hin5 : ∀ w ∈ u_ws RX5 TX5 32, w ∈ wsX5_virtualDeadline := by decide +kernel
  have f_50 := hts (.fieldLink RX5 50 "DeadlineAdmissionModel" "thrown" "I") (by decide +kernel)
  have hl := lv_entry ([.ref m0, .int p0]) (n := 2) (Nat.le_of_ble_eq_true rfl)
  rw [lg_entry_eq]
  generalize (lg_sl ([.ref m0, .int p0]) ++ List.replicate (2 - (lg_sl ([.ref m0, .int p0])).length) Slot.unset).toArray = ls at hl ⊢
  have hl : lv_has ls 2 [(0, .ref m0), (1, .int p0)] := hl
  refine lv_aload_n hx hb dX5_virtualDeadline_0 rfl (lv_at hl 0 rfl) ?_
  refine lv_iconst (v := 0) hx hb dX5_virtualDeadline_1 (by decide) ?_
  refine va_put (D := (dC, dI)) (ci := 5) (v := .int 0) (ty := .int) (C := RX5) (T := TX5) (N := 32) hx hb hts hin5 tyX5 tyX5_ok nmX5 hown hK hP hD hS 0 rfl rfl 0 (by decide) f_50 (fun _ h9 => h9) rfl (by decide +kernel) rfl rfl (Nat.le_of_ble_eq_true rfl) dX5_virtualDeadline_2 (fun H locs hP hD hS => ?_)
  have hP : va_P (dC, dI) vwCl (wMdl cy m0 a (upd I 0 0) R) H := hP
  have hD : va_D A (wMdl cy m0 a (upd I 0 0) R) := hD
  refine lv_aload_n hx hb dX5_virtualDeadline_5 rfl (lv_at hl 0 rfl) ?_
  refine lv_iload_n hx hb dX5_virtualDeadline_6 rfl (lv_at hl 1 rfl) ?_
  refine vp_callSi (va_runV (As := [.int p0]) (rest := []) ⟨hx, hb, hml, hown, hts⟩ (c_X5_isTask l dC dI cy m0 a (upd I 0 0) R n hS0 p0) (cwV 1 hts gX5_virtualDeadline_X5_isTask rfl rfl rfl (by decide +kernel) ⟨Nat.le_of_ble_eq_true rfl, Nat.le_of_ble_eq_true rfl⟩) ⟨bl_ro, va_recv hK hP (ci := 5) (q0 := 0) rfl rfl, pr_ro hP hE⟩ rfl rfl hl.1 rfl (lv_room (Nat.le_of_ble_eq_true rfl)) dX5_virtualDeadline_7 ⟨Nat.le_of_ble_eq_true rfl, Nat.le_of_ble_eq_true rfl⟩).run (fun r e_r => ?_)
  subst e_r
  refine lv_topi (fun y_ ey_ => ?_)
  obtain rfl : y_ = if ¬ p0 < 0 ∧ ¬ nI n - 1 < p0 then 1 else 0 := ey_
  refine lv_if_eq (tgt := 21) hx hb dX5_virtualDeadline_10 (by decide) (fun c_10 => ?_) (fun c_10 => ?_)
  · refine lv_aload_n hx hb dX5_virtualDeadline_21 rfl (lv_at hl 0 rfl) ?_
    refine lv_iconst (v := 1) hx hb dX5_virtualDeadline_22 (by decide) ?_
    have hPc := hP.sub (ws' := wMdl cy m0 a (upd I 0 0) R) [0, 1, 2, 3, 4, 5, 6, 7, 8, 9, 10, 11, 12] rfl
    have hDc := hD.sub (ws' := wMdl cy m0 a (upd I 0 0) R) [0, 1, 2, 3, 4, 5, 6, 7, 8, 9, 10, 11, 12] (by decide) rfl
    have hFc := va_free (wc := wMdl cy m0 a (upd I 0 0) R) hD hS hA [0, 1, 2, 3, 4, 5, 6, 7, 8, 9, 10, 11, 12] rfl
    refine va_calli (va_runV (As := [.int 1]) (rest := []) ⟨hx, hb, hml, hown, hts⟩ (c_X5_fails l dC dI cy H.size m0 a (upd I 0 0) R 1  ) (cwV 1 hts gX5_virtualDeadline_X5_fails rfl rfl rfl (by decide +kernel) ⟨Nat.le_of_ble_eq_true rfl, Nat.le_of_ble_eq_true rfl⟩) ⟨bl_in, va_recv hK hPc (ci := 5) (q0 := 0) rfl rfl, pr_in hPc hE hDc⟩ rfl rfl hl.1 rfl (lv_room (Nat.le_of_ble_eq_true rfl)) dX5_virtualDeadline_23 ⟨Nat.le_of_ble_eq_true rfl, Nat.le_of_ble_eq_true rfl⟩) hS (fun q _ h => hFc q h) hFc (fun r u t H1 locs ht hvm hw hB hz1 hk1 hS => ?_)
    obtain rfl := hw
    obtain ⟨hP1, hD1⟩ := hB
    rw [ht] at hP1
    obtain ⟨hP, hD⟩ := va_join (wr := []) (w1 := wMdl cy m0 a (upd I 0 1) R) hP hD [0, 1, 2, 3, 4, 5, 6, 7, 8, 9, 10, 11, 12] [] rfl rfl (by decide) (by decide) hk1 hFc hP1 hD1
    have hP : va_P (dC, dI) vwCl (wMdl cy m0 a (upd I 0 1) R) H1 := hP.sub [0, 1, 2, 3, 4, 5, 6, 7, 8, 9, 10, 11, 12] rfl
    have hD : va_D A (wMdl cy m0 a (upd I 0 1) R) := hD.sub [0, 1, 2, 3, 4, 5, 6, 7, 8, 9, 10, 11, 12] (by decide) rfl
    clear hz1 hk1 hPc hDc hFc hP1 hD1
    generalize H1 = H at hP hS ⊢
    have hP9 : va_P (dC, dI) vwCl (wMdl cy m0 a (upd I 0 1) R) H := hP
    have hD9 : va_D A (wMdl cy m0 a (upd I 0 1) R) := hD
    exact W.iret (v := 0) hx hb hr (fun t ht hW => ⟨⟨0, (upd I 0 1), rfl, ⟨by rw [cT_no hn (b10.mp c_10)], fun h => absurd ((cT_no hn (b10.mp c_10)).symm.trans h) (by decide)⟩, by rw [ht]; exact hP9, hD9⟩, hS.F ht⟩) hS.2.2 dX5_virtualDeadline_26
  · obtain ⟨i, hin, rfl⟩ := isT hn p0 (nb10 c_10)
    refine lv_aload_n hx hb dX5_virtualDeadline_13 rfl (lv_at hl 0 rfl) ?_
    refine lv_iload_n hx hb dX5_virtualDeadline_14 rfl (lv_at hl 1 rfl) ?_
    refine vp_callSi (va_runV (As := [.int (nI i)]) (rest := []) ⟨hx, hb, hml, hown, hts⟩ (c_X5_virtualOf l dC dI cy m0 a (upd I 0 0) R  i (by omega) (hG _ hin)) (cwV 1 hts gX5_virtualDeadline_X5_virtualOf rfl rfl rfl (by decide +kernel) ⟨Nat.le_of_ble_eq_true rfl, Nat.le_of_ble_eq_true rfl⟩) ⟨bl_ro, va_recv hK hP (ci := 5) (q0 := 0) rfl rfl, pr_ro hP hE⟩ rfl rfl hl.1 rfl (lv_room (Nat.le_of_ble_eq_true rfl)) dX5_virtualDeadline_15 ⟨Nat.le_of_ble_eq_true rfl, Nat.le_of_ble_eq_true rfl⟩).run (fun r e_r => ?_)
    subst e_r
    refine lv_topi (fun y_ ey_ => ?_)
    obtain rfl : y_ = vdl (Gs (R 1)) ((R 1) 1) i := ey_
    refine lv_goto (tgt := 26) hx hb dX5_virtualDeadline_18 (by decide) ?_
    have hP9 : va_P (dC, dI) vwCl (wMdl cy m0 a (upd I 0 0) R) H := hP
    have hD9 : va_D A (wMdl cy m0 a (upd I 0 0) R) := hD
    exact W.iret (v := vdl (Gs (R 1)) ((R 1) 1) i) hx hb hr (fun t ht hW => ⟨⟨vdl (Gs (R 1)) ((R 1) 1) i, (upd I 0 0), rfl, ⟨by rw [cT_ok hn hin], fun _ => by rw [nI_clamp (by omega)]⟩, by rw [ht]; exact hP9, hD9⟩, hS.F ht⟩) hS.2.2 dX5_virtualDeadline_26
set_option maxHeartbeats 1000000 in
set_option maxRecDepth 100000 in
/-- level -/
theorem c_X5_level (l : Launch) (dC : Nat → ClassId) (dI : Nat → Nat → Nat) (cy : Nat → ClassId) (sz : Nat) (m0 : Nat) (a : Nat → Nat) (I : Nat → Int32) (R : vG) (n : Nat) (hn : n ≤ 8) (hS0 : R 1 0 = nI n) (hG : okG (Gs (R 1)) n) (p0 : Int32) : Met l yX5_level wsX5_level ({ frames := 2, cells := 0, slots := 0, locals := 43 }) (va_Pc [.ref m0, .int p0] (pIn dC dI cy (wMdl cy m0 a I R) sz)) (va_Qi (fun (r : Int32) (u : Nat → Int32) => u = upd I 0 (cT n p0) ∧ (cT n p0 = 0 → r = Gs (R 1) 6 p0.toNatClampNeg)) (fun (u : Nat → Int32) t => va_P (dC, dI) vwCl (wMdl cy m0 a u R) t.heap ∧ va_D (va_A (wMdl cy m0 a I R) sz) (wMdl cy m0 a u R)) (va_A (wMdl cy m0 a I R) sz)) 0 0 (va_A (wMdl cy m0 a I R) sz) := by
  refine Met.ofW (cc := cX5_level) (maxL := 2) (ret := some .int) (by decide) rfl ?_
  intro p e s m args below meth c s₁ B hml hv
  obtain ⟨rfl, hsz, hP, hE, hD0⟩ := hv
  have hK := hE.1
  subst hsz
  have hD := hD0.self (sz := s.heap.size)
  generalize hAe : va_A (wMdl cy m0 a I R) s.heap.size = A at hD ⊢
  have hA : ∀ q : Nat, s.heap.size ≤ q → A q := fun q h => by rw [← hAe]; exact Or.inr h
  have hS : va_S A s.heap s.heap [] := va_S.rf
  have hP : va_P (dC, dI) vwCl (wMdl cy m0 a I R) s.heap := hP
  have hx := B.exec
  have hb := B.bytes
  have hr := B.returns
  have hts := atoms_spec (ws := wsX5_level) B.pre
  have hown : s.vm.findClass RX5 = some m.cls := findClass_of_methodNamed B.named
  have hlocks := B.notSynchronized
  have hin5 : ∀ w ∈ u_ws RX5 TX5 32, w ∈ wsX5_level := by decide +kernel
  have f_50 := hts (.fieldLink RX5 50 "DeadlineAdmissionModel" "thrown" "I") (by decide +kernel)
  have f_9 := hts (.fieldLink RX5 9 "DeadlineAdmissionModel" "s" "[I") (by decide +kernel)
  have hl := lv_entry ([.ref m0, .int p0]) (n := 2) (Nat.le_of_ble_eq_true rfl)
  rw [lg_entry_eq]
  generalize (lg_sl ([.ref m0, .int p0]) ++ List.replicate (2 - (lg_sl ([.ref m0, .int p0])).length) Slot.unset).toArray = ls at hl ⊢
  have hl : lv_has ls 2 [(0, .ref m0), (1, .int p0)] := hl
  refine lv_aload_n hx hb dX5_level_0 rfl (lv_at hl 0 rfl) ?_
  refine lv_iconst (v := 0) hx hb dX5_level_1 (by decide) ?_
  refine va_put (D := (dC, dI)) (ci := 5) (v := .int 0) (ty := .int) (C := RX5) (T := TX5) (N := 32) hx hb hts hin5 tyX5 tyX5_ok nmX5 hown hK hP hD hS 0 rfl rfl 0 (by decide) f_50 (fun _ h9 => h9) rfl (by decide +kernel) rfl rfl (Nat.le_of_ble_eq_true rfl) dX5_level_2 (fun H locs hP hD hS => ?_)
  have hP : va_P (dC, dI) vwCl (wMdl cy m0 a (upd I 0 0) R) H := hP
  have hD : va_D A (wMdl cy m0 a (upd I 0 0) R) := hD
  refine lv_aload_n hx hb dX5_level_5 rfl (lv_at hl 0 rfl) ?_
  refine lv_iload_n hx hb dX5_level_6 rfl (lv_at hl 1 rfl) ?_
  refine vp_callSi (va_runV (As := [.int p0]) (rest := []) ⟨hx, hb, hml, hown, hts⟩ (c_X5_isTask l dC dI cy m0 a (upd I 0 0) R n hS0 p0) (cwV 1 hts gX5_level_X5_isTask rfl rfl rfl (by decide +kernel) ⟨Nat.le_of_ble_eq_true rfl, Nat.le_of_ble_eq_true rfl⟩) ⟨bl_ro, va_recv hK hP (ci := 5) (q0 := 0) rfl rfl, pr_ro hP hE⟩ rfl rfl hl.1 rfl (lv_room (Nat.le_of_ble_eq_true rfl)) dX5_level_7 ⟨Nat.le_of_ble_eq_true rfl, Nat.le_of_ble_eq_true rfl⟩).run (fun r e_r => ?_)
  subst e_r
  refine lv_topi (fun y_ ey_ => ?_)
  obtain rfl : y_ = if ¬ p0 < 0 ∧ ¬ nI n - 1 < p0 then 1 else 0 := ey_
  refine lv_if_eq (tgt := 25) hx hb dX5_level_10 (by decide) (fun c_10 => ?_) (fun c_10 => ?_)
  · refine lv_aload_n hx hb dX5_level_25 rfl (lv_at hl 0 rfl) ?_
    refine lv_iconst (v := 1) hx hb dX5_level_26 (by decide) ?_
    have hPc := hP.sub (ws' := wMdl cy m0 a (upd I 0 0) R) [0, 1, 2, 3, 4, 5, 6, 7, 8, 9, 10, 11, 12] rfl
    have hDc := hD.sub (ws' := wMdl cy m0 a (upd I 0 0) R) [0, 1, 2, 3, 4, 5, 6, 7, 8, 9, 10, 11, 12] (by decide) rfl
    have hFc := va_free (wc := wMdl cy m0 a (upd I 0 0) R) hD hS hA [0, 1, 2, 3, 4, 5, 6, 7, 8, 9, 10, 11, 12] rfl
    refine va_calli (va_runV (As := [.int 1]) (rest := []) ⟨hx, hb, hml, hown, hts⟩ (c_X5_fails l dC dI cy H.size m0 a (upd I 0 0) R 1  ) (cwV 1 hts gX5_level_X5_fails rfl rfl rfl (by decide +kernel) ⟨Nat.le_of_ble_eq_true rfl, Nat.le_of_ble_eq_true rfl⟩) ⟨bl_in, va_recv hK hPc (ci := 5) (q0 := 0) rfl rfl, pr_in hPc hE hDc⟩ rfl rfl hl.1 rfl (lv_room (Nat.le_of_ble_eq_true rfl)) dX5_level_27 ⟨Nat.le_of_ble_eq_true rfl, Nat.le_of_ble_eq_true rfl⟩) hS (fun q _ h => hFc q h) hFc (fun r u t H1 locs ht hvm hw hB hz1 hk1 hS => ?_)
    obtain rfl := hw
    obtain ⟨hP1, hD1⟩ := hB
    rw [ht] at hP1
    obtain ⟨hP, hD⟩ := va_join (wr := []) (w1 := wMdl cy m0 a (upd I 0 1) R) hP hD [0, 1, 2, 3, 4, 5, 6, 7, 8, 9, 10, 11, 12] [] rfl rfl (by decide) (by decide) hk1 hFc hP1 hD1
    have hP : va_P (dC, dI) vwCl (wMdl cy m0 a (upd I 0 1) R) H1 := hP.sub [0, 1, 2, 3, 4, 5, 6, 7, 8, 9, 10, 11, 12] rfl
    have hD : va_D A (wMdl cy m0 a (upd I 0 1) R) := hD.sub [0, 1, 2, 3, 4, 5, 6, 7, 8, 9, 10, 11, 12] (by decide) rfl
    clear hz1 hk1 hPc hDc hFc hP1 hD1
    generalize H1 = H at hP hS ⊢
    have hP9 : va_P (dC, dI) vwCl (wMdl cy m0 a (upd I 0 1) R) H := hP
    have hD9 : va_D A (wMdl cy m0 a (upd I 0 1) R) := hD
    exact W.iret (v := 0) hx hb hr (fun t ht hW => ⟨⟨0, (upd I 0 1), rfl, ⟨by rw [cT_no hn (b10.mp c_10)], fun h => absurd ((cT_no hn (b10.mp c_10)).symm.trans h) (by decide)⟩, by rw [ht]; exact hP9, hD9⟩, hS.F ht⟩) hS.2.2 dX5_level_30
  · obtain ⟨i, hin, rfl⟩ := isT hn p0 (nb10 c_10)
    refine lv_aload_n hx hb dX5_level_13 rfl (lv_at hl 0 rfl) ?_
    refine va_get (D := (dC, dI)) (ci := 5) (v := .ref (a 1)) (C := RX5) (T := TX5) (N := 32) hx hb hts hin5 hown hK hP 0 rfl rfl 1 (by decide) f_9 (fun _ h9 => h9) rfl dX5_level_14 ?_
    refine lv_bipush (v := 50) hx hb dX5_level_17 (by decide) ?_
    refine lv_iload_n hx hb dX5_level_19 rfl (lv_at hl 1 rfl) ?_
    refine lv_iadd hx hb dX5_level_20 ?_
    refine wI_alv (v := Gs (R 1) 6 i) hx hb hK hP 1 0 rfl rfl (50 + i) (nadd rfl rfl) (by omega) (by decide) rfl dX5_level_21 ?_
    refine lv_goto (tgt := 30) hx hb dX5_level_22 (by decide) ?_
    have hP9 : va_P (dC, dI) vwCl (wMdl cy m0 a (upd I 0 0) R) H := hP
    have hD9 : va_D A (wMdl cy m0 a (upd I 0 0) R) := hD
    exact W.iret (v := Gs (R 1) 6 i) hx hb hr (fun t ht hW => ⟨⟨Gs (R 1) 6 i, (upd I 0 0), rfl, ⟨by rw [cT_ok hn hin], fun _ => by rw [nI_clamp (by omega)]⟩, by rw [ht]; exact hP9, hD9⟩, hS.F ht⟩) hS.2.2 dX5_level_30
set_option maxHeartbeats 1000000 in
set_option maxRecDepth 100000 in
/-- isCritical -/
theorem c_X5_isCritical (l : Launch) (dC : Nat → ClassId) (dI : Nat → Nat → Nat) (cy : Nat → ClassId) (sz : Nat) (m0 : Nat) (a : Nat → Nat) (I : Nat → Int32) (R : vG) (n : Nat) (hn : n ≤ 8) (hS0 : R 1 0 = nI n) (hG : okG (Gs (R 1)) n) (p0 : Int32) : Met l yX5_isCritical wsX5_isCritical ({ frames := 2, cells := 0, slots := 0, locals := 43 }) (va_Pc [.ref m0, .int p0] (pIn dC dI cy (wMdl cy m0 a I R) sz)) (va_Qi (fun (r : Int32) (u : Nat → Int32) => u = upd I 0 (cT n p0) ∧ (cT n p0 = 0 → r = (if Gs (R 1) 3 p0.toNatClampNeg ≤ 0 then 0 else 1))) (fun (u : Nat → Int32) t => va_P (dC, dI) vwCl (wMdl cy m0 a u R) t.heap ∧ va_D (va_A (wMdl cy m0 a I R) sz) (wMdl cy m0 a u R)) (va_A (wMdl cy m0 a I R) sz)) 0 0 (va_A (wMdl cy m0 a I R) sz) := by
  refine Met.ofW (cc := cX5_isCritical) (maxL := 2) (ret := some .boolean) (by decide) rfl ?_
  intro p e s m args below meth c s₁ B hml hv
  obtain ⟨rfl, hsz, hP, hE, hD0⟩ := hv
  have hK := hE.1
  subst hsz
  have hD := hD0.self (sz := s.heap.size)
  generalize hAe : va_A (wMdl cy m0 a I R) s.heap.size = A at hD ⊢
  have hA : ∀ q : Nat, s.heap.size ≤ q → A q := fun q h => by rw [← hAe]; exact Or.inr h
  have hS : va_S A s.heap s.heap [] := va_S.rf
  have hP : va_P (dC, dI) vwCl (wMdl cy m0 a I R) s.heap := hP
  have hx := B.exec
  have hb := B.bytes
  have hr := B.returns
  have hts := atoms_spec (ws := wsX5_isCritical) B.pre
  have hown : s.vm.findClass RX5 = some m.cls := findClass_of_methodNamed B.named
  have hlocks := B.notSynchronized
  have hin5 : ∀ w ∈ u_ws RX5 TX5 32, w ∈ wsX5_isCritical := by decide +kernel
  have f_50 := hts (.fieldLink RX5 50 "DeadlineAdmissionModel" "thrown" "I") (by decide +kernel)
  have hl := lv_entry ([.ref m0, .int p0]) (n := 2) (Nat.le_of_ble_eq_true rfl)
  rw [lg_entry_eq]
  generalize (lg_sl ([.ref m0, .int p0]) ++ List.replicate (2 - (lg_sl ([.ref m0, .int p0])).length) Slot.unset).toArray = ls at hl ⊢
  have hl : lv_has ls 2 [(0, .ref m0), (1, .int p0)] := hl
  refine lv_aload_n hx hb dX5_isCritical_0 rfl (lv_at hl 0 rfl) ?_
  refine lv_aload_n hx hb dX5_isCritical_1 rfl (lv_at hl 0 rfl) ?_
  refine lv_iload_n hx hb dX5_isCritical_2 rfl (lv_at hl 1 rfl) ?_
  refine vp_callSi (va_runV (As := [.int p0]) (rest := [.ref m0]) ⟨hx, hb, hml, hown, hts⟩ (c_X5_isTask l dC dI cy m0 a I R n hS0 p0) (cwV 1 hts gX5_isCritical_X5_isTask rfl rfl rfl (by decide +kernel) ⟨Nat.le_of_ble_eq_true rfl, Nat.le_of_ble_eq_true rfl⟩) ⟨bl_ro, va_recv hK hP (ci := 5) (q0 := 0) rfl rfl, pr_ro hP hE⟩ rfl rfl hl.1 rfl (lv_room (Nat.le_of_ble_eq_true rfl)) dX5_isCritical_3 ⟨Nat.le_of_ble_eq_true rfl, Nat.le_of_ble_eq_true rfl⟩).run (fun r e_r => ?_)
  subst e_r
  refine lv_if_eq (tgt := 13) hx hb dX5_isCritical_6 (by decide) (fun c_6 => ?_) (fun c_6 => ?_)
  · refine lv_iconst (v := 1) hx hb dX5_isCritical_13 (by decide) ?_
    refine va_put (D := (dC, dI)) (ci := 5) (v := .int 1) (ty := .int) (C := RX5) (T := TX5) (N := 32) hx hb hts hin5 tyX5 tyX5_ok nmX5 hown hK hP hD hS 0 rfl rfl 0 (by decide) f_50 (fun _ h9 => h9) rfl (by decide +kernel) rfl rfl (Nat.le_of_ble_eq_true rfl) dX5_isCritical_14 (fun H locs hP hD hS => ?_)
    have hP : va_P (dC, dI) vwCl (wMdl cy m0 a (upd I 0 1) R) H := hP
    have hD : va_D A (wMdl cy m0 a (upd I 0 1) R) := hD
    refine lv_aload_n hx hb dX5_isCritical_17 rfl (lv_at hl 0 rfl) ?_
    refine lv_iload_n hx hb dX5_isCritical_18 rfl (lv_at hl 1 rfl) ?_
    refine vp_callSi (va_runV (As := [.int p0]) (rest := []) ⟨hx, hb, hml, hown, hts⟩ (c_X5_isTask l dC dI cy m0 a (upd I 0 1) R n hS0 p0) (cwV 1 hts gX5_isCritical_X5_isTask rfl rfl rfl (by decide +kernel) ⟨Nat.le_of_ble_eq_true rfl, Nat.le_of_ble_eq_true rfl⟩) ⟨bl_ro, va_recv hK hP (ci := 5) (q0 := 0) rfl rfl, pr_ro hP hE⟩ rfl rfl hl.1 rfl (lv_room (Nat.le_of_ble_eq_true rfl)) dX5_isCritical_19 ⟨Nat.le_of_ble_eq_true rfl, Nat.le_of_ble_eq_true rfl⟩).run (fun r e_r => ?_)
    subst e_r
    refine lv_topi (fun y_ ey_ => ?_)
    obtain rfl : y_ = if ¬ p0 < 0 ∧ ¬ nI n - 1 < p0 then 1 else 0 := ey_
    refine lv_if_eq (tgt := 37) hx hb dX5_isCritical_22 (by decide) (fun c_22 => ?_) (fun h0 => absurd c_6 h0)
    refine lv_iconst (v := 0) hx hb dX5_isCritical_37 (by decide) ?_
    have hP9 : va_P (dC, dI) vwCl (wMdl cy m0 a (upd I 0 1) R) H := hP
    have hD9 : va_D A (wMdl cy m0 a (upd I 0 1) R) := hD
    exact W.zret (v := 0) hx hb hr (by decide) (fun t ht hW => ⟨⟨0, (upd I 0 1), rfl, ⟨by rw [cT_no hn (b10.mp c_6)], fun h => absurd ((cT_no hn (b10.mp c_6)).symm.trans h) (by decide)⟩, by rw [ht]; exact hP9, hD9⟩, hS.F ht⟩) hS.2.2 dX5_isCritical_38
  · obtain ⟨i, hin, rfl⟩ := isT hn p0 (nb10 c_6)
    refine lv_iconst (v := 0) hx hb dX5_isCritical_9 (by decide) ?_
    refine lv_goto (tgt := 14) hx hb dX5_isCritical_10 (by decide) ?_
    refine va_put (D := (dC, dI)) (ci := 5) (v := .int 0) (ty := .int) (C := RX5) (T := TX5) (N := 32) hx hb hts hin5 tyX5 tyX5_ok nmX5 hown hK hP hD hS 0 rfl rfl 0 (by decide) f_50 (fun _ h9 => h9) rfl (by decide +kernel) rfl rfl (Nat.le_of_ble_eq_true rfl) dX5_isCritical_14 (fun H locs hP hD hS => ?_)
    have hP : va_P (dC, dI) vwCl (wMdl cy m0 a (upd I 0 0) R) H := hP
    have hD : va_D A (wMdl cy m0 a (upd I 0 0) R) := hD
    refine lv_aload_n hx hb dX5_isCritical_17 rfl (lv_at hl 0 rfl) ?_
    refine lv_iload_n hx hb dX5_isCritical_18 rfl (lv_at hl 1 rfl) ?_
    refine vp_callSi (va_runV (As := [.int (nI i)]) (rest := []) ⟨hx, hb, hml, hown, hts⟩ (c_X5_isTask l dC dI cy m0 a (upd I 0 0) R n hS0 (nI i)) (cwV 1 hts gX5_isCritical_X5_isTask rfl rfl rfl (by decide +kernel) ⟨Nat.le_of_ble_eq_true rfl, Nat.le_of_ble_eq_true rfl⟩) ⟨bl_ro, va_recv hK hP (ci := 5) (q0 := 0) rfl rfl, pr_ro hP hE⟩ rfl rfl hl.1 rfl (lv_room (Nat.le_of_ble_eq_true rfl)) dX5_isCritical_19 ⟨Nat.le_of_ble_eq_true rfl, Nat.le_of_ble_eq_true rfl⟩).run (fun r e_r => ?_)
    subst e_r
    refine lv_topi (fun y_ ey_ => ?_)
    obtain rfl : y_ = if ¬ (nI i) < 0 ∧ ¬ nI n - 1 < (nI i) then 1 else 0 := ey_
    refine lv_if_eq (tgt := 37) hx hb dX5_isCritical_22 (by decide) (fun h0 => absurd h0 c_6) (fun c_22 => ?_)
    refine lv_aload_n hx hb dX5_isCritical_25 rfl (lv_at hl 0 rfl) ?_
    refine lv_iload_n hx hb dX5_isCritical_26 rfl (lv_at hl 1 rfl) ?_
    refine vp_callSi (va_runV (As := [.int (nI i)]) (rest := []) ⟨hx, hb, hml, hown, hts⟩ (c_X5_isHighTask l dC dI cy m0 a (upd I 0 0) R  i (by omega)) (cwV 1 hts gX5_isCritical_X5_isHighTask rfl rfl rfl (by decide +kernel) ⟨Nat.le_of_ble_eq_true rfl, Nat.le_of_ble_eq_true rfl⟩) ⟨bl_ro, va_recv hK hP (ci := 5) (q0 := 0) rfl rfl, pr_ro hP hE⟩ rfl rfl hl.1 rfl (lv_room (Nat.le_of_ble_eq_true rfl)) dX5_isCritical_27 ⟨Nat.le_of_ble_eq_true rfl, Nat.le_of_ble_eq_true rfl⟩).run (fun r e_r => ?_)
    subst e_r
    refine lv_topi (fun y_ ey_ => ?_)
    obtain rfl : y_ = if Gs (R 1) 3 i ≤ 0 then 0 else 1 := ey_
    refine lv_if_eq (tgt := 37) hx hb dX5_isCritical_30 (by decide) (fun c_30 => ?_) (fun c_30 => ?_)
    · refine lv_iconst (v := 0) hx hb dX5_isCritical_37 (by decide) ?_
      have hP9 : va_P (dC, dI) vwCl (wMdl cy m0 a (upd I 0 0) R) H := hP
      have hD9 : va_D A (wMdl cy m0 a (upd I 0 0) R) := hD
      exact W.zret (v := 0) hx hb hr (by decide) (fun t ht hW => ⟨⟨0, (upd I 0 0), rfl, ⟨by rw [cT_ok hn hin], fun _ => by rw [nI_clamp (by omega), if_pos (b01.mp c_30)]⟩, by rw [ht]; exact hP9, hD9⟩, hS.F ht⟩) hS.2.2 dX5_isCritical_38
    · refine lv_iconst (v := 1) hx hb dX5_isCritical_33 (by decide) ?_
      refine lv_goto (tgt := 38) hx hb dX5_isCritical_34 (by decide) ?_
      have hP9 : va_P (dC, dI) vwCl (wMdl cy m0 a (upd I 0 0) R) H := hP
      have hD9 : va_D A (wMdl cy m0 a (upd I 0 0) R) := hD
      exact W.zret (v := 1) hx hb hr (by decide) (fun t ht hW => ⟨⟨1, (upd I 0 0), rfl, ⟨by rw [cT_ok hn hin], fun _ => by rw [nI_clamp (by omega), if_neg (fun h => c_30 (b01.mpr h))]⟩, by rw [ht]; exact hP9, hD9⟩, hS.F ht⟩) hS.2.2 dX5_isCritical_38
set_option maxHeartbeats 1000000 in
set_option maxRecDepth 100000 in
/-- budget -/
theorem c_X5_budget (l : Launch) (dC : Nat → ClassId) (dI : Nat → Nat → Nat) (cy : Nat → ClassId) (sz : Nat) (m0 : Nat) (a : Nat → Nat) (I : Nat → Int32) (R : vG) (n : Nat) (hn : n ≤ 8) (hS0 : R 1 0 = nI n) (hG : okG (Gs (R 1)) n) (p0 p1 : Int32) : Met l yX5_budget wsX5_budget ({ frames := 2, cells := 0, slots := 0, locals := 43 }) (va_Pc [.ref m0, .int p0, .int p1] (pIn dC dI cy (wMdl cy m0 a I R) sz)) (va_Qi (fun (r : Int32) (u : Nat → Int32) => u = upd I 0 (cBud (Gs (R 1)) n p0 p1) ∧ (cBud (Gs (R 1)) n p0 p1 = 0 → r = vBud (Gs (R 1)) p0 p1)) (fun (u : Nat → Int32) t => va_P (dC, dI) vwCl (wMdl cy m0 a u R) t.heap ∧ va_D (va_A (wMdl cy m0 a I R) sz) (wMdl cy m0 a u R)) (va_A (wMdl cy m0 a I R) sz)) 0 0 (va_A (wMdl cy m0 a I R) sz) := by
  refine Met.ofW (cc := cX5_budget) (maxL := 3) (ret := some .int) (by decide) rfl ?_
  intro p e s m args below meth c s₁ B hml hv
  obtain ⟨rfl, hsz, hP, hE, hD0⟩ := hv
  have hK := hE.1
  subst hsz
  have hD := hD0.self (sz := s.heap.size)
  generalize hAe : va_A (wMdl cy m0 a I R) s.heap.size = A at hD ⊢
  have hA : ∀ q : Nat, s.heap.size ≤ q → A q := fun q h => by rw [← hAe]; exact Or.inr h
  have hS : va_S A s.heap s.heap [] := va_S.rf
  have hP : va_P (dC, dI) vwCl (wMdl cy m0 a I R) s.heap := hP
  have hx := B.exec
  have hb := B.bytes
  have hr := B.returns
  have hts := atoms_spec (ws := wsX5_budget) B.pre
  have hown : s.vm.findClass RX5 = some m.cls := findClass_of_methodNamed B.named
  have hlocks := B.notSynchronized
  have hin5 : ∀ w ∈ u_ws RX5 TX5 32, w ∈ wsX5_budget := by decide +kernel
  have f_50 := hts (.fieldLink RX5 50 "DeadlineAdmissionModel" "thrown" "I") (by decide +kernel)
  have f_9 := hts (.fieldLink RX5 9 "DeadlineAdmissionModel" "s" "[I") (by decide +kernel)
  have hl := lv_entry ([.ref m0, .int p0, .int p1]) (n := 3) (Nat.le_of_ble_eq_true rfl)
  rw [lg_entry_eq]
  generalize (lg_sl ([.ref m0, .int p0, .int p1]) ++ List.replicate (3 - (lg_sl ([.ref m0, .int p0, .int p1])).length) Slot.unset).toArray = ls at hl ⊢
  have hl : lv_has ls 3 [(0, .ref m0), (1, .int p0), (2, .int p1)] := hl
  refine lv_aload_n hx hb dX5_budget_0 rfl (lv_at hl 0 rfl) ?_
  refine lv_iconst (v := 0) hx hb dX5_budget_1 (by decide) ?_
  refine va_put (D := (dC, dI)) (ci := 5) (v := .int 0) (ty := .int) (C := RX5) (T := TX5) (N := 32) hx hb hts hin5 tyX5 tyX5_ok nmX5 hown hK hP hD hS 0 rfl rfl 0 (by decide) f_50 (fun _ h9 => h9) rfl (by decide +kernel) rfl rfl (Nat.le_of_ble_eq_true rfl) dX5_budget_2 (fun H locs hP hD hS => ?_)
  have hP : va_P (dC, dI) vwCl (wMdl cy m0 a (upd I 0 0) R) H := hP
  have hD : va_D A (wMdl cy m0 a (upd I 0 0) R) := hD
  refine lv_aload_n hx hb dX5_budget_5 rfl (lv_at hl 0 rfl) ?_
  refine lv_iload_n hx hb dX5_budget_6 rfl (lv_at hl 1 rfl) ?_
  refine vp_callSi (va_runV (As := [.int p0]) (rest := []) ⟨hx, hb, hml, hown, hts⟩ (c_X5_isTask l dC dI cy m0 a (upd I 0 0) R n hS0 p0) (cwV 1 hts gX5_budget_X5_isTask rfl rfl rfl (by decide +kernel) ⟨Nat.le_of_ble_eq_true rfl, Nat.le_of_ble_eq_true rfl⟩) ⟨bl_ro, va_recv hK hP (ci := 5) (q0 := 0) rfl rfl, pr_ro hP hE⟩ rfl rfl hl.1 rfl (lv_room (Nat.le_of_ble_eq_true rfl)) dX5_budget_7 ⟨Nat.le_of_ble_eq_true rfl, Nat.le_of_ble_eq_true rfl⟩).run (fun r e_r => ?_)
  subst e_r
  refine lv_topi (fun y_ ey_ => ?_)
  obtain rfl : y_ = if ¬ p0 < 0 ∧ ¬ nI n - 1 < p0 then 1 else 0 := ey_
  refine lv_if_ne (tgt := 19) hx hb dX5_budget_10 (by decide) (fun c_10 => ?_) (fun c_10 => ?_)
  · obtain ⟨i, hin, rfl⟩ := isT hn p0 (nb10 c_10)
    refine lv_iload_n hx hb dX5_budget_19 rfl (lv_at hl 2 rfl) ?_
    refine lv_iconst (v := 0) hx hb dX5_budget_20 (by decide) ?_
    refine lv_iconst (v := 1) hx hb dX5_budget_21 (by decide) ?_
    refine vp_callSi (va_runS (As := [.int p1, .int 0, .int 1]) (rest := []) ⟨hx, hb, hml, hown, hts⟩ (c_X5_in l p1 0 1) (cwS 3 hts gX5_budget_X5_in rfl rfl rfl (by decide +kernel) ⟨Nat.le_of_ble_eq_true rfl, Nat.le_of_ble_eq_true rfl⟩) ⟨fun a U g mk q => q, fun U hU hW => ⟨rfl, trivial⟩⟩ rfl rfl hl.1 rfl (lv_room (Nat.le_of_ble_eq_true rfl)) dX5_budget_22 ⟨Nat.le_of_ble_eq_true rfl, Nat.le_of_ble_eq_true rfl⟩).run (fun r e_r => ?_)
    subst e_r
    refine lv_topi (fun y_ ey_ => ?_)
    obtain rfl : y_ = if ¬ p1 < 0 ∧ ¬ 1 < p1 then 1 else 0 := ey_
    refine lv_if_ne (tgt := 34) hx hb dX5_budget_25 (by decide) (fun c_25 => ?_) (fun c_25 => ?_)
    · refine lv_iload_n hx hb dX5_budget_34 rfl (lv_at hl 2 rfl) ?_
      refine lv_iconst (v := 1) hx hb dX5_budget_35 (by decide) ?_
      refine lv_icmp_ne (tgt := 53) hx hb dX5_budget_36 (by decide) (fun c_36 => ?_) (fun c_36 => ?_)
      · refine lv_iload_n hx hb dX5_budget_53 rfl (lv_at hl 2 rfl) ?_
        refine lv_if_ne (tgt := 69) hx hb dX5_budget_54 (by decide) (fun c_54 => ?_) (fun c_54 => ?_)
        · refine lv_aload_n hx hb dX5_budget_69 rfl (lv_at hl 0 rfl) ?_
          refine va_get (D := (dC, dI)) (ci := 5) (v := .ref (a 1)) (C := RX5) (T := TX5) (N := 32) hx hb hts hin5 hown hK hP 0 rfl rfl 1 (by decide) f_9 (fun _ h9 => h9) rfl dX5_budget_70 ?_
          refine lv_bipush (v := 26) hx hb dX5_budget_73 (by decide) ?_
          refine lv_iload_n hx hb dX5_budget_75 rfl (lv_at hl 1 rfl) ?_
          refine lv_iadd hx hb dX5_budget_76 ?_
          refine wI_alv (v := Gs (R 1) 3 i) hx hb hK hP 1 0 rfl rfl (26 + i) (nadd rfl rfl) (by omega) (by decide) rfl dX5_budget_77 ?_
          have hP9 : va_P (dC, dI) vwCl (wMdl cy m0 a (upd I 0 0) R) H := hP
          have hD9 : va_D A (wMdl cy m0 a (upd I 0 0) R) := hD
          exact W.iret (v := Gs (R 1) 3 i) hx hb hr (fun t ht hW => ⟨⟨Gs (R 1) 3 i, (upd I 0 0), rfl, (by have e9 : cBud (Gs (R 1)) n (nI i) p1 = 0 := (by rw [cBud, if_pos (cT_ok hn hin), if_pos (cM_ok (mode_of (nb10 c_25))), if_neg (fun q => c_36 q.1)]); exact ⟨by rw [e9], fun _ => by rw [vBud, if_neg c_54, nI_clamp (by omega)]⟩), by rw [ht]; exact hP9, hD9⟩, hS.F ht⟩) hS.2.2 dX5_budget_78
        · refine lv_aload_n hx hb dX5_budget_57 rfl (lv_at hl 0 rfl) ?_
          refine va_get (D := (dC, dI)) (ci := 5) (v := .ref (a 1)) (C := RX5) (T := TX5) (N := 32) hx hb hts hin5 hown hK hP 0 rfl rfl 1 (by decide) f_9 (fun _ h9 => h9) rfl dX5_budget_58 ?_
          refine lv_bipush (v := 18) hx hb dX5_budget_61 (by decide) ?_
          refine lv_iload_n hx hb dX5_budget_63 rfl (lv_at hl 1 rfl) ?_
          refine lv_iadd hx hb dX5_budget_64 ?_
          refine wI_alv (v := Gs (R 1) 2 i) hx hb hK hP 1 0 rfl rfl (18 + i) (nadd rfl rfl) (by omega) (by decide) rfl dX5_budget_65 ?_
          refine lv_goto (tgt := 78) hx hb dX5_budget_66 (by decide) ?_
          have hP9 : va_P (dC, dI) vwCl (wMdl cy m0 a (upd I 0 0) R) H := hP
          have hD9 : va_D A (wMdl cy m0 a (upd I 0 0) R) := hD
          exact W.iret (v := Gs (R 1) 2 i) hx hb hr (fun t ht hW => ⟨⟨Gs (R 1) 2 i, (upd I 0 0), rfl, (by have e9 : cBud (Gs (R 1)) n (nI i) p1 = 0 := (by rw [cBud, if_pos (cT_ok hn hin), if_pos (cM_ok (mode_of (nb10 c_25))), if_neg (fun q => c_36 q.1)]); exact ⟨by rw [e9], fun _ => by rw [vBud, if_pos c_54, nI_clamp (by omega)]⟩), by rw [ht]; exact hP9, hD9⟩, hS.F ht⟩) hS.2.2 dX5_budget_78
      · refine lv_aload_n hx hb dX5_budget_39 rfl (lv_at hl 0 rfl) ?_
        refine lv_iload_n hx hb dX5_budget_40 rfl (lv_at hl 1 rfl) ?_
        refine vp_callSi (va_runV (As := [.int (nI i)]) (rest := []) ⟨hx, hb, hml, hown, hts⟩ (c_X5_isHighTask l dC dI cy m0 a (upd I 0 0) R  i (by omega)) (cwV 1 hts gX5_budget_X5_isHighTask rfl rfl rfl (by decide +kernel) ⟨Nat.le_of_ble_eq_true rfl, Nat.le_of_ble_eq_true rfl⟩) ⟨bl_ro, va_recv hK hP (ci := 5) (q0 := 0) rfl rfl, pr_ro hP hE⟩ rfl rfl hl.1 rfl (lv_room (Nat.le_of_ble_eq_true rfl)) dX5_budget_41 ⟨Nat.le_of_ble_eq_true rfl, Nat.le_of_ble_eq_true rfl⟩).run (fun r e_r => ?_)
        subst e_r
        refine lv_topi (fun y_ ey_ => ?_)
        obtain rfl : y_ = if Gs (R 1) 3 i ≤ 0 then 0 else 1 := ey_
        refine lv_if_ne (tgt := 53) hx hb dX5_budget_44 (by decide) (fun c_44 => ?_) (fun c_44 => ?_)
        · refine lv_iload_n hx hb dX5_budget_53 rfl (lv_at hl 2 rfl) ?_
          refine lv_if_ne (tgt := 69) hx hb dX5_budget_54 (by decide) (fun c_54 => ?_) (fun c_54 => ?_)
          · refine lv_aload_n hx hb dX5_budget_69 rfl (lv_at hl 0 rfl) ?_
            refine va_get (D := (dC, dI)) (ci := 5) (v := .ref (a 1)) (C := RX5) (T := TX5) (N := 32) hx hb hts hin5 hown hK hP 0 rfl rfl 1 (by decide) f_9 (fun _ h9 => h9) rfl dX5_budget_70 ?_
            refine lv_bipush (v := 26) hx hb dX5_budget_73 (by decide) ?_
            refine lv_iload_n hx hb dX5_budget_75 rfl (lv_at hl 1 rfl) ?_
            refine lv_iadd hx hb dX5_budget_76 ?_
            refine wI_alv (v := Gs (R 1) 3 i) hx hb hK hP 1 0 rfl rfl (26 + i) (nadd rfl rfl) (by omega) (by decide) rfl dX5_budget_77 ?_
            have hP9 : va_P (dC, dI) vwCl (wMdl cy m0 a (upd I 0 0) R) H := hP
            have hD9 : va_D A (wMdl cy m0 a (upd I 0 0) R) := hD
            exact W.iret (v := Gs (R 1) 3 i) hx hb hr (fun t ht hW => ⟨⟨Gs (R 1) 3 i, (upd I 0 0), rfl, (by have e9 : cBud (Gs (R 1)) n (nI i) p1 = 0 := (by rw [cBud, if_pos (cT_ok hn hin), if_pos (cM_ok (mode_of (nb10 c_25))), if_neg (fun q => c_44 (b01.mpr (by rw [nI_clamp (by omega)] at q; exact q.2)))]); exact ⟨by rw [e9], fun _ => by rw [vBud, if_neg c_54, nI_clamp (by omega)]⟩), by rw [ht]; exact hP9, hD9⟩, hS.F ht⟩) hS.2.2 dX5_budget_78
          · refine lv_aload_n hx hb dX5_budget_57 rfl (lv_at hl 0 rfl) ?_
            refine va_get (D := (dC, dI)) (ci := 5) (v := .ref (a 1)) (C := RX5) (T := TX5) (N := 32) hx hb hts hin5 hown hK hP 0 rfl rfl 1 (by decide) f_9 (fun _ h9 => h9) rfl dX5_budget_58 ?_
            refine lv_bipush (v := 18) hx hb dX5_budget_61 (by decide) ?_
            refine lv_iload_n hx hb dX5_budget_63 rfl (lv_at hl 1 rfl) ?_
            refine lv_iadd hx hb dX5_budget_64 ?_
            refine wI_alv (v := Gs (R 1) 2 i) hx hb hK hP 1 0 rfl rfl (18 + i) (nadd rfl rfl) (by omega) (by decide) rfl dX5_budget_65 ?_
            refine lv_goto (tgt := 78) hx hb dX5_budget_66 (by decide) ?_
            have hP9 : va_P (dC, dI) vwCl (wMdl cy m0 a (upd I 0 0) R) H := hP
            have hD9 : va_D A (wMdl cy m0 a (upd I 0 0) R) := hD
            exact W.iret (v := Gs (R 1) 2 i) hx hb hr (fun t ht hW => ⟨⟨Gs (R 1) 2 i, (upd I 0 0), rfl, (by have e9 : cBud (Gs (R 1)) n (nI i) p1 = 0 := (by rw [cBud, if_pos (cT_ok hn hin), if_pos (cM_ok (mode_of (nb10 c_25))), if_neg (fun q => c_44 (b01.mpr (by rw [nI_clamp (by omega)] at q; exact q.2)))]); exact ⟨by rw [e9], fun _ => by rw [vBud, if_pos c_54, nI_clamp (by omega)]⟩), by rw [ht]; exact hP9, hD9⟩, hS.F ht⟩) hS.2.2 dX5_budget_78
        · refine lv_aload_n hx hb dX5_budget_47 rfl (lv_at hl 0 rfl) ?_
          refine lv_iconst (v := 3) hx hb dX5_budget_48 (by decide) ?_
          have hPc := hP.sub (ws' := wMdl cy m0 a (upd I 0 0) R) [0, 1, 2, 3, 4, 5, 6, 7, 8, 9, 10, 11, 12] rfl
          have hDc := hD.sub (ws' := wMdl cy m0 a (upd I 0 0) R) [0, 1, 2, 3, 4, 5, 6, 7, 8, 9, 10, 11, 12] (by decide) rfl
          have hFc := va_free (wc := wMdl cy m0 a (upd I 0 0) R) hD hS hA [0, 1, 2, 3, 4, 5, 6, 7, 8, 9, 10, 11, 12] rfl
          refine va_calli (va_runV (As := [.int 3]) (rest := []) ⟨hx, hb, hml, hown, hts⟩ (c_X5_fails l dC dI cy H.size m0 a (upd I 0 0) R 3  ) (cwV 1 hts gX5_budget_X5_fails rfl rfl rfl (by decide +kernel) ⟨Nat.le_of_ble_eq_true rfl, Nat.le_of_ble_eq_true rfl⟩) ⟨bl_in, va_recv hK hPc (ci := 5) (q0 := 0) rfl rfl, pr_in hPc hE hDc⟩ rfl rfl hl.1 rfl (lv_room (Nat.le_of_ble_eq_true rfl)) dX5_budget_49 ⟨Nat.le_of_ble_eq_true rfl, Nat.le_of_ble_eq_true rfl⟩) hS (fun q _ h => hFc q h) hFc (fun r u t H1 locs ht hvm hw hB hz1 hk1 hS => ?_)
          obtain rfl := hw
          obtain ⟨hP1, hD1⟩ := hB
          rw [ht] at hP1
          obtain ⟨hP, hD⟩ := va_join (wr := []) (w1 := wMdl cy m0 a (upd I 0 3) R) hP hD [0, 1, 2, 3, 4, 5, 6, 7, 8, 9, 10, 11, 12] [] rfl rfl (by decide) (by decide) hk1 hFc hP1 hD1
          have hP : va_P (dC, dI) vwCl (wMdl cy m0 a (upd I 0 3) R) H1 := hP.sub [0, 1, 2, 3, 4, 5, 6, 7, 8, 9, 10, 11, 12] rfl
          have hD : va_D A (wMdl cy m0 a (upd I 0 3) R) := hD.sub [0, 1, 2, 3, 4, 5, 6, 7, 8, 9, 10, 11, 12] (by decide) rfl
          clear hz1 hk1 hPc hDc hFc hP1 hD1
          generalize H1 = H at hP hS ⊢
          have hP9 : va_P (dC, dI) vwCl (wMdl cy m0 a (upd I 0 3) R) H := hP
          have hD9 : va_D A (wMdl cy m0 a (upd I 0 3) R) := hD
          exact W.iret (v := 0) hx hb hr (fun t ht hW => ⟨⟨0, (upd I 0 3), rfl, (by have e9 : cBud (Gs (R 1)) n (nI i) p1 = 3 := (by rw [cBud, if_pos (cT_ok hn hin), if_pos (cM_ok (mode_of (nb10 c_25))), if_pos ⟨c_36, by rw [nI_clamp (by omega)]; exact b01.mp c_44⟩]); exact ⟨by rw [e9], fun h => absurd (e9.symm.trans h) (by decide)⟩), by rw [ht]; exact hP9, hD9⟩, hS.F ht⟩) hS.2.2 dX5_budget_52
    · refine lv_aload_n hx hb dX5_budget_28 rfl (lv_at hl 0 rfl) ?_
      refine lv_iconst (v := 2) hx hb dX5_budget_29 (by decide) ?_
      have hPc := hP.sub (ws' := wMdl cy m0 a (upd I 0 0) R) [0, 1, 2, 3, 4, 5, 6, 7, 8, 9, 10, 11, 12] rfl
      have hDc := hD.sub (ws' := wMdl cy m0 a (upd I 0 0) R) [0, 1, 2, 3, 4, 5, 6, 7, 8, 9, 10, 11, 12] (by decide) rfl
      have hFc := va_free (wc := wMdl cy m0 a (upd I 0 0) R) hD hS hA [0, 1, 2, 3, 4, 5, 6, 7, 8, 9, 10, 11, 12] rfl
      refine va_calli (va_runV (As := [.int 2]) (rest := []) ⟨hx, hb, hml, hown, hts⟩ (c_X5_fails l dC dI cy H.size m0 a (upd I 0 0) R 2  ) (cwV 1 hts gX5_budget_X5_fails rfl rfl rfl (by decide +kernel) ⟨Nat.le_of_ble_eq_true rfl, Nat.le_of_ble_eq_true rfl⟩) ⟨bl_in, va_recv hK hPc (ci := 5) (q0 := 0) rfl rfl, pr_in hPc hE hDc⟩ rfl rfl hl.1 rfl (lv_room (Nat.le_of_ble_eq_true rfl)) dX5_budget_30 ⟨Nat.le_of_ble_eq_true rfl, Nat.le_of_ble_eq_true rfl⟩) hS (fun q _ h => hFc q h) hFc (fun r u t H1 locs ht hvm hw hB hz1 hk1 hS => ?_)
      obtain rfl := hw
      obtain ⟨hP1, hD1⟩ := hB
      rw [ht] at hP1
      obtain ⟨hP, hD⟩ := va_join (wr := []) (w1 := wMdl cy m0 a (upd I 0 2) R) hP hD [0, 1, 2, 3, 4, 5, 6, 7, 8, 9, 10, 11, 12] [] rfl rfl (by decide) (by decide) hk1 hFc hP1 hD1
      have hP : va_P (dC, dI) vwCl (wMdl cy m0 a (upd I 0 2) R) H1 := hP.sub [0, 1, 2, 3, 4, 5, 6, 7, 8, 9, 10, 11, 12] rfl
      have hD : va_D A (wMdl cy m0 a (upd I 0 2) R) := hD.sub [0, 1, 2, 3, 4, 5, 6, 7, 8, 9, 10, 11, 12] (by decide) rfl
      clear hz1 hk1 hPc hDc hFc hP1 hD1
      generalize H1 = H at hP hS ⊢
      have hP9 : va_P (dC, dI) vwCl (wMdl cy m0 a (upd I 0 2) R) H := hP
      have hD9 : va_D A (wMdl cy m0 a (upd I 0 2) R) := hD
      exact W.iret (v := 0) hx hb hr (fun t ht hW => ⟨⟨0, (upd I 0 2), rfl, (by have e9 : cBud (Gs (R 1)) n (nI i) p1 = 2 := (by rw [cBud, if_pos (cT_ok hn hin), if_neg (fun h => absurd ((cM_no (mode_no (b10.mp c_25))).symm.trans h) (by decide))]); exact ⟨by rw [e9], fun h => absurd (e9.symm.trans h) (by decide)⟩), by rw [ht]; exact hP9, hD9⟩, hS.F ht⟩) hS.2.2 dX5_budget_33
  · refine lv_aload_n hx hb dX5_budget_13 rfl (lv_at hl 0 rfl) ?_
    refine lv_iconst (v := 1) hx hb dX5_budget_14 (by decide) ?_
    have hPc := hP.sub (ws' := wMdl cy m0 a (upd I 0 0) R) [0, 1, 2, 3, 4, 5, 6, 7, 8, 9, 10, 11, 12] rfl
    have hDc := hD.sub (ws' := wMdl cy m0 a (upd I 0 0) R) [0, 1, 2, 3, 4, 5, 6, 7, 8, 9, 10, 11, 12] (by decide) rfl
    have hFc := va_free (wc := wMdl cy m0 a (upd I 0 0) R) hD hS hA [0, 1, 2, 3, 4, 5, 6, 7, 8, 9, 10, 11, 12] rfl
    refine va_calli (va_runV (As := [.int 1]) (rest := []) ⟨hx, hb, hml, hown, hts⟩ (c_X5_fails l dC dI cy H.size m0 a (upd I 0 0) R 1  ) (cwV 1 hts gX5_budget_X5_fails rfl rfl rfl (by decide +kernel) ⟨Nat.le_of_ble_eq_true rfl, Nat.le_of_ble_eq_true rfl⟩) ⟨bl_in, va_recv hK hPc (ci := 5) (q0 := 0) rfl rfl, pr_in hPc hE hDc⟩ rfl rfl hl.1 rfl (lv_room (Nat.le_of_ble_eq_true rfl)) dX5_budget_15 ⟨Nat.le_of_ble_eq_true rfl, Nat.le_of_ble_eq_true rfl⟩) hS (fun q _ h => hFc q h) hFc (fun r u t H1 locs ht hvm hw hB hz1 hk1 hS => ?_)
    obtain rfl := hw
    obtain ⟨hP1, hD1⟩ := hB
    rw [ht] at hP1
    obtain ⟨hP, hD⟩ := va_join (wr := []) (w1 := wMdl cy m0 a (upd I 0 1) R) hP hD [0, 1, 2, 3, 4, 5, 6, 7, 8, 9, 10, 11, 12] [] rfl rfl (by decide) (by decide) hk1 hFc hP1 hD1
    have hP : va_P (dC, dI) vwCl (wMdl cy m0 a (upd I 0 1) R) H1 := hP.sub [0, 1, 2, 3, 4, 5, 6, 7, 8, 9, 10, 11, 12] rfl
    have hD : va_D A (wMdl cy m0 a (upd I 0 1) R) := hD.sub [0, 1, 2, 3, 4, 5, 6, 7, 8, 9, 10, 11, 12] (by decide) rfl
    clear hz1 hk1 hPc hDc hFc hP1 hD1
    generalize H1 = H at hP hS ⊢
    have hP9 : va_P (dC, dI) vwCl (wMdl cy m0 a (upd I 0 1) R) H := hP
    have hD9 : va_D A (wMdl cy m0 a (upd I 0 1) R) := hD
    exact W.iret (v := 0) hx hb hr (fun t ht hW => ⟨⟨0, (upd I 0 1), rfl, ⟨by rw [cBud, if_neg (fun h => absurd ((cT_no hn (b10.mp c_10)).symm.trans h) (by decide))], fun h => absurd ((if_neg (fun q => absurd ((cT_no hn (b10.mp c_10)).symm.trans q) (by decide))).symm.trans h) (by decide)⟩, by rw [ht]; exact hP9, hD9⟩, hS.F ht⟩) hS.2.2 dX5_budget_18
set_option maxHeartbeats 1000000 in
set_option maxRecDepth 100000 in
/-- demand -/
theorem c_X5_demand (l : Launch) (dC : Nat → ClassId) (dI : Nat → Nat → Nat) (cy : Nat → ClassId) (sz : Nat) (m0 : Nat) (a : Nat → Nat) (I : Nat → Int32) (R : vG) (n : Nat) (hn : n ≤ 8) (hS0 : R 1 0 = nI n) (hG : okG (Gs (R 1)) n) (p0 p1 : Int32) : Met l yX5_demand wsX5_demand ({ frames := 4, cells := 0, slots := 0, locals := 94 }) (va_Pc [.ref m0, .int p0, .int p1] (pIn dC dI cy (wMdl cy m0 a I R) sz)) (va_Qi (fun (r : Int32) (u : Nat → Int32) => u = upd I 0 (cDem p0 p1) ∧ (cDem p0 p1 = 0 → r = tdem (Gs (R 1)) n (R 1 1) p0 p1)) (fun (u : Nat → Int32) t => va_P (dC, dI) vwCl (wMdl cy m0 a u R) t.heap ∧ va_D (va_A (wMdl cy m0 a I R) sz) (wMdl cy m0 a u R)) (va_A (wMdl cy m0 a I R) sz)) 0 0 (va_A (wMdl cy m0 a I R) sz) := by
  refine Met.ofW (cc := cX5_demand) (maxL := 3) (ret := some .int) (by decide) rfl ?_
  intro p e s m args below meth c s₁ B hml hv
  obtain ⟨rfl, hsz, hP, hE, hD0⟩ := hv
  have hK := hE.1
  subst hsz
  have hD := hD0.self (sz := s.heap.size)
  generalize hAe : va_A (wMdl cy m0 a I R) s.heap.size = A at hD ⊢
  have hA : ∀ q : Nat, s.heap.size ≤ q → A q := fun q h => by rw [← hAe]; exact Or.inr h
  have hS : va_S A s.heap s.heap [] := va_S.rf
  have hP : va_P (dC, dI) vwCl (wMdl cy m0 a I R) s.heap := hP
  have hx := B.exec
  have hb := B.bytes
  have hr := B.returns
  have hts := atoms_spec (ws := wsX5_demand) B.pre
  have hown : s.vm.findClass RX5 = some m.cls := findClass_of_methodNamed B.named
  have hlocks := B.notSynchronized
  have hin5 : ∀ w ∈ u_ws RX5 TX5 32, w ∈ wsX5_demand := by decide +kernel
  have f_50 := hts (.fieldLink RX5 50 "DeadlineAdmissionModel" "thrown" "I") (by decide +kernel)
  have hl := lv_entry ([.ref m0, .int p0, .int p1]) (n := 3) (Nat.le_of_ble_eq_true rfl)
  rw [lg_entry_eq]
  generalize (lg_sl ([.ref m0, .int p0, .int p1]) ++ List.replicate (3 - (lg_sl ([.ref m0, .int p0, .int p1])).length) Slot.unset).toArray = ls at hl ⊢
  have hl : lv_has ls 3 [(0, .ref m0), (1, .int p0), (2, .int p1)] := hl
  refine lv_aload_n hx hb dX5_demand_0 rfl (lv_at hl 0 rfl) ?_
  refine lv_iconst (v := 0) hx hb dX5_demand_1 (by decide) ?_
  refine va_put (D := (dC, dI)) (ci := 5) (v := .int 0) (ty := .int) (C := RX5) (T := TX5) (N := 32) hx hb hts hin5 tyX5 tyX5_ok nmX5 hown hK hP hD hS 0 rfl rfl 0 (by decide) f_50 (fun _ h9 => h9) rfl (by decide +kernel) rfl rfl (Nat.le_of_ble_eq_true rfl) dX5_demand_2 (fun H locs hP hD hS => ?_)
  have hP : va_P (dC, dI) vwCl (wMdl cy m0 a (upd I 0 0) R) H := hP
  have hD : va_D A (wMdl cy m0 a (upd I 0 0) R) := hD
  refine lv_iload_n hx hb dX5_demand_5 rfl (lv_at hl 1 rfl) ?_
  refine lv_iconst (v := 0) hx hb dX5_demand_6 (by decide) ?_
  refine lv_iconst (v := 1) hx hb dX5_demand_7 (by decide) ?_
  refine vp_callSi (va_runS (As := [.int p0, .int 0, .int 1]) (rest := []) ⟨hx, hb, hml, hown, hts⟩ (c_X5_in l p0 0 1) (cwS 3 hts gX5_demand_X5_in rfl rfl rfl (by decide +kernel) ⟨Nat.le_of_ble_eq_true rfl, Nat.le_of_ble_eq_true rfl⟩) ⟨fun a U g mk q => q, fun U hU hW => ⟨rfl, trivial⟩⟩ rfl rfl hl.1 rfl (lv_room (Nat.le_of_ble_eq_true rfl)) dX5_demand_8 ⟨Nat.le_of_ble_eq_true rfl, Nat.le_of_ble_eq_true rfl⟩).run (fun r e_r => ?_)
  subst e_r
  refine lv_topi (fun y_ ey_ => ?_)
  obtain rfl : y_ = if ¬ p0 < 0 ∧ ¬ 1 < p0 then 1 else 0 := ey_
  refine lv_if_eq (tgt := 34) hx hb dX5_demand_11 (by decide) (fun c_11 => ?_) (fun c_11 => ?_)
  · refine lv_aload_n hx hb dX5_demand_34 rfl (lv_at hl 0 rfl) ?_
    refine lv_iconst (v := 1) hx hb dX5_demand_35 (by decide) ?_
    have hPc := hP.sub (ws' := wMdl cy m0 a (upd I 0 0) R) [0, 1, 2, 3, 4, 5, 6, 7, 8, 9, 10, 11, 12] rfl
    have hDc := hD.sub (ws' := wMdl cy m0 a (upd I 0 0) R) [0, 1, 2, 3, 4, 5, 6, 7, 8, 9, 10, 11, 12] (by decide) rfl
    have hFc := va_free (wc := wMdl cy m0 a (upd I 0 0) R) hD hS hA [0, 1, 2, 3, 4, 5, 6, 7, 8, 9, 10, 11, 12] rfl
    refine va_calli (va_runV (As := [.int 1]) (rest := []) ⟨hx, hb, hml, hown, hts⟩ (c_X5_fails l dC dI cy H.size m0 a (upd I 0 0) R 1  ) (cwV 1 hts gX5_demand_X5_fails rfl rfl rfl (by decide +kernel) ⟨Nat.le_of_ble_eq_true rfl, Nat.le_of_ble_eq_true rfl⟩) ⟨bl_in, va_recv hK hPc (ci := 5) (q0 := 0) rfl rfl, pr_in hPc hE hDc⟩ rfl rfl hl.1 rfl (lv_room (Nat.le_of_ble_eq_true rfl)) dX5_demand_36 ⟨Nat.le_of_ble_eq_true rfl, Nat.le_of_ble_eq_true rfl⟩) hS (fun q _ h => hFc q h) hFc (fun r u t H1 locs ht hvm hw hB hz1 hk1 hS => ?_)
    obtain rfl := hw
    obtain ⟨hP1, hD1⟩ := hB
    rw [ht] at hP1
    obtain ⟨hP, hD⟩ := va_join (wr := []) (w1 := wMdl cy m0 a (upd I 0 1) R) hP hD [0, 1, 2, 3, 4, 5, 6, 7, 8, 9, 10, 11, 12] [] rfl rfl (by decide) (by decide) hk1 hFc hP1 hD1
    have hP : va_P (dC, dI) vwCl (wMdl cy m0 a (upd I 0 1) R) H1 := hP.sub [0, 1, 2, 3, 4, 5, 6, 7, 8, 9, 10, 11, 12] rfl
    have hD : va_D A (wMdl cy m0 a (upd I 0 1) R) := hD.sub [0, 1, 2, 3, 4, 5, 6, 7, 8, 9, 10, 11, 12] (by decide) rfl
    clear hz1 hk1 hPc hDc hFc hP1 hD1
    generalize H1 = H at hP hS ⊢
    have hP9 : va_P (dC, dI) vwCl (wMdl cy m0 a (upd I 0 1) R) H := hP
    have hD9 : va_D A (wMdl cy m0 a (upd I 0 1) R) := hD
    exact W.iret (v := 0) hx hb hr (fun t ht hW => ⟨⟨0, (upd I 0 1), rfl, (by have e9 : cDem p0 p1 = 1 := if_neg (fun h => absurd ((cM_no (mode_no (b10.mp c_11))).symm.trans h.1) (by decide)); exact ⟨by rw [e9], fun h => absurd (e9.symm.trans h) (by decide)⟩), by rw [ht]; exact hP9, hD9⟩, hS.F ht⟩) hS.2.2 dX5_demand_39
  · refine lv_iload_n hx hb dX5_demand_14 rfl (lv_at hl 2 rfl) ?_
    refine lv_iconst (v := 0) hx hb dX5_demand_15 (by decide) ?_
    refine lv_sipush (v := 200) hx hb dX5_demand_16 (by decide) ?_
    refine vp_callSi (va_runS (As := [.int p1, .int 0, .int 200]) (rest := []) ⟨hx, hb, hml, hown, hts⟩ (c_X5_in l p1 0 200) (cwS 3 hts gX5_demand_X5_in rfl rfl rfl (by decide +kernel) ⟨Nat.le_of_ble_eq_true rfl, Nat.le_of_ble_eq_true rfl⟩) ⟨fun a U g mk q => q, fun U hU hW => ⟨rfl, trivial⟩⟩ rfl rfl hl.1 rfl (lv_room (Nat.le_of_ble_eq_true rfl)) dX5_demand_19 ⟨Nat.le_of_ble_eq_true rfl, Nat.le_of_ble_eq_true rfl⟩).run (fun r e_r => ?_)
    subst e_r
    refine lv_topi (fun y_ ey_ => ?_)
    obtain rfl : y_ = if ¬ p1 < 0 ∧ ¬ 200 < p1 then 1 else 0 := ey_
    refine lv_if_eq (tgt := 34) hx hb dX5_demand_22 (by decide) (fun c_22 => ?_) (fun c_22 => ?_)
    · refine lv_aload_n hx hb dX5_demand_34 rfl (lv_at hl 0 rfl) ?_
      refine lv_iconst (v := 1) hx hb dX5_demand_35 (by decide) ?_
      have hPc := hP.sub (ws' := wMdl cy m0 a (upd I 0 0) R) [0, 1, 2, 3, 4, 5, 6, 7, 8, 9, 10, 11, 12] rfl
      have hDc := hD.sub (ws' := wMdl cy m0 a (upd I 0 0) R) [0, 1, 2, 3, 4, 5, 6, 7, 8, 9, 10, 11, 12] (by decide) rfl
      have hFc := va_free (wc := wMdl cy m0 a (upd I 0 0) R) hD hS hA [0, 1, 2, 3, 4, 5, 6, 7, 8, 9, 10, 11, 12] rfl
      refine va_calli (va_runV (As := [.int 1]) (rest := []) ⟨hx, hb, hml, hown, hts⟩ (c_X5_fails l dC dI cy H.size m0 a (upd I 0 0) R 1  ) (cwV 1 hts gX5_demand_X5_fails rfl rfl rfl (by decide +kernel) ⟨Nat.le_of_ble_eq_true rfl, Nat.le_of_ble_eq_true rfl⟩) ⟨bl_in, va_recv hK hPc (ci := 5) (q0 := 0) rfl rfl, pr_in hPc hE hDc⟩ rfl rfl hl.1 rfl (lv_room (Nat.le_of_ble_eq_true rfl)) dX5_demand_36 ⟨Nat.le_of_ble_eq_true rfl, Nat.le_of_ble_eq_true rfl⟩) hS (fun q _ h => hFc q h) hFc (fun r u t H1 locs ht hvm hw hB hz1 hk1 hS => ?_)
      obtain rfl := hw
      obtain ⟨hP1, hD1⟩ := hB
      rw [ht] at hP1
      obtain ⟨hP, hD⟩ := va_join (wr := []) (w1 := wMdl cy m0 a (upd I 0 1) R) hP hD [0, 1, 2, 3, 4, 5, 6, 7, 8, 9, 10, 11, 12] [] rfl rfl (by decide) (by decide) hk1 hFc hP1 hD1
      have hP : va_P (dC, dI) vwCl (wMdl cy m0 a (upd I 0 1) R) H1 := hP.sub [0, 1, 2, 3, 4, 5, 6, 7, 8, 9, 10, 11, 12] rfl
      have hD : va_D A (wMdl cy m0 a (upd I 0 1) R) := hD.sub [0, 1, 2, 3, 4, 5, 6, 7, 8, 9, 10, 11, 12] (by decide) rfl
      clear hz1 hk1 hPc hDc hFc hP1 hD1
      generalize H1 = H at hP hS ⊢
      have hP9 : va_P (dC, dI) vwCl (wMdl cy m0 a (upd I 0 1) R) H := hP
      have hD9 : va_D A (wMdl cy m0 a (upd I 0 1) R) := hD
      exact W.iret (v := 0) hx hb hr (fun t ht hW => ⟨⟨0, (upd I 0 1), rfl, (by have e9 : cDem p0 p1 = 1 := if_neg (fun h => b10.mp c_22 h.2); exact ⟨by rw [e9], fun h => absurd (e9.symm.trans h) (by decide)⟩), by rw [ht]; exact hP9, hD9⟩, hS.F ht⟩) hS.2.2 dX5_demand_39
    · refine lv_aload_n hx hb dX5_demand_25 rfl (lv_at hl 0 rfl) ?_
      refine lv_iload_n hx hb dX5_demand_26 rfl (lv_at hl 1 rfl) ?_
      refine lv_iload_n hx hb dX5_demand_27 rfl (lv_at hl 2 rfl) ?_
      refine vp_callSi (va_runV (As := [.int p0, .int p1]) (rest := []) ⟨hx, hb, hml, hown, hts⟩ (c_X5_demandOf l dC dI cy m0 a (upd I 0 0) R n hn hS0 hG p0 p1 (mode_of (nb10 c_11))) (cwV 2 hts gX5_demand_X5_demandOf rfl rfl rfl (by decide +kernel) ⟨Nat.le_of_ble_eq_true rfl, Nat.le_of_ble_eq_true rfl⟩) ⟨bl_ro, va_recv hK hP (ci := 5) (q0 := 0) rfl rfl, pr_ro hP hE⟩ rfl rfl hl.1 rfl (lv_room (Nat.le_of_ble_eq_true rfl)) dX5_demand_28 ⟨Nat.le_of_ble_eq_true rfl, Nat.le_of_ble_eq_true rfl⟩).run (fun r e_r => ?_)
      subst e_r
      refine lv_topi (fun y_ ey_ => ?_)
      obtain rfl : y_ = tdem (Gs (R 1)) n ((R 1) 1) p0 p1 := ey_
      refine lv_goto (tgt := 39) hx hb dX5_demand_31 (by decide) ?_
      have hP9 : va_P (dC, dI) vwCl (wMdl cy m0 a (upd I 0 0) R) H := hP
      have hD9 : va_D A (wMdl cy m0 a (upd I 0 0) R) := hD
      exact W.iret (v := tdem (Gs (R 1)) n ((R 1) 1) p0 p1) hx hb hr (fun t ht hW => ⟨⟨tdem (Gs (R 1)) n ((R 1) 1) p0 p1, (upd I 0 0), rfl, (by have e9 : cDem p0 p1 = 0 := if_pos ⟨cM_ok (mode_of (nb10 c_11)), nb10 c_22⟩; exact ⟨by rw [e9], fun _ => rfl⟩), by rw [ht]; exact hP9, hD9⟩, hS.F ht⟩) hS.2.2 dX5_demand_39
set_option maxHeartbeats 1000000 in
set_option maxRecDepth 100000 in
/-- the tightest interval -/
theorem c_X5_tightestOf (l : Launch) (dC : Nat → ClassId) (dI : Nat → Nat → Nat) (cy : Nat → ClassId) (m0 : Nat) (a : Nat → Nat) (I : Nat → Int32) (R : vG) (n : Nat) (hn : n ≤ 8) (hS0 : R 1 0 = nI n) (hG : okG (Gs (R 1)) n) (p0 : Int32) (hm : p0 = 0 ∨ p0 = 1) : Met l yX5_tightestOf wsX5_tightestOf ({ frames := 4, cells := 0, slots := 0, locals := 94 }) (va_Pc [.ref m0, .int p0] (fun U => va_P (dC, dI) vwCl (wMdl cy m0 a I R) U.heap ∧ EV dC dI cy U)) (vp_Si (fun r => r = tgh (Gs (R 1)) n (R 1 1) p0)) 0 0 (fun _ => False) := by
  refine Met.ofW (cc := cX5_tightestOf) (maxL := 6) (ret := some .int) (by decide) rfl ?_
  intro p e s m args below meth c s₁ B hml hv
  obtain ⟨rfl, hP, hE⟩ := hv
  have hK := hE.1
  have hx := B.exec
  have hb := B.bytes
  have hr := B.returns
  have hts := atoms_spec (ws := wsX5_tightestOf) B.pre
  have hown : s.vm.findClass RX5 = some m.cls := findClass_of_methodNamed B.named
  have hlocks := B.notSynchronized
  have hl := lv_entry ([.ref m0, .int p0]) (n := 6) (Nat.le_of_ble_eq_true rfl)
  rw [lg_entry_eq]
  generalize (lg_sl ([.ref m0, .int p0]) ++ List.replicate (6 - (lg_sl ([.ref m0, .int p0])).length) Slot.unset).toArray = ls at hl ⊢
  have hl : lv_has ls 6 [(0, .ref m0), (1, .int p0)] := hl
  refine lv_iconst (v := 1) hx hb dX5_tightestOf_0 (by decide) ?_
  refine lv_istore_n (lv' := [(2, .int 1), (0, .ref m0), (1, .int p0)]) hx hb dX5_tightestOf_1 rfl hl (by decide) rfl (fun ls hl => ?_)
  refine lv_iconst (v := 1) hx hb dX5_tightestOf_2 (by decide) ?_
  refine lv_aload_n hx hb dX5_tightestOf_3 rfl (lv_at hl 1 rfl) ?_
  refine lv_iload_n hx hb dX5_tightestOf_4 rfl (lv_at hl 2 rfl) ?_
  refine lv_iconst (v := 1) hx hb dX5_tightestOf_5 (by decide) ?_
  refine vp_callSi (va_runV (As := [.int p0, .int 1]) (rest := [.int 1]) ⟨hx, hb, hml, hown, hts⟩ (c_X5_demandOf l dC dI cy m0 a I R n hn hS0 hG p0 1 hm) (cwV 2 hts gX5_tightestOf_X5_demandOf rfl rfl rfl (by decide +kernel) ⟨Nat.le_of_ble_eq_true rfl, Nat.le_of_ble_eq_true rfl⟩) ⟨bl_ro, va_recv hK hP (ci := 5) (q0 := 0) rfl rfl, pr_ro hP hE⟩ rfl rfl hl.1 rfl (lv_room (Nat.le_of_ble_eq_true rfl)) dX5_tightestOf_6 ⟨Nat.le_of_ble_eq_true rfl, Nat.le_of_ble_eq_true rfl⟩).run (fun r e_r => ?_)
  subst e_r
  refine lv_isub hx hb dX5_tightestOf_9 ?_
  refine lv_istore_n (lv' := [(3, .int (1 - (tdem (Gs (R 1)) n ((R 1) 1) p0 1))), (2, .int 1), (0, .ref m0), (1, .int p0)]) hx hb dX5_tightestOf_10 rfl hl (by decide) rfl (fun ls hl => ?_)
  refine lv_iconst (v := 2) hx hb dX5_tightestOf_11 (by decide) ?_
  refine lv_istore (lv' := [(4, .int 2), (3, .int (1 - (tdem (Gs (R 1)) n ((R 1) 1) p0 1))), (2, .int 1), (0, .ref m0), (1, .int p0)]) hx hb dX5_tightestOf_12 hl (by decide) rfl (fun ls hl => ?_)
  have loop14 : ∀ (k : Nat) (j : Nat) (t : Nat) (bs : Int32) (le : Int32) (ls : Array Slot), t + j = 201 → j < k → tgr (tdem (Gs (R 1)) n (R 1 1) p0) j t bs le = tgh (Gs (R 1)) n (R 1 1) p0 → lv_has ls 6 [(0, .ref m0), (1, .int p0), (2, .int bs), (3, .int le), (4, .int (nI t))] → W p l e (headSpec wsX5_tightestOf ({ frames := 4, cells := 0, slots := 0, locals := 94 }) |>.room) s m (([.ref m0, .int p0].toArray)) below meth c s.heap [] 0 0 (MQ below (vp_Si (fun r => r = tgh (Gs (R 1)) n (R 1 1) p0)) ([.ref m0, .int p0].toArray) s 0 0 (fun _ => False)) (F0 m 14 ls []) := by
    intro k
    induction k with
    | zero =>
      intro j t bs le ls hi hk ef
      exfalso; omega
    | succ k ih14 =>
      intro j t bs le ls hi hk ef hl
      refine lv_iload hx hb dX5_tightestOf_14 (lv_at hl 4 rfl) ?_
      refine lv_sipush (v := 200) hx hb dX5_tightestOf_16 (by decide) ?_
      refine lv_icmp_gt (tgt := 66) hx hb dX5_tightestOf_19 (by decide) (fun c_19 => ?_) (fun c_19 => ?_)
      · have e_j : j = 0 := by have := (nI_ltI (a := 200) (b := t) (by omega) (by omega)).mp c_19; omega
        refine lv_iload_n hx hb dX5_tightestOf_66 rfl (lv_at hl 2 rfl) ?_
        exact W.iret (v := bs) hx hb hr (fun t ht hW => ⟨_, rfl, (by rw [← ef, e_j]; rfl), ht⟩) (fun q hq => absurd hq List.not_mem_nil) dX5_tightestOf_67
      · obtain ⟨j, rfl⟩ : ∃ z, j = z + 1 := ⟨j - 1, by have h : ¬ (200 < t) := fun h => c_19 ((nI_ltI (a := 200) (b := t) (by omega) (by omega)).mpr h); omega⟩
        refine lv_iload hx hb dX5_tightestOf_22 (lv_at hl 4 rfl) ?_
        refine lv_aload_n hx hb dX5_tightestOf_24 rfl (lv_at hl 0 rfl) ?_
        refine lv_iload_n hx hb dX5_tightestOf_25 rfl (lv_at hl 1 rfl) ?_
        refine lv_iload hx hb dX5_tightestOf_26 (lv_at hl 4 rfl) ?_
        refine vp_callSi (va_runV (As := [.int p0, .int (nI t)]) (rest := [.int (nI t)]) ⟨hx, hb, hml, hown, hts⟩ (c_X5_demandOf l dC dI cy m0 a I R n hn hS0 hG p0 (nI t) hm) (cwV 2 hts gX5_tightestOf_X5_demandOf rfl rfl rfl (by decide +kernel) ⟨Nat.le_of_ble_eq_true rfl, Nat.le_of_ble_eq_true rfl⟩) ⟨bl_ro, va_recv hK hP (ci := 5) (q0 := 0) rfl rfl, pr_ro hP hE⟩ rfl rfl hl.1 rfl (lv_room (Nat.le_of_ble_eq_true rfl)) dX5_tightestOf_28 ⟨Nat.le_of_ble_eq_true rfl, Nat.le_of_ble_eq_true rfl⟩).run (fun r e_r => ?_)
        subst e_r
        refine lv_isub hx hb dX5_tightestOf_31 ?_
        refine lv_istore (lv' := [(5, .int ((nI t) - (tdem (Gs (R 1)) n ((R 1) 1) p0 (nI t)))), (0, .ref m0), (1, .int p0), (2, .int bs), (3, .int le), (4, .int (nI t))]) hx hb dX5_tightestOf_32 hl (by decide) rfl (fun ls hl => ?_)
        refine lv_iload hx hb dX5_tightestOf_34 (lv_at hl 0 rfl) ?_
        refine lv_iload_n hx hb dX5_tightestOf_36 rfl (lv_at hl 4 rfl) ?_
        refine lv_icmp_ge (tgt := 45) hx hb dX5_tightestOf_37 (by decide) (fun c_37 => ?_) (fun c_37 => ?_)
        · refine lv_iload_n hx hb dX5_tightestOf_45 rfl (lv_at hl 3 rfl) ?_
          refine lv_istore_n (lv' := [(2, .int bs), (5, .int ((nI t) - (tdem (Gs (R 1)) n ((R 1) 1) p0 (nI t)))), (0, .ref m0), (1, .int p0), (3, .int le), (4, .int (nI t))]) hx hb dX5_tightestOf_46 rfl hl (by decide) rfl (fun ls hl => ?_)
          refine lv_iload hx hb dX5_tightestOf_47 (lv_at hl 1 rfl) ?_
          refine lv_iload_n hx hb dX5_tightestOf_49 rfl (lv_at hl 4 rfl) ?_
          refine lv_icmp_ge (tgt := 58) hx hb dX5_tightestOf_50 (by decide) (fun c_50 => ?_) (fun h0 => absurd c_37 h0)
          refine lv_iload_n hx hb dX5_tightestOf_58 rfl (lv_at hl 4 rfl) ?_
          refine lv_istore_n (lv' := [(3, .int le), (2, .int bs), (5, .int ((nI t) - (tdem (Gs (R 1)) n ((R 1) 1) p0 (nI t)))), (0, .ref m0), (1, .int p0), (4, .int (nI t))]) hx hb dX5_tightestOf_59 rfl hl (by decide) rfl (fun ls hl => ?_)
          refine lv_iinc (v := nI (t + 1)) (lv' := [(4, .int (nI (t + 1))), (3, .int le), (2, .int bs), (5, .int ((nI t) - (tdem (Gs (R 1)) n ((R 1) 1) p0 (nI t)))), (0, .ref m0), (1, .int p0)]) hx hb dX5_tightestOf_60 hl (k := 5) rfl (nI_1 _) (by decide) rfl (fun ls hl => ?_)
          refine lv_goto (tgt := 14) hx hb dX5_tightestOf_63 (by decide) ?_
          exact ih14 j (t + 1) _ _ ls (by omega) (by omega) (by rw [← ef, tgr, if_pos c_37]) (lv_sub hl [4, 5, 2, 1, 0] rfl)
        · refine lv_iload hx hb dX5_tightestOf_40 (lv_at hl 5 rfl) ?_
          refine lv_goto (tgt := 46) hx hb dX5_tightestOf_42 (by decide) ?_
          refine lv_istore_n (lv' := [(2, .int (nI t)), (5, .int ((nI t) - (tdem (Gs (R 1)) n ((R 1) 1) p0 (nI t)))), (0, .ref m0), (1, .int p0), (3, .int le), (4, .int (nI t))]) hx hb dX5_tightestOf_46 rfl hl (by decide) rfl (fun ls hl => ?_)
          refine lv_iload hx hb dX5_tightestOf_47 (lv_at hl 1 rfl) ?_
          refine lv_iload_n hx hb dX5_tightestOf_49 rfl (lv_at hl 4 rfl) ?_
          refine lv_icmp_ge (tgt := 58) hx hb dX5_tightestOf_50 (by decide) (fun h0 => absurd h0 c_37) (fun c_50 => ?_)
          refine lv_iload hx hb dX5_tightestOf_53 (lv_at hl 1 rfl) ?_
          refine lv_goto (tgt := 59) hx hb dX5_tightestOf_55 (by decide) ?_
          refine lv_istore_n (lv' := [(3, .int ((nI t) - (tdem (Gs (R 1)) n ((R 1) 1) p0 (nI t)))), (2, .int (nI t)), (5, .int ((nI t) - (tdem (Gs (R 1)) n ((R 1) 1) p0 (nI t)))), (0, .ref m0), (1, .int p0), (4, .int (nI t))]) hx hb dX5_tightestOf_59 rfl hl (by decide) rfl (fun ls hl => ?_)
          refine lv_iinc (v := nI (t + 1)) (lv' := [(4, .int (nI (t + 1))), (3, .int ((nI t) - (tdem (Gs (R 1)) n ((R 1) 1) p0 (nI t)))), (2, .int (nI t)), (5, .int ((nI t) - (tdem (Gs (R 1)) n ((R 1) 1) p0 (nI t)))), (0, .ref m0), (1, .int p0)]) hx hb dX5_tightestOf_60 hl (k := 5) rfl (nI_1 _) (by decide) rfl (fun ls hl => ?_)
          refine lv_goto (tgt := 14) hx hb dX5_tightestOf_63 (by decide) ?_
          exact ih14 j (t + 1) _ _ ls (by omega) (by omega) (by rw [← ef, tgr, if_neg c_37]) (lv_sub hl [4, 5, 2, 1, 0] rfl)
  exact loop14 200 199 2 _ _ ls rfl (by omega) rfl (lv_sub hl [3, 4, 2, 1, 0] rfl)
set_option maxHeartbeats 1000000 in
set_option maxRecDepth 100000 in
/-- slack -/
theorem c_X5_slack (l : Launch) (dC : Nat → ClassId) (dI : Nat → Nat → Nat) (cy : Nat → ClassId) (sz : Nat) (m0 : Nat) (a : Nat → Nat) (I : Nat → Int32) (R : vG) (n : Nat) (hn : n ≤ 8) (hS0 : R 1 0 = nI n) (hG : okG (Gs (R 1)) n) (p0 : Int32) : Met l yX5_slack wsX5_slack ({ frames := 5, cells := 0, slots := 0, locals := 119 }) (va_Pc [.ref m0, .int p0] (pIn dC dI cy (wMdl cy m0 a I R) sz)) (va_Qi (fun (r : Int32) (u : Nat → Int32) => u = upd I 0 (cM p0) ∧ (cM p0 = 0 → r = slk (Gs (R 1)) n (R 1 1) p0)) (fun (u : Nat → Int32) t => va_P (dC, dI) vwCl (wMdl cy m0 a u R) t.heap ∧ va_D (va_A (wMdl cy m0 a I R) sz) (wMdl cy m0 a u R)) (va_A (wMdl cy m0 a I R) sz)) 0 0 (va_A (wMdl cy m0 a I R) sz) := by
  refine Met.ofW (cc := cX5_slack) (maxL := 3) (ret := some .int) (by decide) rfl ?_
  intro p e s m args below meth c s₁ B hml hv
  obtain ⟨rfl, hsz, hP, hE, hD0⟩ := hv
  have hK := hE.1
  subst hsz
  have hD := hD0.self (sz := s.heap.size)
  generalize hAe : va_A (wMdl cy m0 a I R) s.heap.size = A at hD ⊢
  have hA : ∀ q : Nat, s.heap.size ≤ q → A q := fun q h => by rw [← hAe]; exact Or.inr h
  have hS : va_S A s.heap s.heap [] := va_S.rf
  have hP : va_P (dC, dI) vwCl (wMdl cy m0 a I R) s.heap := hP
  have hx := B.exec
  have hb := B.bytes
  have hr := B.returns
  have hts := atoms_spec (ws := wsX5_slack) B.pre
  have hown : s.vm.findClass RX5 = some m.cls := findClass_of_methodNamed B.named
  have hlocks := B.notSynchronized
  have hin5 : ∀ w ∈ u_ws RX5 TX5 32, w ∈ wsX5_slack := by decide +kernel
  have f_50 := hts (.fieldLink RX5 50 "DeadlineAdmissionModel" "thrown" "I") (by decide +kernel)
  have hl := lv_entry ([.ref m0, .int p0]) (n := 3) (Nat.le_of_ble_eq_true rfl)
  rw [lg_entry_eq]
  generalize (lg_sl ([.ref m0, .int p0]) ++ List.replicate (3 - (lg_sl ([.ref m0, .int p0])).length) Slot.unset).toArray = ls at hl ⊢
  have hl : lv_has ls 3 [(0, .ref m0), (1, .int p0)] := hl
  refine lv_aload_n hx hb dX5_slack_0 rfl (lv_at hl 0 rfl) ?_
  refine lv_iconst (v := 0) hx hb dX5_slack_1 (by decide) ?_
  refine va_put (D := (dC, dI)) (ci := 5) (v := .int 0) (ty := .int) (C := RX5) (T := TX5) (N := 32) hx hb hts hin5 tyX5 tyX5_ok nmX5 hown hK hP hD hS 0 rfl rfl 0 (by decide) f_50 (fun _ h9 => h9) rfl (by decide +kernel) rfl rfl (Nat.le_of_ble_eq_true rfl) dX5_slack_2 (fun H locs hP hD hS => ?_)
  have hP : va_P (dC, dI) vwCl (wMdl cy m0 a (upd I 0 0) R) H := hP
  have hD : va_D A (wMdl cy m0 a (upd I 0 0) R) := hD
  refine lv_iload_n hx hb dX5_slack_5 rfl (lv_at hl 1 rfl) ?_
  refine lv_iconst (v := 0) hx hb dX5_slack_6 (by decide) ?_
  refine lv_iconst (v := 1) hx hb dX5_slack_7 (by decide) ?_
  refine vp_callSi (va_runS (As := [.int p0, .int 0, .int 1]) (rest := []) ⟨hx, hb, hml, hown, hts⟩ (c_X5_in l p0 0 1) (cwS 3 hts gX5_slack_X5_in rfl rfl rfl (by decide +kernel) ⟨Nat.le_of_ble_eq_true rfl, Nat.le_of_ble_eq_true rfl⟩) ⟨fun a U g mk q => q, fun U hU hW => ⟨rfl, trivial⟩⟩ rfl rfl hl.1 rfl (lv_room (Nat.le_of_ble_eq_true rfl)) dX5_slack_8 ⟨Nat.le_of_ble_eq_true rfl, Nat.le_of_ble_eq_true rfl⟩).run (fun r e_r => ?_)
  subst e_r
  refine lv_topi (fun y_ ey_ => ?_)
  obtain rfl : y_ = if ¬ p0 < 0 ∧ ¬ 1 < p0 then 1 else 0 := ey_
  refine lv_if_ne (tgt := 20) hx hb dX5_slack_11 (by decide) (fun c_11 => ?_) (fun c_11 => ?_)
  · refine lv_aload_n hx hb dX5_slack_20 rfl (lv_at hl 0 rfl) ?_
    refine lv_iload_n hx hb dX5_slack_21 rfl (lv_at hl 1 rfl) ?_
    refine vp_callSi (va_runV (As := [.int p0]) (rest := []) ⟨hx, hb, hml, hown, hts⟩ (c_X5_tightestOf l dC dI cy m0 a (upd I 0 0) R n hn hS0 hG p0 (mode_of (nb10 c_11))) (cwV 1 hts gX5_slack_X5_tightestOf rfl rfl rfl (by decide +kernel) ⟨Nat.le_of_ble_eq_true rfl, Nat.le_of_ble_eq_true rfl⟩) ⟨bl_ro, va_recv hK hP (ci := 5) (q0 := 0) rfl rfl, pr_ro hP hE⟩ rfl rfl hl.1 rfl (lv_room (Nat.le_of_ble_eq_true rfl)) dX5_slack_22 ⟨Nat.le_of_ble_eq_true rfl, Nat.le_of_ble_eq_true rfl⟩).run (fun r e_r => ?_)
    subst e_r
    refine lv_topi (fun y_ ey_ => ?_)
    obtain rfl : y_ = tgh (Gs (R 1)) n ((R 1) 1) p0 := ey_
    refine lv_istore_n (lv' := [(2, .int (tgh (Gs (R 1)) n ((R 1) 1) p0)), (0, .ref m0), (1, .int p0)]) hx hb dX5_slack_25 rfl hl (by decide) rfl (fun ls hl => ?_)
    refine lv_iload_n hx hb dX5_slack_26 rfl (lv_at hl 0 rfl) ?_
    refine lv_aload_n hx hb dX5_slack_27 rfl (lv_at hl 1 rfl) ?_
    refine lv_iload_n hx hb dX5_slack_28 rfl (lv_at hl 2 rfl) ?_
    refine lv_iload_n hx hb dX5_slack_29 rfl (lv_at hl 0 rfl) ?_
    refine vp_callSi (va_runV (As := [.int p0, .int (tgh (Gs (R 1)) n ((R 1) 1) p0)]) (rest := [.int (tgh (Gs (R 1)) n ((R 1) 1) p0)]) ⟨hx, hb, hml, hown, hts⟩ (c_X5_demandOf l dC dI cy m0 a (upd I 0 0) R n hn hS0 hG p0 (tgh (Gs (R 1)) n ((R 1) 1) p0) (mode_of (nb10 c_11))) (cwV 2 hts gX5_slack_X5_demandOf rfl rfl rfl (by decide +kernel) ⟨Nat.le_of_ble_eq_true rfl, Nat.le_of_ble_eq_true rfl⟩) ⟨bl_ro, va_recv hK hP (ci := 5) (q0 := 0) rfl rfl, pr_ro hP hE⟩ rfl rfl hl.1 rfl (lv_room (Nat.le_of_ble_eq_true rfl)) dX5_slack_30 ⟨Nat.le_of_ble_eq_true rfl, Nat.le_of_ble_eq_true rfl⟩).run (fun r e_r => ?_)
    subst e_r
    refine lv_topi (fun y_ ey_ => ?_)
    obtain rfl : y_ = tdem (Gs (R 1)) n ((R 1) 1) p0 (tgh (Gs (R 1)) n ((R 1) 1) p0) := ey_
    refine lv_isub hx hb dX5_slack_33 ?_
    have hP9 : va_P (dC, dI) vwCl (wMdl cy m0 a (upd I 0 0) R) H := hP
    have hD9 : va_D A (wMdl cy m0 a (upd I 0 0) R) := hD
    exact W.iret (v := (tgh (Gs (R 1)) n ((R 1) 1) p0) - (tdem (Gs (R 1)) n ((R 1) 1) p0 (tgh (Gs (R 1)) n ((R 1) 1) p0))) hx hb hr (fun t ht hW => ⟨⟨(tgh (Gs (R 1)) n ((R 1) 1) p0) - (tdem (Gs (R 1)) n ((R 1) 1) p0 (tgh (Gs (R 1)) n ((R 1) 1) p0)), (upd I 0 0), rfl, ⟨by rw [cM_ok (mode_of (nb10 c_11))], fun _ => rfl⟩, by rw [ht]; exact hP9, hD9⟩, hS.F ht⟩) hS.2.2 dX5_slack_34
  · refine lv_aload_n hx hb dX5_slack_14 rfl (lv_at hl 0 rfl) ?_
    refine lv_iconst (v := 1) hx hb dX5_slack_15 (by decide) ?_
    have hPc := hP.sub (ws' := wMdl cy m0 a (upd I 0 0) R) [0, 1, 2, 3, 4, 5, 6, 7, 8, 9, 10, 11, 12] rfl
    have hDc := hD.sub (ws' := wMdl cy m0 a (upd I 0 0) R) [0, 1, 2, 3, 4, 5, 6, 7, 8, 9, 10, 11, 12] (by decide) rfl
    have hFc := va_free (wc := wMdl cy m0 a (upd I 0 0) R) hD hS hA [0, 1, 2, 3, 4, 5, 6, 7, 8, 9, 10, 11, 12] rfl
    refine va_calli (va_runV (As := [.int 1]) (rest := []) ⟨hx, hb, hml, hown, hts⟩ (c_X5_fails l dC dI cy H.size m0 a (upd I 0 0) R 1  ) (cwV 1 hts gX5_slack_X5_fails rfl rfl rfl (by decide +kernel) ⟨Nat.le_of_ble_eq_true rfl, Nat.le_of_ble_eq_true rfl⟩) ⟨bl_in, va_recv hK hPc (ci := 5) (q0 := 0) rfl rfl, pr_in hPc hE hDc⟩ rfl rfl hl.1 rfl (lv_room (Nat.le_of_ble_eq_true rfl)) dX5_slack_16 ⟨Nat.le_of_ble_eq_true rfl, Nat.le_of_ble_eq_true rfl⟩) hS (fun q _ h => hFc q h) hFc (fun r u t H1 locs ht hvm hw hB hz1 hk1 hS => ?_)
    obtain rfl := hw
    obtain ⟨hP1, hD1⟩ := hB
    rw [ht] at hP1
    obtain ⟨hP, hD⟩ := va_join (wr := []) (w1 := wMdl cy m0 a (upd I 0 1) R) hP hD [0, 1, 2, 3, 4, 5, 6, 7, 8, 9, 10, 11, 12] [] rfl rfl (by decide) (by decide) hk1 hFc hP1 hD1
    have hP : va_P (dC, dI) vwCl (wMdl cy m0 a (upd I 0 1) R) H1 := hP.sub [0, 1, 2, 3, 4, 5, 6, 7, 8, 9, 10, 11, 12] rfl
    have hD : va_D A (wMdl cy m0 a (upd I 0 1) R) := hD.sub [0, 1, 2, 3, 4, 5, 6, 7, 8, 9, 10, 11, 12] (by decide) rfl
    clear hz1 hk1 hPc hDc hFc hP1 hD1
    generalize H1 = H at hP hS ⊢
    have hP9 : va_P (dC, dI) vwCl (wMdl cy m0 a (upd I 0 1) R) H := hP
    have hD9 : va_D A (wMdl cy m0 a (upd I 0 1) R) := hD
    exact W.iret (v := 0) hx hb hr (fun t ht hW => ⟨⟨0, (upd I 0 1), rfl, ⟨by rw [cM_no (mode_no (b10.mp c_11))], fun h => absurd ((cM_no (mode_no (b10.mp c_11))).symm.trans h) (by decide)⟩, by rw [ht]; exact hP9, hD9⟩, hS.F ht⟩) hS.2.2 dX5_slack_19
set_option maxHeartbeats 1000000 in
set_option maxRecDepth 100000 in
/-- tightest -/
theorem c_X5_tightest (l : Launch) (dC : Nat → ClassId) (dI : Nat → Nat → Nat) (cy : Nat → ClassId) (sz : Nat) (m0 : Nat) (a : Nat → Nat) (I : Nat → Int32) (R : vG) (n : Nat) (hn : n ≤ 8) (hS0 : R 1 0 = nI n) (hG : okG (Gs (R 1)) n) (p0 : Int32) : Met l yX5_tightest wsX5_tightest ({ frames := 5, cells := 0, slots := 0, locals := 119 }) (va_Pc [.ref m0, .int p0] (pIn dC dI cy (wMdl cy m0 a I R) sz)) (va_Qi (fun (r : Int32) (u : Nat → Int32) => u = upd I 0 (cM p0) ∧ (cM p0 = 0 → r = tgh (Gs (R 1)) n (R 1 1) p0)) (fun (u : Nat → Int32) t => va_P (dC, dI) vwCl (wMdl cy m0 a u R) t.heap ∧ va_D (va_A (wMdl cy m0 a I R) sz) (wMdl cy m0 a u R)) (va_A (wMdl cy m0 a I R) sz)) 0 0 (va_A (wMdl cy m0 a I R) sz) := by
  refine Met.ofW (cc := cX5_tightest) (maxL := 2) (ret := some .int) (by decide) rfl ?_
  intro p e s m args below meth c s₁ B hml hv
  obtain ⟨rfl, hsz, hP, hE, hD0⟩ := hv
  have hK := hE.1
  subst hsz
  have hD := hD0.self (sz := s.heap.size)
  generalize hAe : va_A (wMdl cy m0 a I R) s.heap.size = A at hD ⊢
  have hA : ∀ q : Nat, s.heap.size ≤ q → A q := fun q h => by rw [← hAe]; exact Or.inr h
  have hS : va_S A s.heap s.heap [] := va_S.rf
  have hP : va_P (dC, dI) vwCl (wMdl cy m0 a I R) s.heap := hP
  have hx := B.exec
  have hb := B.bytes
  have hr := B.returns
  have hts := atoms_spec (ws := wsX5_tightest) B.pre
  have hown : s.vm.findClass RX5 = some m.cls := findClass_of_methodNamed B.named
  have hlocks := B.notSynchronized
  have hin5 : ∀ w ∈ u_ws RX5 TX5 32, w ∈ wsX5_tightest := by decide +kernel
  have f_50 := hts (.fieldLink RX5 50 "DeadlineAdmissionModel" "thrown" "I") (by decide +kernel)
  have hl := lv_entry ([.ref m0, .int p0]) (n := 2) (Nat.le_of_ble_eq_true rfl)
  rw [lg_entry_eq]
  generalize (lg_sl ([.ref m0, .int p0]) ++ List.replicate (2 - (lg_sl ([.ref m0, .int p0])).length) Slot.unset).toArray = ls at hl ⊢
  have hl : lv_has ls 2 [(0, .ref m0), (1, .int p0)] := hl
  refine lv_aload_n hx hb dX5_tightest_0 rfl (lv_at hl 0 rfl) ?_
  refine lv_iconst (v := 0) hx hb dX5_tightest_1 (by decide) ?_
  refine va_put (D := (dC, dI)) (ci := 5) (v := .int 0) (ty := .int) (C := RX5) (T := TX5) (N := 32) hx hb hts hin5 tyX5 tyX5_ok nmX5 hown hK hP hD hS 0 rfl rfl 0 (by decide) f_50 (fun _ h9 => h9) rfl (by decide +kernel) rfl rfl (Nat.le_of_ble_eq_true rfl) dX5_tightest_2 (fun H locs hP hD hS => ?_)
  have hP : va_P (dC, dI) vwCl (wMdl cy m0 a (upd I 0 0) R) H := hP
  have hD : va_D A (wMdl cy m0 a (upd I 0 0) R) := hD
  refine lv_iload_n hx hb dX5_tightest_5 rfl (lv_at hl 1 rfl) ?_
  refine lv_iconst (v := 0) hx hb dX5_tightest_6 (by decide) ?_
  refine lv_iconst (v := 1) hx hb dX5_tightest_7 (by decide) ?_
  refine vp_callSi (va_runS (As := [.int p0, .int 0, .int 1]) (rest := []) ⟨hx, hb, hml, hown, hts⟩ (c_X5_in l p0 0 1) (cwS 3 hts gX5_tightest_X5_in rfl rfl rfl (by decide +kernel) ⟨Nat.le_of_ble_eq_true rfl, Nat.le_of_ble_eq_true rfl⟩) ⟨fun a U g mk q => q, fun U hU hW => ⟨rfl, trivial⟩⟩ rfl rfl hl.1 rfl (lv_room (Nat.le_of_ble_eq_true rfl)) dX5_tightest_8 ⟨Nat.le_of_ble_eq_true rfl, Nat.le_of_ble_eq_true rfl⟩).run (fun r e_r => ?_)
  subst e_r
  refine lv_topi (fun y_ ey_ => ?_)
  obtain rfl : y_ = if ¬ p0 < 0 ∧ ¬ 1 < p0 then 1 else 0 := ey_
  refine lv_if_eq (tgt := 22) hx hb dX5_tightest_11 (by decide) (fun c_11 => ?_) (fun c_11 => ?_)
  · refine lv_aload_n hx hb dX5_tightest_22 rfl (lv_at hl 0 rfl) ?_
    refine lv_iconst (v := 1) hx hb dX5_tightest_23 (by decide) ?_
    have hPc := hP.sub (ws' := wMdl cy m0 a (upd I 0 0) R) [0, 1, 2, 3, 4, 5, 6, 7, 8, 9, 10, 11, 12] rfl
    have hDc := hD.sub (ws' := wMdl cy m0 a (upd I 0 0) R) [0, 1, 2, 3, 4, 5, 6, 7, 8, 9, 10, 11, 12] (by decide) rfl
    have hFc := va_free (wc := wMdl cy m0 a (upd I 0 0) R) hD hS hA [0, 1, 2, 3, 4, 5, 6, 7, 8, 9, 10, 11, 12] rfl
    refine va_calli (va_runV (As := [.int 1]) (rest := []) ⟨hx, hb, hml, hown, hts⟩ (c_X5_fails l dC dI cy H.size m0 a (upd I 0 0) R 1  ) (cwV 1 hts gX5_tightest_X5_fails rfl rfl rfl (by decide +kernel) ⟨Nat.le_of_ble_eq_true rfl, Nat.le_of_ble_eq_true rfl⟩) ⟨bl_in, va_recv hK hPc (ci := 5) (q0 := 0) rfl rfl, pr_in hPc hE hDc⟩ rfl rfl hl.1 rfl (lv_room (Nat.le_of_ble_eq_true rfl)) dX5_tightest_24 ⟨Nat.le_of_ble_eq_true rfl, Nat.le_of_ble_eq_true rfl⟩) hS (fun q _ h => hFc q h) hFc (fun r u t H1 locs ht hvm hw hB hz1 hk1 hS => ?_)
    obtain rfl := hw
    obtain ⟨hP1, hD1⟩ := hB
    rw [ht] at hP1
    obtain ⟨hP, hD⟩ := va_join (wr := []) (w1 := wMdl cy m0 a (upd I 0 1) R) hP hD [0, 1, 2, 3, 4, 5, 6, 7, 8, 9, 10, 11, 12] [] rfl rfl (by decide) (by decide) hk1 hFc hP1 hD1
    have hP : va_P (dC, dI) vwCl (wMdl cy m0 a (upd I 0 1) R) H1 := hP.sub [0, 1, 2, 3, 4, 5, 6, 7, 8, 9, 10, 11, 12] rfl
    have hD : va_D A (wMdl cy m0 a (upd I 0 1) R) := hD.sub [0, 1, 2, 3, 4, 5, 6, 7, 8, 9, 10, 11, 12] (by decide) rfl
    clear hz1 hk1 hPc hDc hFc hP1 hD1
    generalize H1 = H at hP hS ⊢
    have hP9 : va_P (dC, dI) vwCl (wMdl cy m0 a (upd I 0 1) R) H := hP
    have hD9 : va_D A (wMdl cy m0 a (upd I 0 1) R) := hD
    exact W.iret (v := 0) hx hb hr (fun t ht hW => ⟨⟨0, (upd I 0 1), rfl, ⟨by rw [cM_no (mode_no (b10.mp c_11))], fun h => absurd ((cM_no (mode_no (b10.mp c_11))).symm.trans h) (by decide)⟩, by rw [ht]; exact hP9, hD9⟩, hS.F ht⟩) hS.2.2 dX5_tightest_27
  · refine lv_aload_n hx hb dX5_tightest_14 rfl (lv_at hl 0 rfl) ?_
    refine lv_iload_n hx hb dX5_tightest_15 rfl (lv_at hl 1 rfl) ?_
    refine vp_callSi (va_runV (As := [.int p0]) (rest := []) ⟨hx, hb, hml, hown, hts⟩ (c_X5_tightestOf l dC dI cy m0 a (upd I 0 0) R n hn hS0 hG p0 (mode_of (nb10 c_11))) (cwV 1 hts gX5_tightest_X5_tightestOf rfl rfl rfl (by decide +kernel) ⟨Nat.le_of_ble_eq_true rfl, Nat.le_of_ble_eq_true rfl⟩) ⟨bl_ro, va_recv hK hP (ci := 5) (q0 := 0) rfl rfl, pr_ro hP hE⟩ rfl rfl hl.1 rfl (lv_room (Nat.le_of_ble_eq_true rfl)) dX5_tightest_16 ⟨Nat.le_of_ble_eq_true rfl, Nat.le_of_ble_eq_true rfl⟩).run (fun r e_r => ?_)
    subst e_r
    refine lv_topi (fun y_ ey_ => ?_)
    obtain rfl : y_ = tgh (Gs (R 1)) n ((R 1) 1) p0 := ey_
    refine lv_goto (tgt := 27) hx hb dX5_tightest_19 (by decide) ?_
    have hP9 : va_P (dC, dI) vwCl (wMdl cy m0 a (upd I 0 0) R) H := hP
    have hD9 : va_D A (wMdl cy m0 a (upd I 0 0) R) := hD
    exact W.iret (v := tgh (Gs (R 1)) n ((R 1) 1) p0) hx hb hr (fun t ht hW => ⟨⟨tgh (Gs (R 1)) n ((R 1) 1) p0, (upd I 0 0), rfl, ⟨by rw [cM_ok (mode_of (nb10 c_11))], fun _ => rfl⟩, by rw [ht]; exact hP9, hD9⟩, hS.F ht⟩) hS.2.2 dX5_tightest_27
set_option maxHeartbeats 1000000 in
set_option maxRecDepth 100000 in
/-- of the latest rejection -/
theorem c_X5_ofRejection (l : Launch) (dC : Nat → ClassId) (dI : Nat → Nat → Nat) (cy : Nat → ClassId) (sz : Nat) (m0 : Nat) (a : Nat → Nat) (I : Nat → Int32) (R : vG) (p0 : Int32) : Met l yX5_ofRejection wsX5_ofRejection ({ frames := 0, cells := 0, slots := 0, locals := 0 }) (va_Pc [.ref m0, .int p0] (pIn dC dI cy (wMdl cy m0 a I R) sz)) (va_Qi (fun (r : Int32) (u : Nat → Int32) => u = upd I 0 (c01 (I 10)) ∧ (c01 (I 10) = 0 → r = p0)) (fun (u : Nat → Int32) t => va_P (dC, dI) vwCl (wMdl cy m0 a u R) t.heap ∧ va_D (va_A (wMdl cy m0 a I R) sz) (wMdl cy m0 a u R)) (va_A (wMdl cy m0 a I R) sz)) 0 0 (va_A (wMdl cy m0 a I R) sz) := by
  refine Met.ofW (cc := cX5_ofRejection) (maxL := 2) (ret := some .int) (by decide) rfl ?_
  intro p e s m args below meth c s₁ B hml hv
  obtain ⟨rfl, hsz, hP, hE, hD0⟩ := hv
  have hK := hE.1
  subst hsz
  have hD := hD0.self (sz := s.heap.size)
  generalize hAe : va_A (wMdl cy m0 a I R) s.heap.size = A at hD ⊢
  have hA : ∀ q : Nat, s.heap.size ≤ q → A q := fun q h => by rw [← hAe]; exact Or.inr h
  have hS : va_S A s.heap s.heap [] := va_S.rf
  have hP : va_P (dC, dI) vwCl (wMdl cy m0 a I R) s.heap := hP
  have hx := B.exec
  have hb := B.bytes
  have hr := B.returns
  have hts := atoms_spec (ws := wsX5_ofRejection) B.pre
  have hown : s.vm.findClass RX5 = some m.cls := findClass_of_methodNamed B.named
  have hlocks := B.notSynchronized
  have hin5 : ∀ w ∈ u_ws RX5 TX5 32, w ∈ wsX5_ofRejection := by decide +kernel
  have f_50 := hts (.fieldLink RX5 50 "DeadlineAdmissionModel" "thrown" "I") (by decide +kernel)
  have f_88 := hts (.fieldLink RX5 88 "DeadlineAdmissionModel" "wasRejected" "Z") (by decide +kernel)
  have hl := lv_entry ([.ref m0, .int p0]) (n := 2) (Nat.le_of_ble_eq_true rfl)
  rw [lg_entry_eq]
  generalize (lg_sl ([.ref m0, .int p0]) ++ List.replicate (2 - (lg_sl ([.ref m0, .int p0])).length) Slot.unset).toArray = ls at hl ⊢
  have hl : lv_has ls 2 [(0, .ref m0), (1, .int p0)] := hl
  refine lv_aload_n hx hb dX5_ofRejection_0 rfl (lv_at hl 0 rfl) ?_
  refine lv_aload_n hx hb dX5_ofRejection_1 rfl (lv_at hl 0 rfl) ?_
  refine va_get (D := (dC, dI)) (ci := 5) (v := .int (I 10)) (C := RX5) (T := TX5) (N := 32) hx hb hts hin5 hown hK hP 0 rfl rfl 10 (by decide) f_88 (fun _ h9 => h9) rfl dX5_ofRejection_2 ?_
  refine lv_if_eq (tgt := 12) hx hb dX5_ofRejection_5 (by decide) (fun c_5 => ?_) (fun c_5 => ?_)
  · refine lv_iconst (v := 1) hx hb dX5_ofRejection_12 (by decide) ?_
    refine va_put (D := (dC, dI)) (ci := 5) (v := .int 1) (ty := .int) (C := RX5) (T := TX5) (N := 32) hx hb hts hin5 tyX5 tyX5_ok nmX5 hown hK hP hD hS 0 rfl rfl 0 (by decide) f_50 (fun _ h9 => h9) rfl (by decide +kernel) rfl rfl (Nat.le_of_ble_eq_true rfl) dX5_ofRejection_13 (fun H locs hP hD hS => ?_)
    have hP : va_P (dC, dI) vwCl (wMdl cy m0 a (upd I 0 1) R) H := hP
    have hD : va_D A (wMdl cy m0 a (upd I 0 1) R) := hD
    refine lv_aload_n hx hb dX5_ofRejection_16 rfl (lv_at hl 0 rfl) ?_
    refine va_get (D := (dC, dI)) (ci := 5) (v := .int (I 10)) (C := RX5) (T := TX5) (N := 32) hx hb hts hin5 hown hK hP 0 rfl rfl 10 (by decide) f_88 (fun _ h9 => h9) rfl dX5_ofRejection_17 ?_
    refine lv_if_eq (tgt := 27) hx hb dX5_ofRejection_20 (by decide) (fun c_20 => ?_) (fun h0 => absurd c_5 h0)
    refine lv_iconst (v := 0) hx hb dX5_ofRejection_27 (by decide) ?_
    have hP9 : va_P (dC, dI) vwCl (wMdl cy m0 a (upd I 0 1) R) H := hP
    have hD9 : va_D A (wMdl cy m0 a (upd I 0 1) R) := hD
    exact W.iret (v := 0) hx hb hr (fun t ht hW => ⟨⟨0, (upd I 0 1), rfl, ⟨by rw [c01, if_pos c_5], fun h => absurd ((if_pos c_5).symm.trans h) (by decide)⟩, by rw [ht]; exact hP9, hD9⟩, hS.F ht⟩) hS.2.2 dX5_ofRejection_28
  · refine lv_iconst (v := 0) hx hb dX5_ofRejection_8 (by decide) ?_
    refine lv_goto (tgt := 13) hx hb dX5_ofRejection_9 (by decide) ?_
    refine va_put (D := (dC, dI)) (ci := 5) (v := .int 0) (ty := .int) (C := RX5) (T := TX5) (N := 32) hx hb hts hin5 tyX5 tyX5_ok nmX5 hown hK hP hD hS 0 rfl rfl 0 (by decide) f_50 (fun _ h9 => h9) rfl (by decide +kernel) rfl rfl (Nat.le_of_ble_eq_true rfl) dX5_ofRejection_13 (fun H locs hP hD hS => ?_)
    have hP : va_P (dC, dI) vwCl (wMdl cy m0 a (upd I 0 0) R) H := hP
    have hD : va_D A (wMdl cy m0 a (upd I 0 0) R) := hD
    refine lv_aload_n hx hb dX5_ofRejection_16 rfl (lv_at hl 0 rfl) ?_
    refine va_get (D := (dC, dI)) (ci := 5) (v := .int (I 10)) (C := RX5) (T := TX5) (N := 32) hx hb hts hin5 hown hK hP 0 rfl rfl 10 (by decide) f_88 (fun _ h9 => h9) rfl dX5_ofRejection_17 ?_
    refine lv_if_eq (tgt := 27) hx hb dX5_ofRejection_20 (by decide) (fun h0 => absurd h0 c_5) (fun c_20 => ?_)
    refine lv_iload_n hx hb dX5_ofRejection_23 rfl (lv_at hl 1 rfl) ?_
    refine lv_goto (tgt := 28) hx hb dX5_ofRejection_24 (by decide) ?_
    have hP9 : va_P (dC, dI) vwCl (wMdl cy m0 a (upd I 0 0) R) H := hP
    have hD9 : va_D A (wMdl cy m0 a (upd I 0 0) R) := hD
    exact W.iret (v := p0) hx hb hr (fun t ht hW => ⟨⟨p0, (upd I 0 0), rfl, ⟨by rw [c01, if_neg c_5], fun _ => rfl⟩, by rw [ht]; exact hP9, hD9⟩, hS.F ht⟩) hS.2.2 dX5_ofRejection_28
set_option maxHeartbeats 1000000 in
set_option maxRecDepth 100000 in
/-- of the latest simulation -/
theorem c_X5_ofSimulation (l : Launch) (dC : Nat → ClassId) (dI : Nat → Nat → Nat) (cy : Nat → ClassId) (sz : Nat) (m0 : Nat) (a : Nat → Nat) (I : Nat → Int32) (R : vG) (p0 : Int32) : Met l yX5_ofSimulation wsX5_ofSimulation ({ frames := 0, cells := 0, slots := 0, locals := 0 }) (va_Pc [.ref m0, .int p0] (pIn dC dI cy (wMdl cy m0 a I R) sz)) (va_Qi (fun (r : Int32) (u : Nat → Int32) => u = upd I 0 (c01 (I 14)) ∧ (c01 (I 14) = 0 → r = p0)) (fun (u : Nat → Int32) t => va_P (dC, dI) vwCl (wMdl cy m0 a u R) t.heap ∧ va_D (va_A (wMdl cy m0 a I R) sz) (wMdl cy m0 a u R)) (va_A (wMdl cy m0 a I R) sz)) 0 0 (va_A (wMdl cy m0 a I R) sz) := by
  refine Met.ofW (cc := cX5_ofSimulation) (maxL := 2) (ret := some .int) (by decide) rfl ?_
  intro p e s m args below meth c s₁ B hml hv
  obtain ⟨rfl, hsz, hP, hE, hD0⟩ := hv
  have hK := hE.1
  subst hsz
  have hD := hD0.self (sz := s.heap.size)
  generalize hAe : va_A (wMdl cy m0 a I R) s.heap.size = A at hD ⊢
  have hA : ∀ q : Nat, s.heap.size ≤ q → A q := fun q h => by rw [← hAe]; exact Or.inr h
  have hS : va_S A s.heap s.heap [] := va_S.rf
  have hP : va_P (dC, dI) vwCl (wMdl cy m0 a I R) s.heap := hP
  have hx := B.exec
  have hb := B.bytes
  have hr := B.returns
  have hts := atoms_spec (ws := wsX5_ofSimulation) B.pre
  have hown : s.vm.findClass RX5 = some m.cls := findClass_of_methodNamed B.named
  have hlocks := B.notSynchronized
  have hin5 : ∀ w ∈ u_ws RX5 TX5 32, w ∈ wsX5_ofSimulation := by decide +kernel
  have f_50 := hts (.fieldLink RX5 50 "DeadlineAdmissionModel" "thrown" "I") (by decide +kernel)
  have f_60 := hts (.fieldLink RX5 60 "DeadlineAdmissionModel" "isSimulated" "Z") (by decide +kernel)
  have hl := lv_entry ([.ref m0, .int p0]) (n := 2) (Nat.le_of_ble_eq_true rfl)
  rw [lg_entry_eq]
  generalize (lg_sl ([.ref m0, .int p0]) ++ List.replicate (2 - (lg_sl ([.ref m0, .int p0])).length) Slot.unset).toArray = ls at hl ⊢
  have hl : lv_has ls 2 [(0, .ref m0), (1, .int p0)] := hl
  refine lv_aload_n hx hb dX5_ofSimulation_0 rfl (lv_at hl 0 rfl) ?_
  refine lv_aload_n hx hb dX5_ofSimulation_1 rfl (lv_at hl 0 rfl) ?_
  refine va_get (D := (dC, dI)) (ci := 5) (v := .int (I 14)) (C := RX5) (T := TX5) (N := 32) hx hb hts hin5 hown hK hP 0 rfl rfl 14 (by decide) f_60 (fun _ h9 => h9) rfl dX5_ofSimulation_2 ?_
  refine lv_if_eq (tgt := 12) hx hb dX5_ofSimulation_5 (by decide) (fun c_5 => ?_) (fun c_5 => ?_)
  · refine lv_iconst (v := 1) hx hb dX5_ofSimulation_12 (by decide) ?_
    refine va_put (D := (dC, dI)) (ci := 5) (v := .int 1) (ty := .int) (C := RX5) (T := TX5) (N := 32) hx hb hts hin5 tyX5 tyX5_ok nmX5 hown hK hP hD hS 0 rfl rfl 0 (by decide) f_50 (fun _ h9 => h9) rfl (by decide +kernel) rfl rfl (Nat.le_of_ble_eq_true rfl) dX5_ofSimulation_13 (fun H locs hP hD hS => ?_)
    have hP : va_P (dC, dI) vwCl (wMdl cy m0 a (upd I 0 1) R) H := hP
    have hD : va_D A (wMdl cy m0 a (upd I 0 1) R) := hD
    refine lv_aload_n hx hb dX5_ofSimulation_16 rfl (lv_at hl 0 rfl) ?_
    refine va_get (D := (dC, dI)) (ci := 5) (v := .int (I 14)) (C := RX5) (T := TX5) (N := 32) hx hb hts hin5 hown hK hP 0 rfl rfl 14 (by decide) f_60 (fun _ h9 => h9) rfl dX5_ofSimulation_17 ?_
    refine lv_if_eq (tgt := 27) hx hb dX5_ofSimulation_20 (by decide) (fun c_20 => ?_) (fun h0 => absurd c_5 h0)
    refine lv_iconst (v := 0) hx hb dX5_ofSimulation_27 (by decide) ?_
    have hP9 : va_P (dC, dI) vwCl (wMdl cy m0 a (upd I 0 1) R) H := hP
    have hD9 : va_D A (wMdl cy m0 a (upd I 0 1) R) := hD
    exact W.iret (v := 0) hx hb hr (fun t ht hW => ⟨⟨0, (upd I 0 1), rfl, ⟨by rw [c01, if_pos c_5], fun h => absurd ((if_pos c_5).symm.trans h) (by decide)⟩, by rw [ht]; exact hP9, hD9⟩, hS.F ht⟩) hS.2.2 dX5_ofSimulation_28
  · refine lv_iconst (v := 0) hx hb dX5_ofSimulation_8 (by decide) ?_
    refine lv_goto (tgt := 13) hx hb dX5_ofSimulation_9 (by decide) ?_
    refine va_put (D := (dC, dI)) (ci := 5) (v := .int 0) (ty := .int) (C := RX5) (T := TX5) (N := 32) hx hb hts hin5 tyX5 tyX5_ok nmX5 hown hK hP hD hS 0 rfl rfl 0 (by decide) f_50 (fun _ h9 => h9) rfl (by decide +kernel) rfl rfl (Nat.le_of_ble_eq_true rfl) dX5_ofSimulation_13 (fun H locs hP hD hS => ?_)
    have hP : va_P (dC, dI) vwCl (wMdl cy m0 a (upd I 0 0) R) H := hP
    have hD : va_D A (wMdl cy m0 a (upd I 0 0) R) := hD
    refine lv_aload_n hx hb dX5_ofSimulation_16 rfl (lv_at hl 0 rfl) ?_
    refine va_get (D := (dC, dI)) (ci := 5) (v := .int (I 14)) (C := RX5) (T := TX5) (N := 32) hx hb hts hin5 hown hK hP 0 rfl rfl 14 (by decide) f_60 (fun _ h9 => h9) rfl dX5_ofSimulation_17 ?_
    refine lv_if_eq (tgt := 27) hx hb dX5_ofSimulation_20 (by decide) (fun h0 => absurd h0 c_5) (fun c_20 => ?_)
    refine lv_iload_n hx hb dX5_ofSimulation_23 rfl (lv_at hl 1 rfl) ?_
    refine lv_goto (tgt := 28) hx hb dX5_ofSimulation_24 (by decide) ?_
    have hP9 : va_P (dC, dI) vwCl (wMdl cy m0 a (upd I 0 0) R) H := hP
    have hD9 : va_D A (wMdl cy m0 a (upd I 0 0) R) := hD
    exact W.iret (v := p0) hx hb hr (fun t ht hW => ⟨⟨p0, (upd I 0 0), rfl, ⟨by rw [c01, if_neg c_5], fun _ => rfl⟩, by rw [ht]; exact hP9, hD9⟩, hS.F ht⟩) hS.2.2 dX5_ofSimulation_28
set_option maxHeartbeats 1000000 in
set_option maxRecDepth 100000 in
/-- rejectionMode -/
theorem c_X5_rejectionMode (l : Launch) (dC : Nat → ClassId) (dI : Nat → Nat → Nat) (cy : Nat → ClassId) (sz : Nat) (m0 : Nat) (a : Nat → Nat) (I : Nat → Int32) (R : vG) : Met l yX5_rejectionMode wsX5_rejectionMode ({ frames := 1, cells := 0, slots := 0, locals := 21 }) (va_Pc [.ref m0] (pIn dC dI cy (wMdl cy m0 a I R) sz)) (va_Qi (fun (r : Int32) (u : Nat → Int32) => u = upd I 0 (c01 (I 10)) ∧ (c01 (I 10) = 0 → r = I 11)) (fun (u : Nat → Int32) t => va_P (dC, dI) vwCl (wMdl cy m0 a u R) t.heap ∧ va_D (va_A (wMdl cy m0 a I R) sz) (wMdl cy m0 a u R)) (va_A (wMdl cy m0 a I R) sz)) 0 0 (va_A (wMdl cy m0 a I R) sz) := by
  refine Met.ofW (cc := cX5_rejectionMode) (maxL := 1) (ret := some .int) (by decide) rfl ?_
  intro p e s m args below meth c s₁ B hml hv
  obtain ⟨rfl, hsz, hP, hE, hD0⟩ := hv
  have hK := hE.1
  subst hsz
  have hD := hD0.self (sz := s.heap.size)
  generalize hAe : va_A (wMdl cy m0 a I R) s.heap.size = A at hD ⊢
  have hA : ∀ q : Nat, s.heap.size ≤ q → A q := fun q h => by rw [← hAe]; exact Or.inr h
  have hS : va_S A s.heap s.heap [] := va_S.rf
  have hP : va_P (dC, dI) vwCl (wMdl cy m0 a I R) s.heap := hP
  have hx := B.exec
  have hb := B.bytes
  have hr := B.returns
  have hts := atoms_spec (ws := wsX5_rejectionMode) B.pre
  have hown : s.vm.findClass RX5 = some m.cls := findClass_of_methodNamed B.named
  have hlocks := B.notSynchronized
  have hin5 : ∀ w ∈ u_ws RX5 TX5 32, w ∈ wsX5_rejectionMode := by decide +kernel
  have f_91 := hts (.fieldLink RX5 91 "DeadlineAdmissionModel" "rejectedMode" "I") (by decide +kernel)
  have hl := lv_entry ([.ref m0]) (n := 1) (Nat.le_of_ble_eq_true rfl)
  rw [lg_entry_eq]
  generalize (lg_sl ([.ref m0]) ++ List.replicate (1 - (lg_sl ([.ref m0])).length) Slot.unset).toArray = ls at hl ⊢
  have hl : lv_has ls 1 [(0, .ref m0)] := hl
  refine lv_aload_n hx hb dX5_rejectionMode_0 rfl (lv_at hl 0 rfl) ?_
  refine lv_aload_n hx hb dX5_rejectionMode_1 rfl (lv_at hl 0 rfl) ?_
  refine va_get (D := (dC, dI)) (ci := 5) (v := .int (I 11)) (C := RX5) (T := TX5) (N := 32) hx hb hts hin5 hown hK hP 0 rfl rfl 11 (by decide) f_91 (fun _ h9 => h9) rfl dX5_rejectionMode_2 ?_
  have hPc := hP.sub (ws' := wMdl cy m0 a I R) [0, 1, 2, 3, 4, 5, 6, 7, 8, 9, 10, 11, 12] rfl
  have hDc := hD.sub (ws' := wMdl cy m0 a I R) [0, 1, 2, 3, 4, 5, 6, 7, 8, 9, 10, 11, 12] (by decide) rfl
  have hFc := va_free (wc := wMdl cy m0 a I R) hD hS hA [0, 1, 2, 3, 4, 5, 6, 7, 8, 9, 10, 11, 12] rfl
  refine va_calli (va_runV (As := [.int (I 11)]) (rest := []) ⟨hx, hb, hml, hown, hts⟩ (c_X5_ofRejection l dC dI cy s.heap.size m0 a I R (I 11)  ) (cwV 1 hts gX5_rejectionMode_X5_ofRejection rfl rfl rfl (by decide +kernel) ⟨Nat.le_of_ble_eq_true rfl, Nat.le_of_ble_eq_true rfl⟩) ⟨bl_in, va_recv hK hPc (ci := 5) (q0 := 0) rfl rfl, pr_in hPc hE hDc⟩ rfl rfl hl.1 rfl (lv_room (Nat.le_of_ble_eq_true rfl)) dX5_rejectionMode_5 ⟨Nat.le_of_ble_eq_true rfl, Nat.le_of_ble_eq_true rfl⟩) hS (fun q _ h => hFc q h) hFc (fun r u t H1 locs ht hvm hw hB hz1 hk1 hS => ?_)
  obtain ⟨r5, rfl⟩ : ∃ z, z = r := ⟨_, rfl⟩
  obtain ⟨rfl, hw5⟩ := hw
  obtain ⟨hP1, hD1⟩ := hB
  rw [ht] at hP1
  obtain ⟨hP, hD⟩ := va_join (wr := []) (w1 := wMdl cy m0 a (upd I 0 (c01 (I 10))) R) hP hD [0, 1, 2, 3, 4, 5, 6, 7, 8, 9, 10, 11, 12] [] rfl rfl (by decide) (by decide) hk1 hFc hP1 hD1
  have hP : va_P (dC, dI) vwCl (wMdl cy m0 a (upd I 0 (c01 (I 10))) R) H1 := hP.sub [0, 1, 2, 3, 4, 5, 6, 7, 8, 9, 10, 11, 12] rfl
  have hD : va_D A (wMdl cy m0 a (upd I 0 (c01 (I 10))) R) := hD.sub [0, 1, 2, 3, 4, 5, 6, 7, 8, 9, 10, 11, 12] (by decide) rfl
  clear hz1 hk1 hPc hDc hFc hP1 hD1
  generalize H1 = H at hP hS ⊢
  have hP9 : va_P (dC, dI) vwCl (wMdl cy m0 a (upd I 0 (c01 (I 10))) R) H := hP
  have hD9 : va_D A (wMdl cy m0 a (upd I 0 (c01 (I 10))) R) := hD
  exact W.iret (v := r5) hx hb hr (fun t ht hW => ⟨⟨r5, (upd I 0 (c01 (I 10))), rfl, ⟨rfl, hw5⟩, by rw [ht]; exact hP9, hD9⟩, hS.F ht⟩) hS.2.2 dX5_rejectionMode_8
set_option maxHeartbeats 1000000 in
set_option maxRecDepth 100000 in
/-- rejectionLength -/
theorem c_X5_rejectionLength (l : Launch) (dC : Nat → ClassId) (dI : Nat → Nat → Nat) (cy : Nat → ClassId) (sz : Nat) (m0 : Nat) (a : Nat → Nat) (I : Nat → Int32) (R : vG) : Met l yX5_rejectionLength wsX5_rejectionLength ({ frames := 1, cells := 0, slots := 0, locals := 21 }) (va_Pc [.ref m0] (pIn dC dI cy (wMdl cy m0 a I R) sz)) (va_Qi (fun (r : Int32) (u : Nat → Int32) => u = upd I 0 (c01 (I 10)) ∧ (c01 (I 10) = 0 → r = I 12)) (fun (u : Nat → Int32) t => va_P (dC, dI) vwCl (wMdl cy m0 a u R) t.heap ∧ va_D (va_A (wMdl cy m0 a I R) sz) (wMdl cy m0 a u R)) (va_A (wMdl cy m0 a I R) sz)) 0 0 (va_A (wMdl cy m0 a I R) sz) := by
  refine Met.ofW (cc := cX5_rejectionLength) (maxL := 1) (ret := some .int) (by decide) rfl ?_
  intro p e s m args below meth c s₁ B hml hv
  obtain ⟨rfl, hsz, hP, hE, hD0⟩ := hv
  have hK := hE.1
  subst hsz
  have hD := hD0.self (sz := s.heap.size)
  generalize hAe : va_A (wMdl cy m0 a I R) s.heap.size = A at hD ⊢
  have hA : ∀ q : Nat, s.heap.size ≤ q → A q := fun q h => by rw [← hAe]; exact Or.inr h
  have hS : va_S A s.heap s.heap [] := va_S.rf
  have hP : va_P (dC, dI) vwCl (wMdl cy m0 a I R) s.heap := hP
  have hx := B.exec
  have hb := B.bytes
  have hr := B.returns
  have hts := atoms_spec (ws := wsX5_rejectionLength) B.pre
  have hown : s.vm.findClass RX5 = some m.cls := findClass_of_methodNamed B.named
  have hlocks := B.notSynchronized
  have hin5 : ∀ w ∈ u_ws RX5 TX5 32, w ∈ wsX5_rejectionLength := by decide +kernel
  have f_94 := hts (.fieldLink RX5 94 "DeadlineAdmissionModel" "rejectedLength" "I") (by decide +kernel)
  have hl := lv_entry ([.ref m0]) (n := 1) (Nat.le_of_ble_eq_true rfl)
  rw [lg_entry_eq]
  generalize (lg_sl ([.ref m0]) ++ List.replicate (1 - (lg_sl ([.ref m0])).length) Slot.unset).toArray = ls at hl ⊢
  have hl : lv_has ls 1 [(0, .ref m0)] := hl
  refine lv_aload_n hx hb dX5_rejectionLength_0 rfl (lv_at hl 0 rfl) ?_
  refine lv_aload_n hx hb dX5_rejectionLength_1 rfl (lv_at hl 0 rfl) ?_
  refine va_get (D := (dC, dI)) (ci := 5) (v := .int (I 12)) (C := RX5) (T := TX5) (N := 32) hx hb hts hin5 hown hK hP 0 rfl rfl 12 (by decide) f_94 (fun _ h9 => h9) rfl dX5_rejectionLength_2 ?_
  have hPc := hP.sub (ws' := wMdl cy m0 a I R) [0, 1, 2, 3, 4, 5, 6, 7, 8, 9, 10, 11, 12] rfl
  have hDc := hD.sub (ws' := wMdl cy m0 a I R) [0, 1, 2, 3, 4, 5, 6, 7, 8, 9, 10, 11, 12] (by decide) rfl
  have hFc := va_free (wc := wMdl cy m0 a I R) hD hS hA [0, 1, 2, 3, 4, 5, 6, 7, 8, 9, 10, 11, 12] rfl
  refine va_calli (va_runV (As := [.int (I 12)]) (rest := []) ⟨hx, hb, hml, hown, hts⟩ (c_X5_ofRejection l dC dI cy s.heap.size m0 a I R (I 12)  ) (cwV 1 hts gX5_rejectionLength_X5_ofRejection rfl rfl rfl (by decide +kernel) ⟨Nat.le_of_ble_eq_true rfl, Nat.le_of_ble_eq_true rfl⟩) ⟨bl_in, va_recv hK hPc (ci := 5) (q0 := 0) rfl rfl, pr_in hPc hE hDc⟩ rfl rfl hl.1 rfl (lv_room (Nat.le_of_ble_eq_true rfl)) dX5_rejectionLength_5 ⟨Nat.le_of_ble_eq_true rfl, Nat.le_of_ble_eq_true rfl⟩) hS (fun q _ h => hFc q h) hFc (fun r u t H1 locs ht hvm hw hB hz1 hk1 hS => ?_)
  obtain ⟨r5, rfl⟩ : ∃ z, z = r := ⟨_, rfl⟩
  obtain ⟨rfl, hw5⟩ := hw
  obtain ⟨hP1, hD1⟩ := hB
  rw [ht] at hP1
  obtain ⟨hP, hD⟩ := va_join (wr := []) (w1 := wMdl cy m0 a (upd I 0 (c01 (I 10))) R) hP hD [0, 1, 2, 3, 4, 5, 6, 7, 8, 9, 10, 11, 12] [] rfl rfl (by decide) (by decide) hk1 hFc hP1 hD1
  have hP : va_P (dC, dI) vwCl (wMdl cy m0 a (upd I 0 (c01 (I 10))) R) H1 := hP.sub [0, 1, 2, 3, 4, 5, 6, 7, 8, 9, 10, 11, 12] rfl
  have hD : va_D A (wMdl cy m0 a (upd I 0 (c01 (I 10))) R) := hD.sub [0, 1, 2, 3, 4, 5, 6, 7, 8, 9, 10, 11, 12] (by decide) rfl
  clear hz1 hk1 hPc hDc hFc hP1 hD1
  generalize H1 = H at hP hS ⊢
  have hP9 : va_P (dC, dI) vwCl (wMdl cy m0 a (upd I 0 (c01 (I 10))) R) H := hP
  have hD9 : va_D A (wMdl cy m0 a (upd I 0 (c01 (I 10))) R) := hD
  exact W.iret (v := r5) hx hb hr (fun t ht hW => ⟨⟨r5, (upd I 0 (c01 (I 10))), rfl, ⟨rfl, hw5⟩, by rw [ht]; exact hP9, hD9⟩, hS.F ht⟩) hS.2.2 dX5_rejectionLength_8
set_option maxHeartbeats 1000000 in
set_option maxRecDepth 100000 in
/-- rejectionDemand -/
theorem c_X5_rejectionDemand (l : Launch) (dC : Nat → ClassId) (dI : Nat → Nat → Nat) (cy : Nat → ClassId) (sz : Nat) (m0 : Nat) (a : Nat → Nat) (I : Nat → Int32) (R : vG) : Met l yX5_rejectionDemand wsX5_rejectionDemand ({ frames := 1, cells := 0, slots := 0, locals := 21 }) (va_Pc [.ref m0] (pIn dC dI cy (wMdl cy m0 a I R) sz)) (va_Qi (fun (r : Int32) (u : Nat → Int32) => u = upd I 0 (c01 (I 10)) ∧ (c01 (I 10) = 0 → r = I 13)) (fun (u : Nat → Int32) t => va_P (dC, dI) vwCl (wMdl cy m0 a u R) t.heap ∧ va_D (va_A (wMdl cy m0 a I R) sz) (wMdl cy m0 a u R)) (va_A (wMdl cy m0 a I R) sz)) 0 0 (va_A (wMdl cy m0 a I R) sz) := by
  refine Met.ofW (cc := cX5_rejectionDemand) (maxL := 1) (ret := some .int) (by decide) rfl ?_
  intro p e s m args below meth c s₁ B hml hv
  obtain ⟨rfl, hsz, hP, hE, hD0⟩ := hv
  have hK := hE.1
  subst hsz
  have hD := hD0.self (sz := s.heap.size)
  generalize hAe : va_A (wMdl cy m0 a I R) s.heap.size = A at hD ⊢
  have hA : ∀ q : Nat, s.heap.size ≤ q → A q := fun q h => by rw [← hAe]; exact Or.inr h
  have hS : va_S A s.heap s.heap [] := va_S.rf
  have hP : va_P (dC, dI) vwCl (wMdl cy m0 a I R) s.heap := hP
  have hx := B.exec
  have hb := B.bytes
  have hr := B.returns
  have hts := atoms_spec (ws := wsX5_rejectionDemand) B.pre
  have hown : s.vm.findClass RX5 = some m.cls := findClass_of_methodNamed B.named
  have hlocks := B.notSynchronized
  have hin5 : ∀ w ∈ u_ws RX5 TX5 32, w ∈ wsX5_rejectionDemand := by decide +kernel
  have f_97 := hts (.fieldLink RX5 97 "DeadlineAdmissionModel" "rejectedDemand" "I") (by decide +kernel)
  have hl := lv_entry ([.ref m0]) (n := 1) (Nat.le_of_ble_eq_true rfl)
  rw [lg_entry_eq]
  generalize (lg_sl ([.ref m0]) ++ List.replicate (1 - (lg_sl ([.ref m0])).length) Slot.unset).toArray = ls at hl ⊢
  have hl : lv_has ls 1 [(0, .ref m0)] := hl
  refine lv_aload_n hx hb dX5_rejectionDemand_0 rfl (lv_at hl 0 rfl) ?_
  refine lv_aload_n hx hb dX5_rejectionDemand_1 rfl (lv_at hl 0 rfl) ?_
  refine va_get (D := (dC, dI)) (ci := 5) (v := .int (I 13)) (C := RX5) (T := TX5) (N := 32) hx hb hts hin5 hown hK hP 0 rfl rfl 13 (by decide) f_97 (fun _ h9 => h9) rfl dX5_rejectionDemand_2 ?_
  have hPc := hP.sub (ws' := wMdl cy m0 a I R) [0, 1, 2, 3, 4, 5, 6, 7, 8, 9, 10, 11, 12] rfl
  have hDc := hD.sub (ws' := wMdl cy m0 a I R) [0, 1, 2, 3, 4, 5, 6, 7, 8, 9, 10, 11, 12] (by decide) rfl
  have hFc := va_free (wc := wMdl cy m0 a I R) hD hS hA [0, 1, 2, 3, 4, 5, 6, 7, 8, 9, 10, 11, 12] rfl
  refine va_calli (va_runV (As := [.int (I 13)]) (rest := []) ⟨hx, hb, hml, hown, hts⟩ (c_X5_ofRejection l dC dI cy s.heap.size m0 a I R (I 13)  ) (cwV 1 hts gX5_rejectionDemand_X5_ofRejection rfl rfl rfl (by decide +kernel) ⟨Nat.le_of_ble_eq_true rfl, Nat.le_of_ble_eq_true rfl⟩) ⟨bl_in, va_recv hK hPc (ci := 5) (q0 := 0) rfl rfl, pr_in hPc hE hDc⟩ rfl rfl hl.1 rfl (lv_room (Nat.le_of_ble_eq_true rfl)) dX5_rejectionDemand_5 ⟨Nat.le_of_ble_eq_true rfl, Nat.le_of_ble_eq_true rfl⟩) hS (fun q _ h => hFc q h) hFc (fun r u t H1 locs ht hvm hw hB hz1 hk1 hS => ?_)
  obtain ⟨r5, rfl⟩ : ∃ z, z = r := ⟨_, rfl⟩
  obtain ⟨rfl, hw5⟩ := hw
  obtain ⟨hP1, hD1⟩ := hB
  rw [ht] at hP1
  obtain ⟨hP, hD⟩ := va_join (wr := []) (w1 := wMdl cy m0 a (upd I 0 (c01 (I 10))) R) hP hD [0, 1, 2, 3, 4, 5, 6, 7, 8, 9, 10, 11, 12] [] rfl rfl (by decide) (by decide) hk1 hFc hP1 hD1
  have hP : va_P (dC, dI) vwCl (wMdl cy m0 a (upd I 0 (c01 (I 10))) R) H1 := hP.sub [0, 1, 2, 3, 4, 5, 6, 7, 8, 9, 10, 11, 12] rfl
  have hD : va_D A (wMdl cy m0 a (upd I 0 (c01 (I 10))) R) := hD.sub [0, 1, 2, 3, 4, 5, 6, 7, 8, 9, 10, 11, 12] (by decide) rfl
  clear hz1 hk1 hPc hDc hFc hP1 hD1
  generalize H1 = H at hP hS ⊢
  have hP9 : va_P (dC, dI) vwCl (wMdl cy m0 a (upd I 0 (c01 (I 10))) R) H := hP
  have hD9 : va_D A (wMdl cy m0 a (upd I 0 (c01 (I 10))) R) := hD
  exact W.iret (v := r5) hx hb hr (fun t ht hW => ⟨⟨r5, (upd I 0 (c01 (I 10))), rfl, ⟨rfl, hw5⟩, by rw [ht]; exact hP9, hD9⟩, hS.F ht⟩) hS.2.2 dX5_rejectionDemand_8
set_option maxHeartbeats 1000000 in
set_option maxRecDepth 100000 in
/-- completed -/
theorem c_X5_completed (l : Launch) (dC : Nat → ClassId) (dI : Nat → Nat → Nat) (cy : Nat → ClassId) (sz : Nat) (m0 : Nat) (a : Nat → Nat) (I : Nat → Int32) (R : vG) : Met l yX5_completed wsX5_completed ({ frames := 1, cells := 0, slots := 0, locals := 21 }) (va_Pc [.ref m0] (pIn dC dI cy (wMdl cy m0 a I R) sz)) (va_Qi (fun (r : Int32) (u : Nat → Int32) => u = upd I 0 (c01 (I 14)) ∧ (c01 (I 14) = 0 → r = I 15)) (fun (u : Nat → Int32) t => va_P (dC, dI) vwCl (wMdl cy m0 a u R) t.heap ∧ va_D (va_A (wMdl cy m0 a I R) sz) (wMdl cy m0 a u R)) (va_A (wMdl cy m0 a I R) sz)) 0 0 (va_A (wMdl cy m0 a I R) sz) := by
  refine Met.ofW (cc := cX5_completed) (maxL := 1) (ret := some .int) (by decide) rfl ?_
  intro p e s m args below meth c s₁ B hml hv
  obtain ⟨rfl, hsz, hP, hE, hD0⟩ := hv
  have hK := hE.1
  subst hsz
  have hD := hD0.self (sz := s.heap.size)
  generalize hAe : va_A (wMdl cy m0 a I R) s.heap.size = A at hD ⊢
  have hA : ∀ q : Nat, s.heap.size ≤ q → A q := fun q h => by rw [← hAe]; exact Or.inr h
  have hS : va_S A s.heap s.heap [] := va_S.rf
  have hP : va_P (dC, dI) vwCl (wMdl cy m0 a I R) s.heap := hP
  have hx := B.exec
  have hb := B.bytes
  have hr := B.returns
  have hts := atoms_spec (ws := wsX5_completed) B.pre
  have hown : s.vm.findClass RX5 = some m.cls := findClass_of_methodNamed B.named
  have hlocks := B.notSynchronized
  have hin5 : ∀ w ∈ u_ws RX5 TX5 32, w ∈ wsX5_completed := by decide +kernel
  have f_204 := hts (.fieldLink RX5 204 "DeadlineAdmissionModel" "completed" "I") (by decide +kernel)
  have hl := lv_entry ([.ref m0]) (n := 1) (Nat.le_of_ble_eq_true rfl)
  rw [lg_entry_eq]
  generalize (lg_sl ([.ref m0]) ++ List.replicate (1 - (lg_sl ([.ref m0])).length) Slot.unset).toArray = ls at hl ⊢
  have hl : lv_has ls 1 [(0, .ref m0)] := hl
  refine lv_aload_n hx hb dX5_completed_0 rfl (lv_at hl 0 rfl) ?_
  refine lv_aload_n hx hb dX5_completed_1 rfl (lv_at hl 0 rfl) ?_
  refine va_get (D := (dC, dI)) (ci := 5) (v := .int (I 15)) (C := RX5) (T := TX5) (N := 32) hx hb hts hin5 hown hK hP 0 rfl rfl 15 (by decide) f_204 (fun _ h9 => h9) rfl dX5_completed_2 ?_
  have hPc := hP.sub (ws' := wMdl cy m0 a I R) [0, 1, 2, 3, 4, 5, 6, 7, 8, 9, 10, 11, 12] rfl
  have hDc := hD.sub (ws' := wMdl cy m0 a I R) [0, 1, 2, 3, 4, 5, 6, 7, 8, 9, 10, 11, 12] (by decide) rfl
  have hFc := va_free (wc := wMdl cy m0 a I R) hD hS hA [0, 1, 2, 3, 4, 5, 6, 7, 8, 9, 10, 11, 12] rfl
  refine va_calli (va_runV (As := [.int (I 15)]) (rest := []) ⟨hx, hb, hml, hown, hts⟩ (c_X5_ofSimulation l dC dI cy s.heap.size m0 a I R (I 15)  ) (cwV 1 hts gX5_completed_X5_ofSimulation rfl rfl rfl (by decide +kernel) ⟨Nat.le_of_ble_eq_true rfl, Nat.le_of_ble_eq_true rfl⟩) ⟨bl_in, va_recv hK hPc (ci := 5) (q0 := 0) rfl rfl, pr_in hPc hE hDc⟩ rfl rfl hl.1 rfl (lv_room (Nat.le_of_ble_eq_true rfl)) dX5_completed_5 ⟨Nat.le_of_ble_eq_true rfl, Nat.le_of_ble_eq_true rfl⟩) hS (fun q _ h => hFc q h) hFc (fun r u t H1 locs ht hvm hw hB hz1 hk1 hS => ?_)
  obtain ⟨r5, rfl⟩ : ∃ z, z = r := ⟨_, rfl⟩
  obtain ⟨rfl, hw5⟩ := hw
  obtain ⟨hP1, hD1⟩ := hB
  rw [ht] at hP1
  obtain ⟨hP, hD⟩ := va_join (wr := []) (w1 := wMdl cy m0 a (upd I 0 (c01 (I 14))) R) hP hD [0, 1, 2, 3, 4, 5, 6, 7, 8, 9, 10, 11, 12] [] rfl rfl (by decide) (by decide) hk1 hFc hP1 hD1
  have hP : va_P (dC, dI) vwCl (wMdl cy m0 a (upd I 0 (c01 (I 14))) R) H1 := hP.sub [0, 1, 2, 3, 4, 5, 6, 7, 8, 9, 10, 11, 12] rfl
  have hD : va_D A (wMdl cy m0 a (upd I 0 (c01 (I 14))) R) := hD.sub [0, 1, 2, 3, 4, 5, 6, 7, 8, 9, 10, 11, 12] (by decide) rfl
  clear hz1 hk1 hPc hDc hFc hP1 hD1
  generalize H1 = H at hP hS ⊢
  have hP9 : va_P (dC, dI) vwCl (wMdl cy m0 a (upd I 0 (c01 (I 14))) R) H := hP
  have hD9 : va_D A (wMdl cy m0 a (upd I 0 (c01 (I 14))) R) := hD
  exact W.iret (v := r5) hx hb hr (fun t ht hW => ⟨⟨r5, (upd I 0 (c01 (I 14))), rfl, ⟨rfl, hw5⟩, by rw [ht]; exact hP9, hD9⟩, hS.F ht⟩) hS.2.2 dX5_completed_8
set_option maxHeartbeats 1000000 in
set_option maxRecDepth 100000 in
/-- dropped -/
theorem c_X5_dropped (l : Launch) (dC : Nat → ClassId) (dI : Nat → Nat → Nat) (cy : Nat → ClassId) (sz : Nat) (m0 : Nat) (a : Nat → Nat) (I : Nat → Int32) (R : vG) : Met l yX5_dropped wsX5_dropped ({ frames := 1, cells := 0, slots := 0, locals := 21 }) (va_Pc [.ref m0] (pIn dC dI cy (wMdl cy m0 a I R) sz)) (va_Qi (fun (r : Int32) (u : Nat → Int32) => u = upd I 0 (c01 (I 14)) ∧ (c01 (I 14) = 0 → r = I 16)) (fun (u : Nat → Int32) t => va_P (dC, dI) vwCl (wMdl cy m0 a u R) t.heap ∧ va_D (va_A (wMdl cy m0 a I R) sz) (wMdl cy m0 a u R)) (va_A (wMdl cy m0 a I R) sz)) 0 0 (va_A (wMdl cy m0 a I R) sz) := by
  refine Met.ofW (cc := cX5_dropped) (maxL := 1) (ret := some .int) (by decide) rfl ?_
  intro p e s m args below meth c s₁ B hml hv
  obtain ⟨rfl, hsz, hP, hE, hD0⟩ := hv
  have hK := hE.1
  subst hsz
  have hD := hD0.self (sz := s.heap.size)
  generalize hAe : va_A (wMdl cy m0 a I R) s.heap.size = A at hD ⊢
  have hA : ∀ q : Nat, s.heap.size ≤ q → A q := fun q h => by rw [← hAe]; exact Or.inr h
  have hS : va_S A s.heap s.heap [] := va_S.rf
  have hP : va_P (dC, dI) vwCl (wMdl cy m0 a I R) s.heap := hP
  have hx := B.exec
  have hb := B.bytes
  have hr := B.returns
  have hts := atoms_spec (ws := wsX5_dropped) B.pre
  have hown : s.vm.findClass RX5 = some m.cls := findClass_of_methodNamed B.named
  have hlocks := B.notSynchronized
  have hin5 : ∀ w ∈ u_ws RX5 TX5 32, w ∈ wsX5_dropped := by decide +kernel
  have f_187 := hts (.fieldLink RX5 187 "DeadlineAdmissionModel" "dropped" "I") (by decide +kernel)
  have hl := lv_entry ([.ref m0]) (n := 1) (Nat.le_of_ble_eq_true rfl)
  rw [lg_entry_eq]
  generalize (lg_sl ([.ref m0]) ++ List.replicate (1 - (lg_sl ([.ref m0])).length) Slot.unset).toArray = ls at hl ⊢
  have hl : lv_has ls 1 [(0, .ref m0)] := hl
  refine lv_aload_n hx hb dX5_dropped_0 rfl (lv_at hl 0 rfl) ?_
  refine lv_aload_n hx hb dX5_dropped_1 rfl (lv_at hl 0 rfl) ?_
  refine va_get (D := (dC, dI)) (ci := 5) (v := .int (I 16)) (C := RX5) (T := TX5) (N := 32) hx hb hts hin5 hown hK hP 0 rfl rfl 16 (by decide) f_187 (fun _ h9 => h9) rfl dX5_dropped_2 ?_
  have hPc := hP.sub (ws' := wMdl cy m0 a I R) [0, 1, 2, 3, 4, 5, 6, 7, 8, 9, 10, 11, 12] rfl
  have hDc := hD.sub (ws' := wMdl cy m0 a I R) [0, 1, 2, 3, 4, 5, 6, 7, 8, 9, 10, 11, 12] (by decide) rfl
  have hFc := va_free (wc := wMdl cy m0 a I R) hD hS hA [0, 1, 2, 3, 4, 5, 6, 7, 8, 9, 10, 11, 12] rfl
  refine va_calli (va_runV (As := [.int (I 16)]) (rest := []) ⟨hx, hb, hml, hown, hts⟩ (c_X5_ofSimulation l dC dI cy s.heap.size m0 a I R (I 16)  ) (cwV 1 hts gX5_dropped_X5_ofSimulation rfl rfl rfl (by decide +kernel) ⟨Nat.le_of_ble_eq_true rfl, Nat.le_of_ble_eq_true rfl⟩) ⟨bl_in, va_recv hK hPc (ci := 5) (q0 := 0) rfl rfl, pr_in hPc hE hDc⟩ rfl rfl hl.1 rfl (lv_room (Nat.le_of_ble_eq_true rfl)) dX5_dropped_5 ⟨Nat.le_of_ble_eq_true rfl, Nat.le_of_ble_eq_true rfl⟩) hS (fun q _ h => hFc q h) hFc (fun r u t H1 locs ht hvm hw hB hz1 hk1 hS => ?_)
  obtain ⟨r5, rfl⟩ : ∃ z, z = r := ⟨_, rfl⟩
  obtain ⟨rfl, hw5⟩ := hw
  obtain ⟨hP1, hD1⟩ := hB
  rw [ht] at hP1
  obtain ⟨hP, hD⟩ := va_join (wr := []) (w1 := wMdl cy m0 a (upd I 0 (c01 (I 14))) R) hP hD [0, 1, 2, 3, 4, 5, 6, 7, 8, 9, 10, 11, 12] [] rfl rfl (by decide) (by decide) hk1 hFc hP1 hD1
  have hP : va_P (dC, dI) vwCl (wMdl cy m0 a (upd I 0 (c01 (I 14))) R) H1 := hP.sub [0, 1, 2, 3, 4, 5, 6, 7, 8, 9, 10, 11, 12] rfl
  have hD : va_D A (wMdl cy m0 a (upd I 0 (c01 (I 14))) R) := hD.sub [0, 1, 2, 3, 4, 5, 6, 7, 8, 9, 10, 11, 12] (by decide) rfl
  clear hz1 hk1 hPc hDc hFc hP1 hD1
  generalize H1 = H at hP hS ⊢
  have hP9 : va_P (dC, dI) vwCl (wMdl cy m0 a (upd I 0 (c01 (I 14))) R) H := hP
  have hD9 : va_D A (wMdl cy m0 a (upd I 0 (c01 (I 14))) R) := hD
  exact W.iret (v := r5) hx hb hr (fun t ht hW => ⟨⟨r5, (upd I 0 (c01 (I 14))), rfl, ⟨rfl, hw5⟩, by rw [ht]; exact hP9, hD9⟩, hS.F ht⟩) hS.2.2 dX5_dropped_8
set_option maxHeartbeats 1000000 in
set_option maxRecDepth 100000 in
/-- switches -/
theorem c_X5_switches (l : Launch) (dC : Nat → ClassId) (dI : Nat → Nat → Nat) (cy : Nat → ClassId) (sz : Nat) (m0 : Nat) (a : Nat → Nat) (I : Nat → Int32) (R : vG) : Met l yX5_switches wsX5_switches ({ frames := 1, cells := 0, slots := 0, locals := 21 }) (va_Pc [.ref m0] (pIn dC dI cy (wMdl cy m0 a I R) sz)) (va_Qi (fun (r : Int32) (u : Nat → Int32) => u = upd I 0 (c01 (I 14)) ∧ (c01 (I 14) = 0 → r = I 17)) (fun (u : Nat → Int32) t => va_P (dC, dI) vwCl (wMdl cy m0 a u R) t.heap ∧ va_D (va_A (wMdl cy m0 a I R) sz) (wMdl cy m0 a u R)) (va_A (wMdl cy m0 a I R) sz)) 0 0 (va_A (wMdl cy m0 a I R) sz) := by
  refine Met.ofW (cc := cX5_switches) (maxL := 1) (ret := some .int) (by decide) rfl ?_
  intro p e s m args below meth c s₁ B hml hv
  obtain ⟨rfl, hsz, hP, hE, hD0⟩ := hv
  have hK := hE.1
  subst hsz
  have hD := hD0.self (sz := s.heap.size)
  generalize hAe : va_A (wMdl cy m0 a I R) s.heap.size = A at hD ⊢
  have hA : ∀ q : Nat, s.heap.size ≤ q → A q := fun q h => by rw [← hAe]; exact Or.inr h
  have hS : va_S A s.heap s.heap [] := va_S.rf
  have hP : va_P (dC, dI) vwCl (wMdl cy m0 a I R) s.heap := hP
  have hx := B.exec
  have hb := B.bytes
  have hr := B.returns
  have hts := atoms_spec (ws := wsX5_switches) B.pre
  have hown : s.vm.findClass RX5 = some m.cls := findClass_of_methodNamed B.named
  have hlocks := B.notSynchronized
  have hin5 : ∀ w ∈ u_ws RX5 TX5 32, w ∈ wsX5_switches := by decide +kernel
  have f_214 := hts (.fieldLink RX5 214 "DeadlineAdmissionModel" "switches" "I") (by decide +kernel)
  have hl := lv_entry ([.ref m0]) (n := 1) (Nat.le_of_ble_eq_true rfl)
  rw [lg_entry_eq]
  generalize (lg_sl ([.ref m0]) ++ List.replicate (1 - (lg_sl ([.ref m0])).length) Slot.unset).toArray = ls at hl ⊢
  have hl : lv_has ls 1 [(0, .ref m0)] := hl
  refine lv_aload_n hx hb dX5_switches_0 rfl (lv_at hl 0 rfl) ?_
  refine lv_aload_n hx hb dX5_switches_1 rfl (lv_at hl 0 rfl) ?_
  refine va_get (D := (dC, dI)) (ci := 5) (v := .int (I 17)) (C := RX5) (T := TX5) (N := 32) hx hb hts hin5 hown hK hP 0 rfl rfl 17 (by decide) f_214 (fun _ h9 => h9) rfl dX5_switches_2 ?_
  have hPc := hP.sub (ws' := wMdl cy m0 a I R) [0, 1, 2, 3, 4, 5, 6, 7, 8, 9, 10, 11, 12] rfl
  have hDc := hD.sub (ws' := wMdl cy m0 a I R) [0, 1, 2, 3, 4, 5, 6, 7, 8, 9, 10, 11, 12] (by decide) rfl
  have hFc := va_free (wc := wMdl cy m0 a I R) hD hS hA [0, 1, 2, 3, 4, 5, 6, 7, 8, 9, 10, 11, 12] rfl
  refine va_calli (va_runV (As := [.int (I 17)]) (rest := []) ⟨hx, hb, hml, hown, hts⟩ (c_X5_ofSimulation l dC dI cy s.heap.size m0 a I R (I 17)  ) (cwV 1 hts gX5_switches_X5_ofSimulation rfl rfl rfl (by decide +kernel) ⟨Nat.le_of_ble_eq_true rfl, Nat.le_of_ble_eq_true rfl⟩) ⟨bl_in, va_recv hK hPc (ci := 5) (q0 := 0) rfl rfl, pr_in hPc hE hDc⟩ rfl rfl hl.1 rfl (lv_room (Nat.le_of_ble_eq_true rfl)) dX5_switches_5 ⟨Nat.le_of_ble_eq_true rfl, Nat.le_of_ble_eq_true rfl⟩) hS (fun q _ h => hFc q h) hFc (fun r u t H1 locs ht hvm hw hB hz1 hk1 hS => ?_)
  obtain ⟨r5, rfl⟩ : ∃ z, z = r := ⟨_, rfl⟩
  obtain ⟨rfl, hw5⟩ := hw
  obtain ⟨hP1, hD1⟩ := hB
  rw [ht] at hP1
  obtain ⟨hP, hD⟩ := va_join (wr := []) (w1 := wMdl cy m0 a (upd I 0 (c01 (I 14))) R) hP hD [0, 1, 2, 3, 4, 5, 6, 7, 8, 9, 10, 11, 12] [] rfl rfl (by decide) (by decide) hk1 hFc hP1 hD1
  have hP : va_P (dC, dI) vwCl (wMdl cy m0 a (upd I 0 (c01 (I 14))) R) H1 := hP.sub [0, 1, 2, 3, 4, 5, 6, 7, 8, 9, 10, 11, 12] rfl
  have hD : va_D A (wMdl cy m0 a (upd I 0 (c01 (I 14))) R) := hD.sub [0, 1, 2, 3, 4, 5, 6, 7, 8, 9, 10, 11, 12] (by decide) rfl
  clear hz1 hk1 hPc hDc hFc hP1 hD1
  generalize H1 = H at hP hS ⊢
  have hP9 : va_P (dC, dI) vwCl (wMdl cy m0 a (upd I 0 (c01 (I 14))) R) H := hP
  have hD9 : va_D A (wMdl cy m0 a (upd I 0 (c01 (I 14))) R) := hD
  exact W.iret (v := r5) hx hb hr (fun t ht hW => ⟨⟨r5, (upd I 0 (c01 (I 14))), rfl, ⟨rfl, hw5⟩, by rw [ht]; exact hP9, hD9⟩, hS.F ht⟩) hS.2.2 dX5_switches_8
set_option maxHeartbeats 1000000 in
set_option maxRecDepth 100000 in
/-- idleUnits -/
theorem c_X5_idleUnits (l : Launch) (dC : Nat → ClassId) (dI : Nat → Nat → Nat) (cy : Nat → ClassId) (sz : Nat) (m0 : Nat) (a : Nat → Nat) (I : Nat → Int32) (R : vG) : Met l yX5_idleUnits wsX5_idleUnits ({ frames := 1, cells := 0, slots := 0, locals := 21 }) (va_Pc [.ref m0] (pIn dC dI cy (wMdl cy m0 a I R) sz)) (va_Qi (fun (r : Int32) (u : Nat → Int32) => u = upd I 0 (c01 (I 14)) ∧ (c01 (I 14) = 0 → r = I 18)) (fun (u : Nat → Int32) t => va_P (dC, dI) vwCl (wMdl cy m0 a u R) t.heap ∧ va_D (va_A (wMdl cy m0 a I R) sz) (wMdl cy m0 a u R)) (va_A (wMdl cy m0 a I R) sz)) 0 0 (va_A (wMdl cy m0 a I R) sz) := by
  refine Met.ofW (cc := cX5_idleUnits) (maxL := 1) (ret := some .int) (by decide) rfl ?_
  intro p e s m args below meth c s₁ B hml hv
  obtain ⟨rfl, hsz, hP, hE, hD0⟩ := hv
  have hK := hE.1
  subst hsz
  have hD := hD0.self (sz := s.heap.size)
  generalize hAe : va_A (wMdl cy m0 a I R) s.heap.size = A at hD ⊢
  have hA : ∀ q : Nat, s.heap.size ≤ q → A q := fun q h => by rw [← hAe]; exact Or.inr h
  have hS : va_S A s.heap s.heap [] := va_S.rf
  have hP : va_P (dC, dI) vwCl (wMdl cy m0 a I R) s.heap := hP
  have hx := B.exec
  have hb := B.bytes
  have hr := B.returns
  have hts := atoms_spec (ws := wsX5_idleUnits) B.pre
  have hown : s.vm.findClass RX5 = some m.cls := findClass_of_methodNamed B.named
  have hlocks := B.notSynchronized
  have hin5 : ∀ w ∈ u_ws RX5 TX5 32, w ∈ wsX5_idleUnits := by decide +kernel
  have f_217 := hts (.fieldLink RX5 217 "DeadlineAdmissionModel" "idle" "I") (by decide +kernel)
  have hl := lv_entry ([.ref m0]) (n := 1) (Nat.le_of_ble_eq_true rfl)
  rw [lg_entry_eq]
  generalize (lg_sl ([.ref m0]) ++ List.replicate (1 - (lg_sl ([.ref m0])).length) Slot.unset).toArray = ls at hl ⊢
  have hl : lv_has ls 1 [(0, .ref m0)] := hl
  refine lv_aload_n hx hb dX5_idleUnits_0 rfl (lv_at hl 0 rfl) ?_
  refine lv_aload_n hx hb dX5_idleUnits_1 rfl (lv_at hl 0 rfl) ?_
  refine va_get (D := (dC, dI)) (ci := 5) (v := .int (I 18)) (C := RX5) (T := TX5) (N := 32) hx hb hts hin5 hown hK hP 0 rfl rfl 18 (by decide) f_217 (fun _ h9 => h9) rfl dX5_idleUnits_2 ?_
  have hPc := hP.sub (ws' := wMdl cy m0 a I R) [0, 1, 2, 3, 4, 5, 6, 7, 8, 9, 10, 11, 12] rfl
  have hDc := hD.sub (ws' := wMdl cy m0 a I R) [0, 1, 2, 3, 4, 5, 6, 7, 8, 9, 10, 11, 12] (by decide) rfl
  have hFc := va_free (wc := wMdl cy m0 a I R) hD hS hA [0, 1, 2, 3, 4, 5, 6, 7, 8, 9, 10, 11, 12] rfl
  refine va_calli (va_runV (As := [.int (I 18)]) (rest := []) ⟨hx, hb, hml, hown, hts⟩ (c_X5_ofSimulation l dC dI cy s.heap.size m0 a I R (I 18)  ) (cwV 1 hts gX5_idleUnits_X5_ofSimulation rfl rfl rfl (by decide +kernel) ⟨Nat.le_of_ble_eq_true rfl, Nat.le_of_ble_eq_true rfl⟩) ⟨bl_in, va_recv hK hPc (ci := 5) (q0 := 0) rfl rfl, pr_in hPc hE hDc⟩ rfl rfl hl.1 rfl (lv_room (Nat.le_of_ble_eq_true rfl)) dX5_idleUnits_5 ⟨Nat.le_of_ble_eq_true rfl, Nat.le_of_ble_eq_true rfl⟩) hS (fun q _ h => hFc q h) hFc (fun r u t H1 locs ht hvm hw hB hz1 hk1 hS => ?_)
  obtain ⟨r5, rfl⟩ : ∃ z, z = r := ⟨_, rfl⟩
  obtain ⟨rfl, hw5⟩ := hw
  obtain ⟨hP1, hD1⟩ := hB
  rw [ht] at hP1
  obtain ⟨hP, hD⟩ := va_join (wr := []) (w1 := wMdl cy m0 a (upd I 0 (c01 (I 14))) R) hP hD [0, 1, 2, 3, 4, 5, 6, 7, 8, 9, 10, 11, 12] [] rfl rfl (by decide) (by decide) hk1 hFc hP1 hD1
  have hP : va_P (dC, dI) vwCl (wMdl cy m0 a (upd I 0 (c01 (I 14))) R) H1 := hP.sub [0, 1, 2, 3, 4, 5, 6, 7, 8, 9, 10, 11, 12] rfl
  have hD : va_D A (wMdl cy m0 a (upd I 0 (c01 (I 14))) R) := hD.sub [0, 1, 2, 3, 4, 5, 6, 7, 8, 9, 10, 11, 12] (by decide) rfl
  clear hz1 hk1 hPc hDc hFc hP1 hD1
  generalize H1 = H at hP hS ⊢
  have hP9 : va_P (dC, dI) vwCl (wMdl cy m0 a (upd I 0 (c01 (I 14))) R) H := hP
  have hD9 : va_D A (wMdl cy m0 a (upd I 0 (c01 (I 14))) R) := hD
  exact W.iret (v := r5) hx hb hr (fun t ht hW => ⟨⟨r5, (upd I 0 (c01 (I 14))), rfl, ⟨rfl, hw5⟩, by rw [ht]; exact hP9, hD9⟩, hS.F ht⟩) hS.2.2 dX5_idleUnits_8
set_option maxHeartbeats 1000000 in
set_option maxRecDepth 100000 in
/-- response -/
theorem c_X5_response (l : Launch) (dC : Nat → ClassId) (dI : Nat → Nat → Nat) (cy : Nat → ClassId) (sz : Nat) (m0 : Nat) (a : Nat → Nat) (I : Nat → Int32) (R : vG) (n : Nat) (hn : n ≤ 8) (hS0 : R 1 0 = nI n) (p0 : Int32) : Met l yX5_response wsX5_response ({ frames := 2, cells := 0, slots := 0, locals := 43 }) (va_Pc [.ref m0, .int p0] (pIn dC dI cy (wMdl cy m0 a I R) sz)) (va_Qi (fun (r : Int32) (u : Nat → Int32) => u = upd I 0 (cRes n (I 14) (R 19) p0) ∧ (cRes n (I 14) (R 19) p0 = 0 → r = R 19 p0.toNatClampNeg)) (fun (u : Nat → Int32) t => va_P (dC, dI) vwCl (wMdl cy m0 a u R) t.heap ∧ va_D (va_A (wMdl cy m0 a I R) sz) (wMdl cy m0 a u R)) (va_A (wMdl cy m0 a I R) sz)) 0 0 (va_A (wMdl cy m0 a I R) sz) := by
  refine Met.ofW (cc := cX5_response) (maxL := 2) (ret := some .int) (by decide) rfl ?_
  intro p e s m args below meth c s₁ B hml hv
  obtain ⟨rfl, hsz, hP, hE, hD0⟩ := hv
  have hK := hE.1
  subst hsz
  have hD := hD0.self (sz := s.heap.size)
  generalize hAe : va_A (wMdl cy m0 a I R) s.heap.size = A at hD ⊢
  have hA : ∀ q : Nat, s.heap.size ≤ q → A q := fun q h => by rw [← hAe]; exact Or.inr h
  have hS : va_S A s.heap s.heap [] := va_S.rf
  have hP : va_P (dC, dI) vwCl (wMdl cy m0 a I R) s.heap := hP
  have hx := B.exec
  have hb := B.bytes
  have hr := B.returns
  have hts := atoms_spec (ws := wsX5_response) B.pre
  have hown : s.vm.findClass RX5 = some m.cls := findClass_of_methodNamed B.named
  have hlocks := B.notSynchronized
  have hin5 : ∀ w ∈ u_ws RX5 TX5 32, w ∈ wsX5_response := by decide +kernel
  have f_29 := hts (.fieldLink RX5 29 "DeadlineAdmissionModel" "responses" "[I") (by decide +kernel)
  have f_50 := hts (.fieldLink RX5 50 "DeadlineAdmissionModel" "thrown" "I") (by decide +kernel)
  have f_60 := hts (.fieldLink RX5 60 "DeadlineAdmissionModel" "isSimulated" "Z") (by decide +kernel)
  have hl := lv_entry ([.ref m0, .int p0]) (n := 2) (Nat.le_of_ble_eq_true rfl)
  rw [lg_entry_eq]
  generalize (lg_sl ([.ref m0, .int p0]) ++ List.replicate (2 - (lg_sl ([.ref m0, .int p0])).length) Slot.unset).toArray = ls at hl ⊢
  have hl : lv_has ls 2 [(0, .ref m0), (1, .int p0)] := hl
  refine lv_aload_n hx hb dX5_response_0 rfl (lv_at hl 0 rfl) ?_
  refine lv_iconst (v := 0) hx hb dX5_response_1 (by decide) ?_
  refine va_put (D := (dC, dI)) (ci := 5) (v := .int 0) (ty := .int) (C := RX5) (T := TX5) (N := 32) hx hb hts hin5 tyX5 tyX5_ok nmX5 hown hK hP hD hS 0 rfl rfl 0 (by decide) f_50 (fun _ h9 => h9) rfl (by decide +kernel) rfl rfl (Nat.le_of_ble_eq_true rfl) dX5_response_2 (fun H locs hP hD hS => ?_)
  have hP : va_P (dC, dI) vwCl (wMdl cy m0 a (upd I 0 0) R) H := hP
  have hD : va_D A (wMdl cy m0 a (upd I 0 0) R) := hD
  refine lv_aload_n hx hb dX5_response_5 rfl (lv_at hl 0 rfl) ?_
  refine lv_iload_n hx hb dX5_response_6 rfl (lv_at hl 1 rfl) ?_
  refine vp_callSi (va_runV (As := [.int p0]) (rest := []) ⟨hx, hb, hml, hown, hts⟩ (c_X5_isTask l dC dI cy m0 a (upd I 0 0) R n hS0 p0) (cwV 1 hts gX5_response_X5_isTask rfl rfl rfl (by decide +kernel) ⟨Nat.le_of_ble_eq_true rfl, Nat.le_of_ble_eq_true rfl⟩) ⟨bl_ro, va_recv hK hP (ci := 5) (q0 := 0) rfl rfl, pr_ro hP hE⟩ rfl rfl hl.1 rfl (lv_room (Nat.le_of_ble_eq_true rfl)) dX5_response_7 ⟨Nat.le_of_ble_eq_true rfl, Nat.le_of_ble_eq_true rfl⟩).run (fun r e_r => ?_)
  subst e_r
  refine lv_topi (fun y_ ey_ => ?_)
  obtain rfl : y_ = if ¬ p0 < 0 ∧ ¬ nI n - 1 < p0 then 1 else 0 := ey_
  refine lv_if_ne (tgt := 19) hx hb dX5_response_10 (by decide) (fun c_10 => ?_) (fun c_10 => ?_)
  · obtain ⟨i, hin, rfl⟩ := isT hn p0 (nb10 c_10)
    refine lv_aload_n hx hb dX5_response_19 rfl (lv_at hl 0 rfl) ?_
    refine va_get (D := (dC, dI)) (ci := 5) (v := .int (I 14)) (C := RX5) (T := TX5) (N := 32) hx hb hts hin5 hown hK hP 0 rfl rfl 14 (by decide) f_60 (fun _ h9 => h9) rfl dX5_response_20 ?_
    refine lv_if_ne (tgt := 32) hx hb dX5_response_23 (by decide) (fun c_23 => ?_) (fun c_23 => ?_)
    · refine lv_aload_n hx hb dX5_response_32 rfl (lv_at hl 0 rfl) ?_
      refine va_get (D := (dC, dI)) (ci := 5) (v := .ref (a 19)) (C := RX5) (T := TX5) (N := 32) hx hb hts hin5 hown hK hP 0 rfl rfl 19 (by decide) f_29 (fun _ h9 => h9) rfl dX5_response_33 ?_
      refine lv_iload_n hx hb dX5_response_36 rfl (lv_at hl 1 rfl) ?_
      refine wI_alv (v := R 19 i) hx hb hK hP 6 0 rfl rfl i rfl (by omega) (by decide) rfl dX5_response_37 ?_
      refine lv_if_le (tgt := 50) hx hb dX5_response_38 (by decide) (fun c_38 => ?_) (fun c_38 => ?_)
      · refine lv_aload_n hx hb dX5_response_50 rfl (lv_at hl 0 rfl) ?_
        refine lv_iconst (v := 3) hx hb dX5_response_51 (by decide) ?_
        have hPc := hP.sub (ws' := wMdl cy m0 a (upd I 0 0) R) [0, 1, 2, 3, 4, 5, 6, 7, 8, 9, 10, 11, 12] rfl
        have hDc := hD.sub (ws' := wMdl cy m0 a (upd I 0 0) R) [0, 1, 2, 3, 4, 5, 6, 7, 8, 9, 10, 11, 12] (by decide) rfl
        have hFc := va_free (wc := wMdl cy m0 a (upd I 0 0) R) hD hS hA [0, 1, 2, 3, 4, 5, 6, 7, 8, 9, 10, 11, 12] rfl
        refine va_calli (va_runV (As := [.int 3]) (rest := []) ⟨hx, hb, hml, hown, hts⟩ (c_X5_fails l dC dI cy H.size m0 a (upd I 0 0) R 3  ) (cwV 1 hts gX5_response_X5_fails rfl rfl rfl (by decide +kernel) ⟨Nat.le_of_ble_eq_true rfl, Nat.le_of_ble_eq_true rfl⟩) ⟨bl_in, va_recv hK hPc (ci := 5) (q0 := 0) rfl rfl, pr_in hPc hE hDc⟩ rfl rfl hl.1 rfl (lv_room (Nat.le_of_ble_eq_true rfl)) dX5_response_52 ⟨Nat.le_of_ble_eq_true rfl, Nat.le_of_ble_eq_true rfl⟩) hS (fun q _ h => hFc q h) hFc (fun r u t H1 locs ht hvm hw hB hz1 hk1 hS => ?_)
        obtain rfl := hw
        obtain ⟨hP1, hD1⟩ := hB
        rw [ht] at hP1
        obtain ⟨hP, hD⟩ := va_join (wr := []) (w1 := wMdl cy m0 a (upd I 0 3) R) hP hD [0, 1, 2, 3, 4, 5, 6, 7, 8, 9, 10, 11, 12] [] rfl rfl (by decide) (by decide) hk1 hFc hP1 hD1
        have hP : va_P (dC, dI) vwCl (wMdl cy m0 a (upd I 0 3) R) H1 := hP.sub [0, 1, 2, 3, 4, 5, 6, 7, 8, 9, 10, 11, 12] rfl
        have hD : va_D A (wMdl cy m0 a (upd I 0 3) R) := hD.sub [0, 1, 2, 3, 4, 5, 6, 7, 8, 9, 10, 11, 12] (by decide) rfl
        clear hz1 hk1 hPc hDc hFc hP1 hD1
        generalize H1 = H at hP hS ⊢
        have hP9 : va_P (dC, dI) vwCl (wMdl cy m0 a (upd I 0 3) R) H := hP
        have hD9 : va_D A (wMdl cy m0 a (upd I 0 3) R) := hD
        exact W.iret (v := 0) hx hb hr (fun t ht hW => ⟨⟨0, (upd I 0 3), rfl, (by have e9 : cRes n (I 14) (R 19) (nI i) = 3 := (by rw [cRes, if_pos (cT_ok hn hin), if_neg c_23, nI_clamp (by omega), if_pos c_38]); exact ⟨by rw [e9], fun h => absurd (e9.symm.trans h) (by decide)⟩), by rw [ht]; exact hP9, hD9⟩, hS.F ht⟩) hS.2.2 dX5_response_55
      · refine lv_aload_n hx hb dX5_response_41 rfl (lv_at hl 0 rfl) ?_
        refine va_get (D := (dC, dI)) (ci := 5) (v := .ref (a 19)) (C := RX5) (T := TX5) (N := 32) hx hb hts hin5 hown hK hP 0 rfl rfl 19 (by decide) f_29 (fun _ h9 => h9) rfl dX5_response_42 ?_
        refine lv_iload_n hx hb dX5_response_45 rfl (lv_at hl 1 rfl) ?_
        refine wI_alv (v := R 19 i) hx hb hK hP 6 0 rfl rfl i rfl (by omega) (by decide) rfl dX5_response_46 ?_
        refine lv_goto (tgt := 55) hx hb dX5_response_47 (by decide) ?_
        have hP9 : va_P (dC, dI) vwCl (wMdl cy m0 a (upd I 0 0) R) H := hP
        have hD9 : va_D A (wMdl cy m0 a (upd I 0 0) R) := hD
        exact W.iret (v := R 19 i) hx hb hr (fun t ht hW => ⟨⟨R 19 i, (upd I 0 0), rfl, (by have e9 : cRes n (I 14) (R 19) (nI i) = 0 := (by rw [cRes, if_pos (cT_ok hn hin), if_neg c_23, nI_clamp (by omega), if_neg c_38]); exact ⟨by rw [e9], fun _ => by rw [nI_clamp (by omega)]⟩), by rw [ht]; exact hP9, hD9⟩, hS.F ht⟩) hS.2.2 dX5_response_55
    · refine lv_aload_n hx hb dX5_response_26 rfl (lv_at hl 0 rfl) ?_
      refine lv_iconst (v := 2) hx hb dX5_response_27 (by decide) ?_
      have hPc := hP.sub (ws' := wMdl cy m0 a (upd I 0 0) R) [0, 1, 2, 3, 4, 5, 6, 7, 8, 9, 10, 11, 12] rfl
      have hDc := hD.sub (ws' := wMdl cy m0 a (upd I 0 0) R) [0, 1, 2, 3, 4, 5, 6, 7, 8, 9, 10, 11, 12] (by decide) rfl
      have hFc := va_free (wc := wMdl cy m0 a (upd I 0 0) R) hD hS hA [0, 1, 2, 3, 4, 5, 6, 7, 8, 9, 10, 11, 12] rfl
      refine va_calli (va_runV (As := [.int 2]) (rest := []) ⟨hx, hb, hml, hown, hts⟩ (c_X5_fails l dC dI cy H.size m0 a (upd I 0 0) R 2  ) (cwV 1 hts gX5_response_X5_fails rfl rfl rfl (by decide +kernel) ⟨Nat.le_of_ble_eq_true rfl, Nat.le_of_ble_eq_true rfl⟩) ⟨bl_in, va_recv hK hPc (ci := 5) (q0 := 0) rfl rfl, pr_in hPc hE hDc⟩ rfl rfl hl.1 rfl (lv_room (Nat.le_of_ble_eq_true rfl)) dX5_response_28 ⟨Nat.le_of_ble_eq_true rfl, Nat.le_of_ble_eq_true rfl⟩) hS (fun q _ h => hFc q h) hFc (fun r u t H1 locs ht hvm hw hB hz1 hk1 hS => ?_)
      obtain rfl := hw
      obtain ⟨hP1, hD1⟩ := hB
      rw [ht] at hP1
      obtain ⟨hP, hD⟩ := va_join (wr := []) (w1 := wMdl cy m0 a (upd I 0 2) R) hP hD [0, 1, 2, 3, 4, 5, 6, 7, 8, 9, 10, 11, 12] [] rfl rfl (by decide) (by decide) hk1 hFc hP1 hD1
      have hP : va_P (dC, dI) vwCl (wMdl cy m0 a (upd I 0 2) R) H1 := hP.sub [0, 1, 2, 3, 4, 5, 6, 7, 8, 9, 10, 11, 12] rfl
      have hD : va_D A (wMdl cy m0 a (upd I 0 2) R) := hD.sub [0, 1, 2, 3, 4, 5, 6, 7, 8, 9, 10, 11, 12] (by decide) rfl
      clear hz1 hk1 hPc hDc hFc hP1 hD1
      generalize H1 = H at hP hS ⊢
      have hP9 : va_P (dC, dI) vwCl (wMdl cy m0 a (upd I 0 2) R) H := hP
      have hD9 : va_D A (wMdl cy m0 a (upd I 0 2) R) := hD
      exact W.iret (v := 0) hx hb hr (fun t ht hW => ⟨⟨0, (upd I 0 2), rfl, (by have e9 : cRes n (I 14) (R 19) (nI i) = 2 := (by rw [cRes, if_pos (cT_ok hn hin), if_pos c_23]); exact ⟨by rw [e9], fun h => absurd (e9.symm.trans h) (by decide)⟩), by rw [ht]; exact hP9, hD9⟩, hS.F ht⟩) hS.2.2 dX5_response_31
  · refine lv_aload_n hx hb dX5_response_13 rfl (lv_at hl 0 rfl) ?_
    refine lv_iconst (v := 1) hx hb dX5_response_14 (by decide) ?_
    have hPc := hP.sub (ws' := wMdl cy m0 a (upd I 0 0) R) [0, 1, 2, 3, 4, 5, 6, 7, 8, 9, 10, 11, 12] rfl
    have hDc := hD.sub (ws' := wMdl cy m0 a (upd I 0 0) R) [0, 1, 2, 3, 4, 5, 6, 7, 8, 9, 10, 11, 12] (by decide) rfl
    have hFc := va_free (wc := wMdl cy m0 a (upd I 0 0) R) hD hS hA [0, 1, 2, 3, 4, 5, 6, 7, 8, 9, 10, 11, 12] rfl
    refine va_calli (va_runV (As := [.int 1]) (rest := []) ⟨hx, hb, hml, hown, hts⟩ (c_X5_fails l dC dI cy H.size m0 a (upd I 0 0) R 1  ) (cwV 1 hts gX5_response_X5_fails rfl rfl rfl (by decide +kernel) ⟨Nat.le_of_ble_eq_true rfl, Nat.le_of_ble_eq_true rfl⟩) ⟨bl_in, va_recv hK hPc (ci := 5) (q0 := 0) rfl rfl, pr_in hPc hE hDc⟩ rfl rfl hl.1 rfl (lv_room (Nat.le_of_ble_eq_true rfl)) dX5_response_15 ⟨Nat.le_of_ble_eq_true rfl, Nat.le_of_ble_eq_true rfl⟩) hS (fun q _ h => hFc q h) hFc (fun r u t H1 locs ht hvm hw hB hz1 hk1 hS => ?_)
    obtain rfl := hw
    obtain ⟨hP1, hD1⟩ := hB
    rw [ht] at hP1
    obtain ⟨hP, hD⟩ := va_join (wr := []) (w1 := wMdl cy m0 a (upd I 0 1) R) hP hD [0, 1, 2, 3, 4, 5, 6, 7, 8, 9, 10, 11, 12] [] rfl rfl (by decide) (by decide) hk1 hFc hP1 hD1
    have hP : va_P (dC, dI) vwCl (wMdl cy m0 a (upd I 0 1) R) H1 := hP.sub [0, 1, 2, 3, 4, 5, 6, 7, 8, 9, 10, 11, 12] rfl
    have hD : va_D A (wMdl cy m0 a (upd I 0 1) R) := hD.sub [0, 1, 2, 3, 4, 5, 6, 7, 8, 9, 10, 11, 12] (by decide) rfl
    clear hz1 hk1 hPc hDc hFc hP1 hD1
    generalize H1 = H at hP hS ⊢
    have hP9 : va_P (dC, dI) vwCl (wMdl cy m0 a (upd I 0 1) R) H := hP
    have hD9 : va_D A (wMdl cy m0 a (upd I 0 1) R) := hD
    exact W.iret (v := 0) hx hb hr (fun t ht hW => ⟨⟨0, (upd I 0 1), rfl, (by have e9 : cRes n (I 14) (R 19) p0 = 1 := if_neg (fun h => absurd ((cT_no hn (b10.mp c_10)).symm.trans h) (by decide)); exact ⟨by rw [e9], fun h => absurd (e9.symm.trans h) (by decide)⟩), by rw [ht]; exact hP9, hD9⟩, hS.F ht⟩) hS.2.2 dX5_response_18

/-! PART 20: the reference: its cells, and its reads in the words of part 10 -/
/-- row k of R becomes f -/
def upr (R : vG) (k : Nat) (f : Nat → Int32) : vG := fun k' => if k' = k then f else R k'
/-- the cells of the reference: the object at m0 (I k: its field k), its rows at a k (R k) -/
abbrev wMdl (cy : Nat → ClassId) (m0 : Nat) (a : Nat → Nat) (I : Nat → Int32) (R : vG) : va_W := [(m0, .inr (5, [.int (I 0), .ref (a 1), .ref (a 2), .ref (a 3), .ref (a 4), .int (I 5), .int (I 6), .ref (a 7), .int (I 8), .int (I 9), .int (I 10), .int (I 11), .int (I 12), .int (I 13), .int (I 14), .int (I 15), .int (I 16), .int (I 17), .int (I 18), .ref (a 19), .ref (a 20), .int (I 21), .ref (a 22), .int (I 23), .ref (a 24), .ref (a 25), .ref (a 26), .ref (a 27), .int (I 28), .int (I 29), .int (I 30), .int (I 31)])), (a 1, .inl (cy 0, 58, .inl (R 1))), (a 2, .inl (cy 0, 58, .inl (R 2))), (a 3, .inl (cy 0, 58, .inl (R 3))), (a 4, .inl (cy 0, 348, .inl (R 4))), (a 7, .inl (cy 0, 30, .inl (R 7))), (a 19, .inl (cy 0, 8, .inl (R 19))), (a 20, .inl (cy 0, 6, .inl (R 20))), (a 22, .inl (cy 0, 201, .inl (R 22))), (a 24, .inl (cy 0, 1700, .inl (R 24))), (a 25, .inl (cy 0, 1700, .inl (R 25))), (a 26, .inl (cy 0, 1700, .inl (R 26))), (a 27, .inl (cy 0, 1700, .inl (R 27)))]
/-- the tasks in the reference's row s -/
def Gs (S : Nat → Int32) : vG := fun k i => S (2 + 8 * k + i)
theorem per_ok {G : vG} {i : Nat} (h : okT G i) : per G i = G 0 i * (G 6 i + 1) := by
  obtain ⟨P, D, L, H, im, mo, lv, e0, e1, e2, e3, e4, e5, e6, h1⟩ := h
  unfold per
  rw [e0, e6, nI_1, pk_mul, if_neg]
  have hp : 1 ≤ P * (lv + 1) := Nat.mul_pos (by omega) (by omega)
  have hq : P * (lv + 1) ≤ 40 * 3 := Nat.mul_le_mul (by omega) (by omega)
  exact fun h => absurd ((nI_ltI (a := P * (lv + 1)) (b := 1) (by omega) (by omega)).mp h) (by omega)
theorem hi_ok {G : vG} {i : Nat} (h : okT G i) : G 3 i ≤ 0 ↔ G 3 i = 0 := by
  obtain ⟨P, D, L, H, im, mo, lv, e0, e1, e2, e3, e4, e5, e6, h1⟩ := h
  rw [e3]
  constructor
  · intro h
    have := (nI_leI (a := H) (b := 0) (by omega) (by omega)).mp h
    rw [show H = 0 by omega]; rfl
  · intro h; rw [h]; decide
theorem pe_ok {G : vG} {i : Nat} (h : okT G i) : ¬ G 0 i * (G 6 i + 1) = 0 := by rw [← per_ok h]; exact per_pos G i
theorem le_tot (x y : Int32) (h1 : ¬ x ≤ y) : y ≤ x := by
  rw [Int32.le_iff_toInt_le] at *
  omega
theorem vd_ok {G : vG} {sc : Int32} {i : Nat} (h : okT G i) : vdl G sc i = (if G 3 i ≤ 0 then G 1 i else if G 2 i ≤ G 1 i * sc / 8 then G 1 i * sc / 8 else G 2 i) := by
  unfold vdl
  by_cases h0 : G 3 i ≤ 0
  · rw [if_pos h0, if_pos ((hi_ok h).mp h0)]
  · rw [if_neg h0, if_neg (fun q => h0 ((hi_ok h).mpr q))]
    by_cases h1 : G 1 i * sc / 8 ≤ G 2 i
    · rw [if_pos h1]
      by_cases h2 : G 2 i ≤ G 1 i * sc / 8
      · rw [if_pos h2]; exact Int32.le_antisymm h2 h1
      · rw [if_neg h2]
    · rw [if_neg h1, if_pos (le_tot _ _ h1)]
theorem lt_pred {x d : Int32} {D : Nat} (e : d = nI D) (h0 : 1 ≤ D) (hD : D < 2 ^ 31) : d - 1 < x ↔ ¬ x < d := by
  subst e
  have e2 : nI D - 1 = nI (D - 1) := by rw [show (1 : Int32) = nI 1 from rfl]; exact pk_sub h0
  rw [e2, Int32.lt_iff_toInt_lt, Int32.lt_iff_toInt_lt, nI_toInt hD, nI_toInt (by omega)]
  omega
set_option maxHeartbeats 1000000 in
set_option maxRecDepth 100000 in
/-- low <= v <= high -/
theorem c_X5_in (l : Launch) (p0 p1 p2 : Int32) : Met l yX5_in wsX5_in ({ frames := 0, cells := 0, slots := 0, locals := 0 }) (va_Pc [.int p0, .int p1, .int p2] (fun _ => True)) (vp_Si (fun r => r = (if ¬ p0 < p1 ∧ ¬ p2 < p0 then 1 else 0))) 0 0 (fun _ => False) := by
  refine Met.ofW (cc := cX5_in) (maxL := 3) (ret := some .boolean) (by decide) rfl ?_
  intro p e s m args below meth c s₁ B hml hv
  obtain ⟨rfl, -⟩ := hv
  have hx := B.exec
  have hb := B.bytes
  have hr := B.returns
  have hts := atoms_spec (ws := wsX5_in) B.pre
  have hown : s.vm.findClass RX5 = some m.cls := findClass_of_methodNamed B.named
  have hlocks := B.notSynchronized
  have hl := lv_entry ([.int p0, .int p1, .int p2]) (n := 3) (Nat.le_of_ble_eq_true rfl)
  rw [lg_entry_eq]
  generalize (lg_sl ([.int p0, .int p1, .int p2]) ++ List.replicate (3 - (lg_sl ([.int p0, .int p1, .int p2])).length) Slot.unset).toArray = ls at hl ⊢
  have hl : lv_has ls 3 [(0, .int p0), (1, .int p1), (2, .int p2)] := hl
  refine lv_iload_n hx hb dX5_in_0 rfl (lv_at hl 0 rfl) ?_
  refine lv_iload_n hx hb dX5_in_1 rfl (lv_at hl 1 rfl) ?_
  refine lv_icmp_lt (tgt := 14) hx hb dX5_in_2 (by decide) (fun c_2 => ?_) (fun c_2 => ?_)
  · refine lv_iconst (v := 0) hx hb dX5_in_14 (by decide) ?_
    exact W.zret (v := 0) hx hb hr (by decide) (fun t ht hW => ⟨_, rfl, (by simp only [and_true, true_and, and_false, false_and, and_self, not_true_eq_false, not_false_eq_true, c_2, Int32.not_le.mpr c_2, ↓reduceIte]), ht⟩) (fun q hq => absurd hq List.not_mem_nil) dX5_in_15
  · refine lv_iload_n hx hb dX5_in_5 rfl (lv_at hl 0 rfl) ?_
    refine lv_iload_n hx hb dX5_in_6 rfl (lv_at hl 2 rfl) ?_
    refine lv_icmp_gt (tgt := 14) hx hb dX5_in_7 (by decide) (fun c_7 => ?_) (fun c_7 => ?_)
    · refine lv_iconst (v := 0) hx hb dX5_in_14 (by decide) ?_
      exact W.zret (v := 0) hx hb hr (by decide) (fun t ht hW => ⟨_, rfl, (by simp only [and_true, true_and, and_false, false_and, and_self, not_true_eq_false, not_false_eq_true, c_2, Int32.not_lt.mp c_2, c_7, Int32.not_le.mpr c_7, ↓reduceIte]), ht⟩) (fun q hq => absurd hq List.not_mem_nil) dX5_in_15
    · refine lv_iconst (v := 1) hx hb dX5_in_10 (by decide) ?_
      refine lv_goto (tgt := 15) hx hb dX5_in_11 (by decide) ?_
      exact W.zret (v := 1) hx hb hr (by decide) (fun t ht hW => ⟨_, rfl, (by simp only [and_true, true_and, and_false, false_and, and_self, not_true_eq_false, not_false_eq_true, c_2, Int32.not_lt.mp c_2, c_7, Int32.not_lt.mp c_7, ↓reduceIte]), ht⟩) (fun q hq => absurd hq List.not_mem_nil) dX5_in_15
set_option maxHeartbeats 1000000 in
set_option maxRecDepth 100000 in
/-- is the task critical -/
theorem c_X5_isHighTask (l : Launch) (dC : Nat → ClassId) (dI : Nat → Nat → Nat) (cy : Nat → ClassId) (m0 : Nat) (a : Nat → Nat) (I : Nat → Int32) (R : vG) (i : Nat) (hi8 : i < 8) : Met l yX5_isHighTask wsX5_isHighTask ({ frames := 0, cells := 0, slots := 0, locals := 0 }) (va_Pc [.ref m0, .int (nI i)] (fun U => va_P (dC, dI) vwCl (wMdl cy m0 a I R) U.heap ∧ EV dC dI cy U)) (vp_Si (fun r => r = (if Gs (R 1) 3 i ≤ 0 then 0 else 1))) 0 0 (fun _ => False) := by
  refine Met.ofW (cc := cX5_isHighTask) (maxL := 2) (ret := some .boolean) (by decide) rfl ?_
  intro p e s m args below meth c s₁ B hml hv
  obtain ⟨rfl, hP, hE⟩ := hv
  have hK := hE.1
  have hx := B.exec
  have hb := B.bytes
  have hr := B.returns
  have hts := atoms_spec (ws := wsX5_isHighTask) B.pre
  have hown : s.vm.findClass RX5 = some m.cls := findClass_of_methodNamed B.named
  have hlocks := B.notSynchronized
  have hin5 : ∀ w ∈ u_ws RX5 TX5 32, w ∈ wsX5_isHighTask := by decide +kernel
  have f_9 := hts (.fieldLink RX5 9 "DeadlineAdmissionModel" "s" "[I") (by decide +kernel)
  have hl := lv_entry ([.ref m0, .int (nI i)]) (n := 2) (Nat.le_of_ble_eq_true rfl)
  rw [lg_entry_eq]
  generalize (lg_sl ([.ref m0, .int (nI i)]) ++ List.replicate (2 - (lg_sl ([.ref m0, .int (nI i)])).length) Slot.unset).toArray = ls at hl ⊢
  have hl : lv_has ls 2 [(0, .ref m0), (1, .int (nI i))] := hl
  refine lv_aload_n hx hb dX5_isHighTask_0 rfl (lv_at hl 0 rfl) ?_
  refine va_get (D := (dC, dI)) (ci := 5) (v := .ref (a 1)) (C := RX5) (T := TX5) (N := 32) hx hb hts hin5 hown hK hP 0 rfl rfl 1 (by decide) f_9 (fun _ h9 => h9) rfl dX5_isHighTask_1 ?_
  refine lv_bipush (v := 26) hx hb dX5_isHighTask_4 (by decide) ?_
  refine lv_iload_n hx hb dX5_isHighTask_6 rfl (lv_at hl 1 rfl) ?_
  refine lv_iadd hx hb dX5_isHighTask_7 ?_
  refine wI_alv (v := Gs (R 1) 3 i) hx hb hK hP 1 0 rfl rfl (26 + i) (nadd rfl rfl) (by omega) (by decide) rfl dX5_isHighTask_8 ?_
  refine lv_if_le (tgt := 16) hx hb dX5_isHighTask_9 (by decide) (fun c_9 => ?_) (fun c_9 => ?_)
  · refine lv_iconst (v := 0) hx hb dX5_isHighTask_16 (by decide) ?_
    exact W.zret (v := 0) hx hb hr (by decide) (fun t ht hW => ⟨_, rfl, (by simp only [c_9, Int32.not_lt.mpr c_9, ↓reduceIte]), ht⟩) (fun q hq => absurd hq List.not_mem_nil) dX5_isHighTask_17
  · refine lv_iconst (v := 1) hx hb dX5_isHighTask_12 (by decide) ?_
    refine lv_goto (tgt := 17) hx hb dX5_isHighTask_13 (by decide) ?_
    exact W.zret (v := 1) hx hb hr (by decide) (fun t ht hW => ⟨_, rfl, (by simp only [c_9, Int32.not_le.mp c_9, ↓reduceIte]), ht⟩) (fun q hq => absurd hq List.not_mem_nil) dX5_isHighTask_17
set_option maxHeartbeats 1000000 in
set_option maxRecDepth 100000 in
/-- the effective period -/
theorem c_X5_periodOf (l : Launch) (dC : Nat → ClassId) (dI : Nat → Nat → Nat) (cy : Nat → ClassId) (m0 : Nat) (a : Nat → Nat) (I : Nat → Int32) (R : vG) (i : Nat) (hi8 : i < 8) (hok : okT (Gs (R 1)) i) : Met l yX5_periodOf wsX5_periodOf ({ frames := 0, cells := 0, slots := 0, locals := 0 }) (va_Pc [.ref m0, .int (nI i)] (fun U => va_P (dC, dI) vwCl (wMdl cy m0 a I R) U.heap ∧ EV dC dI cy U)) (vp_Si (fun r => r = per (Gs (R 1)) i)) 0 0 (fun _ => False) := by
  refine Met.ofW (cc := cX5_periodOf) (maxL := 2) (ret := some .int) (by decide) rfl ?_
  intro p e s m args below meth c s₁ B hml hv
  obtain ⟨rfl, hP, hE⟩ := hv
  have hK := hE.1
  have hx := B.exec
  have hb := B.bytes
  have hr := B.returns
  have hts := atoms_spec (ws := wsX5_periodOf) B.pre
  have hown : s.vm.findClass RX5 = some m.cls := findClass_of_methodNamed B.named
  have hlocks := B.notSynchronized
  have hin5 : ∀ w ∈ u_ws RX5 TX5 32, w ∈ wsX5_periodOf := by decide +kernel
  have f_9 := hts (.fieldLink RX5 9 "DeadlineAdmissionModel" "s" "[I") (by decide +kernel)
  have hl := lv_entry ([.ref m0, .int (nI i)]) (n := 2) (Nat.le_of_ble_eq_true rfl)
  rw [lg_entry_eq]
  generalize (lg_sl ([.ref m0, .int (nI i)]) ++ List.replicate (2 - (lg_sl ([.ref m0, .int (nI i)])).length) Slot.unset).toArray = ls at hl ⊢
  have hl : lv_has ls 2 [(0, .ref m0), (1, .int (nI i))] := hl
  refine lv_aload_n hx hb dX5_periodOf_0 rfl (lv_at hl 0 rfl) ?_
  refine va_get (D := (dC, dI)) (ci := 5) (v := .ref (a 1)) (C := RX5) (T := TX5) (N := 32) hx hb hts hin5 hown hK hP 0 rfl rfl 1 (by decide) f_9 (fun _ h9 => h9) rfl dX5_periodOf_1 ?_
  refine lv_iconst (v := 2) hx hb dX5_periodOf_4 (by decide) ?_
  refine lv_iload_n hx hb dX5_periodOf_5 rfl (lv_at hl 1 rfl) ?_
  refine lv_iadd hx hb dX5_periodOf_6 ?_
  refine wI_alv (v := Gs (R 1) 0 i) hx hb hK hP 1 0 rfl rfl (2 + i) (nadd rfl rfl) (by omega) (by decide) rfl dX5_periodOf_7 ?_
  refine lv_aload_n hx hb dX5_periodOf_8 rfl (lv_at hl 0 rfl) ?_
  refine va_get (D := (dC, dI)) (ci := 5) (v := .ref (a 1)) (C := RX5) (T := TX5) (N := 32) hx hb hts hin5 hown hK hP 0 rfl rfl 1 (by decide) f_9 (fun _ h9 => h9) rfl dX5_periodOf_9 ?_
  refine lv_bipush (v := 50) hx hb dX5_periodOf_12 (by decide) ?_
  refine lv_iload_n hx hb dX5_periodOf_14 rfl (lv_at hl 1 rfl) ?_
  refine lv_iadd hx hb dX5_periodOf_15 ?_
  refine wI_alv (v := Gs (R 1) 6 i) hx hb hK hP 1 0 rfl rfl (50 + i) (nadd rfl rfl) (by omega) (by decide) rfl dX5_periodOf_16 ?_
  refine lv_iconst (v := 1) hx hb dX5_periodOf_17 (by decide) ?_
  refine lv_iadd hx hb dX5_periodOf_18 ?_
  refine lv_imul hx hb dX5_periodOf_19 ?_
  exact W.iret (v := (Gs (R 1) 0 i) * ((Gs (R 1) 6 i) + 1)) hx hb hr (fun t ht hW => ⟨_, rfl, (by rw [per_ok hok]), ht⟩) (fun q hq => absurd hq List.not_mem_nil) dX5_periodOf_20
set_option maxHeartbeats 1000000 in
set_option maxRecDepth 100000 in
/-- the virtual deadline -/
theorem c_X5_virtualOf (l : Launch) (dC : Nat → ClassId) (dI : Nat → Nat → Nat) (cy : Nat → ClassId) (m0 : Nat) (a : Nat → Nat) (I : Nat → Int32) (R : vG) (i : Nat) (hi8 : i < 8) (hok : okT (Gs (R 1)) i) : Met l yX5_virtualOf wsX5_virtualOf ({ frames := 1, cells := 0, slots := 0, locals := 21 }) (va_Pc [.ref m0, .int (nI i)] (fun U => va_P (dC, dI) vwCl (wMdl cy m0 a I R) U.heap ∧ EV dC dI cy U)) (vp_Si (fun r => r = vdl (Gs (R 1)) (R 1 1) i)) 0 0 (fun _ => False) := by
  refine Met.ofW (cc := cX5_virtualOf) (maxL := 3) (ret := some .int) (by decide) rfl ?_
  intro p e s m args below meth c s₁ B hml hv
  obtain ⟨rfl, hP, hE⟩ := hv
  have hK := hE.1
  have hx := B.exec
  have hb := B.bytes
  have hr := B.returns
  have hts := atoms_spec (ws := wsX5_virtualOf) B.pre
  have hown : s.vm.findClass RX5 = some m.cls := findClass_of_methodNamed B.named
  have hlocks := B.notSynchronized
  have hin5 : ∀ w ∈ u_ws RX5 TX5 32, w ∈ wsX5_virtualOf := by decide +kernel
  have f_9 := hts (.fieldLink RX5 9 "DeadlineAdmissionModel" "s" "[I") (by decide +kernel)
  have hl := lv_entry ([.ref m0, .int (nI i)]) (n := 3) (Nat.le_of_ble_eq_true rfl)
  rw [lg_entry_eq]
  generalize (lg_sl ([.ref m0, .int (nI i)]) ++ List.replicate (3 - (lg_sl ([.ref m0, .int (nI i)])).length) Slot.unset).toArray = ls at hl ⊢
  have hl : lv_has ls 3 [(0, .ref m0), (1, .int (nI i))] := hl
  refine lv_aload_n hx hb dX5_virtualOf_0 rfl (lv_at hl 0 rfl) ?_
  refine lv_iload_n hx hb dX5_virtualOf_1 rfl (lv_at hl 1 rfl) ?_
  refine vp_callSi (va_runV (As := [.int (nI i)]) (rest := []) ⟨hx, hb, hml, hown, hts⟩ (c_X5_isHighTask l dC dI cy m0 a I R  i (by omega)) (cwV 1 hts gX5_virtualOf_X5_isHighTask rfl rfl rfl (by decide +kernel) ⟨Nat.le_of_ble_eq_true rfl, Nat.le_of_ble_eq_true rfl⟩) ⟨bl_ro, va_recv hK hP (ci := 5) (q0 := 0) rfl rfl, pr_ro hP hE⟩ rfl rfl hl.1 rfl (lv_room (Nat.le_of_ble_eq_true rfl)) dX5_virtualOf_2 ⟨Nat.le_of_ble_eq_true rfl, Nat.le_of_ble_eq_true rfl⟩).run (fun r e_r => ?_)
  subst e_r
  refine lv_if_ne (tgt := 18) hx hb dX5_virtualOf_5 (by decide) (fun c_5 => ?_) (fun c_5 => ?_)
  · refine lv_aload_n hx hb dX5_virtualOf_18 rfl (lv_at hl 0 rfl) ?_
    refine va_get (D := (dC, dI)) (ci := 5) (v := .ref (a 1)) (C := RX5) (T := TX5) (N := 32) hx hb hts hin5 hown hK hP 0 rfl rfl 1 (by decide) f_9 (fun _ h9 => h9) rfl dX5_virtualOf_19 ?_
    refine lv_bipush (v := 10) hx hb dX5_virtualOf_22 (by decide) ?_
    refine lv_iload_n hx hb dX5_virtualOf_24 rfl (lv_at hl 1 rfl) ?_
    refine lv_iadd hx hb dX5_virtualOf_25 ?_
    refine wI_alv (v := Gs (R 1) 1 i) hx hb hK hP 1 0 rfl rfl (10 + i) (nadd rfl rfl) (by omega) (by decide) rfl dX5_virtualOf_26 ?_
    refine lv_aload_n hx hb dX5_virtualOf_27 rfl (lv_at hl 0 rfl) ?_
    refine va_get (D := (dC, dI)) (ci := 5) (v := .ref (a 1)) (C := RX5) (T := TX5) (N := 32) hx hb hts hin5 hown hK hP 0 rfl rfl 1 (by decide) f_9 (fun _ h9 => h9) rfl dX5_virtualOf_28 ?_
    refine lv_iconst (v := 1) hx hb dX5_virtualOf_31 (by decide) ?_
    refine wI_alv (v := R 1 1) hx hb hK hP 1 0 rfl rfl 1 rfl (by omega) (by decide) rfl dX5_virtualOf_32 ?_
    refine lv_imul hx hb dX5_virtualOf_33 ?_
    refine lv_bipush (v := 8) hx hb dX5_virtualOf_34 (by decide) ?_
    refine lv_idiv hx hb dX5_virtualOf_36 (by decide) ?_
    refine lv_istore_n (lv' := [(2, .int (((Gs (R 1) 1 i) * (R 1 1)) / 8)), (0, .ref m0), (1, .int (nI i))]) hx hb dX5_virtualOf_37 rfl hl (by decide) rfl (fun ls hl => ?_)
    refine lv_iload_n hx hb dX5_virtualOf_38 rfl (lv_at hl 0 rfl) ?_
    refine lv_aload_n hx hb dX5_virtualOf_39 rfl (lv_at hl 1 rfl) ?_
    refine va_get (D := (dC, dI)) (ci := 5) (v := .ref (a 1)) (C := RX5) (T := TX5) (N := 32) hx hb hts hin5 hown hK hP 0 rfl rfl 1 (by decide) f_9 (fun _ h9 => h9) rfl dX5_virtualOf_40 ?_
    refine lv_bipush (v := 18) hx hb dX5_virtualOf_43 (by decide) ?_
    refine lv_iload_n hx hb dX5_virtualOf_45 rfl (lv_at hl 2 rfl) ?_
    refine lv_iadd hx hb dX5_virtualOf_46 ?_
    refine wI_alv (v := Gs (R 1) 2 i) hx hb hK hP 1 0 rfl rfl (18 + i) (nadd rfl rfl) (by omega) (by decide) rfl dX5_virtualOf_47 ?_
    refine lv_icmp_ge (tgt := 63) hx hb dX5_virtualOf_48 (by decide) (fun c_48 => ?_) (fun c_48 => ?_)
    · refine lv_iload_n hx hb dX5_virtualOf_63 rfl (lv_at hl 0 rfl) ?_
      exact W.iret (v := ((Gs (R 1) 1 i) * (R 1 1)) / 8) hx hb hr (fun t ht hW => ⟨_, rfl, (by rw [vd_ok hok, if_neg (fun h => c_5 (b01.mpr h)), if_pos c_48]), ht⟩) (fun q hq => absurd hq List.not_mem_nil) dX5_virtualOf_64
    · refine lv_aload_n hx hb dX5_virtualOf_51 rfl (lv_at hl 1 rfl) ?_
      refine va_get (D := (dC, dI)) (ci := 5) (v := .ref (a 1)) (C := RX5) (T := TX5) (N := 32) hx hb hts hin5 hown hK hP 0 rfl rfl 1 (by decide) f_9 (fun _ h9 => h9) rfl dX5_virtualOf_52 ?_
      refine lv_bipush (v := 18) hx hb dX5_virtualOf_55 (by decide) ?_
      refine lv_iload_n hx hb dX5_virtualOf_57 rfl (lv_at hl 2 rfl) ?_
      refine lv_iadd hx hb dX5_virtualOf_58 ?_
      refine wI_alv (v := Gs (R 1) 2 i) hx hb hK hP 1 0 rfl rfl (18 + i) (nadd rfl rfl) (by omega) (by decide) rfl dX5_virtualOf_59 ?_
      refine lv_goto (tgt := 64) hx hb dX5_virtualOf_60 (by decide) ?_
      exact W.iret (v := Gs (R 1) 2 i) hx hb hr (fun t ht hW => ⟨_, rfl, (by rw [vd_ok hok, if_neg (fun h => c_5 (b01.mpr h)), if_neg c_48]), ht⟩) (fun q hq => absurd hq List.not_mem_nil) dX5_virtualOf_64
  · refine lv_aload_n hx hb dX5_virtualOf_8 rfl (lv_at hl 0 rfl) ?_
    refine va_get (D := (dC, dI)) (ci := 5) (v := .ref (a 1)) (C := RX5) (T := TX5) (N := 32) hx hb hts hin5 hown hK hP 0 rfl rfl 1 (by decide) f_9 (fun _ h9 => h9) rfl dX5_virtualOf_9 ?_
    refine lv_bipush (v := 10) hx hb dX5_virtualOf_12 (by decide) ?_
    refine lv_iload_n hx hb dX5_virtualOf_14 rfl (lv_at hl 1 rfl) ?_
    refine lv_iadd hx hb dX5_virtualOf_15 ?_
    refine wI_alv (v := Gs (R 1) 1 i) hx hb hK hP 1 0 rfl rfl (10 + i) (nadd rfl rfl) (by omega) (by decide) rfl dX5_virtualOf_16 ?_
    exact W.iret (v := Gs (R 1) 1 i) hx hb hr (fun t ht hW => ⟨_, rfl, (by rw [vd_ok hok, if_pos (b01.mp c_5)]), ht⟩) (fun q hq => absurd hq List.not_mem_nil) dX5_virtualOf_17

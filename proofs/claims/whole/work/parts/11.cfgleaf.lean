/-! PART 11: Configuration, the reads over one task -/
set_option maxHeartbeats 1000000 in
set_option maxRecDepth 100000 in
/-- is the task critical -/
theorem c_X0_hasHighBudget (l : Launch) (dC : Nat → ClassId) (dI : Nat → Nat → Nat) (cy : Nat → ClassId) (c0 : Nat) (b : Nat → Nat) (G : vG) (n sc : Int32) (i : Nat) (hi8 : i < 8) : Met l yX0_hasHighBudget wsX0_hasHighBudget ({ frames := 0, cells := 0, slots := 0, locals := 0 }) (va_Pc [.ref c0, .int (nI i)] (fun U => va_P (dC, dI) vwCl (wCfg cy c0 b G n sc) U.heap ∧ EV dC dI cy U)) (vp_Si (fun r => r = (if G 3 i ≤ 0 then 0 else 1))) 0 0 (fun _ => False) := by
  refine Met.ofW (cc := cX0_hasHighBudget) (maxL := 2) (ret := some .boolean) (by decide) rfl ?_
  intro p e s m args below meth c s₁ B hml hv
  obtain ⟨rfl, hP, hE⟩ := hv
  have hK := hE.1
  have hx := B.exec
  have hb := B.bytes
  have hr := B.returns
  have hts := atoms_spec (ws := wsX0_hasHighBudget) B.pre
  have hown : s.vm.findClass RX0 = some m.cls := findClass_of_methodNamed B.named
  have hlocks := B.notSynchronized
  have hin0 : ∀ w ∈ u_ws RX0 TX0 9, w ∈ wsX0_hasHighBudget := by decide +kernel
  have f_21 := hts (.fieldLink RX0 21 "DeadlineAdmission$Configuration" "highBudget" "[I") (by decide +kernel)
  have hl := lv_entry ([.ref c0, .int (nI i)]) (n := 2) (Nat.le_of_ble_eq_true rfl)
  rw [lg_entry_eq]
  generalize (lg_sl ([.ref c0, .int (nI i)]) ++ List.replicate (2 - (lg_sl ([.ref c0, .int (nI i)])).length) Slot.unset).toArray = ls at hl ⊢
  have hl : lv_has ls 2 [(0, .ref c0), (1, .int (nI i))] := hl
  refine lv_aload_n hx hb dX0_hasHighBudget_0 rfl (lv_at hl 0 rfl) ?_
  refine va_get (D := (dC, dI)) (ci := 0) (v := .ref (b 3)) (C := RX0) (T := TX0) (N := 9) hx hb hts hin0 hown hK hP 0 rfl rfl 3 (by decide) f_21 (fun _ h9 => h9) rfl dX0_hasHighBudget_1 ?_
  refine lv_iload_n hx hb dX0_hasHighBudget_4 rfl (lv_at hl 1 rfl) ?_
  refine wI_alv (v := G 3 i) hx hb hK hP 4 0 rfl rfl i rfl (by omega) (by decide) rfl dX0_hasHighBudget_5 ?_
  refine lv_if_le (tgt := 13) hx hb dX0_hasHighBudget_6 (by decide) (fun c_6 => ?_) (fun c_6 => ?_)
  · refine lv_iconst (v := 0) hx hb dX0_hasHighBudget_13 (by decide) ?_
    exact W.zret (v := 0) hx hb hr (by decide) (fun t ht hW => ⟨_, rfl, (by simp only [c_6, Int32.not_lt.mpr c_6, ↓reduceIte]), ht⟩) (fun q hq => absurd hq List.not_mem_nil) dX0_hasHighBudget_14
  · refine lv_iconst (v := 1) hx hb dX0_hasHighBudget_9 (by decide) ?_
    refine lv_goto (tgt := 14) hx hb dX0_hasHighBudget_10 (by decide) ?_
    exact W.zret (v := 1) hx hb hr (by decide) (fun t ht hW => ⟨_, rfl, (by simp only [c_6, Int32.not_le.mp c_6, ↓reduceIte]), ht⟩) (fun q hq => absurd hq List.not_mem_nil) dX0_hasHighBudget_14
set_option maxHeartbeats 1000000 in
set_option maxRecDepth 100000 in
/-- the effective period -/
theorem c_X0_effectivePeriod (l : Launch) (dC : Nat → ClassId) (dI : Nat → Nat → Nat) (cy : Nat → ClassId) (c0 : Nat) (b : Nat → Nat) (G : vG) (n sc : Int32) (i : Nat) (hi8 : i < 8) : Met l yX0_effectivePeriod wsX0_effectivePeriod ({ frames := 0, cells := 0, slots := 0, locals := 0 }) (va_Pc [.ref c0, .int (nI i)] (fun U => va_P (dC, dI) vwCl (wCfg cy c0 b G n sc) U.heap ∧ EV dC dI cy U)) (vp_Si (fun r => r = per G i)) 0 0 (fun _ => False) := by
  refine Met.ofW (cc := cX0_effectivePeriod) (maxL := 3) (ret := some .int) (by decide) rfl ?_
  intro p e s m args below meth c s₁ B hml hv
  obtain ⟨rfl, hP, hE⟩ := hv
  have hK := hE.1
  have hx := B.exec
  have hb := B.bytes
  have hr := B.returns
  have hts := atoms_spec (ws := wsX0_effectivePeriod) B.pre
  have hown : s.vm.findClass RX0 = some m.cls := findClass_of_methodNamed B.named
  have hlocks := B.notSynchronized
  have hin0 : ∀ w ∈ u_ws RX0 TX0 9, w ∈ wsX0_effectivePeriod := by decide +kernel
  have f_30 := hts (.fieldLink RX0 30 "DeadlineAdmission$Configuration" "level" "[I") (by decide +kernel)
  have f_9 := hts (.fieldLink RX0 9 "DeadlineAdmission$Configuration" "basePeriod" "[I") (by decide +kernel)
  have hl := lv_entry ([.ref c0, .int (nI i)]) (n := 3) (Nat.le_of_ble_eq_true rfl)
  rw [lg_entry_eq]
  generalize (lg_sl ([.ref c0, .int (nI i)]) ++ List.replicate (3 - (lg_sl ([.ref c0, .int (nI i)])).length) Slot.unset).toArray = ls at hl ⊢
  have hl : lv_has ls 3 [(0, .ref c0), (1, .int (nI i))] := hl
  refine lv_aload_n hx hb dX0_effectivePeriod_0 rfl (lv_at hl 0 rfl) ?_
  refine va_get (D := (dC, dI)) (ci := 0) (v := .ref (b 0)) (C := RX0) (T := TX0) (N := 9) hx hb hts hin0 hown hK hP 0 rfl rfl 0 (by decide) f_9 (fun _ h9 => h9) rfl dX0_effectivePeriod_1 ?_
  refine lv_iload_n hx hb dX0_effectivePeriod_4 rfl (lv_at hl 1 rfl) ?_
  refine wI_alv (v := G 0 i) hx hb hK hP 1 0 rfl rfl i rfl (by omega) (by decide) rfl dX0_effectivePeriod_5 ?_
  refine lv_aload_n hx hb dX0_effectivePeriod_6 rfl (lv_at hl 0 rfl) ?_
  refine va_get (D := (dC, dI)) (ci := 0) (v := .ref (b 6)) (C := RX0) (T := TX0) (N := 9) hx hb hts hin0 hown hK hP 0 rfl rfl 6 (by decide) f_30 (fun _ h9 => h9) rfl dX0_effectivePeriod_7 ?_
  refine lv_iload_n hx hb dX0_effectivePeriod_10 rfl (lv_at hl 1 rfl) ?_
  refine wI_alv (v := G 6 i) hx hb hK hP 7 0 rfl rfl i rfl (by omega) (by decide) rfl dX0_effectivePeriod_11 ?_
  refine lv_iconst (v := 1) hx hb dX0_effectivePeriod_12 (by decide) ?_
  refine lv_iadd hx hb dX0_effectivePeriod_13 ?_
  refine lv_imul hx hb dX0_effectivePeriod_14 ?_
  refine lv_istore_n (lv' := [(2, .int ((G 0 i) * ((G 6 i) + 1))), (0, .ref c0), (1, .int (nI i))]) hx hb dX0_effectivePeriod_15 rfl hl (by decide) rfl (fun ls hl => ?_)
  refine lv_iload_n hx hb dX0_effectivePeriod_16 rfl (lv_at hl 0 rfl) ?_
  refine lv_iconst (v := 1) hx hb dX0_effectivePeriod_17 (by decide) ?_
  refine lv_icmp_lt (tgt := 25) hx hb dX0_effectivePeriod_18 (by decide) (fun c_18 => ?_) (fun c_18 => ?_)
  · refine lv_iconst (v := 1) hx hb dX0_effectivePeriod_25 (by decide) ?_
    exact W.iret (v := 1) hx hb hr (fun t ht hW => ⟨_, rfl, (by simp only [per, c_18, Int32.not_le.mpr c_18, ↓reduceIte]), ht⟩) (fun q hq => absurd hq List.not_mem_nil) dX0_effectivePeriod_26
  · refine lv_iload_n hx hb dX0_effectivePeriod_21 rfl (lv_at hl 0 rfl) ?_
    refine lv_goto (tgt := 26) hx hb dX0_effectivePeriod_22 (by decide) ?_
    exact W.iret (v := (G 0 i) * ((G 6 i) + 1)) hx hb hr (fun t ht hW => ⟨_, rfl, (by simp only [per, c_18, Int32.not_lt.mp c_18, ↓reduceIte]), ht⟩) (fun q hq => absurd hq List.not_mem_nil) dX0_effectivePeriod_26
set_option maxHeartbeats 1000000 in
set_option maxRecDepth 100000 in
/-- the virtual deadline -/
theorem c_X0_deadlineWithScale (l : Launch) (dC : Nat → ClassId) (dI : Nat → Nat → Nat) (cy : Nat → ClassId) (c0 : Nat) (b : Nat → Nat) (G : vG) (n sc : Int32) (p1 : Int32) (i : Nat) (hi8 : i < 8) : Met l yX0_deadlineWithScale wsX0_deadlineWithScale ({ frames := 0, cells := 0, slots := 0, locals := 0 }) (va_Pc [.ref c0, .int (nI i), .int p1] (fun U => va_P (dC, dI) vwCl (wCfg cy c0 b G n sc) U.heap ∧ EV dC dI cy U)) (vp_Si (fun r => r = vdl G p1 i)) 0 0 (fun _ => False) := by
  refine Met.ofW (cc := cX0_deadlineWithScale) (maxL := 4) (ret := some .int) (by decide) rfl ?_
  intro p e s m args below meth c s₁ B hml hv
  obtain ⟨rfl, hP, hE⟩ := hv
  have hK := hE.1
  have hx := B.exec
  have hb := B.bytes
  have hr := B.returns
  have hts := atoms_spec (ws := wsX0_deadlineWithScale) B.pre
  have hown : s.vm.findClass RX0 = some m.cls := findClass_of_methodNamed B.named
  have hlocks := B.notSynchronized
  have hin0 : ∀ w ∈ u_ws RX0 TX0 9, w ∈ wsX0_deadlineWithScale := by decide +kernel
  have f_15 := hts (.fieldLink RX0 15 "DeadlineAdmission$Configuration" "deadline" "[I") (by decide +kernel)
  have f_18 := hts (.fieldLink RX0 18 "DeadlineAdmission$Configuration" "lowBudget" "[I") (by decide +kernel)
  have f_21 := hts (.fieldLink RX0 21 "DeadlineAdmission$Configuration" "highBudget" "[I") (by decide +kernel)
  have hl := lv_entry ([.ref c0, .int (nI i), .int p1]) (n := 4) (Nat.le_of_ble_eq_true rfl)
  rw [lg_entry_eq]
  generalize (lg_sl ([.ref c0, .int (nI i), .int p1]) ++ List.replicate (4 - (lg_sl ([.ref c0, .int (nI i), .int p1])).length) Slot.unset).toArray = ls at hl ⊢
  have hl : lv_has ls 4 [(0, .ref c0), (1, .int (nI i)), (2, .int p1)] := hl
  refine lv_aload_n hx hb dX0_deadlineWithScale_0 rfl (lv_at hl 0 rfl) ?_
  refine va_get (D := (dC, dI)) (ci := 0) (v := .ref (b 3)) (C := RX0) (T := TX0) (N := 9) hx hb hts hin0 hown hK hP 0 rfl rfl 3 (by decide) f_21 (fun _ h9 => h9) rfl dX0_deadlineWithScale_1 ?_
  refine lv_iload_n hx hb dX0_deadlineWithScale_4 rfl (lv_at hl 1 rfl) ?_
  refine wI_alv (v := G 3 i) hx hb hK hP 4 0 rfl rfl i rfl (by omega) (by decide) rfl dX0_deadlineWithScale_5 ?_
  refine lv_if_ne (tgt := 16) hx hb dX0_deadlineWithScale_6 (by decide) (fun c_6 => ?_) (fun c_6 => ?_)
  · refine lv_aload_n hx hb dX0_deadlineWithScale_16 rfl (lv_at hl 0 rfl) ?_
    refine va_get (D := (dC, dI)) (ci := 0) (v := .ref (b 1)) (C := RX0) (T := TX0) (N := 9) hx hb hts hin0 hown hK hP 0 rfl rfl 1 (by decide) f_15 (fun _ h9 => h9) rfl dX0_deadlineWithScale_17 ?_
    refine lv_iload_n hx hb dX0_deadlineWithScale_20 rfl (lv_at hl 1 rfl) ?_
    refine wI_alv (v := G 1 i) hx hb hK hP 2 0 rfl rfl i rfl (by omega) (by decide) rfl dX0_deadlineWithScale_21 ?_
    refine lv_iload_n hx hb dX0_deadlineWithScale_22 rfl (lv_at hl 2 rfl) ?_
    refine lv_imul hx hb dX0_deadlineWithScale_23 ?_
    refine lv_bipush (v := 8) hx hb dX0_deadlineWithScale_24 (by decide) ?_
    refine lv_idiv hx hb dX0_deadlineWithScale_26 (by decide) ?_
    refine lv_istore_n (lv' := [(3, .int (((G 1 i) * p1) / 8)), (0, .ref c0), (1, .int (nI i)), (2, .int p1)]) hx hb dX0_deadlineWithScale_27 rfl hl (by decide) rfl (fun ls hl => ?_)
    refine lv_iload_n hx hb dX0_deadlineWithScale_28 rfl (lv_at hl 0 rfl) ?_
    refine lv_aload_n hx hb dX0_deadlineWithScale_29 rfl (lv_at hl 1 rfl) ?_
    refine va_get (D := (dC, dI)) (ci := 0) (v := .ref (b 2)) (C := RX0) (T := TX0) (N := 9) hx hb hts hin0 hown hK hP 0 rfl rfl 2 (by decide) f_18 (fun _ h9 => h9) rfl dX0_deadlineWithScale_30 ?_
    refine lv_iload_n hx hb dX0_deadlineWithScale_33 rfl (lv_at hl 2 rfl) ?_
    refine wI_alv (v := G 2 i) hx hb hK hP 3 0 rfl rfl i rfl (by omega) (by decide) rfl dX0_deadlineWithScale_34 ?_
    refine lv_icmp_le (tgt := 42) hx hb dX0_deadlineWithScale_35 (by decide) (fun c_35 => ?_) (fun c_35 => ?_)
    · refine lv_aload_n hx hb dX0_deadlineWithScale_42 rfl (lv_at hl 1 rfl) ?_
      refine va_get (D := (dC, dI)) (ci := 0) (v := .ref (b 2)) (C := RX0) (T := TX0) (N := 9) hx hb hts hin0 hown hK hP 0 rfl rfl 2 (by decide) f_18 (fun _ h9 => h9) rfl dX0_deadlineWithScale_43 ?_
      refine lv_iload_n hx hb dX0_deadlineWithScale_46 rfl (lv_at hl 2 rfl) ?_
      refine wI_alv (v := G 2 i) hx hb hK hP 3 0 rfl rfl i rfl (by omega) (by decide) rfl dX0_deadlineWithScale_47 ?_
      exact W.iret (v := G 2 i) hx hb hr (fun t ht hW => ⟨_, rfl, (by simp only [vdl, c_6, c_35, Int32.not_lt.mpr c_35, ↓reduceIte]), ht⟩) (fun q hq => absurd hq List.not_mem_nil) dX0_deadlineWithScale_48
    · refine lv_iload_n hx hb dX0_deadlineWithScale_38 rfl (lv_at hl 0 rfl) ?_
      refine lv_goto (tgt := 48) hx hb dX0_deadlineWithScale_39 (by decide) ?_
      exact W.iret (v := ((G 1 i) * p1) / 8) hx hb hr (fun t ht hW => ⟨_, rfl, (by simp only [vdl, c_6, c_35, Int32.not_le.mp c_35, ↓reduceIte]), ht⟩) (fun q hq => absurd hq List.not_mem_nil) dX0_deadlineWithScale_48
  · refine lv_aload_n hx hb dX0_deadlineWithScale_9 rfl (lv_at hl 0 rfl) ?_
    refine va_get (D := (dC, dI)) (ci := 0) (v := .ref (b 1)) (C := RX0) (T := TX0) (N := 9) hx hb hts hin0 hown hK hP 0 rfl rfl 1 (by decide) f_15 (fun _ h9 => h9) rfl dX0_deadlineWithScale_10 ?_
    refine lv_iload_n hx hb dX0_deadlineWithScale_13 rfl (lv_at hl 1 rfl) ?_
    refine wI_alv (v := G 1 i) hx hb hK hP 2 0 rfl rfl i rfl (by omega) (by decide) rfl dX0_deadlineWithScale_14 ?_
    exact W.iret (v := G 1 i) hx hb hr (fun t ht hW => ⟨_, rfl, (by simp only [vdl, c_6, ↓reduceIte]), ht⟩) (fun q hq => absurd hq List.not_mem_nil) dX0_deadlineWithScale_15
set_option maxHeartbeats 1000000 in
set_option maxRecDepth 100000 in
/-- the demand in low mode -/
theorem c_X0_lowDemand (l : Launch) (dC : Nat → ClassId) (dI : Nat → Nat → Nat) (cy : Nat → ClassId) (c0 : Nat) (b : Nat → Nat) (G : vG) (n sc : Int32) (p1 p2 p3 : Int32) (i : Nat) (hi8 : i < 8) (h_nz : ¬ p3 = 0) : Met l yX0_lowDemand wsX0_lowDemand ({ frames := 0, cells := 0, slots := 0, locals := 0 }) (va_Pc [.ref c0, .int (nI i), .int p1, .int p2, .int p3] (fun U => va_P (dC, dI) vwCl (wCfg cy c0 b G n sc) U.heap ∧ EV dC dI cy U)) (vp_Si (fun r => r = loD G i p1 p2 p3)) 0 0 (fun _ => False) := by
  refine Met.ofW (cc := cX0_lowDemand) (maxL := 5) (ret := some .int) (by decide) rfl ?_
  intro p e s m args below meth c s₁ B hml hv
  obtain ⟨rfl, hP, hE⟩ := hv
  have hK := hE.1
  have hx := B.exec
  have hb := B.bytes
  have hr := B.returns
  have hts := atoms_spec (ws := wsX0_lowDemand) B.pre
  have hown : s.vm.findClass RX0 = some m.cls := findClass_of_methodNamed B.named
  have hlocks := B.notSynchronized
  have hin0 : ∀ w ∈ u_ws RX0 TX0 9, w ∈ wsX0_lowDemand := by decide +kernel
  have f_18 := hts (.fieldLink RX0 18 "DeadlineAdmission$Configuration" "lowBudget" "[I") (by decide +kernel)
  have hl := lv_entry ([.ref c0, .int (nI i), .int p1, .int p2, .int p3]) (n := 5) (Nat.le_of_ble_eq_true rfl)
  rw [lg_entry_eq]
  generalize (lg_sl ([.ref c0, .int (nI i), .int p1, .int p2, .int p3]) ++ List.replicate (5 - (lg_sl ([.ref c0, .int (nI i), .int p1, .int p2, .int p3])).length) Slot.unset).toArray = ls at hl ⊢
  have hl : lv_has ls 5 [(0, .ref c0), (1, .int (nI i)), (2, .int p1), (3, .int p2), (4, .int p3)] := hl
  refine lv_iload_n hx hb dX0_lowDemand_0 rfl (lv_at hl 2 rfl) ?_
  refine lv_iload_n hx hb dX0_lowDemand_1 rfl (lv_at hl 3 rfl) ?_
  refine lv_icmp_ge (tgt := 7) hx hb dX0_lowDemand_2 (by decide) (fun c_2 => ?_) (fun c_2 => ?_)
  · refine lv_aload_n hx hb dX0_lowDemand_7 rfl (lv_at hl 0 rfl) ?_
    refine va_get (D := (dC, dI)) (ci := 0) (v := .ref (b 2)) (C := RX0) (T := TX0) (N := 9) hx hb hts hin0 hown hK hP 0 rfl rfl 2 (by decide) f_18 (fun _ h9 => h9) rfl dX0_lowDemand_8 ?_
    refine lv_iload_n hx hb dX0_lowDemand_11 rfl (lv_at hl 1 rfl) ?_
    refine wI_alv (v := G 2 i) hx hb hK hP 3 0 rfl rfl i rfl (by omega) (by decide) rfl dX0_lowDemand_12 ?_
    refine lv_iconst (v := 1) hx hb dX0_lowDemand_13 (by decide) ?_
    refine lv_iload_n hx hb dX0_lowDemand_14 rfl (lv_at hl 2 rfl) ?_
    refine lv_iload_n hx hb dX0_lowDemand_15 rfl (lv_at hl 3 rfl) ?_
    refine lv_isub hx hb dX0_lowDemand_16 ?_
    refine lv_iload hx hb dX0_lowDemand_17 (lv_at hl 4 rfl) ?_
    refine lv_idiv hx hb dX0_lowDemand_19 h_nz ?_
    refine lv_iadd hx hb dX0_lowDemand_20 ?_
    refine lv_imul hx hb dX0_lowDemand_21 ?_
    exact W.iret (v := (G 2 i) * (1 + ((p1 - p2) / p3))) hx hb hr (fun t ht hW => ⟨_, rfl, (by simp only [loD, c_2, Int32.not_lt.mpr c_2, ↓reduceIte]), ht⟩) (fun q hq => absurd hq List.not_mem_nil) dX0_lowDemand_22
  · refine lv_iconst (v := 0) hx hb dX0_lowDemand_5 (by decide) ?_
    exact W.iret (v := 0) hx hb hr (fun t ht hW => ⟨_, rfl, (by simp only [loD, c_2, Int32.not_le.mp c_2, ↓reduceIte]), ht⟩) (fun q hq => absurd hq List.not_mem_nil) dX0_lowDemand_6
set_option maxHeartbeats 1000000 in
set_option maxRecDepth 100000 in
/-- the demand in high mode -/
theorem c_X0_highDemand (l : Launch) (dC : Nat → ClassId) (dI : Nat → Nat → Nat) (cy : Nat → ClassId) (c0 : Nat) (b : Nat → Nat) (G : vG) (n sc : Int32) (p1 p2 p3 : Int32) (i : Nat) (hi8 : i < 8) (h_nz : ¬ p3 = 0) : Met l yX0_highDemand wsX0_highDemand ({ frames := 0, cells := 0, slots := 0, locals := 0 }) (va_Pc [.ref c0, .int (nI i), .int p1, .int p2, .int p3] (fun U => va_P (dC, dI) vwCl (wCfg cy c0 b G n sc) U.heap ∧ EV dC dI cy U)) (vp_Si (fun r => r = hiD G i p1 p2 p3)) 0 0 (fun _ => False) := by
  refine Met.ofW (cc := cX0_highDemand) (maxL := 9) (ret := some .int) (by decide) rfl ?_
  intro p e s m args below meth c s₁ B hml hv
  obtain ⟨rfl, hP, hE⟩ := hv
  have hK := hE.1
  have hx := B.exec
  have hb := B.bytes
  have hr := B.returns
  have hts := atoms_spec (ws := wsX0_highDemand) B.pre
  have hown : s.vm.findClass RX0 = some m.cls := findClass_of_methodNamed B.named
  have hlocks := B.notSynchronized
  have hin0 : ∀ w ∈ u_ws RX0 TX0 9, w ∈ wsX0_highDemand := by decide +kernel
  have f_15 := hts (.fieldLink RX0 15 "DeadlineAdmission$Configuration" "deadline" "[I") (by decide +kernel)
  have f_18 := hts (.fieldLink RX0 18 "DeadlineAdmission$Configuration" "lowBudget" "[I") (by decide +kernel)
  have f_21 := hts (.fieldLink RX0 21 "DeadlineAdmission$Configuration" "highBudget" "[I") (by decide +kernel)
  have hl := lv_entry ([.ref c0, .int (nI i), .int p1, .int p2, .int p3]) (n := 9) (Nat.le_of_ble_eq_true rfl)
  rw [lg_entry_eq]
  generalize (lg_sl ([.ref c0, .int (nI i), .int p1, .int p2, .int p3]) ++ List.replicate (9 - (lg_sl ([.ref c0, .int (nI i), .int p1, .int p2, .int p3])).length) Slot.unset).toArray = ls at hl ⊢
  have hl : lv_has ls 9 [(0, .ref c0), (1, .int (nI i)), (2, .int p1), (3, .int p2), (4, .int p3)] := hl
  refine lv_iload_n hx hb dX0_highDemand_0 rfl (lv_at hl 2 rfl) ?_
  refine lv_iload_n hx hb dX0_highDemand_1 rfl (lv_at hl 3 rfl) ?_
  refine lv_icmp_ge (tgt := 7) hx hb dX0_highDemand_2 (by decide) (fun c_2 => ?_) (fun c_2 => ?_)
  · refine lv_iload_n hx hb dX0_highDemand_7 rfl (lv_at hl 2 rfl) ?_
    refine lv_iload hx hb dX0_highDemand_8 (lv_at hl 4 rfl) ?_
    refine lv_irem hx hb dX0_highDemand_10 h_nz ?_
    refine lv_istore (lv' := [(5, .int (p1 - p1 / p3 * p3)), (0, .ref c0), (1, .int (nI i)), (2, .int p1), (3, .int p2), (4, .int p3)]) hx hb dX0_highDemand_11 hl (by decide) rfl (fun ls hl => ?_)
    refine lv_aload_n hx hb dX0_highDemand_13 rfl (lv_at hl 1 rfl) ?_
    refine va_get (D := (dC, dI)) (ci := 0) (v := .ref (b 3)) (C := RX0) (T := TX0) (N := 9) hx hb hts hin0 hown hK hP 0 rfl rfl 3 (by decide) f_21 (fun _ h9 => h9) rfl dX0_highDemand_14 ?_
    refine lv_iload_n hx hb dX0_highDemand_17 rfl (lv_at hl 2 rfl) ?_
    refine wI_alv (v := G 3 i) hx hb hK hP 4 0 rfl rfl i rfl (by omega) (by decide) rfl dX0_highDemand_18 ?_
    refine lv_iconst (v := 1) hx hb dX0_highDemand_19 (by decide) ?_
    refine lv_iload_n hx hb dX0_highDemand_20 rfl (lv_at hl 3 rfl) ?_
    refine lv_iload_n hx hb dX0_highDemand_21 rfl (lv_at hl 4 rfl) ?_
    refine lv_isub hx hb dX0_highDemand_22 ?_
    refine lv_iload hx hb dX0_highDemand_23 (lv_at hl 5 rfl) ?_
    refine lv_idiv hx hb dX0_highDemand_25 h_nz ?_
    refine lv_iadd hx hb dX0_highDemand_26 ?_
    refine lv_imul hx hb dX0_highDemand_27 ?_
    refine lv_istore (lv' := [(6, .int ((G 3 i) * (1 + ((p1 - p2) / p3)))), (5, .int (p1 - p1 / p3 * p3)), (0, .ref c0), (1, .int (nI i)), (2, .int p1), (3, .int p2), (4, .int p3)]) hx hb dX0_highDemand_28 hl (by decide) rfl (fun ls hl => ?_)
    refine lv_aload_n hx hb dX0_highDemand_30 rfl (lv_at hl 2 rfl) ?_
    refine va_get (D := (dC, dI)) (ci := 0) (v := .ref (b 2)) (C := RX0) (T := TX0) (N := 9) hx hb hts hin0 hown hK hP 0 rfl rfl 2 (by decide) f_18 (fun _ h9 => h9) rfl dX0_highDemand_31 ?_
    refine lv_iload_n hx hb dX0_highDemand_34 rfl (lv_at hl 3 rfl) ?_
    refine wI_alv (v := G 2 i) hx hb hK hP 3 0 rfl rfl i rfl (by omega) (by decide) rfl dX0_highDemand_35 ?_
    refine lv_iload_n hx hb dX0_highDemand_36 rfl (lv_at hl 5 rfl) ?_
    refine lv_iadd hx hb dX0_highDemand_37 ?_
    refine lv_iload hx hb dX0_highDemand_38 (lv_at hl 1 rfl) ?_
    refine lv_isub hx hb dX0_highDemand_40 ?_
    refine lv_istore (lv' := [(7, .int (((G 2 i) + p2) - (p1 - p1 / p3 * p3))), (6, .int ((G 3 i) * (1 + ((p1 - p2) / p3)))), (5, .int (p1 - p1 / p3 * p3)), (0, .ref c0), (1, .int (nI i)), (2, .int p1), (3, .int p2), (4, .int p3)]) hx hb dX0_highDemand_41 hl (by decide) rfl (fun ls hl => ?_)
    refine lv_iload hx hb dX0_highDemand_43 (lv_at hl 2 rfl) ?_
    refine lv_iload_n hx hb dX0_highDemand_45 rfl (lv_at hl 6 rfl) ?_
    refine lv_icmp_lt (tgt := 69) hx hb dX0_highDemand_46 (by decide) (fun c_46 => ?_) (fun c_46 => ?_)
    · refine lv_iconst (v := 0) hx hb dX0_highDemand_69 (by decide) ?_
      refine lv_istore (lv' := [(8, .int 0), (7, .int (((G 2 i) + p2) - (p1 - p1 / p3 * p3))), (6, .int ((G 3 i) * (1 + ((p1 - p2) / p3)))), (5, .int (p1 - p1 / p3 * p3)), (0, .ref c0), (1, .int (nI i)), (2, .int p1), (3, .int p2), (4, .int p3)]) hx hb dX0_highDemand_70 hl (by decide) rfl (fun ls hl => ?_)
      refine lv_iload hx hb dX0_highDemand_72 (lv_at hl 0 rfl) ?_
      refine lv_if_eq (tgt := 85) hx hb dX0_highDemand_74 (by decide) (fun _ => ?_) (fun h0 => absurd h0 (by decide))
      refine lv_iload hx hb dX0_highDemand_85 (lv_at hl 2 rfl) ?_
      exact W.iret (v := (G 3 i) * (1 + ((p1 - p2) / p3))) hx hb hr (fun t ht hW => ⟨_, rfl, (by simp only [hiD, and_true, true_and, and_false, false_and, and_self, c_2, Int32.not_lt.mpr c_2, c_46, Int32.not_le.mpr c_46, ↓reduceIte]), ht⟩) (fun q hq => absurd hq List.not_mem_nil) dX0_highDemand_87
    · refine lv_iload hx hb dX0_highDemand_49 (lv_at hl 2 rfl) ?_
      refine lv_aload_n hx hb dX0_highDemand_51 rfl (lv_at hl 3 rfl) ?_
      refine va_get (D := (dC, dI)) (ci := 0) (v := .ref (b 1)) (C := RX0) (T := TX0) (N := 9) hx hb hts hin0 hown hK hP 0 rfl rfl 1 (by decide) f_15 (fun _ h9 => h9) rfl dX0_highDemand_52 ?_
      refine lv_iload_n hx hb dX0_highDemand_55 rfl (lv_at hl 4 rfl) ?_
      refine wI_alv (v := G 1 i) hx hb hK hP 2 0 rfl rfl i rfl (by omega) (by decide) rfl dX0_highDemand_56 ?_
      refine lv_icmp_ge (tgt := 69) hx hb dX0_highDemand_57 (by decide) (fun c_57 => ?_) (fun c_57 => ?_)
      · refine lv_iconst (v := 0) hx hb dX0_highDemand_69 (by decide) ?_
        refine lv_istore (lv' := [(8, .int 0), (7, .int (((G 2 i) + p2) - (p1 - p1 / p3 * p3))), (6, .int ((G 3 i) * (1 + ((p1 - p2) / p3)))), (5, .int (p1 - p1 / p3 * p3)), (0, .ref c0), (1, .int (nI i)), (2, .int p1), (3, .int p2), (4, .int p3)]) hx hb dX0_highDemand_70 hl (by decide) rfl (fun ls hl => ?_)
        refine lv_iload hx hb dX0_highDemand_72 (lv_at hl 0 rfl) ?_
        refine lv_if_eq (tgt := 85) hx hb dX0_highDemand_74 (by decide) (fun _ => ?_) (fun h0 => absurd h0 (by decide))
        refine lv_iload hx hb dX0_highDemand_85 (lv_at hl 2 rfl) ?_
        exact W.iret (v := (G 3 i) * (1 + ((p1 - p2) / p3))) hx hb hr (fun t ht hW => ⟨_, rfl, (by simp only [hiD, and_true, true_and, and_false, false_and, and_self, c_2, Int32.not_lt.mpr c_2, c_46, Int32.not_lt.mp c_46, c_57, Int32.not_lt.mpr c_57, ↓reduceIte]), ht⟩) (fun q hq => absurd hq List.not_mem_nil) dX0_highDemand_87
      · refine lv_iload hx hb dX0_highDemand_60 (lv_at hl 0 rfl) ?_
        refine lv_if_le (tgt := 69) hx hb dX0_highDemand_62 (by decide) (fun c_62 => ?_) (fun c_62 => ?_)
        · refine lv_iconst (v := 0) hx hb dX0_highDemand_69 (by decide) ?_
          refine lv_istore (lv' := [(8, .int 0), (7, .int (((G 2 i) + p2) - (p1 - p1 / p3 * p3))), (6, .int ((G 3 i) * (1 + ((p1 - p2) / p3)))), (5, .int (p1 - p1 / p3 * p3)), (0, .ref c0), (1, .int (nI i)), (2, .int p1), (3, .int p2), (4, .int p3)]) hx hb dX0_highDemand_70 hl (by decide) rfl (fun ls hl => ?_)
          refine lv_iload hx hb dX0_highDemand_72 (lv_at hl 0 rfl) ?_
          refine lv_if_eq (tgt := 85) hx hb dX0_highDemand_74 (by decide) (fun _ => ?_) (fun h0 => absurd h0 (by decide))
          refine lv_iload hx hb dX0_highDemand_85 (lv_at hl 2 rfl) ?_
          exact W.iret (v := (G 3 i) * (1 + ((p1 - p2) / p3))) hx hb hr (fun t ht hW => ⟨_, rfl, (by simp only [hiD, and_true, true_and, and_false, false_and, and_self, c_2, Int32.not_lt.mpr c_2, c_46, Int32.not_lt.mp c_46, c_57, Int32.not_le.mp c_57, c_62, Int32.not_lt.mpr c_62, ↓reduceIte]), ht⟩) (fun q hq => absurd hq List.not_mem_nil) dX0_highDemand_87
        · refine lv_iconst (v := 1) hx hb dX0_highDemand_65 (by decide) ?_
          refine lv_goto (tgt := 70) hx hb dX0_highDemand_66 (by decide) ?_
          refine lv_istore (lv' := [(8, .int 1), (7, .int (((G 2 i) + p2) - (p1 - p1 / p3 * p3))), (6, .int ((G 3 i) * (1 + ((p1 - p2) / p3)))), (5, .int (p1 - p1 / p3 * p3)), (0, .ref c0), (1, .int (nI i)), (2, .int p1), (3, .int p2), (4, .int p3)]) hx hb dX0_highDemand_70 hl (by decide) rfl (fun ls hl => ?_)
          refine lv_iload hx hb dX0_highDemand_72 (lv_at hl 0 rfl) ?_
          refine lv_if_eq (tgt := 85) hx hb dX0_highDemand_74 (by decide) (fun h0 => absurd h0 (by decide)) (fun _ => ?_)
          refine lv_iload hx hb dX0_highDemand_77 (lv_at hl 2 rfl) ?_
          refine lv_iload hx hb dX0_highDemand_79 (lv_at hl 1 rfl) ?_
          refine lv_isub hx hb dX0_highDemand_81 ?_
          refine lv_goto (tgt := 87) hx hb dX0_highDemand_82 (by decide) ?_
          exact W.iret (v := ((G 3 i) * (1 + ((p1 - p2) / p3))) - (((G 2 i) + p2) - (p1 - p1 / p3 * p3))) hx hb hr (fun t ht hW => ⟨_, rfl, (by simp only [hiD, and_true, true_and, and_false, false_and, and_self, c_2, Int32.not_lt.mpr c_2, c_46, Int32.not_lt.mp c_46, c_57, Int32.not_le.mp c_57, c_62, Int32.not_le.mp c_62, ↓reduceIte]), ht⟩) (fun q hq => absurd hq List.not_mem_nil) dX0_highDemand_87
  · refine lv_iconst (v := 0) hx hb dX0_highDemand_5 (by decide) ?_
    exact W.iret (v := 0) hx hb hr (fun t ht hW => ⟨_, rfl, (by simp only [hiD, and_true, true_and, and_false, false_and, and_self, c_2, Int32.not_le.mp c_2, ↓reduceIte]), ht⟩) (fun q hq => absurd hq List.not_mem_nil) dX0_highDemand_6

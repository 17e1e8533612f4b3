/-! PART 14: Configuration, copies -/
set_option maxHeartbeats 1000000 in
set_option maxRecDepth 100000 in
/-- a column of another configuration -/
theorem c_X0_copyTask (l : Launch) (dC : Nat → ClassId) (dI : Nat → Nat → Nat) (cy : Nat → ClassId) (sz : Nat) (c0 : Nat) (b : Nat → Nat) (G : vG) (n sc : Int32) (c1 : Nat) (b1 : Nat → Nat) (G1 : vG) (n1 sc1 : Int32) (i j : Nat) (hi8 : i < 8) (hj8 : j < 8) : Met l yX0_copyTask wsX0_copyTask ({ frames := 0, cells := 0, slots := 0, locals := 0 }) (va_Pc [.ref c0, .ref c1, .int (nI i), .int (nI j)] (pIn dC dI cy (wCfg cy c0 b G n sc ++ (wCfg cy c1 b1 G1 n1 sc1)) sz)) (va_Qv (fun _ => True) (fun (u : Unit) t => va_P (dC, dI) vwCl (wCfg cy c0 b (setc G j (fun k => G1 k i)) n sc ++ (wCfg cy c1 b1 G1 n1 sc1)) t.heap ∧ va_D (va_A (wCfg cy c0 b G n sc ++ (wCfg cy c1 b1 G1 n1 sc1)) sz) (wCfg cy c0 b (setc G j (fun k => G1 k i)) n sc ++ (wCfg cy c1 b1 G1 n1 sc1))) (va_A (wCfg cy c0 b G n sc ++ (wCfg cy c1 b1 G1 n1 sc1)) sz)) 0 0 (va_A (wCfg cy c0 b G n sc ++ (wCfg cy c1 b1 G1 n1 sc1)) sz) := by
  refine Met.ofW (cc := cX0_copyTask) (maxL := 4) (ret := none) (by decide) rfl ?_
  intro p e s m args below meth c s₁ B hml hv
  obtain ⟨rfl, hsz, hP, hE, hD0⟩ := hv
  have hK := hE.1
  subst hsz
  have hD := hD0.self (sz := s.heap.size)
  generalize hAe : va_A (wCfg cy c0 b G n sc ++ (wCfg cy c1 b1 G1 n1 sc1)) s.heap.size = A at hD ⊢
  have hA : ∀ q : Nat, s.heap.size ≤ q → A q := fun q h => by rw [← hAe]; exact Or.inr h
  have hS : va_S A s.heap s.heap [] := va_S.rf
  have hP : va_P (dC, dI) vwCl (wCfg cy c0 b G n sc ++ (wCfg cy c1 b1 G1 n1 sc1)) s.heap := hP
  have hx := B.exec
  have hb := B.bytes
  have hr := B.returns
  have hts := atoms_spec (ws := wsX0_copyTask) B.pre
  have hown : s.vm.findClass RX0 = some m.cls := findClass_of_methodNamed B.named
  have hlocks := B.notSynchronized
  have hin0 : ∀ w ∈ u_ws RX0 TX0 9, w ∈ wsX0_copyTask := by decide +kernel
  have f_15 := hts (.fieldLink RX0 15 "DeadlineAdmission$Configuration" "deadline" "[I") (by decide +kernel)
  have f_18 := hts (.fieldLink RX0 18 "DeadlineAdmission$Configuration" "lowBudget" "[I") (by decide +kernel)
  have f_21 := hts (.fieldLink RX0 21 "DeadlineAdmission$Configuration" "highBudget" "[I") (by decide +kernel)
  have f_24 := hts (.fieldLink RX0 24 "DeadlineAdmission$Configuration" "importance" "[I") (by decide +kernel)
  have f_27 := hts (.fieldLink RX0 27 "DeadlineAdmission$Configuration" "greatestLevel" "[I") (by decide +kernel)
  have f_30 := hts (.fieldLink RX0 30 "DeadlineAdmission$Configuration" "level" "[I") (by decide +kernel)
  have f_9 := hts (.fieldLink RX0 9 "DeadlineAdmission$Configuration" "basePeriod" "[I") (by decide +kernel)
  have hl := lv_entry ([.ref c0, .ref c1, .int (nI i), .int (nI j)]) (n := 4) (Nat.le_of_ble_eq_true rfl)
  rw [lg_entry_eq]
  generalize (lg_sl ([.ref c0, .ref c1, .int (nI i), .int (nI j)]) ++ List.replicate (4 - (lg_sl ([.ref c0, .ref c1, .int (nI i), .int (nI j)])).length) Slot.unset).toArray = ls at hl ⊢
  have hl : lv_has ls 4 [(0, .ref c0), (1, .ref c1), (2, .int (nI i)), (3, .int (nI j))] := hl
  refine lv_aload_n hx hb dX0_copyTask_0 rfl (lv_at hl 0 rfl) ?_
  refine va_get (D := (dC, dI)) (ci := 0) (v := .ref (b 0)) (C := RX0) (T := TX0) (N := 9) hx hb hts hin0 hown hK hP 0 rfl rfl 0 (by decide) f_9 (fun _ h9 => h9) rfl dX0_copyTask_1 ?_
  refine lv_iload_n hx hb dX0_copyTask_4 rfl (lv_at hl 3 rfl) ?_
  refine lv_aload_n hx hb dX0_copyTask_5 rfl (lv_at hl 1 rfl) ?_
  refine va_get (D := (dC, dI)) (ci := 0) (v := .ref (b1 0)) (C := RX0) (T := TX0) (N := 9) hx hb hts hin0 hown hK hP 8 rfl rfl 0 (by decide) f_9 (fun _ h9 => h9) rfl dX0_copyTask_6 ?_
  refine lv_iload_n hx hb dX0_copyTask_9 rfl (lv_at hl 2 rfl) ?_
  refine wI_alv (v := G1 0 i) hx hb hK hP 9 0 rfl rfl i rfl (by omega) (by decide) rfl dX0_copyTask_10 ?_
  refine wI_ast hx hb hK hP hD hS 1 0 rfl rfl j rfl (by omega) (by decide) dX0_copyTask_11 (fun H locs hP hD hS => ?_)
  have hP : va_P (dC, dI) vwCl (wCfg cy c0 b (up2 G 0 j (G1 0 i)) n sc ++ (wCfg cy c1 b1 G1 n1 sc1)) H := hP
  have hD : va_D A (wCfg cy c0 b (up2 G 0 j (G1 0 i)) n sc ++ (wCfg cy c1 b1 G1 n1 sc1)) := hD
  refine lv_aload_n hx hb dX0_copyTask_12 rfl (lv_at hl 0 rfl) ?_
  refine va_get (D := (dC, dI)) (ci := 0) (v := .ref (b 1)) (C := RX0) (T := TX0) (N := 9) hx hb hts hin0 hown hK hP 0 rfl rfl 1 (by decide) f_15 (fun _ h9 => h9) rfl dX0_copyTask_13 ?_
  refine lv_iload_n hx hb dX0_copyTask_16 rfl (lv_at hl 3 rfl) ?_
  refine lv_aload_n hx hb dX0_copyTask_17 rfl (lv_at hl 1 rfl) ?_
  refine va_get (D := (dC, dI)) (ci := 0) (v := .ref (b1 1)) (C := RX0) (T := TX0) (N := 9) hx hb hts hin0 hown hK hP 8 rfl rfl 1 (by decide) f_15 (fun _ h9 => h9) rfl dX0_copyTask_18 ?_
  refine lv_iload_n hx hb dX0_copyTask_21 rfl (lv_at hl 2 rfl) ?_
  refine wI_alv (v := G1 1 i) hx hb hK hP 10 0 rfl rfl i rfl (by omega) (by decide) rfl dX0_copyTask_22 ?_
  refine wI_ast hx hb hK hP hD hS 2 0 rfl rfl j rfl (by omega) (by decide) dX0_copyTask_23 (fun H locs hP hD hS => ?_)
  have hP : va_P (dC, dI) vwCl (wCfg cy c0 b (up2 (up2 G 0 j (G1 0 i)) 1 j (G1 1 i)) n sc ++ (wCfg cy c1 b1 G1 n1 sc1)) H := hP
  have hD : va_D A (wCfg cy c0 b (up2 (up2 G 0 j (G1 0 i)) 1 j (G1 1 i)) n sc ++ (wCfg cy c1 b1 G1 n1 sc1)) := hD
  refine lv_aload_n hx hb dX0_copyTask_24 rfl (lv_at hl 0 rfl) ?_
  refine va_get (D := (dC, dI)) (ci := 0) (v := .ref (b 2)) (C := RX0) (T := TX0) (N := 9) hx hb hts hin0 hown hK hP 0 rfl rfl 2 (by decide) f_18 (fun _ h9 => h9) rfl dX0_copyTask_25 ?_
  refine lv_iload_n hx hb dX0_copyTask_28 rfl (lv_at hl 3 rfl) ?_
  refine lv_aload_n hx hb dX0_copyTask_29 rfl (lv_at hl 1 rfl) ?_
  refine va_get (D := (dC, dI)) (ci := 0) (v := .ref (b1 2)) (C := RX0) (T := TX0) (N := 9) hx hb hts hin0 hown hK hP 8 rfl rfl 2 (by decide) f_18 (fun _ h9 => h9) rfl dX0_copyTask_30 ?_
  refine lv_iload_n hx hb dX0_copyTask_33 rfl (lv_at hl 2 rfl) ?_
  refine wI_alv (v := G1 2 i) hx hb hK hP 11 0 rfl rfl i rfl (by omega) (by decide) rfl dX0_copyTask_34 ?_
  refine wI_ast hx hb hK hP hD hS 3 0 rfl rfl j rfl (by omega) (by decide) dX0_copyTask_35 (fun H locs hP hD hS => ?_)
  have hP : va_P (dC, dI) vwCl (wCfg cy c0 b (up2 (up2 (up2 G 0 j (G1 0 i)) 1 j (G1 1 i)) 2 j (G1 2 i)) n sc ++ (wCfg cy c1 b1 G1 n1 sc1)) H := hP
  have hD : va_D A (wCfg cy c0 b (up2 (up2 (up2 G 0 j (G1 0 i)) 1 j (G1 1 i)) 2 j (G1 2 i)) n sc ++ (wCfg cy c1 b1 G1 n1 sc1)) := hD
  refine lv_aload_n hx hb dX0_copyTask_36 rfl (lv_at hl 0 rfl) ?_
  refine va_get (D := (dC, dI)) (ci := 0) (v := .ref (b 3)) (C := RX0) (T := TX0) (N := 9) hx hb hts hin0 hown hK hP 0 rfl rfl 3 (by decide) f_21 (fun _ h9 => h9) rfl dX0_copyTask_37 ?_
  refine lv_iload_n hx hb dX0_copyTask_40 rfl (lv_at hl 3 rfl) ?_
  refine lv_aload_n hx hb dX0_copyTask_41 rfl (lv_at hl 1 rfl) ?_
  refine va_get (D := (dC, dI)) (ci := 0) (v := .ref (b1 3)) (C := RX0) (T := TX0) (N := 9) hx hb hts hin0 hown hK hP 8 rfl rfl 3 (by decide) f_21 (fun _ h9 => h9) rfl dX0_copyTask_42 ?_
  refine lv_iload_n hx hb dX0_copyTask_45 rfl (lv_at hl 2 rfl) ?_
  refine wI_alv (v := G1 3 i) hx hb hK hP 12 0 rfl rfl i rfl (by omega) (by decide) rfl dX0_copyTask_46 ?_
  refine wI_ast hx hb hK hP hD hS 4 0 rfl rfl j rfl (by omega) (by decide) dX0_copyTask_47 (fun H locs hP hD hS => ?_)
  have hP : va_P (dC, dI) vwCl (wCfg cy c0 b (up2 (up2 (up2 (up2 G 0 j (G1 0 i)) 1 j (G1 1 i)) 2 j (G1 2 i)) 3 j (G1 3 i)) n sc ++ (wCfg cy c1 b1 G1 n1 sc1)) H := hP
  have hD : va_D A (wCfg cy c0 b (up2 (up2 (up2 (up2 G 0 j (G1 0 i)) 1 j (G1 1 i)) 2 j (G1 2 i)) 3 j (G1 3 i)) n sc ++ (wCfg cy c1 b1 G1 n1 sc1)) := hD
  refine lv_aload_n hx hb dX0_copyTask_48 rfl (lv_at hl 0 rfl) ?_
  refine va_get (D := (dC, dI)) (ci := 0) (v := .ref (b 4)) (C := RX0) (T := TX0) (N := 9) hx hb hts hin0 hown hK hP 0 rfl rfl 4 (by decide) f_24 (fun _ h9 => h9) rfl dX0_copyTask_49 ?_
  refine lv_iload_n hx hb dX0_copyTask_52 rfl (lv_at hl 3 rfl) ?_
  refine lv_aload_n hx hb dX0_copyTask_53 rfl (lv_at hl 1 rfl) ?_
  refine va_get (D := (dC, dI)) (ci := 0) (v := .ref (b1 4)) (C := RX0) (T := TX0) (N := 9) hx hb hts hin0 hown hK hP 8 rfl rfl 4 (by decide) f_24 (fun _ h9 => h9) rfl dX0_copyTask_54 ?_
  refine lv_iload_n hx hb dX0_copyTask_57 rfl (lv_at hl 2 rfl) ?_
  refine wI_alv (v := G1 4 i) hx hb hK hP 13 0 rfl rfl i rfl (by omega) (by decide) rfl dX0_copyTask_58 ?_
  refine wI_ast hx hb hK hP hD hS 5 0 rfl rfl j rfl (by omega) (by decide) dX0_copyTask_59 (fun H locs hP hD hS => ?_)
  have hP : va_P (dC, dI) vwCl (wCfg cy c0 b (up2 (up2 (up2 (up2 (up2 G 0 j (G1 0 i)) 1 j (G1 1 i)) 2 j (G1 2 i)) 3 j (G1 3 i)) 4 j (G1 4 i)) n sc ++ (wCfg cy c1 b1 G1 n1 sc1)) H := hP
  have hD : va_D A (wCfg cy c0 b (up2 (up2 (up2 (up2 (up2 G 0 j (G1 0 i)) 1 j (G1 1 i)) 2 j (G1 2 i)) 3 j (G1 3 i)) 4 j (G1 4 i)) n sc ++ (wCfg cy c1 b1 G1 n1 sc1)) := hD
  refine lv_aload_n hx hb dX0_copyTask_60 rfl (lv_at hl 0 rfl) ?_
  refine va_get (D := (dC, dI)) (ci := 0) (v := .ref (b 5)) (C := RX0) (T := TX0) (N := 9) hx hb hts hin0 hown hK hP 0 rfl rfl 5 (by decide) f_27 (fun _ h9 => h9) rfl dX0_copyTask_61 ?_
  refine lv_iload_n hx hb dX0_copyTask_64 rfl (lv_at hl 3 rfl) ?_
  refine lv_aload_n hx hb dX0_copyTask_65 rfl (lv_at hl 1 rfl) ?_
  refine va_get (D := (dC, dI)) (ci := 0) (v := .ref (b1 5)) (C := RX0) (T := TX0) (N := 9) hx hb hts hin0 hown hK hP 8 rfl rfl 5 (by decide) f_27 (fun _ h9 => h9) rfl dX0_copyTask_66 ?_
  refine lv_iload_n hx hb dX0_copyTask_69 rfl (lv_at hl 2 rfl) ?_
  refine wI_alv (v := G1 5 i) hx hb hK hP 14 0 rfl rfl i rfl (by omega) (by decide) rfl dX0_copyTask_70 ?_
  refine wI_ast hx hb hK hP hD hS 6 0 rfl rfl j rfl (by omega) (by decide) dX0_copyTask_71 (fun H locs hP hD hS => ?_)
  have hP : va_P (dC, dI) vwCl (wCfg cy c0 b (up2 (up2 (up2 (up2 (up2 (up2 G 0 j (G1 0 i)) 1 j (G1 1 i)) 2 j (G1 2 i)) 3 j (G1 3 i)) 4 j (G1 4 i)) 5 j (G1 5 i)) n sc ++ (wCfg cy c1 b1 G1 n1 sc1)) H := hP
  have hD : va_D A (wCfg cy c0 b (up2 (up2 (up2 (up2 (up2 (up2 G 0 j (G1 0 i)) 1 j (G1 1 i)) 2 j (G1 2 i)) 3 j (G1 3 i)) 4 j (G1 4 i)) 5 j (G1 5 i)) n sc ++ (wCfg cy c1 b1 G1 n1 sc1)) := hD
  refine lv_aload_n hx hb dX0_copyTask_72 rfl (lv_at hl 0 rfl) ?_
  refine va_get (D := (dC, dI)) (ci := 0) (v := .ref (b 6)) (C := RX0) (T := TX0) (N := 9) hx hb hts hin0 hown hK hP 0 rfl rfl 6 (by decide) f_30 (fun _ h9 => h9) rfl dX0_copyTask_73 ?_
  refine lv_iload_n hx hb dX0_copyTask_76 rfl (lv_at hl 3 rfl) ?_
  refine lv_aload_n hx hb dX0_copyTask_77 rfl (lv_at hl 1 rfl) ?_
  refine va_get (D := (dC, dI)) (ci := 0) (v := .ref (b1 6)) (C := RX0) (T := TX0) (N := 9) hx hb hts hin0 hown hK hP 8 rfl rfl 6 (by decide) f_30 (fun _ h9 => h9) rfl dX0_copyTask_78 ?_
  refine lv_iload_n hx hb dX0_copyTask_81 rfl (lv_at hl 2 rfl) ?_
  refine wI_alv (v := G1 6 i) hx hb hK hP 15 0 rfl rfl i rfl (by omega) (by decide) rfl dX0_copyTask_82 ?_
  refine wI_ast hx hb hK hP hD hS 7 0 rfl rfl j rfl (by omega) (by decide) dX0_copyTask_83 (fun H locs hP hD hS => ?_)
  have hP : va_P (dC, dI) vwCl (wCfg cy c0 b (up2 (up2 (up2 (up2 (up2 (up2 (up2 G 0 j (G1 0 i)) 1 j (G1 1 i)) 2 j (G1 2 i)) 3 j (G1 3 i)) 4 j (G1 4 i)) 5 j (G1 5 i)) 6 j (G1 6 i)) n sc ++ (wCfg cy c1 b1 G1 n1 sc1)) H := hP
  have hD : va_D A (wCfg cy c0 b (up2 (up2 (up2 (up2 (up2 (up2 (up2 G 0 j (G1 0 i)) 1 j (G1 1 i)) 2 j (G1 2 i)) 3 j (G1 3 i)) 4 j (G1 4 i)) 5 j (G1 5 i)) 6 j (G1 6 i)) n sc ++ (wCfg cy c1 b1 G1 n1 sc1)) := hD
  have hP9 : va_P (dC, dI) vwCl (wCfg cy c0 b (setc G j (fun k => G1 k i)) n sc ++ (wCfg cy c1 b1 G1 n1 sc1)) H := hP
  have hD9 : va_D A (wCfg cy c0 b (setc G j (fun k => G1 k i)) n sc ++ (wCfg cy c1 b1 G1 n1 sc1)) := hD
  exact W.vret hx hb hr (fun t ht hW => ⟨⟨(), rfl, trivial, by rw [ht]; exact hP9, hD9⟩, hS.F ht⟩) hS.2.2 dX0_copyTask_84
set_option maxHeartbeats 1000000 in
set_option maxRecDepth 100000 in
/-- a column of its own -/
theorem c_X0_copyTask_self (l : Launch) (dC : Nat → ClassId) (dI : Nat → Nat → Nat) (cy : Nat → ClassId) (sz : Nat) (c0 : Nat) (b : Nat → Nat) (G : vG) (n sc : Int32) (i j : Nat) (hi8 : i < 8) (hj8 : j < 8) : Met l yX0_copyTask wsX0_copyTask ({ frames := 0, cells := 0, slots := 0, locals := 0 }) (va_Pc [.ref c0, .ref c0, .int (nI i), .int (nI j)] (pIn dC dI cy (wCfg cy c0 b G n sc) sz)) (va_Qv (fun _ => True) (fun (u : Unit) t => va_P (dC, dI) vwCl (wCfg cy c0 b (setc G j (fun k => G k i)) n sc) t.heap ∧ va_D (va_A (wCfg cy c0 b G n sc) sz) (wCfg cy c0 b (setc G j (fun k => G k i)) n sc)) (va_A (wCfg cy c0 b G n sc) sz)) 0 0 (va_A (wCfg cy c0 b G n sc) sz) := by
  refine Met.ofW (cc := cX0_copyTask) (maxL := 4) (ret := none) (by decide) rfl ?_
  intro p e s m args below meth c s₁ B hml hv
  obtain ⟨rfl, hsz, hP, hE, hD0⟩ := hv
  have hK := hE.1
  subst hsz
  have hD := hD0.self (sz := s.heap.size)
  generalize hAe : va_A (wCfg cy c0 b G n sc) s.heap.size = A at hD ⊢
  have hA : ∀ q : Nat, s.heap.size ≤ q → A q := fun q h => by rw [← hAe]; exact Or.inr h
  have hS : va_S A s.heap s.heap [] := va_S.rf
  have hP : va_P (dC, dI) vwCl (wCfg cy c0 b G n sc) s.heap := hP
  have hx := B.exec
  have hb := B.bytes
  have hr := B.returns
  have hts := atoms_spec (ws := wsX0_copyTask) B.pre
  have hown : s.vm.findClass RX0 = some m.cls := findClass_of_methodNamed B.named
  have hlocks := B.notSynchronized
  have hin0 : ∀ w ∈ u_ws RX0 TX0 9, w ∈ wsX0_copyTask := by decide +kernel
  have f_15 := hts (.fieldLink RX0 15 "DeadlineAdmission$Configuration" "deadline" "[I") (by decide +kernel)
  have f_18 := hts (.fieldLink RX0 18 "DeadlineAdmission$Configuration" "lowBudget" "[I") (by decide +kernel)
  have f_21 := hts (.fieldLink RX0 21 "DeadlineAdmission$Configuration" "highBudget" "[I") (by decide +kernel)
  have f_24 := hts (.fieldLink RX0 24 "DeadlineAdmission$Configuration" "importance" "[I") (by decide +kernel)
  have f_27 := hts (.fieldLink RX0 27 "DeadlineAdmission$Configuration" "greatestLevel" "[I") (by decide +kernel)
  have f_30 := hts (.fieldLink RX0 30 "DeadlineAdmission$Configuration" "level" "[I") (by decide +kernel)
  have f_9 := hts (.fieldLink RX0 9 "DeadlineAdmission$Configuration" "basePeriod" "[I") (by decide +kernel)
  have hl := lv_entry ([.ref c0, .ref c0, .int (nI i), .int (nI j)]) (n := 4) (Nat.le_of_ble_eq_true rfl)
  rw [lg_entry_eq]
  generalize (lg_sl ([.ref c0, .ref c0, .int (nI i), .int (nI j)]) ++ List.replicate (4 - (lg_sl ([.ref c0, .ref c0, .int (nI i), .int (nI j)])).length) Slot.unset).toArray = ls at hl ⊢
  have hl : lv_has ls 4 [(0, .ref c0), (1, .ref c0), (2, .int (nI i)), (3, .int (nI j))] := hl
  refine lv_aload_n hx hb dX0_copyTask_0 rfl (lv_at hl 0 rfl) ?_
  refine va_get (D := (dC, dI)) (ci := 0) (v := .ref (b 0)) (C := RX0) (T := TX0) (N := 9) hx hb hts hin0 hown hK hP 0 rfl rfl 0 (by decide) f_9 (fun _ h9 => h9) rfl dX0_copyTask_1 ?_
  refine lv_iload_n hx hb dX0_copyTask_4 rfl (lv_at hl 3 rfl) ?_
  refine lv_aload_n hx hb dX0_copyTask_5 rfl (lv_at hl 1 rfl) ?_
  refine va_get (D := (dC, dI)) (ci := 0) (v := .ref (b 0)) (C := RX0) (T := TX0) (N := 9) hx hb hts hin0 hown hK hP 0 rfl rfl 0 (by decide) f_9 (fun _ h9 => h9) rfl dX0_copyTask_6 ?_
  refine lv_iload_n hx hb dX0_copyTask_9 rfl (lv_at hl 2 rfl) ?_
  refine wI_alv (v := G 0 i) hx hb hK hP 1 0 rfl rfl i rfl (by omega) (by decide) rfl dX0_copyTask_10 ?_
  refine wI_ast hx hb hK hP hD hS 1 0 rfl rfl j rfl (by omega) (by decide) dX0_copyTask_11 (fun H locs hP hD hS => ?_)
  have hP : va_P (dC, dI) vwCl (wCfg cy c0 b (up2 G 0 j (G 0 i)) n sc) H := hP
  have hD : va_D A (wCfg cy c0 b (up2 G 0 j (G 0 i)) n sc) := hD
  refine lv_aload_n hx hb dX0_copyTask_12 rfl (lv_at hl 0 rfl) ?_
  refine va_get (D := (dC, dI)) (ci := 0) (v := .ref (b 1)) (C := RX0) (T := TX0) (N := 9) hx hb hts hin0 hown hK hP 0 rfl rfl 1 (by decide) f_15 (fun _ h9 => h9) rfl dX0_copyTask_13 ?_
  refine lv_iload_n hx hb dX0_copyTask_16 rfl (lv_at hl 3 rfl) ?_
  refine lv_aload_n hx hb dX0_copyTask_17 rfl (lv_at hl 1 rfl) ?_
  refine va_get (D := (dC, dI)) (ci := 0) (v := .ref (b 1)) (C := RX0) (T := TX0) (N := 9) hx hb hts hin0 hown hK hP 0 rfl rfl 1 (by decide) f_15 (fun _ h9 => h9) rfl dX0_copyTask_18 ?_
  refine lv_iload_n hx hb dX0_copyTask_21 rfl (lv_at hl 2 rfl) ?_
  refine wI_alv (v := ((up2 G 0 j (G 0 i)) 1) i) hx hb hK hP 2 0 rfl rfl i rfl (by omega) (by decide) rfl dX0_copyTask_22 ?_
  refine wI_ast hx hb hK hP hD hS 2 0 rfl rfl j rfl (by omega) (by decide) dX0_copyTask_23 (fun H locs hP hD hS => ?_)
  have hP : va_P (dC, dI) vwCl (wCfg cy c0 b (up2 (up2 G 0 j (G 0 i)) 1 j (((up2 G 0 j (G 0 i)) 1) i)) n sc) H := hP
  have hD : va_D A (wCfg cy c0 b (up2 (up2 G 0 j (G 0 i)) 1 j (((up2 G 0 j (G 0 i)) 1) i)) n sc) := hD
  refine lv_aload_n hx hb dX0_copyTask_24 rfl (lv_at hl 0 rfl) ?_
  refine va_get (D := (dC, dI)) (ci := 0) (v := .ref (b 2)) (C := RX0) (T := TX0) (N := 9) hx hb hts hin0 hown hK hP 0 rfl rfl 2 (by decide) f_18 (fun _ h9 => h9) rfl dX0_copyTask_25 ?_
  refine lv_iload_n hx hb dX0_copyTask_28 rfl (lv_at hl 3 rfl) ?_
  refine lv_aload_n hx hb dX0_copyTask_29 rfl (lv_at hl 1 rfl) ?_
  refine va_get (D := (dC, dI)) (ci := 0) (v := .ref (b 2)) (C := RX0) (T := TX0) (N := 9) hx hb hts hin0 hown hK hP 0 rfl rfl 2 (by decide) f_18 (fun _ h9 => h9) rfl dX0_copyTask_30 ?_
  refine lv_iload_n hx hb dX0_copyTask_33 rfl (lv_at hl 2 rfl) ?_
  refine wI_alv (v := ((up2 (up2 G 0 j (G 0 i)) 1 j (((up2 G 0 j (G 0 i)) 1) i)) 2) i) hx hb hK hP 3 0 rfl rfl i rfl (by omega) (by decide) rfl dX0_copyTask_34 ?_
  refine wI_ast hx hb hK hP hD hS 3 0 rfl rfl j rfl (by omega) (by decide) dX0_copyTask_35 (fun H locs hP hD hS => ?_)
  have hP : va_P (dC, dI) vwCl (wCfg cy c0 b (up2 (up2 (up2 G 0 j (G 0 i)) 1 j (((up2 G 0 j (G 0 i)) 1) i)) 2 j (((up2 (up2 G 0 j (G 0 i)) 1 j (((up2 G 0 j (G 0 i)) 1) i)) 2) i)) n sc) H := hP
  have hD : va_D A (wCfg cy c0 b (up2 (up2 (up2 G 0 j (G 0 i)) 1 j (((up2 G 0 j (G 0 i)) 1) i)) 2 j (((up2 (up2 G 0 j (G 0 i)) 1 j (((up2 G 0 j (G 0 i)) 1) i)) 2) i)) n sc) := hD
  refine lv_aload_n hx hb dX0_copyTask_36 rfl (lv_at hl 0 rfl) ?_
  refine va_get (D := (dC, dI)) (ci := 0) (v := .ref (b 3)) (C := RX0) (T := TX0) (N := 9) hx hb hts hin0 hown hK hP 0 rfl rfl 3 (by decide) f_21 (fun _ h9 => h9) rfl dX0_copyTask_37 ?_
  refine lv_iload_n hx hb dX0_copyTask_40 rfl (lv_at hl 3 rfl) ?_
  refine lv_aload_n hx hb dX0_copyTask_41 rfl (lv_at hl 1 rfl) ?_
  refine va_get (D := (dC, dI)) (ci := 0) (v := .ref (b 3)) (C := RX0) (T := TX0) (N := 9) hx hb hts hin0 hown hK hP 0 rfl rfl 3 (by decide) f_21 (fun _ h9 => h9) rfl dX0_copyTask_42 ?_
  refine lv_iload_n hx hb dX0_copyTask_45 rfl (lv_at hl 2 rfl) ?_
  refine wI_alv (v := ((up2 (up2 (up2 G 0 j (G 0 i)) 1 j (((up2 G 0 j (G 0 i)) 1) i)) 2 j (((up2 (up2 G 0 j (G 0 i)) 1 j (((up2 G 0 j (G 0 i)) 1) i)) 2) i)) 3) i) hx hb hK hP 4 0 rfl rfl i rfl (by omega) (by decide) rfl dX0_copyTask_46 ?_
  refine wI_ast hx hb hK hP hD hS 4 0 rfl rfl j rfl (by omega) (by decide) dX0_copyTask_47 (fun H locs hP hD hS => ?_)
  have hP : va_P (dC, dI) vwCl (wCfg cy c0 b (up2 (up2 (up2 (up2 G 0 j (G 0 i)) 1 j (((up2 G 0 j (G 0 i)) 1) i)) 2 j (((up2 (up2 G 0 j (G 0 i)) 1 j (((up2 G 0 j (G 0 i)) 1) i)) 2) i)) 3 j (((up2 (up2 (up2 G 0 j (G 0 i)) 1 j (((up2 G 0 j (G 0 i)) 1) i)) 2 j (((up2 (up2 G 0 j (G 0 i)) 1 j (((up2 G 0 j (G 0 i)) 1) i)) 2) i)) 3) i)) n sc) H := hP
  have hD : va_D A (wCfg cy c0 b (up2 (up2 (up2 (up2 G 0 j (G 0 i)) 1 j (((up2 G 0 j (G 0 i)) 1) i)) 2 j (((up2 (up2 G 0 j (G 0 i)) 1 j (((up2 G 0 j (G 0 i)) 1) i)) 2) i)) 3 j (((up2 (up2 (up2 G 0 j (G 0 i)) 1 j (((up2 G 0 j (G 0 i)) 1) i)) 2 j (((up2 (up2 G 0 j (G 0 i)) 1 j (((up2 G 0 j (G 0 i)) 1) i)) 2) i)) 3) i)) n sc) := hD
  refine lv_aload_n hx hb dX0_copyTask_48 rfl (lv_at hl 0 rfl) ?_
  refine va_get (D := (dC, dI)) (ci := 0) (v := .ref (b 4)) (C := RX0) (T := TX0) (N := 9) hx hb hts hin0 hown hK hP 0 rfl rfl 4 (by decide) f_24 (fun _ h9 => h9) rfl dX0_copyTask_49 ?_
  refine lv_iload_n hx hb dX0_copyTask_52 rfl (lv_at hl 3 rfl) ?_
  refine lv_aload_n hx hb dX0_copyTask_53 rfl (lv_at hl 1 rfl) ?_
  refine va_get (D := (dC, dI)) (ci := 0) (v := .ref (b 4)) (C := RX0) (T := TX0) (N := 9) hx hb hts hin0 hown hK hP 0 rfl rfl 4 (by decide) f_24 (fun _ h9 => h9) rfl dX0_copyTask_54 ?_
  refine lv_iload_n hx hb dX0_copyTask_57 rfl (lv_at hl 2 rfl) ?_
  refine wI_alv (v := ((up2 (up2 (up2 (up2 G 0 j (G 0 i)) 1 j (((up2 G 0 j (G 0 i)) 1) i)) 2 j (((up2 (up2 G 0 j (G 0 i)) 1 j (((up2 G 0 j (G 0 i)) 1) i)) 2) i)) 3 j (((up2 (up2 (up2 G 0 j (G 0 i)) 1 j (((up2 G 0 j (G 0 i)) 1) i)) 2 j (((up2 (up2 G 0 j (G 0 i)) 1 j (((up2 G 0 j (G 0 i)) 1) i)) 2) i)) 3) i)) 4) i) hx hb hK hP 5 0 rfl rfl i rfl (by omega) (by decide) rfl dX0_copyTask_58 ?_
  refine wI_ast hx hb hK hP hD hS 5 0 rfl rfl j rfl (by omega) (by decide) dX0_copyTask_59 (fun H locs hP hD hS => ?_)
  have hP : va_P (dC, dI) vwCl (wCfg cy c0 b (up2 (up2 (up2 (up2 (up2 G 0 j (G 0 i)) 1 j (((up2 G 0 j (G 0 i)) 1) i)) 2 j (((up2 (up2 G 0 j (G 0 i)) 1 j (((up2 G 0 j (G 0 i)) 1) i)) 2) i)) 3 j (((up2 (up2 (up2 G 0 j (G 0 i)) 1 j (((up2 G 0 j (G 0 i)) 1) i)) 2 j (((up2 (up2 G 0 j (G 0 i)) 1 j (((up2 G 0 j (G 0 i)) 1) i)) 2) i)) 3) i)) 4 j (((up2 (up2 (up2 (up2 G 0 j (G 0 i)) 1 j (((up2 G 0 j (G 0 i)) 1) i)) 2 j (((up2 (up2 G 0 j (G 0 i)) 1 j (((up2 G 0 j (G 0 i)) 1) i)) 2) i)) 3 j (((up2 (up2 (up2 G 0 j (G 0 i)) 1 j (((up2 G 0 j (G 0 i)) 1) i)) 2 j (((up2 (up2 G 0 j (G 0 i)) 1 j (((up2 G 0 j (G 0 i)) 1) i)) 2) i)) 3) i)) 4) i)) n sc) H := hP
  have hD : va_D A (wCfg cy c0 b (up2 (up2 (up2 (up2 (up2 G 0 j (G 0 i)) 1 j (((up2 G 0 j (G 0 i)) 1) i)) 2 j (((up2 (up2 G 0 j (G 0 i)) 1 j (((up2 G 0 j (G 0 i)) 1) i)) 2) i)) 3 j (((up2 (up2 (up2 G 0 j (G 0 i)) 1 j (((up2 G 0 j (G 0 i)) 1) i)) 2 j (((up2 (up2 G 0 j (G 0 i)) 1 j (((up2 G 0 j (G 0 i)) 1) i)) 2) i)) 3) i)) 4 j (((up2 (up2 (up2 (up2 G 0 j (G 0 i)) 1 j (((up2 G 0 j (G 0 i)) 1) i)) 2 j (((up2 (up2 G 0 j (G 0 i)) 1 j (((up2 G 0 j (G 0 i)) 1) i)) 2) i)) 3 j (((up2 (up2 (up2 G 0 j (G 0 i)) 1 j (((up2 G 0 j (G 0 i)) 1) i)) 2 j (((up2 (up2 G 0 j (G 0 i)) 1 j (((up2 G 0 j (G 0 i)) 1) i)) 2) i)) 3) i)) 4) i)) n sc) := hD
  refine lv_aload_n hx hb dX0_copyTask_60 rfl (lv_at hl 0 rfl) ?_
  refine va_get (D := (dC, dI)) (ci := 0) (v := .ref (b 5)) (C := RX0) (T := TX0) (N := 9) hx hb hts hin0 hown hK hP 0 rfl rfl 5 (by decide) f_27 (fun _ h9 => h9) rfl dX0_copyTask_61 ?_
  refine lv_iload_n hx hb dX0_copyTask_64 rfl (lv_at hl 3 rfl) ?_
  refine lv_aload_n hx hb dX0_copyTask_65 rfl (lv_at hl 1 rfl) ?_
  refine va_get (D := (dC, dI)) (ci := 0) (v := .ref (b 5)) (C := RX0) (T := TX0) (N := 9) hx hb hts hin0 hown hK hP 0 rfl rfl 5 (by decide) f_27 (fun _ h9 => h9) rfl dX0_copyTask_66 ?_
  refine lv_iload_n hx hb dX0_copyTask_69 rfl (lv_at hl 2 rfl) ?_
  refine wI_alv (v := ((up2 (up2 (up2 (up2 (up2 G 0 j (G 0 i)) 1 j (((up2 G 0 j (G 0 i)) 1) i)) 2 j (((up2 (up2 G 0 j (G 0 i)) 1 j (((up2 G 0 j (G 0 i)) 1) i)) 2) i)) 3 j (((up2 (up2 (up2 G 0 j (G 0 i)) 1 j (((up2 G 0 j (G 0 i)) 1) i)) 2 j (((up2 (up2 G 0 j (G 0 i)) 1 j (((up2 G 0 j (G 0 i)) 1) i)) 2) i)) 3) i)) 4 j (((up2 (up2 (up2 (up2 G 0 j (G 0 i)) 1 j (((up2 G 0 j (G 0 i)) 1) i)) 2 j (((up2 (up2 G 0 j (G 0 i)) 1 j (((up2 G 0 j (G 0 i)) 1) i)) 2) i)) 3 j (((up2 (up2 (up2 G 0 j (G 0 i)) 1 j (((up2 G 0 j (G 0 i)) 1) i)) 2 j (((up2 (up2 G 0 j (G 0 i)) 1 j (((up2 G 0 j (G 0 i)) 1) i)) 2) i)) 3) i)) 4) i)) 5) i) hx hb hK hP 6 0 rfl rfl i rfl (by omega) (by decide) rfl dX0_copyTask_70 ?_
  refine wI_ast hx hb hK hP hD hS 6 0 rfl rfl j rfl (by omega) (by decide) dX0_copyTask_71 (fun H locs hP hD hS => ?_)
  have hP : va_P (dC, dI) vwCl (wCfg cy c0 b (up2 (up2 (up2 (up2 (up2 (up2 G 0 j (G 0 i)) 1 j (((up2 G 0 j (G 0 i)) 1) i)) 2 j (((up2 (up2 G 0 j (G 0 i)) 1 j (((up2 G 0 j (G 0 i)) 1) i)) 2) i)) 3 j (((up2 (up2 (up2 G 0 j (G 0 i)) 1 j (((up2 G 0 j (G 0 i)) 1) i)) 2 j (((up2 (up2 G 0 j (G 0 i)) 1 j (((up2 G 0 j (G 0 i)) 1) i)) 2) i)) 3) i)) 4 j (((up2 (up2 (up2 (up2 G 0 j (G 0 i)) 1 j (((up2 G 0 j (G 0 i)) 1) i)) 2 j (((up2 (up2 G 0 j (G 0 i)) 1 j (((up2 G 0 j (G 0 i)) 1) i)) 2) i)) 3 j (((up2 (up2 (up2 G 0 j (G 0 i)) 1 j (((up2 G 0 j (G 0 i)) 1) i)) 2 j (((up2 (up2 G 0 j (G 0 i)) 1 j (((up2 G 0 j (G 0 i)) 1) i)) 2) i)) 3) i)) 4) i)) 5 j (((up2 (up2 (up2 (up2 (up2 G 0 j (G 0 i)) 1 j (((up2 G 0 j (G 0 i)) 1) i)) 2 j (((up2 (up2 G 0 j (G 0 i)) 1 j (((up2 G 0 j (G 0 i)) 1) i)) 2) i)) 3 j (((up2 (up2 (up2 G 0 j (G 0 i)) 1 j (((up2 G 0 j (G 0 i)) 1) i)) 2 j (((up2 (up2 G 0 j (G 0 i)) 1 j (((up2 G 0 j (G 0 i)) 1) i)) 2) i)) 3) i)) 4 j (((up2 (up2 (up2 (up2 G 0 j (G 0 i)) 1 j (((up2 G 0 j (G 0 i)) 1) i)) 2 j (((up2 (up2 G 0 j (G 0 i)) 1 j (((up2 G 0 j (G 0 i)) 1) i)) 2) i)) 3 j (((up2 (up2 (up2 G 0 j (G 0 i)) 1 j (((up2 G 0 j (G 0 i)) 1) i)) 2 j (((up2 (up2 G 0 j (G 0 i)) 1 j (((up2 G 0 j (G 0 i)) 1) i)) 2) i)) 3) i)) 4) i)) 5) i)) n sc) H := hP
  have hD : va_D A (wCfg cy c0 b (up2 (up2 (up2 (up2 (up2 (up2 G 0 j (G 0 i)) 1 j (((up2 G 0 j (G 0 i)) 1) i)) 2 j (((up2 (up2 G 0 j (G 0 i)) 1 j (((up2 G 0 j (G 0 i)) 1) i)) 2) i)) 3 j (((up2 (up2 (up2 G 0 j (G 0 i)) 1 j (((up2 G 0 j (G 0 i)) 1) i)) 2 j (((up2 (up2 G 0 j (G 0 i)) 1 j (((up2 G 0 j (G 0 i)) 1) i)) 2) i)) 3) i)) 4 j (((up2 (up2 (up2 (up2 G 0 j (G 0 i)) 1 j (((up2 G 0 j (G 0 i)) 1) i)) 2 j (((up2 (up2 G 0 j (G 0 i)) 1 j (((up2 G 0 j (G 0 i)) 1) i)) 2) i)) 3 j (((up2 (up2 (up2 G 0 j (G 0 i)) 1 j (((up2 G 0 j (G 0 i)) 1) i)) 2 j (((up2 (up2 G 0 j (G 0 i)) 1 j (((up2 G 0 j (G 0 i)) 1) i)) 2) i)) 3) i)) 4) i)) 5 j (((up2 (up2 (up2 (up2 (up2 G 0 j (G 0 i)) 1 j (((up2 G 0 j (G 0 i)) 1) i)) 2 j (((up2 (up2 G 0 j (G 0 i)) 1 j (((up2 G 0 j (G 0 i)) 1) i)) 2) i)) 3 j (((up2 (up2 (up2 G 0 j (G 0 i)) 1 j (((up2 G 0 j (G 0 i)) 1) i)) 2 j (((up2 (up2 G 0 j (G 0 i)) 1 j (((up2 G 0 j (G 0 i)) 1) i)) 2) i)) 3) i)) 4 j (((up2 (up2 (up2 (up2 G 0 j (G 0 i)) 1 j (((up2 G 0 j (G 0 i)) 1) i)) 2 j (((up2 (up2 G 0 j (G 0 i)) 1 j (((up2 G 0 j (G 0 i)) 1) i)) 2) i)) 3 j (((up2 (up2 (up2 G 0 j (G 0 i)) 1 j (((up2 G 0 j (G 0 i)) 1) i)) 2 j (((up2 (up2 G 0 j (G 0 i)) 1 j (((up2 G 0 j (G 0 i)) 1) i)) 2) i)) 3) i)) 4) i)) 5) i)) n sc) := hD
  refine lv_aload_n hx hb dX0_copyTask_72 rfl (lv_at hl 0 rfl) ?_
  refine va_get (D := (dC, dI)) (ci := 0) (v := .ref (b 6)) (C := RX0) (T := TX0) (N := 9) hx hb hts hin0 hown hK hP 0 rfl rfl 6 (by decide) f_30 (fun _ h9 => h9) rfl dX0_copyTask_73 ?_
  refine lv_iload_n hx hb dX0_copyTask_76 rfl (lv_at hl 3 rfl) ?_
  refine lv_aload_n hx hb dX0_copyTask_77 rfl (lv_at hl 1 rfl) ?_
  refine va_get (D := (dC, dI)) (ci := 0) (v := .ref (b 6)) (C := RX0) (T := TX0) (N := 9) hx hb hts hin0 hown hK hP 0 rfl rfl 6 (by decide) f_30 (fun _ h9 => h9) rfl dX0_copyTask_78 ?_
  refine lv_iload_n hx hb dX0_copyTask_81 rfl (lv_at hl 2 rfl) ?_
  refine wI_alv (v := ((up2 (up2 (up2 (up2 (up2 (up2 G 0 j (G 0 i)) 1 j (((up2 G 0 j (G 0 i)) 1) i)) 2 j (((up2 (up2 G 0 j (G 0 i)) 1 j (((up2 G 0 j (G 0 i)) 1) i)) 2) i)) 3 j (((up2 (up2 (up2 G 0 j (G 0 i)) 1 j (((up2 G 0 j (G 0 i)) 1) i)) 2 j (((up2 (up2 G 0 j (G 0 i)) 1 j (((up2 G 0 j (G 0 i)) 1) i)) 2) i)) 3) i)) 4 j (((up2 (up2 (up2 (up2 G 0 j (G 0 i)) 1 j (((up2 G 0 j (G 0 i)) 1) i)) 2 j (((up2 (up2 G 0 j (G 0 i)) 1 j (((up2 G 0 j (G 0 i)) 1) i)) 2) i)) 3 j (((up2 (up2 (up2 G 0 j (G 0 i)) 1 j (((up2 G 0 j (G 0 i)) 1) i)) 2 j (((up2 (up2 G 0 j (G 0 i)) 1 j (((up2 G 0 j (G 0 i)) 1) i)) 2) i)) 3) i)) 4) i)) 5 j (((up2 (up2 (up2 (up2 (up2 G 0 j (G 0 i)) 1 j (((up2 G 0 j (G 0 i)) 1) i)) 2 j (((up2 (up2 G 0 j (G 0 i)) 1 j (((up2 G 0 j (G 0 i)) 1) i)) 2) i)) 3 j (((up2 (up2 (up2 G 0 j (G 0 i)) 1 j (((up2 G 0 j (G 0 i)) 1) i)) 2 j (((up2 (up2 G 0 j (G 0 i)) 1 j (((up2 G 0 j (G 0 i)) 1) i)) 2) i)) 3) i)) 4 j (((up2 (up2 (up2 (up2 G 0 j (G 0 i)) 1 j (((up2 G 0 j (G 0 i)) 1) i)) 2 j (((up2 (up2 G 0 j (G 0 i)) 1 j (((up2 G 0 j (G 0 i)) 1) i)) 2) i)) 3 j (((up2 (up2 (up2 G 0 j (G 0 i)) 1 j (((up2 G 0 j (G 0 i)) 1) i)) 2 j (((up2 (up2 G 0 j (G 0 i)) 1 j (((up2 G 0 j (G 0 i)) 1) i)) 2) i)) 3) i)) 4) i)) 5) i)) 6) i) hx hb hK hP 7 0 rfl rfl i rfl (by omega) (by decide) rfl dX0_copyTask_82 ?_
  refine wI_ast hx hb hK hP hD hS 7 0 rfl rfl j rfl (by omega) (by decide) dX0_copyTask_83 (fun H locs hP hD hS => ?_)
  have hP : va_P (dC, dI) vwCl (wCfg cy c0 b (up2 (up2 (up2 (up2 (up2 (up2 (up2 G 0 j (G 0 i)) 1 j (((up2 G 0 j (G 0 i)) 1) i)) 2 j (((up2 (up2 G 0 j (G 0 i)) 1 j (((up2 G 0 j (G 0 i)) 1) i)) 2) i)) 3 j (((up2 (up2 (up2 G 0 j (G 0 i)) 1 j (((up2 G 0 j (G 0 i)) 1) i)) 2 j (((up2 (up2 G 0 j (G 0 i)) 1 j (((up2 G 0 j (G 0 i)) 1) i)) 2) i)) 3) i)) 4 j (((up2 (up2 (up2 (up2 G 0 j (G 0 i)) 1 j (((up2 G 0 j (G 0 i)) 1) i)) 2 j (((up2 (up2 G 0 j (G 0 i)) 1 j (((up2 G 0 j (G 0 i)) 1) i)) 2) i)) 3 j (((up2 (up2 (up2 G 0 j (G 0 i)) 1 j (((up2 G 0 j (G 0 i)) 1) i)) 2 j (((up2 (up2 G 0 j (G 0 i)) 1 j (((up2 G 0 j (G 0 i)) 1) i)) 2) i)) 3) i)) 4) i)) 5 j (((up2 (up2 (up2 (up2 (up2 G 0 j (G 0 i)) 1 j (((up2 G 0 j (G 0 i)) 1) i)) 2 j (((up2 (up2 G 0 j (G 0 i)) 1 j (((up2 G 0 j (G 0 i)) 1) i)) 2) i)) 3 j (((up2 (up2 (up2 G 0 j (G 0 i)) 1 j (((up2 G 0 j (G 0 i)) 1) i)) 2 j (((up2 (up2 G 0 j (G 0 i)) 1 j (((up2 G 0 j (G 0 i)) 1) i)) 2) i)) 3) i)) 4 j (((up2 (up2 (up2 (up2 G 0 j (G 0 i)) 1 j (((up2 G 0 j (G 0 i)) 1) i)) 2 j (((up2 (up2 G 0 j (G 0 i)) 1 j (((up2 G 0 j (G 0 i)) 1) i)) 2) i)) 3 j (((up2 (up2 (up2 G 0 j (G 0 i)) 1 j (((up2 G 0 j (G 0 i)) 1) i)) 2 j (((up2 (up2 G 0 j (G 0 i)) 1 j (((up2 G 0 j (G 0 i)) 1) i)) 2) i)) 3) i)) 4) i)) 5) i)) 6 j (((up2 (up2 (up2 (up2 (up2 (up2 G 0 j (G 0 i)) 1 j (((up2 G 0 j (G 0 i)) 1) i)) 2 j (((up2 (up2 G 0 j (G 0 i)) 1 j (((up2 G 0 j (G 0 i)) 1) i)) 2) i)) 3 j (((up2 (up2 (up2 G 0 j (G 0 i)) 1 j (((up2 G 0 j (G 0 i)) 1) i)) 2 j (((up2 (up2 G 0 j (G 0 i)) 1 j (((up2 G 0 j (G 0 i)) 1) i)) 2) i)) 3) i)) 4 j (((up2 (up2 (up2 (up2 G 0 j (G 0 i)) 1 j (((up2 G 0 j (G 0 i)) 1) i)) 2 j (((up2 (up2 G 0 j (G 0 i)) 1 j (((up2 G 0 j (G 0 i)) 1) i)) 2) i)) 3 j (((up2 (up2 (up2 G 0 j (G 0 i)) 1 j (((up2 G 0 j (G 0 i)) 1) i)) 2 j (((up2 (up2 G 0 j (G 0 i)) 1 j (((up2 G 0 j (G 0 i)) 1) i)) 2) i)) 3) i)) 4) i)) 5 j (((up2 (up2 (up2 (up2 (up2 G 0 j (G 0 i)) 1 j (((up2 G 0 j (G 0 i)) 1) i)) 2 j (((up2 (up2 G 0 j (G 0 i)) 1 j (((up2 G 0 j (G 0 i)) 1) i)) 2) i)) 3 j (((up2 (up2 (up2 G 0 j (G 0 i)) 1 j (((up2 G 0 j (G 0 i)) 1) i)) 2 j (((up2 (up2 G 0 j (G 0 i)) 1 j (((up2 G 0 j (G 0 i)) 1) i)) 2) i)) 3) i)) 4 j (((up2 (up2 (up2 (up2 G 0 j (G 0 i)) 1 j (((up2 G 0 j (G 0 i)) 1) i)) 2 j (((up2 (up2 G 0 j (G 0 i)) 1 j (((up2 G 0 j (G 0 i)) 1) i)) 2) i)) 3 j (((up2 (up2 (up2 G 0 j (G 0 i)) 1 j (((up2 G 0 j (G 0 i)) 1) i)) 2 j (((up2 (up2 G 0 j (G 0 i)) 1 j (((up2 G 0 j (G 0 i)) 1) i)) 2) i)) 3) i)) 4) i)) 5) i)) 6) i)) n sc) H := hP
  have hD : va_D A (wCfg cy c0 b (up2 (up2 (up2 (up2 (up2 (up2 (up2 G 0 j (G 0 i)) 1 j (((up2 G 0 j (G 0 i)) 1) i)) 2 j (((up2 (up2 G 0 j (G 0 i)) 1 j (((up2 G 0 j (G 0 i)) 1) i)) 2) i)) 3 j (((up2 (up2 (up2 G 0 j (G 0 i)) 1 j (((up2 G 0 j (G 0 i)) 1) i)) 2 j (((up2 (up2 G 0 j (G 0 i)) 1 j (((up2 G 0 j (G 0 i)) 1) i)) 2) i)) 3) i)) 4 j (((up2 (up2 (up2 (up2 G 0 j (G 0 i)) 1 j (((up2 G 0 j (G 0 i)) 1) i)) 2 j (((up2 (up2 G 0 j (G 0 i)) 1 j (((up2 G 0 j (G 0 i)) 1) i)) 2) i)) 3 j (((up2 (up2 (up2 G 0 j (G 0 i)) 1 j (((up2 G 0 j (G 0 i)) 1) i)) 2 j (((up2 (up2 G 0 j (G 0 i)) 1 j (((up2 G 0 j (G 0 i)) 1) i)) 2) i)) 3) i)) 4) i)) 5 j (((up2 (up2 (up2 (up2 (up2 G 0 j (G 0 i)) 1 j (((up2 G 0 j (G 0 i)) 1) i)) 2 j (((up2 (up2 G 0 j (G 0 i)) 1 j (((up2 G 0 j (G 0 i)) 1) i)) 2) i)) 3 j (((up2 (up2 (up2 G 0 j (G 0 i)) 1 j (((up2 G 0 j (G 0 i)) 1) i)) 2 j (((up2 (up2 G 0 j (G 0 i)) 1 j (((up2 G 0 j (G 0 i)) 1) i)) 2) i)) 3) i)) 4 j (((up2 (up2 (up2 (up2 G 0 j (G 0 i)) 1 j (((up2 G 0 j (G 0 i)) 1) i)) 2 j (((up2 (up2 G 0 j (G 0 i)) 1 j (((up2 G 0 j (G 0 i)) 1) i)) 2) i)) 3 j (((up2 (up2 (up2 G 0 j (G 0 i)) 1 j (((up2 G 0 j (G 0 i)) 1) i)) 2 j (((up2 (up2 G 0 j (G 0 i)) 1 j (((up2 G 0 j (G 0 i)) 1) i)) 2) i)) 3) i)) 4) i)) 5) i)) 6 j (((up2 (up2 (up2 (up2 (up2 (up2 G 0 j (G 0 i)) 1 j (((up2 G 0 j (G 0 i)) 1) i)) 2 j (((up2 (up2 G 0 j (G 0 i)) 1 j (((up2 G 0 j (G 0 i)) 1) i)) 2) i)) 3 j (((up2 (up2 (up2 G 0 j (G 0 i)) 1 j (((up2 G 0 j (G 0 i)) 1) i)) 2 j (((up2 (up2 G 0 j (G 0 i)) 1 j (((up2 G 0 j (G 0 i)) 1) i)) 2) i)) 3) i)) 4 j (((up2 (up2 (up2 (up2 G 0 j (G 0 i)) 1 j (((up2 G 0 j (G 0 i)) 1) i)) 2 j (((up2 (up2 G 0 j (G 0 i)) 1 j (((up2 G 0 j (G 0 i)) 1) i)) 2) i)) 3 j (((up2 (up2 (up2 G 0 j (G 0 i)) 1 j (((up2 G 0 j (G 0 i)) 1) i)) 2 j (((up2 (up2 G 0 j (G 0 i)) 1 j (((up2 G 0 j (G 0 i)) 1) i)) 2) i)) 3) i)) 4) i)) 5 j (((up2 (up2 (up2 (up2 (up2 G 0 j (G 0 i)) 1 j (((up2 G 0 j (G 0 i)) 1) i)) 2 j (((up2 (up2 G 0 j (G 0 i)) 1 j (((up2 G 0 j (G 0 i)) 1) i)) 2) i)) 3 j (((up2 (up2 (up2 G 0 j (G 0 i)) 1 j (((up2 G 0 j (G 0 i)) 1) i)) 2 j (((up2 (up2 G 0 j (G 0 i)) 1 j (((up2 G 0 j (G 0 i)) 1) i)) 2) i)) 3) i)) 4 j (((up2 (up2 (up2 (up2 G 0 j (G 0 i)) 1 j (((up2 G 0 j (G 0 i)) 1) i)) 2 j (((up2 (up2 G 0 j (G 0 i)) 1 j (((up2 G 0 j (G 0 i)) 1) i)) 2) i)) 3 j (((up2 (up2 (up2 G 0 j (G 0 i)) 1 j (((up2 G 0 j (G 0 i)) 1) i)) 2 j (((up2 (up2 G 0 j (G 0 i)) 1 j (((up2 G 0 j (G 0 i)) 1) i)) 2) i)) 3) i)) 4) i)) 5) i)) 6) i)) n sc) := hD
  have hP9 : va_P (dC, dI) vwCl (wCfg cy c0 b (setc G j (fun k => G k i)) n sc) H := hP
  have hD9 : va_D A (wCfg cy c0 b (setc G j (fun k => G k i)) n sc) := hD
  exact W.vret hx hb hr (fun t ht hW => ⟨⟨(), rfl, trivial, by rw [ht]; exact hP9, hD9⟩, hS.F ht⟩) hS.2.2 dX0_copyTask_84
set_option maxHeartbeats 1000000 in
set_option maxRecDepth 100000 in
/-- as the other configuration, below its count -/
theorem c_X0_copyFrom (l : Launch) (dC : Nat → ClassId) (dI : Nat → Nat → Nat) (cy : Nat → ClassId) (sz : Nat) (c0 : Nat) (b : Nat → Nat) (G : vG) (n sc : Int32) (c1 : Nat) (b1 : Nat → Nat) (G1 : vG) (n1 : Nat) (hn1 : n1 ≤ 8) (sc1 : Int32) : Met l yX0_copyFrom wsX0_copyFrom ({ frames := 1, cells := 0, slots := 0, locals := 23 }) (va_Pc [.ref c0, .ref c1] (pIn dC dI cy (wCfg cy c0 b G n sc ++ (wCfg cy c1 b1 G1 (nI n1) sc1)) sz)) (va_Qv (fun _ => True) (fun (u : Unit) t => va_P (dC, dI) vwCl (wCfg cy c0 b (cpG G G1 n1) (nI n1) sc1 ++ (wCfg cy c1 b1 G1 (nI n1) sc1)) t.heap ∧ va_D (va_A (wCfg cy c0 b G n sc ++ (wCfg cy c1 b1 G1 (nI n1) sc1)) sz) (wCfg cy c0 b (cpG G G1 n1) (nI n1) sc1 ++ (wCfg cy c1 b1 G1 (nI n1) sc1))) (va_A (wCfg cy c0 b G n sc ++ (wCfg cy c1 b1 G1 (nI n1) sc1)) sz)) 0 0 (va_A (wCfg cy c0 b G n sc ++ (wCfg cy c1 b1 G1 (nI n1) sc1)) sz) := by
  refine Met.ofW (cc := cX0_copyFrom) (maxL := 3) (ret := none) (by decide) rfl ?_
  intro p e s m args below meth c s₁ B hml hv
  obtain ⟨rfl, hsz, hP, hE, hD0⟩ := hv
  have hK := hE.1
  subst hsz
  have hD := hD0.self (sz := s.heap.size)
  generalize hAe : va_A (wCfg cy c0 b G n sc ++ (wCfg cy c1 b1 G1 (nI n1) sc1)) s.heap.size = A at hD ⊢
  have hA : ∀ q : Nat, s.heap.size ≤ q → A q := fun q h => by rw [← hAe]; exact Or.inr h
  have hS : va_S A s.heap s.heap [] := va_S.rf
  have hP : va_P (dC, dI) vwCl (wCfg cy c0 b G n sc ++ (wCfg cy c1 b1 G1 (nI n1) sc1)) s.heap := hP
  have hx := B.exec
  have hb := B.bytes
  have hr := B.returns
  have hts := atoms_spec (ws := wsX0_copyFrom) B.pre
  have hown : s.vm.findClass RX0 = some m.cls := findClass_of_methodNamed B.named
  have hlocks := B.notSynchronized
  have hin0 : ∀ w ∈ u_ws RX0 TX0 9, w ∈ wsX0_copyFrom := by decide +kernel
  have f_33 := hts (.fieldLink RX0 33 "DeadlineAdmission$Configuration" "scale" "I") (by decide +kernel)
  have f_37 := hts (.fieldLink RX0 37 "DeadlineAdmission$Configuration" "count" "I") (by decide +kernel)
  have hl := lv_entry ([.ref c0, .ref c1]) (n := 3) (Nat.le_of_ble_eq_true rfl)
  rw [lg_entry_eq]
  generalize (lg_sl ([.ref c0, .ref c1]) ++ List.replicate (3 - (lg_sl ([.ref c0, .ref c1])).length) Slot.unset).toArray = ls at hl ⊢
  have hl : lv_has ls 3 [(0, .ref c0), (1, .ref c1)] := hl
  refine lv_iconst (v := 0) hx hb dX0_copyFrom_0 (by decide) ?_
  refine lv_istore_n (lv' := [(2, .int 0), (0, .ref c0), (1, .ref c1)]) hx hb dX0_copyFrom_1 rfl hl (by decide) rfl (fun ls hl => ?_)
  have loop2 : ∀ (k : Nat) (i : Nat) (ls : Array Slot), i ≤ n1 → n1 < i + k → ∀ (H : Heap) (locs : List Loc), va_P (dC, dI) vwCl (wCfg cy c0 b (cpG G G1 i) n sc ++ (wCfg cy c1 b1 G1 (nI n1) sc1)) H → va_D A (wCfg cy c0 b (cpG G G1 i) n sc ++ (wCfg cy c1 b1 G1 (nI n1) sc1)) → va_S A s.heap H locs → lv_has ls 3 [(0, .ref c0), (1, .ref c1), (2, .int (nI i))] → W p l e (headSpec wsX0_copyFrom ({ frames := 1, cells := 0, slots := 0, locals := 23 }) |>.room) s m (([.ref c0, .ref c1].toArray)) below meth c H locs 0 0 (MQ below (va_Qv (fun _ => True) (fun (u : Unit) t => va_P (dC, dI) vwCl (wCfg cy c0 b (cpG G G1 n1) (nI n1) sc1 ++ (wCfg cy c1 b1 G1 (nI n1) sc1)) t.heap ∧ va_D (A) (wCfg cy c0 b (cpG G G1 n1) (nI n1) sc1 ++ (wCfg cy c1 b1 G1 (nI n1) sc1))) (A)) ([.ref c0, .ref c1].toArray) s 0 0 A) (F0 m 2 ls []) := by
    intro k
    induction k with
    | zero =>
      intro i ls hi hk
      exfalso; omega
    | succ k ih2 =>
      intro i ls hi hk H locs hP hD hS hl
      refine lv_iload_n hx hb dX0_copyFrom_2 rfl (lv_at hl 2 rfl) ?_
      refine lv_aload_n hx hb dX0_copyFrom_3 rfl (lv_at hl 1 rfl) ?_
      refine va_get (D := (dC, dI)) (ci := 0) (v := .int (nI n1)) (C := RX0) (T := TX0) (N := 9) hx hb hts hin0 hown hK hP 8 rfl rfl 7 (by decide) f_37 (fun _ h9 => h9) rfl dX0_copyFrom_4 ?_
      refine lv_icmp_ge (tgt := 23) hx hb dX0_copyFrom_7 (by decide) (fun c_7 => ?_) (fun c_7 => ?_)
      · have e_i : i = n1 := Nat.le_antisymm hi ((nI_leI (by omega) (by omega)).mp c_7)
        refine lv_aload_n hx hb dX0_copyFrom_23 rfl (lv_at hl 0 rfl) ?_
        refine lv_aload_n hx hb dX0_copyFrom_24 rfl (lv_at hl 1 rfl) ?_
        refine va_get (D := (dC, dI)) (ci := 0) (v := .int (nI n1)) (C := RX0) (T := TX0) (N := 9) hx hb hts hin0 hown hK hP 8 rfl rfl 7 (by decide) f_37 (fun _ h9 => h9) rfl dX0_copyFrom_25 ?_
        refine va_put (D := (dC, dI)) (ci := 0) (v := .int (nI n1)) (ty := .int) (C := RX0) (T := TX0) (N := 9) hx hb hts hin0 tyX0 tyX0_ok nmX0 hown hK hP hD hS 0 rfl rfl 7 (by decide) f_37 (fun _ h9 => h9) rfl (by decide +kernel) rfl rfl (Nat.le_of_ble_eq_true rfl) dX0_copyFrom_28 (fun H locs hP hD hS => ?_)
        have hP : va_P (dC, dI) vwCl (wCfg cy c0 b (cpG G G1 i) (nI n1) sc ++ (wCfg cy c1 b1 G1 (nI n1) sc1)) H := hP
        have hD : va_D A (wCfg cy c0 b (cpG G G1 i) (nI n1) sc ++ (wCfg cy c1 b1 G1 (nI n1) sc1)) := hD
        refine lv_aload_n hx hb dX0_copyFrom_31 rfl (lv_at hl 0 rfl) ?_
        refine lv_aload_n hx hb dX0_copyFrom_32 rfl (lv_at hl 1 rfl) ?_
        refine va_get (D := (dC, dI)) (ci := 0) (v := .int sc1) (C := RX0) (T := TX0) (N := 9) hx hb hts hin0 hown hK hP 8 rfl rfl 8 (by decide) f_33 (fun _ h9 => h9) rfl dX0_copyFrom_33 ?_
        refine va_put (D := (dC, dI)) (ci := 0) (v := .int sc1) (ty := .int) (C := RX0) (T := TX0) (N := 9) hx hb hts hin0 tyX0 tyX0_ok nmX0 hown hK hP hD hS 0 rfl rfl 8 (by decide) f_33 (fun _ h9 => h9) rfl (by decide +kernel) rfl rfl (Nat.le_of_ble_eq_true rfl) dX0_copyFrom_36 (fun H locs hP hD hS => ?_)
        have hP : va_P (dC, dI) vwCl (wCfg cy c0 b (cpG G G1 i) (nI n1) sc1 ++ (wCfg cy c1 b1 G1 (nI n1) sc1)) H := hP
        have hD : va_D A (wCfg cy c0 b (cpG G G1 i) (nI n1) sc1 ++ (wCfg cy c1 b1 G1 (nI n1) sc1)) := hD
        have hP9 : va_P (dC, dI) vwCl (wCfg cy c0 b (cpG G G1 n1) (nI n1) sc1 ++ (wCfg cy c1 b1 G1 (nI n1) sc1)) H := (by rw [← e_i]; rw [← e_i] at hP; exact hP)
        have hD9 : va_D A (wCfg cy c0 b (cpG G G1 n1) (nI n1) sc1 ++ (wCfg cy c1 b1 G1 (nI n1) sc1)) := (by rw [← e_i]; rw [← e_i] at hD; exact hD)
        exact W.vret hx hb hr (fun t ht hW => ⟨⟨(), rfl, trivial, by rw [ht]; exact hP9, hD9⟩, hS.F ht⟩) hS.2.2 dX0_copyFrom_39
      · have hlt : i < n1 := Nat.lt_of_not_le (fun h => c_7 (nI_le h (by omega)))
        refine lv_aload_n hx hb dX0_copyFrom_10 rfl (lv_at hl 0 rfl) ?_
        refine lv_aload_n hx hb dX0_copyFrom_11 rfl (lv_at hl 1 rfl) ?_
        refine lv_iload_n hx hb dX0_copyFrom_12 rfl (lv_at hl 2 rfl) ?_
        refine lv_iload_n hx hb dX0_copyFrom_13 rfl (lv_at hl 2 rfl) ?_
        have hPc := hP.sub (ws' := wCfg cy c0 b (cpG G G1 i) n sc ++ (wCfg cy c1 b1 G1 (nI n1) sc1)) [0, 1, 2, 3, 4, 5, 6, 7, 8, 9, 10, 11, 12, 13, 14, 15] rfl
        have hDc := hD.sub (ws' := wCfg cy c0 b (cpG G G1 i) n sc ++ (wCfg cy c1 b1 G1 (nI n1) sc1)) [0, 1, 2, 3, 4, 5, 6, 7, 8, 9, 10, 11, 12, 13, 14, 15] (by decide) rfl
        have hFc := va_free (wc := wCfg cy c0 b (cpG G G1 i) n sc ++ (wCfg cy c1 b1 G1 (nI n1) sc1)) hD hS hA [0, 1, 2, 3, 4, 5, 6, 7, 8, 9, 10, 11, 12, 13, 14, 15] rfl
        refine va_callv (va_runV (As := [.ref c1, .int (nI i), .int (nI i)]) (rest := []) ⟨hx, hb, hml, hown, hts⟩ (c_X0_copyTask l dC dI cy H.size c0 b (cpG G G1 i) n sc c1 b1 G1 (nI n1) sc1 i i (by omega) (by omega)) (cwV 3 hts gX0_copyFrom_X0_copyTask rfl rfl rfl (by decide +kernel) ⟨Nat.le_of_ble_eq_true rfl, Nat.le_of_ble_eq_true rfl⟩) ⟨bl_in, va_recv hK hPc (ci := 0) (q0 := 0) rfl rfl, pr_in hPc hE hDc⟩ rfl rfl hl.1 rfl (lv_room (Nat.le_of_ble_eq_true rfl)) dX0_copyFrom_14 ⟨Nat.le_of_ble_eq_true rfl, Nat.le_of_ble_eq_true rfl⟩) hS (fun q _ h => hFc q h) hFc (fun u t H1 locs ht hvm hw hB hz1 hk1 hS => ?_)
        obtain ⟨hP1, hD1⟩ := hB
        rw [ht] at hP1
        obtain ⟨hP, hD⟩ := va_join (wr := []) (w1 := wCfg cy c0 b (setc (cpG G G1 i) i (fun k => G1 k i)) n sc ++ (wCfg cy c1 b1 G1 (nI n1) sc1)) hP hD [0, 1, 2, 3, 4, 5, 6, 7, 8, 9, 10, 11, 12, 13, 14, 15] [] rfl rfl (by decide) (by decide) hk1 hFc hP1 hD1
        have hP : va_P (dC, dI) vwCl (wCfg cy c0 b (setc (cpG G G1 i) i (fun k => G1 k i)) n sc ++ (wCfg cy c1 b1 G1 (nI n1) sc1)) H1 := hP.sub [0, 1, 2, 3, 4, 5, 6, 7, 8, 9, 10, 11, 12, 13, 14, 15] rfl
        have hD : va_D A (wCfg cy c0 b (setc (cpG G G1 i) i (fun k => G1 k i)) n sc ++ (wCfg cy c1 b1 G1 (nI n1) sc1)) := hD.sub [0, 1, 2, 3, 4, 5, 6, 7, 8, 9, 10, 11, 12, 13, 14, 15] (by decide) rfl
        clear hz1 hk1 hPc hDc hFc hP1 hD1
        generalize H1 = H at hP hS ⊢
        refine lv_iinc (v := nI (i + 1)) (lv' := [(2, .int (nI (i + 1))), (0, .ref c0), (1, .ref c1)]) hx hb dX0_copyFrom_17 hl (k := 2) rfl (nI_1 _) (by decide) rfl (fun ls hl => ?_)
        refine lv_goto (tgt := 2) hx hb dX0_copyFrom_20 (by decide) ?_
        exact ih2 (i + 1) ls (by omega) (by omega) _ _ (by rw [← cpG_s]; exact hP) (by rw [← cpG_s]; exact hD) hS (lv_sub hl [1, 2, 0] rfl)
  exact loop2 (n1 + 1) 0 ls (Nat.zero_le _) (by omega) _ _ (by rw [cpG_0]; exact hP) (by rw [cpG_0]; exact hD) hS (lv_sub hl [1, 2, 0] rfl)
set_option maxHeartbeats 1000000 in
set_option maxRecDepth 100000 in
/-- one task more -/
theorem c_X0_append (l : Launch) (dC : Nat → ClassId) (dI : Nat → Nat → Nat) (cy : Nat → ClassId) (sz : Nat) (c0 : Nat) (b : Nat → Nat) (G : vG) (n : Nat) (hn : n < 8) (sc : Int32) (p0 p1 p2 p3 p4 p5 : Int32) : Met l yX0_append wsX0_append ({ frames := 0, cells := 0, slots := 0, locals := 0 }) (va_Pc [.ref c0, .int p0, .int p1, .int p2, .int p3, .int p4, .int p5] (pIn dC dI cy (wCfg cy c0 b G (nI n) sc) sz)) (va_Qv (fun _ => True) (fun (u : Unit) t => va_P (dC, dI) vwCl (wCfg cy c0 b (setc G n (colA p0 p1 p2 p3 p4 p5)) (nI (n + 1)) sc) t.heap ∧ va_D (va_A (wCfg cy c0 b G (nI n) sc) sz) (wCfg cy c0 b (setc G n (colA p0 p1 p2 p3 p4 p5)) (nI (n + 1)) sc)) (va_A (wCfg cy c0 b G (nI n) sc) sz)) 0 0 (va_A (wCfg cy c0 b G (nI n) sc) sz) := by
  refine Met.ofW (cc := cX0_append) (maxL := 7) (ret := none) (by decide) rfl ?_
  intro p e s m args below meth c s₁ B hml hv
  obtain ⟨rfl, hsz, hP, hE, hD0⟩ := hv
  have hK := hE.1
  subst hsz
  have hD := hD0.self (sz := s.heap.size)
  generalize hAe : va_A (wCfg cy c0 b G (nI n) sc) s.heap.size = A at hD ⊢
  have hA : ∀ q : Nat, s.heap.size ≤ q → A q := fun q h => by rw [← hAe]; exact Or.inr h
  have hS : va_S A s.heap s.heap [] := va_S.rf
  have hP : va_P (dC, dI) vwCl (wCfg cy c0 b G (nI n) sc) s.heap := hP
  have hx := B.exec
  have hb := B.bytes
  have hr := B.returns
  have hts := atoms_spec (ws := wsX0_append) B.pre
  have hown : s.vm.findClass RX0 = some m.cls := findClass_of_methodNamed B.named
  have hlocks := B.notSynchronized
  have hin0 : ∀ w ∈ u_ws RX0 TX0 9, w ∈ wsX0_append := by decide +kernel
  have f_15 := hts (.fieldLink RX0 15 "DeadlineAdmission$Configuration" "deadline" "[I") (by decide +kernel)
  have f_18 := hts (.fieldLink RX0 18 "DeadlineAdmission$Configuration" "lowBudget" "[I") (by decide +kernel)
  have f_21 := hts (.fieldLink RX0 21 "DeadlineAdmission$Configuration" "highBudget" "[I") (by decide +kernel)
  have f_24 := hts (.fieldLink RX0 24 "DeadlineAdmission$Configuration" "importance" "[I") (by decide +kernel)
  have f_27 := hts (.fieldLink RX0 27 "DeadlineAdmission$Configuration" "greatestLevel" "[I") (by decide +kernel)
  have f_30 := hts (.fieldLink RX0 30 "DeadlineAdmission$Configuration" "level" "[I") (by decide +kernel)
  have f_37 := hts (.fieldLink RX0 37 "DeadlineAdmission$Configuration" "count" "I") (by decide +kernel)
  have f_9 := hts (.fieldLink RX0 9 "DeadlineAdmission$Configuration" "basePeriod" "[I") (by decide +kernel)
  have hl := lv_entry ([.ref c0, .int p0, .int p1, .int p2, .int p3, .int p4, .int p5]) (n := 7) (Nat.le_of_ble_eq_true rfl)
  rw [lg_entry_eq]
  generalize (lg_sl ([.ref c0, .int p0, .int p1, .int p2, .int p3, .int p4, .int p5]) ++ List.replicate (7 - (lg_sl ([.ref c0, .int p0, .int p1, .int p2, .int p3, .int p4, .int p5])).length) Slot.unset).toArray = ls at hl ⊢
  have hl : lv_has ls 7 [(0, .ref c0), (1, .int p0), (2, .int p1), (3, .int p2), (4, .int p3), (5, .int p4), (6, .int p5)] := hl
  refine lv_aload_n hx hb dX0_append_0 rfl (lv_at hl 0 rfl) ?_
  refine va_get (D := (dC, dI)) (ci := 0) (v := .ref (b 0)) (C := RX0) (T := TX0) (N := 9) hx hb hts hin0 hown hK hP 0 rfl rfl 0 (by decide) f_9 (fun _ h9 => h9) rfl dX0_append_1 ?_
  refine lv_aload_n hx hb dX0_append_4 rfl (lv_at hl 0 rfl) ?_
  refine va_get (D := (dC, dI)) (ci := 0) (v := .int (nI n)) (C := RX0) (T := TX0) (N := 9) hx hb hts hin0 hown hK hP 0 rfl rfl 7 (by decide) f_37 (fun _ h9 => h9) rfl dX0_append_5 ?_
  refine lv_iload_n hx hb dX0_append_8 rfl (lv_at hl 1 rfl) ?_
  refine wI_ast hx hb hK hP hD hS 1 0 rfl rfl n rfl (by omega) (by decide) dX0_append_9 (fun H locs hP hD hS => ?_)
  have hP : va_P (dC, dI) vwCl (wCfg cy c0 b (up2 G 0 n p0) (nI n) sc) H := hP
  have hD : va_D A (wCfg cy c0 b (up2 G 0 n p0) (nI n) sc) := hD
  refine lv_aload_n hx hb dX0_append_10 rfl (lv_at hl 0 rfl) ?_
  refine va_get (D := (dC, dI)) (ci := 0) (v := .ref (b 1)) (C := RX0) (T := TX0) (N := 9) hx hb hts hin0 hown hK hP 0 rfl rfl 1 (by decide) f_15 (fun _ h9 => h9) rfl dX0_append_11 ?_
  refine lv_aload_n hx hb dX0_append_14 rfl (lv_at hl 0 rfl) ?_
  refine va_get (D := (dC, dI)) (ci := 0) (v := .int (nI n)) (C := RX0) (T := TX0) (N := 9) hx hb hts hin0 hown hK hP 0 rfl rfl 7 (by decide) f_37 (fun _ h9 => h9) rfl dX0_append_15 ?_
  refine lv_iload_n hx hb dX0_append_18 rfl (lv_at hl 2 rfl) ?_
  refine wI_ast hx hb hK hP hD hS 2 0 rfl rfl n rfl (by omega) (by decide) dX0_append_19 (fun H locs hP hD hS => ?_)
  have hP : va_P (dC, dI) vwCl (wCfg cy c0 b (up2 (up2 G 0 n p0) 1 n p1) (nI n) sc) H := hP
  have hD : va_D A (wCfg cy c0 b (up2 (up2 G 0 n p0) 1 n p1) (nI n) sc) := hD
  refine lv_aload_n hx hb dX0_append_20 rfl (lv_at hl 0 rfl) ?_
  refine va_get (D := (dC, dI)) (ci := 0) (v := .ref (b 2)) (C := RX0) (T := TX0) (N := 9) hx hb hts hin0 hown hK hP 0 rfl rfl 2 (by decide) f_18 (fun _ h9 => h9) rfl dX0_append_21 ?_
  refine lv_aload_n hx hb dX0_append_24 rfl (lv_at hl 0 rfl) ?_
  refine va_get (D := (dC, dI)) (ci := 0) (v := .int (nI n)) (C := RX0) (T := TX0) (N := 9) hx hb hts hin0 hown hK hP 0 rfl rfl 7 (by decide) f_37 (fun _ h9 => h9) rfl dX0_append_25 ?_
  refine lv_iload_n hx hb dX0_append_28 rfl (lv_at hl 3 rfl) ?_
  refine wI_ast hx hb hK hP hD hS 3 0 rfl rfl n rfl (by omega) (by decide) dX0_append_29 (fun H locs hP hD hS => ?_)
  have hP : va_P (dC, dI) vwCl (wCfg cy c0 b (up2 (up2 (up2 G 0 n p0) 1 n p1) 2 n p2) (nI n) sc) H := hP
  have hD : va_D A (wCfg cy c0 b (up2 (up2 (up2 G 0 n p0) 1 n p1) 2 n p2) (nI n) sc) := hD
  refine lv_aload_n hx hb dX0_append_30 rfl (lv_at hl 0 rfl) ?_
  refine va_get (D := (dC, dI)) (ci := 0) (v := .ref (b 3)) (C := RX0) (T := TX0) (N := 9) hx hb hts hin0 hown hK hP 0 rfl rfl 3 (by decide) f_21 (fun _ h9 => h9) rfl dX0_append_31 ?_
  refine lv_aload_n hx hb dX0_append_34 rfl (lv_at hl 0 rfl) ?_
  refine va_get (D := (dC, dI)) (ci := 0) (v := .int (nI n)) (C := RX0) (T := TX0) (N := 9) hx hb hts hin0 hown hK hP 0 rfl rfl 7 (by decide) f_37 (fun _ h9 => h9) rfl dX0_append_35 ?_
  refine lv_iload hx hb dX0_append_38 (lv_at hl 4 rfl) ?_
  refine wI_ast hx hb hK hP hD hS 4 0 rfl rfl n rfl (by omega) (by decide) dX0_append_40 (fun H locs hP hD hS => ?_)
  have hP : va_P (dC, dI) vwCl (wCfg cy c0 b (up2 (up2 (up2 (up2 G 0 n p0) 1 n p1) 2 n p2) 3 n p3) (nI n) sc) H := hP
  have hD : va_D A (wCfg cy c0 b (up2 (up2 (up2 (up2 G 0 n p0) 1 n p1) 2 n p2) 3 n p3) (nI n) sc) := hD
  refine lv_aload_n hx hb dX0_append_41 rfl (lv_at hl 0 rfl) ?_
  refine va_get (D := (dC, dI)) (ci := 0) (v := .ref (b 4)) (C := RX0) (T := TX0) (N := 9) hx hb hts hin0 hown hK hP 0 rfl rfl 4 (by decide) f_24 (fun _ h9 => h9) rfl dX0_append_42 ?_
  refine lv_aload_n hx hb dX0_append_45 rfl (lv_at hl 0 rfl) ?_
  refine va_get (D := (dC, dI)) (ci := 0) (v := .int (nI n)) (C := RX0) (T := TX0) (N := 9) hx hb hts hin0 hown hK hP 0 rfl rfl 7 (by decide) f_37 (fun _ h9 => h9) rfl dX0_append_46 ?_
  refine lv_iload hx hb dX0_append_49 (lv_at hl 5 rfl) ?_
  refine wI_ast hx hb hK hP hD hS 5 0 rfl rfl n rfl (by omega) (by decide) dX0_append_51 (fun H locs hP hD hS => ?_)
  have hP : va_P (dC, dI) vwCl (wCfg cy c0 b (up2 (up2 (up2 (up2 (up2 G 0 n p0) 1 n p1) 2 n p2) 3 n p3) 4 n p4) (nI n) sc) H := hP
  have hD : va_D A (wCfg cy c0 b (up2 (up2 (up2 (up2 (up2 G 0 n p0) 1 n p1) 2 n p2) 3 n p3) 4 n p4) (nI n) sc) := hD
  refine lv_aload_n hx hb dX0_append_52 rfl (lv_at hl 0 rfl) ?_
  refine va_get (D := (dC, dI)) (ci := 0) (v := .ref (b 5)) (C := RX0) (T := TX0) (N := 9) hx hb hts hin0 hown hK hP 0 rfl rfl 5 (by decide) f_27 (fun _ h9 => h9) rfl dX0_append_53 ?_
  refine lv_aload_n hx hb dX0_append_56 rfl (lv_at hl 0 rfl) ?_
  refine va_get (D := (dC, dI)) (ci := 0) (v := .int (nI n)) (C := RX0) (T := TX0) (N := 9) hx hb hts hin0 hown hK hP 0 rfl rfl 7 (by decide) f_37 (fun _ h9 => h9) rfl dX0_append_57 ?_
  refine lv_iload hx hb dX0_append_60 (lv_at hl 6 rfl) ?_
  refine wI_ast hx hb hK hP hD hS 6 0 rfl rfl n rfl (by omega) (by decide) dX0_append_62 (fun H locs hP hD hS => ?_)
  have hP : va_P (dC, dI) vwCl (wCfg cy c0 b (up2 (up2 (up2 (up2 (up2 (up2 G 0 n p0) 1 n p1) 2 n p2) 3 n p3) 4 n p4) 5 n p5) (nI n) sc) H := hP
  have hD : va_D A (wCfg cy c0 b (up2 (up2 (up2 (up2 (up2 (up2 G 0 n p0) 1 n p1) 2 n p2) 3 n p3) 4 n p4) 5 n p5) (nI n) sc) := hD
  refine lv_aload_n hx hb dX0_append_63 rfl (lv_at hl 0 rfl) ?_
  refine va_get (D := (dC, dI)) (ci := 0) (v := .ref (b 6)) (C := RX0) (T := TX0) (N := 9) hx hb hts hin0 hown hK hP 0 rfl rfl 6 (by decide) f_30 (fun _ h9 => h9) rfl dX0_append_64 ?_
  refine lv_aload_n hx hb dX0_append_67 rfl (lv_at hl 0 rfl) ?_
  refine va_get (D := (dC, dI)) (ci := 0) (v := .int (nI n)) (C := RX0) (T := TX0) (N := 9) hx hb hts hin0 hown hK hP 0 rfl rfl 7 (by decide) f_37 (fun _ h9 => h9) rfl dX0_append_68 ?_
  refine lv_iconst (v := 0) hx hb dX0_append_71 (by decide) ?_
  refine wI_ast hx hb hK hP hD hS 7 0 rfl rfl n rfl (by omega) (by decide) dX0_append_72 (fun H locs hP hD hS => ?_)
  have hP : va_P (dC, dI) vwCl (wCfg cy c0 b (up2 (up2 (up2 (up2 (up2 (up2 (up2 G 0 n p0) 1 n p1) 2 n p2) 3 n p3) 4 n p4) 5 n p5) 6 n 0) (nI n) sc) H := hP
  have hD : va_D A (wCfg cy c0 b (up2 (up2 (up2 (up2 (up2 (up2 (up2 G 0 n p0) 1 n p1) 2 n p2) 3 n p3) 4 n p4) 5 n p5) 6 n 0) (nI n) sc) := hD
  refine lv_aload_n hx hb dX0_append_73 rfl (lv_at hl 0 rfl) ?_
  refine lv_dup hx hb dX0_append_74 rfl ?_
  refine va_get (D := (dC, dI)) (ci := 0) (v := .int (nI n)) (C := RX0) (T := TX0) (N := 9) hx hb hts hin0 hown hK hP 0 rfl rfl 7 (by decide) f_37 (fun _ h9 => h9) rfl dX0_append_75 ?_
  refine lv_iconst (v := 1) hx hb dX0_append_78 (by decide) ?_
  refine lv_iadd hx hb dX0_append_79 ?_
  refine va_put (D := (dC, dI)) (ci := 0) (v := .int ((nI n) + 1)) (ty := .int) (C := RX0) (T := TX0) (N := 9) hx hb hts hin0 tyX0 tyX0_ok nmX0 hown hK hP hD hS 0 rfl rfl 7 (by decide) f_37 (fun _ h9 => h9) rfl (by decide +kernel) rfl rfl (Nat.le_of_ble_eq_true rfl) dX0_append_80 (fun H locs hP hD hS => ?_)
  have hP : va_P (dC, dI) vwCl (wCfg cy c0 b (up2 (up2 (up2 (up2 (up2 (up2 (up2 G 0 n p0) 1 n p1) 2 n p2) 3 n p3) 4 n p4) 5 n p5) 6 n 0) ((nI n) + 1) sc) H := hP
  have hD : va_D A (wCfg cy c0 b (up2 (up2 (up2 (up2 (up2 (up2 (up2 G 0 n p0) 1 n p1) 2 n p2) 3 n p3) 4 n p4) 5 n p5) 6 n 0) ((nI n) + 1) sc) := hD
  have hP9 : va_P (dC, dI) vwCl (wCfg cy c0 b (setc G n (colA p0 p1 p2 p3 p4 p5)) (nI (n + 1)) sc) H := (by have e9 := nI_1 n; rw [← e9]; exact hP)
  have hD9 : va_D A (wCfg cy c0 b (setc G n (colA p0 p1 p2 p3 p4 p5)) (nI (n + 1)) sc) := (by have e9 := nI_1 n; rw [← e9]; exact hD)
  exact W.vret hx hb hr (fun t ht hW => ⟨⟨(), rfl, trivial, by rw [ht]; exact hP9, hD9⟩, hS.F ht⟩) hS.2.2 dX0_append_83
set_option maxHeartbeats 1000000 in
set_option maxRecDepth 100000 in
/-- a task is taken out -/
theorem c_X0_removeAt (l : Launch) (dC : Nat → ClassId) (dI : Nat → Nat → Nat) (cy : Nat → ClassId) (sz : Nat) (c0 : Nat) (b : Nat → Nat) (G : vG) (n : Nat) (hn : n < 8) (sc : Int32) (r : Nat) (hrn : r ≤ n) : Met l yX0_removeAt wsX0_removeAt ({ frames := 1, cells := 0, slots := 0, locals := 23 }) (va_Pc [.ref c0, .int (nI r)] (pIn dC dI cy (wCfg cy c0 b G (nI (n + 1)) sc) sz)) (va_Qv (fun _ => True) (fun (u : Unit) t => va_P (dC, dI) vwCl (wCfg cy c0 b (rmG G r (n + 1)) (nI n) sc) t.heap ∧ va_D (va_A (wCfg cy c0 b G (nI (n + 1)) sc) sz) (wCfg cy c0 b (rmG G r (n + 1)) (nI n) sc)) (va_A (wCfg cy c0 b G (nI (n + 1)) sc) sz)) 0 0 (va_A (wCfg cy c0 b G (nI (n + 1)) sc) sz) := by
  refine Met.ofW (cc := cX0_removeAt) (maxL := 3) (ret := none) (by decide) rfl ?_
  intro p e s m args below meth c s₁ B hml hv
  obtain ⟨rfl, hsz, hP, hE, hD0⟩ := hv
  have hK := hE.1
  subst hsz
  have hD := hD0.self (sz := s.heap.size)
  generalize hAe : va_A (wCfg cy c0 b G (nI (n + 1)) sc) s.heap.size = A at hD ⊢
  have hA : ∀ q : Nat, s.heap.size ≤ q → A q := fun q h => by rw [← hAe]; exact Or.inr h
  have hS : va_S A s.heap s.heap [] := va_S.rf
  have hP : va_P (dC, dI) vwCl (wCfg cy c0 b G (nI (n + 1)) sc) s.heap := hP
  have hx := B.exec
  have hb := B.bytes
  have hr := B.returns
  have hts := atoms_spec (ws := wsX0_removeAt) B.pre
  have hown : s.vm.findClass RX0 = some m.cls := findClass_of_methodNamed B.named
  have hlocks := B.notSynchronized
  have hin0 : ∀ w ∈ u_ws RX0 TX0 9, w ∈ wsX0_removeAt := by decide +kernel
  have f_37 := hts (.fieldLink RX0 37 "DeadlineAdmission$Configuration" "count" "I") (by decide +kernel)
  have hl := lv_entry ([.ref c0, .int (nI r)]) (n := 3) (Nat.le_of_ble_eq_true rfl)
  rw [lg_entry_eq]
  generalize (lg_sl ([.ref c0, .int (nI r)]) ++ List.replicate (3 - (lg_sl ([.ref c0, .int (nI r)])).length) Slot.unset).toArray = ls at hl ⊢
  have hl : lv_has ls 3 [(0, .ref c0), (1, .int (nI r))] := hl
  refine lv_iload_n hx hb dX0_removeAt_0 rfl (lv_at hl 1 rfl) ?_
  refine lv_iconst (v := 1) hx hb dX0_removeAt_1 (by decide) ?_
  refine lv_iadd hx hb dX0_removeAt_2 ?_
  refine lv_topi (fun y_ ey_ => ?_)
  obtain rfl : y_ = nI (r + 1) := ey_.trans (nI_1 r)
  refine lv_istore_n (lv' := [(2, .int (nI (r + 1))), (0, .ref c0), (1, .int (nI r))]) hx hb dX0_removeAt_3 rfl hl (by decide) rfl (fun ls hl => ?_)
  have loop4 : ∀ (k : Nat) (i : Nat) (ls : Array Slot), i ≤ n + 1 → r < i → n + 1 < i + k → ∀ (H : Heap) (locs : List Loc), va_P (dC, dI) vwCl (wCfg cy c0 b (rmG G r i) (nI (n + 1)) sc) H → va_D A (wCfg cy c0 b (rmG G r i) (nI (n + 1)) sc) → va_S A s.heap H locs → lv_has ls 3 [(0, .ref c0), (1, .int (nI r)), (2, .int (nI i))] → W p l e (headSpec wsX0_removeAt ({ frames := 1, cells := 0, slots := 0, locals := 23 }) |>.room) s m (([.ref c0, .int (nI r)].toArray)) below meth c H locs 0 0 (MQ below (va_Qv (fun _ => True) (fun (u : Unit) t => va_P (dC, dI) vwCl (wCfg cy c0 b (rmG G r (n + 1)) (nI n) sc) t.heap ∧ va_D (A) (wCfg cy c0 b (rmG G r (n + 1)) (nI n) sc)) (A)) ([.ref c0, .int (nI r)].toArray) s 0 0 A) (F0 m 4 ls []) := by
    intro k
    induction k with
    | zero =>
      intro i ls hi hri hk
      exfalso; omega
    | succ k ih4 =>
      intro i ls hi hri hk H locs hP hD hS hl
      refine lv_iload_n hx hb dX0_removeAt_4 rfl (lv_at hl 2 rfl) ?_
      refine lv_aload_n hx hb dX0_removeAt_5 rfl (lv_at hl 0 rfl) ?_
      refine va_get (D := (dC, dI)) (ci := 0) (v := .int (nI (n + 1))) (C := RX0) (T := TX0) (N := 9) hx hb hts hin0 hown hK hP 0 rfl rfl 7 (by decide) f_37 (fun _ h9 => h9) rfl dX0_removeAt_6 ?_
      refine lv_icmp_ge (tgt := 27) hx hb dX0_removeAt_9 (by decide) (fun c_9 => ?_) (fun c_9 => ?_)
      · have e_i : i = n + 1 := Nat.le_antisymm hi ((nI_leI (by omega) (by omega)).mp c_9)
        refine lv_aload_n hx hb dX0_removeAt_27 rfl (lv_at hl 0 rfl) ?_
        refine lv_dup hx hb dX0_removeAt_28 rfl ?_
        refine va_get (D := (dC, dI)) (ci := 0) (v := .int (nI (n + 1))) (C := RX0) (T := TX0) (N := 9) hx hb hts hin0 hown hK hP 0 rfl rfl 7 (by decide) f_37 (fun _ h9 => h9) rfl dX0_removeAt_29 ?_
        refine lv_iconst (v := 1) hx hb dX0_removeAt_32 (by decide) ?_
        refine lv_isub hx hb dX0_removeAt_33 ?_
        refine va_put (D := (dC, dI)) (ci := 0) (v := .int ((nI (n + 1)) - 1)) (ty := .int) (C := RX0) (T := TX0) (N := 9) hx hb hts hin0 tyX0 tyX0_ok nmX0 hown hK hP hD hS 0 rfl rfl 7 (by decide) f_37 (fun _ h9 => h9) rfl (by decide +kernel) rfl rfl (Nat.le_of_ble_eq_true rfl) dX0_removeAt_34 (fun H locs hP hD hS => ?_)
        have hP : va_P (dC, dI) vwCl (wCfg cy c0 b (rmG G r i) ((nI (n + 1)) - 1) sc) H := hP
        have hD : va_D A (wCfg cy c0 b (rmG G r i) ((nI (n + 1)) - 1) sc) := hD
        have hP9 : va_P (dC, dI) vwCl (wCfg cy c0 b (rmG G r (n + 1)) (nI n) sc) H := (by rw [← nI_pred n]; rw [e_i] at hP; exact hP)
        have hD9 : va_D A (wCfg cy c0 b (rmG G r (n + 1)) (nI n) sc) := (by rw [← nI_pred n]; rw [e_i] at hD; exact hD)
        exact W.vret hx hb hr (fun t ht hW => ⟨⟨(), rfl, trivial, by rw [ht]; exact hP9, hD9⟩, hS.F ht⟩) hS.2.2 dX0_removeAt_37
      · have hlt : i < n + 1 := Nat.lt_of_not_le (fun h => c_9 (nI_le h (by omega)))
        refine lv_aload_n hx hb dX0_removeAt_12 rfl (lv_at hl 0 rfl) ?_
        refine lv_aload_n hx hb dX0_removeAt_13 rfl (lv_at hl 0 rfl) ?_
        refine lv_iload_n hx hb dX0_removeAt_14 rfl (lv_at hl 2 rfl) ?_
        refine lv_iload_n hx hb dX0_removeAt_15 rfl (lv_at hl 2 rfl) ?_
        refine lv_iconst (v := 1) hx hb dX0_removeAt_16 (by decide) ?_
        refine lv_isub hx hb dX0_removeAt_17 ?_
        refine lv_topi (fun y_ ey_ => ?_)
        obtain rfl : y_ = nI (i - 1) := ey_.trans (nsub rfl rfl (by omega))
        have hPc := hP.sub (ws' := wCfg cy c0 b (rmG G r i) (nI (n + 1)) sc) [0, 1, 2, 3, 4, 5, 6, 7] rfl
        have hDc := hD.sub (ws' := wCfg cy c0 b (rmG G r i) (nI (n + 1)) sc) [0, 1, 2, 3, 4, 5, 6, 7] (by decide) rfl
        have hFc := va_free (wc := wCfg cy c0 b (rmG G r i) (nI (n + 1)) sc) hD hS hA [0, 1, 2, 3, 4, 5, 6, 7] rfl
        refine va_callv (va_runV (As := [.ref c0, .int (nI i), .int (nI (i - 1))]) (rest := []) ⟨hx, hb, hml, hown, hts⟩ (c_X0_copyTask_self l dC dI cy H.size c0 b (rmG G r i) (nI (n + 1)) sc i (i - 1) (by omega) (by omega)) (cwV 3 hts gX0_removeAt_X0_copyTask rfl rfl rfl (by decide +kernel) ⟨Nat.le_of_ble_eq_true rfl, Nat.le_of_ble_eq_true rfl⟩) ⟨bl_in, va_recv hK hPc (ci := 0) (q0 := 0) rfl rfl, pr_in hPc hE hDc⟩ rfl rfl hl.1 rfl (lv_room (Nat.le_of_ble_eq_true rfl)) dX0_removeAt_18 ⟨Nat.le_of_ble_eq_true rfl, Nat.le_of_ble_eq_true rfl⟩) hS (fun q _ h => hFc q h) hFc (fun u t H1 locs ht hvm hw hB hz1 hk1 hS => ?_)
        obtain ⟨hP1, hD1⟩ := hB
        rw [ht] at hP1
        obtain ⟨hP, hD⟩ := va_join (wr := []) (w1 := wCfg cy c0 b (setc (rmG G r i) (i - 1) (fun k => (rmG G r i) k i)) (nI (n + 1)) sc) hP hD [0, 1, 2, 3, 4, 5, 6, 7] [] rfl rfl (by decide) (by decide) hk1 hFc hP1 hD1
        have hP : va_P (dC, dI) vwCl (wCfg cy c0 b (setc (rmG G r i) (i - 1) (fun k => (rmG G r i) k i)) (nI (n + 1)) sc) H1 := hP.sub [0, 1, 2, 3, 4, 5, 6, 7] rfl
        have hD : va_D A (wCfg cy c0 b (setc (rmG G r i) (i - 1) (fun k => (rmG G r i) k i)) (nI (n + 1)) sc) := hD.sub [0, 1, 2, 3, 4, 5, 6, 7] (by decide) rfl
        clear hz1 hk1 hPc hDc hFc hP1 hD1
        generalize H1 = H at hP hS ⊢
        refine lv_iinc (v := nI (i + 1)) (lv' := [(2, .int (nI (i + 1))), (0, .ref c0), (1, .int (nI r))]) hx hb dX0_removeAt_21 hl (k := 2) rfl (nI_1 _) (by decide) rfl (fun ls hl => ?_)
        refine lv_goto (tgt := 4) hx hb dX0_removeAt_24 (by decide) ?_
        exact ih4 (i + 1) ls (by omega) (by omega) (by omega) _ _ (by rw [← rmG_s G r i hri]; exact hP) (by rw [← rmG_s G r i hri]; exact hD) hS (lv_sub hl [1, 2, 0] rfl)
  exact loop4 (n + 2) (r + 1) ls (by omega) (by omega) (by omega) _ _ (by rw [rmG_0]; exact hP) (by rw [rmG_0]; exact hD) hS (lv_sub hl [1, 2, 0] rfl)
set_option maxHeartbeats 1000000 in
set_option maxRecDepth 100000 in
/-- the level of a task is lowered as often as the configuration stays admissible -/
theorem c_X0_lowerLevel (l : Launch) (dC : Nat → ClassId) (dI : Nat → Nat → Nat) (cy : Nat → ClassId) (sz : Nat) (c0 : Nat) (b : Nat → Nat) (G : vG) (n : Nat) (hn : n ≤ 8) (sc : Int32) (i : Nat) (hi8 : i < 8) (lv : Nat) (hlv8 : lv < 8) (hlv : G 6 i = nI lv) : Met l yX0_lowerLevel wsX0_lowerLevel ({ frames := 5, cells := 0, slots := 0, locals := 120 }) (va_Pc [.ref c0, .int (nI i)] (pIn dC dI cy (wCfg cy c0 b G (nI n) sc) sz)) (va_Qi (fun (r : Int32) (u : vG × Int32) => r = nI (lwl n i lv G sc 0).2.2 ∧ u.1 = (lwl n i lv G sc 0).1 ∧ u.2 = (lwl n i lv G sc 0).2.1) (fun (u : vG × Int32) t => va_P (dC, dI) vwCl (wCfg cy c0 b u.1 (nI n) u.2) t.heap ∧ va_D (va_A (wCfg cy c0 b G (nI n) sc) sz) (wCfg cy c0 b u.1 (nI n) u.2)) (va_A (wCfg cy c0 b G (nI n) sc) sz)) 0 0 (va_A (wCfg cy c0 b G (nI n) sc) sz) := by
  refine Met.ofW (cc := cX0_lowerLevel) (maxL := 4) (ret := some .int) (by decide) rfl ?_
  intro p e s m args below meth c s₁ B hml hv
  obtain ⟨rfl, hsz, hP, hE, hD0⟩ := hv
  have hK := hE.1
  subst hsz
  have hD := hD0.self (sz := s.heap.size)
  generalize hAe : va_A (wCfg cy c0 b G (nI n) sc) s.heap.size = A at hD ⊢
  have hA : ∀ q : Nat, s.heap.size ≤ q → A q := fun q h => by rw [← hAe]; exact Or.inr h
  have hS : va_S A s.heap s.heap [] := va_S.rf
  have hP : va_P (dC, dI) vwCl (wCfg cy c0 b G (nI n) sc) s.heap := hP
  have hx := B.exec
  have hb := B.bytes
  have hr := B.returns
  have hts := atoms_spec (ws := wsX0_lowerLevel) B.pre
  have hown : s.vm.findClass RX0 = some m.cls := findClass_of_methodNamed B.named
  have hlocks := B.notSynchronized
  have hin0 : ∀ w ∈ u_ws RX0 TX0 9, w ∈ wsX0_lowerLevel := by decide +kernel
  have f_30 := hts (.fieldLink RX0 30 "DeadlineAdmission$Configuration" "level" "[I") (by decide +kernel)
  have hl := lv_entry ([.ref c0, .int (nI i)]) (n := 4) (Nat.le_of_ble_eq_true rfl)
  rw [lg_entry_eq]
  generalize (lg_sl ([.ref c0, .int (nI i)]) ++ List.replicate (4 - (lg_sl ([.ref c0, .int (nI i)])).length) Slot.unset).toArray = ls at hl ⊢
  have hl : lv_has ls 4 [(0, .ref c0), (1, .int (nI i))] := hl
  refine lv_aload_n hx hb dX0_lowerLevel_0 rfl (lv_at hl 0 rfl) ?_
  refine va_get (D := (dC, dI)) (ci := 0) (v := .ref (b 6)) (C := RX0) (T := TX0) (N := 9) hx hb hts hin0 hown hK hP 0 rfl rfl 6 (by decide) f_30 (fun _ h9 => h9) rfl dX0_lowerLevel_1 ?_
  refine lv_iload_n hx hb dX0_lowerLevel_4 rfl (lv_at hl 1 rfl) ?_
  refine wI_alv (v := G 6 i) hx hb hK hP 7 0 rfl rfl i rfl (by omega) (by decide) rfl dX0_lowerLevel_5 ?_
  refine lv_topi (fun y_ ey_ => ?_)
  obtain rfl : y_ = nI lv := ey_.trans hlv
  refine lv_istore_n (lv' := [(2, .int (nI lv)), (0, .ref c0), (1, .int (nI i))]) hx hb dX0_lowerLevel_6 rfl hl (by decide) rfl (fun ls hl => ?_)
  refine lv_iconst (v := 0) hx hb dX0_lowerLevel_7 (by decide) ?_
  refine lv_istore_n (lv' := [(3, .int 0), (2, .int (nI lv)), (0, .ref c0), (1, .int (nI i))]) hx hb dX0_lowerLevel_8 rfl hl (by decide) rfl (fun ls hl => ?_)
  have loop9 : ∀ (k : Nat) (q : Nat) (st : Nat) (Gc : vG) (scc : Int32) (ls : Array Slot), st + q = lv → q < k → lwl n i q Gc scc st = lwl n i lv G sc 0 → ∀ (H : Heap) (locs : List Loc), va_P (dC, dI) vwCl (wCfg cy c0 b Gc (nI n) scc) H → va_D A (wCfg cy c0 b Gc (nI n) scc) → va_S A s.heap H locs → lv_has ls 4 [(0, .ref c0), (1, .int (nI i)), (2, .int (nI lv)), (3, .int (nI st))] → W p l e (headSpec wsX0_lowerLevel ({ frames := 5, cells := 0, slots := 0, locals := 120 }) |>.room) s m (([.ref c0, .int (nI i)].toArray)) below meth c H locs 0 0 (MQ below (va_Qi (fun (r : Int32) (u : vG × Int32) => r = nI (lwl n i lv G sc 0).2.2 ∧ u.1 = (lwl n i lv G sc 0).1 ∧ u.2 = (lwl n i lv G sc 0).2.1) (fun (u : vG × Int32) t => va_P (dC, dI) vwCl (wCfg cy c0 b u.1 (nI n) u.2) t.heap ∧ va_D (A) (wCfg cy c0 b u.1 (nI n) u.2)) (A)) ([.ref c0, .int (nI i)].toArray) s 0 0 A) (F0 m 9 ls []) := by
    intro k
    induction k with
    | zero =>
      intro q st Gc scc ls hi hk eq0
      exfalso; omega
    | succ k ih9 =>
      intro q st Gc scc ls hi hk eq0 H locs hP hD hS hl
      refine lv_iload_n hx hb dX0_lowerLevel_9 rfl (lv_at hl 3 rfl) ?_
      refine lv_iload_n hx hb dX0_lowerLevel_10 rfl (lv_at hl 2 rfl) ?_
      refine lv_icmp_ge (tgt := 49) hx hb dX0_lowerLevel_11 (by decide) (fun c_11 => ?_) (fun c_11 => ?_)
      · have e_q : q = 0 := by have := (nI_leI (a := lv) (b := st) (by omega) (by omega)).mp c_11; omega
        refine lv_iload_n hx hb dX0_lowerLevel_49 rfl (lv_at hl 2 rfl) ?_
        have hP9 : va_P (dC, dI) vwCl (wCfg cy c0 b Gc (nI n) scc) H := hP
        have hD9 : va_D A (wCfg cy c0 b Gc (nI n) scc) := hD
        exact W.iret (v := nI lv) hx hb hr (fun t ht hW => ⟨⟨nI lv, (Gc, scc), rfl, (by rw [← eq0, e_q, show lv = st by omega]; exact ⟨rfl, rfl, rfl⟩), by rw [ht]; exact hP9, hD9⟩, hS.F ht⟩) hS.2.2 dX0_lowerLevel_50
      · obtain ⟨q, rfl⟩ : ∃ z, q = z + 1 := ⟨q - 1, by have h : ¬ (lv ≤ st) := fun h => c_11 ((nI_leI (a := lv) (b := st) (by omega) (by omega)).mpr h); omega⟩
        refine lv_aload_n hx hb dX0_lowerLevel_14 rfl (lv_at hl 0 rfl) ?_
        refine va_get (D := (dC, dI)) (ci := 0) (v := .ref (b 6)) (C := RX0) (T := TX0) (N := 9) hx hb hts hin0 hown hK hP 0 rfl rfl 6 (by decide) f_30 (fun _ h9 => h9) rfl dX0_lowerLevel_15 ?_
        refine lv_iload_n hx hb dX0_lowerLevel_18 rfl (lv_at hl 1 rfl) ?_
        refine lv_dup2_11 hx hb dX0_lowerLevel_19 rfl rfl ?_
        refine wI_alv (v := Gc 6 i) hx hb hK hP 7 0 rfl rfl i rfl (by omega) (by decide) rfl dX0_lowerLevel_20 ?_
        refine lv_iconst (v := 1) hx hb dX0_lowerLevel_21 (by decide) ?_
        refine lv_isub hx hb dX0_lowerLevel_22 ?_
        refine wI_ast hx hb hK hP hD hS 7 0 rfl rfl i rfl (by omega) (by decide) dX0_lowerLevel_23 (fun H locs hP hD hS => ?_)
        have hP : va_P (dC, dI) vwCl (wCfg cy c0 b (up2 Gc 6 i ((Gc 6 i) - 1)) (nI n) scc) H := hP
        have hD : va_D A (wCfg cy c0 b (up2 Gc 6 i ((Gc 6 i) - 1)) (nI n) scc) := hD
        refine lv_aload_n hx hb dX0_lowerLevel_24 rfl (lv_at hl 0 rfl) ?_
        have hPc := hP.sub (ws' := wCfg cy c0 b (up2 Gc 6 i ((Gc 6 i) - 1)) (nI n) scc) [0, 1, 2, 3, 4, 5, 6, 7] rfl
        have hDc := hD.sub (ws' := wCfg cy c0 b (up2 Gc 6 i ((Gc 6 i) - 1)) (nI n) scc) [0, 1, 2, 3, 4, 5, 6, 7] (by decide) rfl
        have hFc := va_free (wc := wCfg cy c0 b (up2 Gc 6 i ((Gc 6 i) - 1)) (nI n) scc) hD hS hA [0, 1, 2, 3, 4, 5, 6, 7] rfl
        refine va_calli (va_runV (As := []) (rest := []) ⟨hx, hb, hml, hown, hts⟩ (c_X0_takeGreatestScale l dC dI cy H.size c0 b (up2 Gc 6 i ((Gc 6 i) - 1)) n hn scc ) (cwV 0 hts gX0_lowerLevel_X0_takeGreatestScale rfl rfl rfl (by decide +kernel) ⟨Nat.le_of_ble_eq_true rfl, Nat.le_of_ble_eq_true rfl⟩) ⟨bl_in, va_recv hK hPc (ci := 0) (q0 := 0) rfl rfl, pr_in hPc hE hDc⟩ rfl rfl hl.1 rfl (lv_room (Nat.le_of_ble_eq_true rfl)) dX0_lowerLevel_25 ⟨Nat.le_of_ble_eq_true rfl, Nat.le_of_ble_eq_true rfl⟩) hS (fun q _ h => hFc q h) hFc (fun r u t H1 locs ht hvm hw hB hz1 hk1 hS => ?_)
        obtain ⟨rfl, rfl⟩ := hw
        obtain ⟨hP1, hD1⟩ := hB
        rw [ht] at hP1
        obtain ⟨hP, hD⟩ := va_join (wr := []) (w1 := wCfg cy c0 b (up2 Gc 6 i ((Gc 6 i) - 1)) (nI n) (if gscale (up2 Gc 6 i ((Gc 6 i) - 1)) n = 0 then scc else nI (gscale (up2 Gc 6 i ((Gc 6 i) - 1)) n))) hP hD [0, 1, 2, 3, 4, 5, 6, 7] [] rfl rfl (by decide) (by decide) hk1 hFc hP1 hD1
        have hP : va_P (dC, dI) vwCl (wCfg cy c0 b (up2 Gc 6 i ((Gc 6 i) - 1)) (nI n) (if gscale (up2 Gc 6 i ((Gc 6 i) - 1)) n = 0 then scc else nI (gscale (up2 Gc 6 i ((Gc 6 i) - 1)) n))) H1 := hP.sub [0, 1, 2, 3, 4, 5, 6, 7] rfl
        have hD : va_D A (wCfg cy c0 b (up2 Gc 6 i ((Gc 6 i) - 1)) (nI n) (if gscale (up2 Gc 6 i ((Gc 6 i) - 1)) n = 0 then scc else nI (gscale (up2 Gc 6 i ((Gc 6 i) - 1)) n))) := hD.sub [0, 1, 2, 3, 4, 5, 6, 7] (by decide) rfl
        clear hz1 hk1 hPc hDc hFc hP1 hD1
        generalize H1 = H at hP hS ⊢
        refine lv_topi (fun y_ ey_ => ?_)
        obtain rfl : y_ = if gscale (up2 Gc 6 i ((Gc 6 i) - 1)) n = 0 then 0 else 1 := ey_
        refine lv_if_ne (tgt := 43) hx hb dX0_lowerLevel_28 (by decide) (fun c_28 => ?_) (fun c_28 => ?_)
        · have g0 : ¬ gscale (up2 Gc 6 i (Gc 6 i - 1)) n = 0 := fun h => c_28 (b01.mpr h)
          refine lv_iinc (v := nI (st + 1)) (lv' := [(3, .int (nI (st + 1))), (0, .ref c0), (1, .int (nI i)), (2, .int (nI lv))]) hx hb dX0_lowerLevel_43 hl (k := 3) rfl (nI_1 _) (by decide) rfl (fun ls hl => ?_)
          refine lv_goto (tgt := 9) hx hb dX0_lowerLevel_46 (by decide) ?_
          exact ih9 q (st + 1) _ _ ls (by omega) (by omega) (by rw [← eq0, lwl, if_neg g0]) _ _ (by rw [if_neg g0] at hP; exact hP) (by rw [if_neg g0] at hD; exact hD) hS (lv_sub hl [1, 2, 3, 0] rfl)
        · have g0 := b01.mp c_28
          refine lv_aload_n hx hb dX0_lowerLevel_31 rfl (lv_at hl 0 rfl) ?_
          refine va_get (D := (dC, dI)) (ci := 0) (v := .ref (b 6)) (C := RX0) (T := TX0) (N := 9) hx hb hts hin0 hown hK hP 0 rfl rfl 6 (by decide) f_30 (fun _ h9 => h9) rfl dX0_lowerLevel_32 ?_
          refine lv_iload_n hx hb dX0_lowerLevel_35 rfl (lv_at hl 1 rfl) ?_
          refine lv_dup2_11 hx hb dX0_lowerLevel_36 rfl rfl ?_
          refine wI_alv (v := ((up2 Gc 6 i ((Gc 6 i) - 1)) 6) i) hx hb hK hP 7 0 rfl rfl i rfl (by omega) (by decide) rfl dX0_lowerLevel_37 ?_
          refine lv_iconst (v := 1) hx hb dX0_lowerLevel_38 (by decide) ?_
          refine lv_iadd hx hb dX0_lowerLevel_39 ?_
          refine wI_ast hx hb hK hP hD hS 7 0 rfl rfl i rfl (by omega) (by decide) dX0_lowerLevel_40 (fun H locs hP hD hS => ?_)
          have hP : va_P (dC, dI) vwCl (wCfg cy c0 b (up2 (up2 Gc 6 i ((Gc 6 i) - 1)) 6 i ((((up2 Gc 6 i ((Gc 6 i) - 1)) 6) i) + 1)) (nI n) (if gscale (up2 Gc 6 i ((Gc 6 i) - 1)) n = 0 then scc else nI (gscale (up2 Gc 6 i ((Gc 6 i) - 1)) n))) H := hP
          have hD : va_D A (wCfg cy c0 b (up2 (up2 Gc 6 i ((Gc 6 i) - 1)) 6 i ((((up2 Gc 6 i ((Gc 6 i) - 1)) 6) i) + 1)) (nI n) (if gscale (up2 Gc 6 i ((Gc 6 i) - 1)) n = 0 then scc else nI (gscale (up2 Gc 6 i ((Gc 6 i) - 1)) n))) := hD
          refine lv_iload_n hx hb dX0_lowerLevel_41 rfl (lv_at hl 3 rfl) ?_
          have hP9 : va_P (dC, dI) vwCl (wCfg cy c0 b Gc (nI n) scc) H := (by rw [if_pos g0, up2_back] at hP; exact hP)
          have hD9 : va_D A (wCfg cy c0 b Gc (nI n) scc) := (by rw [if_pos g0, up2_back] at hD; exact hD)
          exact W.iret (v := nI st) hx hb hr (fun t ht hW => ⟨⟨nI st, (Gc, scc), rfl, (by rw [← eq0, lwl, if_pos g0]; exact ⟨rfl, rfl, rfl⟩), by rw [ht]; exact hP9, hD9⟩, hS.F ht⟩) hS.2.2 dX0_lowerLevel_42
  exact loop9 (lv + 1) lv 0 G sc ls (by omega) (by omega) rfl _ _ hP hD hS (lv_sub hl [2, 3, 1, 0] rfl)

/-! PART 12: Configuration, the reads over all tasks -/
set_option maxHeartbeats 1000000 in
set_option maxRecDepth 100000 in
/-- the demand of a mode -/
theorem c_X0_totalDemand (l : Launch) (dC : Nat → ClassId) (dI : Nat → Nat → Nat) (cy : Nat → ClassId) (c0 : Nat) (b : Nat → Nat) (G : vG) (n : Nat) (hn : n ≤ 8) (sc : Int32) (p0 p1 p2 : Int32) : Met l yX0_totalDemand wsX0_totalDemand ({ frames := 1, cells := 0, slots := 0, locals := 28 }) (va_Pc [.ref c0, .int p0, .int p1, .int p2] (fun U => va_P (dC, dI) vwCl (wCfg cy c0 b G (nI n) sc) U.heap ∧ EV dC dI cy U)) (vp_Si (fun r => r = tdem G n p2 p0 p1)) 0 0 (fun _ => False) := by
  refine Met.ofW (cc := cX0_totalDemand) (maxL := 8) (ret := some .int) (by decide) rfl ?_
  intro p e s m args below meth c s₁ B hml hv
  obtain ⟨rfl, hP, hE⟩ := hv
  have hK := hE.1
  have hx := B.exec
  have hb := B.bytes
  have hr := B.returns
  have hts := atoms_spec (ws := wsX0_totalDemand) B.pre
  have hown : s.vm.findClass RX0 = some m.cls := findClass_of_methodNamed B.named
  have hlocks := B.notSynchronized
  have hin0 : ∀ w ∈ u_ws RX0 TX0 9, w ∈ wsX0_totalDemand := by decide +kernel
  have f_15 := hts (.fieldLink RX0 15 "DeadlineAdmission$Configuration" "deadline" "[I") (by decide +kernel)
  have f_21 := hts (.fieldLink RX0 21 "DeadlineAdmission$Configuration" "highBudget" "[I") (by decide +kernel)
  have f_37 := hts (.fieldLink RX0 37 "DeadlineAdmission$Configuration" "count" "I") (by decide +kernel)
  have hl := lv_entry ([.ref c0, .int p0, .int p1, .int p2]) (n := 8) (Nat.le_of_ble_eq_true rfl)
  rw [lg_entry_eq]
  generalize (lg_sl ([.ref c0, .int p0, .int p1, .int p2]) ++ List.replicate (8 - (lg_sl ([.ref c0, .int p0, .int p1, .int p2])).length) Slot.unset).toArray = ls at hl ⊢
  have hl : lv_has ls 8 [(0, .ref c0), (1, .int p0), (2, .int p1), (3, .int p2)] := hl
  refine lv_iconst (v := 0) hx hb dX0_totalDemand_0 (by decide) ?_
  refine lv_istore (lv' := [(4, .int 0), (0, .ref c0), (1, .int p0), (2, .int p1), (3, .int p2)]) hx hb dX0_totalDemand_1 hl (by decide) rfl (fun ls hl => ?_)
  refine lv_iconst (v := 0) hx hb dX0_totalDemand_3 (by decide) ?_
  refine lv_istore (lv' := [(5, .int 0), (4, .int 0), (0, .ref c0), (1, .int p0), (2, .int p1), (3, .int p2)]) hx hb dX0_totalDemand_4 hl (by decide) rfl (fun ls hl => ?_)
  have loop6 : ∀ (k : Nat) (i : Nat) (sm : Int32) (ls : Array Slot), i ≤ n → n < i + k → sm = bx_sum (dem G p2 p0 p1) i → lv_has ls 8 [(0, .ref c0), (1, .int p0), (2, .int p1), (3, .int p2), (4, .int sm), (5, .int (nI i))] → W p l e (headSpec wsX0_totalDemand ({ frames := 1, cells := 0, slots := 0, locals := 28 }) |>.room) s m (([.ref c0, .int p0, .int p1, .int p2].toArray)) below meth c s.heap [] 0 0 (MQ below (vp_Si (fun r => r = tdem G n p2 p0 p1)) ([.ref c0, .int p0, .int p1, .int p2].toArray) s 0 0 (fun _ => False)) (F0 m 6 ls []) := by
    intro k
    induction k with
    | zero =>
      intro i sm ls hi hk esm
      exfalso; omega
    | succ k ih6 =>
      intro i sm ls hi hk esm hl
      refine lv_iload hx hb dX0_totalDemand_6 (lv_at hl 5 rfl) ?_
      refine lv_aload_n hx hb dX0_totalDemand_8 rfl (lv_at hl 0 rfl) ?_
      refine va_get (D := (dC, dI)) (ci := 0) (v := .int (nI n)) (C := RX0) (T := TX0) (N := 9) hx hb hts hin0 hown hK hP 0 rfl rfl 7 (by decide) f_37 (fun _ h9 => h9) rfl dX0_totalDemand_9 ?_
      refine lv_icmp_ge (tgt := 95) hx hb dX0_totalDemand_12 (by decide) (fun c_12 => ?_) (fun c_12 => ?_)
      · have e_i : i = n := Nat.le_antisymm hi ((nI_leI (by omega) (by omega)).mp c_12)
        refine lv_iload hx hb dX0_totalDemand_95 (lv_at hl 4 rfl) ?_
        exact W.iret (v := sm) hx hb hr (fun t ht hW => ⟨_, rfl, (by rw [esm, e_i]; rfl), ht⟩) (fun q hq => absurd hq List.not_mem_nil) dX0_totalDemand_97
      · have hlt : i < n := Nat.lt_of_not_le (fun h => c_12 (nI_le h (by omega)))
        refine lv_aload_n hx hb dX0_totalDemand_15 rfl (lv_at hl 0 rfl) ?_
        refine lv_iload hx hb dX0_totalDemand_16 (lv_at hl 5 rfl) ?_
        refine lv_iload_n hx hb dX0_totalDemand_18 rfl (lv_at hl 3 rfl) ?_
        refine vp_callSi (va_runV (As := [.int (nI i), .int p2]) (rest := []) ⟨hx, hb, hml, hown, hts⟩ (c_X0_deadlineWithScale l dC dI cy c0 b G (nI n) sc p2 i (by omega)) (cwV 2 hts gX0_totalDemand_X0_deadlineWithScale rfl rfl rfl (by decide +kernel) ⟨Nat.le_of_ble_eq_true rfl, Nat.le_of_ble_eq_true rfl⟩) ⟨bl_ro, va_recv hK hP (ci := 0) (q0 := 0) rfl rfl, pr_ro hP hE⟩ rfl rfl hl.1 rfl (lv_room (Nat.le_of_ble_eq_true rfl)) dX0_totalDemand_19 ⟨Nat.le_of_ble_eq_true rfl, Nat.le_of_ble_eq_true rfl⟩).run (fun r e_r => ?_)
        subst e_r
        refine lv_istore (lv' := [(6, .int (vdl G p2 i)), (0, .ref c0), (1, .int p0), (2, .int p1), (3, .int p2), (4, .int sm), (5, .int (nI i))]) hx hb dX0_totalDemand_22 hl (by decide) rfl (fun ls hl => ?_)
        refine lv_aload_n hx hb dX0_totalDemand_24 rfl (lv_at hl 1 rfl) ?_
        refine lv_iload hx hb dX0_totalDemand_25 (lv_at hl 6 rfl) ?_
        refine vp_callSi (va_runV (As := [.int (nI i)]) (rest := []) ⟨hx, hb, hml, hown, hts⟩ (c_X0_effectivePeriod l dC dI cy c0 b G (nI n) sc  i (by omega)) (cwV 1 hts gX0_totalDemand_X0_effectivePeriod rfl rfl rfl (by decide +kernel) ⟨Nat.le_of_ble_eq_true rfl, Nat.le_of_ble_eq_true rfl⟩) ⟨bl_ro, va_recv hK hP (ci := 0) (q0 := 0) rfl rfl, pr_ro hP hE⟩ rfl rfl hl.1 rfl (lv_room (Nat.le_of_ble_eq_true rfl)) dX0_totalDemand_27 ⟨Nat.le_of_ble_eq_true rfl, Nat.le_of_ble_eq_true rfl⟩).run (fun r e_r => ?_)
        subst e_r
        refine lv_istore (lv' := [(7, .int (per G i)), (6, .int (vdl G p2 i)), (0, .ref c0), (1, .int p0), (2, .int p1), (3, .int p2), (4, .int sm), (5, .int (nI i))]) hx hb dX0_totalDemand_30 hl (by decide) rfl (fun ls hl => ?_)
        refine lv_iload_n hx hb dX0_totalDemand_32 rfl (lv_at hl 3 rfl) ?_
        refine lv_if_ne (tgt := 55) hx hb dX0_totalDemand_33 (by decide) (fun c_33 => ?_) (fun c_33 => ?_)
        · refine lv_aload_n hx hb dX0_totalDemand_55 rfl (lv_at hl 2 rfl) ?_
          refine va_get (D := (dC, dI)) (ci := 0) (v := .ref (b 3)) (C := RX0) (T := TX0) (N := 9) hx hb hts hin0 hown hK hP 0 rfl rfl 3 (by decide) f_21 (fun _ h9 => h9) rfl dX0_totalDemand_56 ?_
          refine lv_iload hx hb dX0_totalDemand_59 (lv_at hl 7 rfl) ?_
          refine wI_alv (v := G 3 i) hx hb hK hP 4 0 rfl rfl i rfl (by omega) (by decide) rfl dX0_totalDemand_61 ?_
          refine lv_if_le (tgt := 89) hx hb dX0_totalDemand_62 (by decide) (fun c_62 => ?_) (fun c_62 => ?_)
          · refine lv_iinc (v := nI (i + 1)) (lv' := [(5, .int (nI (i + 1))), (7, .int (per G i)), (6, .int (vdl G p2 i)), (0, .ref c0), (1, .int p0), (2, .int p1), (3, .int p2), (4, .int sm)]) hx hb dX0_totalDemand_89 hl (k := 7) rfl (nI_1 _) (by decide) rfl (fun ls hl => ?_)
            refine lv_goto (tgt := 6) hx hb dX0_totalDemand_92 (by decide) ?_
            exact ih6 (i + 1) _ ls (by omega) (by omega) (by rw [esm]; simp only [bx_sum, dem, c_33, c_62, ↓reduceIte, Int32.add_zero]) (lv_sub hl [3, 4, 5, 6, 7, 0] rfl)
          · refine lv_iload hx hb dX0_totalDemand_65 (lv_at hl 6 rfl) ?_
            refine lv_aload_n hx hb dX0_totalDemand_67 rfl (lv_at hl 2 rfl) ?_
            refine lv_iload hx hb dX0_totalDemand_68 (lv_at hl 7 rfl) ?_
            refine lv_iload_n hx hb dX0_totalDemand_70 rfl (lv_at hl 4 rfl) ?_
            refine lv_aload_n hx hb dX0_totalDemand_71 rfl (lv_at hl 2 rfl) ?_
            refine va_get (D := (dC, dI)) (ci := 0) (v := .ref (b 1)) (C := RX0) (T := TX0) (N := 9) hx hb hts hin0 hown hK hP 0 rfl rfl 1 (by decide) f_15 (fun _ h9 => h9) rfl dX0_totalDemand_72 ?_
            refine lv_iload hx hb dX0_totalDemand_75 (lv_at hl 7 rfl) ?_
            refine wI_alv (v := G 1 i) hx hb hK hP 2 0 rfl rfl i rfl (by omega) (by decide) rfl dX0_totalDemand_77 ?_
            refine lv_iload hx hb dX0_totalDemand_78 (lv_at hl 1 rfl) ?_
            refine lv_isub hx hb dX0_totalDemand_80 ?_
            refine lv_iload hx hb dX0_totalDemand_81 (lv_at hl 0 rfl) ?_
            refine vp_callSi (va_runV (As := [.int (nI i), .int p1, .int ((G 1 i) - (vdl G p2 i)), .int (per G i)]) (rest := [.int sm]) ⟨hx, hb, hml, hown, hts⟩ (c_X0_highDemand l dC dI cy c0 b G (nI n) sc p1 ((G 1 i) - (vdl G p2 i)) (per G i) i (by omega) (per_pos G _)) (cwV 4 hts gX0_totalDemand_X0_highDemand rfl rfl rfl (by decide +kernel) ⟨Nat.le_of_ble_eq_true rfl, Nat.le_of_ble_eq_true rfl⟩) ⟨bl_ro, va_recv hK hP (ci := 0) (q0 := 0) rfl rfl, pr_ro hP hE⟩ rfl rfl hl.1 rfl (lv_room (Nat.le_of_ble_eq_true rfl)) dX0_totalDemand_83 ⟨Nat.le_of_ble_eq_true rfl, Nat.le_of_ble_eq_true rfl⟩).run (fun r e_r => ?_)
            subst e_r
            refine lv_iadd hx hb dX0_totalDemand_86 ?_
            refine lv_istore (lv' := [(4, .int (sm + (hiD G i p1 ((G 1 i) - (vdl G p2 i)) (per G i)))), (7, .int (per G i)), (6, .int (vdl G p2 i)), (0, .ref c0), (1, .int p0), (2, .int p1), (3, .int p2), (5, .int (nI i))]) hx hb dX0_totalDemand_87 hl (by decide) rfl (fun ls hl => ?_)
            refine lv_iinc (v := nI (i + 1)) (lv' := [(5, .int (nI (i + 1))), (4, .int (sm + (hiD G i p1 ((G 1 i) - (vdl G p2 i)) (per G i)))), (7, .int (per G i)), (6, .int (vdl G p2 i)), (0, .ref c0), (1, .int p0), (2, .int p1), (3, .int p2)]) hx hb dX0_totalDemand_89 hl (k := 7) rfl (nI_1 _) (by decide) rfl (fun ls hl => ?_)
            refine lv_goto (tgt := 6) hx hb dX0_totalDemand_92 (by decide) ?_
            exact ih6 (i + 1) _ ls (by omega) (by omega) (by rw [esm]; simp only [bx_sum, dem, c_33, c_62, ↓reduceIte, Int32.add_zero]) (lv_sub hl [4, 5, 6, 7, 1, 0] rfl)
        · refine lv_iload hx hb dX0_totalDemand_36 (lv_at hl 6 rfl) ?_
          refine lv_aload_n hx hb dX0_totalDemand_38 rfl (lv_at hl 2 rfl) ?_
          refine lv_iload hx hb dX0_totalDemand_39 (lv_at hl 7 rfl) ?_
          refine lv_iload_n hx hb dX0_totalDemand_41 rfl (lv_at hl 4 rfl) ?_
          refine lv_iload hx hb dX0_totalDemand_42 (lv_at hl 1 rfl) ?_
          refine lv_iload hx hb dX0_totalDemand_44 (lv_at hl 0 rfl) ?_
          refine vp_callSi (va_runV (As := [.int (nI i), .int p1, .int (vdl G p2 i), .int (per G i)]) (rest := [.int sm]) ⟨hx, hb, hml, hown, hts⟩ (c_X0_lowDemand l dC dI cy c0 b G (nI n) sc p1 (vdl G p2 i) (per G i) i (by omega) (per_pos G _)) (cwV 4 hts gX0_totalDemand_X0_lowDemand rfl rfl rfl (by decide +kernel) ⟨Nat.le_of_ble_eq_true rfl, Nat.le_of_ble_eq_true rfl⟩) ⟨bl_ro, va_recv hK hP (ci := 0) (q0 := 0) rfl rfl, pr_ro hP hE⟩ rfl rfl hl.1 rfl (lv_room (Nat.le_of_ble_eq_true rfl)) dX0_totalDemand_46 ⟨Nat.le_of_ble_eq_true rfl, Nat.le_of_ble_eq_true rfl⟩).run (fun r e_r => ?_)
          subst e_r
          refine lv_iadd hx hb dX0_totalDemand_49 ?_
          refine lv_istore (lv' := [(4, .int (sm + (loD G i p1 (vdl G p2 i) (per G i)))), (7, .int (per G i)), (6, .int (vdl G p2 i)), (0, .ref c0), (1, .int p0), (2, .int p1), (3, .int p2), (5, .int (nI i))]) hx hb dX0_totalDemand_50 hl (by decide) rfl (fun ls hl => ?_)
          refine lv_goto (tgt := 89) hx hb dX0_totalDemand_52 (by decide) ?_
          refine lv_iinc (v := nI (i + 1)) (lv' := [(5, .int (nI (i + 1))), (4, .int (sm + (loD G i p1 (vdl G p2 i) (per G i)))), (7, .int (per G i)), (6, .int (vdl G p2 i)), (0, .ref c0), (1, .int p0), (2, .int p1), (3, .int p2)]) hx hb dX0_totalDemand_89 hl (k := 7) rfl (nI_1 _) (by decide) rfl (fun ls hl => ?_)
          refine lv_goto (tgt := 6) hx hb dX0_totalDemand_92 (by decide) ?_
          exact ih6 (i + 1) _ ls (by omega) (by omega) (by rw [esm]; simp only [bx_sum, dem, c_33, ↓reduceIte, Int32.add_zero]) (lv_sub hl [4, 5, 6, 7, 1, 0] rfl)
  exact loop6 (n + 1) 0 0 ls (Nat.zero_le _) (by omega) rfl (lv_sub hl [2, 3, 4, 5, 1, 0] rfl)
set_option maxHeartbeats 1000000 in
set_option maxRecDepth 100000 in
/-- the least t for which the test fails -/
theorem c_X0_firstFailure (l : Launch) (dC : Nat → ClassId) (dI : Nat → Nat → Nat) (cy : Nat → ClassId) (c0 : Nat) (b : Nat → Nat) (G : vG) (n : Nat) (hn : n ≤ 8) (sc : Int32) (p0 p1 : Int32) : Met l yX0_firstFailure wsX0_firstFailure ({ frames := 2, cells := 0, slots := 0, locals := 55 }) (va_Pc [.ref c0, .int p0, .int p1] (fun U => va_P (dC, dI) vwCl (wCfg cy c0 b G (nI n) sc) U.heap ∧ EV dC dI cy U)) (vp_Si (fun r => r = ffail G n p1 p0)) 0 0 (fun _ => False) := by
  refine Met.ofW (cc := cX0_firstFailure) (maxL := 4) (ret := some .int) (by decide) rfl ?_
  intro p e s m args below meth c s₁ B hml hv
  obtain ⟨rfl, hP, hE⟩ := hv
  have hK := hE.1
  have hx := B.exec
  have hb := B.bytes
  have hr := B.returns
  have hts := atoms_spec (ws := wsX0_firstFailure) B.pre
  have hown : s.vm.findClass RX0 = some m.cls := findClass_of_methodNamed B.named
  have hlocks := B.notSynchronized
  have hl := lv_entry ([.ref c0, .int p0, .int p1]) (n := 4) (Nat.le_of_ble_eq_true rfl)
  rw [lg_entry_eq]
  generalize (lg_sl ([.ref c0, .int p0, .int p1]) ++ List.replicate (4 - (lg_sl ([.ref c0, .int p0, .int p1])).length) Slot.unset).toArray = ls at hl ⊢
  have hl : lv_has ls 4 [(0, .ref c0), (1, .int p0), (2, .int p1)] := hl
  refine lv_iconst (v := 1) hx hb dX0_firstFailure_0 (by decide) ?_
  refine lv_istore_n (lv' := [(3, .int 1), (0, .ref c0), (1, .int p0), (2, .int p1)]) hx hb dX0_firstFailure_1 rfl hl (by decide) rfl (fun ls hl => ?_)
  have loop2 : ∀ (k : Nat) (j : Nat) (t : Nat) (ls : Array Slot), t + j = 201 → j < k → ffr (tdem G n p1 p0) j t = ffail G n p1 p0 → lv_has ls 4 [(0, .ref c0), (1, .int p0), (2, .int p1), (3, .int (nI t))] → W p l e (headSpec wsX0_firstFailure ({ frames := 2, cells := 0, slots := 0, locals := 55 }) |>.room) s m (([.ref c0, .int p0, .int p1].toArray)) below meth c s.heap [] 0 0 (MQ below (vp_Si (fun r => r = ffail G n p1 p0)) ([.ref c0, .int p0, .int p1].toArray) s 0 0 (fun _ => False)) (F0 m 2 ls []) := by
    intro k
    induction k with
    | zero =>
      intro j t ls hi hk ef
      exfalso; omega
    | succ k ih2 =>
      intro j t ls hi hk ef hl
      refine lv_iload_n hx hb dX0_firstFailure_2 rfl (lv_at hl 3 rfl) ?_
      refine lv_sipush (v := 200) hx hb dX0_firstFailure_3 (by decide) ?_
      refine lv_icmp_gt (tgt := 28) hx hb dX0_firstFailure_6 (by decide) (fun c_6 => ?_) (fun c_6 => ?_)
      · have e_j : j = 0 := by have := (nI_ltI (a := 200) (b := t) (by omega) (by omega)).mp c_6; omega
        refine lv_iconst (v := 0) hx hb dX0_firstFailure_28 (by decide) ?_
        exact W.iret (v := 0) hx hb hr (fun t ht hW => ⟨_, rfl, (by rw [← ef, e_j]; rfl), ht⟩) (fun q hq => absurd hq List.not_mem_nil) dX0_firstFailure_29
      · obtain ⟨j, rfl⟩ : ∃ z, j = z + 1 := ⟨j - 1, by have h : ¬ (200 < t) := fun h => c_6 ((nI_ltI (a := 200) (b := t) (by omega) (by omega)).mpr h); omega⟩
        refine lv_aload_n hx hb dX0_firstFailure_9 rfl (lv_at hl 0 rfl) ?_
        refine lv_iload_n hx hb dX0_firstFailure_10 rfl (lv_at hl 1 rfl) ?_
        refine lv_iload_n hx hb dX0_firstFailure_11 rfl (lv_at hl 3 rfl) ?_
        refine lv_iload_n hx hb dX0_firstFailure_12 rfl (lv_at hl 2 rfl) ?_
        refine vp_callSi (va_runV (As := [.int p0, .int (nI t), .int p1]) (rest := []) ⟨hx, hb, hml, hown, hts⟩ (c_X0_totalDemand l dC dI cy c0 b G n hn sc p0 (nI t) p1) (cwV 3 hts gX0_firstFailure_X0_totalDemand rfl rfl rfl (by decide +kernel) ⟨Nat.le_of_ble_eq_true rfl, Nat.le_of_ble_eq_true rfl⟩) ⟨bl_ro, va_recv hK hP (ci := 0) (q0 := 0) rfl rfl, pr_ro hP hE⟩ rfl rfl hl.1 rfl (lv_room (Nat.le_of_ble_eq_true rfl)) dX0_firstFailure_13 ⟨Nat.le_of_ble_eq_true rfl, Nat.le_of_ble_eq_true rfl⟩).run (fun r e_r => ?_)
        subst e_r
        refine lv_iload_n hx hb dX0_firstFailure_16 rfl (lv_at hl 3 rfl) ?_
        refine lv_icmp_le (tgt := 22) hx hb dX0_firstFailure_17 (by decide) (fun c_17 => ?_) (fun c_17 => ?_)
        · refine lv_iinc (v := nI (t + 1)) (lv' := [(3, .int (nI (t + 1))), (0, .ref c0), (1, .int p0), (2, .int p1)]) hx hb dX0_firstFailure_22 hl (k := 3) rfl (nI_1 _) (by decide) rfl (fun ls hl => ?_)
          refine lv_goto (tgt := 2) hx hb dX0_firstFailure_25 (by decide) ?_
          exact ih2 j (t + 1) ls (by omega) (by omega) (by rw [← ef, ffr, if_pos c_17]) (lv_sub hl [1, 2, 3, 0] rfl)
        · refine lv_iload_n hx hb dX0_firstFailure_20 rfl (lv_at hl 3 rfl) ?_
          exact W.iret (v := nI t) hx hb hr (fun t ht hW => ⟨_, rfl, (by rw [← ef, ffr, if_neg c_17]), ht⟩) (fun q hq => absurd hq List.not_mem_nil) dX0_firstFailure_21
  exact loop2 201 200 1 ls rfl (by omega) rfl (lv_sub hl [1, 2, 3, 0] rfl)
set_option maxHeartbeats 1000000 in
set_option maxRecDepth 100000 in
/-- both tests -/
theorem c_X0_isSchedulableWith (l : Launch) (dC : Nat → ClassId) (dI : Nat → Nat → Nat) (cy : Nat → ClassId) (c0 : Nat) (b : Nat → Nat) (G : vG) (n : Nat) (hn : n ≤ 8) (sc : Int32) (p0 : Int32) : Met l yX0_isSchedulableWith wsX0_isSchedulableWith ({ frames := 3, cells := 0, slots := 0, locals := 78 }) (va_Pc [.ref c0, .int p0] (fun U => va_P (dC, dI) vwCl (wCfg cy c0 b G (nI n) sc) U.heap ∧ EV dC dI cy U)) (vp_Si (fun r => r = (if ffail G n p0 0 = 0 ∧ ffail G n p0 1 = 0 then 1 else 0))) 0 0 (fun _ => False) := by
  refine Met.ofW (cc := cX0_isSchedulableWith) (maxL := 2) (ret := some .boolean) (by decide) rfl ?_
  intro p e s m args below meth c s₁ B hml hv
  obtain ⟨rfl, hP, hE⟩ := hv
  have hK := hE.1
  have hx := B.exec
  have hb := B.bytes
  have hr := B.returns
  have hts := atoms_spec (ws := wsX0_isSchedulableWith) B.pre
  have hown : s.vm.findClass RX0 = some m.cls := findClass_of_methodNamed B.named
  have hlocks := B.notSynchronized
  have hl := lv_entry ([.ref c0, .int p0]) (n := 2) (Nat.le_of_ble_eq_true rfl)
  rw [lg_entry_eq]
  generalize (lg_sl ([.ref c0, .int p0]) ++ List.replicate (2 - (lg_sl ([.ref c0, .int p0])).length) Slot.unset).toArray = ls at hl ⊢
  have hl : lv_has ls 2 [(0, .ref c0), (1, .int p0)] := hl
  refine lv_aload_n hx hb dX0_isSchedulableWith_0 rfl (lv_at hl 0 rfl) ?_
  refine lv_iconst (v := 0) hx hb dX0_isSchedulableWith_1 (by decide) ?_
  refine lv_iload_n hx hb dX0_isSchedulableWith_2 rfl (lv_at hl 1 rfl) ?_
  refine vp_callSi (va_runV (As := [.int 0, .int p0]) (rest := []) ⟨hx, hb, hml, hown, hts⟩ (c_X0_firstFailure l dC dI cy c0 b G n hn sc 0 p0) (cwV 2 hts gX0_isSchedulableWith_X0_firstFailure rfl rfl rfl (by decide +kernel) ⟨Nat.le_of_ble_eq_true rfl, Nat.le_of_ble_eq_true rfl⟩) ⟨bl_ro, va_recv hK hP (ci := 0) (q0 := 0) rfl rfl, pr_ro hP hE⟩ rfl rfl hl.1 rfl (lv_room (Nat.le_of_ble_eq_true rfl)) dX0_isSchedulableWith_3 ⟨Nat.le_of_ble_eq_true rfl, Nat.le_of_ble_eq_true rfl⟩).run (fun r e_r => ?_)
  subst e_r
  refine lv_if_ne (tgt := 22) hx hb dX0_isSchedulableWith_6 (by decide) (fun c_6 => ?_) (fun c_6 => ?_)
  · refine lv_iconst (v := 0) hx hb dX0_isSchedulableWith_22 (by decide) ?_
    exact W.zret (v := 0) hx hb hr (by decide) (fun t ht hW => ⟨_, rfl, (by simp only [and_true, true_and, and_false, false_and, and_self, c_6, ↓reduceIte]), ht⟩) (fun q hq => absurd hq List.not_mem_nil) dX0_isSchedulableWith_23
  · refine lv_aload_n hx hb dX0_isSchedulableWith_9 rfl (lv_at hl 0 rfl) ?_
    refine lv_iconst (v := 1) hx hb dX0_isSchedulableWith_10 (by decide) ?_
    refine lv_iload_n hx hb dX0_isSchedulableWith_11 rfl (lv_at hl 1 rfl) ?_
    refine vp_callSi (va_runV (As := [.int 1, .int p0]) (rest := []) ⟨hx, hb, hml, hown, hts⟩ (c_X0_firstFailure l dC dI cy c0 b G n hn sc 1 p0) (cwV 2 hts gX0_isSchedulableWith_X0_firstFailure rfl rfl rfl (by decide +kernel) ⟨Nat.le_of_ble_eq_true rfl, Nat.le_of_ble_eq_true rfl⟩) ⟨bl_ro, va_recv hK hP (ci := 0) (q0 := 0) rfl rfl, pr_ro hP hE⟩ rfl rfl hl.1 rfl (lv_room (Nat.le_of_ble_eq_true rfl)) dX0_isSchedulableWith_12 ⟨Nat.le_of_ble_eq_true rfl, Nat.le_of_ble_eq_true rfl⟩).run (fun r e_r => ?_)
    subst e_r
    refine lv_if_ne (tgt := 22) hx hb dX0_isSchedulableWith_15 (by decide) (fun c_15 => ?_) (fun c_15 => ?_)
    · refine lv_iconst (v := 0) hx hb dX0_isSchedulableWith_22 (by decide) ?_
      exact W.zret (v := 0) hx hb hr (by decide) (fun t ht hW => ⟨_, rfl, (by simp only [and_true, true_and, and_false, false_and, and_self, c_6, c_15, ↓reduceIte]), ht⟩) (fun q hq => absurd hq List.not_mem_nil) dX0_isSchedulableWith_23
    · refine lv_iconst (v := 1) hx hb dX0_isSchedulableWith_18 (by decide) ?_
      refine lv_goto (tgt := 23) hx hb dX0_isSchedulableWith_19 (by decide) ?_
      exact W.zret (v := 1) hx hb hr (by decide) (fun t ht hW => ⟨_, rfl, (by simp only [and_true, true_and, and_false, false_and, and_self, c_6, c_15, ↓reduceIte]), ht⟩) (fun q hq => absurd hq List.not_mem_nil) dX0_isSchedulableWith_23
set_option maxHeartbeats 1000000 in
set_option maxRecDepth 100000 in
/-- the greatest test point below a limit -/
theorem c_X0_greatestTestPointBelow (l : Launch) (dC : Nat → ClassId) (dI : Nat → Nat → Nat) (cy : Nat → ClassId) (c0 : Nat) (b : Nat → Nat) (G : vG) (n : Nat) (hn : n ≤ 8) (sc : Int32) (p0 : Int32) : Met l yX0_greatestTestPointBelow wsX0_greatestTestPointBelow ({ frames := 1, cells := 0, slots := 0, locals := 23 }) (va_Pc [.ref c0, .int p0] (fun U => va_P (dC, dI) vwCl (wCfg cy c0 b G (nI n) sc) U.heap ∧ EV dC dI cy U)) (vp_Si (fun r => r = gtp G sc p0 n)) 0 0 (fun _ => False) := by
  refine Met.ofW (cc := cX0_greatestTestPointBelow) (maxL := 6) (ret := some .int) (by decide) rfl ?_
  intro p e s m args below meth c s₁ B hml hv
  obtain ⟨rfl, hP, hE⟩ := hv
  have hK := hE.1
  have hx := B.exec
  have hb := B.bytes
  have hr := B.returns
  have hts := atoms_spec (ws := wsX0_greatestTestPointBelow) B.pre
  have hown : s.vm.findClass RX0 = some m.cls := findClass_of_methodNamed B.named
  have hlocks := B.notSynchronized
  have hin0 : ∀ w ∈ u_ws RX0 TX0 9, w ∈ wsX0_greatestTestPointBelow := by decide +kernel
  have f_33 := hts (.fieldLink RX0 33 "DeadlineAdmission$Configuration" "scale" "I") (by decide +kernel)
  have f_37 := hts (.fieldLink RX0 37 "DeadlineAdmission$Configuration" "count" "I") (by decide +kernel)
  have hl := lv_entry ([.ref c0, .int p0]) (n := 6) (Nat.le_of_ble_eq_true rfl)
  rw [lg_entry_eq]
  generalize (lg_sl ([.ref c0, .int p0]) ++ List.replicate (6 - (lg_sl ([.ref c0, .int p0])).length) Slot.unset).toArray = ls at hl ⊢
  have hl : lv_has ls 6 [(0, .ref c0), (1, .int p0)] := hl
  refine lv_iconst (v := 0) hx hb dX0_greatestTestPointBelow_0 (by decide) ?_
  refine lv_istore_n (lv' := [(2, .int 0), (0, .ref c0), (1, .int p0)]) hx hb dX0_greatestTestPointBelow_1 rfl hl (by decide) rfl (fun ls hl => ?_)
  refine lv_iconst (v := 0) hx hb dX0_greatestTestPointBelow_2 (by decide) ?_
  refine lv_istore_n (lv' := [(3, .int 0), (2, .int 0), (0, .ref c0), (1, .int p0)]) hx hb dX0_greatestTestPointBelow_3 rfl hl (by decide) rfl (fun ls hl => ?_)
  have loop4 : ∀ (k : Nat) (i : Nat) (sm : Int32) (ls : Array Slot), i ≤ n → n < i + k → sm = gtp G sc p0 i → lv_has ls 6 [(0, .ref c0), (1, .int p0), (2, .int sm), (3, .int (nI i))] → W p l e (headSpec wsX0_greatestTestPointBelow ({ frames := 1, cells := 0, slots := 0, locals := 23 }) |>.room) s m (([.ref c0, .int p0].toArray)) below meth c s.heap [] 0 0 (MQ below (vp_Si (fun r => r = gtp G sc p0 n)) ([.ref c0, .int p0].toArray) s 0 0 (fun _ => False)) (F0 m 4 ls []) := by
    intro k
    induction k with
    | zero =>
      intro i sm ls hi hk esm
      exfalso; omega
    | succ k ih4 =>
      intro i sm ls hi hk esm hl
      refine lv_iload_n hx hb dX0_greatestTestPointBelow_4 rfl (lv_at hl 3 rfl) ?_
      refine lv_aload_n hx hb dX0_greatestTestPointBelow_5 rfl (lv_at hl 0 rfl) ?_
      refine va_get (D := (dC, dI)) (ci := 0) (v := .int (nI n)) (C := RX0) (T := TX0) (N := 9) hx hb hts hin0 hown hK hP 0 rfl rfl 7 (by decide) f_37 (fun _ h9 => h9) rfl dX0_greatestTestPointBelow_6 ?_
      refine lv_icmp_ge (tgt := 65) hx hb dX0_greatestTestPointBelow_9 (by decide) (fun c_9 => ?_) (fun c_9 => ?_)
      · have e_i : i = n := Nat.le_antisymm hi ((nI_leI (by omega) (by omega)).mp c_9)
        refine lv_iload_n hx hb dX0_greatestTestPointBelow_65 rfl (lv_at hl 2 rfl) ?_
        exact W.iret (v := sm) hx hb hr (fun t ht hW => ⟨_, rfl, (by rw [esm, e_i]), ht⟩) (fun q hq => absurd hq List.not_mem_nil) dX0_greatestTestPointBelow_66
      · have hlt : i < n := Nat.lt_of_not_le (fun h => c_9 (nI_le h (by omega)))
        refine lv_aload_n hx hb dX0_greatestTestPointBelow_12 rfl (lv_at hl 0 rfl) ?_
        refine lv_iload_n hx hb dX0_greatestTestPointBelow_13 rfl (lv_at hl 3 rfl) ?_
        refine lv_aload_n hx hb dX0_greatestTestPointBelow_14 rfl (lv_at hl 0 rfl) ?_
        refine va_get (D := (dC, dI)) (ci := 0) (v := .int sc) (C := RX0) (T := TX0) (N := 9) hx hb hts hin0 hown hK hP 0 rfl rfl 8 (by decide) f_33 (fun _ h9 => h9) rfl dX0_greatestTestPointBelow_15 ?_
        refine vp_callSi (va_runV (As := [.int (nI i), .int sc]) (rest := []) ⟨hx, hb, hml, hown, hts⟩ (c_X0_deadlineWithScale l dC dI cy c0 b G (nI n) sc sc i (by omega)) (cwV 2 hts gX0_greatestTestPointBelow_X0_deadlineWithScale rfl rfl rfl (by decide +kernel) ⟨Nat.le_of_ble_eq_true rfl, Nat.le_of_ble_eq_true rfl⟩) ⟨bl_ro, va_recv hK hP (ci := 0) (q0 := 0) rfl rfl, pr_ro hP hE⟩ rfl rfl hl.1 rfl (lv_room (Nat.le_of_ble_eq_true rfl)) dX0_greatestTestPointBelow_18 ⟨Nat.le_of_ble_eq_true rfl, Nat.le_of_ble_eq_true rfl⟩).run (fun r e_r => ?_)
        subst e_r
        refine lv_istore (lv' := [(4, .int (vdl G sc i)), (0, .ref c0), (1, .int p0), (2, .int sm), (3, .int (nI i))]) hx hb dX0_greatestTestPointBelow_21 hl (by decide) rfl (fun ls hl => ?_)
        refine lv_iload hx hb dX0_greatestTestPointBelow_23 (lv_at hl 0 rfl) ?_
        refine lv_iload_n hx hb dX0_greatestTestPointBelow_25 rfl (lv_at hl 2 rfl) ?_
        refine lv_icmp_ge (tgt := 59) hx hb dX0_greatestTestPointBelow_26 (by decide) (fun c_26 => ?_) (fun c_26 => ?_)
        · refine lv_iinc (v := nI (i + 1)) (lv' := [(3, .int (nI (i + 1))), (4, .int (vdl G sc i)), (0, .ref c0), (1, .int p0), (2, .int sm)]) hx hb dX0_greatestTestPointBelow_59 hl (k := 4) rfl (nI_1 _) (by decide) rfl (fun ls hl => ?_)
          refine lv_goto (tgt := 4) hx hb dX0_greatestTestPointBelow_62 (by decide) ?_
          exact ih4 (i + 1) _ ls (by omega) (by omega) (by rw [esm]; simp only [gtp, c_26, ↓reduceIte]) (lv_sub hl [2, 3, 4, 0] rfl)
        · refine lv_iload_n hx hb dX0_greatestTestPointBelow_29 rfl (lv_at hl 2 rfl) ?_
          refine lv_iconst (v := 1) hx hb dX0_greatestTestPointBelow_30 (by decide) ?_
          refine lv_isub hx hb dX0_greatestTestPointBelow_31 ?_
          refine lv_iload hx hb dX0_greatestTestPointBelow_32 (lv_at hl 0 rfl) ?_
          refine lv_isub hx hb dX0_greatestTestPointBelow_34 ?_
          refine lv_aload_n hx hb dX0_greatestTestPointBelow_35 rfl (lv_at hl 1 rfl) ?_
          refine lv_iload_n hx hb dX0_greatestTestPointBelow_36 rfl (lv_at hl 4 rfl) ?_
          refine vp_callSi (va_runV (As := [.int (nI i)]) (rest := [.int ((p0 - 1) - (vdl G sc i))]) ⟨hx, hb, hml, hown, hts⟩ (c_X0_effectivePeriod l dC dI cy c0 b G (nI n) sc  i (by omega)) (cwV 1 hts gX0_greatestTestPointBelow_X0_effectivePeriod rfl rfl rfl (by decide +kernel) ⟨Nat.le_of_ble_eq_true rfl, Nat.le_of_ble_eq_true rfl⟩) ⟨bl_ro, va_recv hK hP (ci := 0) (q0 := 0) rfl rfl, pr_ro hP hE⟩ rfl rfl hl.1 rfl (lv_room (Nat.le_of_ble_eq_true rfl)) dX0_greatestTestPointBelow_37 ⟨Nat.le_of_ble_eq_true rfl, Nat.le_of_ble_eq_true rfl⟩).run (fun r e_r => ?_)
          subst e_r
          refine lv_idiv hx hb dX0_greatestTestPointBelow_40 (per_pos G _) ?_
          refine lv_istore (lv' := [(5, .int (((p0 - 1) - (vdl G sc i)) / (per G i))), (4, .int (vdl G sc i)), (0, .ref c0), (1, .int p0), (2, .int sm), (3, .int (nI i))]) hx hb dX0_greatestTestPointBelow_41 hl (by decide) rfl (fun ls hl => ?_)
          refine lv_iload_n hx hb dX0_greatestTestPointBelow_43 rfl (lv_at hl 4 rfl) ?_
          refine lv_iload hx hb dX0_greatestTestPointBelow_44 (lv_at hl 1 rfl) ?_
          refine lv_iload hx hb dX0_greatestTestPointBelow_46 (lv_at hl 0 rfl) ?_
          refine lv_aload_n hx hb dX0_greatestTestPointBelow_48 rfl (lv_at hl 2 rfl) ?_
          refine lv_iload_n hx hb dX0_greatestTestPointBelow_49 rfl (lv_at hl 5 rfl) ?_
          refine vp_callSi (va_runV (As := [.int (nI i)]) (rest := [.int (((p0 - 1) - (vdl G sc i)) / (per G i)), .int (vdl G sc i), .int sm]) ⟨hx, hb, hml, hown, hts⟩ (c_X0_effectivePeriod l dC dI cy c0 b G (nI n) sc  i (by omega)) (cwV 1 hts gX0_greatestTestPointBelow_X0_effectivePeriod rfl rfl rfl (by decide +kernel) ⟨Nat.le_of_ble_eq_true rfl, Nat.le_of_ble_eq_true rfl⟩) ⟨bl_ro, va_recv hK hP (ci := 0) (q0 := 0) rfl rfl, pr_ro hP hE⟩ rfl rfl hl.1 rfl (lv_room (Nat.le_of_ble_eq_true rfl)) dX0_greatestTestPointBelow_50 ⟨Nat.le_of_ble_eq_true rfl, Nat.le_of_ble_eq_true rfl⟩).run (fun r e_r => ?_)
          subst e_r
          refine lv_imul hx hb dX0_greatestTestPointBelow_53 ?_
          refine lv_iadd hx hb dX0_greatestTestPointBelow_54 ?_
          refine va_mmax hx hb (by rw [hml]; exact hl.1.symm) hown (hts (.methodLink RX0 74 Lib.Math.max.name) (by decide +kernel)) (hts (.static Lib.Math.max.name) (by decide +kernel)) (hts (.initialized "java/lang/Math") (by decide +kernel)) (hts (.code Lib.Math.max.name Lib.Math.max.code 2 (some .int)) (by decide +kernel)) (Nat.le_of_ble_eq_true rfl) (Nat.le_of_ble_eq_true rfl) (Nat.le_of_ble_eq_true rfl) (Nat.le_of_ble_eq_true rfl) dX0_greatestTestPointBelow_55 ?_
          refine lv_istore_n (lv' := [(2, .int (if sm < ((vdl G sc i) + ((((p0 - 1) - (vdl G sc i)) / (per G i)) * (per G i))) then (vdl G sc i) + ((((p0 - 1) - (vdl G sc i)) / (per G i)) * (per G i)) else sm)), (5, .int (((p0 - 1) - (vdl G sc i)) / (per G i))), (4, .int (vdl G sc i)), (0, .ref c0), (1, .int p0), (3, .int (nI i))]) hx hb dX0_greatestTestPointBelow_58 rfl hl (by decide) rfl (fun ls hl => ?_)
          refine lv_iinc (v := nI (i + 1)) (lv' := [(3, .int (nI (i + 1))), (2, .int (if sm < ((vdl G sc i) + ((((p0 - 1) - (vdl G sc i)) / (per G i)) * (per G i))) then (vdl G sc i) + ((((p0 - 1) - (vdl G sc i)) / (per G i)) * (per G i)) else sm)), (5, .int (((p0 - 1) - (vdl G sc i)) / (per G i))), (4, .int (vdl G sc i)), (0, .ref c0), (1, .int p0)]) hx hb dX0_greatestTestPointBelow_59 hl (k := 5) rfl (nI_1 _) (by decide) rfl (fun ls hl => ?_)
          refine lv_goto (tgt := 4) hx hb dX0_greatestTestPointBelow_62 (by decide) ?_
          exact ih4 (i + 1) _ ls (by omega) (by omega) (by rw [esm]; simp only [gtp, c_26, ↓reduceIte]) (lv_sub hl [4, 5, 1, 0] rfl)
  exact loop4 (n + 1) 0 0 ls (Nat.zero_le _) (by omega) rfl (lv_sub hl [2, 3, 1, 0] rfl)
set_option maxHeartbeats 1000000 in
set_option maxRecDepth 100000 in
/-- the least test point -/
theorem c_X0_leastTestPoint (l : Launch) (dC : Nat → ClassId) (dI : Nat → Nat → Nat) (cy : Nat → ClassId) (c0 : Nat) (b : Nat → Nat) (G : vG) (n : Nat) (hn : n ≤ 8) (sc : Int32) : Met l yX0_leastTestPoint wsX0_leastTestPoint ({ frames := 1, cells := 0, slots := 0, locals := 23 }) (va_Pc [.ref c0] (fun U => va_P (dC, dI) vwCl (wCfg cy c0 b G (nI n) sc) U.heap ∧ EV dC dI cy U)) (vp_Si (fun r => r = ltp G sc n)) 0 0 (fun _ => False) := by
  refine Met.ofW (cc := cX0_leastTestPoint) (maxL := 3) (ret := some .int) (by decide) rfl ?_
  intro p e s m args below meth c s₁ B hml hv
  obtain ⟨rfl, hP, hE⟩ := hv
  have hK := hE.1
  have hx := B.exec
  have hb := B.bytes
  have hr := B.returns
  have hts := atoms_spec (ws := wsX0_leastTestPoint) B.pre
  have hown : s.vm.findClass RX0 = some m.cls := findClass_of_methodNamed B.named
  have hlocks := B.notSynchronized
  have hin0 : ∀ w ∈ u_ws RX0 TX0 9, w ∈ wsX0_leastTestPoint := by decide +kernel
  have f_33 := hts (.fieldLink RX0 33 "DeadlineAdmission$Configuration" "scale" "I") (by decide +kernel)
  have f_37 := hts (.fieldLink RX0 37 "DeadlineAdmission$Configuration" "count" "I") (by decide +kernel)
  have hl := lv_entry ([.ref c0]) (n := 3) (Nat.le_of_ble_eq_true rfl)
  rw [lg_entry_eq]
  generalize (lg_sl ([.ref c0]) ++ List.replicate (3 - (lg_sl ([.ref c0])).length) Slot.unset).toArray = ls at hl ⊢
  have hl : lv_has ls 3 [(0, .ref c0)] := hl
  refine lv_sipush (v := 200) hx hb dX0_leastTestPoint_0 (by decide) ?_
  refine lv_istore_n (lv' := [(1, .int 200), (0, .ref c0)]) hx hb dX0_leastTestPoint_3 rfl hl (by decide) rfl (fun ls hl => ?_)
  refine lv_iconst (v := 0) hx hb dX0_leastTestPoint_4 (by decide) ?_
  refine lv_istore_n (lv' := [(2, .int 0), (1, .int 200), (0, .ref c0)]) hx hb dX0_leastTestPoint_5 rfl hl (by decide) rfl (fun ls hl => ?_)
  have loop6 : ∀ (k : Nat) (i : Nat) (sm : Int32) (ls : Array Slot), i ≤ n → n < i + k → sm = ltp G sc i → lv_has ls 3 [(0, .ref c0), (1, .int sm), (2, .int (nI i))] → W p l e (headSpec wsX0_leastTestPoint ({ frames := 1, cells := 0, slots := 0, locals := 23 }) |>.room) s m (([.ref c0].toArray)) below meth c s.heap [] 0 0 (MQ below (vp_Si (fun r => r = ltp G sc n)) ([.ref c0].toArray) s 0 0 (fun _ => False)) (F0 m 6 ls []) := by
    intro k
    induction k with
    | zero =>
      intro i sm ls hi hk esm
      exfalso; omega
    | succ k ih6 =>
      intro i sm ls hi hk esm hl
      refine lv_iload_n hx hb dX0_leastTestPoint_6 rfl (lv_at hl 2 rfl) ?_
      refine lv_aload_n hx hb dX0_leastTestPoint_7 rfl (lv_at hl 0 rfl) ?_
      refine va_get (D := (dC, dI)) (ci := 0) (v := .int (nI n)) (C := RX0) (T := TX0) (N := 9) hx hb hts hin0 hown hK hP 0 rfl rfl 7 (by decide) f_37 (fun _ h9 => h9) rfl dX0_leastTestPoint_8 ?_
      refine lv_icmp_ge (tgt := 34) hx hb dX0_leastTestPoint_11 (by decide) (fun c_11 => ?_) (fun c_11 => ?_)
      · have e_i : i = n := Nat.le_antisymm hi ((nI_leI (by omega) (by omega)).mp c_11)
        refine lv_iload_n hx hb dX0_leastTestPoint_34 rfl (lv_at hl 1 rfl) ?_
        exact W.iret (v := sm) hx hb hr (fun t ht hW => ⟨_, rfl, (by rw [esm, e_i]), ht⟩) (fun q hq => absurd hq List.not_mem_nil) dX0_leastTestPoint_35
      · have hlt : i < n := Nat.lt_of_not_le (fun h => c_11 (nI_le h (by omega)))
        refine lv_iload_n hx hb dX0_leastTestPoint_14 rfl (lv_at hl 1 rfl) ?_
        refine lv_aload_n hx hb dX0_leastTestPoint_15 rfl (lv_at hl 0 rfl) ?_
        refine lv_iload_n hx hb dX0_leastTestPoint_16 rfl (lv_at hl 2 rfl) ?_
        refine lv_aload_n hx hb dX0_leastTestPoint_17 rfl (lv_at hl 0 rfl) ?_
        refine va_get (D := (dC, dI)) (ci := 0) (v := .int sc) (C := RX0) (T := TX0) (N := 9) hx hb hts hin0 hown hK hP 0 rfl rfl 8 (by decide) f_33 (fun _ h9 => h9) rfl dX0_leastTestPoint_18 ?_
        refine vp_callSi (va_runV (As := [.int (nI i), .int sc]) (rest := [.int sm]) ⟨hx, hb, hml, hown, hts⟩ (c_X0_deadlineWithScale l dC dI cy c0 b G (nI n) sc sc i (by omega)) (cwV 2 hts gX0_leastTestPoint_X0_deadlineWithScale rfl rfl rfl (by decide +kernel) ⟨Nat.le_of_ble_eq_true rfl, Nat.le_of_ble_eq_true rfl⟩) ⟨bl_ro, va_recv hK hP (ci := 0) (q0 := 0) rfl rfl, pr_ro hP hE⟩ rfl rfl hl.1 rfl (lv_room (Nat.le_of_ble_eq_true rfl)) dX0_leastTestPoint_21 ⟨Nat.le_of_ble_eq_true rfl, Nat.le_of_ble_eq_true rfl⟩).run (fun r e_r => ?_)
        subst e_r
        refine va_mmin hx hb (by rw [hml]; exact hl.1.symm) hown (hts (.methodLink RX0 79 Lib.Math.min.name) (by decide +kernel)) (hts (.static Lib.Math.min.name) (by decide +kernel)) (hts (.initialized "java/lang/Math") (by decide +kernel)) (hts (.code Lib.Math.min.name Lib.Math.min.code 2 (some .int)) (by decide +kernel)) (Nat.le_of_ble_eq_true rfl) (Nat.le_of_ble_eq_true rfl) (Nat.le_of_ble_eq_true rfl) (Nat.le_of_ble_eq_true rfl) dX0_leastTestPoint_24 ?_
        refine lv_istore_n (lv' := [(1, .int (if (vdl G sc i) < sm then vdl G sc i else sm)), (0, .ref c0), (2, .int (nI i))]) hx hb dX0_leastTestPoint_27 rfl hl (by decide) rfl (fun ls hl => ?_)
        refine lv_iinc (v := nI (i + 1)) (lv' := [(2, .int (nI (i + 1))), (1, .int (if (vdl G sc i) < sm then vdl G sc i else sm)), (0, .ref c0)]) hx hb dX0_leastTestPoint_28 hl (k := 2) rfl (nI_1 _) (by decide) rfl (fun ls hl => ?_)
        refine lv_goto (tgt := 6) hx hb dX0_leastTestPoint_31 (by decide) ?_
        exact ih6 (i + 1) _ ls (by omega) (by omega) (by rw [esm]; rfl) (lv_sub hl [2, 1, 0] rfl)
  exact loop6 (n + 1) 0 200 ls (Nat.zero_le _) (by omega) rfl (lv_sub hl [2, 1, 0] rfl)

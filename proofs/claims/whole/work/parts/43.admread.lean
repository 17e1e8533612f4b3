/-! PART 43: DeadlineAdmission, the reads that throw nothing -/
/-- the object itself: its references o 0 .. o 5, its numbers F 6 .. F 11 -/
abbrev wObj (d0 : Nat) (o : Nat → Nat) (F : Nat → Int32) : va_W := [(d0, .inr (4, [.ref (o 0), .ref (o 1), .ref (o 2), .ref (o 3), .ref (o 4), .ref (o 5), .int (F 6), .int (F 7), .int (F 8), .int (F 9), .int (F 10), .int (F 11)]))]
set_option maxHeartbeats 1000000 in
set_option maxRecDepth 100000 in
/-- taskCount -/
theorem c_X4_taskCount (l : Launch) (dC : Nat → ClassId) (dI : Nat → Nat → Nat) (cy : Nat → ClassId) (d0 : Nat) (o : Nat → Nat) (F : Nat → Int32) (bc : Nat → Nat) (G : vG) (n : Nat) (hn : n ≤ 8) (sc : Int32) : Met l yX4_taskCount wsX4_taskCount ({ frames := 0, cells := 0, slots := 0, locals := 0 }) (va_Pc [.ref d0] (fun U => va_P (dC, dI) vwCl (wObj d0 o F ++ (wCfg cy (o 0) bc G (nI n) sc)) U.heap ∧ EV dC dI cy U)) (vp_Si (fun r => r = nI n)) 0 0 (fun _ => False) := by
  refine Met.ofW (cc := cX4_taskCount) (maxL := 1) (ret := some .int) (by decide) rfl ?_
  intro p e s m args below meth c s₁ B hml hv
  obtain ⟨rfl, hP, hE⟩ := hv
  have hK := hE.1
  have hx := B.exec
  have hb := B.bytes
  have hr := B.returns
  have hts := atoms_spec (ws := wsX4_taskCount) B.pre
  have hown : s.vm.findClass RX4 = some m.cls := findClass_of_methodNamed B.named
  have hlocks := B.notSynchronized
  have hin0 : ∀ w ∈ u_ws RX0 TX0 9, w ∈ wsX4_taskCount := by decide +kernel
  have hin4 : ∀ w ∈ u_ws RX4 TX4 12, w ∈ wsX4_taskCount := by decide +kernel
  have f_12 := hts (.fieldLink RX4 12 "DeadlineAdmission" "current" "LDeadlineAdmission$Configuration;") (by decide +kernel)
  have f_58 := va_Nw.use (A := ([.ref d0].toArray)) rfl (hE.f 9 rfl)
  have hl := lv_entry ([.ref d0]) (n := 1) (Nat.le_of_ble_eq_true rfl)
  rw [lg_entry_eq]
  generalize (lg_sl ([.ref d0]) ++ List.replicate (1 - (lg_sl ([.ref d0])).length) Slot.unset).toArray = ls at hl ⊢
  have hl : lv_has ls 1 [(0, .ref d0)] := hl
  refine lv_aload_n hx hb dX4_taskCount_0 rfl (lv_at hl 0 rfl) ?_
  refine va_get (D := (dC, dI)) (ci := 4) (v := .ref (o 0)) (C := RX4) (T := TX4) (N := 12) hx hb hts hin4 hown hK hP 0 rfl rfl 0 (by decide) f_12 (fun _ h9 => h9) rfl dX4_taskCount_1 ?_
  refine va_getN (D := (dC, dI)) (ci := 0) (v := .int (nI n)) (C := RX0) (T := TX0) (N := 9) hx hb hts hin0 hown hK hP 1 rfl rfl 7 (by decide) f_58 (fun _ h9 => h9) rfl dX4_taskCount_4 ?_
  exact W.iret (v := nI n) hx hb hr (fun t ht hW => ⟨_, rfl, rfl, ht⟩) (fun q hq => absurd hq List.not_mem_nil) dX4_taskCount_7
set_option maxHeartbeats 1000000 in
set_option maxRecDepth 100000 in
/-- scale -/
theorem c_X4_scale (l : Launch) (dC : Nat → ClassId) (dI : Nat → Nat → Nat) (cy : Nat → ClassId) (d0 : Nat) (o : Nat → Nat) (F : Nat → Int32) (bc : Nat → Nat) (G : vG) (n : Nat) (hn : n ≤ 8) (sc : Int32) : Met l yX4_scale wsX4_scale ({ frames := 0, cells := 0, slots := 0, locals := 0 }) (va_Pc [.ref d0] (fun U => va_P (dC, dI) vwCl (wObj d0 o F ++ (wCfg cy (o 0) bc G (nI n) sc)) U.heap ∧ EV dC dI cy U)) (vp_Si (fun r => r = sc)) 0 0 (fun _ => False) := by
  refine Met.ofW (cc := cX4_scale) (maxL := 1) (ret := some .int) (by decide) rfl ?_
  intro p e s m args below meth c s₁ B hml hv
  obtain ⟨rfl, hP, hE⟩ := hv
  have hK := hE.1
  have hx := B.exec
  have hb := B.bytes
  have hr := B.returns
  have hts := atoms_spec (ws := wsX4_scale) B.pre
  have hown : s.vm.findClass RX4 = some m.cls := findClass_of_methodNamed B.named
  have hlocks := B.notSynchronized
  have hin0 : ∀ w ∈ u_ws RX0 TX0 9, w ∈ wsX4_scale := by decide +kernel
  have hin4 : ∀ w ∈ u_ws RX4 TX4 12, w ∈ wsX4_scale := by decide +kernel
  have f_12 := hts (.fieldLink RX4 12 "DeadlineAdmission" "current" "LDeadlineAdmission$Configuration;") (by decide +kernel)
  have f_154 := va_Nw.use (A := ([.ref d0].toArray)) rfl (hE.f 12 rfl)
  have hl := lv_entry ([.ref d0]) (n := 1) (Nat.le_of_ble_eq_true rfl)
  rw [lg_entry_eq]
  generalize (lg_sl ([.ref d0]) ++ List.replicate (1 - (lg_sl ([.ref d0])).length) Slot.unset).toArray = ls at hl ⊢
  have hl : lv_has ls 1 [(0, .ref d0)] := hl
  refine lv_aload_n hx hb dX4_scale_0 rfl (lv_at hl 0 rfl) ?_
  refine va_get (D := (dC, dI)) (ci := 4) (v := .ref (o 0)) (C := RX4) (T := TX4) (N := 12) hx hb hts hin4 hown hK hP 0 rfl rfl 0 (by decide) f_12 (fun _ h9 => h9) rfl dX4_scale_1 ?_
  refine va_getN (D := (dC, dI)) (ci := 0) (v := .int sc) (C := RX0) (T := TX0) (N := 9) hx hb hts hin0 hown hK hP 1 rfl rfl 8 (by decide) f_154 (fun _ h9 => h9) rfl dX4_scale_4 ?_
  exact W.iret (v := sc) hx hb hr (fun t ht hW => ⟨_, rfl, rfl, ht⟩) (fun q hq => absurd hq List.not_mem_nil) dX4_scale_7
set_option maxHeartbeats 1000000 in
set_option maxRecDepth 100000 in
/-- spareTime -/
theorem c_X4_spareTime (l : Launch) (dC : Nat → ClassId) (dI : Nat → Nat → Nat) (cy : Nat → ClassId) (d0 : Nat) (o : Nat → Nat) (F : Nat → Int32) (bc : Nat → Nat) (G : vG) (n : Nat) (hn : n ≤ 8) (sc : Int32) (p0 p1 : Int32) : Met l yX4_spareTime wsX4_spareTime ({ frames := 2, cells := 0, slots := 0, locals := 55 }) (va_Pc [.ref d0, .int p0, .int p1] (fun U => va_P (dC, dI) vwCl (wObj d0 o F ++ (wCfg cy (o 0) bc G (nI n) sc)) U.heap ∧ EV dC dI cy U)) (vp_Si (fun r => r = p1 - tdem G n sc p0 p1)) 0 0 (fun _ => False) := by
  refine Met.ofW (cc := cX4_spareTime) (maxL := 3) (ret := some .int) (by decide) rfl ?_
  intro p e s m args below meth c s₁ B hml hv
  obtain ⟨rfl, hP, hE⟩ := hv
  have hK := hE.1
  have hx := B.exec
  have hb := B.bytes
  have hr := B.returns
  have hts := atoms_spec (ws := wsX4_spareTime) B.pre
  have hown : s.vm.findClass RX4 = some m.cls := findClass_of_methodNamed B.named
  have hlocks := B.notSynchronized
  have hin0 : ∀ w ∈ u_ws RX0 TX0 9, w ∈ wsX4_spareTime := by decide +kernel
  have hin4 : ∀ w ∈ u_ws RX4 TX4 12, w ∈ wsX4_spareTime := by decide +kernel
  have f_12 := hts (.fieldLink RX4 12 "DeadlineAdmission" "current" "LDeadlineAdmission$Configuration;") (by decide +kernel)
  have f_154 := va_Nw.use (A := ([.ref d0, .int p0, .int p1].toArray)) rfl (hE.f 12 rfl)
  have hl := lv_entry ([.ref d0, .int p0, .int p1]) (n := 3) (Nat.le_of_ble_eq_true rfl)
  rw [lg_entry_eq]
  generalize (lg_sl ([.ref d0, .int p0, .int p1]) ++ List.replicate (3 - (lg_sl ([.ref d0, .int p0, .int p1])).length) Slot.unset).toArray = ls at hl ⊢
  have hl : lv_has ls 3 [(0, .ref d0), (1, .int p0), (2, .int p1)] := hl
  refine lv_iload_n hx hb dX4_spareTime_0 rfl (lv_at hl 2 rfl) ?_
  refine lv_aload_n hx hb dX4_spareTime_1 rfl (lv_at hl 0 rfl) ?_
  refine va_get (D := (dC, dI)) (ci := 4) (v := .ref (o 0)) (C := RX4) (T := TX4) (N := 12) hx hb hts hin4 hown hK hP 0 rfl rfl 0 (by decide) f_12 (fun _ h9 => h9) rfl dX4_spareTime_2 ?_
  refine lv_iload_n hx hb dX4_spareTime_5 rfl (lv_at hl 1 rfl) ?_
  refine lv_iload_n hx hb dX4_spareTime_6 rfl (lv_at hl 2 rfl) ?_
  refine lv_aload_n hx hb dX4_spareTime_7 rfl (lv_at hl 0 rfl) ?_
  refine va_get (D := (dC, dI)) (ci := 4) (v := .ref (o 0)) (C := RX4) (T := TX4) (N := 12) hx hb hts hin4 hown hK hP 0 rfl rfl 0 (by decide) f_12 (fun _ h9 => h9) rfl dX4_spareTime_8 ?_
  refine va_getN (D := (dC, dI)) (ci := 0) (v := .int sc) (C := RX0) (T := TX0) (N := 9) hx hb hts hin0 hown hK hP 1 rfl rfl 8 (by decide) f_154 (fun _ h9 => h9) rfl dX4_spareTime_11 ?_
  refine vp_callSi (va_runV (As := [.int p0, .int p1, .int sc]) (rest := [.int p1]) ⟨hx, hb, hml, hown, hts⟩ (c_X0_totalDemand l dC dI cy (o 0) bc G n hn sc p0 p1 sc) (cwV 3 hts gX4_spareTime_X0_totalDemand rfl rfl rfl (by decide +kernel) ⟨Nat.le_of_ble_eq_true rfl, Nat.le_of_ble_eq_true rfl⟩) ⟨bl_ro, va_recv hK (hP.sub (ws' := wCfg cy (o 0) bc G (nI n) sc) [1, 2, 3, 4, 5, 6, 7, 8] rfl) (ci := 0) (q0 := 0) rfl rfl, pr_ro (hP.sub (ws' := wCfg cy (o 0) bc G (nI n) sc) [1, 2, 3, 4, 5, 6, 7, 8] rfl) hE⟩ rfl rfl hl.1 rfl (lv_room (Nat.le_of_ble_eq_true rfl)) dX4_spareTime_14 ⟨Nat.le_of_ble_eq_true rfl, Nat.le_of_ble_eq_true rfl⟩).run (fun r e_r => ?_)
  subst e_r
  refine lv_isub hx hb dX4_spareTime_17 ?_
  exact W.iret (v := p1 - (tdem G n sc p0 p1)) hx hb hr (fun t ht hW => ⟨_, rfl, rfl, ht⟩) (fun q hq => absurd hq List.not_mem_nil) dX4_spareTime_18
set_option maxHeartbeats 1000000 in
set_option maxRecDepth 100000 in
/-- tightestInterval -/
theorem c_X4_tightestInterval (l : Launch) (dC : Nat → ClassId) (dI : Nat → Nat → Nat) (cy : Nat → ClassId) (d0 : Nat) (o : Nat → Nat) (F : Nat → Int32) (bc : Nat → Nat) (G : vG) (n : Nat) (hn : n ≤ 8) (sc : Int32) (p0 : Int32) : Met l yX4_tightestInterval wsX4_tightestInterval ({ frames := 3, cells := 0, slots := 0, locals := 77 }) (va_Pc [.ref d0, .int p0] (fun U => va_P (dC, dI) vwCl (wObj d0 o F ++ (wCfg cy (o 0) bc G (nI n) sc)) U.heap ∧ EV dC dI cy U)) (vp_Si (fun r => r = tgh G n sc p0)) 0 0 (fun _ => False) := by
  refine Met.ofW (cc := cX4_tightestInterval) (maxL := 6) (ret := some .int) (by decide) rfl ?_
  intro p e s m args below meth c s₁ B hml hv
  obtain ⟨rfl, hP, hE⟩ := hv
  have hK := hE.1
  have hx := B.exec
  have hb := B.bytes
  have hr := B.returns
  have hts := atoms_spec (ws := wsX4_tightestInterval) B.pre
  have hown : s.vm.findClass RX4 = some m.cls := findClass_of_methodNamed B.named
  have hlocks := B.notSynchronized
  have hl := lv_entry ([.ref d0, .int p0]) (n := 6) (Nat.le_of_ble_eq_true rfl)
  rw [lg_entry_eq]
  generalize (lg_sl ([.ref d0, .int p0]) ++ List.replicate (6 - (lg_sl ([.ref d0, .int p0])).length) Slot.unset).toArray = ls at hl ⊢
  have hl : lv_has ls 6 [(0, .ref d0), (1, .int p0)] := hl
  refine lv_iconst (v := 1) hx hb dX4_tightestInterval_0 (by decide) ?_
  refine lv_istore_n (lv' := [(2, .int 1), (0, .ref d0), (1, .int p0)]) hx hb dX4_tightestInterval_1 rfl hl (by decide) rfl (fun ls hl => ?_)
  refine lv_aload_n hx hb dX4_tightestInterval_2 rfl (lv_at hl 1 rfl) ?_
  refine lv_iload_n hx hb dX4_tightestInterval_3 rfl (lv_at hl 2 rfl) ?_
  refine lv_iconst (v := 1) hx hb dX4_tightestInterval_4 (by decide) ?_
  refine vp_callSi (va_runV (As := [.int p0, .int 1]) (rest := []) ⟨hx, hb, hml, hown, hts⟩ (c_X4_spareTime l dC dI cy d0 o F bc G n hn sc p0 1) (cwV 2 hts gX4_tightestInterval_X4_spareTime rfl rfl rfl (by decide +kernel) ⟨Nat.le_of_ble_eq_true rfl, Nat.le_of_ble_eq_true rfl⟩) ⟨bl_ro, va_recv hK hP (ci := 4) (q0 := 0) rfl rfl, pr_ro hP hE⟩ rfl rfl hl.1 rfl (lv_room (Nat.le_of_ble_eq_true rfl)) dX4_tightestInterval_5 ⟨Nat.le_of_ble_eq_true rfl, Nat.le_of_ble_eq_true rfl⟩).run (fun r e_r => ?_)
  subst e_r
  refine lv_istore_n (lv' := [(3, .int (1 - tdem G n sc p0 1)), (2, .int 1), (0, .ref d0), (1, .int p0)]) hx hb dX4_tightestInterval_8 rfl hl (by decide) rfl (fun ls hl => ?_)
  refine lv_iconst (v := 2) hx hb dX4_tightestInterval_9 (by decide) ?_
  refine lv_istore (lv' := [(4, .int 2), (3, .int (1 - tdem G n sc p0 1)), (2, .int 1), (0, .ref d0), (1, .int p0)]) hx hb dX4_tightestInterval_10 hl (by decide) rfl (fun ls hl => ?_)
  have loop12 : ∀ (k : Nat) (j : Nat) (t : Nat) (bs : Int32) (le : Int32) (ls : Array Slot), t + j = 201 → j < k → tgr (tdem G n sc p0) j t bs le = tgh G n sc p0 → lv_has ls 6 [(0, .ref d0), (1, .int p0), (2, .int bs), (3, .int le), (4, .int (nI t))] → W p l e (headSpec wsX4_tightestInterval ({ frames := 3, cells := 0, slots := 0, locals := 77 }) |>.room) s m (([.ref d0, .int p0].toArray)) below meth c s.heap [] 0 0 (MQ below (vp_Si (fun r => r = tgh G n sc p0)) ([.ref d0, .int p0].toArray) s 0 0 (fun _ => False)) (F0 m 12 ls []) := by
    intro k
    induction k with
    | zero =>
      intro j t bs le ls hi hk ef
      exfalso; omega
    | succ k ih12 =>
      intro j t bs le ls hi hk ef hl
      refine lv_iload hx hb dX4_tightestInterval_12 (lv_at hl 4 rfl) ?_
      refine lv_sipush (v := 200) hx hb dX4_tightestInterval_14 (by decide) ?_
      refine lv_icmp_gt (tgt := 47) hx hb dX4_tightestInterval_17 (by decide) (fun c_17 => ?_) (fun c_17 => ?_)
      · have e_j : j = 0 := by have := (nI_ltI (a := 200) (b := t) (by omega) (by omega)).mp c_17; omega
        refine lv_iload_n hx hb dX4_tightestInterval_47 rfl (lv_at hl 2 rfl) ?_
        exact W.iret (v := bs) hx hb hr (fun t ht hW => ⟨_, rfl, (by rw [← ef, e_j]; rfl), ht⟩) (fun q hq => absurd hq List.not_mem_nil) dX4_tightestInterval_48
      · obtain ⟨j, rfl⟩ : ∃ z, j = z + 1 := ⟨j - 1, by have h : ¬ (200 < t) := fun h => c_17 ((nI_ltI (a := 200) (b := t) (by omega) (by omega)).mpr h); omega⟩
        refine lv_aload_n hx hb dX4_tightestInterval_20 rfl (lv_at hl 0 rfl) ?_
        refine lv_iload_n hx hb dX4_tightestInterval_21 rfl (lv_at hl 1 rfl) ?_
        refine lv_iload hx hb dX4_tightestInterval_22 (lv_at hl 4 rfl) ?_
        refine vp_callSi (va_runV (As := [.int p0, .int (nI t)]) (rest := []) ⟨hx, hb, hml, hown, hts⟩ (c_X4_spareTime l dC dI cy d0 o F bc G n hn sc p0 (nI t)) (cwV 2 hts gX4_tightestInterval_X4_spareTime rfl rfl rfl (by decide +kernel) ⟨Nat.le_of_ble_eq_true rfl, Nat.le_of_ble_eq_true rfl⟩) ⟨bl_ro, va_recv hK hP (ci := 4) (q0 := 0) rfl rfl, pr_ro hP hE⟩ rfl rfl hl.1 rfl (lv_room (Nat.le_of_ble_eq_true rfl)) dX4_tightestInterval_24 ⟨Nat.le_of_ble_eq_true rfl, Nat.le_of_ble_eq_true rfl⟩).run (fun r e_r => ?_)
        subst e_r
        refine lv_istore (lv' := [(5, .int ((nI t) - tdem G n sc p0 (nI t))), (0, .ref d0), (1, .int p0), (2, .int bs), (3, .int le), (4, .int (nI t))]) hx hb dX4_tightestInterval_27 hl (by decide) rfl (fun ls hl => ?_)
        refine lv_iload hx hb dX4_tightestInterval_29 (lv_at hl 0 rfl) ?_
        refine lv_iload_n hx hb dX4_tightestInterval_31 rfl (lv_at hl 4 rfl) ?_
        refine lv_icmp_ge (tgt := 41) hx hb dX4_tightestInterval_32 (by decide) (fun c_32 => ?_) (fun c_32 => ?_)
        · refine lv_iinc (v := nI (t + 1)) (lv' := [(4, .int (nI (t + 1))), (5, .int ((nI t) - tdem G n sc p0 (nI t))), (0, .ref d0), (1, .int p0), (2, .int bs), (3, .int le)]) hx hb dX4_tightestInterval_41 hl (k := 5) rfl (nI_1 _) (by decide) rfl (fun ls hl => ?_)
          refine lv_goto (tgt := 12) hx hb dX4_tightestInterval_44 (by decide) ?_
          exact ih12 j (t + 1) _ _ ls (by omega) (by omega) (by rw [← ef, tgr, if_pos c_32]) (lv_sub hl [2, 3, 4, 5, 0] rfl)
        · refine lv_iload hx hb dX4_tightestInterval_35 (lv_at hl 0 rfl) ?_
          refine lv_istore_n (lv' := [(3, .int ((nI t) - tdem G n sc p0 (nI t))), (5, .int ((nI t) - tdem G n sc p0 (nI t))), (0, .ref d0), (1, .int p0), (2, .int bs), (4, .int (nI t))]) hx hb dX4_tightestInterval_37 rfl hl (by decide) rfl (fun ls hl => ?_)
          refine lv_iload hx hb dX4_tightestInterval_38 (lv_at hl 5 rfl) ?_
          refine lv_istore_n (lv' := [(2, .int (nI t)), (3, .int ((nI t) - tdem G n sc p0 (nI t))), (5, .int ((nI t) - tdem G n sc p0 (nI t))), (0, .ref d0), (1, .int p0), (4, .int (nI t))]) hx hb dX4_tightestInterval_40 rfl hl (by decide) rfl (fun ls hl => ?_)
          refine lv_iinc (v := nI (t + 1)) (lv' := [(4, .int (nI (t + 1))), (2, .int (nI t)), (3, .int ((nI t) - tdem G n sc p0 (nI t))), (5, .int ((nI t) - tdem G n sc p0 (nI t))), (0, .ref d0), (1, .int p0)]) hx hb dX4_tightestInterval_41 hl (k := 5) rfl (nI_1 _) (by decide) rfl (fun ls hl => ?_)
          refine lv_goto (tgt := 12) hx hb dX4_tightestInterval_44 (by decide) ?_
          exact ih12 j (t + 1) _ _ ls (by omega) (by omega) (by rw [← ef, tgr, if_neg c_32]) (lv_sub hl [4, 5, 1, 2, 0] rfl)
  exact loop12 200 199 2 _ _ ls rfl (by omega) rfl (lv_sub hl [3, 4, 2, 1, 0] rfl)
set_option maxHeartbeats 1000000 in
set_option maxRecDepth 100000 in
/-- feasibleScales -/
theorem c_X4_feasibleScales (l : Launch) (dC : Nat → ClassId) (dI : Nat → Nat → Nat) (cy : Nat → ClassId) (d0 : Nat) (o : Nat → Nat) (F : Nat → Int32) (bc : Nat → Nat) (G : vG) (n : Nat) (hn : n ≤ 8) (sc : Int32) : Met l yX4_feasibleScales wsX4_feasibleScales ({ frames := 4, cells := 0, slots := 0, locals := 99 }) (va_Pc [.ref d0] (fun U => va_P (dC, dI) vwCl (wObj d0 o F ++ (wCfg cy (o 0) bc G (nI n) sc)) U.heap ∧ EV dC dI cy U)) (vp_Si (fun r => r = fsc G n)) 0 0 (fun _ => False) := by
  refine Met.ofW (cc := cX4_feasibleScales) (maxL := 3) (ret := some .int) (by decide) rfl ?_
  intro p e s m args below meth c s₁ B hml hv
  obtain ⟨rfl, hP, hE⟩ := hv
  have hK := hE.1
  have hx := B.exec
  have hb := B.bytes
  have hr := B.returns
  have hts := atoms_spec (ws := wsX4_feasibleScales) B.pre
  have hown : s.vm.findClass RX4 = some m.cls := findClass_of_methodNamed B.named
  have hlocks := B.notSynchronized
  have hin4 : ∀ w ∈ u_ws RX4 TX4 12, w ∈ wsX4_feasibleScales := by decide +kernel
  have f_12 := hts (.fieldLink RX4 12 "DeadlineAdmission" "current" "LDeadlineAdmission$Configuration;") (by decide +kernel)
  have hl := lv_entry ([.ref d0]) (n := 3) (Nat.le_of_ble_eq_true rfl)
  rw [lg_entry_eq]
  generalize (lg_sl ([.ref d0]) ++ List.replicate (3 - (lg_sl ([.ref d0])).length) Slot.unset).toArray = ls at hl ⊢
  have hl : lv_has ls 3 [(0, .ref d0)] := hl
  refine lv_iconst (v := 0) hx hb dX4_feasibleScales_0 (by decide) ?_
  refine lv_istore_n (lv' := [(1, .int 0), (0, .ref d0)]) hx hb dX4_feasibleScales_1 rfl hl (by decide) rfl (fun ls hl => ?_)
  refine lv_iconst (v := 1) hx hb dX4_feasibleScales_2 (by decide) ?_
  refine lv_istore_n (lv' := [(2, .int 1), (1, .int 0), (0, .ref d0)]) hx hb dX4_feasibleScales_3 rfl hl (by decide) rfl (fun ls hl => ?_)
  have loop4 : ∀ (k : Nat) (j : Nat) (t : Nat) (se : Int32) (ls : Array Slot), t + j = 9 → j < k → fsr G n j t se = fsc G n → lv_has ls 3 [(0, .ref d0), (1, .int se), (2, .int (nI t))] → W p l e (headSpec wsX4_feasibleScales ({ frames := 4, cells := 0, slots := 0, locals := 99 }) |>.room) s m (([.ref d0].toArray)) below meth c s.heap [] 0 0 (MQ below (vp_Si (fun r => r = fsc G n)) ([.ref d0].toArray) s 0 0 (fun _ => False)) (F0 m 4 ls []) := by
    intro k
    induction k with
    | zero =>
      intro j t se ls hi hk ef
      exfalso; omega
    | succ k ih4 =>
      intro j t se ls hi hk ef hl
      refine lv_iload_n hx hb dX4_feasibleScales_4 rfl (lv_at hl 2 rfl) ?_
      refine lv_bipush (v := 8) hx hb dX4_feasibleScales_5 (by decide) ?_
      refine lv_icmp_gt (tgt := 33) hx hb dX4_feasibleScales_7 (by decide) (fun c_7 => ?_) (fun c_7 => ?_)
      · have e_j : j = 0 := by have := (nI_ltI (a := 8) (b := t) (by omega) (by omega)).mp c_7; omega
        refine lv_iload_n hx hb dX4_feasibleScales_33 rfl (lv_at hl 1 rfl) ?_
        exact W.iret (v := se) hx hb hr (fun t ht hW => ⟨_, rfl, (by rw [← ef, e_j]; rfl), ht⟩) (fun q hq => absurd hq List.not_mem_nil) dX4_feasibleScales_34
      · obtain ⟨j, rfl⟩ : ∃ z, j = z + 1 := ⟨j - 1, by have h : ¬ (8 < t) := fun h => c_7 ((nI_ltI (a := 8) (b := t) (by omega) (by omega)).mpr h); omega⟩
        refine lv_aload_n hx hb dX4_feasibleScales_10 rfl (lv_at hl 0 rfl) ?_
        refine va_get (D := (dC, dI)) (ci := 4) (v := .ref (o 0)) (C := RX4) (T := TX4) (N := 12) hx hb hts hin4 hown hK hP 0 rfl rfl 0 (by decide) f_12 (fun _ h9 => h9) rfl dX4_feasibleScales_11 ?_
        refine lv_iload_n hx hb dX4_feasibleScales_14 rfl (lv_at hl 2 rfl) ?_
        refine vp_callSi (va_runV (As := [.int (nI t)]) (rest := []) ⟨hx, hb, hml, hown, hts⟩ (c_X0_isSchedulableWith l dC dI cy (o 0) bc G n hn sc (nI t)) (cwV 1 hts gX4_feasibleScales_X0_isSchedulableWith rfl rfl rfl (by decide +kernel) ⟨Nat.le_of_ble_eq_true rfl, Nat.le_of_ble_eq_true rfl⟩) ⟨bl_ro, va_recv hK (hP.sub (ws' := wCfg cy (o 0) bc G (nI n) sc) [1, 2, 3, 4, 5, 6, 7, 8] rfl) (ci := 0) (q0 := 0) rfl rfl, pr_ro (hP.sub (ws' := wCfg cy (o 0) bc G (nI n) sc) [1, 2, 3, 4, 5, 6, 7, 8] rfl) hE⟩ rfl rfl hl.1 rfl (lv_room (Nat.le_of_ble_eq_true rfl)) dX4_feasibleScales_15 ⟨Nat.le_of_ble_eq_true rfl, Nat.le_of_ble_eq_true rfl⟩).run (fun r e_r => ?_)
        subst e_r
        refine lv_if_eq (tgt := 27) hx hb dX4_feasibleScales_18 (by decide) (fun c_18 => ?_) (fun c_18 => ?_)
        · refine lv_iinc (v := nI (t + 1)) (lv' := [(2, .int (nI (t + 1))), (0, .ref d0), (1, .int se)]) hx hb dX4_feasibleScales_27 hl (k := 2) rfl (nI_1 _) (by decide) rfl (fun ls hl => ?_)
          refine lv_goto (tgt := 4) hx hb dX4_feasibleScales_30 (by decide) ?_
          exact ih4 j (t + 1) _ ls (by omega) (by omega) (by rw [← ef, fsr, if_neg (b10.mp c_18)]) (lv_sub hl [1, 2, 0] rfl)
        · refine lv_iload_n hx hb dX4_feasibleScales_21 rfl (lv_at hl 1 rfl) ?_
          refine lv_iconst (v := 1) hx hb dX4_feasibleScales_22 (by decide) ?_
          refine lv_iload_n hx hb dX4_feasibleScales_23 rfl (lv_at hl 2 rfl) ?_
          refine lv_ishl hx hb dX4_feasibleScales_24 ?_
          refine lv_ior hx hb dX4_feasibleScales_25 ?_
          refine lv_istore_n (lv' := [(1, .int (se ||| (1 <<< ((nI t) &&& 31)))), (0, .ref d0), (2, .int (nI t))]) hx hb dX4_feasibleScales_26 rfl hl (by decide) rfl (fun ls hl => ?_)
          refine lv_iinc (v := nI (t + 1)) (lv' := [(2, .int (nI (t + 1))), (1, .int (se ||| (1 <<< ((nI t) &&& 31)))), (0, .ref d0)]) hx hb dX4_feasibleScales_27 hl (k := 2) rfl (nI_1 _) (by decide) rfl (fun ls hl => ?_)
          refine lv_goto (tgt := 4) hx hb dX4_feasibleScales_30 (by decide) ?_
          exact ih4 j (t + 1) _ ls (by omega) (by omega) (by rw [← ef, fsr, if_pos (nb10 c_18)]) (lv_sub hl [2, 1, 0] rfl)
  exact loop4 9 8 1 0 ls rfl (by omega) rfl (lv_sub hl [2, 1, 0] rfl)
set_option maxHeartbeats 1000000 in
set_option maxRecDepth 100000 in
/-- descentPointAfter -/
theorem c_X4_descentPointAfter (l : Launch) (dC : Nat → ClassId) (dI : Nat → Nat → Nat) (cy : Nat → ClassId) (d0 : Nat) (o : Nat → Nat) (F : Nat → Int32) (bc : Nat → Nat) (G : vG) (n : Nat) (hn : n ≤ 8) (sc : Int32) (p0 : Int32) : Met l yX4_descentPointAfter wsX4_descentPointAfter ({ frames := 2, cells := 0, slots := 0, locals := 55 }) (va_Pc [.ref d0, .int p0] (fun U => va_P (dC, dI) vwCl (wObj d0 o F ++ (wCfg cy (o 0) bc G (nI n) sc)) U.heap ∧ EV dC dI cy U)) (vp_Si (fun r => r = dnext G n sc p0)) 0 0 (fun _ => False) := by
  refine Met.ofW (cc := cX4_descentPointAfter) (maxL := 3) (ret := some .int) (by decide) rfl ?_
  intro p e s m args below meth c s₁ B hml hv
  obtain ⟨rfl, hP, hE⟩ := hv
  have hK := hE.1
  have hx := B.exec
  have hb := B.bytes
  have hr := B.returns
  have hts := atoms_spec (ws := wsX4_descentPointAfter) B.pre
  have hown : s.vm.findClass RX4 = some m.cls := findClass_of_methodNamed B.named
  have hlocks := B.notSynchronized
  have hin0 : ∀ w ∈ u_ws RX0 TX0 9, w ∈ wsX4_descentPointAfter := by decide +kernel
  have hin4 : ∀ w ∈ u_ws RX4 TX4 12, w ∈ wsX4_descentPointAfter := by decide +kernel
  have f_12 := hts (.fieldLink RX4 12 "DeadlineAdmission" "current" "LDeadlineAdmission$Configuration;") (by decide +kernel)
  have f_154 := va_Nw.use (A := ([.ref d0, .int p0].toArray)) rfl (hE.f 12 rfl)
  have hl := lv_entry ([.ref d0, .int p0]) (n := 3) (Nat.le_of_ble_eq_true rfl)
  rw [lg_entry_eq]
  generalize (lg_sl ([.ref d0, .int p0]) ++ List.replicate (3 - (lg_sl ([.ref d0, .int p0])).length) Slot.unset).toArray = ls at hl ⊢
  have hl : lv_has ls 3 [(0, .ref d0), (1, .int p0)] := hl
  refine lv_aload_n hx hb dX4_descentPointAfter_0 rfl (lv_at hl 0 rfl) ?_
  refine va_get (D := (dC, dI)) (ci := 4) (v := .ref (o 0)) (C := RX4) (T := TX4) (N := 12) hx hb hts hin4 hown hK hP 0 rfl rfl 0 (by decide) f_12 (fun _ h9 => h9) rfl dX4_descentPointAfter_1 ?_
  refine lv_iconst (v := 0) hx hb dX4_descentPointAfter_4 (by decide) ?_
  refine lv_iload_n hx hb dX4_descentPointAfter_5 rfl (lv_at hl 1 rfl) ?_
  refine lv_aload_n hx hb dX4_descentPointAfter_6 rfl (lv_at hl 0 rfl) ?_
  refine va_get (D := (dC, dI)) (ci := 4) (v := .ref (o 0)) (C := RX4) (T := TX4) (N := 12) hx hb hts hin4 hown hK hP 0 rfl rfl 0 (by decide) f_12 (fun _ h9 => h9) rfl dX4_descentPointAfter_7 ?_
  refine va_getN (D := (dC, dI)) (ci := 0) (v := .int sc) (C := RX0) (T := TX0) (N := 9) hx hb hts hin0 hown hK hP 1 rfl rfl 8 (by decide) f_154 (fun _ h9 => h9) rfl dX4_descentPointAfter_10 ?_
  refine vp_callSi (va_runV (As := [.int 0, .int p0, .int sc]) (rest := []) ⟨hx, hb, hml, hown, hts⟩ (c_X0_totalDemand l dC dI cy (o 0) bc G n hn sc 0 p0 sc) (cwV 3 hts gX4_descentPointAfter_X0_totalDemand rfl rfl rfl (by decide +kernel) ⟨Nat.le_of_ble_eq_true rfl, Nat.le_of_ble_eq_true rfl⟩) ⟨bl_ro, va_recv hK (hP.sub (ws' := wCfg cy (o 0) bc G (nI n) sc) [1, 2, 3, 4, 5, 6, 7, 8] rfl) (ci := 0) (q0 := 0) rfl rfl, pr_ro (hP.sub (ws' := wCfg cy (o 0) bc G (nI n) sc) [1, 2, 3, 4, 5, 6, 7, 8] rfl) hE⟩ rfl rfl hl.1 rfl (lv_room (Nat.le_of_ble_eq_true rfl)) dX4_descentPointAfter_13 ⟨Nat.le_of_ble_eq_true rfl, Nat.le_of_ble_eq_true rfl⟩).run (fun r e_r => ?_)
  subst e_r
  refine lv_istore_n (lv' := [(2, .int (tdem G n sc 0 p0)), (0, .ref d0), (1, .int p0)]) hx hb dX4_descentPointAfter_16 rfl hl (by decide) rfl (fun ls hl => ?_)
  refine lv_iload_n hx hb dX4_descentPointAfter_17 rfl (lv_at hl 0 rfl) ?_
  refine lv_iload_n hx hb dX4_descentPointAfter_18 rfl (lv_at hl 2 rfl) ?_
  refine lv_icmp_gt (tgt := 33) hx hb dX4_descentPointAfter_19 (by decide) (fun c_19 => ?_) (fun c_19 => ?_)
  · refine lv_iconst (v := 0) hx hb dX4_descentPointAfter_33 (by decide) ?_
    exact W.iret (v := 0) hx hb hr (fun t ht hW => ⟨_, rfl, (by rw [dnext, if_pos c_19]), ht⟩) (fun q hq => absurd hq List.not_mem_nil) dX4_descentPointAfter_34
  · refine lv_iload_n hx hb dX4_descentPointAfter_22 rfl (lv_at hl 0 rfl) ?_
    refine lv_aload_n hx hb dX4_descentPointAfter_23 rfl (lv_at hl 1 rfl) ?_
    refine va_get (D := (dC, dI)) (ci := 4) (v := .ref (o 0)) (C := RX4) (T := TX4) (N := 12) hx hb hts hin4 hown hK hP 0 rfl rfl 0 (by decide) f_12 (fun _ h9 => h9) rfl dX4_descentPointAfter_24 ?_
    refine vp_callSi (va_runV (As := []) (rest := [.int (tdem G n sc 0 p0)]) ⟨hx, hb, hml, hown, hts⟩ (c_X0_leastTestPoint l dC dI cy (o 0) bc G n hn sc ) (cwV 0 hts gX4_descentPointAfter_X0_leastTestPoint rfl rfl rfl (by decide +kernel) ⟨Nat.le_of_ble_eq_true rfl, Nat.le_of_ble_eq_true rfl⟩) ⟨bl_ro, va_recv hK (hP.sub (ws' := wCfg cy (o 0) bc G (nI n) sc) [1, 2, 3, 4, 5, 6, 7, 8] rfl) (ci := 0) (q0 := 0) rfl rfl, pr_ro (hP.sub (ws' := wCfg cy (o 0) bc G (nI n) sc) [1, 2, 3, 4, 5, 6, 7, 8] rfl) hE⟩ rfl rfl hl.1 rfl (lv_room (Nat.le_of_ble_eq_true rfl)) dX4_descentPointAfter_27 ⟨Nat.le_of_ble_eq_true rfl, Nat.le_of_ble_eq_true rfl⟩).run (fun r e_r => ?_)
    subst e_r
    refine lv_icmp_gt (tgt := 35) hx hb dX4_descentPointAfter_30 (by decide) (fun c_30 => ?_) (fun c_30 => ?_)
    · refine lv_iload_n hx hb dX4_descentPointAfter_35 rfl (lv_at hl 0 rfl) ?_
      refine lv_iload_n hx hb dX4_descentPointAfter_36 rfl (lv_at hl 2 rfl) ?_
      refine lv_icmp_ge (tgt := 44) hx hb dX4_descentPointAfter_37 (by decide) (fun c_37 => ?_) (fun c_37 => ?_)
      · refine lv_aload_n hx hb dX4_descentPointAfter_44 rfl (lv_at hl 1 rfl) ?_
        refine va_get (D := (dC, dI)) (ci := 4) (v := .ref (o 0)) (C := RX4) (T := TX4) (N := 12) hx hb hts hin4 hown hK hP 0 rfl rfl 0 (by decide) f_12 (fun _ h9 => h9) rfl dX4_descentPointAfter_45 ?_
        refine lv_iload_n hx hb dX4_descentPointAfter_48 rfl (lv_at hl 2 rfl) ?_
        refine vp_callSi (va_runV (As := [.int p0]) (rest := []) ⟨hx, hb, hml, hown, hts⟩ (c_X0_greatestTestPointBelow l dC dI cy (o 0) bc G n hn sc p0) (cwV 1 hts gX4_descentPointAfter_X0_greatestTestPointBelow rfl rfl rfl (by decide +kernel) ⟨Nat.le_of_ble_eq_true rfl, Nat.le_of_ble_eq_true rfl⟩) ⟨bl_ro, va_recv hK (hP.sub (ws' := wCfg cy (o 0) bc G (nI n) sc) [1, 2, 3, 4, 5, 6, 7, 8] rfl) (ci := 0) (q0 := 0) rfl rfl, pr_ro (hP.sub (ws' := wCfg cy (o 0) bc G (nI n) sc) [1, 2, 3, 4, 5, 6, 7, 8] rfl) hE⟩ rfl rfl hl.1 rfl (lv_room (Nat.le_of_ble_eq_true rfl)) dX4_descentPointAfter_49 ⟨Nat.le_of_ble_eq_true rfl, Nat.le_of_ble_eq_true rfl⟩).run (fun r e_r => ?_)
        subst e_r
        exact W.iret (v := gtp G sc p0 n) hx hb hr (fun t ht hW => ⟨_, rfl, (by rw [dnext, if_neg c_19, if_neg (Int32.not_le.mpr c_30), if_pos c_37]), ht⟩) (fun q hq => absurd hq List.not_mem_nil) dX4_descentPointAfter_52
      · refine lv_iload_n hx hb dX4_descentPointAfter_40 rfl (lv_at hl 0 rfl) ?_
        refine lv_goto (tgt := 52) hx hb dX4_descentPointAfter_41 (by decide) ?_
        exact W.iret (v := tdem G n sc 0 p0) hx hb hr (fun t ht hW => ⟨_, rfl, (by rw [dnext, if_neg c_19, if_neg (Int32.not_le.mpr c_30), if_neg c_37]), ht⟩) (fun q hq => absurd hq List.not_mem_nil) dX4_descentPointAfter_52
    · refine lv_iconst (v := 0) hx hb dX4_descentPointAfter_33 (by decide) ?_
      exact W.iret (v := 0) hx hb hr (fun t ht hW => ⟨_, rfl, (by rw [dnext, if_neg c_19, if_pos (Int32.not_lt.mp c_30)]), ht⟩) (fun q hq => absurd hq List.not_mem_nil) dX4_descentPointAfter_34
set_option maxHeartbeats 1000000 in
set_option maxRecDepth 100000 in
/-- descentLength -/
theorem c_X4_descentLength (l : Launch) (dC : Nat → ClassId) (dI : Nat → Nat → Nat) (cy : Nat → ClassId) (d0 : Nat) (o : Nat → Nat) (F : Nat → Int32) (bc : Nat → Nat) (G : vG) (n : Nat) (hn : n ≤ 8) (sc : Int32) : Met l yX4_descentLength wsX4_descentLength ({ frames := 3, cells := 0, slots := 0, locals := 77 }) (va_Pc [.ref d0] (fun U => va_P (dC, dI) vwCl (wObj d0 o F ++ (wCfg cy (o 0) bc G (nI n) sc)) U.heap ∧ EV dC dI cy U)) (vp_Si (fun r => r = nI (dlen G n sc))) 0 0 (fun _ => False) := by
  refine Met.ofW (cc := cX4_descentLength) (maxL := 3) (ret := some .int) (by decide) rfl ?_
  intro p e s m args below meth c s₁ B hml hv
  obtain ⟨rfl, hP, hE⟩ := hv
  have hK := hE.1
  have hx := B.exec
  have hb := B.bytes
  have hr := B.returns
  have hts := atoms_spec (ws := wsX4_descentLength) B.pre
  have hown : s.vm.findClass RX4 = some m.cls := findClass_of_methodNamed B.named
  have hlocks := B.notSynchronized
  have hin4 : ∀ w ∈ u_ws RX4 TX4 12, w ∈ wsX4_descentLength := by decide +kernel
  have f_12 := hts (.fieldLink RX4 12 "DeadlineAdmission" "current" "LDeadlineAdmission$Configuration;") (by decide +kernel)
  have hl := lv_entry ([.ref d0]) (n := 3) (Nat.le_of_ble_eq_true rfl)
  rw [lg_entry_eq]
  generalize (lg_sl ([.ref d0]) ++ List.replicate (3 - (lg_sl ([.ref d0])).length) Slot.unset).toArray = ls at hl ⊢
  have hl : lv_has ls 3 [(0, .ref d0)] := hl
  refine lv_iconst (v := 0) hx hb dX4_descentLength_0 (by decide) ?_
  refine lv_istore_n (lv' := [(1, .int 0), (0, .ref d0)]) hx hb dX4_descentLength_1 rfl hl (by decide) rfl (fun ls hl => ?_)
  refine lv_aload_n hx hb dX4_descentLength_2 rfl (lv_at hl 1 rfl) ?_
  refine va_get (D := (dC, dI)) (ci := 4) (v := .ref (o 0)) (C := RX4) (T := TX4) (N := 12) hx hb hts hin4 hown hK hP 0 rfl rfl 0 (by decide) f_12 (fun _ h9 => h9) rfl dX4_descentLength_3 ?_
  refine lv_sipush (v := 201) hx hb dX4_descentLength_6 (by decide) ?_
  refine vp_callSi (va_runV (As := [.int 201]) (rest := []) ⟨hx, hb, hml, hown, hts⟩ (c_X0_greatestTestPointBelow l dC dI cy (o 0) bc G n hn sc 201) (cwV 1 hts gX4_descentLength_X0_greatestTestPointBelow rfl rfl rfl (by decide +kernel) ⟨Nat.le_of_ble_eq_true rfl, Nat.le_of_ble_eq_true rfl⟩) ⟨bl_ro, va_recv hK (hP.sub (ws' := wCfg cy (o 0) bc G (nI n) sc) [1, 2, 3, 4, 5, 6, 7, 8] rfl) (ci := 0) (q0 := 0) rfl rfl, pr_ro (hP.sub (ws' := wCfg cy (o 0) bc G (nI n) sc) [1, 2, 3, 4, 5, 6, 7, 8] rfl) hE⟩ rfl rfl hl.1 rfl (lv_room (Nat.le_of_ble_eq_true rfl)) dX4_descentLength_9 ⟨Nat.le_of_ble_eq_true rfl, Nat.le_of_ble_eq_true rfl⟩).run (fun r e_r => ?_)
  subst e_r
  refine lv_istore_n (lv' := [(2, .int (gtp G sc 201 n)), (1, .int 0), (0, .ref d0)]) hx hb dX4_descentLength_12 rfl hl (by decide) rfl (fun ls hl => ?_)
  have loop13 : ∀ (k : Nat) (f : Nat) (ln : Nat) (pt : Int32) (ls : Array Slot), ln + f = 200 → f < k → ln + dcnt G n sc f pt = dlen G n sc → lv_has ls 3 [(0, .ref d0), (1, .int (nI ln)), (2, .int pt)] → W p l e (headSpec wsX4_descentLength ({ frames := 3, cells := 0, slots := 0, locals := 77 }) |>.room) s m (([.ref d0].toArray)) below meth c s.heap [] 0 0 (MQ below (vp_Si (fun r => r = nI (dlen G n sc))) ([.ref d0].toArray) s 0 0 (fun _ => False)) (F0 m 13 ls []) := by
    intro k
    induction k with
    | zero =>
      intro f ln pt ls hi hk ef
      exfalso; omega
    | succ k ih13 =>
      intro f ln pt ls hi hk ef hl
      refine lv_iload_n hx hb dX4_descentLength_13 rfl (lv_at hl 2 rfl) ?_
      refine lv_if_le (tgt := 36) hx hb dX4_descentLength_14 (by decide) (fun c_14 => ?_) (fun c_14 => ?_)
      · have e9 : dlen G n sc = ln := by rw [← ef]; cases f with | zero => rfl | succ f => rw [dcnt, if_pos c_14, Nat.add_zero]
        refine lv_iload_n hx hb dX4_descentLength_36 rfl (lv_at hl 1 rfl) ?_
        exact W.iret (v := nI ln) hx hb hr (fun t ht hW => ⟨_, rfl, (by rw [e9]), ht⟩) (fun q hq => absurd hq List.not_mem_nil) dX4_descentLength_37
      · refine lv_iload_n hx hb dX4_descentLength_17 rfl (lv_at hl 1 rfl) ?_
        refine lv_sipush (v := 200) hx hb dX4_descentLength_18 (by decide) ?_
        refine lv_icmp_ge (tgt := 36) hx hb dX4_descentLength_21 (by decide) (fun c_21 => ?_) (fun c_21 => ?_)
        · have e9 : dlen G n sc = ln := by rw [← ef, show f = 0 by have := (nI_leI (a := 200) (b := ln) (by omega) (by omega)).mp c_21; omega]; rfl
          refine lv_iload_n hx hb dX4_descentLength_36 rfl (lv_at hl 1 rfl) ?_
          exact W.iret (v := nI ln) hx hb hr (fun t ht hW => ⟨_, rfl, (by rw [e9]), ht⟩) (fun q hq => absurd hq List.not_mem_nil) dX4_descentLength_37
        · obtain ⟨f, rfl⟩ : ∃ z, f = z + 1 := ⟨f - 1, by have h : ¬ (200 ≤ ln) := fun h => c_21 ((nI_leI (a := 200) (b := ln) (by omega) (by omega)).mpr h); omega⟩
          refine lv_iinc (v := nI (ln + 1)) (lv' := [(1, .int (nI (ln + 1))), (0, .ref d0), (2, .int pt)]) hx hb dX4_descentLength_24 hl (k := 1) rfl (nI_1 _) (by decide) rfl (fun ls hl => ?_)
          refine lv_aload_n hx hb dX4_descentLength_27 rfl (lv_at hl 1 rfl) ?_
          refine lv_iload_n hx hb dX4_descentLength_28 rfl (lv_at hl 2 rfl) ?_
          refine vp_callSi (va_runV (As := [.int pt]) (rest := []) ⟨hx, hb, hml, hown, hts⟩ (c_X4_descentPointAfter l dC dI cy d0 o F bc G n hn sc pt) (cwV 1 hts gX4_descentLength_X4_descentPointAfter rfl rfl rfl (by decide +kernel) ⟨Nat.le_of_ble_eq_true rfl, Nat.le_of_ble_eq_true rfl⟩) ⟨bl_ro, va_recv hK hP (ci := 4) (q0 := 0) rfl rfl, pr_ro hP hE⟩ rfl rfl hl.1 rfl (lv_room (Nat.le_of_ble_eq_true rfl)) dX4_descentLength_29 ⟨Nat.le_of_ble_eq_true rfl, Nat.le_of_ble_eq_true rfl⟩).run (fun r e_r => ?_)
          subst e_r
          refine lv_istore_n (lv' := [(2, .int (dnext G n sc pt)), (1, .int (nI (ln + 1))), (0, .ref d0)]) hx hb dX4_descentLength_32 rfl hl (by decide) rfl (fun ls hl => ?_)
          refine lv_goto (tgt := 13) hx hb dX4_descentLength_33 (by decide) ?_
          exact ih13 f (ln + 1) _ ls (by omega) (by omega) (by rw [← ef, dcnt, if_neg c_14]; omega) (lv_sub hl [2, 1, 0] rfl)
  exact loop13 201 200 0 _ ls rfl (by omega) (by rw [Nat.zero_add]; rfl) (lv_sub hl [2, 1, 0] rfl)

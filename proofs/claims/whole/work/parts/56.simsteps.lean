/-! PART 56: the class, Simulation: its steps -/
set_option maxHeartbeats 1000000 in
set_option maxRecDepth 100000 in
/-- clear -/
theorem c_X2_clear (l : Launch) (dC : Nat → ClassId) (dI : Nat → Nat → Nat) (cy : Nat → ClassId) (sz : Nat) (s0 : Nat) (z : Nat → Nat) (M : Nat → Int32) (bq : Nat → Nat) (G : vG) (n : Nat) (hn : n ≤ 8) (sc : Int32) (Q : vG) (rt : Nat → Nat) (T : vG) : Met l yX2_clear wsX2_clear ({ frames := 0, cells := 0, slots := 0, locals := 0 }) (va_Pc [.ref s0] (pIn dC dI cy (wSim s0 z M ++ (wCfg cy (z 0) bq G (nI n) sc ++ (wArr cy z rt Q T))) sz)) (va_Qv (fun (u : SSt) => u = (clrM M, clrQ Q 8, T)) (fun (u : SSt) t => va_P (dC, dI) vwCl (wSim s0 z u.1 ++ (wCfg cy (z 0) bq G (nI n) sc ++ (wArr cy z rt u.2.1 u.2.2))) t.heap ∧ va_D (va_A (wSim s0 z M ++ (wCfg cy (z 0) bq G (nI n) sc ++ (wArr cy z rt Q T))) sz) (wSim s0 z u.1 ++ (wCfg cy (z 0) bq G (nI n) sc ++ (wArr cy z rt u.2.1 u.2.2)))) (va_A (wSim s0 z M ++ (wCfg cy (z 0) bq G (nI n) sc ++ (wArr cy z rt Q T))) sz)) 0 0 (va_A (wSim s0 z M ++ (wCfg cy (z 0) bq G (nI n) sc ++ (wArr cy z rt Q T))) sz) := by
  refine Met.ofW (cc := cX2_clear) (maxL := 2) (ret := none) (by decide) rfl ?_
  intro p e s m args below meth c s₁ B hml hv
  obtain ⟨rfl, hsz, hP, hE, hD0⟩ := hv
  have hK := hE.1
  subst hsz
  have hD := hD0.self (sz := s.heap.size)
  generalize hAe : va_A (wSim s0 z M ++ (wCfg cy (z 0) bq G (nI n) sc ++ (wArr cy z rt Q T))) s.heap.size = A at hD ⊢
  have hA : ∀ q : Nat, s.heap.size ≤ q → A q := fun q h => by rw [← hAe]; exact Or.inr h
  have hS : va_S A s.heap s.heap [] := va_S.rf
  have hP : va_P (dC, dI) vwCl (wSim s0 z M ++ (wCfg cy (z 0) bq G (nI n) sc ++ (wArr cy z rt Q T))) s.heap := hP
  have hx := B.exec
  have hb := B.bytes
  have hr := B.returns
  have hts := atoms_spec (ws := wsX2_clear) B.pre
  have hown : s.vm.findClass RX2 = some m.cls := findClass_of_methodNamed B.named
  have hlocks := B.notSynchronized
  have hin2 : ∀ w ∈ u_ws RX2 TX2 15, w ∈ wsX2_clear := by decide +kernel
  have f_18 := hts (.fieldLink RX2 18 "DeadlineAdmission$Simulation" "pendingJobs" "[I") (by decide +kernel)
  have f_33 := hts (.fieldLink RX2 33 "DeadlineAdmission$Simulation" "greatestResponse" "[I") (by decide +kernel)
  have f_63 := hts (.fieldLink RX2 63 "DeadlineAdmission$Simulation" "mode" "I") (by decide +kernel)
  have f_70 := hts (.fieldLink RX2 70 "DeadlineAdmission$Simulation" "unitsWithoutJob" "I") (by decide +kernel)
  have f_80 := hts (.fieldLink RX2 80 "DeadlineAdmission$Simulation" "lateJobs" "I") (by decide +kernel)
  have f_83 := hts (.fieldLink RX2 83 "DeadlineAdmission$Simulation" "completedJobs" "I") (by decide +kernel)
  have f_86 := hts (.fieldLink RX2 86 "DeadlineAdmission$Simulation" "droppedJobs" "I") (by decide +kernel)
  have f_89 := hts (.fieldLink RX2 89 "DeadlineAdmission$Simulation" "highSwitches" "I") (by decide +kernel)
  have hl := lv_entry ([.ref s0]) (n := 2) (Nat.le_of_ble_eq_true rfl)
  rw [lg_entry_eq]
  generalize (lg_sl ([.ref s0]) ++ List.replicate (2 - (lg_sl ([.ref s0])).length) Slot.unset).toArray = ls at hl ⊢
  have hl : lv_has ls 2 [(0, .ref s0)] := hl
  refine lv_iconst (v := 0) hx hb dX2_clear_0 (by decide) ?_
  refine lv_istore_n (lv' := [(1, .int 0), (0, .ref s0)]) hx hb dX2_clear_1 rfl hl (by decide) rfl (fun ls hl => ?_)
  have loop2 : ∀ (k : Nat) (i : Nat) (ls : Array Slot), i ≤ 8 → 8 < i + k → ∀ (H : Heap) (locs : List Loc), va_P (dC, dI) vwCl (wSim s0 z M ++ (wCfg cy (z 0) bq G (nI n) sc ++ (wArr cy z rt (clrQ Q i) T))) H → va_D A (wSim s0 z M ++ (wCfg cy (z 0) bq G (nI n) sc ++ (wArr cy z rt (clrQ Q i) T))) → va_S A s.heap H locs → lv_has ls 2 [(0, .ref s0), (1, .int (nI i))] → W p l e (headSpec wsX2_clear ({ frames := 0, cells := 0, slots := 0, locals := 0 }) |>.room) s m (([.ref s0].toArray)) below meth c H locs 0 0 (MQ below (va_Qv (fun (u : SSt) => u = (clrM M, clrQ Q 8, T)) (fun (u : SSt) t => va_P (dC, dI) vwCl (wSim s0 z u.1 ++ (wCfg cy (z 0) bq G (nI n) sc ++ (wArr cy z rt u.2.1 u.2.2))) t.heap ∧ va_D (A) (wSim s0 z u.1 ++ (wCfg cy (z 0) bq G (nI n) sc ++ (wArr cy z rt u.2.1 u.2.2)))) (A)) ([.ref s0].toArray) s 0 0 A) (F0 m 2 ls []) := by
    intro k
    induction k with
    | zero =>
      intro i ls hi hk
      exfalso; omega
    | succ k ih2 =>
      intro i ls hi hk H locs hP hD hS hl
      refine lv_iload_n hx hb dX2_clear_2 rfl (lv_at hl 1 rfl) ?_
      refine lv_bipush (v := 8) hx hb dX2_clear_3 (by decide) ?_
      refine lv_icmp_ge (tgt := 28) hx hb dX2_clear_5 (by decide) (fun c_5 => ?_) (fun c_5 => ?_)
      · have e_i : i = 8 := by have := (nI_leI (a := 8) (b := i) (by omega) (by omega)).mp c_5; omega
        refine lv_aload_n hx hb dX2_clear_28 rfl (lv_at hl 0 rfl) ?_
        refine lv_iconst (v := 0) hx hb dX2_clear_29 (by decide) ?_
        refine va_put (D := (dC, dI)) (ci := 2) (v := .int 0) (ty := .int) (C := RX2) (T := TX2) (N := 15) hx hb hts hin2 tyX2 tyX2_ok nmX2 hown hK hP hD hS 0 rfl rfl 6 (by decide) f_63 (fun _ h9 => h9) rfl (by decide +kernel) rfl rfl (Nat.le_of_ble_eq_true rfl) dX2_clear_30 (fun H locs hP hD hS => ?_)
        have hP : va_P (dC, dI) vwCl (wSim s0 z (upd M 6 0) ++ (wCfg cy (z 0) bq G (nI n) sc ++ (wArr cy z rt (clrQ Q i) T))) H := hP
        have hD : va_D A (wSim s0 z (upd M 6 0) ++ (wCfg cy (z 0) bq G (nI n) sc ++ (wArr cy z rt (clrQ Q i) T))) := hD
        refine lv_aload_n hx hb dX2_clear_33 rfl (lv_at hl 0 rfl) ?_
        refine lv_iconst (v := 0) hx hb dX2_clear_34 (by decide) ?_
        refine va_put (D := (dC, dI)) (ci := 2) (v := .int 0) (ty := .int) (C := RX2) (T := TX2) (N := 15) hx hb hts hin2 tyX2 tyX2_ok nmX2 hown hK hP hD hS 0 rfl rfl 10 (by decide) f_80 (fun _ h9 => h9) rfl (by decide +kernel) rfl rfl (Nat.le_of_ble_eq_true rfl) dX2_clear_35 (fun H locs hP hD hS => ?_)
        have hP : va_P (dC, dI) vwCl (wSim s0 z (upd (upd M 6 0) 10 0) ++ (wCfg cy (z 0) bq G (nI n) sc ++ (wArr cy z rt (clrQ Q i) T))) H := hP
        have hD : va_D A (wSim s0 z (upd (upd M 6 0) 10 0) ++ (wCfg cy (z 0) bq G (nI n) sc ++ (wArr cy z rt (clrQ Q i) T))) := hD
        refine lv_aload_n hx hb dX2_clear_38 rfl (lv_at hl 0 rfl) ?_
        refine lv_iconst (v := 0) hx hb dX2_clear_39 (by decide) ?_
        refine va_put (D := (dC, dI)) (ci := 2) (v := .int 0) (ty := .int) (C := RX2) (T := TX2) (N := 15) hx hb hts hin2 tyX2 tyX2_ok nmX2 hown hK hP hD hS 0 rfl rfl 11 (by decide) f_83 (fun _ h9 => h9) rfl (by decide +kernel) rfl rfl (Nat.le_of_ble_eq_true rfl) dX2_clear_40 (fun H locs hP hD hS => ?_)
        have hP : va_P (dC, dI) vwCl (wSim s0 z (upd (upd (upd M 6 0) 10 0) 11 0) ++ (wCfg cy (z 0) bq G (nI n) sc ++ (wArr cy z rt (clrQ Q i) T))) H := hP
        have hD : va_D A (wSim s0 z (upd (upd (upd M 6 0) 10 0) 11 0) ++ (wCfg cy (z 0) bq G (nI n) sc ++ (wArr cy z rt (clrQ Q i) T))) := hD
        refine lv_aload_n hx hb dX2_clear_43 rfl (lv_at hl 0 rfl) ?_
        refine lv_iconst (v := 0) hx hb dX2_clear_44 (by decide) ?_
        refine va_put (D := (dC, dI)) (ci := 2) (v := .int 0) (ty := .int) (C := RX2) (T := TX2) (N := 15) hx hb hts hin2 tyX2 tyX2_ok nmX2 hown hK hP hD hS 0 rfl rfl 12 (by decide) f_86 (fun _ h9 => h9) rfl (by decide +kernel) rfl rfl (Nat.le_of_ble_eq_true rfl) dX2_clear_45 (fun H locs hP hD hS => ?_)
        have hP : va_P (dC, dI) vwCl (wSim s0 z (upd (upd (upd (upd M 6 0) 10 0) 11 0) 12 0) ++ (wCfg cy (z 0) bq G (nI n) sc ++ (wArr cy z rt (clrQ Q i) T))) H := hP
        have hD : va_D A (wSim s0 z (upd (upd (upd (upd M 6 0) 10 0) 11 0) 12 0) ++ (wCfg cy (z 0) bq G (nI n) sc ++ (wArr cy z rt (clrQ Q i) T))) := hD
        refine lv_aload_n hx hb dX2_clear_48 rfl (lv_at hl 0 rfl) ?_
        refine lv_iconst (v := 0) hx hb dX2_clear_49 (by decide) ?_
        refine va_put (D := (dC, dI)) (ci := 2) (v := .int 0) (ty := .int) (C := RX2) (T := TX2) (N := 15) hx hb hts hin2 tyX2 tyX2_ok nmX2 hown hK hP hD hS 0 rfl rfl 13 (by decide) f_89 (fun _ h9 => h9) rfl (by decide +kernel) rfl rfl (Nat.le_of_ble_eq_true rfl) dX2_clear_50 (fun H locs hP hD hS => ?_)
        have hP : va_P (dC, dI) vwCl (wSim s0 z (upd (upd (upd (upd (upd M 6 0) 10 0) 11 0) 12 0) 13 0) ++ (wCfg cy (z 0) bq G (nI n) sc ++ (wArr cy z rt (clrQ Q i) T))) H := hP
        have hD : va_D A (wSim s0 z (upd (upd (upd (upd (upd M 6 0) 10 0) 11 0) 12 0) 13 0) ++ (wCfg cy (z 0) bq G (nI n) sc ++ (wArr cy z rt (clrQ Q i) T))) := hD
        refine lv_aload_n hx hb dX2_clear_53 rfl (lv_at hl 0 rfl) ?_
        refine lv_iconst (v := 0) hx hb dX2_clear_54 (by decide) ?_
        refine va_put (D := (dC, dI)) (ci := 2) (v := .int 0) (ty := .int) (C := RX2) (T := TX2) (N := 15) hx hb hts hin2 tyX2 tyX2_ok nmX2 hown hK hP hD hS 0 rfl rfl 14 (by decide) f_70 (fun _ h9 => h9) rfl (by decide +kernel) rfl rfl (Nat.le_of_ble_eq_true rfl) dX2_clear_55 (fun H locs hP hD hS => ?_)
        have hP : va_P (dC, dI) vwCl (wSim s0 z (upd (upd (upd (upd (upd (upd M 6 0) 10 0) 11 0) 12 0) 13 0) 14 0) ++ (wCfg cy (z 0) bq G (nI n) sc ++ (wArr cy z rt (clrQ Q i) T))) H := hP
        have hD : va_D A (wSim s0 z (upd (upd (upd (upd (upd (upd M 6 0) 10 0) 11 0) 12 0) 13 0) 14 0) ++ (wCfg cy (z 0) bq G (nI n) sc ++ (wArr cy z rt (clrQ Q i) T))) := hD
        have hP9 : va_P (dC, dI) vwCl (wSim s0 z (upd (upd (upd (upd (upd (upd M 6 0) 10 0) 11 0) 12 0) 13 0) 14 0) ++ (wCfg cy (z 0) bq G (nI n) sc ++ (wArr cy z rt (clrQ Q i) T))) H := hP
        have hD9 : va_D A (wSim s0 z (upd (upd (upd (upd (upd (upd M 6 0) 10 0) 11 0) 12 0) 13 0) 14 0) ++ (wCfg cy (z 0) bq G (nI n) sc ++ (wArr cy z rt (clrQ Q i) T))) := hD
        exact W.vret hx hb hr (fun t ht hW => ⟨⟨(upd (upd (upd (upd (upd (upd M 6 0) 10 0) 11 0) 12 0) 13 0) 14 0, clrQ Q i, T), rfl, (by rw [e_i]; rfl), by rw [ht]; exact hP9, hD9⟩, hS.F ht⟩) hS.2.2 dX2_clear_58
      · have hlt : i < 8 := Nat.lt_of_not_le (fun h => c_5 (nI_le (a := 8) h (by omega)))
        refine lv_aload_n hx hb dX2_clear_8 rfl (lv_at hl 0 rfl) ?_
        refine va_get (D := (dC, dI)) (ci := 2) (v := .ref (z 1)) (C := RX2) (T := TX2) (N := 15) hx hb hts hin2 hown hK hP 0 rfl rfl 1 (by decide) f_18 (fun _ h9 => h9) rfl dX2_clear_9 ?_
        refine lv_iload_n hx hb dX2_clear_12 rfl (lv_at hl 1 rfl) ?_
        refine lv_iconst (v := 0) hx hb dX2_clear_13 (by decide) ?_
        refine wI_ast hx hb hK hP hD hS 9 0 rfl rfl i rfl (by omega) (by decide) dX2_clear_14 (fun H locs hP hD hS => ?_)
        have hP : va_P (dC, dI) vwCl (wSim s0 z M ++ (wCfg cy (z 0) bq G (nI n) sc ++ (wArr cy z rt (up2 (clrQ Q i) 1 i 0) T))) H := hP
        have hD : va_D A (wSim s0 z M ++ (wCfg cy (z 0) bq G (nI n) sc ++ (wArr cy z rt (up2 (clrQ Q i) 1 i 0) T))) := hD
        refine lv_aload_n hx hb dX2_clear_15 rfl (lv_at hl 0 rfl) ?_
        refine va_get (D := (dC, dI)) (ci := 2) (v := .ref (z 5)) (C := RX2) (T := TX2) (N := 15) hx hb hts hin2 hown hK hP 0 rfl rfl 5 (by decide) f_33 (fun _ h9 => h9) rfl dX2_clear_16 ?_
        refine lv_iload_n hx hb dX2_clear_19 rfl (lv_at hl 1 rfl) ?_
        refine lv_iconst (v := 0) hx hb dX2_clear_20 (by decide) ?_
        refine wI_ast hx hb hK hP hD hS 13 0 rfl rfl i rfl (by omega) (by decide) dX2_clear_21 (fun H locs hP hD hS => ?_)
        have hP : va_P (dC, dI) vwCl (wSim s0 z M ++ (wCfg cy (z 0) bq G (nI n) sc ++ (wArr cy z rt (up2 (up2 (clrQ Q i) 1 i 0) 5 i 0) T))) H := hP
        have hD : va_D A (wSim s0 z M ++ (wCfg cy (z 0) bq G (nI n) sc ++ (wArr cy z rt (up2 (up2 (clrQ Q i) 1 i 0) 5 i 0) T))) := hD
        refine lv_iinc (v := nI (i + 1)) (lv' := [(1, .int (nI (i + 1))), (0, .ref s0)]) hx hb dX2_clear_22 hl (k := 1) rfl (nI_1 _) (by decide) rfl (fun ls hl => ?_)
        refine lv_goto (tgt := 2) hx hb dX2_clear_25 (by decide) ?_
        exact ih2 (i + 1) ls (by omega) (by omega) _ _ (by rw [← clrQ_s]; exact hP) (by rw [← clrQ_s]; exact hD) hS (lv_sub hl [1, 0] rfl)
  exact loop2 9 0 ls (Nat.zero_le _) (by omega) _ _ (by rw [clrQ_0]; exact hP) (by rw [clrQ_0]; exact hD) hS (lv_sub hl [1, 0] rfl)
set_option maxHeartbeats 1000000 in
set_option maxRecDepth 100000 in
/-- the deadline of the oldest job -/
theorem c_X2_effectiveDeadline (l : Launch) (dC : Nat → ClassId) (dI : Nat → Nat → Nat) (cy : Nat → ClassId) (s0 : Nat) (z : Nat → Nat) (M : Nat → Int32) (bq : Nat → Nat) (G : vG) (n : Nat) (hn : n ≤ 8) (sc : Int32) (Q : vG) (rt : Nat → Nat) (T : vG) (i : Nat) (hi8 : i < 8) : Met l yX2_effectiveDeadline wsX2_effectiveDeadline ({ frames := 1, cells := 0, slots := 0, locals := 23 }) (va_Pc [.ref s0, .int (nI i)] (fun U => va_P (dC, dI) vwCl (wSim s0 z M ++ (wCfg cy (z 0) bq G (nI n) sc ++ (wArr cy z rt Q T))) U.heap ∧ EV dC dI cy U)) (vp_Si (fun r => r = eff G sc M Q i)) 0 0 (fun _ => False) := by
  refine Met.ofW (cc := cX2_effectiveDeadline) (maxL := 3) (ret := some .int) (by decide) rfl ?_
  intro p e s m args below meth c s₁ B hml hv
  obtain ⟨rfl, hP, hE⟩ := hv
  have hK := hE.1
  have hx := B.exec
  have hb := B.bytes
  have hr := B.returns
  have hts := atoms_spec (ws := wsX2_effectiveDeadline) B.pre
  have hown : s.vm.findClass RX2 = some m.cls := findClass_of_methodNamed B.named
  have hlocks := B.notSynchronized
  have hin0 : ∀ w ∈ u_ws RX0 TX0 9, w ∈ wsX2_effectiveDeadline := by decide +kernel
  have hin2 : ∀ w ∈ u_ws RX2 TX2 15, w ∈ wsX2_effectiveDeadline := by decide +kernel
  have f_12 := hts (.fieldLink RX2 12 "DeadlineAdmission$Simulation" "tasks" "LDeadlineAdmission$Configuration;") (by decide +kernel)
  have f_120 := va_Nw.use (A := ([.ref s0, .int (nI i)].toArray)) rfl (hE.f 11 rfl)
  have f_126 := va_Nw.use (A := ([.ref s0, .int (nI i)].toArray)) rfl (hE.f 0 rfl)
  have f_22 := hts (.fieldLink RX2 22 "DeadlineAdmission$Simulation" "oldestRelease" "[I") (by decide +kernel)
  have f_63 := hts (.fieldLink RX2 63 "DeadlineAdmission$Simulation" "mode" "I") (by decide +kernel)
  have hl := lv_entry ([.ref s0, .int (nI i)]) (n := 3) (Nat.le_of_ble_eq_true rfl)
  rw [lg_entry_eq]
  generalize (lg_sl ([.ref s0, .int (nI i)]) ++ List.replicate (3 - (lg_sl ([.ref s0, .int (nI i)])).length) Slot.unset).toArray = ls at hl ⊢
  have hl : lv_has ls 3 [(0, .ref s0), (1, .int (nI i))] := hl
  refine lv_aload_n hx hb dX2_effectiveDeadline_0 rfl (lv_at hl 0 rfl) ?_
  refine va_get (D := (dC, dI)) (ci := 2) (v := .int (M 6)) (C := RX2) (T := TX2) (N := 15) hx hb hts hin2 hown hK hP 0 rfl rfl 6 (by decide) f_63 (fun _ h9 => h9) rfl dX2_effectiveDeadline_1 ?_
  refine lv_if_ne (tgt := 25) hx hb dX2_effectiveDeadline_4 (by decide) (fun c_4 => ?_) (fun c_4 => ?_)
  · refine lv_aload_n hx hb dX2_effectiveDeadline_25 rfl (lv_at hl 0 rfl) ?_
    refine va_get (D := (dC, dI)) (ci := 2) (v := .ref (z 0)) (C := RX2) (T := TX2) (N := 15) hx hb hts hin2 hown hK hP 0 rfl rfl 0 (by decide) f_12 (fun _ h9 => h9) rfl dX2_effectiveDeadline_26 ?_
    refine va_getN (D := (dC, dI)) (ci := 0) (v := .ref (bq 1)) (C := RX0) (T := TX0) (N := 9) hx hb hts hin0 hown hK hP 1 rfl rfl 1 (by decide) f_126 (fun _ h9 => h9) rfl dX2_effectiveDeadline_29 ?_
    refine lv_iload_n hx hb dX2_effectiveDeadline_32 rfl (lv_at hl 1 rfl) ?_
    refine wI_alv (v := G 1 i) hx hb hK hP 3 0 rfl rfl i rfl (by omega) (by decide) rfl dX2_effectiveDeadline_33 ?_
    refine lv_istore_n (lv' := [(2, .int (G 1 i)), (0, .ref s0), (1, .int (nI i))]) hx hb dX2_effectiveDeadline_34 rfl hl (by decide) rfl (fun ls hl => ?_)
    refine lv_aload_n hx hb dX2_effectiveDeadline_35 rfl (lv_at hl 1 rfl) ?_
    refine va_get (D := (dC, dI)) (ci := 2) (v := .ref (z 2)) (C := RX2) (T := TX2) (N := 15) hx hb hts hin2 hown hK hP 0 rfl rfl 2 (by decide) f_22 (fun _ h9 => h9) rfl dX2_effectiveDeadline_36 ?_
    refine lv_iload_n hx hb dX2_effectiveDeadline_39 rfl (lv_at hl 2 rfl) ?_
    refine wI_alv (v := Q 2 i) hx hb hK hP 10 0 rfl rfl i rfl (by omega) (by decide) rfl dX2_effectiveDeadline_40 ?_
    refine lv_iload_n hx hb dX2_effectiveDeadline_41 rfl (lv_at hl 0 rfl) ?_
    refine lv_iadd hx hb dX2_effectiveDeadline_42 ?_
    exact W.iret (v := (Q 2 i) + (G 1 i)) hx hb hr (fun t ht hW => ⟨_, rfl, (by simp only [eff, c_4, ↓reduceIte]), ht⟩) (fun q hq => absurd hq List.not_mem_nil) dX2_effectiveDeadline_43
  · refine lv_aload_n hx hb dX2_effectiveDeadline_7 rfl (lv_at hl 0 rfl) ?_
    refine va_get (D := (dC, dI)) (ci := 2) (v := .ref (z 0)) (C := RX2) (T := TX2) (N := 15) hx hb hts hin2 hown hK hP 0 rfl rfl 0 (by decide) f_12 (fun _ h9 => h9) rfl dX2_effectiveDeadline_8 ?_
    refine lv_iload_n hx hb dX2_effectiveDeadline_11 rfl (lv_at hl 1 rfl) ?_
    refine lv_aload_n hx hb dX2_effectiveDeadline_12 rfl (lv_at hl 0 rfl) ?_
    refine va_get (D := (dC, dI)) (ci := 2) (v := .ref (z 0)) (C := RX2) (T := TX2) (N := 15) hx hb hts hin2 hown hK hP 0 rfl rfl 0 (by decide) f_12 (fun _ h9 => h9) rfl dX2_effectiveDeadline_13 ?_
    refine va_getN (D := (dC, dI)) (ci := 0) (v := .int sc) (C := RX0) (T := TX0) (N := 9) hx hb hts hin0 hown hK hP 1 rfl rfl 8 (by decide) f_120 (fun _ h9 => h9) rfl dX2_effectiveDeadline_16 ?_
    refine vp_callSi (va_runV (As := [.int (nI i), .int sc]) (rest := []) ⟨hx, hb, hml, hown, hts⟩ (c_X0_deadlineWithScale l dC dI cy (z 0) bq G (nI n) sc sc i (by omega)) (cwV 2 hts gX2_effectiveDeadline_X0_deadlineWithScale rfl rfl rfl (by decide +kernel) ⟨Nat.le_of_ble_eq_true rfl, Nat.le_of_ble_eq_true rfl⟩) ⟨bl_ro, va_recv hK (hP.sub (ws' := wCfg cy (z 0) bq G (nI n) sc) [1, 2, 3, 4, 5, 6, 7, 8] rfl) (ci := 0) (q0 := 0) rfl rfl, pr_ro (hP.sub (ws' := wCfg cy (z 0) bq G (nI n) sc) [1, 2, 3, 4, 5, 6, 7, 8] rfl) hE⟩ rfl rfl hl.1 rfl (lv_room (Nat.le_of_ble_eq_true rfl)) dX2_effectiveDeadline_19 ⟨Nat.le_of_ble_eq_true rfl, Nat.le_of_ble_eq_true rfl⟩).run (fun r e_r => ?_)
    subst e_r
    refine lv_goto (tgt := 34) hx hb dX2_effectiveDeadline_22 (by decide) ?_
    refine lv_istore_n (lv' := [(2, .int (vdl G sc i)), (0, .ref s0), (1, .int (nI i))]) hx hb dX2_effectiveDeadline_34 rfl hl (by decide) rfl (fun ls hl => ?_)
    refine lv_aload_n hx hb dX2_effectiveDeadline_35 rfl (lv_at hl 1 rfl) ?_
    refine va_get (D := (dC, dI)) (ci := 2) (v := .ref (z 2)) (C := RX2) (T := TX2) (N := 15) hx hb hts hin2 hown hK hP 0 rfl rfl 2 (by decide) f_22 (fun _ h9 => h9) rfl dX2_effectiveDeadline_36 ?_
    refine lv_iload_n hx hb dX2_effectiveDeadline_39 rfl (lv_at hl 2 rfl) ?_
    refine wI_alv (v := Q 2 i) hx hb hK hP 10 0 rfl rfl i rfl (by omega) (by decide) rfl dX2_effectiveDeadline_40 ?_
    refine lv_iload_n hx hb dX2_effectiveDeadline_41 rfl (lv_at hl 0 rfl) ?_
    refine lv_iadd hx hb dX2_effectiveDeadline_42 ?_
    exact W.iret (v := (Q 2 i) + (vdl G sc i)) hx hb hr (fun t ht hW => ⟨_, rfl, (by simp only [eff, c_4, ↓reduceIte]), ht⟩) (fun q hq => absurd hq List.not_mem_nil) dX2_effectiveDeadline_43
set_option maxHeartbeats 1000000 in
set_option maxRecDepth 100000 in
/-- the task whose job comes first -/
theorem c_X2_earliestTask (l : Launch) (dC : Nat → ClassId) (dI : Nat → Nat → Nat) (cy : Nat → ClassId) (s0 : Nat) (z : Nat → Nat) (M : Nat → Int32) (bq : Nat → Nat) (G : vG) (n : Nat) (hn : n ≤ 8) (sc : Int32) (Q : vG) (rt : Nat → Nat) (T : vG) : Met l yX2_earliestTask wsX2_earliestTask ({ frames := 2, cells := 0, slots := 0, locals := 45 }) (va_Pc [.ref s0] (fun U => va_P (dC, dI) vwCl (wSim s0 z M ++ (wCfg cy (z 0) bq G (nI n) sc ++ (wArr cy z rt Q T))) U.heap ∧ EV dC dI cy U)) (vp_Si (fun r => r = (ect G sc M Q n).1)) 0 0 (fun _ => False) := by
  refine Met.ofW (cc := cX2_earliestTask) (maxL := 5) (ret := some .int) (by decide) rfl ?_
  intro p e s m args below meth c s₁ B hml hv
  obtain ⟨rfl, hP, hE⟩ := hv
  have hK := hE.1
  have hx := B.exec
  have hb := B.bytes
  have hr := B.returns
  have hts := atoms_spec (ws := wsX2_earliestTask) B.pre
  have hown : s.vm.findClass RX2 = some m.cls := findClass_of_methodNamed B.named
  have hlocks := B.notSynchronized
  have hin0 : ∀ w ∈ u_ws RX0 TX0 9, w ∈ wsX2_earliestTask := by decide +kernel
  have hin2 : ∀ w ∈ u_ws RX2 TX2 15, w ∈ wsX2_earliestTask := by decide +kernel
  have f_12 := hts (.fieldLink RX2 12 "DeadlineAdmission$Simulation" "tasks" "LDeadlineAdmission$Configuration;") (by decide +kernel)
  have f_18 := hts (.fieldLink RX2 18 "DeadlineAdmission$Simulation" "pendingJobs" "[I") (by decide +kernel)
  have f_92 := va_Nw.use (A := ([.ref s0].toArray)) rfl (hE.f 10 rfl)
  have hl := lv_entry ([.ref s0]) (n := 5) (Nat.le_of_ble_eq_true rfl)
  rw [lg_entry_eq]
  generalize (lg_sl ([.ref s0]) ++ List.replicate (5 - (lg_sl ([.ref s0])).length) Slot.unset).toArray = ls at hl ⊢
  have hl : lv_has ls 5 [(0, .ref s0)] := hl
  refine lv_iconst (v := (-1)) hx hb dX2_earliestTask_0 (by decide) ?_
  refine lv_istore_n (lv' := [(1, .int (-1)), (0, .ref s0)]) hx hb dX2_earliestTask_1 rfl hl (by decide) rfl (fun ls hl => ?_)
  refine lv_iconst (v := 0) hx hb dX2_earliestTask_2 (by decide) ?_
  refine lv_istore_n (lv' := [(2, .int 0), (1, .int (-1)), (0, .ref s0)]) hx hb dX2_earliestTask_3 rfl hl (by decide) rfl (fun ls hl => ?_)
  refine lv_iconst (v := 0) hx hb dX2_earliestTask_4 (by decide) ?_
  refine lv_istore_n (lv' := [(3, .int 0), (2, .int 0), (1, .int (-1)), (0, .ref s0)]) hx hb dX2_earliestTask_5 rfl hl (by decide) rfl (fun ls hl => ?_)
  have loop6 : ∀ (k : Nat) (i : Nat) (ch : Int32) (ea : Int32) (ls : Array Slot), i ≤ n → n < i + k → (ch, ea) = ect G sc M Q i → lv_has ls 5 [(0, .ref s0), (1, .int ch), (2, .int ea), (3, .int (nI i))] → W p l e (headSpec wsX2_earliestTask ({ frames := 2, cells := 0, slots := 0, locals := 45 }) |>.room) s m (([.ref s0].toArray)) below meth c s.heap [] 0 0 (MQ below (vp_Si (fun r => r = (ect G sc M Q n).1)) ([.ref s0].toArray) s 0 0 (fun _ => False)) (F0 m 6 ls []) := by
    intro k
    induction k with
    | zero =>
      intro i ch ea ls hi hk ee
      exfalso; omega
    | succ k ih6 =>
      intro i ch ea ls hi hk ee hl
      refine lv_iload_n hx hb dX2_earliestTask_6 rfl (lv_at hl 3 rfl) ?_
      refine lv_aload_n hx hb dX2_earliestTask_7 rfl (lv_at hl 0 rfl) ?_
      refine va_get (D := (dC, dI)) (ci := 2) (v := .ref (z 0)) (C := RX2) (T := TX2) (N := 15) hx hb hts hin2 hown hK hP 0 rfl rfl 0 (by decide) f_12 (fun _ h9 => h9) rfl dX2_earliestTask_8 ?_
      refine va_getN (D := (dC, dI)) (ci := 0) (v := .int (nI n)) (C := RX0) (T := TX0) (N := 9) hx hb hts hin0 hown hK hP 1 rfl rfl 7 (by decide) f_92 (fun _ h9 => h9) rfl dX2_earliestTask_11 ?_
      refine lv_icmp_ge (tgt := 54) hx hb dX2_earliestTask_14 (by decide) (fun c_14 => ?_) (fun c_14 => ?_)
      · have e_i : i = n := Nat.le_antisymm hi ((nI_leI (by omega) (by omega)).mp c_14)
        refine lv_iload_n hx hb dX2_earliestTask_54 rfl (lv_at hl 1 rfl) ?_
        exact W.iret (v := ch) hx hb hr (fun t ht hW => ⟨_, rfl, (by rw [← e_i, ← ee]), ht⟩) (fun q hq => absurd hq List.not_mem_nil) dX2_earliestTask_55
      · have hlt : i < n := Nat.lt_of_not_le (fun h => c_14 (nI_le h (by omega)))
        refine lv_aload_n hx hb dX2_earliestTask_17 rfl (lv_at hl 0 rfl) ?_
        refine va_get (D := (dC, dI)) (ci := 2) (v := .ref (z 1)) (C := RX2) (T := TX2) (N := 15) hx hb hts hin2 hown hK hP 0 rfl rfl 1 (by decide) f_18 (fun _ h9 => h9) rfl dX2_earliestTask_18 ?_
        refine lv_iload_n hx hb dX2_earliestTask_21 rfl (lv_at hl 3 rfl) ?_
        refine wI_alv (v := Q 1 i) hx hb hK hP 9 0 rfl rfl i rfl (by omega) (by decide) rfl dX2_earliestTask_22 ?_
        refine lv_if_le (tgt := 48) hx hb dX2_earliestTask_23 (by decide) (fun c_23 => ?_) (fun c_23 => ?_)
        · refine lv_iinc (v := nI (i + 1)) (lv' := [(3, .int (nI (i + 1))), (0, .ref s0), (1, .int ch), (2, .int ea)]) hx hb dX2_earliestTask_48 hl (k := 3) rfl (nI_1 _) (by decide) rfl (fun ls hl => ?_)
          refine lv_goto (tgt := 6) hx hb dX2_earliestTask_51 (by decide) ?_
          exact ih6 (i + 1) _ _ ls (by omega) (by omega) (by rw [ect, if_pos c_23]; exact ee) (lv_sub hl [1, 2, 3, 0] rfl)
        · refine lv_aload_n hx hb dX2_earliestTask_26 rfl (lv_at hl 0 rfl) ?_
          refine lv_iload_n hx hb dX2_earliestTask_27 rfl (lv_at hl 3 rfl) ?_
          refine vp_callSi (va_runV (As := [.int (nI i)]) (rest := []) ⟨hx, hb, hml, hown, hts⟩ (c_X2_effectiveDeadline l dC dI cy s0 z M bq G n hn sc Q rt T i (by omega)) (cwV 1 hts gX2_earliestTask_X2_effectiveDeadline rfl rfl rfl (by decide +kernel) ⟨Nat.le_of_ble_eq_true rfl, Nat.le_of_ble_eq_true rfl⟩) ⟨bl_ro, va_recv hK hP (ci := 2) (q0 := 0) rfl rfl, pr_ro hP hE⟩ rfl rfl hl.1 rfl (lv_room (Nat.le_of_ble_eq_true rfl)) dX2_earliestTask_28 ⟨Nat.le_of_ble_eq_true rfl, Nat.le_of_ble_eq_true rfl⟩).run (fun r e_r => ?_)
          subst e_r
          refine lv_istore (lv' := [(4, .int (eff G sc M Q i)), (0, .ref s0), (1, .int ch), (2, .int ea), (3, .int (nI i))]) hx hb dX2_earliestTask_31 hl (by decide) rfl (fun ls hl => ?_)
          refine lv_iload_n hx hb dX2_earliestTask_33 rfl (lv_at hl 2 rfl) ?_
          refine lv_if_lt (tgt := 43) hx hb dX2_earliestTask_34 (by decide) (fun c_34 => ?_) (fun c_34 => ?_)
          · refine lv_iload_n hx hb dX2_earliestTask_43 rfl (lv_at hl 4 rfl) ?_
            refine lv_istore_n (lv' := [(1, .int (nI i)), (4, .int (eff G sc M Q i)), (0, .ref s0), (2, .int ea), (3, .int (nI i))]) hx hb dX2_earliestTask_44 rfl hl (by decide) rfl (fun ls hl => ?_)
            refine lv_iload hx hb dX2_earliestTask_45 (lv_at hl 1 rfl) ?_
            refine lv_istore_n (lv' := [(2, .int (eff G sc M Q i)), (1, .int (nI i)), (4, .int (eff G sc M Q i)), (0, .ref s0), (3, .int (nI i))]) hx hb dX2_earliestTask_47 rfl hl (by decide) rfl (fun ls hl => ?_)
            refine lv_iinc (v := nI (i + 1)) (lv' := [(3, .int (nI (i + 1))), (2, .int (eff G sc M Q i)), (1, .int (nI i)), (4, .int (eff G sc M Q i)), (0, .ref s0)]) hx hb dX2_earliestTask_48 hl (k := 4) rfl (nI_1 _) (by decide) rfl (fun ls hl => ?_)
            refine lv_goto (tgt := 6) hx hb dX2_earliestTask_51 (by decide) ?_
            exact ih6 (i + 1) _ _ ls (by omega) (by omega) (by rw [ect, if_neg c_23, if_pos (by rw [← ee]; exact c_34)]) (lv_sub hl [4, 2, 1, 0] rfl)
          · refine lv_iload hx hb dX2_earliestTask_37 (lv_at hl 0 rfl) ?_
            refine lv_iload_n hx hb dX2_earliestTask_39 rfl (lv_at hl 3 rfl) ?_
            refine lv_icmp_ge (tgt := 48) hx hb dX2_earliestTask_40 (by decide) (fun c_40 => ?_) (fun c_40 => ?_)
            · refine lv_iinc (v := nI (i + 1)) (lv' := [(3, .int (nI (i + 1))), (4, .int (eff G sc M Q i)), (0, .ref s0), (1, .int ch), (2, .int ea)]) hx hb dX2_earliestTask_48 hl (k := 4) rfl (nI_1 _) (by decide) rfl (fun ls hl => ?_)
              refine lv_goto (tgt := 6) hx hb dX2_earliestTask_51 (by decide) ?_
              exact ih6 (i + 1) _ _ ls (by omega) (by omega) (by rw [ect, if_neg c_23, if_neg (by rw [← ee]; exact c_34), if_pos (by rw [← ee]; exact c_40)]; exact ee) (lv_sub hl [2, 3, 4, 0] rfl)
            · refine lv_iload_n hx hb dX2_earliestTask_43 rfl (lv_at hl 4 rfl) ?_
              refine lv_istore_n (lv' := [(1, .int (nI i)), (4, .int (eff G sc M Q i)), (0, .ref s0), (2, .int ea), (3, .int (nI i))]) hx hb dX2_earliestTask_44 rfl hl (by decide) rfl (fun ls hl => ?_)
              refine lv_iload hx hb dX2_earliestTask_45 (lv_at hl 1 rfl) ?_
              refine lv_istore_n (lv' := [(2, .int (eff G sc M Q i)), (1, .int (nI i)), (4, .int (eff G sc M Q i)), (0, .ref s0), (3, .int (nI i))]) hx hb dX2_earliestTask_47 rfl hl (by decide) rfl (fun ls hl => ?_)
              refine lv_iinc (v := nI (i + 1)) (lv' := [(3, .int (nI (i + 1))), (2, .int (eff G sc M Q i)), (1, .int (nI i)), (4, .int (eff G sc M Q i)), (0, .ref s0)]) hx hb dX2_earliestTask_48 hl (k := 4) rfl (nI_1 _) (by decide) rfl (fun ls hl => ?_)
              refine lv_goto (tgt := 6) hx hb dX2_earliestTask_51 (by decide) ?_
              exact ih6 (i + 1) _ _ ls (by omega) (by omega) (by rw [ect, if_neg c_23, if_neg (by rw [← ee]; exact c_34), if_neg (by rw [← ee]; exact c_40)]) (lv_sub hl [4, 2, 1, 0] rfl)
  exact loop6 (n + 1) 0 (-1) 0 ls (Nat.zero_le _) (by omega) rfl (lv_sub hl [3, 2, 1, 0] rfl)
set_option maxHeartbeats 1000000 in
set_option maxRecDepth 100000 in
/-- a draw -/
theorem c_X2_drawOverrun (l : Launch) (dC : Nat → ClassId) (dI : Nat → Nat → Nat) (cy : Nat → ClassId) (sz : Nat) (s0 : Nat) (z : Nat → Nat) (M : Nat → Int32) : Met l yX2_drawOverrun wsX2_drawOverrun ({ frames := 0, cells := 0, slots := 0, locals := 0 }) (va_Pc [.ref s0] (pIn dC dI cy (wSim s0 z M) sz)) (va_Qi (fun (r : Int32) (u : Nat → Int32) => r = (if ovr (drw (M 7)) (M 8) then 1 else 0) ∧ u = upd M 7 (drw (M 7))) (fun (u : Nat → Int32) t => va_P (dC, dI) vwCl (wSim s0 z u) t.heap ∧ va_D (va_A (wSim s0 z M) sz) (wSim s0 z u)) (va_A (wSim s0 z M) sz)) 0 0 (va_A (wSim s0 z M) sz) := by
  refine Met.ofW (cc := cX2_drawOverrun) (maxL := 1) (ret := some .boolean) (by decide) rfl ?_
  intro p e s m args below meth c s₁ B hml hv
  obtain ⟨rfl, hsz, hP, hE, hD0⟩ := hv
  have hK := hE.1
  subst hsz
  have hD := hD0.self (sz := s.heap.size)
  generalize hAe : va_A (wSim s0 z M) s.heap.size = A at hD ⊢
  have hA : ∀ q : Nat, s.heap.size ≤ q → A q := fun q h => by rw [← hAe]; exact Or.inr h
  have hS : va_S A s.heap s.heap [] := va_S.rf
  have hP : va_P (dC, dI) vwCl (wSim s0 z M) s.heap := hP
  have hx := B.exec
  have hb := B.bytes
  have hr := B.returns
  have hts := atoms_spec (ws := wsX2_drawOverrun) B.pre
  have hown : s.vm.findClass RX2 = some m.cls := findClass_of_methodNamed B.named
  have hlocks := B.notSynchronized
  have hin2 : ∀ w ∈ u_ws RX2 TX2 15, w ∈ wsX2_drawOverrun := by decide +kernel
  have f_43 := hts (.fieldLink RX2 43 "DeadlineAdmission$Simulation" "draw" "I") (by decide +kernel)
  have f_47 := hts (.fieldLink RX2 47 "DeadlineAdmission$Simulation" "overrunPercentage" "I") (by decide +kernel)
  have hl := lv_entry ([.ref s0]) (n := 1) (Nat.le_of_ble_eq_true rfl)
  rw [lg_entry_eq]
  generalize (lg_sl ([.ref s0]) ++ List.replicate (1 - (lg_sl ([.ref s0])).length) Slot.unset).toArray = ls at hl ⊢
  have hl : lv_has ls 1 [(0, .ref s0)] := hl
  refine lv_aload_n hx hb dX2_drawOverrun_0 rfl (lv_at hl 0 rfl) ?_
  refine lv_aload_n hx hb dX2_drawOverrun_1 rfl (lv_at hl 0 rfl) ?_
  refine va_get (D := (dC, dI)) (ci := 2) (v := .int (M 7)) (C := RX2) (T := TX2) (N := 15) hx hb hts hin2 hown hK hP 0 rfl rfl 7 (by decide) f_43 (fun _ h9 => h9) rfl dX2_drawOverrun_2 ?_
  refine lv_ldc hx hb hown (hts (.constant RX2 116 1103515245) (by decide +kernel)) dX2_drawOverrun_5 ?_
  refine lv_imul hx hb dX2_drawOverrun_7 ?_
  refine lv_sipush (v := 12345) hx hb dX2_drawOverrun_8 (by decide) ?_
  refine lv_iadd hx hb dX2_drawOverrun_11 ?_
  refine lv_topi (fun y_ ey_ => ?_)
  obtain rfl : y_ = drw (M 7) := ey_.trans rfl
  refine va_put (D := (dC, dI)) (ci := 2) (v := .int (drw (M 7))) (ty := .int) (C := RX2) (T := TX2) (N := 15) hx hb hts hin2 tyX2 tyX2_ok nmX2 hown hK hP hD hS 0 rfl rfl 7 (by decide) f_43 (fun _ h9 => h9) rfl (by decide +kernel) rfl rfl (Nat.le_of_ble_eq_true rfl) dX2_drawOverrun_12 (fun H locs hP hD hS => ?_)
  have hP : va_P (dC, dI) vwCl (wSim s0 z (upd M 7 (drw (M 7)))) H := hP
  have hD : va_D A (wSim s0 z (upd M 7 (drw (M 7)))) := hD
  refine lv_aload_n hx hb dX2_drawOverrun_15 rfl (lv_at hl 0 rfl) ?_
  refine va_get (D := (dC, dI)) (ci := 2) (v := .int (drw (M 7))) (C := RX2) (T := TX2) (N := 15) hx hb hts hin2 hown hK hP 0 rfl rfl 7 (by decide) f_43 (fun _ h9 => h9) rfl dX2_drawOverrun_16 ?_
  refine lv_bipush (v := 16) hx hb dX2_drawOverrun_19 (by decide) ?_
  refine lv_iushr hx hb dX2_drawOverrun_21 rfl ?_
  refine lv_topi (fun y_ ey_ => ?_)
  obtain rfl : y_ = shr (drw (M 7)) := ey_.trans rfl
  refine lv_bipush (v := 100) hx hb dX2_drawOverrun_22 (by decide) ?_
  refine lv_irem hx hb dX2_drawOverrun_24 (by decide) ?_
  refine lv_aload_n hx hb dX2_drawOverrun_25 rfl (lv_at hl 0 rfl) ?_
  refine va_get (D := (dC, dI)) (ci := 2) (v := .int (M 8)) (C := RX2) (T := TX2) (N := 15) hx hb hts hin2 hown hK hP 0 rfl rfl 8 (by decide) f_47 (fun _ h9 => h9) rfl dX2_drawOverrun_26 ?_
  refine lv_icmp_ge (tgt := 36) hx hb dX2_drawOverrun_29 (by decide) (fun c_29 => ?_) (fun c_29 => ?_)
  · refine lv_iconst (v := 0) hx hb dX2_drawOverrun_36 (by decide) ?_
    have hP9 : va_P (dC, dI) vwCl (wSim s0 z (upd M 7 (drw (M 7)))) H := hP
    have hD9 : va_D A (wSim s0 z (upd M 7 (drw (M 7)))) := hD
    exact W.zret (v := 0) hx hb hr (by decide) (fun t ht hW => ⟨⟨0, (upd M 7 (drw (M 7))), rfl, ⟨(by simp only [ovr, c_29, Int32.not_lt.mpr c_29, ↓reduceIte]), rfl⟩, by rw [ht]; exact hP9, hD9⟩, hS.F ht⟩) hS.2.2 dX2_drawOverrun_37
  · refine lv_iconst (v := 1) hx hb dX2_drawOverrun_32 (by decide) ?_
    refine lv_goto (tgt := 37) hx hb dX2_drawOverrun_33 (by decide) ?_
    have hP9 : va_P (dC, dI) vwCl (wSim s0 z (upd M 7 (drw (M 7)))) H := hP
    have hD9 : va_D A (wSim s0 z (upd M 7 (drw (M 7)))) := hD
    exact W.zret (v := 1) hx hb hr (by decide) (fun t ht hW => ⟨⟨1, (upd M 7 (drw (M 7))), rfl, ⟨(by simp only [ovr, c_29, Int32.not_le.mp c_29, ↓reduceIte]), rfl⟩, by rw [ht]; exact hP9, hD9⟩, hS.F ht⟩) hS.2.2 dX2_drawOverrun_37
set_option maxHeartbeats 1000000 in
set_option maxRecDepth 100000 in
/-- a job of task 0 -/
theorem c_X2_releaseJob_0 (l : Launch) (dC : Nat → ClassId) (dI : Nat → Nat → Nat) (cy : Nat → ClassId) (sz : Nat) (s0 : Nat) (z : Nat → Nat) (M : Nat → Int32) (bq : Nat → Nat) (G : vG) (n : Nat) (hn : n ≤ 8) (sc : Int32) (Q : vG) (rt : Nat → Nat) (T : vG) (u : Nat) (hu : u < 200) : Met l yX2_releaseJob wsX2_releaseJob ({ frames := 1, cells := 0, slots := 0, locals := 21 }) (va_Pc [.ref s0, .int (nI 0), .int (nI u)] (pIn dC dI cy (wSim s0 z M ++ (wCfg cy (z 0) bq G (nI n) sc ++ (wArr cy z rt Q T))) sz)) (va_Qv (fun (u9 : SSt) => u9 = relJ G 0 u (M, Q, T)) (fun (u : SSt) t => va_P (dC, dI) vwCl (wSim s0 z u.1 ++ (wCfg cy (z 0) bq G (nI n) sc ++ (wArr cy z rt u.2.1 u.2.2))) t.heap ∧ va_D (va_A (wSim s0 z M ++ (wCfg cy (z 0) bq G (nI n) sc ++ (wArr cy z rt Q T))) sz) (wSim s0 z u.1 ++ (wCfg cy (z 0) bq G (nI n) sc ++ (wArr cy z rt u.2.1 u.2.2)))) (va_A (wSim s0 z M ++ (wCfg cy (z 0) bq G (nI n) sc ++ (wArr cy z rt Q T))) sz)) 0 0 (va_A (wSim s0 z M ++ (wCfg cy (z 0) bq G (nI n) sc ++ (wArr cy z rt Q T))) sz) := by
  refine Met.ofW (cc := cX2_releaseJob) (maxL := 4) (ret := none) (by decide) rfl ?_
  intro p e s m args below meth c s₁ B hml hv
  obtain ⟨rfl, hsz, hP, hE, hD0⟩ := hv
  have hK := hE.1
  subst hsz
  have hD := hD0.self (sz := s.heap.size)
  generalize hAe : va_A (wSim s0 z M ++ (wCfg cy (z 0) bq G (nI n) sc ++ (wArr cy z rt Q T))) s.heap.size = A at hD ⊢
  have hA : ∀ q : Nat, s.heap.size ≤ q → A q := fun q h => by rw [← hAe]; exact Or.inr h
  have hS : va_S A s.heap s.heap [] := va_S.rf
  have hP : va_P (dC, dI) vwCl (wSim s0 z M ++ (wCfg cy (z 0) bq G (nI n) sc ++ (wArr cy z rt Q T))) s.heap := hP
  have hx := B.exec
  have hb := B.bytes
  have hr := B.returns
  have hts := atoms_spec (ws := wsX2_releaseJob) B.pre
  have hown : s.vm.findClass RX2 = some m.cls := findClass_of_methodNamed B.named
  have hlocks := B.notSynchronized
  have hin0 : ∀ w ∈ u_ws RX0 TX0 9, w ∈ wsX2_releaseJob := by decide +kernel
  have hin2 : ∀ w ∈ u_ws RX2 TX2 15, w ∈ wsX2_releaseJob := by decide +kernel
  have f_110 := va_Nw.use (A := ([.ref s0, .int (nI 0), .int (nI u)].toArray)) rfl (hE.f 4 rfl)
  have f_113 := va_Nw.use (A := ([.ref s0, .int (nI 0), .int (nI u)].toArray)) rfl (hE.f 2 rfl)
  have f_12 := hts (.fieldLink RX2 12 "DeadlineAdmission$Simulation" "tasks" "LDeadlineAdmission$Configuration;") (by decide +kernel)
  have f_18 := hts (.fieldLink RX2 18 "DeadlineAdmission$Simulation" "pendingJobs" "[I") (by decide +kernel)
  have f_22 := hts (.fieldLink RX2 22 "DeadlineAdmission$Simulation" "oldestRelease" "[I") (by decide +kernel)
  have f_25 := hts (.fieldLink RX2 25 "DeadlineAdmission$Simulation" "oldestHasRun" "[I") (by decide +kernel)
  have f_30 := hts (.fieldLink RX2 30 "DeadlineAdmission$Simulation" "runningTime" "[[I") (by decide +kernel)
  have hl := lv_entry ([.ref s0, .int (nI 0), .int (nI u)]) (n := 4) (Nat.le_of_ble_eq_true rfl)
  rw [lg_entry_eq]
  generalize (lg_sl ([.ref s0, .int (nI 0), .int (nI u)]) ++ List.replicate (4 - (lg_sl ([.ref s0, .int (nI 0), .int (nI u)])).length) Slot.unset).toArray = ls at hl ⊢
  have hl : lv_has ls 4 [(0, .ref s0), (1, .int (nI 0)), (2, .int (nI u))] := hl
  refine lv_aload_n hx hb dX2_releaseJob_0 rfl (lv_at hl 0 rfl) ?_
  refine va_get (D := (dC, dI)) (ci := 2) (v := .ref (z 0)) (C := RX2) (T := TX2) (N := 15) hx hb hts hin2 hown hK hP 0 rfl rfl 0 (by decide) f_12 (fun _ h9 => h9) rfl dX2_releaseJob_1 ?_
  refine lv_iload_n hx hb dX2_releaseJob_4 rfl (lv_at hl 1 rfl) ?_
  refine vp_callSi (va_runV (As := [.int (nI 0)]) (rest := []) ⟨hx, hb, hml, hown, hts⟩ (c_X0_hasHighBudget l dC dI cy (z 0) bq G (nI n) sc  0 (by omega)) (cwV 1 hts gX2_releaseJob_X0_hasHighBudget rfl rfl rfl (by decide +kernel) ⟨Nat.le_of_ble_eq_true rfl, Nat.le_of_ble_eq_true rfl⟩) ⟨bl_ro, va_recv hK (hP.sub (ws' := wCfg cy (z 0) bq G (nI n) sc) [1, 2, 3, 4, 5, 6, 7, 8] rfl) (ci := 0) (q0 := 0) rfl rfl, pr_ro (hP.sub (ws' := wCfg cy (z 0) bq G (nI n) sc) [1, 2, 3, 4, 5, 6, 7, 8] rfl) hE⟩ rfl rfl hl.1 rfl (lv_room (Nat.le_of_ble_eq_true rfl)) dX2_releaseJob_5 ⟨Nat.le_of_ble_eq_true rfl, Nat.le_of_ble_eq_true rfl⟩).run (fun r e_r => ?_)
  subst e_r
  refine lv_if_eq (tgt := 22) hx hb dX2_releaseJob_8 (by decide) (fun c_8 => ?_) (fun c_8 => ?_)
  · refine lv_iconst (v := 0) hx hb dX2_releaseJob_22 (by decide) ?_
    refine lv_istore_n (lv' := [(3, .int 0), (0, .ref s0), (1, .int (nI 0)), (2, .int (nI u))]) hx hb dX2_releaseJob_23 rfl hl (by decide) rfl (fun ls hl => ?_)
    refine lv_aload_n hx hb dX2_releaseJob_24 rfl (lv_at hl 1 rfl) ?_
    refine va_get (D := (dC, dI)) (ci := 2) (v := .ref (z 4)) (C := RX2) (T := TX2) (N := 15) hx hb hts hin2 hown hK hP 0 rfl rfl 4 (by decide) f_30 (fun _ h9 => h9) rfl dX2_releaseJob_25 ?_
    refine lv_iload_n hx hb dX2_releaseJob_28 rfl (lv_at hl 2 rfl) ?_
    refine wB_ald (q := (rt 0)) hx hb hK hP 12 2 rfl rfl 0 rfl (by omega) (by decide) rfl dX2_releaseJob_29 ?_
    refine lv_iload_n hx hb dX2_releaseJob_30 rfl (lv_at hl 3 rfl) ?_
    refine lv_iload_n hx hb dX2_releaseJob_31 rfl (lv_at hl 0 rfl) ?_
    refine lv_if_eq (tgt := 47) hx hb dX2_releaseJob_32 (by decide) (fun _ => ?_) (fun h0 => absurd h0 (by decide))
    refine lv_aload_n hx hb dX2_releaseJob_47 rfl (lv_at hl 1 rfl) ?_
    refine va_get (D := (dC, dI)) (ci := 2) (v := .ref (z 0)) (C := RX2) (T := TX2) (N := 15) hx hb hts hin2 hown hK hP 0 rfl rfl 0 (by decide) f_12 (fun _ h9 => h9) rfl dX2_releaseJob_48 ?_
    refine va_getN (D := (dC, dI)) (ci := 0) (v := .ref (bq 2)) (C := RX0) (T := TX0) (N := 9) hx hb hts hin0 hown hK hP 1 rfl rfl 2 (by decide) f_113 (fun _ h9 => h9) rfl dX2_releaseJob_51 ?_
    refine lv_iload_n hx hb dX2_releaseJob_54 rfl (lv_at hl 2 rfl) ?_
    refine wI_alv (v := G 2 0) hx hb hK hP 4 0 rfl rfl 0 rfl (by omega) (by decide) rfl dX2_releaseJob_55 ?_
    refine wI_ast hx hb hK hP hD hS 14 0 rfl rfl u rfl (by omega) (by decide) dX2_releaseJob_56 (fun H locs hP hD hS => ?_)
    have hP : va_P (dC, dI) vwCl (wSim s0 z M ++ (wCfg cy (z 0) bq G (nI n) sc ++ (wArr cy z rt Q (up2 T 0 u (G 2 0))))) H := hP
    have hD : va_D A (wSim s0 z M ++ (wCfg cy (z 0) bq G (nI n) sc ++ (wArr cy z rt Q (up2 T 0 u (G 2 0))))) := hD
    refine lv_aload_n hx hb dX2_releaseJob_57 rfl (lv_at hl 1 rfl) ?_
    refine va_get (D := (dC, dI)) (ci := 2) (v := .ref (z 1)) (C := RX2) (T := TX2) (N := 15) hx hb hts hin2 hown hK hP 0 rfl rfl 1 (by decide) f_18 (fun _ h9 => h9) rfl dX2_releaseJob_58 ?_
    refine lv_iload_n hx hb dX2_releaseJob_61 rfl (lv_at hl 2 rfl) ?_
    refine wI_alv (v := Q 1 0) hx hb hK hP 9 0 rfl rfl 0 rfl (by omega) (by decide) rfl dX2_releaseJob_62 ?_
    refine lv_if_ne (tgt := 80) hx hb dX2_releaseJob_63 (by decide) (fun c_63 => ?_) (fun c_63 => ?_)
    · refine lv_aload_n hx hb dX2_releaseJob_80 rfl (lv_at hl 1 rfl) ?_
      refine va_get (D := (dC, dI)) (ci := 2) (v := .ref (z 1)) (C := RX2) (T := TX2) (N := 15) hx hb hts hin2 hown hK hP 0 rfl rfl 1 (by decide) f_18 (fun _ h9 => h9) rfl dX2_releaseJob_81 ?_
      refine lv_iload_n hx hb dX2_releaseJob_84 rfl (lv_at hl 2 rfl) ?_
      refine lv_dup2_11 hx hb dX2_releaseJob_85 rfl rfl ?_
      refine wI_alv (v := Q 1 0) hx hb hK hP 9 0 rfl rfl 0 rfl (by omega) (by decide) rfl dX2_releaseJob_86 ?_
      refine lv_iconst (v := 1) hx hb dX2_releaseJob_87 (by decide) ?_
      refine lv_iadd hx hb dX2_releaseJob_88 ?_
      refine wI_ast hx hb hK hP hD hS 9 0 rfl rfl 0 rfl (by omega) (by decide) dX2_releaseJob_89 (fun H locs hP hD hS => ?_)
      have hP : va_P (dC, dI) vwCl (wSim s0 z M ++ (wCfg cy (z 0) bq G (nI n) sc ++ (wArr cy z rt (up2 Q 1 0 ((Q 1 0) + 1)) (up2 T 0 u (G 2 0))))) H := hP
      have hD : va_D A (wSim s0 z M ++ (wCfg cy (z 0) bq G (nI n) sc ++ (wArr cy z rt (up2 Q 1 0 ((Q 1 0) + 1)) (up2 T 0 u (G 2 0))))) := hD
      have hP9 : va_P (dC, dI) vwCl (wSim s0 z M ++ (wCfg cy (z 0) bq G (nI n) sc ++ (wArr cy z rt (up2 Q 1 0 ((Q 1 0) + 1)) (up2 T 0 u (G 2 0))))) H := hP
      have hD9 : va_D A (wSim s0 z M ++ (wCfg cy (z 0) bq G (nI n) sc ++ (wArr cy z rt (up2 Q 1 0 ((Q 1 0) + 1)) (up2 T 0 u (G 2 0))))) := hD
      exact W.vret hx hb hr (fun t ht hW => ⟨⟨(M, up2 Q 1 0 ((Q 1 0) + 1), up2 T 0 u (G 2 0)), rfl, (by simp only [relJ]; rw [drM, if_pos (b01.mp c_8), nds, if_pos (b01.mp c_8), relQ, if_neg c_63]), by rw [ht]; exact hP9, hD9⟩, hS.F ht⟩) hS.2.2 dX2_releaseJob_90
    · refine lv_aload_n hx hb dX2_releaseJob_66 rfl (lv_at hl 1 rfl) ?_
      refine va_get (D := (dC, dI)) (ci := 2) (v := .ref (z 2)) (C := RX2) (T := TX2) (N := 15) hx hb hts hin2 hown hK hP 0 rfl rfl 2 (by decide) f_22 (fun _ h9 => h9) rfl dX2_releaseJob_67 ?_
      refine lv_iload_n hx hb dX2_releaseJob_70 rfl (lv_at hl 2 rfl) ?_
      refine lv_iload_n hx hb dX2_releaseJob_71 rfl (lv_at hl 3 rfl) ?_
      refine wI_ast hx hb hK hP hD hS 10 0 rfl rfl 0 rfl (by omega) (by decide) dX2_releaseJob_72 (fun H locs hP hD hS => ?_)
      have hP : va_P (dC, dI) vwCl (wSim s0 z M ++ (wCfg cy (z 0) bq G (nI n) sc ++ (wArr cy z rt (up2 Q 2 0 (nI u)) (up2 T 0 u (G 2 0))))) H := hP
      have hD : va_D A (wSim s0 z M ++ (wCfg cy (z 0) bq G (nI n) sc ++ (wArr cy z rt (up2 Q 2 0 (nI u)) (up2 T 0 u (G 2 0))))) := hD
      refine lv_aload_n hx hb dX2_releaseJob_73 rfl (lv_at hl 1 rfl) ?_
      refine va_get (D := (dC, dI)) (ci := 2) (v := .ref (z 3)) (C := RX2) (T := TX2) (N := 15) hx hb hts hin2 hown hK hP 0 rfl rfl 3 (by decide) f_25 (fun _ h9 => h9) rfl dX2_releaseJob_74 ?_
      refine lv_iload_n hx hb dX2_releaseJob_77 rfl (lv_at hl 2 rfl) ?_
      refine lv_iconst (v := 0) hx hb dX2_releaseJob_78 (by decide) ?_
      refine wI_ast hx hb hK hP hD hS 11 0 rfl rfl 0 rfl (by omega) (by decide) dX2_releaseJob_79 (fun H locs hP hD hS => ?_)
      have hP : va_P (dC, dI) vwCl (wSim s0 z M ++ (wCfg cy (z 0) bq G (nI n) sc ++ (wArr cy z rt (up2 (up2 Q 2 0 (nI u)) 3 0 0) (up2 T 0 u (G 2 0))))) H := hP
      have hD : va_D A (wSim s0 z M ++ (wCfg cy (z 0) bq G (nI n) sc ++ (wArr cy z rt (up2 (up2 Q 2 0 (nI u)) 3 0 0) (up2 T 0 u (G 2 0))))) := hD
      refine lv_aload_n hx hb dX2_releaseJob_80 rfl (lv_at hl 1 rfl) ?_
      refine va_get (D := (dC, dI)) (ci := 2) (v := .ref (z 1)) (C := RX2) (T := TX2) (N := 15) hx hb hts hin2 hown hK hP 0 rfl rfl 1 (by decide) f_18 (fun _ h9 => h9) rfl dX2_releaseJob_81 ?_
      refine lv_iload_n hx hb dX2_releaseJob_84 rfl (lv_at hl 2 rfl) ?_
      refine lv_dup2_11 hx hb dX2_releaseJob_85 rfl rfl ?_
      refine wI_alv (v := Q 1 0) hx hb hK hP 9 0 rfl rfl 0 rfl (by omega) (by decide) rfl dX2_releaseJob_86 ?_
      refine lv_iconst (v := 1) hx hb dX2_releaseJob_87 (by decide) ?_
      refine lv_iadd hx hb dX2_releaseJob_88 ?_
      refine wI_ast hx hb hK hP hD hS 9 0 rfl rfl 0 rfl (by omega) (by decide) dX2_releaseJob_89 (fun H locs hP hD hS => ?_)
      have hP : va_P (dC, dI) vwCl (wSim s0 z M ++ (wCfg cy (z 0) bq G (nI n) sc ++ (wArr cy z rt (up2 (up2 (up2 Q 2 0 (nI u)) 3 0 0) 1 0 ((Q 1 0) + 1)) (up2 T 0 u (G 2 0))))) H := hP
      have hD : va_D A (wSim s0 z M ++ (wCfg cy (z 0) bq G (nI n) sc ++ (wArr cy z rt (up2 (up2 (up2 Q 2 0 (nI u)) 3 0 0) 1 0 ((Q 1 0) + 1)) (up2 T 0 u (G 2 0))))) := hD
      have hP9 : va_P (dC, dI) vwCl (wSim s0 z M ++ (wCfg cy (z 0) bq G (nI n) sc ++ (wArr cy z rt (up2 (up2 (up2 Q 2 0 (nI u)) 3 0 0) 1 0 ((Q 1 0) + 1)) (up2 T 0 u (G 2 0))))) H := hP
      have hD9 : va_D A (wSim s0 z M ++ (wCfg cy (z 0) bq G (nI n) sc ++ (wArr cy z rt (up2 (up2 (up2 Q 2 0 (nI u)) 3 0 0) 1 0 ((Q 1 0) + 1)) (up2 T 0 u (G 2 0))))) := hD
      exact W.vret hx hb hr (fun t ht hW => ⟨⟨(M, up2 (up2 (up2 Q 2 0 (nI u)) 3 0 0) 1 0 ((Q 1 0) + 1), up2 T 0 u (G 2 0)), rfl, (by simp only [relJ]; rw [drM, if_pos (b01.mp c_8), nds, if_pos (b01.mp c_8), relQ, if_pos c_63]), by rw [ht]; exact hP9, hD9⟩, hS.F ht⟩) hS.2.2 dX2_releaseJob_90
  · refine lv_aload_n hx hb dX2_releaseJob_11 rfl (lv_at hl 0 rfl) ?_
    have hPc := hP.sub (ws' := wSim s0 z M) [0] rfl
    have hDc := hD.sub (ws' := wSim s0 z M) [0] (by decide) rfl
    have hFc := va_free (wc := wSim s0 z M) hD hS hA [0] rfl
    refine va_calli (va_runV (As := []) (rest := []) ⟨hx, hb, hml, hown, hts⟩ (c_X2_drawOverrun l dC dI cy s.heap.size s0 z M) (cwV 0 hts gX2_releaseJob_X2_drawOverrun rfl rfl rfl (by decide +kernel) ⟨Nat.le_of_ble_eq_true rfl, Nat.le_of_ble_eq_true rfl⟩) ⟨bl_in, va_recv hK hPc (ci := 2) (q0 := 0) rfl rfl, pr_in hPc hE hDc⟩ rfl rfl hl.1 rfl (lv_room (Nat.le_of_ble_eq_true rfl)) dX2_releaseJob_12 ⟨Nat.le_of_ble_eq_true rfl, Nat.le_of_ble_eq_true rfl⟩) hS (fun q _ h => hFc q h) hFc (fun r u t H1 locs ht hvm hw hB hz1 hk1 hS => ?_)
    obtain ⟨rfl, rfl⟩ := hw
    obtain ⟨hP1, hD1⟩ := hB
    rw [ht] at hP1
    obtain ⟨hP, hD⟩ := va_join (wr := wCfg cy (z 0) bq G (nI n) sc ++ (wArr cy z rt Q T)) (w1 := wSim s0 z (upd M 7 (drw (M 7)))) hP hD [0] [1, 2, 3, 4, 5, 6, 7, 8, 9, 10, 11, 12, 13, 14, 15, 16, 17, 18, 19, 20, 21] rfl rfl (by decide) (by decide) hk1 hFc hP1 hD1
    have hP : va_P (dC, dI) vwCl (wSim s0 z (upd M 7 (drw (M 7))) ++ (wCfg cy (z 0) bq G (nI n) sc ++ (wArr cy z rt Q T))) H1 := hP.sub [21, 0, 1, 2, 3, 4, 5, 6, 7, 8, 9, 10, 11, 12, 13, 14, 15, 16, 17, 18, 19, 20] rfl
    have hD : va_D A (wSim s0 z (upd M 7 (drw (M 7))) ++ (wCfg cy (z 0) bq G (nI n) sc ++ (wArr cy z rt Q T))) := hD.sub [21, 0, 1, 2, 3, 4, 5, 6, 7, 8, 9, 10, 11, 12, 13, 14, 15, 16, 17, 18, 19, 20] (by decide) rfl
    clear hz1 hk1 hPc hDc hFc hP1 hD1
    generalize H1 = H at hP hS ⊢
    refine lv_topi (fun y_ ey_ => ?_)
    obtain rfl : y_ = if ovr (drw (M 7)) (M 8) then 1 else 0 := ey_
    refine lv_if_eq (tgt := 22) hx hb dX2_releaseJob_15 (by decide) (fun c_15 => ?_) (fun c_15 => ?_)
    · refine lv_iconst (v := 0) hx hb dX2_releaseJob_22 (by decide) ?_
      refine lv_istore_n (lv' := [(3, .int 0), (0, .ref s0), (1, .int (nI 0)), (2, .int (nI u))]) hx hb dX2_releaseJob_23 rfl hl (by decide) rfl (fun ls hl => ?_)
      refine lv_aload_n hx hb dX2_releaseJob_24 rfl (lv_at hl 1 rfl) ?_
      refine va_get (D := (dC, dI)) (ci := 2) (v := .ref (z 4)) (C := RX2) (T := TX2) (N := 15) hx hb hts hin2 hown hK hP 0 rfl rfl 4 (by decide) f_30 (fun _ h9 => h9) rfl dX2_releaseJob_25 ?_
      refine lv_iload_n hx hb dX2_releaseJob_28 rfl (lv_at hl 2 rfl) ?_
      refine wB_ald (q := (rt 0)) hx hb hK hP 12 2 rfl rfl 0 rfl (by omega) (by decide) rfl dX2_releaseJob_29 ?_
      refine lv_iload_n hx hb dX2_releaseJob_30 rfl (lv_at hl 3 rfl) ?_
      refine lv_iload_n hx hb dX2_releaseJob_31 rfl (lv_at hl 0 rfl) ?_
      refine lv_if_eq (tgt := 47) hx hb dX2_releaseJob_32 (by decide) (fun _ => ?_) (fun h0 => absurd h0 (by decide))
      refine lv_aload_n hx hb dX2_releaseJob_47 rfl (lv_at hl 1 rfl) ?_
      refine va_get (D := (dC, dI)) (ci := 2) (v := .ref (z 0)) (C := RX2) (T := TX2) (N := 15) hx hb hts hin2 hown hK hP 0 rfl rfl 0 (by decide) f_12 (fun _ h9 => h9) rfl dX2_releaseJob_48 ?_
      refine va_getN (D := (dC, dI)) (ci := 0) (v := .ref (bq 2)) (C := RX0) (T := TX0) (N := 9) hx hb hts hin0 hown hK hP 1 rfl rfl 2 (by decide) f_113 (fun _ h9 => h9) rfl dX2_releaseJob_51 ?_
      refine lv_iload_n hx hb dX2_releaseJob_54 rfl (lv_at hl 2 rfl) ?_
      refine wI_alv (v := G 2 0) hx hb hK hP 4 0 rfl rfl 0 rfl (by omega) (by decide) rfl dX2_releaseJob_55 ?_
      refine wI_ast hx hb hK hP hD hS 14 0 rfl rfl u rfl (by omega) (by decide) dX2_releaseJob_56 (fun H locs hP hD hS => ?_)
      have hP : va_P (dC, dI) vwCl (wSim s0 z (upd M 7 (drw (M 7))) ++ (wCfg cy (z 0) bq G (nI n) sc ++ (wArr cy z rt Q (up2 T 0 u (G 2 0))))) H := hP
      have hD : va_D A (wSim s0 z (upd M 7 (drw (M 7))) ++ (wCfg cy (z 0) bq G (nI n) sc ++ (wArr cy z rt Q (up2 T 0 u (G 2 0))))) := hD
      refine lv_aload_n hx hb dX2_releaseJob_57 rfl (lv_at hl 1 rfl) ?_
      refine va_get (D := (dC, dI)) (ci := 2) (v := .ref (z 1)) (C := RX2) (T := TX2) (N := 15) hx hb hts hin2 hown hK hP 0 rfl rfl 1 (by decide) f_18 (fun _ h9 => h9) rfl dX2_releaseJob_58 ?_
      refine lv_iload_n hx hb dX2_releaseJob_61 rfl (lv_at hl 2 rfl) ?_
      refine wI_alv (v := Q 1 0) hx hb hK hP 9 0 rfl rfl 0 rfl (by omega) (by decide) rfl dX2_releaseJob_62 ?_
      refine lv_if_ne (tgt := 80) hx hb dX2_releaseJob_63 (by decide) (fun c_63 => ?_) (fun c_63 => ?_)
      · refine lv_aload_n hx hb dX2_releaseJob_80 rfl (lv_at hl 1 rfl) ?_
        refine va_get (D := (dC, dI)) (ci := 2) (v := .ref (z 1)) (C := RX2) (T := TX2) (N := 15) hx hb hts hin2 hown hK hP 0 rfl rfl 1 (by decide) f_18 (fun _ h9 => h9) rfl dX2_releaseJob_81 ?_
        refine lv_iload_n hx hb dX2_releaseJob_84 rfl (lv_at hl 2 rfl) ?_
        refine lv_dup2_11 hx hb dX2_releaseJob_85 rfl rfl ?_
        refine wI_alv (v := Q 1 0) hx hb hK hP 9 0 rfl rfl 0 rfl (by omega) (by decide) rfl dX2_releaseJob_86 ?_
        refine lv_iconst (v := 1) hx hb dX2_releaseJob_87 (by decide) ?_
        refine lv_iadd hx hb dX2_releaseJob_88 ?_
        refine wI_ast hx hb hK hP hD hS 9 0 rfl rfl 0 rfl (by omega) (by decide) dX2_releaseJob_89 (fun H locs hP hD hS => ?_)
        have hP : va_P (dC, dI) vwCl (wSim s0 z (upd M 7 (drw (M 7))) ++ (wCfg cy (z 0) bq G (nI n) sc ++ (wArr cy z rt (up2 Q 1 0 ((Q 1 0) + 1)) (up2 T 0 u (G 2 0))))) H := hP
        have hD : va_D A (wSim s0 z (upd M 7 (drw (M 7))) ++ (wCfg cy (z 0) bq G (nI n) sc ++ (wArr cy z rt (up2 Q 1 0 ((Q 1 0) + 1)) (up2 T 0 u (G 2 0))))) := hD
        have hP9 : va_P (dC, dI) vwCl (wSim s0 z (upd M 7 (drw (M 7))) ++ (wCfg cy (z 0) bq G (nI n) sc ++ (wArr cy z rt (up2 Q 1 0 ((Q 1 0) + 1)) (up2 T 0 u (G 2 0))))) H := hP
        have hD9 : va_D A (wSim s0 z (upd M 7 (drw (M 7))) ++ (wCfg cy (z 0) bq G (nI n) sc ++ (wArr cy z rt (up2 Q 1 0 ((Q 1 0) + 1)) (up2 T 0 u (G 2 0))))) := hD
        exact W.vret hx hb hr (fun t ht hW => ⟨⟨(upd M 7 (drw (M 7)), up2 Q 1 0 ((Q 1 0) + 1), up2 T 0 u (G 2 0)), rfl, (by simp only [relJ]; rw [drM, if_neg (fun h => c_8 (b01.mpr h)), nds, if_neg (fun h => c_8 (b01.mpr h)), if_neg (b10.mp c_15), relQ, if_neg c_63]), by rw [ht]; exact hP9, hD9⟩, hS.F ht⟩) hS.2.2 dX2_releaseJob_90
      · refine lv_aload_n hx hb dX2_releaseJob_66 rfl (lv_at hl 1 rfl) ?_
        refine va_get (D := (dC, dI)) (ci := 2) (v := .ref (z 2)) (C := RX2) (T := TX2) (N := 15) hx hb hts hin2 hown hK hP 0 rfl rfl 2 (by decide) f_22 (fun _ h9 => h9) rfl dX2_releaseJob_67 ?_
        refine lv_iload_n hx hb dX2_releaseJob_70 rfl (lv_at hl 2 rfl) ?_
        refine lv_iload_n hx hb dX2_releaseJob_71 rfl (lv_at hl 3 rfl) ?_
        refine wI_ast hx hb hK hP hD hS 10 0 rfl rfl 0 rfl (by omega) (by decide) dX2_releaseJob_72 (fun H locs hP hD hS => ?_)
        have hP : va_P (dC, dI) vwCl (wSim s0 z (upd M 7 (drw (M 7))) ++ (wCfg cy (z 0) bq G (nI n) sc ++ (wArr cy z rt (up2 Q 2 0 (nI u)) (up2 T 0 u (G 2 0))))) H := hP
        have hD : va_D A (wSim s0 z (upd M 7 (drw (M 7))) ++ (wCfg cy (z 0) bq G (nI n) sc ++ (wArr cy z rt (up2 Q 2 0 (nI u)) (up2 T 0 u (G 2 0))))) := hD
        refine lv_aload_n hx hb dX2_releaseJob_73 rfl (lv_at hl 1 rfl) ?_
        refine va_get (D := (dC, dI)) (ci := 2) (v := .ref (z 3)) (C := RX2) (T := TX2) (N := 15) hx hb hts hin2 hown hK hP 0 rfl rfl 3 (by decide) f_25 (fun _ h9 => h9) rfl dX2_releaseJob_74 ?_
        refine lv_iload_n hx hb dX2_releaseJob_77 rfl (lv_at hl 2 rfl) ?_
        refine lv_iconst (v := 0) hx hb dX2_releaseJob_78 (by decide) ?_
        refine wI_ast hx hb hK hP hD hS 11 0 rfl rfl 0 rfl (by omega) (by decide) dX2_releaseJob_79 (fun H locs hP hD hS => ?_)
        have hP : va_P (dC, dI) vwCl (wSim s0 z (upd M 7 (drw (M 7))) ++ (wCfg cy (z 0) bq G (nI n) sc ++ (wArr cy z rt (up2 (up2 Q 2 0 (nI u)) 3 0 0) (up2 T 0 u (G 2 0))))) H := hP
        have hD : va_D A (wSim s0 z (upd M 7 (drw (M 7))) ++ (wCfg cy (z 0) bq G (nI n) sc ++ (wArr cy z rt (up2 (up2 Q 2 0 (nI u)) 3 0 0) (up2 T 0 u (G 2 0))))) := hD
        refine lv_aload_n hx hb dX2_releaseJob_80 rfl (lv_at hl 1 rfl) ?_
        refine va_get (D := (dC, dI)) (ci := 2) (v := .ref (z 1)) (C := RX2) (T := TX2) (N := 15) hx hb hts hin2 hown hK hP 0 rfl rfl 1 (by decide) f_18 (fun _ h9 => h9) rfl dX2_releaseJob_81 ?_
        refine lv_iload_n hx hb dX2_releaseJob_84 rfl (lv_at hl 2 rfl) ?_
        refine lv_dup2_11 hx hb dX2_releaseJob_85 rfl rfl ?_
        refine wI_alv (v := Q 1 0) hx hb hK hP 9 0 rfl rfl 0 rfl (by omega) (by decide) rfl dX2_releaseJob_86 ?_
        refine lv_iconst (v := 1) hx hb dX2_releaseJob_87 (by decide) ?_
        refine lv_iadd hx hb dX2_releaseJob_88 ?_
        refine wI_ast hx hb hK hP hD hS 9 0 rfl rfl 0 rfl (by omega) (by decide) dX2_releaseJob_89 (fun H locs hP hD hS => ?_)
        have hP : va_P (dC, dI) vwCl (wSim s0 z (upd M 7 (drw (M 7))) ++ (wCfg cy (z 0) bq G (nI n) sc ++ (wArr cy z rt (up2 (up2 (up2 Q 2 0 (nI u)) 3 0 0) 1 0 ((Q 1 0) + 1)) (up2 T 0 u (G 2 0))))) H := hP
        have hD : va_D A (wSim s0 z (upd M 7 (drw (M 7))) ++ (wCfg cy (z 0) bq G (nI n) sc ++ (wArr cy z rt (up2 (up2 (up2 Q 2 0 (nI u)) 3 0 0) 1 0 ((Q 1 0) + 1)) (up2 T 0 u (G 2 0))))) := hD
        have hP9 : va_P (dC, dI) vwCl (wSim s0 z (upd M 7 (drw (M 7))) ++ (wCfg cy (z 0) bq G (nI n) sc ++ (wArr cy z rt (up2 (up2 (up2 Q 2 0 (nI u)) 3 0 0) 1 0 ((Q 1 0) + 1)) (up2 T 0 u (G 2 0))))) H := hP
        have hD9 : va_D A (wSim s0 z (upd M 7 (drw (M 7))) ++ (wCfg cy (z 0) bq G (nI n) sc ++ (wArr cy z rt (up2 (up2 (up2 Q 2 0 (nI u)) 3 0 0) 1 0 ((Q 1 0) + 1)) (up2 T 0 u (G 2 0))))) := hD
        exact W.vret hx hb hr (fun t ht hW => ⟨⟨(upd M 7 (drw (M 7)), up2 (up2 (up2 Q 2 0 (nI u)) 3 0 0) 1 0 ((Q 1 0) + 1), up2 T 0 u (G 2 0)), rfl, (by simp only [relJ]; rw [drM, if_neg (fun h => c_8 (b01.mpr h)), nds, if_neg (fun h => c_8 (b01.mpr h)), if_neg (b10.mp c_15), relQ, if_pos c_63]), by rw [ht]; exact hP9, hD9⟩, hS.F ht⟩) hS.2.2 dX2_releaseJob_90
    · refine lv_iconst (v := 1) hx hb dX2_releaseJob_18 (by decide) ?_
      refine lv_goto (tgt := 23) hx hb dX2_releaseJob_19 (by decide) ?_
      refine lv_istore_n (lv' := [(3, .int 1), (0, .ref s0), (1, .int (nI 0)), (2, .int (nI u))]) hx hb dX2_releaseJob_23 rfl hl (by decide) rfl (fun ls hl => ?_)
      refine lv_aload_n hx hb dX2_releaseJob_24 rfl (lv_at hl 1 rfl) ?_
      refine va_get (D := (dC, dI)) (ci := 2) (v := .ref (z 4)) (C := RX2) (T := TX2) (N := 15) hx hb hts hin2 hown hK hP 0 rfl rfl 4 (by decide) f_30 (fun _ h9 => h9) rfl dX2_releaseJob_25 ?_
      refine lv_iload_n hx hb dX2_releaseJob_28 rfl (lv_at hl 2 rfl) ?_
      refine wB_ald (q := (rt 0)) hx hb hK hP 12 2 rfl rfl 0 rfl (by omega) (by decide) rfl dX2_releaseJob_29 ?_
      refine lv_iload_n hx hb dX2_releaseJob_30 rfl (lv_at hl 3 rfl) ?_
      refine lv_iload_n hx hb dX2_releaseJob_31 rfl (lv_at hl 0 rfl) ?_
      refine lv_if_eq (tgt := 47) hx hb dX2_releaseJob_32 (by decide) (fun h0 => absurd h0 (by decide)) (fun _ => ?_)
      refine lv_aload_n hx hb dX2_releaseJob_35 rfl (lv_at hl 1 rfl) ?_
      refine va_get (D := (dC, dI)) (ci := 2) (v := .ref (z 0)) (C := RX2) (T := TX2) (N := 15) hx hb hts hin2 hown hK hP 0 rfl rfl 0 (by decide) f_12 (fun _ h9 => h9) rfl dX2_releaseJob_36 ?_
      refine va_getN (D := (dC, dI)) (ci := 0) (v := .ref (bq 3)) (C := RX0) (T := TX0) (N := 9) hx hb hts hin0 hown hK hP 1 rfl rfl 3 (by decide) f_110 (fun _ h9 => h9) rfl dX2_releaseJob_39 ?_
      refine lv_iload_n hx hb dX2_releaseJob_42 rfl (lv_at hl 2 rfl) ?_
      refine wI_alv (v := G 3 0) hx hb hK hP 5 0 rfl rfl 0 rfl (by omega) (by decide) rfl dX2_releaseJob_43 ?_
      refine lv_goto (tgt := 56) hx hb dX2_releaseJob_44 (by decide) ?_
      refine wI_ast hx hb hK hP hD hS 14 0 rfl rfl u rfl (by omega) (by decide) dX2_releaseJob_56 (fun H locs hP hD hS => ?_)
      have hP : va_P (dC, dI) vwCl (wSim s0 z (upd M 7 (drw (M 7))) ++ (wCfg cy (z 0) bq G (nI n) sc ++ (wArr cy z rt Q (up2 T 0 u (G 3 0))))) H := hP
      have hD : va_D A (wSim s0 z (upd M 7 (drw (M 7))) ++ (wCfg cy (z 0) bq G (nI n) sc ++ (wArr cy z rt Q (up2 T 0 u (G 3 0))))) := hD
      refine lv_aload_n hx hb dX2_releaseJob_57 rfl (lv_at hl 1 rfl) ?_
      refine va_get (D := (dC, dI)) (ci := 2) (v := .ref (z 1)) (C := RX2) (T := TX2) (N := 15) hx hb hts hin2 hown hK hP 0 rfl rfl 1 (by decide) f_18 (fun _ h9 => h9) rfl dX2_releaseJob_58 ?_
      refine lv_iload_n hx hb dX2_releaseJob_61 rfl (lv_at hl 2 rfl) ?_
      refine wI_alv (v := Q 1 0) hx hb hK hP 9 0 rfl rfl 0 rfl (by omega) (by decide) rfl dX2_releaseJob_62 ?_
      refine lv_if_ne (tgt := 80) hx hb dX2_releaseJob_63 (by decide) (fun c_63 => ?_) (fun c_63 => ?_)
      · refine lv_aload_n hx hb dX2_releaseJob_80 rfl (lv_at hl 1 rfl) ?_
        refine va_get (D := (dC, dI)) (ci := 2) (v := .ref (z 1)) (C := RX2) (T := TX2) (N := 15) hx hb hts hin2 hown hK hP 0 rfl rfl 1 (by decide) f_18 (fun _ h9 => h9) rfl dX2_releaseJob_81 ?_
        refine lv_iload_n hx hb dX2_releaseJob_84 rfl (lv_at hl 2 rfl) ?_
        refine lv_dup2_11 hx hb dX2_releaseJob_85 rfl rfl ?_
        refine wI_alv (v := Q 1 0) hx hb hK hP 9 0 rfl rfl 0 rfl (by omega) (by decide) rfl dX2_releaseJob_86 ?_
        refine lv_iconst (v := 1) hx hb dX2_releaseJob_87 (by decide) ?_
        refine lv_iadd hx hb dX2_releaseJob_88 ?_
        refine wI_ast hx hb hK hP hD hS 9 0 rfl rfl 0 rfl (by omega) (by decide) dX2_releaseJob_89 (fun H locs hP hD hS => ?_)
        have hP : va_P (dC, dI) vwCl (wSim s0 z (upd M 7 (drw (M 7))) ++ (wCfg cy (z 0) bq G (nI n) sc ++ (wArr cy z rt (up2 Q 1 0 ((Q 1 0) + 1)) (up2 T 0 u (G 3 0))))) H := hP
        have hD : va_D A (wSim s0 z (upd M 7 (drw (M 7))) ++ (wCfg cy (z 0) bq G (nI n) sc ++ (wArr cy z rt (up2 Q 1 0 ((Q 1 0) + 1)) (up2 T 0 u (G 3 0))))) := hD
        have hP9 : va_P (dC, dI) vwCl (wSim s0 z (upd M 7 (drw (M 7))) ++ (wCfg cy (z 0) bq G (nI n) sc ++ (wArr cy z rt (up2 Q 1 0 ((Q 1 0) + 1)) (up2 T 0 u (G 3 0))))) H := hP
        have hD9 : va_D A (wSim s0 z (upd M 7 (drw (M 7))) ++ (wCfg cy (z 0) bq G (nI n) sc ++ (wArr cy z rt (up2 Q 1 0 ((Q 1 0) + 1)) (up2 T 0 u (G 3 0))))) := hD
        exact W.vret hx hb hr (fun t ht hW => ⟨⟨(upd M 7 (drw (M 7)), up2 Q 1 0 ((Q 1 0) + 1), up2 T 0 u (G 3 0)), rfl, (by simp only [relJ]; rw [drM, if_neg (fun h => c_8 (b01.mpr h)), nds, if_neg (fun h => c_8 (b01.mpr h)), if_pos (nb10 c_15), relQ, if_neg c_63]), by rw [ht]; exact hP9, hD9⟩, hS.F ht⟩) hS.2.2 dX2_releaseJob_90
      · refine lv_aload_n hx hb dX2_releaseJob_66 rfl (lv_at hl 1 rfl) ?_
        refine va_get (D := (dC, dI)) (ci := 2) (v := .ref (z 2)) (C := RX2) (T := TX2) (N := 15) hx hb hts hin2 hown hK hP 0 rfl rfl 2 (by decide) f_22 (fun _ h9 => h9) rfl dX2_releaseJob_67 ?_
        refine lv_iload_n hx hb dX2_releaseJob_70 rfl (lv_at hl 2 rfl) ?_
        refine lv_iload_n hx hb dX2_releaseJob_71 rfl (lv_at hl 3 rfl) ?_
        refine wI_ast hx hb hK hP hD hS 10 0 rfl rfl 0 rfl (by omega) (by decide) dX2_releaseJob_72 (fun H locs hP hD hS => ?_)
        have hP : va_P (dC, dI) vwCl (wSim s0 z (upd M 7 (drw (M 7))) ++ (wCfg cy (z 0) bq G (nI n) sc ++ (wArr cy z rt (up2 Q 2 0 (nI u)) (up2 T 0 u (G 3 0))))) H := hP
        have hD : va_D A (wSim s0 z (upd M 7 (drw (M 7))) ++ (wCfg cy (z 0) bq G (nI n) sc ++ (wArr cy z rt (up2 Q 2 0 (nI u)) (up2 T 0 u (G 3 0))))) := hD
        refine lv_aload_n hx hb dX2_releaseJob_73 rfl (lv_at hl 1 rfl) ?_
        refine va_get (D := (dC, dI)) (ci := 2) (v := .ref (z 3)) (C := RX2) (T := TX2) (N := 15) hx hb hts hin2 hown hK hP 0 rfl rfl 3 (by decide) f_25 (fun _ h9 => h9) rfl dX2_releaseJob_74 ?_
        refine lv_iload_n hx hb dX2_releaseJob_77 rfl (lv_at hl 2 rfl) ?_
        refine lv_iconst (v := 0) hx hb dX2_releaseJob_78 (by decide) ?_
        refine wI_ast hx hb hK hP hD hS 11 0 rfl rfl 0 rfl (by omega) (by decide) dX2_releaseJob_79 (fun H locs hP hD hS => ?_)
        have hP : va_P (dC, dI) vwCl (wSim s0 z (upd M 7 (drw (M 7))) ++ (wCfg cy (z 0) bq G (nI n) sc ++ (wArr cy z rt (up2 (up2 Q 2 0 (nI u)) 3 0 0) (up2 T 0 u (G 3 0))))) H := hP
        have hD : va_D A (wSim s0 z (upd M 7 (drw (M 7))) ++ (wCfg cy (z 0) bq G (nI n) sc ++ (wArr cy z rt (up2 (up2 Q 2 0 (nI u)) 3 0 0) (up2 T 0 u (G 3 0))))) := hD
        refine lv_aload_n hx hb dX2_releaseJob_80 rfl (lv_at hl 1 rfl) ?_
        refine va_get (D := (dC, dI)) (ci := 2) (v := .ref (z 1)) (C := RX2) (T := TX2) (N := 15) hx hb hts hin2 hown hK hP 0 rfl rfl 1 (by decide) f_18 (fun _ h9 => h9) rfl dX2_releaseJob_81 ?_
        refine lv_iload_n hx hb dX2_releaseJob_84 rfl (lv_at hl 2 rfl) ?_
        refine lv_dup2_11 hx hb dX2_releaseJob_85 rfl rfl ?_
        refine wI_alv (v := Q 1 0) hx hb hK hP 9 0 rfl rfl 0 rfl (by omega) (by decide) rfl dX2_releaseJob_86 ?_
        refine lv_iconst (v := 1) hx hb dX2_releaseJob_87 (by decide) ?_
        refine lv_iadd hx hb dX2_releaseJob_88 ?_
        refine wI_ast hx hb hK hP hD hS 9 0 rfl rfl 0 rfl (by omega) (by decide) dX2_releaseJob_89 (fun H locs hP hD hS => ?_)
        have hP : va_P (dC, dI) vwCl (wSim s0 z (upd M 7 (drw (M 7))) ++ (wCfg cy (z 0) bq G (nI n) sc ++ (wArr cy z rt (up2 (up2 (up2 Q 2 0 (nI u)) 3 0 0) 1 0 ((Q 1 0) + 1)) (up2 T 0 u (G 3 0))))) H := hP
        have hD : va_D A (wSim s0 z (upd M 7 (drw (M 7))) ++ (wCfg cy (z 0) bq G (nI n) sc ++ (wArr cy z rt (up2 (up2 (up2 Q 2 0 (nI u)) 3 0 0) 1 0 ((Q 1 0) + 1)) (up2 T 0 u (G 3 0))))) := hD
        have hP9 : va_P (dC, dI) vwCl (wSim s0 z (upd M 7 (drw (M 7))) ++ (wCfg cy (z 0) bq G (nI n) sc ++ (wArr cy z rt (up2 (up2 (up2 Q 2 0 (nI u)) 3 0 0) 1 0 ((Q 1 0) + 1)) (up2 T 0 u (G 3 0))))) H := hP
        have hD9 : va_D A (wSim s0 z (upd M 7 (drw (M 7))) ++ (wCfg cy (z 0) bq G (nI n) sc ++ (wArr cy z rt (up2 (up2 (up2 Q 2 0 (nI u)) 3 0 0) 1 0 ((Q 1 0) + 1)) (up2 T 0 u (G 3 0))))) := hD
        exact W.vret hx hb hr (fun t ht hW => ⟨⟨(upd M 7 (drw (M 7)), up2 (up2 (up2 Q 2 0 (nI u)) 3 0 0) 1 0 ((Q 1 0) + 1), up2 T 0 u (G 3 0)), rfl, (by simp only [relJ]; rw [drM, if_neg (fun h => c_8 (b01.mpr h)), nds, if_neg (fun h => c_8 (b01.mpr h)), if_pos (nb10 c_15), relQ, if_pos c_63]), by rw [ht]; exact hP9, hD9⟩, hS.F ht⟩) hS.2.2 dX2_releaseJob_90
set_option maxHeartbeats 1000000 in
set_option maxRecDepth 100000 in
/-- a job of task 1 -/
theorem c_X2_releaseJob_1 (l : Launch) (dC : Nat → ClassId) (dI : Nat → Nat → Nat) (cy : Nat → ClassId) (sz : Nat) (s0 : Nat) (z : Nat → Nat) (M : Nat → Int32) (bq : Nat → Nat) (G : vG) (n : Nat) (hn : n ≤ 8) (sc : Int32) (Q : vG) (rt : Nat → Nat) (T : vG) (u : Nat) (hu : u < 200) : Met l yX2_releaseJob wsX2_releaseJob ({ frames := 1, cells := 0, slots := 0, locals := 21 }) (va_Pc [.ref s0, .int (nI 1), .int (nI u)] (pIn dC dI cy (wSim s0 z M ++ (wCfg cy (z 0) bq G (nI n) sc ++ (wArr cy z rt Q T))) sz)) (va_Qv (fun (u9 : SSt) => u9 = relJ G 1 u (M, Q, T)) (fun (u : SSt) t => va_P (dC, dI) vwCl (wSim s0 z u.1 ++ (wCfg cy (z 0) bq G (nI n) sc ++ (wArr cy z rt u.2.1 u.2.2))) t.heap ∧ va_D (va_A (wSim s0 z M ++ (wCfg cy (z 0) bq G (nI n) sc ++ (wArr cy z rt Q T))) sz) (wSim s0 z u.1 ++ (wCfg cy (z 0) bq G (nI n) sc ++ (wArr cy z rt u.2.1 u.2.2)))) (va_A (wSim s0 z M ++ (wCfg cy (z 0) bq G (nI n) sc ++ (wArr cy z rt Q T))) sz)) 0 0 (va_A (wSim s0 z M ++ (wCfg cy (z 0) bq G (nI n) sc ++ (wArr cy z rt Q T))) sz) := by
  refine Met.ofW (cc := cX2_releaseJob) (maxL := 4) (ret := none) (by decide) rfl ?_
  intro p e s m args below meth c s₁ B hml hv
  obtain ⟨rfl, hsz, hP, hE, hD0⟩ := hv
  have hK := hE.1
  subst hsz
  have hD := hD0.self (sz := s.heap.size)
  generalize hAe : va_A (wSim s0 z M ++ (wCfg cy (z 0) bq G (nI n) sc ++ (wArr cy z rt Q T))) s.heap.size = A at hD ⊢
  have hA : ∀ q : Nat, s.heap.size ≤ q → A q := fun q h => by rw [← hAe]; exact Or.inr h
  have hS : va_S A s.heap s.heap [] := va_S.rf
  have hP : va_P (dC, dI) vwCl (wSim s0 z M ++ (wCfg cy (z 0) bq G (nI n) sc ++ (wArr cy z rt Q T))) s.heap := hP
  have hx := B.exec
  have hb := B.bytes
  have hr := B.returns
  have hts := atoms_spec (ws := wsX2_releaseJob) B.pre
  have hown : s.vm.findClass RX2 = some m.cls := findClass_of_methodNamed B.named
  have hlocks := B.notSynchronized
  have hin0 : ∀ w ∈ u_ws RX0 TX0 9, w ∈ wsX2_releaseJob := by decide +kernel
  have hin2 : ∀ w ∈ u_ws RX2 TX2 15, w ∈ wsX2_releaseJob := by decide +kernel
  have f_110 := va_Nw.use (A := ([.ref s0, .int (nI 1), .int (nI u)].toArray)) rfl (hE.f 4 rfl)
  have f_113 := va_Nw.use (A := ([.ref s0, .int (nI 1), .int (nI u)].toArray)) rfl (hE.f 2 rfl)
  have f_12 := hts (.fieldLink RX2 12 "DeadlineAdmission$Simulation" "tasks" "LDeadlineAdmission$Configuration;") (by decide +kernel)
  have f_18 := hts (.fieldLink RX2 18 "DeadlineAdmission$Simulation" "pendingJobs" "[I") (by decide +kernel)
  have f_22 := hts (.fieldLink RX2 22 "DeadlineAdmission$Simulation" "oldestRelease" "[I") (by decide +kernel)
  have f_25 := hts (.fieldLink RX2 25 "DeadlineAdmission$Simulation" "oldestHasRun" "[I") (by decide +kernel)
  have f_30 := hts (.fieldLink RX2 30 "DeadlineAdmission$Simulation" "runningTime" "[[I") (by decide +kernel)
  have hl := lv_entry ([.ref s0, .int (nI 1), .int (nI u)]) (n := 4) (Nat.le_of_ble_eq_true rfl)
  rw [lg_entry_eq]
  generalize (lg_sl ([.ref s0, .int (nI 1), .int (nI u)]) ++ List.replicate (4 - (lg_sl ([.ref s0, .int (nI 1), .int (nI u)])).length) Slot.unset).toArray = ls at hl ⊢
  have hl : lv_has ls 4 [(0, .ref s0), (1, .int (nI 1)), (2, .int (nI u))] := hl
  refine lv_aload_n hx hb dX2_releaseJob_0 rfl (lv_at hl 0 rfl) ?_
  refine va_get (D := (dC, dI)) (ci := 2) (v := .ref (z 0)) (C := RX2) (T := TX2) (N := 15) hx hb hts hin2 hown hK hP 0 rfl rfl 0 (by decide) f_12 (fun _ h9 => h9) rfl dX2_releaseJob_1 ?_
  refine lv_iload_n hx hb dX2_releaseJob_4 rfl (lv_at hl 1 rfl) ?_
  refine vp_callSi (va_runV (As := [.int (nI 1)]) (rest := []) ⟨hx, hb, hml, hown, hts⟩ (c_X0_hasHighBudget l dC dI cy (z 0) bq G (nI n) sc  1 (by omega)) (cwV 1 hts gX2_releaseJob_X0_hasHighBudget rfl rfl rfl (by decide +kernel) ⟨Nat.le_of_ble_eq_true rfl, Nat.le_of_ble_eq_true rfl⟩) ⟨bl_ro, va_recv hK (hP.sub (ws' := wCfg cy (z 0) bq G (nI n) sc) [1, 2, 3, 4, 5, 6, 7, 8] rfl) (ci := 0) (q0 := 0) rfl rfl, pr_ro (hP.sub (ws' := wCfg cy (z 0) bq G (nI n) sc) [1, 2, 3, 4, 5, 6, 7, 8] rfl) hE⟩ rfl rfl hl.1 rfl (lv_room (Nat.le_of_ble_eq_true rfl)) dX2_releaseJob_5 ⟨Nat.le_of_ble_eq_true rfl, Nat.le_of_ble_eq_true rfl⟩).run (fun r e_r => ?_)
  subst e_r
  refine lv_if_eq (tgt := 22) hx hb dX2_releaseJob_8 (by decide) (fun c_8 => ?_) (fun c_8 => ?_)
  · refine lv_iconst (v := 0) hx hb dX2_releaseJob_22 (by decide) ?_
    refine lv_istore_n (lv' := [(3, .int 0), (0, .ref s0), (1, .int (nI 1)), (2, .int (nI u))]) hx hb dX2_releaseJob_23 rfl hl (by decide) rfl (fun ls hl => ?_)
    refine lv_aload_n hx hb dX2_releaseJob_24 rfl (lv_at hl 1 rfl) ?_
    refine va_get (D := (dC, dI)) (ci := 2) (v := .ref (z 4)) (C := RX2) (T := TX2) (N := 15) hx hb hts hin2 hown hK hP 0 rfl rfl 4 (by decide) f_30 (fun _ h9 => h9) rfl dX2_releaseJob_25 ?_
    refine lv_iload_n hx hb dX2_releaseJob_28 rfl (lv_at hl 2 rfl) ?_
    refine wB_ald (q := (rt 1)) hx hb hK hP 12 2 rfl rfl 1 rfl (by omega) (by decide) rfl dX2_releaseJob_29 ?_
    refine lv_iload_n hx hb dX2_releaseJob_30 rfl (lv_at hl 3 rfl) ?_
    refine lv_iload_n hx hb dX2_releaseJob_31 rfl (lv_at hl 0 rfl) ?_
    refine lv_if_eq (tgt := 47) hx hb dX2_releaseJob_32 (by decide) (fun _ => ?_) (fun h0 => absurd h0 (by decide))
    refine lv_aload_n hx hb dX2_releaseJob_47 rfl (lv_at hl 1 rfl) ?_
    refine va_get (D := (dC, dI)) (ci := 2) (v := .ref (z 0)) (C := RX2) (T := TX2) (N := 15) hx hb hts hin2 hown hK hP 0 rfl rfl 0 (by decide) f_12 (fun _ h9 => h9) rfl dX2_releaseJob_48 ?_
    refine va_getN (D := (dC, dI)) (ci := 0) (v := .ref (bq 2)) (C := RX0) (T := TX0) (N := 9) hx hb hts hin0 hown hK hP 1 rfl rfl 2 (by decide) f_113 (fun _ h9 => h9) rfl dX2_releaseJob_51 ?_
    refine lv_iload_n hx hb dX2_releaseJob_54 rfl (lv_at hl 2 rfl) ?_
    refine wI_alv (v := G 2 1) hx hb hK hP 4 0 rfl rfl 1 rfl (by omega) (by decide) rfl dX2_releaseJob_55 ?_
    refine wI_ast hx hb hK hP hD hS 15 0 rfl rfl u rfl (by omega) (by decide) dX2_releaseJob_56 (fun H locs hP hD hS => ?_)
    have hP : va_P (dC, dI) vwCl (wSim s0 z M ++ (wCfg cy (z 0) bq G (nI n) sc ++ (wArr cy z rt Q (up2 T 1 u (G 2 1))))) H := hP
    have hD : va_D A (wSim s0 z M ++ (wCfg cy (z 0) bq G (nI n) sc ++ (wArr cy z rt Q (up2 T 1 u (G 2 1))))) := hD
    refine lv_aload_n hx hb dX2_releaseJob_57 rfl (lv_at hl 1 rfl) ?_
    refine va_get (D := (dC, dI)) (ci := 2) (v := .ref (z 1)) (C := RX2) (T := TX2) (N := 15) hx hb hts hin2 hown hK hP 0 rfl rfl 1 (by decide) f_18 (fun _ h9 => h9) rfl dX2_releaseJob_58 ?_
    refine lv_iload_n hx hb dX2_releaseJob_61 rfl (lv_at hl 2 rfl) ?_
    refine wI_alv (v := Q 1 1) hx hb hK hP 9 0 rfl rfl 1 rfl (by omega) (by decide) rfl dX2_releaseJob_62 ?_
    refine lv_if_ne (tgt := 80) hx hb dX2_releaseJob_63 (by decide) (fun c_63 => ?_) (fun c_63 => ?_)
    · refine lv_aload_n hx hb dX2_releaseJob_80 rfl (lv_at hl 1 rfl) ?_
      refine va_get (D := (dC, dI)) (ci := 2) (v := .ref (z 1)) (C := RX2) (T := TX2) (N := 15) hx hb hts hin2 hown hK hP 0 rfl rfl 1 (by decide) f_18 (fun _ h9 => h9) rfl dX2_releaseJob_81 ?_
      refine lv_iload_n hx hb dX2_releaseJob_84 rfl (lv_at hl 2 rfl) ?_
      refine lv_dup2_11 hx hb dX2_releaseJob_85 rfl rfl ?_
      refine wI_alv (v := Q 1 1) hx hb hK hP 9 0 rfl rfl 1 rfl (by omega) (by decide) rfl dX2_releaseJob_86 ?_
      refine lv_iconst (v := 1) hx hb dX2_releaseJob_87 (by decide) ?_
      refine lv_iadd hx hb dX2_releaseJob_88 ?_
      refine wI_ast hx hb hK hP hD hS 9 0 rfl rfl 1 rfl (by omega) (by decide) dX2_releaseJob_89 (fun H locs hP hD hS => ?_)
      have hP : va_P (dC, dI) vwCl (wSim s0 z M ++ (wCfg cy (z 0) bq G (nI n) sc ++ (wArr cy z rt (up2 Q 1 1 ((Q 1 1) + 1)) (up2 T 1 u (G 2 1))))) H := hP
      have hD : va_D A (wSim s0 z M ++ (wCfg cy (z 0) bq G (nI n) sc ++ (wArr cy z rt (up2 Q 1 1 ((Q 1 1) + 1)) (up2 T 1 u (G 2 1))))) := hD
      have hP9 : va_P (dC, dI) vwCl (wSim s0 z M ++ (wCfg cy (z 0) bq G (nI n) sc ++ (wArr cy z rt (up2 Q 1 1 ((Q 1 1) + 1)) (up2 T 1 u (G 2 1))))) H := hP
      have hD9 : va_D A (wSim s0 z M ++ (wCfg cy (z 0) bq G (nI n) sc ++ (wArr cy z rt (up2 Q 1 1 ((Q 1 1) + 1)) (up2 T 1 u (G 2 1))))) := hD
      exact W.vret hx hb hr (fun t ht hW => ⟨⟨(M, up2 Q 1 1 ((Q 1 1) + 1), up2 T 1 u (G 2 1)), rfl, (by simp only [relJ]; rw [drM, if_pos (b01.mp c_8), nds, if_pos (b01.mp c_8), relQ, if_neg c_63]), by rw [ht]; exact hP9, hD9⟩, hS.F ht⟩) hS.2.2 dX2_releaseJob_90
    · refine lv_aload_n hx hb dX2_releaseJob_66 rfl (lv_at hl 1 rfl) ?_
      refine va_get (D := (dC, dI)) (ci := 2) (v := .ref (z 2)) (C := RX2) (T := TX2) (N := 15) hx hb hts hin2 hown hK hP 0 rfl rfl 2 (by decide) f_22 (fun _ h9 => h9) rfl dX2_releaseJob_67 ?_
      refine lv_iload_n hx hb dX2_releaseJob_70 rfl (lv_at hl 2 rfl) ?_
      refine lv_iload_n hx hb dX2_releaseJob_71 rfl (lv_at hl 3 rfl) ?_
      refine wI_ast hx hb hK hP hD hS 10 0 rfl rfl 1 rfl (by omega) (by decide) dX2_releaseJob_72 (fun H locs hP hD hS => ?_)
      have hP : va_P (dC, dI) vwCl (wSim s0 z M ++ (wCfg cy (z 0) bq G (nI n) sc ++ (wArr cy z rt (up2 Q 2 1 (nI u)) (up2 T 1 u (G 2 1))))) H := hP
      have hD : va_D A (wSim s0 z M ++ (wCfg cy (z 0) bq G (nI n) sc ++ (wArr cy z rt (up2 Q 2 1 (nI u)) (up2 T 1 u (G 2 1))))) := hD
      refine lv_aload_n hx hb dX2_releaseJob_73 rfl (lv_at hl 1 rfl) ?_
      refine va_get (D := (dC, dI)) (ci := 2) (v := .ref (z 3)) (C := RX2) (T := TX2) (N := 15) hx hb hts hin2 hown hK hP 0 rfl rfl 3 (by decide) f_25 (fun _ h9 => h9) rfl dX2_releaseJob_74 ?_
      refine lv_iload_n hx hb dX2_releaseJob_77 rfl (lv_at hl 2 rfl) ?_
      refine lv_iconst (v := 0) hx hb dX2_releaseJob_78 (by decide) ?_
      refine wI_ast hx hb hK hP hD hS 11 0 rfl rfl 1 rfl (by omega) (by decide) dX2_releaseJob_79 (fun H locs hP hD hS => ?_)
      have hP : va_P (dC, dI) vwCl (wSim s0 z M ++ (wCfg cy (z 0) bq G (nI n) sc ++ (wArr cy z rt (up2 (up2 Q 2 1 (nI u)) 3 1 0) (up2 T 1 u (G 2 1))))) H := hP
      have hD : va_D A (wSim s0 z M ++ (wCfg cy (z 0) bq G (nI n) sc ++ (wArr cy z rt (up2 (up2 Q 2 1 (nI u)) 3 1 0) (up2 T 1 u (G 2 1))))) := hD
      refine lv_aload_n hx hb dX2_releaseJob_80 rfl (lv_at hl 1 rfl) ?_
      refine va_get (D := (dC, dI)) (ci := 2) (v := .ref (z 1)) (C := RX2) (T := TX2) (N := 15) hx hb hts hin2 hown hK hP 0 rfl rfl 1 (by decide) f_18 (fun _ h9 => h9) rfl dX2_releaseJob_81 ?_
      refine lv_iload_n hx hb dX2_releaseJob_84 rfl (lv_at hl 2 rfl) ?_
      refine lv_dup2_11 hx hb dX2_releaseJob_85 rfl rfl ?_
      refine wI_alv (v := Q 1 1) hx hb hK hP 9 0 rfl rfl 1 rfl (by omega) (by decide) rfl dX2_releaseJob_86 ?_
      refine lv_iconst (v := 1) hx hb dX2_releaseJob_87 (by decide) ?_
      refine lv_iadd hx hb dX2_releaseJob_88 ?_
      refine wI_ast hx hb hK hP hD hS 9 0 rfl rfl 1 rfl (by omega) (by decide) dX2_releaseJob_89 (fun H locs hP hD hS => ?_)
      have hP : va_P (dC, dI) vwCl (wSim s0 z M ++ (wCfg cy (z 0) bq G (nI n) sc ++ (wArr cy z rt (up2 (up2 (up2 Q 2 1 (nI u)) 3 1 0) 1 1 ((Q 1 1) + 1)) (up2 T 1 u (G 2 1))))) H := hP
      have hD : va_D A (wSim s0 z M ++ (wCfg cy (z 0) bq G (nI n) sc ++ (wArr cy z rt (up2 (up2 (up2 Q 2 1 (nI u)) 3 1 0) 1 1 ((Q 1 1) + 1)) (up2 T 1 u (G 2 1))))) := hD
      have hP9 : va_P (dC, dI) vwCl (wSim s0 z M ++ (wCfg cy (z 0) bq G (nI n) sc ++ (wArr cy z rt (up2 (up2 (up2 Q 2 1 (nI u)) 3 1 0) 1 1 ((Q 1 1) + 1)) (up2 T 1 u (G 2 1))))) H := hP
      have hD9 : va_D A (wSim s0 z M ++ (wCfg cy (z 0) bq G (nI n) sc ++ (wArr cy z rt (up2 (up2 (up2 Q 2 1 (nI u)) 3 1 0) 1 1 ((Q 1 1) + 1)) (up2 T 1 u (G 2 1))))) := hD
      exact W.vret hx hb hr (fun t ht hW => ⟨⟨(M, up2 (up2 (up2 Q 2 1 (nI u)) 3 1 0) 1 1 ((Q 1 1) + 1), up2 T 1 u (G 2 1)), rfl, (by simp only [relJ]; rw [drM, if_pos (b01.mp c_8), nds, if_pos (b01.mp c_8), relQ, if_pos c_63]), by rw [ht]; exact hP9, hD9⟩, hS.F ht⟩) hS.2.2 dX2_releaseJob_90
  · refine lv_aload_n hx hb dX2_releaseJob_11 rfl (lv_at hl 0 rfl) ?_
    have hPc := hP.sub (ws' := wSim s0 z M) [0] rfl
    have hDc := hD.sub (ws' := wSim s0 z M) [0] (by decide) rfl
    have hFc := va_free (wc := wSim s0 z M) hD hS hA [0] rfl
    refine va_calli (va_runV (As := []) (rest := []) ⟨hx, hb, hml, hown, hts⟩ (c_X2_drawOverrun l dC dI cy s.heap.size s0 z M) (cwV 0 hts gX2_releaseJob_X2_drawOverrun rfl rfl rfl (by decide +kernel) ⟨Nat.le_of_ble_eq_true rfl, Nat.le_of_ble_eq_true rfl⟩) ⟨bl_in, va_recv hK hPc (ci := 2) (q0 := 0) rfl rfl, pr_in hPc hE hDc⟩ rfl rfl hl.1 rfl (lv_room (Nat.le_of_ble_eq_true rfl)) dX2_releaseJob_12 ⟨Nat.le_of_ble_eq_true rfl, Nat.le_of_ble_eq_true rfl⟩) hS (fun q _ h => hFc q h) hFc (fun r u t H1 locs ht hvm hw hB hz1 hk1 hS => ?_)
    obtain ⟨rfl, rfl⟩ := hw
    obtain ⟨hP1, hD1⟩ := hB
    rw [ht] at hP1
    obtain ⟨hP, hD⟩ := va_join (wr := wCfg cy (z 0) bq G (nI n) sc ++ (wArr cy z rt Q T)) (w1 := wSim s0 z (upd M 7 (drw (M 7)))) hP hD [0] [1, 2, 3, 4, 5, 6, 7, 8, 9, 10, 11, 12, 13, 14, 15, 16, 17, 18, 19, 20, 21] rfl rfl (by decide) (by decide) hk1 hFc hP1 hD1
    have hP : va_P (dC, dI) vwCl (wSim s0 z (upd M 7 (drw (M 7))) ++ (wCfg cy (z 0) bq G (nI n) sc ++ (wArr cy z rt Q T))) H1 := hP.sub [21, 0, 1, 2, 3, 4, 5, 6, 7, 8, 9, 10, 11, 12, 13, 14, 15, 16, 17, 18, 19, 20] rfl
    have hD : va_D A (wSim s0 z (upd M 7 (drw (M 7))) ++ (wCfg cy (z 0) bq G (nI n) sc ++ (wArr cy z rt Q T))) := hD.sub [21, 0, 1, 2, 3, 4, 5, 6, 7, 8, 9, 10, 11, 12, 13, 14, 15, 16, 17, 18, 19, 20] (by decide) rfl
    clear hz1 hk1 hPc hDc hFc hP1 hD1
    generalize H1 = H at hP hS ⊢
    refine lv_topi (fun y_ ey_ => ?_)
    obtain rfl : y_ = if ovr (drw (M 7)) (M 8) then 1 else 0 := ey_
    refine lv_if_eq (tgt := 22) hx hb dX2_releaseJob_15 (by decide) (fun c_15 => ?_) (fun c_15 => ?_)
    · refine lv_iconst (v := 0) hx hb dX2_releaseJob_22 (by decide) ?_
      refine lv_istore_n (lv' := [(3, .int 0), (0, .ref s0), (1, .int (nI 1)), (2, .int (nI u))]) hx hb dX2_releaseJob_23 rfl hl (by decide) rfl (fun ls hl => ?_)
      refine lv_aload_n hx hb dX2_releaseJob_24 rfl (lv_at hl 1 rfl) ?_
      refine va_get (D := (dC, dI)) (ci := 2) (v := .ref (z 4)) (C := RX2) (T := TX2) (N := 15) hx hb hts hin2 hown hK hP 0 rfl rfl 4 (by decide) f_30 (fun _ h9 => h9) rfl dX2_releaseJob_25 ?_
      refine lv_iload_n hx hb dX2_releaseJob_28 rfl (lv_at hl 2 rfl) ?_
      refine wB_ald (q := (rt 1)) hx hb hK hP 12 2 rfl rfl 1 rfl (by omega) (by decide) rfl dX2_releaseJob_29 ?_
      refine lv_iload_n hx hb dX2_releaseJob_30 rfl (lv_at hl 3 rfl) ?_
      refine lv_iload_n hx hb dX2_releaseJob_31 rfl (lv_at hl 0 rfl) ?_
      refine lv_if_eq (tgt := 47) hx hb dX2_releaseJob_32 (by decide) (fun _ => ?_) (fun h0 => absurd h0 (by decide))
      refine lv_aload_n hx hb dX2_releaseJob_47 rfl (lv_at hl 1 rfl) ?_
      refine va_get (D := (dC, dI)) (ci := 2) (v := .ref (z 0)) (C := RX2) (T := TX2) (N := 15) hx hb hts hin2 hown hK hP 0 rfl rfl 0 (by decide) f_12 (fun _ h9 => h9) rfl dX2_releaseJob_48 ?_
      refine va_getN (D := (dC, dI)) (ci := 0) (v := .ref (bq 2)) (C := RX0) (T := TX0) (N := 9) hx hb hts hin0 hown hK hP 1 rfl rfl 2 (by decide) f_113 (fun _ h9 => h9) rfl dX2_releaseJob_51 ?_
      refine lv_iload_n hx hb dX2_releaseJob_54 rfl (lv_at hl 2 rfl) ?_
      refine wI_alv (v := G 2 1) hx hb hK hP 4 0 rfl rfl 1 rfl (by omega) (by decide) rfl dX2_releaseJob_55 ?_
      refine wI_ast hx hb hK hP hD hS 15 0 rfl rfl u rfl (by omega) (by decide) dX2_releaseJob_56 (fun H locs hP hD hS => ?_)
      have hP : va_P (dC, dI) vwCl (wSim s0 z (upd M 7 (drw (M 7))) ++ (wCfg cy (z 0) bq G (nI n) sc ++ (wArr cy z rt Q (up2 T 1 u (G 2 1))))) H := hP
      have hD : va_D A (wSim s0 z (upd M 7 (drw (M 7))) ++ (wCfg cy (z 0) bq G (nI n) sc ++ (wArr cy z rt Q (up2 T 1 u (G 2 1))))) := hD
      refine lv_aload_n hx hb dX2_releaseJob_57 rfl (lv_at hl 1 rfl) ?_
      refine va_get (D := (dC, dI)) (ci := 2) (v := .ref (z 1)) (C := RX2) (T := TX2) (N := 15) hx hb hts hin2 hown hK hP 0 rfl rfl 1 (by decide) f_18 (fun _ h9 => h9) rfl dX2_releaseJob_58 ?_
      refine lv_iload_n hx hb dX2_releaseJob_61 rfl (lv_at hl 2 rfl) ?_
      refine wI_alv (v := Q 1 1) hx hb hK hP 9 0 rfl rfl 1 rfl (by omega) (by decide) rfl dX2_releaseJob_62 ?_
      refine lv_if_ne (tgt := 80) hx hb dX2_releaseJob_63 (by decide) (fun c_63 => ?_) (fun c_63 => ?_)
      · refine lv_aload_n hx hb dX2_releaseJob_80 rfl (lv_at hl 1 rfl) ?_
        refine va_get (D := (dC, dI)) (ci := 2) (v := .ref (z 1)) (C := RX2) (T := TX2) (N := 15) hx hb hts hin2 hown hK hP 0 rfl rfl 1 (by decide) f_18 (fun _ h9 => h9) rfl dX2_releaseJob_81 ?_
        refine lv_iload_n hx hb dX2_releaseJob_84 rfl (lv_at hl 2 rfl) ?_
        refine lv_dup2_11 hx hb dX2_releaseJob_85 rfl rfl ?_
        refine wI_alv (v := Q 1 1) hx hb hK hP 9 0 rfl rfl 1 rfl (by omega) (by decide) rfl dX2_releaseJob_86 ?_
        refine lv_iconst (v := 1) hx hb dX2_releaseJob_87 (by decide) ?_
        refine lv_iadd hx hb dX2_releaseJob_88 ?_
        refine wI_ast hx hb hK hP hD hS 9 0 rfl rfl 1 rfl (by omega) (by decide) dX2_releaseJob_89 (fun H locs hP hD hS => ?_)
        have hP : va_P (dC, dI) vwCl (wSim s0 z (upd M 7 (drw (M 7))) ++ (wCfg cy (z 0) bq G (nI n) sc ++ (wArr cy z rt (up2 Q 1 1 ((Q 1 1) + 1)) (up2 T 1 u (G 2 1))))) H := hP
        have hD : va_D A (wSim s0 z (upd M 7 (drw (M 7))) ++ (wCfg cy (z 0) bq G (nI n) sc ++ (wArr cy z rt (up2 Q 1 1 ((Q 1 1) + 1)) (up2 T 1 u (G 2 1))))) := hD
        have hP9 : va_P (dC, dI) vwCl (wSim s0 z (upd M 7 (drw (M 7))) ++ (wCfg cy (z 0) bq G (nI n) sc ++ (wArr cy z rt (up2 Q 1 1 ((Q 1 1) + 1)) (up2 T 1 u (G 2 1))))) H := hP
        have hD9 : va_D A (wSim s0 z (upd M 7 (drw (M 7))) ++ (wCfg cy (z 0) bq G (nI n) sc ++ (wArr cy z rt (up2 Q 1 1 ((Q 1 1) + 1)) (up2 T 1 u (G 2 1))))) := hD
        exact W.vret hx hb hr (fun t ht hW => ⟨⟨(upd M 7 (drw (M 7)), up2 Q 1 1 ((Q 1 1) + 1), up2 T 1 u (G 2 1)), rfl, (by simp only [relJ]; rw [drM, if_neg (fun h => c_8 (b01.mpr h)), nds, if_neg (fun h => c_8 (b01.mpr h)), if_neg (b10.mp c_15), relQ, if_neg c_63]), by rw [ht]; exact hP9, hD9⟩, hS.F ht⟩) hS.2.2 dX2_releaseJob_90
      · refine lv_aload_n hx hb dX2_releaseJob_66 rfl (lv_at hl 1 rfl) ?_
        refine va_get (D := (dC, dI)) (ci := 2) (v := .ref (z 2)) (C := RX2) (T := TX2) (N := 15) hx hb hts hin2 hown hK hP 0 rfl rfl 2 (by decide) f_22 (fun _ h9 => h9) rfl dX2_releaseJob_67 ?_
        refine lv_iload_n hx hb dX2_releaseJob_70 rfl (lv_at hl 2 rfl) ?_
        refine lv_iload_n hx hb dX2_releaseJob_71 rfl (lv_at hl 3 rfl) ?_
        refine wI_ast hx hb hK hP hD hS 10 0 rfl rfl 1 rfl (by omega) (by decide) dX2_releaseJob_72 (fun H locs hP hD hS => ?_)
        have hP : va_P (dC, dI) vwCl (wSim s0 z (upd M 7 (drw (M 7))) ++ (wCfg cy (z 0) bq G (nI n) sc ++ (wArr cy z rt (up2 Q 2 1 (nI u)) (up2 T 1 u (G 2 1))))) H := hP
        have hD : va_D A (wSim s0 z (upd M 7 (drw (M 7))) ++ (wCfg cy (z 0) bq G (nI n) sc ++ (wArr cy z rt (up2 Q 2 1 (nI u)) (up2 T 1 u (G 2 1))))) := hD
        refine lv_aload_n hx hb dX2_releaseJob_73 rfl (lv_at hl 1 rfl) ?_
        refine va_get (D := (dC, dI)) (ci := 2) (v := .ref (z 3)) (C := RX2) (T := TX2) (N := 15) hx hb hts hin2 hown hK hP 0 rfl rfl 3 (by decide) f_25 (fun _ h9 => h9) rfl dX2_releaseJob_74 ?_
        refine lv_iload_n hx hb dX2_releaseJob_77 rfl (lv_at hl 2 rfl) ?_
        refine lv_iconst (v := 0) hx hb dX2_releaseJob_78 (by decide) ?_
        refine wI_ast hx hb hK hP hD hS 11 0 rfl rfl 1 rfl (by omega) (by decide) dX2_releaseJob_79 (fun H locs hP hD hS => ?_)
        have hP : va_P (dC, dI) vwCl (wSim s0 z (upd M 7 (drw (M 7))) ++ (wCfg cy (z 0) bq G (nI n) sc ++ (wArr cy z rt (up2 (up2 Q 2 1 (nI u)) 3 1 0) (up2 T 1 u (G 2 1))))) H := hP
        have hD : va_D A (wSim s0 z (upd M 7 (drw (M 7))) ++ (wCfg cy (z 0) bq G (nI n) sc ++ (wArr cy z rt (up2 (up2 Q 2 1 (nI u)) 3 1 0) (up2 T 1 u (G 2 1))))) := hD
        refine lv_aload_n hx hb dX2_releaseJob_80 rfl (lv_at hl 1 rfl) ?_
        refine va_get (D := (dC, dI)) (ci := 2) (v := .ref (z 1)) (C := RX2) (T := TX2) (N := 15) hx hb hts hin2 hown hK hP 0 rfl rfl 1 (by decide) f_18 (fun _ h9 => h9) rfl dX2_releaseJob_81 ?_
        refine lv_iload_n hx hb dX2_releaseJob_84 rfl (lv_at hl 2 rfl) ?_
        refine lv_dup2_11 hx hb dX2_releaseJob_85 rfl rfl ?_
        refine wI_alv (v := Q 1 1) hx hb hK hP 9 0 rfl rfl 1 rfl (by omega) (by decide) rfl dX2_releaseJob_86 ?_
        refine lv_iconst (v := 1) hx hb dX2_releaseJob_87 (by decide) ?_
        refine lv_iadd hx hb dX2_releaseJob_88 ?_
        refine wI_ast hx hb hK hP hD hS 9 0 rfl rfl 1 rfl (by omega) (by decide) dX2_releaseJob_89 (fun H locs hP hD hS => ?_)
        have hP : va_P (dC, dI) vwCl (wSim s0 z (upd M 7 (drw (M 7))) ++ (wCfg cy (z 0) bq G (nI n) sc ++ (wArr cy z rt (up2 (up2 (up2 Q 2 1 (nI u)) 3 1 0) 1 1 ((Q 1 1) + 1)) (up2 T 1 u (G 2 1))))) H := hP
        have hD : va_D A (wSim s0 z (upd M 7 (drw (M 7))) ++ (wCfg cy (z 0) bq G (nI n) sc ++ (wArr cy z rt (up2 (up2 (up2 Q 2 1 (nI u)) 3 1 0) 1 1 ((Q 1 1) + 1)) (up2 T 1 u (G 2 1))))) := hD
        have hP9 : va_P (dC, dI) vwCl (wSim s0 z (upd M 7 (drw (M 7))) ++ (wCfg cy (z 0) bq G (nI n) sc ++ (wArr cy z rt (up2 (up2 (up2 Q 2 1 (nI u)) 3 1 0) 1 1 ((Q 1 1) + 1)) (up2 T 1 u (G 2 1))))) H := hP
        have hD9 : va_D A (wSim s0 z (upd M 7 (drw (M 7))) ++ (wCfg cy (z 0) bq G (nI n) sc ++ (wArr cy z rt (up2 (up2 (up2 Q 2 1 (nI u)) 3 1 0) 1 1 ((Q 1 1) + 1)) (up2 T 1 u (G 2 1))))) := hD
        exact W.vret hx hb hr (fun t ht hW => ⟨⟨(upd M 7 (drw (M 7)), up2 (up2 (up2 Q 2 1 (nI u)) 3 1 0) 1 1 ((Q 1 1) + 1), up2 T 1 u (G 2 1)), rfl, (by simp only [relJ]; rw [drM, if_neg (fun h => c_8 (b01.mpr h)), nds, if_neg (fun h => c_8 (b01.mpr h)), if_neg (b10.mp c_15), relQ, if_pos c_63]), by rw [ht]; exact hP9, hD9⟩, hS.F ht⟩) hS.2.2 dX2_releaseJob_90
    · refine lv_iconst (v := 1) hx hb dX2_releaseJob_18 (by decide) ?_
      refine lv_goto (tgt := 23) hx hb dX2_releaseJob_19 (by decide) ?_
      refine lv_istore_n (lv' := [(3, .int 1), (0, .ref s0), (1, .int (nI 1)), (2, .int (nI u))]) hx hb dX2_releaseJob_23 rfl hl (by decide) rfl (fun ls hl => ?_)
      refine lv_aload_n hx hb dX2_releaseJob_24 rfl (lv_at hl 1 rfl) ?_
      refine va_get (D := (dC, dI)) (ci := 2) (v := .ref (z 4)) (C := RX2) (T := TX2) (N := 15) hx hb hts hin2 hown hK hP 0 rfl rfl 4 (by decide) f_30 (fun _ h9 => h9) rfl dX2_releaseJob_25 ?_
      refine lv_iload_n hx hb dX2_releaseJob_28 rfl (lv_at hl 2 rfl) ?_
      refine wB_ald (q := (rt 1)) hx hb hK hP 12 2 rfl rfl 1 rfl (by omega) (by decide) rfl dX2_releaseJob_29 ?_
      refine lv_iload_n hx hb dX2_releaseJob_30 rfl (lv_at hl 3 rfl) ?_
      refine lv_iload_n hx hb dX2_releaseJob_31 rfl (lv_at hl 0 rfl) ?_
      refine lv_if_eq (tgt := 47) hx hb dX2_releaseJob_32 (by decide) (fun h0 => absurd h0 (by decide)) (fun _ => ?_)
      refine lv_aload_n hx hb dX2_releaseJob_35 rfl (lv_at hl 1 rfl) ?_
      refine va_get (D := (dC, dI)) (ci := 2) (v := .ref (z 0)) (C := RX2) (T := TX2) (N := 15) hx hb hts hin2 hown hK hP 0 rfl rfl 0 (by decide) f_12 (fun _ h9 => h9) rfl dX2_releaseJob_36 ?_
      refine va_getN (D := (dC, dI)) (ci := 0) (v := .ref (bq 3)) (C := RX0) (T := TX0) (N := 9) hx hb hts hin0 hown hK hP 1 rfl rfl 3 (by decide) f_110 (fun _ h9 => h9) rfl dX2_releaseJob_39 ?_
      refine lv_iload_n hx hb dX2_releaseJob_42 rfl (lv_at hl 2 rfl) ?_
      refine wI_alv (v := G 3 1) hx hb hK hP 5 0 rfl rfl 1 rfl (by omega) (by decide) rfl dX2_releaseJob_43 ?_
      refine lv_goto (tgt := 56) hx hb dX2_releaseJob_44 (by decide) ?_
      refine wI_ast hx hb hK hP hD hS 15 0 rfl rfl u rfl (by omega) (by decide) dX2_releaseJob_56 (fun H locs hP hD hS => ?_)
      have hP : va_P (dC, dI) vwCl (wSim s0 z (upd M 7 (drw (M 7))) ++ (wCfg cy (z 0) bq G (nI n) sc ++ (wArr cy z rt Q (up2 T 1 u (G 3 1))))) H := hP
      have hD : va_D A (wSim s0 z (upd M 7 (drw (M 7))) ++ (wCfg cy (z 0) bq G (nI n) sc ++ (wArr cy z rt Q (up2 T 1 u (G 3 1))))) := hD
      refine lv_aload_n hx hb dX2_releaseJob_57 rfl (lv_at hl 1 rfl) ?_
      refine va_get (D := (dC, dI)) (ci := 2) (v := .ref (z 1)) (C := RX2) (T := TX2) (N := 15) hx hb hts hin2 hown hK hP 0 rfl rfl 1 (by decide) f_18 (fun _ h9 => h9) rfl dX2_releaseJob_58 ?_
      refine lv_iload_n hx hb dX2_releaseJob_61 rfl (lv_at hl 2 rfl) ?_
      refine wI_alv (v := Q 1 1) hx hb hK hP 9 0 rfl rfl 1 rfl (by omega) (by decide) rfl dX2_releaseJob_62 ?_
      refine lv_if_ne (tgt := 80) hx hb dX2_releaseJob_63 (by decide) (fun c_63 => ?_) (fun c_63 => ?_)
      · refine lv_aload_n hx hb dX2_releaseJob_80 rfl (lv_at hl 1 rfl) ?_
        refine va_get (D := (dC, dI)) (ci := 2) (v := .ref (z 1)) (C := RX2) (T := TX2) (N := 15) hx hb hts hin2 hown hK hP 0 rfl rfl 1 (by decide) f_18 (fun _ h9 => h9) rfl dX2_releaseJob_81 ?_
        refine lv_iload_n hx hb dX2_releaseJob_84 rfl (lv_at hl 2 rfl) ?_
        refine lv_dup2_11 hx hb dX2_releaseJob_85 rfl rfl ?_
        refine wI_alv (v := Q 1 1) hx hb hK hP 9 0 rfl rfl 1 rfl (by omega) (by decide) rfl dX2_releaseJob_86 ?_
        refine lv_iconst (v := 1) hx hb dX2_releaseJob_87 (by decide) ?_
        refine lv_iadd hx hb dX2_releaseJob_88 ?_
        refine wI_ast hx hb hK hP hD hS 9 0 rfl rfl 1 rfl (by omega) (by decide) dX2_releaseJob_89 (fun H locs hP hD hS => ?_)
        have hP : va_P (dC, dI) vwCl (wSim s0 z (upd M 7 (drw (M 7))) ++ (wCfg cy (z 0) bq G (nI n) sc ++ (wArr cy z rt (up2 Q 1 1 ((Q 1 1) + 1)) (up2 T 1 u (G 3 1))))) H := hP
        have hD : va_D A (wSim s0 z (upd M 7 (drw (M 7))) ++ (wCfg cy (z 0) bq G (nI n) sc ++ (wArr cy z rt (up2 Q 1 1 ((Q 1 1) + 1)) (up2 T 1 u (G 3 1))))) := hD
        have hP9 : va_P (dC, dI) vwCl (wSim s0 z (upd M 7 (drw (M 7))) ++ (wCfg cy (z 0) bq G (nI n) sc ++ (wArr cy z rt (up2 Q 1 1 ((Q 1 1) + 1)) (up2 T 1 u (G 3 1))))) H := hP
        have hD9 : va_D A (wSim s0 z (upd M 7 (drw (M 7))) ++ (wCfg cy (z 0) bq G (nI n) sc ++ (wArr cy z rt (up2 Q 1 1 ((Q 1 1) + 1)) (up2 T 1 u (G 3 1))))) := hD
        exact W.vret hx hb hr (fun t ht hW => ⟨⟨(upd M 7 (drw (M 7)), up2 Q 1 1 ((Q 1 1) + 1), up2 T 1 u (G 3 1)), rfl, (by simp only [relJ]; rw [drM, if_neg (fun h => c_8 (b01.mpr h)), nds, if_neg (fun h => c_8 (b01.mpr h)), if_pos (nb10 c_15), relQ, if_neg c_63]), by rw [ht]; exact hP9, hD9⟩, hS.F ht⟩) hS.2.2 dX2_releaseJob_90
      · refine lv_aload_n hx hb dX2_releaseJob_66 rfl (lv_at hl 1 rfl) ?_
        refine va_get (D := (dC, dI)) (ci := 2) (v := .ref (z 2)) (C := RX2) (T := TX2) (N := 15) hx hb hts hin2 hown hK hP 0 rfl rfl 2 (by decide) f_22 (fun _ h9 => h9) rfl dX2_releaseJob_67 ?_
        refine lv_iload_n hx hb dX2_releaseJob_70 rfl (lv_at hl 2 rfl) ?_
        refine lv_iload_n hx hb dX2_releaseJob_71 rfl (lv_at hl 3 rfl) ?_
        refine wI_ast hx hb hK hP hD hS 10 0 rfl rfl 1 rfl (by omega) (by decide) dX2_releaseJob_72 (fun H locs hP hD hS => ?_)
        have hP : va_P (dC, dI) vwCl (wSim s0 z (upd M 7 (drw (M 7))) ++ (wCfg cy (z 0) bq G (nI n) sc ++ (wArr cy z rt (up2 Q 2 1 (nI u)) (up2 T 1 u (G 3 1))))) H := hP
        have hD : va_D A (wSim s0 z (upd M 7 (drw (M 7))) ++ (wCfg cy (z 0) bq G (nI n) sc ++ (wArr cy z rt (up2 Q 2 1 (nI u)) (up2 T 1 u (G 3 1))))) := hD
        refine lv_aload_n hx hb dX2_releaseJob_73 rfl (lv_at hl 1 rfl) ?_
        refine va_get (D := (dC, dI)) (ci := 2) (v := .ref (z 3)) (C := RX2) (T := TX2) (N := 15) hx hb hts hin2 hown hK hP 0 rfl rfl 3 (by decide) f_25 (fun _ h9 => h9) rfl dX2_releaseJob_74 ?_
        refine lv_iload_n hx hb dX2_releaseJob_77 rfl (lv_at hl 2 rfl) ?_
        refine lv_iconst (v := 0) hx hb dX2_releaseJob_78 (by decide) ?_
        refine wI_ast hx hb hK hP hD hS 11 0 rfl rfl 1 rfl (by omega) (by decide) dX2_releaseJob_79 (fun H locs hP hD hS => ?_)
        have hP : va_P (dC, dI) vwCl (wSim s0 z (upd M 7 (drw (M 7))) ++ (wCfg cy (z 0) bq G (nI n) sc ++ (wArr cy z rt (up2 (up2 Q 2 1 (nI u)) 3 1 0) (up2 T 1 u (G 3 1))))) H := hP
        have hD : va_D A (wSim s0 z (upd M 7 (drw (M 7))) ++ (wCfg cy (z 0) bq G (nI n) sc ++ (wArr cy z rt (up2 (up2 Q 2 1 (nI u)) 3 1 0) (up2 T 1 u (G 3 1))))) := hD
        refine lv_aload_n hx hb dX2_releaseJob_80 rfl (lv_at hl 1 rfl) ?_
        refine va_get (D := (dC, dI)) (ci := 2) (v := .ref (z 1)) (C := RX2) (T := TX2) (N := 15) hx hb hts hin2 hown hK hP 0 rfl rfl 1 (by decide) f_18 (fun _ h9 => h9) rfl dX2_releaseJob_81 ?_
        refine lv_iload_n hx hb dX2_releaseJob_84 rfl (lv_at hl 2 rfl) ?_
        refine lv_dup2_11 hx hb dX2_releaseJob_85 rfl rfl ?_
        refine wI_alv (v := Q 1 1) hx hb hK hP 9 0 rfl rfl 1 rfl (by omega) (by decide) rfl dX2_releaseJob_86 ?_
        refine lv_iconst (v := 1) hx hb dX2_releaseJob_87 (by decide) ?_
        refine lv_iadd hx hb dX2_releaseJob_88 ?_
        refine wI_ast hx hb hK hP hD hS 9 0 rfl rfl 1 rfl (by omega) (by decide) dX2_releaseJob_89 (fun H locs hP hD hS => ?_)
        have hP : va_P (dC, dI) vwCl (wSim s0 z (upd M 7 (drw (M 7))) ++ (wCfg cy (z 0) bq G (nI n) sc ++ (wArr cy z rt (up2 (up2 (up2 Q 2 1 (nI u)) 3 1 0) 1 1 ((Q 1 1) + 1)) (up2 T 1 u (G 3 1))))) H := hP
        have hD : va_D A (wSim s0 z (upd M 7 (drw (M 7))) ++ (wCfg cy (z 0) bq G (nI n) sc ++ (wArr cy z rt (up2 (up2 (up2 Q 2 1 (nI u)) 3 1 0) 1 1 ((Q 1 1) + 1)) (up2 T 1 u (G 3 1))))) := hD
        have hP9 : va_P (dC, dI) vwCl (wSim s0 z (upd M 7 (drw (M 7))) ++ (wCfg cy (z 0) bq G (nI n) sc ++ (wArr cy z rt (up2 (up2 (up2 Q 2 1 (nI u)) 3 1 0) 1 1 ((Q 1 1) + 1)) (up2 T 1 u (G 3 1))))) H := hP
        have hD9 : va_D A (wSim s0 z (upd M 7 (drw (M 7))) ++ (wCfg cy (z 0) bq G (nI n) sc ++ (wArr cy z rt (up2 (up2 (up2 Q 2 1 (nI u)) 3 1 0) 1 1 ((Q 1 1) + 1)) (up2 T 1 u (G 3 1))))) := hD
        exact W.vret hx hb hr (fun t ht hW => ⟨⟨(upd M 7 (drw (M 7)), up2 (up2 (up2 Q 2 1 (nI u)) 3 1 0) 1 1 ((Q 1 1) + 1), up2 T 1 u (G 3 1)), rfl, (by simp only [relJ]; rw [drM, if_neg (fun h => c_8 (b01.mpr h)), nds, if_neg (fun h => c_8 (b01.mpr h)), if_pos (nb10 c_15), relQ, if_pos c_63]), by rw [ht]; exact hP9, hD9⟩, hS.F ht⟩) hS.2.2 dX2_releaseJob_90
set_option maxHeartbeats 1000000 in
set_option maxRecDepth 100000 in
/-- a job of task 2 -/
theorem c_X2_releaseJob_2 (l : Launch) (dC : Nat → ClassId) (dI : Nat → Nat → Nat) (cy : Nat → ClassId) (sz : Nat) (s0 : Nat) (z : Nat → Nat) (M : Nat → Int32) (bq : Nat → Nat) (G : vG) (n : Nat) (hn : n ≤ 8) (sc : Int32) (Q : vG) (rt : Nat → Nat) (T : vG) (u : Nat) (hu : u < 200) : Met l yX2_releaseJob wsX2_releaseJob ({ frames := 1, cells := 0, slots := 0, locals := 21 }) (va_Pc [.ref s0, .int (nI 2), .int (nI u)] (pIn dC dI cy (wSim s0 z M ++ (wCfg cy (z 0) bq G (nI n) sc ++ (wArr cy z rt Q T))) sz)) (va_Qv (fun (u9 : SSt) => u9 = relJ G 2 u (M, Q, T)) (fun (u : SSt) t => va_P (dC, dI) vwCl (wSim s0 z u.1 ++ (wCfg cy (z 0) bq G (nI n) sc ++ (wArr cy z rt u.2.1 u.2.2))) t.heap ∧ va_D (va_A (wSim s0 z M ++ (wCfg cy (z 0) bq G (nI n) sc ++ (wArr cy z rt Q T))) sz) (wSim s0 z u.1 ++ (wCfg cy (z 0) bq G (nI n) sc ++ (wArr cy z rt u.2.1 u.2.2)))) (va_A (wSim s0 z M ++ (wCfg cy (z 0) bq G (nI n) sc ++ (wArr cy z rt Q T))) sz)) 0 0 (va_A (wSim s0 z M ++ (wCfg cy (z 0) bq G (nI n) sc ++ (wArr cy z rt Q T))) sz) := by
  refine Met.ofW (cc := cX2_releaseJob) (maxL := 4) (ret := none) (by decide) rfl ?_
  intro p e s m args below meth c s₁ B hml hv
  obtain ⟨rfl, hsz, hP, hE, hD0⟩ := hv
  have hK := hE.1
  subst hsz
  have hD := hD0.self (sz := s.heap.size)
  generalize hAe : va_A (wSim s0 z M ++ (wCfg cy (z 0) bq G (nI n) sc ++ (wArr cy z rt Q T))) s.heap.size = A at hD ⊢
  have hA : ∀ q : Nat, s.heap.size ≤ q → A q := fun q h => by rw [← hAe]; exact Or.inr h
  have hS : va_S A s.heap s.heap [] := va_S.rf
  have hP : va_P (dC, dI) vwCl (wSim s0 z M ++ (wCfg cy (z 0) bq G (nI n) sc ++ (wArr cy z rt Q T))) s.heap := hP
  have hx := B.exec
  have hb := B.bytes
  have hr := B.returns
  have hts := atoms_spec (ws := wsX2_releaseJob) B.pre
  have hown : s.vm.findClass RX2 = some m.cls := findClass_of_methodNamed B.named
  have hlocks := B.notSynchronized
  have hin0 : ∀ w ∈ u_ws RX0 TX0 9, w ∈ wsX2_releaseJob := by decide +kernel
  have hin2 : ∀ w ∈ u_ws RX2 TX2 15, w ∈ wsX2_releaseJob := by decide +kernel
  have f_110 := va_Nw.use (A := ([.ref s0, .int (nI 2), .int (nI u)].toArray)) rfl (hE.f 4 rfl)
  have f_113 := va_Nw.use (A := ([.ref s0, .int (nI 2), .int (nI u)].toArray)) rfl (hE.f 2 rfl)
  have f_12 := hts (.fieldLink RX2 12 "DeadlineAdmission$Simulation" "tasks" "LDeadlineAdmission$Configuration;") (by decide +kernel)
  have f_18 := hts (.fieldLink RX2 18 "DeadlineAdmission$Simulation" "pendingJobs" "[I") (by decide +kernel)
  have f_22 := hts (.fieldLink RX2 22 "DeadlineAdmission$Simulation" "oldestRelease" "[I") (by decide +kernel)
  have f_25 := hts (.fieldLink RX2 25 "DeadlineAdmission$Simulation" "oldestHasRun" "[I") (by decide +kernel)
  have f_30 := hts (.fieldLink RX2 30 "DeadlineAdmission$Simulation" "runningTime" "[[I") (by decide +kernel)
  have hl := lv_entry ([.ref s0, .int (nI 2), .int (nI u)]) (n := 4) (Nat.le_of_ble_eq_true rfl)
  rw [lg_entry_eq]
  generalize (lg_sl ([.ref s0, .int (nI 2), .int (nI u)]) ++ List.replicate (4 - (lg_sl ([.ref s0, .int (nI 2), .int (nI u)])).length) Slot.unset).toArray = ls at hl ⊢
  have hl : lv_has ls 4 [(0, .ref s0), (1, .int (nI 2)), (2, .int (nI u))] := hl
  refine lv_aload_n hx hb dX2_releaseJob_0 rfl (lv_at hl 0 rfl) ?_
  refine va_get (D := (dC, dI)) (ci := 2) (v := .ref (z 0)) (C := RX2) (T := TX2) (N := 15) hx hb hts hin2 hown hK hP 0 rfl rfl 0 (by decide) f_12 (fun _ h9 => h9) rfl dX2_releaseJob_1 ?_
  refine lv_iload_n hx hb dX2_releaseJob_4 rfl (lv_at hl 1 rfl) ?_
  refine vp_callSi (va_runV (As := [.int (nI 2)]) (rest := []) ⟨hx, hb, hml, hown, hts⟩ (c_X0_hasHighBudget l dC dI cy (z 0) bq G (nI n) sc  2 (by omega)) (cwV 1 hts gX2_releaseJob_X0_hasHighBudget rfl rfl rfl (by decide +kernel) ⟨Nat.le_of_ble_eq_true rfl, Nat.le_of_ble_eq_true rfl⟩) ⟨bl_ro, va_recv hK (hP.sub (ws' := wCfg cy (z 0) bq G (nI n) sc) [1, 2, 3, 4, 5, 6, 7, 8] rfl) (ci := 0) (q0 := 0) rfl rfl, pr_ro (hP.sub (ws' := wCfg cy (z 0) bq G (nI n) sc) [1, 2, 3, 4, 5, 6, 7, 8] rfl) hE⟩ rfl rfl hl.1 rfl (lv_room (Nat.le_of_ble_eq_true rfl)) dX2_releaseJob_5 ⟨Nat.le_of_ble_eq_true rfl, Nat.le_of_ble_eq_true rfl⟩).run (fun r e_r => ?_)
  subst e_r
  refine lv_if_eq (tgt := 22) hx hb dX2_releaseJob_8 (by decide) (fun c_8 => ?_) (fun c_8 => ?_)
  · refine lv_iconst (v := 0) hx hb dX2_releaseJob_22 (by decide) ?_
    refine lv_istore_n (lv' := [(3, .int 0), (0, .ref s0), (1, .int (nI 2)), (2, .int (nI u))]) hx hb dX2_releaseJob_23 rfl hl (by decide) rfl (fun ls hl => ?_)
    refine lv_aload_n hx hb dX2_releaseJob_24 rfl (lv_at hl 1 rfl) ?_
    refine va_get (D := (dC, dI)) (ci := 2) (v := .ref (z 4)) (C := RX2) (T := TX2) (N := 15) hx hb hts hin2 hown hK hP 0 rfl rfl 4 (by decide) f_30 (fun _ h9 => h9) rfl dX2_releaseJob_25 ?_
    refine lv_iload_n hx hb dX2_releaseJob_28 rfl (lv_at hl 2 rfl) ?_
    refine wB_ald (q := (rt 2)) hx hb hK hP 12 2 rfl rfl 2 rfl (by omega) (by decide) rfl dX2_releaseJob_29 ?_
    refine lv_iload_n hx hb dX2_releaseJob_30 rfl (lv_at hl 3 rfl) ?_
    refine lv_iload_n hx hb dX2_releaseJob_31 rfl (lv_at hl 0 rfl) ?_
    refine lv_if_eq (tgt := 47) hx hb dX2_releaseJob_32 (by decide) (fun _ => ?_) (fun h0 => absurd h0 (by decide))
    refine lv_aload_n hx hb dX2_releaseJob_47 rfl (lv_at hl 1 rfl) ?_
    refine va_get (D := (dC, dI)) (ci := 2) (v := .ref (z 0)) (C := RX2) (T := TX2) (N := 15) hx hb hts hin2 hown hK hP 0 rfl rfl 0 (by decide) f_12 (fun _ h9 => h9) rfl dX2_releaseJob_48 ?_
    refine va_getN (D := (dC, dI)) (ci := 0) (v := .ref (bq 2)) (C := RX0) (T := TX0) (N := 9) hx hb hts hin0 hown hK hP 1 rfl rfl 2 (by decide) f_113 (fun _ h9 => h9) rfl dX2_releaseJob_51 ?_
    refine lv_iload_n hx hb dX2_releaseJob_54 rfl (lv_at hl 2 rfl) ?_
    refine wI_alv (v := G 2 2) hx hb hK hP 4 0 rfl rfl 2 rfl (by omega) (by decide) rfl dX2_releaseJob_55 ?_
    refine wI_ast hx hb hK hP hD hS 16 0 rfl rfl u rfl (by omega) (by decide) dX2_releaseJob_56 (fun H locs hP hD hS => ?_)
    have hP : va_P (dC, dI) vwCl (wSim s0 z M ++ (wCfg cy (z 0) bq G (nI n) sc ++ (wArr cy z rt Q (up2 T 2 u (G 2 2))))) H := hP
    have hD : va_D A (wSim s0 z M ++ (wCfg cy (z 0) bq G (nI n) sc ++ (wArr cy z rt Q (up2 T 2 u (G 2 2))))) := hD
    refine lv_aload_n hx hb dX2_releaseJob_57 rfl (lv_at hl 1 rfl) ?_
    refine va_get (D := (dC, dI)) (ci := 2) (v := .ref (z 1)) (C := RX2) (T := TX2) (N := 15) hx hb hts hin2 hown hK hP 0 rfl rfl 1 (by decide) f_18 (fun _ h9 => h9) rfl dX2_releaseJob_58 ?_
    refine lv_iload_n hx hb dX2_releaseJob_61 rfl (lv_at hl 2 rfl) ?_
    refine wI_alv (v := Q 1 2) hx hb hK hP 9 0 rfl rfl 2 rfl (by omega) (by decide) rfl dX2_releaseJob_62 ?_
    refine lv_if_ne (tgt := 80) hx hb dX2_releaseJob_63 (by decide) (fun c_63 => ?_) (fun c_63 => ?_)
    · refine lv_aload_n hx hb dX2_releaseJob_80 rfl (lv_at hl 1 rfl) ?_
      refine va_get (D := (dC, dI)) (ci := 2) (v := .ref (z 1)) (C := RX2) (T := TX2) (N := 15) hx hb hts hin2 hown hK hP 0 rfl rfl 1 (by decide) f_18 (fun _ h9 => h9) rfl dX2_releaseJob_81 ?_
      refine lv_iload_n hx hb dX2_releaseJob_84 rfl (lv_at hl 2 rfl) ?_
      refine lv_dup2_11 hx hb dX2_releaseJob_85 rfl rfl ?_
      refine wI_alv (v := Q 1 2) hx hb hK hP 9 0 rfl rfl 2 rfl (by omega) (by decide) rfl dX2_releaseJob_86 ?_
      refine lv_iconst (v := 1) hx hb dX2_releaseJob_87 (by decide) ?_
      refine lv_iadd hx hb dX2_releaseJob_88 ?_
      refine wI_ast hx hb hK hP hD hS 9 0 rfl rfl 2 rfl (by omega) (by decide) dX2_releaseJob_89 (fun H locs hP hD hS => ?_)
      have hP : va_P (dC, dI) vwCl (wSim s0 z M ++ (wCfg cy (z 0) bq G (nI n) sc ++ (wArr cy z rt (up2 Q 1 2 ((Q 1 2) + 1)) (up2 T 2 u (G 2 2))))) H := hP
      have hD : va_D A (wSim s0 z M ++ (wCfg cy (z 0) bq G (nI n) sc ++ (wArr cy z rt (up2 Q 1 2 ((Q 1 2) + 1)) (up2 T 2 u (G 2 2))))) := hD
      have hP9 : va_P (dC, dI) vwCl (wSim s0 z M ++ (wCfg cy (z 0) bq G (nI n) sc ++ (wArr cy z rt (up2 Q 1 2 ((Q 1 2) + 1)) (up2 T 2 u (G 2 2))))) H := hP
      have hD9 : va_D A (wSim s0 z M ++ (wCfg cy (z 0) bq G (nI n) sc ++ (wArr cy z rt (up2 Q 1 2 ((Q 1 2) + 1)) (up2 T 2 u (G 2 2))))) := hD
      exact W.vret hx hb hr (fun t ht hW => ⟨⟨(M, up2 Q 1 2 ((Q 1 2) + 1), up2 T 2 u (G 2 2)), rfl, (by simp only [relJ]; rw [drM, if_pos (b01.mp c_8), nds, if_pos (b01.mp c_8), relQ, if_neg c_63]), by rw [ht]; exact hP9, hD9⟩, hS.F ht⟩) hS.2.2 dX2_releaseJob_90
    · refine lv_aload_n hx hb dX2_releaseJob_66 rfl (lv_at hl 1 rfl) ?_
      refine va_get (D := (dC, dI)) (ci := 2) (v := .ref (z 2)) (C := RX2) (T := TX2) (N := 15) hx hb hts hin2 hown hK hP 0 rfl rfl 2 (by decide) f_22 (fun _ h9 => h9) rfl dX2_releaseJob_67 ?_
      refine lv_iload_n hx hb dX2_releaseJob_70 rfl (lv_at hl 2 rfl) ?_
      refine lv_iload_n hx hb dX2_releaseJob_71 rfl (lv_at hl 3 rfl) ?_
      refine wI_ast hx hb hK hP hD hS 10 0 rfl rfl 2 rfl (by omega) (by decide) dX2_releaseJob_72 (fun H locs hP hD hS => ?_)
      have hP : va_P (dC, dI) vwCl (wSim s0 z M ++ (wCfg cy (z 0) bq G (nI n) sc ++ (wArr cy z rt (up2 Q 2 2 (nI u)) (up2 T 2 u (G 2 2))))) H := hP
      have hD : va_D A (wSim s0 z M ++ (wCfg cy (z 0) bq G (nI n) sc ++ (wArr cy z rt (up2 Q 2 2 (nI u)) (up2 T 2 u (G 2 2))))) := hD
      refine lv_aload_n hx hb dX2_releaseJob_73 rfl (lv_at hl 1 rfl) ?_
      refine va_get (D := (dC, dI)) (ci := 2) (v := .ref (z 3)) (C := RX2) (T := TX2) (N := 15) hx hb hts hin2 hown hK hP 0 rfl rfl 3 (by decide) f_25 (fun _ h9 => h9) rfl dX2_releaseJob_74 ?_
      refine lv_iload_n hx hb dX2_releaseJob_77 rfl (lv_at hl 2 rfl) ?_
      refine lv_iconst (v := 0) hx hb dX2_releaseJob_78 (by decide) ?_
      refine wI_ast hx hb hK hP hD hS 11 0 rfl rfl 2 rfl (by omega) (by decide) dX2_releaseJob_79 (fun H locs hP hD hS => ?_)
      have hP : va_P (dC, dI) vwCl (wSim s0 z M ++ (wCfg cy (z 0) bq G (nI n) sc ++ (wArr cy z rt (up2 (up2 Q 2 2 (nI u)) 3 2 0) (up2 T 2 u (G 2 2))))) H := hP
      have hD : va_D A (wSim s0 z M ++ (wCfg cy (z 0) bq G (nI n) sc ++ (wArr cy z rt (up2 (up2 Q 2 2 (nI u)) 3 2 0) (up2 T 2 u (G 2 2))))) := hD
      refine lv_aload_n hx hb dX2_releaseJob_80 rfl (lv_at hl 1 rfl) ?_
      refine va_get (D := (dC, dI)) (ci := 2) (v := .ref (z 1)) (C := RX2) (T := TX2) (N := 15) hx hb hts hin2 hown hK hP 0 rfl rfl 1 (by decide) f_18 (fun _ h9 => h9) rfl dX2_releaseJob_81 ?_
      refine lv_iload_n hx hb dX2_releaseJob_84 rfl (lv_at hl 2 rfl) ?_
      refine lv_dup2_11 hx hb dX2_releaseJob_85 rfl rfl ?_
      refine wI_alv (v := Q 1 2) hx hb hK hP 9 0 rfl rfl 2 rfl (by omega) (by decide) rfl dX2_releaseJob_86 ?_
      refine lv_iconst (v := 1) hx hb dX2_releaseJob_87 (by decide) ?_
      refine lv_iadd hx hb dX2_releaseJob_88 ?_
      refine wI_ast hx hb hK hP hD hS 9 0 rfl rfl 2 rfl (by omega) (by decide) dX2_releaseJob_89 (fun H locs hP hD hS => ?_)
      have hP : va_P (dC, dI) vwCl (wSim s0 z M ++ (wCfg cy (z 0) bq G (nI n) sc ++ (wArr cy z rt (up2 (up2 (up2 Q 2 2 (nI u)) 3 2 0) 1 2 ((Q 1 2) + 1)) (up2 T 2 u (G 2 2))))) H := hP
      have hD : va_D A (wSim s0 z M ++ (wCfg cy (z 0) bq G (nI n) sc ++ (wArr cy z rt (up2 (up2 (up2 Q 2 2 (nI u)) 3 2 0) 1 2 ((Q 1 2) + 1)) (up2 T 2 u (G 2 2))))) := hD
      have hP9 : va_P (dC, dI) vwCl (wSim s0 z M ++ (wCfg cy (z 0) bq G (nI n) sc ++ (wArr cy z rt (up2 (up2 (up2 Q 2 2 (nI u)) 3 2 0) 1 2 ((Q 1 2) + 1)) (up2 T 2 u (G 2 2))))) H := hP
      have hD9 : va_D A (wSim s0 z M ++ (wCfg cy (z 0) bq G (nI n) sc ++ (wArr cy z rt (up2 (up2 (up2 Q 2 2 (nI u)) 3 2 0) 1 2 ((Q 1 2) + 1)) (up2 T 2 u (G 2 2))))) := hD
      exact W.vret hx hb hr (fun t ht hW => ⟨⟨(M, up2 (up2 (up2 Q 2 2 (nI u)) 3 2 0) 1 2 ((Q 1 2) + 1), up2 T 2 u (G 2 2)), rfl, (by simp only [relJ]; rw [drM, if_pos (b01.mp c_8), nds, if_pos (b01.mp c_8), relQ, if_pos c_63]), by rw [ht]; exact hP9, hD9⟩, hS.F ht⟩) hS.2.2 dX2_releaseJob_90
  · refine lv_aload_n hx hb dX2_releaseJob_11 rfl (lv_at hl 0 rfl) ?_
    have hPc := hP.sub (ws' := wSim s0 z M) [0] rfl
    have hDc := hD.sub (ws' := wSim s0 z M) [0] (by decide) rfl
    have hFc := va_free (wc := wSim s0 z M) hD hS hA [0] rfl
    refine va_calli (va_runV (As := []) (rest := []) ⟨hx, hb, hml, hown, hts⟩ (c_X2_drawOverrun l dC dI cy s.heap.size s0 z M) (cwV 0 hts gX2_releaseJob_X2_drawOverrun rfl rfl rfl (by decide +kernel) ⟨Nat.le_of_ble_eq_true rfl, Nat.le_of_ble_eq_true rfl⟩) ⟨bl_in, va_recv hK hPc (ci := 2) (q0 := 0) rfl rfl, pr_in hPc hE hDc⟩ rfl rfl hl.1 rfl (lv_room (Nat.le_of_ble_eq_true rfl)) dX2_releaseJob_12 ⟨Nat.le_of_ble_eq_true rfl, Nat.le_of_ble_eq_true rfl⟩) hS (fun q _ h => hFc q h) hFc (fun r u t H1 locs ht hvm hw hB hz1 hk1 hS => ?_)
    obtain ⟨rfl, rfl⟩ := hw
    obtain ⟨hP1, hD1⟩ := hB
    rw [ht] at hP1
    obtain ⟨hP, hD⟩ := va_join (wr := wCfg cy (z 0) bq G (nI n) sc ++ (wArr cy z rt Q T)) (w1 := wSim s0 z (upd M 7 (drw (M 7)))) hP hD [0] [1, 2, 3, 4, 5, 6, 7, 8, 9, 10, 11, 12, 13, 14, 15, 16, 17, 18, 19, 20, 21] rfl rfl (by decide) (by decide) hk1 hFc hP1 hD1
    have hP : va_P (dC, dI) vwCl (wSim s0 z (upd M 7 (drw (M 7))) ++ (wCfg cy (z 0) bq G (nI n) sc ++ (wArr cy z rt Q T))) H1 := hP.sub [21, 0, 1, 2, 3, 4, 5, 6, 7, 8, 9, 10, 11, 12, 13, 14, 15, 16, 17, 18, 19, 20] rfl
    have hD : va_D A (wSim s0 z (upd M 7 (drw (M 7))) ++ (wCfg cy (z 0) bq G (nI n) sc ++ (wArr cy z rt Q T))) := hD.sub [21, 0, 1, 2, 3, 4, 5, 6, 7, 8, 9, 10, 11, 12, 13, 14, 15, 16, 17, 18, 19, 20] (by decide) rfl
    clear hz1 hk1 hPc hDc hFc hP1 hD1
    generalize H1 = H at hP hS ⊢
    refine lv_topi (fun y_ ey_ => ?_)
    obtain rfl : y_ = if ovr (drw (M 7)) (M 8) then 1 else 0 := ey_
    refine lv_if_eq (tgt := 22) hx hb dX2_releaseJob_15 (by decide) (fun c_15 => ?_) (fun c_15 => ?_)
    · refine lv_iconst (v := 0) hx hb dX2_releaseJob_22 (by decide) ?_
      refine lv_istore_n (lv' := [(3, .int 0), (0, .ref s0), (1, .int (nI 2)), (2, .int (nI u))]) hx hb dX2_releaseJob_23 rfl hl (by decide) rfl (fun ls hl => ?_)
      refine lv_aload_n hx hb dX2_releaseJob_24 rfl (lv_at hl 1 rfl) ?_
      refine va_get (D := (dC, dI)) (ci := 2) (v := .ref (z 4)) (C := RX2) (T := TX2) (N := 15) hx hb hts hin2 hown hK hP 0 rfl rfl 4 (by decide) f_30 (fun _ h9 => h9) rfl dX2_releaseJob_25 ?_
      refine lv_iload_n hx hb dX2_releaseJob_28 rfl (lv_at hl 2 rfl) ?_
      refine wB_ald (q := (rt 2)) hx hb hK hP 12 2 rfl rfl 2 rfl (by omega) (by decide) rfl dX2_releaseJob_29 ?_
      refine lv_iload_n hx hb dX2_releaseJob_30 rfl (lv_at hl 3 rfl) ?_
      refine lv_iload_n hx hb dX2_releaseJob_31 rfl (lv_at hl 0 rfl) ?_
      refine lv_if_eq (tgt := 47) hx hb dX2_releaseJob_32 (by decide) (fun _ => ?_) (fun h0 => absurd h0 (by decide))
      refine lv_aload_n hx hb dX2_releaseJob_47 rfl (lv_at hl 1 rfl) ?_
      refine va_get (D := (dC, dI)) (ci := 2) (v := .ref (z 0)) (C := RX2) (T := TX2) (N := 15) hx hb hts hin2 hown hK hP 0 rfl rfl 0 (by decide) f_12 (fun _ h9 => h9) rfl dX2_releaseJob_48 ?_
      refine va_getN (D := (dC, dI)) (ci := 0) (v := .ref (bq 2)) (C := RX0) (T := TX0) (N := 9) hx hb hts hin0 hown hK hP 1 rfl rfl 2 (by decide) f_113 (fun _ h9 => h9) rfl dX2_releaseJob_51 ?_
      refine lv_iload_n hx hb dX2_releaseJob_54 rfl (lv_at hl 2 rfl) ?_
      refine wI_alv (v := G 2 2) hx hb hK hP 4 0 rfl rfl 2 rfl (by omega) (by decide) rfl dX2_releaseJob_55 ?_
      refine wI_ast hx hb hK hP hD hS 16 0 rfl rfl u rfl (by omega) (by decide) dX2_releaseJob_56 (fun H locs hP hD hS => ?_)
      have hP : va_P (dC, dI) vwCl (wSim s0 z (upd M 7 (drw (M 7))) ++ (wCfg cy (z 0) bq G (nI n) sc ++ (wArr cy z rt Q (up2 T 2 u (G 2 2))))) H := hP
      have hD : va_D A (wSim s0 z (upd M 7 (drw (M 7))) ++ (wCfg cy (z 0) bq G (nI n) sc ++ (wArr cy z rt Q (up2 T 2 u (G 2 2))))) := hD
      refine lv_aload_n hx hb dX2_releaseJob_57 rfl (lv_at hl 1 rfl) ?_
      refine va_get (D := (dC, dI)) (ci := 2) (v := .ref (z 1)) (C := RX2) (T := TX2) (N := 15) hx hb hts hin2 hown hK hP 0 rfl rfl 1 (by decide) f_18 (fun _ h9 => h9) rfl dX2_releaseJob_58 ?_
      refine lv_iload_n hx hb dX2_releaseJob_61 rfl (lv_at hl 2 rfl) ?_
      refine wI_alv (v := Q 1 2) hx hb hK hP 9 0 rfl rfl 2 rfl (by omega) (by decide) rfl dX2_releaseJob_62 ?_
      refine lv_if_ne (tgt := 80) hx hb dX2_releaseJob_63 (by decide) (fun c_63 => ?_) (fun c_63 => ?_)
      · refine lv_aload_n hx hb dX2_releaseJob_80 rfl (lv_at hl 1 rfl) ?_
        refine va_get (D := (dC, dI)) (ci := 2) (v := .ref (z 1)) (C := RX2) (T := TX2) (N := 15) hx hb hts hin2 hown hK hP 0 rfl rfl 1 (by decide) f_18 (fun _ h9 => h9) rfl dX2_releaseJob_81 ?_
        refine lv_iload_n hx hb dX2_releaseJob_84 rfl (lv_at hl 2 rfl) ?_
        refine lv_dup2_11 hx hb dX2_releaseJob_85 rfl rfl ?_
        refine wI_alv (v := Q 1 2) hx hb hK hP 9 0 rfl rfl 2 rfl (by omega) (by decide) rfl dX2_releaseJob_86 ?_
        refine lv_iconst (v := 1) hx hb dX2_releaseJob_87 (by decide) ?_
        refine lv_iadd hx hb dX2_releaseJob_88 ?_
        refine wI_ast hx hb hK hP hD hS 9 0 rfl rfl 2 rfl (by omega) (by decide) dX2_releaseJob_89 (fun H locs hP hD hS => ?_)
        have hP : va_P (dC, dI) vwCl (wSim s0 z (upd M 7 (drw (M 7))) ++ (wCfg cy (z 0) bq G (nI n) sc ++ (wArr cy z rt (up2 Q 1 2 ((Q 1 2) + 1)) (up2 T 2 u (G 2 2))))) H := hP
        have hD : va_D A (wSim s0 z (upd M 7 (drw (M 7))) ++ (wCfg cy (z 0) bq G (nI n) sc ++ (wArr cy z rt (up2 Q 1 2 ((Q 1 2) + 1)) (up2 T 2 u (G 2 2))))) := hD
        have hP9 : va_P (dC, dI) vwCl (wSim s0 z (upd M 7 (drw (M 7))) ++ (wCfg cy (z 0) bq G (nI n) sc ++ (wArr cy z rt (up2 Q 1 2 ((Q 1 2) + 1)) (up2 T 2 u (G 2 2))))) H := hP
        have hD9 : va_D A (wSim s0 z (upd M 7 (drw (M 7))) ++ (wCfg cy (z 0) bq G (nI n) sc ++ (wArr cy z rt (up2 Q 1 2 ((Q 1 2) + 1)) (up2 T 2 u (G 2 2))))) := hD
        exact W.vret hx hb hr (fun t ht hW => ⟨⟨(upd M 7 (drw (M 7)), up2 Q 1 2 ((Q 1 2) + 1), up2 T 2 u (G 2 2)), rfl, (by simp only [relJ]; rw [drM, if_neg (fun h => c_8 (b01.mpr h)), nds, if_neg (fun h => c_8 (b01.mpr h)), if_neg (b10.mp c_15), relQ, if_neg c_63]), by rw [ht]; exact hP9, hD9⟩, hS.F ht⟩) hS.2.2 dX2_releaseJob_90
      · refine lv_aload_n hx hb dX2_releaseJob_66 rfl (lv_at hl 1 rfl) ?_
        refine va_get (D := (dC, dI)) (ci := 2) (v := .ref (z 2)) (C := RX2) (T := TX2) (N := 15) hx hb hts hin2 hown hK hP 0 rfl rfl 2 (by decide) f_22 (fun _ h9 => h9) rfl dX2_releaseJob_67 ?_
        refine lv_iload_n hx hb dX2_releaseJob_70 rfl (lv_at hl 2 rfl) ?_
        refine lv_iload_n hx hb dX2_releaseJob_71 rfl (lv_at hl 3 rfl) ?_
        refine wI_ast hx hb hK hP hD hS 10 0 rfl rfl 2 rfl (by omega) (by decide) dX2_releaseJob_72 (fun H locs hP hD hS => ?_)
        have hP : va_P (dC, dI) vwCl (wSim s0 z (upd M 7 (drw (M 7))) ++ (wCfg cy (z 0) bq G (nI n) sc ++ (wArr cy z rt (up2 Q 2 2 (nI u)) (up2 T 2 u (G 2 2))))) H := hP
        have hD : va_D A (wSim s0 z (upd M 7 (drw (M 7))) ++ (wCfg cy (z 0) bq G (nI n) sc ++ (wArr cy z rt (up2 Q 2 2 (nI u)) (up2 T 2 u (G 2 2))))) := hD
        refine lv_aload_n hx hb dX2_releaseJob_73 rfl (lv_at hl 1 rfl) ?_
        refine va_get (D := (dC, dI)) (ci := 2) (v := .ref (z 3)) (C := RX2) (T := TX2) (N := 15) hx hb hts hin2 hown hK hP 0 rfl rfl 3 (by decide) f_25 (fun _ h9 => h9) rfl dX2_releaseJob_74 ?_
        refine lv_iload_n hx hb dX2_releaseJob_77 rfl (lv_at hl 2 rfl) ?_
        refine lv_iconst (v := 0) hx hb dX2_releaseJob_78 (by decide) ?_
        refine wI_ast hx hb hK hP hD hS 11 0 rfl rfl 2 rfl (by omega) (by decide) dX2_releaseJob_79 (fun H locs hP hD hS => ?_)
        have hP : va_P (dC, dI) vwCl (wSim s0 z (upd M 7 (drw (M 7))) ++ (wCfg cy (z 0) bq G (nI n) sc ++ (wArr cy z rt (up2 (up2 Q 2 2 (nI u)) 3 2 0) (up2 T 2 u (G 2 2))))) H := hP
        have hD : va_D A (wSim s0 z (upd M 7 (drw (M 7))) ++ (wCfg cy (z 0) bq G (nI n) sc ++ (wArr cy z rt (up2 (up2 Q 2 2 (nI u)) 3 2 0) (up2 T 2 u (G 2 2))))) := hD
        refine lv_aload_n hx hb dX2_releaseJob_80 rfl (lv_at hl 1 rfl) ?_
        refine va_get (D := (dC, dI)) (ci := 2) (v := .ref (z 1)) (C := RX2) (T := TX2) (N := 15) hx hb hts hin2 hown hK hP 0 rfl rfl 1 (by decide) f_18 (fun _ h9 => h9) rfl dX2_releaseJob_81 ?_
        refine lv_iload_n hx hb dX2_releaseJob_84 rfl (lv_at hl 2 rfl) ?_
        refine lv_dup2_11 hx hb dX2_releaseJob_85 rfl rfl ?_
        refine wI_alv (v := Q 1 2) hx hb hK hP 9 0 rfl rfl 2 rfl (by omega) (by decide) rfl dX2_releaseJob_86 ?_
        refine lv_iconst (v := 1) hx hb dX2_releaseJob_87 (by decide) ?_
        refine lv_iadd hx hb dX2_releaseJob_88 ?_
        refine wI_ast hx hb hK hP hD hS 9 0 rfl rfl 2 rfl (by omega) (by decide) dX2_releaseJob_89 (fun H locs hP hD hS => ?_)
        have hP : va_P (dC, dI) vwCl (wSim s0 z (upd M 7 (drw (M 7))) ++ (wCfg cy (z 0) bq G (nI n) sc ++ (wArr cy z rt (up2 (up2 (up2 Q 2 2 (nI u)) 3 2 0) 1 2 ((Q 1 2) + 1)) (up2 T 2 u (G 2 2))))) H := hP
        have hD : va_D A (wSim s0 z (upd M 7 (drw (M 7))) ++ (wCfg cy (z 0) bq G (nI n) sc ++ (wArr cy z rt (up2 (up2 (up2 Q 2 2 (nI u)) 3 2 0) 1 2 ((Q 1 2) + 1)) (up2 T 2 u (G 2 2))))) := hD
        have hP9 : va_P (dC, dI) vwCl (wSim s0 z (upd M 7 (drw (M 7))) ++ (wCfg cy (z 0) bq G (nI n) sc ++ (wArr cy z rt (up2 (up2 (up2 Q 2 2 (nI u)) 3 2 0) 1 2 ((Q 1 2) + 1)) (up2 T 2 u (G 2 2))))) H := hP
        have hD9 : va_D A (wSim s0 z (upd M 7 (drw (M 7))) ++ (wCfg cy (z 0) bq G (nI n) sc ++ (wArr cy z rt (up2 (up2 (up2 Q 2 2 (nI u)) 3 2 0) 1 2 ((Q 1 2) + 1)) (up2 T 2 u (G 2 2))))) := hD
        exact W.vret hx hb hr (fun t ht hW => ⟨⟨(upd M 7 (drw (M 7)), up2 (up2 (up2 Q 2 2 (nI u)) 3 2 0) 1 2 ((Q 1 2) + 1), up2 T 2 u (G 2 2)), rfl, (by simp only [relJ]; rw [drM, if_neg (fun h => c_8 (b01.mpr h)), nds, if_neg (fun h => c_8 (b01.mpr h)), if_neg (b10.mp c_15), relQ, if_pos c_63]), by rw [ht]; exact hP9, hD9⟩, hS.F ht⟩) hS.2.2 dX2_releaseJob_90
    · refine lv_iconst (v := 1) hx hb dX2_releaseJob_18 (by decide) ?_
      refine lv_goto (tgt := 23) hx hb dX2_releaseJob_19 (by decide) ?_
      refine lv_istore_n (lv' := [(3, .int 1), (0, .ref s0), (1, .int (nI 2)), (2, .int (nI u))]) hx hb dX2_releaseJob_23 rfl hl (by decide) rfl (fun ls hl => ?_)
      refine lv_aload_n hx hb dX2_releaseJob_24 rfl (lv_at hl 1 rfl) ?_
      refine va_get (D := (dC, dI)) (ci := 2) (v := .ref (z 4)) (C := RX2) (T := TX2) (N := 15) hx hb hts hin2 hown hK hP 0 rfl rfl 4 (by decide) f_30 (fun _ h9 => h9) rfl dX2_releaseJob_25 ?_
      refine lv_iload_n hx hb dX2_releaseJob_28 rfl (lv_at hl 2 rfl) ?_
      refine wB_ald (q := (rt 2)) hx hb hK hP 12 2 rfl rfl 2 rfl (by omega) (by decide) rfl dX2_releaseJob_29 ?_
      refine lv_iload_n hx hb dX2_releaseJob_30 rfl (lv_at hl 3 rfl) ?_
      refine lv_iload_n hx hb dX2_releaseJob_31 rfl (lv_at hl 0 rfl) ?_
      refine lv_if_eq (tgt := 47) hx hb dX2_releaseJob_32 (by decide) (fun h0 => absurd h0 (by decide)) (fun _ => ?_)
      refine lv_aload_n hx hb dX2_releaseJob_35 rfl (lv_at hl 1 rfl) ?_
      refine va_get (D := (dC, dI)) (ci := 2) (v := .ref (z 0)) (C := RX2) (T := TX2) (N := 15) hx hb hts hin2 hown hK hP 0 rfl rfl 0 (by decide) f_12 (fun _ h9 => h9) rfl dX2_releaseJob_36 ?_
      refine va_getN (D := (dC, dI)) (ci := 0) (v := .ref (bq 3)) (C := RX0) (T := TX0) (N := 9) hx hb hts hin0 hown hK hP 1 rfl rfl 3 (by decide) f_110 (fun _ h9 => h9) rfl dX2_releaseJob_39 ?_
      refine lv_iload_n hx hb dX2_releaseJob_42 rfl (lv_at hl 2 rfl) ?_
      refine wI_alv (v := G 3 2) hx hb hK hP 5 0 rfl rfl 2 rfl (by omega) (by decide) rfl dX2_releaseJob_43 ?_
      refine lv_goto (tgt := 56) hx hb dX2_releaseJob_44 (by decide) ?_
      refine wI_ast hx hb hK hP hD hS 16 0 rfl rfl u rfl (by omega) (by decide) dX2_releaseJob_56 (fun H locs hP hD hS => ?_)
      have hP : va_P (dC, dI) vwCl (wSim s0 z (upd M 7 (drw (M 7))) ++ (wCfg cy (z 0) bq G (nI n) sc ++ (wArr cy z rt Q (up2 T 2 u (G 3 2))))) H := hP
      have hD : va_D A (wSim s0 z (upd M 7 (drw (M 7))) ++ (wCfg cy (z 0) bq G (nI n) sc ++ (wArr cy z rt Q (up2 T 2 u (G 3 2))))) := hD
      refine lv_aload_n hx hb dX2_releaseJob_57 rfl (lv_at hl 1 rfl) ?_
      refine va_get (D := (dC, dI)) (ci := 2) (v := .ref (z 1)) (C := RX2) (T := TX2) (N := 15) hx hb hts hin2 hown hK hP 0 rfl rfl 1 (by decide) f_18 (fun _ h9 => h9) rfl dX2_releaseJob_58 ?_
      refine lv_iload_n hx hb dX2_releaseJob_61 rfl (lv_at hl 2 rfl) ?_
      refine wI_alv (v := Q 1 2) hx hb hK hP 9 0 rfl rfl 2 rfl (by omega) (by decide) rfl dX2_releaseJob_62 ?_
      refine lv_if_ne (tgt := 80) hx hb dX2_releaseJob_63 (by decide) (fun c_63 => ?_) (fun c_63 => ?_)
      · refine lv_aload_n hx hb dX2_releaseJob_80 rfl (lv_at hl 1 rfl) ?_
        refine va_get (D := (dC, dI)) (ci := 2) (v := .ref (z 1)) (C := RX2) (T := TX2) (N := 15) hx hb hts hin2 hown hK hP 0 rfl rfl 1 (by decide) f_18 (fun _ h9 => h9) rfl dX2_releaseJob_81 ?_
        refine lv_iload_n hx hb dX2_releaseJob_84 rfl (lv_at hl 2 rfl) ?_
        refine lv_dup2_11 hx hb dX2_releaseJob_85 rfl rfl ?_
        refine wI_alv (v := Q 1 2) hx hb hK hP 9 0 rfl rfl 2 rfl (by omega) (by decide) rfl dX2_releaseJob_86 ?_
        refine lv_iconst (v := 1) hx hb dX2_releaseJob_87 (by decide) ?_
        refine lv_iadd hx hb dX2_releaseJob_88 ?_
        refine wI_ast hx hb hK hP hD hS 9 0 rfl rfl 2 rfl (by omega) (by decide) dX2_releaseJob_89 (fun H locs hP hD hS => ?_)
        have hP : va_P (dC, dI) vwCl (wSim s0 z (upd M 7 (drw (M 7))) ++ (wCfg cy (z 0) bq G (nI n) sc ++ (wArr cy z rt (up2 Q 1 2 ((Q 1 2) + 1)) (up2 T 2 u (G 3 2))))) H := hP
        have hD : va_D A (wSim s0 z (upd M 7 (drw (M 7))) ++ (wCfg cy (z 0) bq G (nI n) sc ++ (wArr cy z rt (up2 Q 1 2 ((Q 1 2) + 1)) (up2 T 2 u (G 3 2))))) := hD
        have hP9 : va_P (dC, dI) vwCl (wSim s0 z (upd M 7 (drw (M 7))) ++ (wCfg cy (z 0) bq G (nI n) sc ++ (wArr cy z rt (up2 Q 1 2 ((Q 1 2) + 1)) (up2 T 2 u (G 3 2))))) H := hP
        have hD9 : va_D A (wSim s0 z (upd M 7 (drw (M 7))) ++ (wCfg cy (z 0) bq G (nI n) sc ++ (wArr cy z rt (up2 Q 1 2 ((Q 1 2) + 1)) (up2 T 2 u (G 3 2))))) := hD
        exact W.vret hx hb hr (fun t ht hW => ⟨⟨(upd M 7 (drw (M 7)), up2 Q 1 2 ((Q 1 2) + 1), up2 T 2 u (G 3 2)), rfl, (by simp only [relJ]; rw [drM, if_neg (fun h => c_8 (b01.mpr h)), nds, if_neg (fun h => c_8 (b01.mpr h)), if_pos (nb10 c_15), relQ, if_neg c_63]), by rw [ht]; exact hP9, hD9⟩, hS.F ht⟩) hS.2.2 dX2_releaseJob_90
      · refine lv_aload_n hx hb dX2_releaseJob_66 rfl (lv_at hl 1 rfl) ?_
        refine va_get (D := (dC, dI)) (ci := 2) (v := .ref (z 2)) (C := RX2) (T := TX2) (N := 15) hx hb hts hin2 hown hK hP 0 rfl rfl 2 (by decide) f_22 (fun _ h9 => h9) rfl dX2_releaseJob_67 ?_
        refine lv_iload_n hx hb dX2_releaseJob_70 rfl (lv_at hl 2 rfl) ?_
        refine lv_iload_n hx hb dX2_releaseJob_71 rfl (lv_at hl 3 rfl) ?_
        refine wI_ast hx hb hK hP hD hS 10 0 rfl rfl 2 rfl (by omega) (by decide) dX2_releaseJob_72 (fun H locs hP hD hS => ?_)
        have hP : va_P (dC, dI) vwCl (wSim s0 z (upd M 7 (drw (M 7))) ++ (wCfg cy (z 0) bq G (nI n) sc ++ (wArr cy z rt (up2 Q 2 2 (nI u)) (up2 T 2 u (G 3 2))))) H := hP
        have hD : va_D A (wSim s0 z (upd M 7 (drw (M 7))) ++ (wCfg cy (z 0) bq G (nI n) sc ++ (wArr cy z rt (up2 Q 2 2 (nI u)) (up2 T 2 u (G 3 2))))) := hD
        refine lv_aload_n hx hb dX2_releaseJob_73 rfl (lv_at hl 1 rfl) ?_
        refine va_get (D := (dC, dI)) (ci := 2) (v := .ref (z 3)) (C := RX2) (T := TX2) (N := 15) hx hb hts hin2 hown hK hP 0 rfl rfl 3 (by decide) f_25 (fun _ h9 => h9) rfl dX2_releaseJob_74 ?_
        refine lv_iload_n hx hb dX2_releaseJob_77 rfl (lv_at hl 2 rfl) ?_
        refine lv_iconst (v := 0) hx hb dX2_releaseJob_78 (by decide) ?_
        refine wI_ast hx hb hK hP hD hS 11 0 rfl rfl 2 rfl (by omega) (by decide) dX2_releaseJob_79 (fun H locs hP hD hS => ?_)
        have hP : va_P (dC, dI) vwCl (wSim s0 z (upd M 7 (drw (M 7))) ++ (wCfg cy (z 0) bq G (nI n) sc ++ (wArr cy z rt (up2 (up2 Q 2 2 (nI u)) 3 2 0) (up2 T 2 u (G 3 2))))) H := hP
        have hD : va_D A (wSim s0 z (upd M 7 (drw (M 7))) ++ (wCfg cy (z 0) bq G (nI n) sc ++ (wArr cy z rt (up2 (up2 Q 2 2 (nI u)) 3 2 0) (up2 T 2 u (G 3 2))))) := hD
        refine lv_aload_n hx hb dX2_releaseJob_80 rfl (lv_at hl 1 rfl) ?_
        refine va_get (D := (dC, dI)) (ci := 2) (v := .ref (z 1)) (C := RX2) (T := TX2) (N := 15) hx hb hts hin2 hown hK hP 0 rfl rfl 1 (by decide) f_18 (fun _ h9 => h9) rfl dX2_releaseJob_81 ?_
        refine lv_iload_n hx hb dX2_releaseJob_84 rfl (lv_at hl 2 rfl) ?_
        refine lv_dup2_11 hx hb dX2_releaseJob_85 rfl rfl ?_
        refine wI_alv (v := Q 1 2) hx hb hK hP 9 0 rfl rfl 2 rfl (by omega) (by decide) rfl dX2_releaseJob_86 ?_
        refine lv_iconst (v := 1) hx hb dX2_releaseJob_87 (by decide) ?_
        refine lv_iadd hx hb dX2_releaseJob_88 ?_
        refine wI_ast hx hb hK hP hD hS 9 0 rfl rfl 2 rfl (by omega) (by decide) dX2_releaseJob_89 (fun H locs hP hD hS => ?_)
        have hP : va_P (dC, dI) vwCl (wSim s0 z (upd M 7 (drw (M 7))) ++ (wCfg cy (z 0) bq G (nI n) sc ++ (wArr cy z rt (up2 (up2 (up2 Q 2 2 (nI u)) 3 2 0) 1 2 ((Q 1 2) + 1)) (up2 T 2 u (G 3 2))))) H := hP
        have hD : va_D A (wSim s0 z (upd M 7 (drw (M 7))) ++ (wCfg cy (z 0) bq G (nI n) sc ++ (wArr cy z rt (up2 (up2 (up2 Q 2 2 (nI u)) 3 2 0) 1 2 ((Q 1 2) + 1)) (up2 T 2 u (G 3 2))))) := hD
        have hP9 : va_P (dC, dI) vwCl (wSim s0 z (upd M 7 (drw (M 7))) ++ (wCfg cy (z 0) bq G (nI n) sc ++ (wArr cy z rt (up2 (up2 (up2 Q 2 2 (nI u)) 3 2 0) 1 2 ((Q 1 2) + 1)) (up2 T 2 u (G 3 2))))) H := hP
        have hD9 : va_D A (wSim s0 z (upd M 7 (drw (M 7))) ++ (wCfg cy (z 0) bq G (nI n) sc ++ (wArr cy z rt (up2 (up2 (up2 Q 2 2 (nI u)) 3 2 0) 1 2 ((Q 1 2) + 1)) (up2 T 2 u (G 3 2))))) := hD
        exact W.vret hx hb hr (fun t ht hW => ⟨⟨(upd M 7 (drw (M 7)), up2 (up2 (up2 Q 2 2 (nI u)) 3 2 0) 1 2 ((Q 1 2) + 1), up2 T 2 u (G 3 2)), rfl, (by simp only [relJ]; rw [drM, if_neg (fun h => c_8 (b01.mpr h)), nds, if_neg (fun h => c_8 (b01.mpr h)), if_pos (nb10 c_15), relQ, if_pos c_63]), by rw [ht]; exact hP9, hD9⟩, hS.F ht⟩) hS.2.2 dX2_releaseJob_90
set_option maxHeartbeats 1000000 in
set_option maxRecDepth 100000 in
/-- a job of task 3 -/
theorem c_X2_releaseJob_3 (l : Launch) (dC : Nat → ClassId) (dI : Nat → Nat → Nat) (cy : Nat → ClassId) (sz : Nat) (s0 : Nat) (z : Nat → Nat) (M : Nat → Int32) (bq : Nat → Nat) (G : vG) (n : Nat) (hn : n ≤ 8) (sc : Int32) (Q : vG) (rt : Nat → Nat) (T : vG) (u : Nat) (hu : u < 200) : Met l yX2_releaseJob wsX2_releaseJob ({ frames := 1, cells := 0, slots := 0, locals := 21 }) (va_Pc [.ref s0, .int (nI 3), .int (nI u)] (pIn dC dI cy (wSim s0 z M ++ (wCfg cy (z 0) bq G (nI n) sc ++ (wArr cy z rt Q T))) sz)) (va_Qv (fun (u9 : SSt) => u9 = relJ G 3 u (M, Q, T)) (fun (u : SSt) t => va_P (dC, dI) vwCl (wSim s0 z u.1 ++ (wCfg cy (z 0) bq G (nI n) sc ++ (wArr cy z rt u.2.1 u.2.2))) t.heap ∧ va_D (va_A (wSim s0 z M ++ (wCfg cy (z 0) bq G (nI n) sc ++ (wArr cy z rt Q T))) sz) (wSim s0 z u.1 ++ (wCfg cy (z 0) bq G (nI n) sc ++ (wArr cy z rt u.2.1 u.2.2)))) (va_A (wSim s0 z M ++ (wCfg cy (z 0) bq G (nI n) sc ++ (wArr cy z rt Q T))) sz)) 0 0 (va_A (wSim s0 z M ++ (wCfg cy (z 0) bq G (nI n) sc ++ (wArr cy z rt Q T))) sz) := by
  refine Met.ofW (cc := cX2_releaseJob) (maxL := 4) (ret := none) (by decide) rfl ?_
  intro p e s m args below meth c s₁ B hml hv
  obtain ⟨rfl, hsz, hP, hE, hD0⟩ := hv
  have hK := hE.1
  subst hsz
  have hD := hD0.self (sz := s.heap.size)
  generalize hAe : va_A (wSim s0 z M ++ (wCfg cy (z 0) bq G (nI n) sc ++ (wArr cy z rt Q T))) s.heap.size = A at hD ⊢
  have hA : ∀ q : Nat, s.heap.size ≤ q → A q := fun q h => by rw [← hAe]; exact Or.inr h
  have hS : va_S A s.heap s.heap [] := va_S.rf
  have hP : va_P (dC, dI) vwCl (wSim s0 z M ++ (wCfg cy (z 0) bq G (nI n) sc ++ (wArr cy z rt Q T))) s.heap := hP
  have hx := B.exec
  have hb := B.bytes
  have hr := B.returns
  have hts := atoms_spec (ws := wsX2_releaseJob) B.pre
  have hown : s.vm.findClass RX2 = some m.cls := findClass_of_methodNamed B.named
  have hlocks := B.notSynchronized
  have hin0 : ∀ w ∈ u_ws RX0 TX0 9, w ∈ wsX2_releaseJob := by decide +kernel
  have hin2 : ∀ w ∈ u_ws RX2 TX2 15, w ∈ wsX2_releaseJob := by decide +kernel
  have f_110 := va_Nw.use (A := ([.ref s0, .int (nI 3), .int (nI u)].toArray)) rfl (hE.f 4 rfl)
  have f_113 := va_Nw.use (A := ([.ref s0, .int (nI 3), .int (nI u)].toArray)) rfl (hE.f 2 rfl)
  have f_12 := hts (.fieldLink RX2 12 "DeadlineAdmission$Simulation" "tasks" "LDeadlineAdmission$Configuration;") (by decide +kernel)
  have f_18 := hts (.fieldLink RX2 18 "DeadlineAdmission$Simulation" "pendingJobs" "[I") (by decide +kernel)
  have f_22 := hts (.fieldLink RX2 22 "DeadlineAdmission$Simulation" "oldestRelease" "[I") (by decide +kernel)
  have f_25 := hts (.fieldLink RX2 25 "DeadlineAdmission$Simulation" "oldestHasRun" "[I") (by decide +kernel)
  have f_30 := hts (.fieldLink RX2 30 "DeadlineAdmission$Simulation" "runningTime" "[[I") (by decide +kernel)
  have hl := lv_entry ([.ref s0, .int (nI 3), .int (nI u)]) (n := 4) (Nat.le_of_ble_eq_true rfl)
  rw [lg_entry_eq]
  generalize (lg_sl ([.ref s0, .int (nI 3), .int (nI u)]) ++ List.replicate (4 - (lg_sl ([.ref s0, .int (nI 3), .int (nI u)])).length) Slot.unset).toArray = ls at hl ⊢
  have hl : lv_has ls 4 [(0, .ref s0), (1, .int (nI 3)), (2, .int (nI u))] := hl
  refine lv_aload_n hx hb dX2_releaseJob_0 rfl (lv_at hl 0 rfl) ?_
  refine va_get (D := (dC, dI)) (ci := 2) (v := .ref (z 0)) (C := RX2) (T := TX2) (N := 15) hx hb hts hin2 hown hK hP 0 rfl rfl 0 (by decide) f_12 (fun _ h9 => h9) rfl dX2_releaseJob_1 ?_
  refine lv_iload_n hx hb dX2_releaseJob_4 rfl (lv_at hl 1 rfl) ?_
  refine vp_callSi (va_runV (As := [.int (nI 3)]) (rest := []) ⟨hx, hb, hml, hown, hts⟩ (c_X0_hasHighBudget l dC dI cy (z 0) bq G (nI n) sc  3 (by omega)) (cwV 1 hts gX2_releaseJob_X0_hasHighBudget rfl rfl rfl (by decide +kernel) ⟨Nat.le_of_ble_eq_true rfl, Nat.le_of_ble_eq_true rfl⟩) ⟨bl_ro, va_recv hK (hP.sub (ws' := wCfg cy (z 0) bq G (nI n) sc) [1, 2, 3, 4, 5, 6, 7, 8] rfl) (ci := 0) (q0 := 0) rfl rfl, pr_ro (hP.sub (ws' := wCfg cy (z 0) bq G (nI n) sc) [1, 2, 3, 4, 5, 6, 7, 8] rfl) hE⟩ rfl rfl hl.1 rfl (lv_room (Nat.le_of_ble_eq_true rfl)) dX2_releaseJob_5 ⟨Nat.le_of_ble_eq_true rfl, Nat.le_of_ble_eq_true rfl⟩).run (fun r e_r => ?_)
  subst e_r
  refine lv_if_eq (tgt := 22) hx hb dX2_releaseJob_8 (by decide) (fun c_8 => ?_) (fun c_8 => ?_)
  · refine lv_iconst (v := 0) hx hb dX2_releaseJob_22 (by decide) ?_
    refine lv_istore_n (lv' := [(3, .int 0), (0, .ref s0), (1, .int (nI 3)), (2, .int (nI u))]) hx hb dX2_releaseJob_23 rfl hl (by decide) rfl (fun ls hl => ?_)
    refine lv_aload_n hx hb dX2_releaseJob_24 rfl (lv_at hl 1 rfl) ?_
    refine va_get (D := (dC, dI)) (ci := 2) (v := .ref (z 4)) (C := RX2) (T := TX2) (N := 15) hx hb hts hin2 hown hK hP 0 rfl rfl 4 (by decide) f_30 (fun _ h9 => h9) rfl dX2_releaseJob_25 ?_
    refine lv_iload_n hx hb dX2_releaseJob_28 rfl (lv_at hl 2 rfl) ?_
    refine wB_ald (q := (rt 3)) hx hb hK hP 12 2 rfl rfl 3 rfl (by omega) (by decide) rfl dX2_releaseJob_29 ?_
    refine lv_iload_n hx hb dX2_releaseJob_30 rfl (lv_at hl 3 rfl) ?_
    refine lv_iload_n hx hb dX2_releaseJob_31 rfl (lv_at hl 0 rfl) ?_
    refine lv_if_eq (tgt := 47) hx hb dX2_releaseJob_32 (by decide) (fun _ => ?_) (fun h0 => absurd h0 (by decide))
    refine lv_aload_n hx hb dX2_releaseJob_47 rfl (lv_at hl 1 rfl) ?_
    refine va_get (D := (dC, dI)) (ci := 2) (v := .ref (z 0)) (C := RX2) (T := TX2) (N := 15) hx hb hts hin2 hown hK hP 0 rfl rfl 0 (by decide) f_12 (fun _ h9 => h9) rfl dX2_releaseJob_48 ?_
    refine va_getN (D := (dC, dI)) (ci := 0) (v := .ref (bq 2)) (C := RX0) (T := TX0) (N := 9) hx hb hts hin0 hown hK hP 1 rfl rfl 2 (by decide) f_113 (fun _ h9 => h9) rfl dX2_releaseJob_51 ?_
    refine lv_iload_n hx hb dX2_releaseJob_54 rfl (lv_at hl 2 rfl) ?_
    refine wI_alv (v := G 2 3) hx hb hK hP 4 0 rfl rfl 3 rfl (by omega) (by decide) rfl dX2_releaseJob_55 ?_
    refine wI_ast hx hb hK hP hD hS 17 0 rfl rfl u rfl (by omega) (by decide) dX2_releaseJob_56 (fun H locs hP hD hS => ?_)
    have hP : va_P (dC, dI) vwCl (wSim s0 z M ++ (wCfg cy (z 0) bq G (nI n) sc ++ (wArr cy z rt Q (up2 T 3 u (G 2 3))))) H := hP
    have hD : va_D A (wSim s0 z M ++ (wCfg cy (z 0) bq G (nI n) sc ++ (wArr cy z rt Q (up2 T 3 u (G 2 3))))) := hD
    refine lv_aload_n hx hb dX2_releaseJob_57 rfl (lv_at hl 1 rfl) ?_
    refine va_get (D := (dC, dI)) (ci := 2) (v := .ref (z 1)) (C := RX2) (T := TX2) (N := 15) hx hb hts hin2 hown hK hP 0 rfl rfl 1 (by decide) f_18 (fun _ h9 => h9) rfl dX2_releaseJob_58 ?_
    refine lv_iload_n hx hb dX2_releaseJob_61 rfl (lv_at hl 2 rfl) ?_
    refine wI_alv (v := Q 1 3) hx hb hK hP 9 0 rfl rfl 3 rfl (by omega) (by decide) rfl dX2_releaseJob_62 ?_
    refine lv_if_ne (tgt := 80) hx hb dX2_releaseJob_63 (by decide) (fun c_63 => ?_) (fun c_63 => ?_)
    · refine lv_aload_n hx hb dX2_releaseJob_80 rfl (lv_at hl 1 rfl) ?_
      refine va_get (D := (dC, dI)) (ci := 2) (v := .ref (z 1)) (C := RX2) (T := TX2) (N := 15) hx hb hts hin2 hown hK hP 0 rfl rfl 1 (by decide) f_18 (fun _ h9 => h9) rfl dX2_releaseJob_81 ?_
      refine lv_iload_n hx hb dX2_releaseJob_84 rfl (lv_at hl 2 rfl) ?_
      refine lv_dup2_11 hx hb dX2_releaseJob_85 rfl rfl ?_
      refine wI_alv (v := Q 1 3) hx hb hK hP 9 0 rfl rfl 3 rfl (by omega) (by decide) rfl dX2_releaseJob_86 ?_
      refine lv_iconst (v := 1) hx hb dX2_releaseJob_87 (by decide) ?_
      refine lv_iadd hx hb dX2_releaseJob_88 ?_
      refine wI_ast hx hb hK hP hD hS 9 0 rfl rfl 3 rfl (by omega) (by decide) dX2_releaseJob_89 (fun H locs hP hD hS => ?_)
      have hP : va_P (dC, dI) vwCl (wSim s0 z M ++ (wCfg cy (z 0) bq G (nI n) sc ++ (wArr cy z rt (up2 Q 1 3 ((Q 1 3) + 1)) (up2 T 3 u (G 2 3))))) H := hP
      have hD : va_D A (wSim s0 z M ++ (wCfg cy (z 0) bq G (nI n) sc ++ (wArr cy z rt (up2 Q 1 3 ((Q 1 3) + 1)) (up2 T 3 u (G 2 3))))) := hD
      have hP9 : va_P (dC, dI) vwCl (wSim s0 z M ++ (wCfg cy (z 0) bq G (nI n) sc ++ (wArr cy z rt (up2 Q 1 3 ((Q 1 3) + 1)) (up2 T 3 u (G 2 3))))) H := hP
      have hD9 : va_D A (wSim s0 z M ++ (wCfg cy (z 0) bq G (nI n) sc ++ (wArr cy z rt (up2 Q 1 3 ((Q 1 3) + 1)) (up2 T 3 u (G 2 3))))) := hD
      exact W.vret hx hb hr (fun t ht hW => ⟨⟨(M, up2 Q 1 3 ((Q 1 3) + 1), up2 T 3 u (G 2 3)), rfl, (by simp only [relJ]; rw [drM, if_pos (b01.mp c_8), nds, if_pos (b01.mp c_8), relQ, if_neg c_63]), by rw [ht]; exact hP9, hD9⟩, hS.F ht⟩) hS.2.2 dX2_releaseJob_90
    · refine lv_aload_n hx hb dX2_releaseJob_66 rfl (lv_at hl 1 rfl) ?_
      refine va_get (D := (dC, dI)) (ci := 2) (v := .ref (z 2)) (C := RX2) (T := TX2) (N := 15) hx hb hts hin2 hown hK hP 0 rfl rfl 2 (by decide) f_22 (fun _ h9 => h9) rfl dX2_releaseJob_67 ?_
      refine lv_iload_n hx hb dX2_releaseJob_70 rfl (lv_at hl 2 rfl) ?_
      refine lv_iload_n hx hb dX2_releaseJob_71 rfl (lv_at hl 3 rfl) ?_
      refine wI_ast hx hb hK hP hD hS 10 0 rfl rfl 3 rfl (by omega) (by decide) dX2_releaseJob_72 (fun H locs hP hD hS => ?_)
      have hP : va_P (dC, dI) vwCl (wSim s0 z M ++ (wCfg cy (z 0) bq G (nI n) sc ++ (wArr cy z rt (up2 Q 2 3 (nI u)) (up2 T 3 u (G 2 3))))) H := hP
      have hD : va_D A (wSim s0 z M ++ (wCfg cy (z 0) bq G (nI n) sc ++ (wArr cy z rt (up2 Q 2 3 (nI u)) (up2 T 3 u (G 2 3))))) := hD
      refine lv_aload_n hx hb dX2_releaseJob_73 rfl (lv_at hl 1 rfl) ?_
      refine va_get (D := (dC, dI)) (ci := 2) (v := .ref (z 3)) (C := RX2) (T := TX2) (N := 15) hx hb hts hin2 hown hK hP 0 rfl rfl 3 (by decide) f_25 (fun _ h9 => h9) rfl dX2_releaseJob_74 ?_
      refine lv_iload_n hx hb dX2_releaseJob_77 rfl (lv_at hl 2 rfl) ?_
      refine lv_iconst (v := 0) hx hb dX2_releaseJob_78 (by decide) ?_
      refine wI_ast hx hb hK hP hD hS 11 0 rfl rfl 3 rfl (by omega) (by decide) dX2_releaseJob_79 (fun H locs hP hD hS => ?_)
      have hP : va_P (dC, dI) vwCl (wSim s0 z M ++ (wCfg cy (z 0) bq G (nI n) sc ++ (wArr cy z rt (up2 (up2 Q 2 3 (nI u)) 3 3 0) (up2 T 3 u (G 2 3))))) H := hP
      have hD : va_D A (wSim s0 z M ++ (wCfg cy (z 0) bq G (nI n) sc ++ (wArr cy z rt (up2 (up2 Q 2 3 (nI u)) 3 3 0) (up2 T 3 u (G 2 3))))) := hD
      refine lv_aload_n hx hb dX2_releaseJob_80 rfl (lv_at hl 1 rfl) ?_
      refine va_get (D := (dC, dI)) (ci := 2) (v := .ref (z 1)) (C := RX2) (T := TX2) (N := 15) hx hb hts hin2 hown hK hP 0 rfl rfl 1 (by decide) f_18 (fun _ h9 => h9) rfl dX2_releaseJob_81 ?_
      refine lv_iload_n hx hb dX2_releaseJob_84 rfl (lv_at hl 2 rfl) ?_
      refine lv_dup2_11 hx hb dX2_releaseJob_85 rfl rfl ?_
      refine wI_alv (v := Q 1 3) hx hb hK hP 9 0 rfl rfl 3 rfl (by omega) (by decide) rfl dX2_releaseJob_86 ?_
      refine lv_iconst (v := 1) hx hb dX2_releaseJob_87 (by decide) ?_
      refine lv_iadd hx hb dX2_releaseJob_88 ?_
      refine wI_ast hx hb hK hP hD hS 9 0 rfl rfl 3 rfl (by omega) (by decide) dX2_releaseJob_89 (fun H locs hP hD hS => ?_)
      have hP : va_P (dC, dI) vwCl (wSim s0 z M ++ (wCfg cy (z 0) bq G (nI n) sc ++ (wArr cy z rt (up2 (up2 (up2 Q 2 3 (nI u)) 3 3 0) 1 3 ((Q 1 3) + 1)) (up2 T 3 u (G 2 3))))) H := hP
      have hD : va_D A (wSim s0 z M ++ (wCfg cy (z 0) bq G (nI n) sc ++ (wArr cy z rt (up2 (up2 (up2 Q 2 3 (nI u)) 3 3 0) 1 3 ((Q 1 3) + 1)) (up2 T 3 u (G 2 3))))) := hD
      have hP9 : va_P (dC, dI) vwCl (wSim s0 z M ++ (wCfg cy (z 0) bq G (nI n) sc ++ (wArr cy z rt (up2 (up2 (up2 Q 2 3 (nI u)) 3 3 0) 1 3 ((Q 1 3) + 1)) (up2 T 3 u (G 2 3))))) H := hP
      have hD9 : va_D A (wSim s0 z M ++ (wCfg cy (z 0) bq G (nI n) sc ++ (wArr cy z rt (up2 (up2 (up2 Q 2 3 (nI u)) 3 3 0) 1 3 ((Q 1 3) + 1)) (up2 T 3 u (G 2 3))))) := hD
      exact W.vret hx hb hr (fun t ht hW => ⟨⟨(M, up2 (up2 (up2 Q 2 3 (nI u)) 3 3 0) 1 3 ((Q 1 3) + 1), up2 T 3 u (G 2 3)), rfl, (by simp only [relJ]; rw [drM, if_pos (b01.mp c_8), nds, if_pos (b01.mp c_8), relQ, if_pos c_63]), by rw [ht]; exact hP9, hD9⟩, hS.F ht⟩) hS.2.2 dX2_releaseJob_90
  · refine lv_aload_n hx hb dX2_releaseJob_11 rfl (lv_at hl 0 rfl) ?_
    have hPc := hP.sub (ws' := wSim s0 z M) [0] rfl
    have hDc := hD.sub (ws' := wSim s0 z M) [0] (by decide) rfl
    have hFc := va_free (wc := wSim s0 z M) hD hS hA [0] rfl
    refine va_calli (va_runV (As := []) (rest := []) ⟨hx, hb, hml, hown, hts⟩ (c_X2_drawOverrun l dC dI cy s.heap.size s0 z M) (cwV 0 hts gX2_releaseJob_X2_drawOverrun rfl rfl rfl (by decide +kernel) ⟨Nat.le_of_ble_eq_true rfl, Nat.le_of_ble_eq_true rfl⟩) ⟨bl_in, va_recv hK hPc (ci := 2) (q0 := 0) rfl rfl, pr_in hPc hE hDc⟩ rfl rfl hl.1 rfl (lv_room (Nat.le_of_ble_eq_true rfl)) dX2_releaseJob_12 ⟨Nat.le_of_ble_eq_true rfl, Nat.le_of_ble_eq_true rfl⟩) hS (fun q _ h => hFc q h) hFc (fun r u t H1 locs ht hvm hw hB hz1 hk1 hS => ?_)
    obtain ⟨rfl, rfl⟩ := hw
    obtain ⟨hP1, hD1⟩ := hB
    rw [ht] at hP1
    obtain ⟨hP, hD⟩ := va_join (wr := wCfg cy (z 0) bq G (nI n) sc ++ (wArr cy z rt Q T)) (w1 := wSim s0 z (upd M 7 (drw (M 7)))) hP hD [0] [1, 2, 3, 4, 5, 6, 7, 8, 9, 10, 11, 12, 13, 14, 15, 16, 17, 18, 19, 20, 21] rfl rfl (by decide) (by decide) hk1 hFc hP1 hD1
    have hP : va_P (dC, dI) vwCl (wSim s0 z (upd M 7 (drw (M 7))) ++ (wCfg cy (z 0) bq G (nI n) sc ++ (wArr cy z rt Q T))) H1 := hP.sub [21, 0, 1, 2, 3, 4, 5, 6, 7, 8, 9, 10, 11, 12, 13, 14, 15, 16, 17, 18, 19, 20] rfl
    have hD : va_D A (wSim s0 z (upd M 7 (drw (M 7))) ++ (wCfg cy (z 0) bq G (nI n) sc ++ (wArr cy z rt Q T))) := hD.sub [21, 0, 1, 2, 3, 4, 5, 6, 7, 8, 9, 10, 11, 12, 13, 14, 15, 16, 17, 18, 19, 20] (by decide) rfl
    clear hz1 hk1 hPc hDc hFc hP1 hD1
    generalize H1 = H at hP hS ⊢
    refine lv_topi (fun y_ ey_ => ?_)
    obtain rfl : y_ = if ovr (drw (M 7)) (M 8) then 1 else 0 := ey_
    refine lv_if_eq (tgt := 22) hx hb dX2_releaseJob_15 (by decide) (fun c_15 => ?_) (fun c_15 => ?_)
    · refine lv_iconst (v := 0) hx hb dX2_releaseJob_22 (by decide) ?_
      refine lv_istore_n (lv' := [(3, .int 0), (0, .ref s0), (1, .int (nI 3)), (2, .int (nI u))]) hx hb dX2_releaseJob_23 rfl hl (by decide) rfl (fun ls hl => ?_)
      refine lv_aload_n hx hb dX2_releaseJob_24 rfl (lv_at hl 1 rfl) ?_
      refine va_get (D := (dC, dI)) (ci := 2) (v := .ref (z 4)) (C := RX2) (T := TX2) (N := 15) hx hb hts hin2 hown hK hP 0 rfl rfl 4 (by decide) f_30 (fun _ h9 => h9) rfl dX2_releaseJob_25 ?_
      refine lv_iload_n hx hb dX2_releaseJob_28 rfl (lv_at hl 2 rfl) ?_
      refine wB_ald (q := (rt 3)) hx hb hK hP 12 2 rfl rfl 3 rfl (by omega) (by decide) rfl dX2_releaseJob_29 ?_
      refine lv_iload_n hx hb dX2_releaseJob_30 rfl (lv_at hl 3 rfl) ?_
      refine lv_iload_n hx hb dX2_releaseJob_31 rfl (lv_at hl 0 rfl) ?_
      refine lv_if_eq (tgt := 47) hx hb dX2_releaseJob_32 (by decide) (fun _ => ?_) (fun h0 => absurd h0 (by decide))
      refine lv_aload_n hx hb dX2_releaseJob_47 rfl (lv_at hl 1 rfl) ?_
      refine va_get (D := (dC, dI)) (ci := 2) (v := .ref (z 0)) (C := RX2) (T := TX2) (N := 15) hx hb hts hin2 hown hK hP 0 rfl rfl 0 (by decide) f_12 (fun _ h9 => h9) rfl dX2_releaseJob_48 ?_
      refine va_getN (D := (dC, dI)) (ci := 0) (v := .ref (bq 2)) (C := RX0) (T := TX0) (N := 9) hx hb hts hin0 hown hK hP 1 rfl rfl 2 (by decide) f_113 (fun _ h9 => h9) rfl dX2_releaseJob_51 ?_
      refine lv_iload_n hx hb dX2_releaseJob_54 rfl (lv_at hl 2 rfl) ?_
      refine wI_alv (v := G 2 3) hx hb hK hP 4 0 rfl rfl 3 rfl (by omega) (by decide) rfl dX2_releaseJob_55 ?_
      refine wI_ast hx hb hK hP hD hS 17 0 rfl rfl u rfl (by omega) (by decide) dX2_releaseJob_56 (fun H locs hP hD hS => ?_)
      have hP : va_P (dC, dI) vwCl (wSim s0 z (upd M 7 (drw (M 7))) ++ (wCfg cy (z 0) bq G (nI n) sc ++ (wArr cy z rt Q (up2 T 3 u (G 2 3))))) H := hP
      have hD : va_D A (wSim s0 z (upd M 7 (drw (M 7))) ++ (wCfg cy (z 0) bq G (nI n) sc ++ (wArr cy z rt Q (up2 T 3 u (G 2 3))))) := hD
      refine lv_aload_n hx hb dX2_releaseJob_57 rfl (lv_at hl 1 rfl) ?_
      refine va_get (D := (dC, dI)) (ci := 2) (v := .ref (z 1)) (C := RX2) (T := TX2) (N := 15) hx hb hts hin2 hown hK hP 0 rfl rfl 1 (by decide) f_18 (fun _ h9 => h9) rfl dX2_releaseJob_58 ?_
      refine lv_iload_n hx hb dX2_releaseJob_61 rfl (lv_at hl 2 rfl) ?_
      refine wI_alv (v := Q 1 3) hx hb hK hP 9 0 rfl rfl 3 rfl (by omega) (by decide) rfl dX2_releaseJob_62 ?_
      refine lv_if_ne (tgt := 80) hx hb dX2_releaseJob_63 (by decide) (fun c_63 => ?_) (fun c_63 => ?_)
      · refine lv_aload_n hx hb dX2_releaseJob_80 rfl (lv_at hl 1 rfl) ?_
        refine va_get (D := (dC, dI)) (ci := 2) (v := .ref (z 1)) (C := RX2) (T := TX2) (N := 15) hx hb hts hin2 hown hK hP 0 rfl rfl 1 (by decide) f_18 (fun _ h9 => h9) rfl dX2_releaseJob_81 ?_
        refine lv_iload_n hx hb dX2_releaseJob_84 rfl (lv_at hl 2 rfl) ?_
        refine lv_dup2_11 hx hb dX2_releaseJob_85 rfl rfl ?_
        refine wI_alv (v := Q 1 3) hx hb hK hP 9 0 rfl rfl 3 rfl (by omega) (by decide) rfl dX2_releaseJob_86 ?_
        refine lv_iconst (v := 1) hx hb dX2_releaseJob_87 (by decide) ?_
        refine lv_iadd hx hb dX2_releaseJob_88 ?_
        refine wI_ast hx hb hK hP hD hS 9 0 rfl rfl 3 rfl (by omega) (by decide) dX2_releaseJob_89 (fun H locs hP hD hS => ?_)
        have hP : va_P (dC, dI) vwCl (wSim s0 z (upd M 7 (drw (M 7))) ++ (wCfg cy (z 0) bq G (nI n) sc ++ (wArr cy z rt (up2 Q 1 3 ((Q 1 3) + 1)) (up2 T 3 u (G 2 3))))) H := hP
        have hD : va_D A (wSim s0 z (upd M 7 (drw (M 7))) ++ (wCfg cy (z 0) bq G (nI n) sc ++ (wArr cy z rt (up2 Q 1 3 ((Q 1 3) + 1)) (up2 T 3 u (G 2 3))))) := hD
        have hP9 : va_P (dC, dI) vwCl (wSim s0 z (upd M 7 (drw (M 7))) ++ (wCfg cy (z 0) bq G (nI n) sc ++ (wArr cy z rt (up2 Q 1 3 ((Q 1 3) + 1)) (up2 T 3 u (G 2 3))))) H := hP
        have hD9 : va_D A (wSim s0 z (upd M 7 (drw (M 7))) ++ (wCfg cy (z 0) bq G (nI n) sc ++ (wArr cy z rt (up2 Q 1 3 ((Q 1 3) + 1)) (up2 T 3 u (G 2 3))))) := hD
        exact W.vret hx hb hr (fun t ht hW => ⟨⟨(upd M 7 (drw (M 7)), up2 Q 1 3 ((Q 1 3) + 1), up2 T 3 u (G 2 3)), rfl, (by simp only [relJ]; rw [drM, if_neg (fun h => c_8 (b01.mpr h)), nds, if_neg (fun h => c_8 (b01.mpr h)), if_neg (b10.mp c_15), relQ, if_neg c_63]), by rw [ht]; exact hP9, hD9⟩, hS.F ht⟩) hS.2.2 dX2_releaseJob_90
      · refine lv_aload_n hx hb dX2_releaseJob_66 rfl (lv_at hl 1 rfl) ?_
        refine va_get (D := (dC, dI)) (ci := 2) (v := .ref (z 2)) (C := RX2) (T := TX2) (N := 15) hx hb hts hin2 hown hK hP 0 rfl rfl 2 (by decide) f_22 (fun _ h9 => h9) rfl dX2_releaseJob_67 ?_
        refine lv_iload_n hx hb dX2_releaseJob_70 rfl (lv_at hl 2 rfl) ?_
        refine lv_iload_n hx hb dX2_releaseJob_71 rfl (lv_at hl 3 rfl) ?_
        refine wI_ast hx hb hK hP hD hS 10 0 rfl rfl 3 rfl (by omega) (by decide) dX2_releaseJob_72 (fun H locs hP hD hS => ?_)
        have hP : va_P (dC, dI) vwCl (wSim s0 z (upd M 7 (drw (M 7))) ++ (wCfg cy (z 0) bq G (nI n) sc ++ (wArr cy z rt (up2 Q 2 3 (nI u)) (up2 T 3 u (G 2 3))))) H := hP
        have hD : va_D A (wSim s0 z (upd M 7 (drw (M 7))) ++ (wCfg cy (z 0) bq G (nI n) sc ++ (wArr cy z rt (up2 Q 2 3 (nI u)) (up2 T 3 u (G 2 3))))) := hD
        refine lv_aload_n hx hb dX2_releaseJob_73 rfl (lv_at hl 1 rfl) ?_
        refine va_get (D := (dC, dI)) (ci := 2) (v := .ref (z 3)) (C := RX2) (T := TX2) (N := 15) hx hb hts hin2 hown hK hP 0 rfl rfl 3 (by decide) f_25 (fun _ h9 => h9) rfl dX2_releaseJob_74 ?_
        refine lv_iload_n hx hb dX2_releaseJob_77 rfl (lv_at hl 2 rfl) ?_
        refine lv_iconst (v := 0) hx hb dX2_releaseJob_78 (by decide) ?_
        refine wI_ast hx hb hK hP hD hS 11 0 rfl rfl 3 rfl (by omega) (by decide) dX2_releaseJob_79 (fun H locs hP hD hS => ?_)
        have hP : va_P (dC, dI) vwCl (wSim s0 z (upd M 7 (drw (M 7))) ++ (wCfg cy (z 0) bq G (nI n) sc ++ (wArr cy z rt (up2 (up2 Q 2 3 (nI u)) 3 3 0) (up2 T 3 u (G 2 3))))) H := hP
        have hD : va_D A (wSim s0 z (upd M 7 (drw (M 7))) ++ (wCfg cy (z 0) bq G (nI n) sc ++ (wArr cy z rt (up2 (up2 Q 2 3 (nI u)) 3 3 0) (up2 T 3 u (G 2 3))))) := hD
        refine lv_aload_n hx hb dX2_releaseJob_80 rfl (lv_at hl 1 rfl) ?_
        refine va_get (D := (dC, dI)) (ci := 2) (v := .ref (z 1)) (C := RX2) (T := TX2) (N := 15) hx hb hts hin2 hown hK hP 0 rfl rfl 1 (by decide) f_18 (fun _ h9 => h9) rfl dX2_releaseJob_81 ?_
        refine lv_iload_n hx hb dX2_releaseJob_84 rfl (lv_at hl 2 rfl) ?_
        refine lv_dup2_11 hx hb dX2_releaseJob_85 rfl rfl ?_
        refine wI_alv (v := Q 1 3) hx hb hK hP 9 0 rfl rfl 3 rfl (by omega) (by decide) rfl dX2_releaseJob_86 ?_
        refine lv_iconst (v := 1) hx hb dX2_releaseJob_87 (by decide) ?_
        refine lv_iadd hx hb dX2_releaseJob_88 ?_
        refine wI_ast hx hb hK hP hD hS 9 0 rfl rfl 3 rfl (by omega) (by decide) dX2_releaseJob_89 (fun H locs hP hD hS => ?_)
        have hP : va_P (dC, dI) vwCl (wSim s0 z (upd M 7 (drw (M 7))) ++ (wCfg cy (z 0) bq G (nI n) sc ++ (wArr cy z rt (up2 (up2 (up2 Q 2 3 (nI u)) 3 3 0) 1 3 ((Q 1 3) + 1)) (up2 T 3 u (G 2 3))))) H := hP
        have hD : va_D A (wSim s0 z (upd M 7 (drw (M 7))) ++ (wCfg cy (z 0) bq G (nI n) sc ++ (wArr cy z rt (up2 (up2 (up2 Q 2 3 (nI u)) 3 3 0) 1 3 ((Q 1 3) + 1)) (up2 T 3 u (G 2 3))))) := hD
        have hP9 : va_P (dC, dI) vwCl (wSim s0 z (upd M 7 (drw (M 7))) ++ (wCfg cy (z 0) bq G (nI n) sc ++ (wArr cy z rt (up2 (up2 (up2 Q 2 3 (nI u)) 3 3 0) 1 3 ((Q 1 3) + 1)) (up2 T 3 u (G 2 3))))) H := hP
        have hD9 : va_D A (wSim s0 z (upd M 7 (drw (M 7))) ++ (wCfg cy (z 0) bq G (nI n) sc ++ (wArr cy z rt (up2 (up2 (up2 Q 2 3 (nI u)) 3 3 0) 1 3 ((Q 1 3) + 1)) (up2 T 3 u (G 2 3))))) := hD
        exact W.vret hx hb hr (fun t ht hW => ⟨⟨(upd M 7 (drw (M 7)), up2 (up2 (up2 Q 2 3 (nI u)) 3 3 0) 1 3 ((Q 1 3) + 1), up2 T 3 u (G 2 3)), rfl, (by simp only [relJ]; rw [drM, if_neg (fun h => c_8 (b01.mpr h)), nds, if_neg (fun h => c_8 (b01.mpr h)), if_neg (b10.mp c_15), relQ, if_pos c_63]), by rw [ht]; exact hP9, hD9⟩, hS.F ht⟩) hS.2.2 dX2_releaseJob_90
    · refine lv_iconst (v := 1) hx hb dX2_releaseJob_18 (by decide) ?_
      refine lv_goto (tgt := 23) hx hb dX2_releaseJob_19 (by decide) ?_
      refine lv_istore_n (lv' := [(3, .int 1), (0, .ref s0), (1, .int (nI 3)), (2, .int (nI u))]) hx hb dX2_releaseJob_23 rfl hl (by decide) rfl (fun ls hl => ?_)
      refine lv_aload_n hx hb dX2_releaseJob_24 rfl (lv_at hl 1 rfl) ?_
      refine va_get (D := (dC, dI)) (ci := 2) (v := .ref (z 4)) (C := RX2) (T := TX2) (N := 15) hx hb hts hin2 hown hK hP 0 rfl rfl 4 (by decide) f_30 (fun _ h9 => h9) rfl dX2_releaseJob_25 ?_
      refine lv_iload_n hx hb dX2_releaseJob_28 rfl (lv_at hl 2 rfl) ?_
      refine wB_ald (q := (rt 3)) hx hb hK hP 12 2 rfl rfl 3 rfl (by omega) (by decide) rfl dX2_releaseJob_29 ?_
      refine lv_iload_n hx hb dX2_releaseJob_30 rfl (lv_at hl 3 rfl) ?_
      refine lv_iload_n hx hb dX2_releaseJob_31 rfl (lv_at hl 0 rfl) ?_
      refine lv_if_eq (tgt := 47) hx hb dX2_releaseJob_32 (by decide) (fun h0 => absurd h0 (by decide)) (fun _ => ?_)
      refine lv_aload_n hx hb dX2_releaseJob_35 rfl (lv_at hl 1 rfl) ?_
      refine va_get (D := (dC, dI)) (ci := 2) (v := .ref (z 0)) (C := RX2) (T := TX2) (N := 15) hx hb hts hin2 hown hK hP 0 rfl rfl 0 (by decide) f_12 (fun _ h9 => h9) rfl dX2_releaseJob_36 ?_
      refine va_getN (D := (dC, dI)) (ci := 0) (v := .ref (bq 3)) (C := RX0) (T := TX0) (N := 9) hx hb hts hin0 hown hK hP 1 rfl rfl 3 (by decide) f_110 (fun _ h9 => h9) rfl dX2_releaseJob_39 ?_
      refine lv_iload_n hx hb dX2_releaseJob_42 rfl (lv_at hl 2 rfl) ?_
      refine wI_alv (v := G 3 3) hx hb hK hP 5 0 rfl rfl 3 rfl (by omega) (by decide) rfl dX2_releaseJob_43 ?_
      refine lv_goto (tgt := 56) hx hb dX2_releaseJob_44 (by decide) ?_
      refine wI_ast hx hb hK hP hD hS 17 0 rfl rfl u rfl (by omega) (by decide) dX2_releaseJob_56 (fun H locs hP hD hS => ?_)
      have hP : va_P (dC, dI) vwCl (wSim s0 z (upd M 7 (drw (M 7))) ++ (wCfg cy (z 0) bq G (nI n) sc ++ (wArr cy z rt Q (up2 T 3 u (G 3 3))))) H := hP
      have hD : va_D A (wSim s0 z (upd M 7 (drw (M 7))) ++ (wCfg cy (z 0) bq G (nI n) sc ++ (wArr cy z rt Q (up2 T 3 u (G 3 3))))) := hD
      refine lv_aload_n hx hb dX2_releaseJob_57 rfl (lv_at hl 1 rfl) ?_
      refine va_get (D := (dC, dI)) (ci := 2) (v := .ref (z 1)) (C := RX2) (T := TX2) (N := 15) hx hb hts hin2 hown hK hP 0 rfl rfl 1 (by decide) f_18 (fun _ h9 => h9) rfl dX2_releaseJob_58 ?_
      refine lv_iload_n hx hb dX2_releaseJob_61 rfl (lv_at hl 2 rfl) ?_
      refine wI_alv (v := Q 1 3) hx hb hK hP 9 0 rfl rfl 3 rfl (by omega) (by decide) rfl dX2_releaseJob_62 ?_
      refine lv_if_ne (tgt := 80) hx hb dX2_releaseJob_63 (by decide) (fun c_63 => ?_) (fun c_63 => ?_)
      · refine lv_aload_n hx hb dX2_releaseJob_80 rfl (lv_at hl 1 rfl) ?_
        refine va_get (D := (dC, dI)) (ci := 2) (v := .ref (z 1)) (C := RX2) (T := TX2) (N := 15) hx hb hts hin2 hown hK hP 0 rfl rfl 1 (by decide) f_18 (fun _ h9 => h9) rfl dX2_releaseJob_81 ?_
        refine lv_iload_n hx hb dX2_releaseJob_84 rfl (lv_at hl 2 rfl) ?_
        refine lv_dup2_11 hx hb dX2_releaseJob_85 rfl rfl ?_
        refine wI_alv (v := Q 1 3) hx hb hK hP 9 0 rfl rfl 3 rfl (by omega) (by decide) rfl dX2_releaseJob_86 ?_
        refine lv_iconst (v := 1) hx hb dX2_releaseJob_87 (by decide) ?_
        refine lv_iadd hx hb dX2_releaseJob_88 ?_
        refine wI_ast hx hb hK hP hD hS 9 0 rfl rfl 3 rfl (by omega) (by decide) dX2_releaseJob_89 (fun H locs hP hD hS => ?_)
        have hP : va_P (dC, dI) vwCl (wSim s0 z (upd M 7 (drw (M 7))) ++ (wCfg cy (z 0) bq G (nI n) sc ++ (wArr cy z rt (up2 Q 1 3 ((Q 1 3) + 1)) (up2 T 3 u (G 3 3))))) H := hP
        have hD : va_D A (wSim s0 z (upd M 7 (drw (M 7))) ++ (wCfg cy (z 0) bq G (nI n) sc ++ (wArr cy z rt (up2 Q 1 3 ((Q 1 3) + 1)) (up2 T 3 u (G 3 3))))) := hD
        have hP9 : va_P (dC, dI) vwCl (wSim s0 z (upd M 7 (drw (M 7))) ++ (wCfg cy (z 0) bq G (nI n) sc ++ (wArr cy z rt (up2 Q 1 3 ((Q 1 3) + 1)) (up2 T 3 u (G 3 3))))) H := hP
        have hD9 : va_D A (wSim s0 z (upd M 7 (drw (M 7))) ++ (wCfg cy (z 0) bq G (nI n) sc ++ (wArr cy z rt (up2 Q 1 3 ((Q 1 3) + 1)) (up2 T 3 u (G 3 3))))) := hD
        exact W.vret hx hb hr (fun t ht hW => ⟨⟨(upd M 7 (drw (M 7)), up2 Q 1 3 ((Q 1 3) + 1), up2 T 3 u (G 3 3)), rfl, (by simp only [relJ]; rw [drM, if_neg (fun h => c_8 (b01.mpr h)), nds, if_neg (fun h => c_8 (b01.mpr h)), if_pos (nb10 c_15), relQ, if_neg c_63]), by rw [ht]; exact hP9, hD9⟩, hS.F ht⟩) hS.2.2 dX2_releaseJob_90
      · refine lv_aload_n hx hb dX2_releaseJob_66 rfl (lv_at hl 1 rfl) ?_
        refine va_get (D := (dC, dI)) (ci := 2) (v := .ref (z 2)) (C := RX2) (T := TX2) (N := 15) hx hb hts hin2 hown hK hP 0 rfl rfl 2 (by decide) f_22 (fun _ h9 => h9) rfl dX2_releaseJob_67 ?_
        refine lv_iload_n hx hb dX2_releaseJob_70 rfl (lv_at hl 2 rfl) ?_
        refine lv_iload_n hx hb dX2_releaseJob_71 rfl (lv_at hl 3 rfl) ?_
        refine wI_ast hx hb hK hP hD hS 10 0 rfl rfl 3 rfl (by omega) (by decide) dX2_releaseJob_72 (fun H locs hP hD hS => ?_)
        have hP : va_P (dC, dI) vwCl (wSim s0 z (upd M 7 (drw (M 7))) ++ (wCfg cy (z 0) bq G (nI n) sc ++ (wArr cy z rt (up2 Q 2 3 (nI u)) (up2 T 3 u (G 3 3))))) H := hP
        have hD : va_D A (wSim s0 z (upd M 7 (drw (M 7))) ++ (wCfg cy (z 0) bq G (nI n) sc ++ (wArr cy z rt (up2 Q 2 3 (nI u)) (up2 T 3 u (G 3 3))))) := hD
        refine lv_aload_n hx hb dX2_releaseJob_73 rfl (lv_at hl 1 rfl) ?_
        refine va_get (D := (dC, dI)) (ci := 2) (v := .ref (z 3)) (C := RX2) (T := TX2) (N := 15) hx hb hts hin2 hown hK hP 0 rfl rfl 3 (by decide) f_25 (fun _ h9 => h9) rfl dX2_releaseJob_74 ?_
        refine lv_iload_n hx hb dX2_releaseJob_77 rfl (lv_at hl 2 rfl) ?_
        refine lv_iconst (v := 0) hx hb dX2_releaseJob_78 (by decide) ?_
        refine wI_ast hx hb hK hP hD hS 11 0 rfl rfl 3 rfl (by omega) (by decide) dX2_releaseJob_79 (fun H locs hP hD hS => ?_)
        have hP : va_P (dC, dI) vwCl (wSim s0 z (upd M 7 (drw (M 7))) ++ (wCfg cy (z 0) bq G (nI n) sc ++ (wArr cy z rt (up2 (up2 Q 2 3 (nI u)) 3 3 0) (up2 T 3 u (G 3 3))))) H := hP
        have hD : va_D A (wSim s0 z (upd M 7 (drw (M 7))) ++ (wCfg cy (z 0) bq G (nI n) sc ++ (wArr cy z rt (up2 (up2 Q 2 3 (nI u)) 3 3 0) (up2 T 3 u (G 3 3))))) := hD
        refine lv_aload_n hx hb dX2_releaseJob_80 rfl (lv_at hl 1 rfl) ?_
        refine va_get (D := (dC, dI)) (ci := 2) (v := .ref (z 1)) (C := RX2) (T := TX2) (N := 15) hx hb hts hin2 hown hK hP 0 rfl rfl 1 (by decide) f_18 (fun _ h9 => h9) rfl dX2_releaseJob_81 ?_
        refine lv_iload_n hx hb dX2_releaseJob_84 rfl (lv_at hl 2 rfl) ?_
        refine lv_dup2_11 hx hb dX2_releaseJob_85 rfl rfl ?_
        refine wI_alv (v := Q 1 3) hx hb hK hP 9 0 rfl rfl 3 rfl (by omega) (by decide) rfl dX2_releaseJob_86 ?_
        refine lv_iconst (v := 1) hx hb dX2_releaseJob_87 (by decide) ?_
        refine lv_iadd hx hb dX2_releaseJob_88 ?_
        refine wI_ast hx hb hK hP hD hS 9 0 rfl rfl 3 rfl (by omega) (by decide) dX2_releaseJob_89 (fun H locs hP hD hS => ?_)
        have hP : va_P (dC, dI) vwCl (wSim s0 z (upd M 7 (drw (M 7))) ++ (wCfg cy (z 0) bq G (nI n) sc ++ (wArr cy z rt (up2 (up2 (up2 Q 2 3 (nI u)) 3 3 0) 1 3 ((Q 1 3) + 1)) (up2 T 3 u (G 3 3))))) H := hP
        have hD : va_D A (wSim s0 z (upd M 7 (drw (M 7))) ++ (wCfg cy (z 0) bq G (nI n) sc ++ (wArr cy z rt (up2 (up2 (up2 Q 2 3 (nI u)) 3 3 0) 1 3 ((Q 1 3) + 1)) (up2 T 3 u (G 3 3))))) := hD
        have hP9 : va_P (dC, dI) vwCl (wSim s0 z (upd M 7 (drw (M 7))) ++ (wCfg cy (z 0) bq G (nI n) sc ++ (wArr cy z rt (up2 (up2 (up2 Q 2 3 (nI u)) 3 3 0) 1 3 ((Q 1 3) + 1)) (up2 T 3 u (G 3 3))))) H := hP
        have hD9 : va_D A (wSim s0 z (upd M 7 (drw (M 7))) ++ (wCfg cy (z 0) bq G (nI n) sc ++ (wArr cy z rt (up2 (up2 (up2 Q 2 3 (nI u)) 3 3 0) 1 3 ((Q 1 3) + 1)) (up2 T 3 u (G 3 3))))) := hD
        exact W.vret hx hb hr (fun t ht hW => ⟨⟨(upd M 7 (drw (M 7)), up2 (up2 (up2 Q 2 3 (nI u)) 3 3 0) 1 3 ((Q 1 3) + 1), up2 T 3 u (G 3 3)), rfl, (by simp only [relJ]; rw [drM, if_neg (fun h => c_8 (b01.mpr h)), nds, if_neg (fun h => c_8 (b01.mpr h)), if_pos (nb10 c_15), relQ, if_pos c_63]), by rw [ht]; exact hP9, hD9⟩, hS.F ht⟩) hS.2.2 dX2_releaseJob_90
set_option maxHeartbeats 1000000 in
set_option maxRecDepth 100000 in
/-- a job of task 4 -/
theorem c_X2_releaseJob_4 (l : Launch) (dC : Nat → ClassId) (dI : Nat → Nat → Nat) (cy : Nat → ClassId) (sz : Nat) (s0 : Nat) (z : Nat → Nat) (M : Nat → Int32) (bq : Nat → Nat) (G : vG) (n : Nat) (hn : n ≤ 8) (sc : Int32) (Q : vG) (rt : Nat → Nat) (T : vG) (u : Nat) (hu : u < 200) : Met l yX2_releaseJob wsX2_releaseJob ({ frames := 1, cells := 0, slots := 0, locals := 21 }) (va_Pc [.ref s0, .int (nI 4), .int (nI u)] (pIn dC dI cy (wSim s0 z M ++ (wCfg cy (z 0) bq G (nI n) sc ++ (wArr cy z rt Q T))) sz)) (va_Qv (fun (u9 : SSt) => u9 = relJ G 4 u (M, Q, T)) (fun (u : SSt) t => va_P (dC, dI) vwCl (wSim s0 z u.1 ++ (wCfg cy (z 0) bq G (nI n) sc ++ (wArr cy z rt u.2.1 u.2.2))) t.heap ∧ va_D (va_A (wSim s0 z M ++ (wCfg cy (z 0) bq G (nI n) sc ++ (wArr cy z rt Q T))) sz) (wSim s0 z u.1 ++ (wCfg cy (z 0) bq G (nI n) sc ++ (wArr cy z rt u.2.1 u.2.2)))) (va_A (wSim s0 z M ++ (wCfg cy (z 0) bq G (nI n) sc ++ (wArr cy z rt Q T))) sz)) 0 0 (va_A (wSim s0 z M ++ (wCfg cy (z 0) bq G (nI n) sc ++ (wArr cy z rt Q T))) sz) := by
  refine Met.ofW (cc := cX2_releaseJob) (maxL := 4) (ret := none) (by decide) rfl ?_
  intro p e s m args below meth c s₁ B hml hv
  obtain ⟨rfl, hsz, hP, hE, hD0⟩ := hv
  have hK := hE.1
  subst hsz
  have hD := hD0.self (sz := s.heap.size)
  generalize hAe : va_A (wSim s0 z M ++ (wCfg cy (z 0) bq G (nI n) sc ++ (wArr cy z rt Q T))) s.heap.size = A at hD ⊢
  have hA : ∀ q : Nat, s.heap.size ≤ q → A q := fun q h => by rw [← hAe]; exact Or.inr h
  have hS : va_S A s.heap s.heap [] := va_S.rf
  have hP : va_P (dC, dI) vwCl (wSim s0 z M ++ (wCfg cy (z 0) bq G (nI n) sc ++ (wArr cy z rt Q T))) s.heap := hP
  have hx := B.exec
  have hb := B.bytes
  have hr := B.returns
  have hts := atoms_spec (ws := wsX2_releaseJob) B.pre
  have hown : s.vm.findClass RX2 = some m.cls := findClass_of_methodNamed B.named
  have hlocks := B.notSynchronized
  have hin0 : ∀ w ∈ u_ws RX0 TX0 9, w ∈ wsX2_releaseJob := by decide +kernel
  have hin2 : ∀ w ∈ u_ws RX2 TX2 15, w ∈ wsX2_releaseJob := by decide +kernel
  have f_110 := va_Nw.use (A := ([.ref s0, .int (nI 4), .int (nI u)].toArray)) rfl (hE.f 4 rfl)
  have f_113 := va_Nw.use (A := ([.ref s0, .int (nI 4), .int (nI u)].toArray)) rfl (hE.f 2 rfl)
  have f_12 := hts (.fieldLink RX2 12 "DeadlineAdmission$Simulation" "tasks" "LDeadlineAdmission$Configuration;") (by decide +kernel)
  have f_18 := hts (.fieldLink RX2 18 "DeadlineAdmission$Simulation" "pendingJobs" "[I") (by decide +kernel)
  have f_22 := hts (.fieldLink RX2 22 "DeadlineAdmission$Simulation" "oldestRelease" "[I") (by decide +kernel)
  have f_25 := hts (.fieldLink RX2 25 "DeadlineAdmission$Simulation" "oldestHasRun" "[I") (by decide +kernel)
  have f_30 := hts (.fieldLink RX2 30 "DeadlineAdmission$Simulation" "runningTime" "[[I") (by decide +kernel)
  have hl := lv_entry ([.ref s0, .int (nI 4), .int (nI u)]) (n := 4) (Nat.le_of_ble_eq_true rfl)
  rw [lg_entry_eq]
  generalize (lg_sl ([.ref s0, .int (nI 4), .int (nI u)]) ++ List.replicate (4 - (lg_sl ([.ref s0, .int (nI 4), .int (nI u)])).length) Slot.unset).toArray = ls at hl ⊢
  have hl : lv_has ls 4 [(0, .ref s0), (1, .int (nI 4)), (2, .int (nI u))] := hl
  refine lv_aload_n hx hb dX2_releaseJob_0 rfl (lv_at hl 0 rfl) ?_
  refine va_get (D := (dC, dI)) (ci := 2) (v := .ref (z 0)) (C := RX2) (T := TX2) (N := 15) hx hb hts hin2 hown hK hP 0 rfl rfl 0 (by decide) f_12 (fun _ h9 => h9) rfl dX2_releaseJob_1 ?_
  refine lv_iload_n hx hb dX2_releaseJob_4 rfl (lv_at hl 1 rfl) ?_
  refine vp_callSi (va_runV (As := [.int (nI 4)]) (rest := []) ⟨hx, hb, hml, hown, hts⟩ (c_X0_hasHighBudget l dC dI cy (z 0) bq G (nI n) sc  4 (by omega)) (cwV 1 hts gX2_releaseJob_X0_hasHighBudget rfl rfl rfl (by decide +kernel) ⟨Nat.le_of_ble_eq_true rfl, Nat.le_of_ble_eq_true rfl⟩) ⟨bl_ro, va_recv hK (hP.sub (ws' := wCfg cy (z 0) bq G (nI n) sc) [1, 2, 3, 4, 5, 6, 7, 8] rfl) (ci := 0) (q0 := 0) rfl rfl, pr_ro (hP.sub (ws' := wCfg cy (z 0) bq G (nI n) sc) [1, 2, 3, 4, 5, 6, 7, 8] rfl) hE⟩ rfl rfl hl.1 rfl (lv_room (Nat.le_of_ble_eq_true rfl)) dX2_releaseJob_5 ⟨Nat.le_of_ble_eq_true rfl, Nat.le_of_ble_eq_true rfl⟩).run (fun r e_r => ?_)
  subst e_r
  refine lv_if_eq (tgt := 22) hx hb dX2_releaseJob_8 (by decide) (fun c_8 => ?_) (fun c_8 => ?_)
  · refine lv_iconst (v := 0) hx hb dX2_releaseJob_22 (by decide) ?_
    refine lv_istore_n (lv' := [(3, .int 0), (0, .ref s0), (1, .int (nI 4)), (2, .int (nI u))]) hx hb dX2_releaseJob_23 rfl hl (by decide) rfl (fun ls hl => ?_)
    refine lv_aload_n hx hb dX2_releaseJob_24 rfl (lv_at hl 1 rfl) ?_
    refine va_get (D := (dC, dI)) (ci := 2) (v := .ref (z 4)) (C := RX2) (T := TX2) (N := 15) hx hb hts hin2 hown hK hP 0 rfl rfl 4 (by decide) f_30 (fun _ h9 => h9) rfl dX2_releaseJob_25 ?_
    refine lv_iload_n hx hb dX2_releaseJob_28 rfl (lv_at hl 2 rfl) ?_
    refine wB_ald (q := (rt 4)) hx hb hK hP 12 2 rfl rfl 4 rfl (by omega) (by decide) rfl dX2_releaseJob_29 ?_
    refine lv_iload_n hx hb dX2_releaseJob_30 rfl (lv_at hl 3 rfl) ?_
    refine lv_iload_n hx hb dX2_releaseJob_31 rfl (lv_at hl 0 rfl) ?_
    refine lv_if_eq (tgt := 47) hx hb dX2_releaseJob_32 (by decide) (fun _ => ?_) (fun h0 => absurd h0 (by decide))
    refine lv_aload_n hx hb dX2_releaseJob_47 rfl (lv_at hl 1 rfl) ?_
    refine va_get (D := (dC, dI)) (ci := 2) (v := .ref (z 0)) (C := RX2) (T := TX2) (N := 15) hx hb hts hin2 hown hK hP 0 rfl rfl 0 (by decide) f_12 (fun _ h9 => h9) rfl dX2_releaseJob_48 ?_
    refine va_getN (D := (dC, dI)) (ci := 0) (v := .ref (bq 2)) (C := RX0) (T := TX0) (N := 9) hx hb hts hin0 hown hK hP 1 rfl rfl 2 (by decide) f_113 (fun _ h9 => h9) rfl dX2_releaseJob_51 ?_
    refine lv_iload_n hx hb dX2_releaseJob_54 rfl (lv_at hl 2 rfl) ?_
    refine wI_alv (v := G 2 4) hx hb hK hP 4 0 rfl rfl 4 rfl (by omega) (by decide) rfl dX2_releaseJob_55 ?_
    refine wI_ast hx hb hK hP hD hS 18 0 rfl rfl u rfl (by omega) (by decide) dX2_releaseJob_56 (fun H locs hP hD hS => ?_)
    have hP : va_P (dC, dI) vwCl (wSim s0 z M ++ (wCfg cy (z 0) bq G (nI n) sc ++ (wArr cy z rt Q (up2 T 4 u (G 2 4))))) H := hP
    have hD : va_D A (wSim s0 z M ++ (wCfg cy (z 0) bq G (nI n) sc ++ (wArr cy z rt Q (up2 T 4 u (G 2 4))))) := hD
    refine lv_aload_n hx hb dX2_releaseJob_57 rfl (lv_at hl 1 rfl) ?_
    refine va_get (D := (dC, dI)) (ci := 2) (v := .ref (z 1)) (C := RX2) (T := TX2) (N := 15) hx hb hts hin2 hown hK hP 0 rfl rfl 1 (by decide) f_18 (fun _ h9 => h9) rfl dX2_releaseJob_58 ?_
    refine lv_iload_n hx hb dX2_releaseJob_61 rfl (lv_at hl 2 rfl) ?_
    refine wI_alv (v := Q 1 4) hx hb hK hP 9 0 rfl rfl 4 rfl (by omega) (by decide) rfl dX2_releaseJob_62 ?_
    refine lv_if_ne (tgt := 80) hx hb dX2_releaseJob_63 (by decide) (fun c_63 => ?_) (fun c_63 => ?_)
    · refine lv_aload_n hx hb dX2_releaseJob_80 rfl (lv_at hl 1 rfl) ?_
      refine va_get (D := (dC, dI)) (ci := 2) (v := .ref (z 1)) (C := RX2) (T := TX2) (N := 15) hx hb hts hin2 hown hK hP 0 rfl rfl 1 (by decide) f_18 (fun _ h9 => h9) rfl dX2_releaseJob_81 ?_
      refine lv_iload_n hx hb dX2_releaseJob_84 rfl (lv_at hl 2 rfl) ?_
      refine lv_dup2_11 hx hb dX2_releaseJob_85 rfl rfl ?_
      refine wI_alv (v := Q 1 4) hx hb hK hP 9 0 rfl rfl 4 rfl (by omega) (by decide) rfl dX2_releaseJob_86 ?_
      refine lv_iconst (v := 1) hx hb dX2_releaseJob_87 (by decide) ?_
      refine lv_iadd hx hb dX2_releaseJob_88 ?_
      refine wI_ast hx hb hK hP hD hS 9 0 rfl rfl 4 rfl (by omega) (by decide) dX2_releaseJob_89 (fun H locs hP hD hS => ?_)
      have hP : va_P (dC, dI) vwCl (wSim s0 z M ++ (wCfg cy (z 0) bq G (nI n) sc ++ (wArr cy z rt (up2 Q 1 4 ((Q 1 4) + 1)) (up2 T 4 u (G 2 4))))) H := hP
      have hD : va_D A (wSim s0 z M ++ (wCfg cy (z 0) bq G (nI n) sc ++ (wArr cy z rt (up2 Q 1 4 ((Q 1 4) + 1)) (up2 T 4 u (G 2 4))))) := hD
      have hP9 : va_P (dC, dI) vwCl (wSim s0 z M ++ (wCfg cy (z 0) bq G (nI n) sc ++ (wArr cy z rt (up2 Q 1 4 ((Q 1 4) + 1)) (up2 T 4 u (G 2 4))))) H := hP
      have hD9 : va_D A (wSim s0 z M ++ (wCfg cy (z 0) bq G (nI n) sc ++ (wArr cy z rt (up2 Q 1 4 ((Q 1 4) + 1)) (up2 T 4 u (G 2 4))))) := hD
      exact W.vret hx hb hr (fun t ht hW => ⟨⟨(M, up2 Q 1 4 ((Q 1 4) + 1), up2 T 4 u (G 2 4)), rfl, (by simp only [relJ]; rw [drM, if_pos (b01.mp c_8), nds, if_pos (b01.mp c_8), relQ, if_neg c_63]), by rw [ht]; exact hP9, hD9⟩, hS.F ht⟩) hS.2.2 dX2_releaseJob_90
    · refine lv_aload_n hx hb dX2_releaseJob_66 rfl (lv_at hl 1 rfl) ?_
      refine va_get (D := (dC, dI)) (ci := 2) (v := .ref (z 2)) (C := RX2) (T := TX2) (N := 15) hx hb hts hin2 hown hK hP 0 rfl rfl 2 (by decide) f_22 (fun _ h9 => h9) rfl dX2_releaseJob_67 ?_
      refine lv_iload_n hx hb dX2_releaseJob_70 rfl (lv_at hl 2 rfl) ?_
      refine lv_iload_n hx hb dX2_releaseJob_71 rfl (lv_at hl 3 rfl) ?_
      refine wI_ast hx hb hK hP hD hS 10 0 rfl rfl 4 rfl (by omega) (by decide) dX2_releaseJob_72 (fun H locs hP hD hS => ?_)
      have hP : va_P (dC, dI) vwCl (wSim s0 z M ++ (wCfg cy (z 0) bq G (nI n) sc ++ (wArr cy z rt (up2 Q 2 4 (nI u)) (up2 T 4 u (G 2 4))))) H := hP
      have hD : va_D A (wSim s0 z M ++ (wCfg cy (z 0) bq G (nI n) sc ++ (wArr cy z rt (up2 Q 2 4 (nI u)) (up2 T 4 u (G 2 4))))) := hD
      refine lv_aload_n hx hb dX2_releaseJob_73 rfl (lv_at hl 1 rfl) ?_
      refine va_get (D := (dC, dI)) (ci := 2) (v := .ref (z 3)) (C := RX2) (T := TX2) (N := 15) hx hb hts hin2 hown hK hP 0 rfl rfl 3 (by decide) f_25 (fun _ h9 => h9) rfl dX2_releaseJob_74 ?_
      refine lv_iload_n hx hb dX2_releaseJob_77 rfl (lv_at hl 2 rfl) ?_
      refine lv_iconst (v := 0) hx hb dX2_releaseJob_78 (by decide) ?_
      refine wI_ast hx hb hK hP hD hS 11 0 rfl rfl 4 rfl (by omega) (by decide) dX2_releaseJob_79 (fun H locs hP hD hS => ?_)
      have hP : va_P (dC, dI) vwCl (wSim s0 z M ++ (wCfg cy (z 0) bq G (nI n) sc ++ (wArr cy z rt (up2 (up2 Q 2 4 (nI u)) 3 4 0) (up2 T 4 u (G 2 4))))) H := hP
      have hD : va_D A (wSim s0 z M ++ (wCfg cy (z 0) bq G (nI n) sc ++ (wArr cy z rt (up2 (up2 Q 2 4 (nI u)) 3 4 0) (up2 T 4 u (G 2 4))))) := hD
      refine lv_aload_n hx hb dX2_releaseJob_80 rfl (lv_at hl 1 rfl) ?_
      refine va_get (D := (dC, dI)) (ci := 2) (v := .ref (z 1)) (C := RX2) (T := TX2) (N := 15) hx hb hts hin2 hown hK hP 0 rfl rfl 1 (by decide) f_18 (fun _ h9 => h9) rfl dX2_releaseJob_81 ?_
      refine lv_iload_n hx hb dX2_releaseJob_84 rfl (lv_at hl 2 rfl) ?_
      refine lv_dup2_11 hx hb dX2_releaseJob_85 rfl rfl ?_
      refine wI_alv (v := Q 1 4) hx hb hK hP 9 0 rfl rfl 4 rfl (by omega) (by decide) rfl dX2_releaseJob_86 ?_
      refine lv_iconst (v := 1) hx hb dX2_releaseJob_87 (by decide) ?_
      refine lv_iadd hx hb dX2_releaseJob_88 ?_
      refine wI_ast hx hb hK hP hD hS 9 0 rfl rfl 4 rfl (by omega) (by decide) dX2_releaseJob_89 (fun H locs hP hD hS => ?_)
      have hP : va_P (dC, dI) vwCl (wSim s0 z M ++ (wCfg cy (z 0) bq G (nI n) sc ++ (wArr cy z rt (up2 (up2 (up2 Q 2 4 (nI u)) 3 4 0) 1 4 ((Q 1 4) + 1)) (up2 T 4 u (G 2 4))))) H := hP
      have hD : va_D A (wSim s0 z M ++ (wCfg cy (z 0) bq G (nI n) sc ++ (wArr cy z rt (up2 (up2 (up2 Q 2 4 (nI u)) 3 4 0) 1 4 ((Q 1 4) + 1)) (up2 T 4 u (G 2 4))))) := hD
      have hP9 : va_P (dC, dI) vwCl (wSim s0 z M ++ (wCfg cy (z 0) bq G (nI n) sc ++ (wArr cy z rt (up2 (up2 (up2 Q 2 4 (nI u)) 3 4 0) 1 4 ((Q 1 4) + 1)) (up2 T 4 u (G 2 4))))) H := hP
      have hD9 : va_D A (wSim s0 z M ++ (wCfg cy (z 0) bq G (nI n) sc ++ (wArr cy z rt (up2 (up2 (up2 Q 2 4 (nI u)) 3 4 0) 1 4 ((Q 1 4) + 1)) (up2 T 4 u (G 2 4))))) := hD
      exact W.vret hx hb hr (fun t ht hW => ⟨⟨(M, up2 (up2 (up2 Q 2 4 (nI u)) 3 4 0) 1 4 ((Q 1 4) + 1), up2 T 4 u (G 2 4)), rfl, (by simp only [relJ]; rw [drM, if_pos (b01.mp c_8), nds, if_pos (b01.mp c_8), relQ, if_pos c_63]), by rw [ht]; exact hP9, hD9⟩, hS.F ht⟩) hS.2.2 dX2_releaseJob_90
  · refine lv_aload_n hx hb dX2_releaseJob_11 rfl (lv_at hl 0 rfl) ?_
    have hPc := hP.sub (ws' := wSim s0 z M) [0] rfl
    have hDc := hD.sub (ws' := wSim s0 z M) [0] (by decide) rfl
    have hFc := va_free (wc := wSim s0 z M) hD hS hA [0] rfl
    refine va_calli (va_runV (As := []) (rest := []) ⟨hx, hb, hml, hown, hts⟩ (c_X2_drawOverrun l dC dI cy s.heap.size s0 z M) (cwV 0 hts gX2_releaseJob_X2_drawOverrun rfl rfl rfl (by decide +kernel) ⟨Nat.le_of_ble_eq_true rfl, Nat.le_of_ble_eq_true rfl⟩) ⟨bl_in, va_recv hK hPc (ci := 2) (q0 := 0) rfl rfl, pr_in hPc hE hDc⟩ rfl rfl hl.1 rfl (lv_room (Nat.le_of_ble_eq_true rfl)) dX2_releaseJob_12 ⟨Nat.le_of_ble_eq_true rfl, Nat.le_of_ble_eq_true rfl⟩) hS (fun q _ h => hFc q h) hFc (fun r u t H1 locs ht hvm hw hB hz1 hk1 hS => ?_)
    obtain ⟨rfl, rfl⟩ := hw
    obtain ⟨hP1, hD1⟩ := hB
    rw [ht] at hP1
    obtain ⟨hP, hD⟩ := va_join (wr := wCfg cy (z 0) bq G (nI n) sc ++ (wArr cy z rt Q T)) (w1 := wSim s0 z (upd M 7 (drw (M 7)))) hP hD [0] [1, 2, 3, 4, 5, 6, 7, 8, 9, 10, 11, 12, 13, 14, 15, 16, 17, 18, 19, 20, 21] rfl rfl (by decide) (by decide) hk1 hFc hP1 hD1
    have hP : va_P (dC, dI) vwCl (wSim s0 z (upd M 7 (drw (M 7))) ++ (wCfg cy (z 0) bq G (nI n) sc ++ (wArr cy z rt Q T))) H1 := hP.sub [21, 0, 1, 2, 3, 4, 5, 6, 7, 8, 9, 10, 11, 12, 13, 14, 15, 16, 17, 18, 19, 20] rfl
    have hD : va_D A (wSim s0 z (upd M 7 (drw (M 7))) ++ (wCfg cy (z 0) bq G (nI n) sc ++ (wArr cy z rt Q T))) := hD.sub [21, 0, 1, 2, 3, 4, 5, 6, 7, 8, 9, 10, 11, 12, 13, 14, 15, 16, 17, 18, 19, 20] (by decide) rfl
    clear hz1 hk1 hPc hDc hFc hP1 hD1
    generalize H1 = H at hP hS ⊢
    refine lv_topi (fun y_ ey_ => ?_)
    obtain rfl : y_ = if ovr (drw (M 7)) (M 8) then 1 else 0 := ey_
    refine lv_if_eq (tgt := 22) hx hb dX2_releaseJob_15 (by decide) (fun c_15 => ?_) (fun c_15 => ?_)
    · refine lv_iconst (v := 0) hx hb dX2_releaseJob_22 (by decide) ?_
      refine lv_istore_n (lv' := [(3, .int 0), (0, .ref s0), (1, .int (nI 4)), (2, .int (nI u))]) hx hb dX2_releaseJob_23 rfl hl (by decide) rfl (fun ls hl => ?_)
      refine lv_aload_n hx hb dX2_releaseJob_24 rfl (lv_at hl 1 rfl) ?_
      refine va_get (D := (dC, dI)) (ci := 2) (v := .ref (z 4)) (C := RX2) (T := TX2) (N := 15) hx hb hts hin2 hown hK hP 0 rfl rfl 4 (by decide) f_30 (fun _ h9 => h9) rfl dX2_releaseJob_25 ?_
      refine lv_iload_n hx hb dX2_releaseJob_28 rfl (lv_at hl 2 rfl) ?_
      refine wB_ald (q := (rt 4)) hx hb hK hP 12 2 rfl rfl 4 rfl (by omega) (by decide) rfl dX2_releaseJob_29 ?_
      refine lv_iload_n hx hb dX2_releaseJob_30 rfl (lv_at hl 3 rfl) ?_
      refine lv_iload_n hx hb dX2_releaseJob_31 rfl (lv_at hl 0 rfl) ?_
      refine lv_if_eq (tgt := 47) hx hb dX2_releaseJob_32 (by decide) (fun _ => ?_) (fun h0 => absurd h0 (by decide))
      refine lv_aload_n hx hb dX2_releaseJob_47 rfl (lv_at hl 1 rfl) ?_
      refine va_get (D := (dC, dI)) (ci := 2) (v := .ref (z 0)) (C := RX2) (T := TX2) (N := 15) hx hb hts hin2 hown hK hP 0 rfl rfl 0 (by decide) f_12 (fun _ h9 => h9) rfl dX2_releaseJob_48 ?_
      refine va_getN (D := (dC, dI)) (ci := 0) (v := .ref (bq 2)) (C := RX0) (T := TX0) (N := 9) hx hb hts hin0 hown hK hP 1 rfl rfl 2 (by decide) f_113 (fun _ h9 => h9) rfl dX2_releaseJob_51 ?_
      refine lv_iload_n hx hb dX2_releaseJob_54 rfl (lv_at hl 2 rfl) ?_
      refine wI_alv (v := G 2 4) hx hb hK hP 4 0 rfl rfl 4 rfl (by omega) (by decide) rfl dX2_releaseJob_55 ?_
      refine wI_ast hx hb hK hP hD hS 18 0 rfl rfl u rfl (by omega) (by decide) dX2_releaseJob_56 (fun H locs hP hD hS => ?_)
      have hP : va_P (dC, dI) vwCl (wSim s0 z (upd M 7 (drw (M 7))) ++ (wCfg cy (z 0) bq G (nI n) sc ++ (wArr cy z rt Q (up2 T 4 u (G 2 4))))) H := hP
      have hD : va_D A (wSim s0 z (upd M 7 (drw (M 7))) ++ (wCfg cy (z 0) bq G (nI n) sc ++ (wArr cy z rt Q (up2 T 4 u (G 2 4))))) := hD
      refine lv_aload_n hx hb dX2_releaseJob_57 rfl (lv_at hl 1 rfl) ?_
      refine va_get (D := (dC, dI)) (ci := 2) (v := .ref (z 1)) (C := RX2) (T := TX2) (N := 15) hx hb hts hin2 hown hK hP 0 rfl rfl 1 (by decide) f_18 (fun _ h9 => h9) rfl dX2_releaseJob_58 ?_
      refine lv_iload_n hx hb dX2_releaseJob_61 rfl (lv_at hl 2 rfl) ?_
      refine wI_alv (v := Q 1 4) hx hb hK hP 9 0 rfl rfl 4 rfl (by omega) (by decide) rfl dX2_releaseJob_62 ?_
      refine lv_if_ne (tgt := 80) hx hb dX2_releaseJob_63 (by decide) (fun c_63 => ?_) (fun c_63 => ?_)
      · refine lv_aload_n hx hb dX2_releaseJob_80 rfl (lv_at hl 1 rfl) ?_
        refine va_get (D := (dC, dI)) (ci := 2) (v := .ref (z 1)) (C := RX2) (T := TX2) (N := 15) hx hb hts hin2 hown hK hP 0 rfl rfl 1 (by decide) f_18 (fun _ h9 => h9) rfl dX2_releaseJob_81 ?_
        refine lv_iload_n hx hb dX2_releaseJob_84 rfl (lv_at hl 2 rfl) ?_
        refine lv_dup2_11 hx hb dX2_releaseJob_85 rfl rfl ?_
        refine wI_alv (v := Q 1 4) hx hb hK hP 9 0 rfl rfl 4 rfl (by omega) (by decide) rfl dX2_releaseJob_86 ?_
        refine lv_iconst (v := 1) hx hb dX2_releaseJob_87 (by decide) ?_
        refine lv_iadd hx hb dX2_releaseJob_88 ?_
        refine wI_ast hx hb hK hP hD hS 9 0 rfl rfl 4 rfl (by omega) (by decide) dX2_releaseJob_89 (fun H locs hP hD hS => ?_)
        have hP : va_P (dC, dI) vwCl (wSim s0 z (upd M 7 (drw (M 7))) ++ (wCfg cy (z 0) bq G (nI n) sc ++ (wArr cy z rt (up2 Q 1 4 ((Q 1 4) + 1)) (up2 T 4 u (G 2 4))))) H := hP
        have hD : va_D A (wSim s0 z (upd M 7 (drw (M 7))) ++ (wCfg cy (z 0) bq G (nI n) sc ++ (wArr cy z rt (up2 Q 1 4 ((Q 1 4) + 1)) (up2 T 4 u (G 2 4))))) := hD
        have hP9 : va_P (dC, dI) vwCl (wSim s0 z (upd M 7 (drw (M 7))) ++ (wCfg cy (z 0) bq G (nI n) sc ++ (wArr cy z rt (up2 Q 1 4 ((Q 1 4) + 1)) (up2 T 4 u (G 2 4))))) H := hP
        have hD9 : va_D A (wSim s0 z (upd M 7 (drw (M 7))) ++ (wCfg cy (z 0) bq G (nI n) sc ++ (wArr cy z rt (up2 Q 1 4 ((Q 1 4) + 1)) (up2 T 4 u (G 2 4))))) := hD
        exact W.vret hx hb hr (fun t ht hW => ⟨⟨(upd M 7 (drw (M 7)), up2 Q 1 4 ((Q 1 4) + 1), up2 T 4 u (G 2 4)), rfl, (by simp only [relJ]; rw [drM, if_neg (fun h => c_8 (b01.mpr h)), nds, if_neg (fun h => c_8 (b01.mpr h)), if_neg (b10.mp c_15), relQ, if_neg c_63]), by rw [ht]; exact hP9, hD9⟩, hS.F ht⟩) hS.2.2 dX2_releaseJob_90
      · refine lv_aload_n hx hb dX2_releaseJob_66 rfl (lv_at hl 1 rfl) ?_
        refine va_get (D := (dC, dI)) (ci := 2) (v := .ref (z 2)) (C := RX2) (T := TX2) (N := 15) hx hb hts hin2 hown hK hP 0 rfl rfl 2 (by decide) f_22 (fun _ h9 => h9) rfl dX2_releaseJob_67 ?_
        refine lv_iload_n hx hb dX2_releaseJob_70 rfl (lv_at hl 2 rfl) ?_
        refine lv_iload_n hx hb dX2_releaseJob_71 rfl (lv_at hl 3 rfl) ?_
        refine wI_ast hx hb hK hP hD hS 10 0 rfl rfl 4 rfl (by omega) (by decide) dX2_releaseJob_72 (fun H locs hP hD hS => ?_)
        have hP : va_P (dC, dI) vwCl (wSim s0 z (upd M 7 (drw (M 7))) ++ (wCfg cy (z 0) bq G (nI n) sc ++ (wArr cy z rt (up2 Q 2 4 (nI u)) (up2 T 4 u (G 2 4))))) H := hP
        have hD : va_D A (wSim s0 z (upd M 7 (drw (M 7))) ++ (wCfg cy (z 0) bq G (nI n) sc ++ (wArr cy z rt (up2 Q 2 4 (nI u)) (up2 T 4 u (G 2 4))))) := hD
        refine lv_aload_n hx hb dX2_releaseJob_73 rfl (lv_at hl 1 rfl) ?_
        refine va_get (D := (dC, dI)) (ci := 2) (v := .ref (z 3)) (C := RX2) (T := TX2) (N := 15) hx hb hts hin2 hown hK hP 0 rfl rfl 3 (by decide) f_25 (fun _ h9 => h9) rfl dX2_releaseJob_74 ?_
        refine lv_iload_n hx hb dX2_releaseJob_77 rfl (lv_at hl 2 rfl) ?_
        refine lv_iconst (v := 0) hx hb dX2_releaseJob_78 (by decide) ?_
        refine wI_ast hx hb hK hP hD hS 11 0 rfl rfl 4 rfl (by omega) (by decide) dX2_releaseJob_79 (fun H locs hP hD hS => ?_)
        have hP : va_P (dC, dI) vwCl (wSim s0 z (upd M 7 (drw (M 7))) ++ (wCfg cy (z 0) bq G (nI n) sc ++ (wArr cy z rt (up2 (up2 Q 2 4 (nI u)) 3 4 0) (up2 T 4 u (G 2 4))))) H := hP
        have hD : va_D A (wSim s0 z (upd M 7 (drw (M 7))) ++ (wCfg cy (z 0) bq G (nI n) sc ++ (wArr cy z rt (up2 (up2 Q 2 4 (nI u)) 3 4 0) (up2 T 4 u (G 2 4))))) := hD
        refine lv_aload_n hx hb dX2_releaseJob_80 rfl (lv_at hl 1 rfl) ?_
        refine va_get (D := (dC, dI)) (ci := 2) (v := .ref (z 1)) (C := RX2) (T := TX2) (N := 15) hx hb hts hin2 hown hK hP 0 rfl rfl 1 (by decide) f_18 (fun _ h9 => h9) rfl dX2_releaseJob_81 ?_
        refine lv_iload_n hx hb dX2_releaseJob_84 rfl (lv_at hl 2 rfl) ?_
        refine lv_dup2_11 hx hb dX2_releaseJob_85 rfl rfl ?_
        refine wI_alv (v := Q 1 4) hx hb hK hP 9 0 rfl rfl 4 rfl (by omega) (by decide) rfl dX2_releaseJob_86 ?_
        refine lv_iconst (v := 1) hx hb dX2_releaseJob_87 (by decide) ?_
        refine lv_iadd hx hb dX2_releaseJob_88 ?_
        refine wI_ast hx hb hK hP hD hS 9 0 rfl rfl 4 rfl (by omega) (by decide) dX2_releaseJob_89 (fun H locs hP hD hS => ?_)
        have hP : va_P (dC, dI) vwCl (wSim s0 z (upd M 7 (drw (M 7))) ++ (wCfg cy (z 0) bq G (nI n) sc ++ (wArr cy z rt (up2 (up2 (up2 Q 2 4 (nI u)) 3 4 0) 1 4 ((Q 1 4) + 1)) (up2 T 4 u (G 2 4))))) H := hP
        have hD : va_D A (wSim s0 z (upd M 7 (drw (M 7))) ++ (wCfg cy (z 0) bq G (nI n) sc ++ (wArr cy z rt (up2 (up2 (up2 Q 2 4 (nI u)) 3 4 0) 1 4 ((Q 1 4) + 1)) (up2 T 4 u (G 2 4))))) := hD
        have hP9 : va_P (dC, dI) vwCl (wSim s0 z (upd M 7 (drw (M 7))) ++ (wCfg cy (z 0) bq G (nI n) sc ++ (wArr cy z rt (up2 (up2 (up2 Q 2 4 (nI u)) 3 4 0) 1 4 ((Q 1 4) + 1)) (up2 T 4 u (G 2 4))))) H := hP
        have hD9 : va_D A (wSim s0 z (upd M 7 (drw (M 7))) ++ (wCfg cy (z 0) bq G (nI n) sc ++ (wArr cy z rt (up2 (up2 (up2 Q 2 4 (nI u)) 3 4 0) 1 4 ((Q 1 4) + 1)) (up2 T 4 u (G 2 4))))) := hD
        exact W.vret hx hb hr (fun t ht hW => ⟨⟨(upd M 7 (drw (M 7)), up2 (up2 (up2 Q 2 4 (nI u)) 3 4 0) 1 4 ((Q 1 4) + 1), up2 T 4 u (G 2 4)), rfl, (by simp only [relJ]; rw [drM, if_neg (fun h => c_8 (b01.mpr h)), nds, if_neg (fun h => c_8 (b01.mpr h)), if_neg (b10.mp c_15), relQ, if_pos c_63]), by rw [ht]; exact hP9, hD9⟩, hS.F ht⟩) hS.2.2 dX2_releaseJob_90
    · refine lv_iconst (v := 1) hx hb dX2_releaseJob_18 (by decide) ?_
      refine lv_goto (tgt := 23) hx hb dX2_releaseJob_19 (by decide) ?_
      refine lv_istore_n (lv' := [(3, .int 1), (0, .ref s0), (1, .int (nI 4)), (2, .int (nI u))]) hx hb dX2_releaseJob_23 rfl hl (by decide) rfl (fun ls hl => ?_)
      refine lv_aload_n hx hb dX2_releaseJob_24 rfl (lv_at hl 1 rfl) ?_
      refine va_get (D := (dC, dI)) (ci := 2) (v := .ref (z 4)) (C := RX2) (T := TX2) (N := 15) hx hb hts hin2 hown hK hP 0 rfl rfl 4 (by decide) f_30 (fun _ h9 => h9) rfl dX2_releaseJob_25 ?_
      refine lv_iload_n hx hb dX2_releaseJob_28 rfl (lv_at hl 2 rfl) ?_
      refine wB_ald (q := (rt 4)) hx hb hK hP 12 2 rfl rfl 4 rfl (by omega) (by decide) rfl dX2_releaseJob_29 ?_
      refine lv_iload_n hx hb dX2_releaseJob_30 rfl (lv_at hl 3 rfl) ?_
      refine lv_iload_n hx hb dX2_releaseJob_31 rfl (lv_at hl 0 rfl) ?_
      refine lv_if_eq (tgt := 47) hx hb dX2_releaseJob_32 (by decide) (fun h0 => absurd h0 (by decide)) (fun _ => ?_)
      refine lv_aload_n hx hb dX2_releaseJob_35 rfl (lv_at hl 1 rfl) ?_
      refine va_get (D := (dC, dI)) (ci := 2) (v := .ref (z 0)) (C := RX2) (T := TX2) (N := 15) hx hb hts hin2 hown hK hP 0 rfl rfl 0 (by decide) f_12 (fun _ h9 => h9) rfl dX2_releaseJob_36 ?_
      refine va_getN (D := (dC, dI)) (ci := 0) (v := .ref (bq 3)) (C := RX0) (T := TX0) (N := 9) hx hb hts hin0 hown hK hP 1 rfl rfl 3 (by decide) f_110 (fun _ h9 => h9) rfl dX2_releaseJob_39 ?_
      refine lv_iload_n hx hb dX2_releaseJob_42 rfl (lv_at hl 2 rfl) ?_
      refine wI_alv (v := G 3 4) hx hb hK hP 5 0 rfl rfl 4 rfl (by omega) (by decide) rfl dX2_releaseJob_43 ?_
      refine lv_goto (tgt := 56) hx hb dX2_releaseJob_44 (by decide) ?_
      refine wI_ast hx hb hK hP hD hS 18 0 rfl rfl u rfl (by omega) (by decide) dX2_releaseJob_56 (fun H locs hP hD hS => ?_)
      have hP : va_P (dC, dI) vwCl (wSim s0 z (upd M 7 (drw (M 7))) ++ (wCfg cy (z 0) bq G (nI n) sc ++ (wArr cy z rt Q (up2 T 4 u (G 3 4))))) H := hP
      have hD : va_D A (wSim s0 z (upd M 7 (drw (M 7))) ++ (wCfg cy (z 0) bq G (nI n) sc ++ (wArr cy z rt Q (up2 T 4 u (G 3 4))))) := hD
      refine lv_aload_n hx hb dX2_releaseJob_57 rfl (lv_at hl 1 rfl) ?_
      refine va_get (D := (dC, dI)) (ci := 2) (v := .ref (z 1)) (C := RX2) (T := TX2) (N := 15) hx hb hts hin2 hown hK hP 0 rfl rfl 1 (by decide) f_18 (fun _ h9 => h9) rfl dX2_releaseJob_58 ?_
      refine lv_iload_n hx hb dX2_releaseJob_61 rfl (lv_at hl 2 rfl) ?_
      refine wI_alv (v := Q 1 4) hx hb hK hP 9 0 rfl rfl 4 rfl (by omega) (by decide) rfl dX2_releaseJob_62 ?_
      refine lv_if_ne (tgt := 80) hx hb dX2_releaseJob_63 (by decide) (fun c_63 => ?_) (fun c_63 => ?_)
      · refine lv_aload_n hx hb dX2_releaseJob_80 rfl (lv_at hl 1 rfl) ?_
        refine va_get (D := (dC, dI)) (ci := 2) (v := .ref (z 1)) (C := RX2) (T := TX2) (N := 15) hx hb hts hin2 hown hK hP 0 rfl rfl 1 (by decide) f_18 (fun _ h9 => h9) rfl dX2_releaseJob_81 ?_
        refine lv_iload_n hx hb dX2_releaseJob_84 rfl (lv_at hl 2 rfl) ?_
        refine lv_dup2_11 hx hb dX2_releaseJob_85 rfl rfl ?_
        refine wI_alv (v := Q 1 4) hx hb hK hP 9 0 rfl rfl 4 rfl (by omega) (by decide) rfl dX2_releaseJob_86 ?_
        refine lv_iconst (v := 1) hx hb dX2_releaseJob_87 (by decide) ?_
        refine lv_iadd hx hb dX2_releaseJob_88 ?_
        refine wI_ast hx hb hK hP hD hS 9 0 rfl rfl 4 rfl (by omega) (by decide) dX2_releaseJob_89 (fun H locs hP hD hS => ?_)
        have hP : va_P (dC, dI) vwCl (wSim s0 z (upd M 7 (drw (M 7))) ++ (wCfg cy (z 0) bq G (nI n) sc ++ (wArr cy z rt (up2 Q 1 4 ((Q 1 4) + 1)) (up2 T 4 u (G 3 4))))) H := hP
        have hD : va_D A (wSim s0 z (upd M 7 (drw (M 7))) ++ (wCfg cy (z 0) bq G (nI n) sc ++ (wArr cy z rt (up2 Q 1 4 ((Q 1 4) + 1)) (up2 T 4 u (G 3 4))))) := hD
        have hP9 : va_P (dC, dI) vwCl (wSim s0 z (upd M 7 (drw (M 7))) ++ (wCfg cy (z 0) bq G (nI n) sc ++ (wArr cy z rt (up2 Q 1 4 ((Q 1 4) + 1)) (up2 T 4 u (G 3 4))))) H := hP
        have hD9 : va_D A (wSim s0 z (upd M 7 (drw (M 7))) ++ (wCfg cy (z 0) bq G (nI n) sc ++ (wArr cy z rt (up2 Q 1 4 ((Q 1 4) + 1)) (up2 T 4 u (G 3 4))))) := hD
        exact W.vret hx hb hr (fun t ht hW => ⟨⟨(upd M 7 (drw (M 7)), up2 Q 1 4 ((Q 1 4) + 1), up2 T 4 u (G 3 4)), rfl, (by simp only [relJ]; rw [drM, if_neg (fun h => c_8 (b01.mpr h)), nds, if_neg (fun h => c_8 (b01.mpr h)), if_pos (nb10 c_15), relQ, if_neg c_63]), by rw [ht]; exact hP9, hD9⟩, hS.F ht⟩) hS.2.2 dX2_releaseJob_90
      · refine lv_aload_n hx hb dX2_releaseJob_66 rfl (lv_at hl 1 rfl) ?_
        refine va_get (D := (dC, dI)) (ci := 2) (v := .ref (z 2)) (C := RX2) (T := TX2) (N := 15) hx hb hts hin2 hown hK hP 0 rfl rfl 2 (by decide) f_22 (fun _ h9 => h9) rfl dX2_releaseJob_67 ?_
        refine lv_iload_n hx hb dX2_releaseJob_70 rfl (lv_at hl 2 rfl) ?_
        refine lv_iload_n hx hb dX2_releaseJob_71 rfl (lv_at hl 3 rfl) ?_
        refine wI_ast hx hb hK hP hD hS 10 0 rfl rfl 4 rfl (by omega) (by decide) dX2_releaseJob_72 (fun H locs hP hD hS => ?_)
        have hP : va_P (dC, dI) vwCl (wSim s0 z (upd M 7 (drw (M 7))) ++ (wCfg cy (z 0) bq G (nI n) sc ++ (wArr cy z rt (up2 Q 2 4 (nI u)) (up2 T 4 u (G 3 4))))) H := hP
        have hD : va_D A (wSim s0 z (upd M 7 (drw (M 7))) ++ (wCfg cy (z 0) bq G (nI n) sc ++ (wArr cy z rt (up2 Q 2 4 (nI u)) (up2 T 4 u (G 3 4))))) := hD
        refine lv_aload_n hx hb dX2_releaseJob_73 rfl (lv_at hl 1 rfl) ?_
        refine va_get (D := (dC, dI)) (ci := 2) (v := .ref (z 3)) (C := RX2) (T := TX2) (N := 15) hx hb hts hin2 hown hK hP 0 rfl rfl 3 (by decide) f_25 (fun _ h9 => h9) rfl dX2_releaseJob_74 ?_
        refine lv_iload_n hx hb dX2_releaseJob_77 rfl (lv_at hl 2 rfl) ?_
        refine lv_iconst (v := 0) hx hb dX2_releaseJob_78 (by decide) ?_
        refine wI_ast hx hb hK hP hD hS 11 0 rfl rfl 4 rfl (by omega) (by decide) dX2_releaseJob_79 (fun H locs hP hD hS => ?_)
        have hP : va_P (dC, dI) vwCl (wSim s0 z (upd M 7 (drw (M 7))) ++ (wCfg cy (z 0) bq G (nI n) sc ++ (wArr cy z rt (up2 (up2 Q 2 4 (nI u)) 3 4 0) (up2 T 4 u (G 3 4))))) H := hP
        have hD : va_D A (wSim s0 z (upd M 7 (drw (M 7))) ++ (wCfg cy (z 0) bq G (nI n) sc ++ (wArr cy z rt (up2 (up2 Q 2 4 (nI u)) 3 4 0) (up2 T 4 u (G 3 4))))) := hD
        refine lv_aload_n hx hb dX2_releaseJob_80 rfl (lv_at hl 1 rfl) ?_
        refine va_get (D := (dC, dI)) (ci := 2) (v := .ref (z 1)) (C := RX2) (T := TX2) (N := 15) hx hb hts hin2 hown hK hP 0 rfl rfl 1 (by decide) f_18 (fun _ h9 => h9) rfl dX2_releaseJob_81 ?_
        refine lv_iload_n hx hb dX2_releaseJob_84 rfl (lv_at hl 2 rfl) ?_
        refine lv_dup2_11 hx hb dX2_releaseJob_85 rfl rfl ?_
        refine wI_alv (v := Q 1 4) hx hb hK hP 9 0 rfl rfl 4 rfl (by omega) (by decide) rfl dX2_releaseJob_86 ?_
        refine lv_iconst (v := 1) hx hb dX2_releaseJob_87 (by decide) ?_
        refine lv_iadd hx hb dX2_releaseJob_88 ?_
        refine wI_ast hx hb hK hP hD hS 9 0 rfl rfl 4 rfl (by omega) (by decide) dX2_releaseJob_89 (fun H locs hP hD hS => ?_)
        have hP : va_P (dC, dI) vwCl (wSim s0 z (upd M 7 (drw (M 7))) ++ (wCfg cy (z 0) bq G (nI n) sc ++ (wArr cy z rt (up2 (up2 (up2 Q 2 4 (nI u)) 3 4 0) 1 4 ((Q 1 4) + 1)) (up2 T 4 u (G 3 4))))) H := hP
        have hD : va_D A (wSim s0 z (upd M 7 (drw (M 7))) ++ (wCfg cy (z 0) bq G (nI n) sc ++ (wArr cy z rt (up2 (up2 (up2 Q 2 4 (nI u)) 3 4 0) 1 4 ((Q 1 4) + 1)) (up2 T 4 u (G 3 4))))) := hD
        have hP9 : va_P (dC, dI) vwCl (wSim s0 z (upd M 7 (drw (M 7))) ++ (wCfg cy (z 0) bq G (nI n) sc ++ (wArr cy z rt (up2 (up2 (up2 Q 2 4 (nI u)) 3 4 0) 1 4 ((Q 1 4) + 1)) (up2 T 4 u (G 3 4))))) H := hP
        have hD9 : va_D A (wSim s0 z (upd M 7 (drw (M 7))) ++ (wCfg cy (z 0) bq G (nI n) sc ++ (wArr cy z rt (up2 (up2 (up2 Q 2 4 (nI u)) 3 4 0) 1 4 ((Q 1 4) + 1)) (up2 T 4 u (G 3 4))))) := hD
        exact W.vret hx hb hr (fun t ht hW => ⟨⟨(upd M 7 (drw (M 7)), up2 (up2 (up2 Q 2 4 (nI u)) 3 4 0) 1 4 ((Q 1 4) + 1), up2 T 4 u (G 3 4)), rfl, (by simp only [relJ]; rw [drM, if_neg (fun h => c_8 (b01.mpr h)), nds, if_neg (fun h => c_8 (b01.mpr h)), if_pos (nb10 c_15), relQ, if_pos c_63]), by rw [ht]; exact hP9, hD9⟩, hS.F ht⟩) hS.2.2 dX2_releaseJob_90
set_option maxHeartbeats 1000000 in
set_option maxRecDepth 100000 in
/-- a job of task 5 -/
theorem c_X2_releaseJob_5 (l : Launch) (dC : Nat → ClassId) (dI : Nat → Nat → Nat) (cy : Nat → ClassId) (sz : Nat) (s0 : Nat) (z : Nat → Nat) (M : Nat → Int32) (bq : Nat → Nat) (G : vG) (n : Nat) (hn : n ≤ 8) (sc : Int32) (Q : vG) (rt : Nat → Nat) (T : vG) (u : Nat) (hu : u < 200) : Met l yX2_releaseJob wsX2_releaseJob ({ frames := 1, cells := 0, slots := 0, locals := 21 }) (va_Pc [.ref s0, .int (nI 5), .int (nI u)] (pIn dC dI cy (wSim s0 z M ++ (wCfg cy (z 0) bq G (nI n) sc ++ (wArr cy z rt Q T))) sz)) (va_Qv (fun (u9 : SSt) => u9 = relJ G 5 u (M, Q, T)) (fun (u : SSt) t => va_P (dC, dI) vwCl (wSim s0 z u.1 ++ (wCfg cy (z 0) bq G (nI n) sc ++ (wArr cy z rt u.2.1 u.2.2))) t.heap ∧ va_D (va_A (wSim s0 z M ++ (wCfg cy (z 0) bq G (nI n) sc ++ (wArr cy z rt Q T))) sz) (wSim s0 z u.1 ++ (wCfg cy (z 0) bq G (nI n) sc ++ (wArr cy z rt u.2.1 u.2.2)))) (va_A (wSim s0 z M ++ (wCfg cy (z 0) bq G (nI n) sc ++ (wArr cy z rt Q T))) sz)) 0 0 (va_A (wSim s0 z M ++ (wCfg cy (z 0) bq G (nI n) sc ++ (wArr cy z rt Q T))) sz) := by
  refine Met.ofW (cc := cX2_releaseJob) (maxL := 4) (ret := none) (by decide) rfl ?_
  intro p e s m args below meth c s₁ B hml hv
  obtain ⟨rfl, hsz, hP, hE, hD0⟩ := hv
  have hK := hE.1
  subst hsz
  have hD := hD0.self (sz := s.heap.size)
  generalize hAe : va_A (wSim s0 z M ++ (wCfg cy (z 0) bq G (nI n) sc ++ (wArr cy z rt Q T))) s.heap.size = A at hD ⊢
  have hA : ∀ q : Nat, s.heap.size ≤ q → A q := fun q h => by rw [← hAe]; exact Or.inr h
  have hS : va_S A s.heap s.heap [] := va_S.rf
  have hP : va_P (dC, dI) vwCl (wSim s0 z M ++ (wCfg cy (z 0) bq G (nI n) sc ++ (wArr cy z rt Q T))) s.heap := hP
  have hx := B.exec
  have hb := B.bytes
  have hr := B.returns
  have hts := atoms_spec (ws := wsX2_releaseJob) B.pre
  have hown : s.vm.findClass RX2 = some m.cls := findClass_of_methodNamed B.named
  have hlocks := B.notSynchronized
  have hin0 : ∀ w ∈ u_ws RX0 TX0 9, w ∈ wsX2_releaseJob := by decide +kernel
  have hin2 : ∀ w ∈ u_ws RX2 TX2 15, w ∈ wsX2_releaseJob := by decide +kernel
  have f_110 := va_Nw.use (A := ([.ref s0, .int (nI 5), .int (nI u)].toArray)) rfl (hE.f 4 rfl)
  have f_113 := va_Nw.use (A := ([.ref s0, .int (nI 5), .int (nI u)].toArray)) rfl (hE.f 2 rfl)
  have f_12 := hts (.fieldLink RX2 12 "DeadlineAdmission$Simulation" "tasks" "LDeadlineAdmission$Configuration;") (by decide +kernel)
  have f_18 := hts (.fieldLink RX2 18 "DeadlineAdmission$Simulation" "pendingJobs" "[I") (by decide +kernel)
  have f_22 := hts (.fieldLink RX2 22 "DeadlineAdmission$Simulation" "oldestRelease" "[I") (by decide +kernel)
  have f_25 := hts (.fieldLink RX2 25 "DeadlineAdmission$Simulation" "oldestHasRun" "[I") (by decide +kernel)
  have f_30 := hts (.fieldLink RX2 30 "DeadlineAdmission$Simulation" "runningTime" "[[I") (by decide +kernel)
  have hl := lv_entry ([.ref s0, .int (nI 5), .int (nI u)]) (n := 4) (Nat.le_of_ble_eq_true rfl)
  rw [lg_entry_eq]
  generalize (lg_sl ([.ref s0, .int (nI 5), .int (nI u)]) ++ List.replicate (4 - (lg_sl ([.ref s0, .int (nI 5), .int (nI u)])).length) Slot.unset).toArray = ls at hl ⊢
  have hl : lv_has ls 4 [(0, .ref s0), (1, .int (nI 5)), (2, .int (nI u))] := hl
  refine lv_aload_n hx hb dX2_releaseJob_0 rfl (lv_at hl 0 rfl) ?_
  refine va_get (D := (dC, dI)) (ci := 2) (v := .ref (z 0)) (C := RX2) (T := TX2) (N := 15) hx hb hts hin2 hown hK hP 0 rfl rfl 0 (by decide) f_12 (fun _ h9 => h9) rfl dX2_releaseJob_1 ?_
  refine lv_iload_n hx hb dX2_releaseJob_4 rfl (lv_at hl 1 rfl) ?_
  refine vp_callSi (va_runV (As := [.int (nI 5)]) (rest := []) ⟨hx, hb, hml, hown, hts⟩ (c_X0_hasHighBudget l dC dI cy (z 0) bq G (nI n) sc  5 (by omega)) (cwV 1 hts gX2_releaseJob_X0_hasHighBudget rfl rfl rfl (by decide +kernel) ⟨Nat.le_of_ble_eq_true rfl, Nat.le_of_ble_eq_true rfl⟩) ⟨bl_ro, va_recv hK (hP.sub (ws' := wCfg cy (z 0) bq G (nI n) sc) [1, 2, 3, 4, 5, 6, 7, 8] rfl) (ci := 0) (q0 := 0) rfl rfl, pr_ro (hP.sub (ws' := wCfg cy (z 0) bq G (nI n) sc) [1, 2, 3, 4, 5, 6, 7, 8] rfl) hE⟩ rfl rfl hl.1 rfl (lv_room (Nat.le_of_ble_eq_true rfl)) dX2_releaseJob_5 ⟨Nat.le_of_ble_eq_true rfl, Nat.le_of_ble_eq_true rfl⟩).run (fun r e_r => ?_)
  subst e_r
  refine lv_if_eq (tgt := 22) hx hb dX2_releaseJob_8 (by decide) (fun c_8 => ?_) (fun c_8 => ?_)
  · refine lv_iconst (v := 0) hx hb dX2_releaseJob_22 (by decide) ?_
    refine lv_istore_n (lv' := [(3, .int 0), (0, .ref s0), (1, .int (nI 5)), (2, .int (nI u))]) hx hb dX2_releaseJob_23 rfl hl (by decide) rfl (fun ls hl => ?_)
    refine lv_aload_n hx hb dX2_releaseJob_24 rfl (lv_at hl 1 rfl) ?_
    refine va_get (D := (dC, dI)) (ci := 2) (v := .ref (z 4)) (C := RX2) (T := TX2) (N := 15) hx hb hts hin2 hown hK hP 0 rfl rfl 4 (by decide) f_30 (fun _ h9 => h9) rfl dX2_releaseJob_25 ?_
    refine lv_iload_n hx hb dX2_releaseJob_28 rfl (lv_at hl 2 rfl) ?_
    refine wB_ald (q := (rt 5)) hx hb hK hP 12 2 rfl rfl 5 rfl (by omega) (by decide) rfl dX2_releaseJob_29 ?_
    refine lv_iload_n hx hb dX2_releaseJob_30 rfl (lv_at hl 3 rfl) ?_
    refine lv_iload_n hx hb dX2_releaseJob_31 rfl (lv_at hl 0 rfl) ?_
    refine lv_if_eq (tgt := 47) hx hb dX2_releaseJob_32 (by decide) (fun _ => ?_) (fun h0 => absurd h0 (by decide))
    refine lv_aload_n hx hb dX2_releaseJob_47 rfl (lv_at hl 1 rfl) ?_
    refine va_get (D := (dC, dI)) (ci := 2) (v := .ref (z 0)) (C := RX2) (T := TX2) (N := 15) hx hb hts hin2 hown hK hP 0 rfl rfl 0 (by decide) f_12 (fun _ h9 => h9) rfl dX2_releaseJob_48 ?_
    refine va_getN (D := (dC, dI)) (ci := 0) (v := .ref (bq 2)) (C := RX0) (T := TX0) (N := 9) hx hb hts hin0 hown hK hP 1 rfl rfl 2 (by decide) f_113 (fun _ h9 => h9) rfl dX2_releaseJob_51 ?_
    refine lv_iload_n hx hb dX2_releaseJob_54 rfl (lv_at hl 2 rfl) ?_
    refine wI_alv (v := G 2 5) hx hb hK hP 4 0 rfl rfl 5 rfl (by omega) (by decide) rfl dX2_releaseJob_55 ?_
    refine wI_ast hx hb hK hP hD hS 19 0 rfl rfl u rfl (by omega) (by decide) dX2_releaseJob_56 (fun H locs hP hD hS => ?_)
    have hP : va_P (dC, dI) vwCl (wSim s0 z M ++ (wCfg cy (z 0) bq G (nI n) sc ++ (wArr cy z rt Q (up2 T 5 u (G 2 5))))) H := hP
    have hD : va_D A (wSim s0 z M ++ (wCfg cy (z 0) bq G (nI n) sc ++ (wArr cy z rt Q (up2 T 5 u (G 2 5))))) := hD
    refine lv_aload_n hx hb dX2_releaseJob_57 rfl (lv_at hl 1 rfl) ?_
    refine va_get (D := (dC, dI)) (ci := 2) (v := .ref (z 1)) (C := RX2) (T := TX2) (N := 15) hx hb hts hin2 hown hK hP 0 rfl rfl 1 (by decide) f_18 (fun _ h9 => h9) rfl dX2_releaseJob_58 ?_
    refine lv_iload_n hx hb dX2_releaseJob_61 rfl (lv_at hl 2 rfl) ?_
    refine wI_alv (v := Q 1 5) hx hb hK hP 9 0 rfl rfl 5 rfl (by omega) (by decide) rfl dX2_releaseJob_62 ?_
    refine lv_if_ne (tgt := 80) hx hb dX2_releaseJob_63 (by decide) (fun c_63 => ?_) (fun c_63 => ?_)
    · refine lv_aload_n hx hb dX2_releaseJob_80 rfl (lv_at hl 1 rfl) ?_
      refine va_get (D := (dC, dI)) (ci := 2) (v := .ref (z 1)) (C := RX2) (T := TX2) (N := 15) hx hb hts hin2 hown hK hP 0 rfl rfl 1 (by decide) f_18 (fun _ h9 => h9) rfl dX2_releaseJob_81 ?_
      refine lv_iload_n hx hb dX2_releaseJob_84 rfl (lv_at hl 2 rfl) ?_
      refine lv_dup2_11 hx hb dX2_releaseJob_85 rfl rfl ?_
      refine wI_alv (v := Q 1 5) hx hb hK hP 9 0 rfl rfl 5 rfl (by omega) (by decide) rfl dX2_releaseJob_86 ?_
      refine lv_iconst (v := 1) hx hb dX2_releaseJob_87 (by decide) ?_
      refine lv_iadd hx hb dX2_releaseJob_88 ?_
      refine wI_ast hx hb hK hP hD hS 9 0 rfl rfl 5 rfl (by omega) (by decide) dX2_releaseJob_89 (fun H locs hP hD hS => ?_)
      have hP : va_P (dC, dI) vwCl (wSim s0 z M ++ (wCfg cy (z 0) bq G (nI n) sc ++ (wArr cy z rt (up2 Q 1 5 ((Q 1 5) + 1)) (up2 T 5 u (G 2 5))))) H := hP
      have hD : va_D A (wSim s0 z M ++ (wCfg cy (z 0) bq G (nI n) sc ++ (wArr cy z rt (up2 Q 1 5 ((Q 1 5) + 1)) (up2 T 5 u (G 2 5))))) := hD
      have hP9 : va_P (dC, dI) vwCl (wSim s0 z M ++ (wCfg cy (z 0) bq G (nI n) sc ++ (wArr cy z rt (up2 Q 1 5 ((Q 1 5) + 1)) (up2 T 5 u (G 2 5))))) H := hP
      have hD9 : va_D A (wSim s0 z M ++ (wCfg cy (z 0) bq G (nI n) sc ++ (wArr cy z rt (up2 Q 1 5 ((Q 1 5) + 1)) (up2 T 5 u (G 2 5))))) := hD
      exact W.vret hx hb hr (fun t ht hW => ⟨⟨(M, up2 Q 1 5 ((Q 1 5) + 1), up2 T 5 u (G 2 5)), rfl, (by simp only [relJ]; rw [drM, if_pos (b01.mp c_8), nds, if_pos (b01.mp c_8), relQ, if_neg c_63]), by rw [ht]; exact hP9, hD9⟩, hS.F ht⟩) hS.2.2 dX2_releaseJob_90
    · refine lv_aload_n hx hb dX2_releaseJob_66 rfl (lv_at hl 1 rfl) ?_
      refine va_get (D := (dC, dI)) (ci := 2) (v := .ref (z 2)) (C := RX2) (T := TX2) (N := 15) hx hb hts hin2 hown hK hP 0 rfl rfl 2 (by decide) f_22 (fun _ h9 => h9) rfl dX2_releaseJob_67 ?_
      refine lv_iload_n hx hb dX2_releaseJob_70 rfl (lv_at hl 2 rfl) ?_
      refine lv_iload_n hx hb dX2_releaseJob_71 rfl (lv_at hl 3 rfl) ?_
      refine wI_ast hx hb hK hP hD hS 10 0 rfl rfl 5 rfl (by omega) (by decide) dX2_releaseJob_72 (fun H locs hP hD hS => ?_)
      have hP : va_P (dC, dI) vwCl (wSim s0 z M ++ (wCfg cy (z 0) bq G (nI n) sc ++ (wArr cy z rt (up2 Q 2 5 (nI u)) (up2 T 5 u (G 2 5))))) H := hP
      have hD : va_D A (wSim s0 z M ++ (wCfg cy (z 0) bq G (nI n) sc ++ (wArr cy z rt (up2 Q 2 5 (nI u)) (up2 T 5 u (G 2 5))))) := hD
      refine lv_aload_n hx hb dX2_releaseJob_73 rfl (lv_at hl 1 rfl) ?_
      refine va_get (D := (dC, dI)) (ci := 2) (v := .ref (z 3)) (C := RX2) (T := TX2) (N := 15) hx hb hts hin2 hown hK hP 0 rfl rfl 3 (by decide) f_25 (fun _ h9 => h9) rfl dX2_releaseJob_74 ?_
      refine lv_iload_n hx hb dX2_releaseJob_77 rfl (lv_at hl 2 rfl) ?_
      refine lv_iconst (v := 0) hx hb dX2_releaseJob_78 (by decide) ?_
      refine wI_ast hx hb hK hP hD hS 11 0 rfl rfl 5 rfl (by omega) (by decide) dX2_releaseJob_79 (fun H locs hP hD hS => ?_)
      have hP : va_P (dC, dI) vwCl (wSim s0 z M ++ (wCfg cy (z 0) bq G (nI n) sc ++ (wArr cy z rt (up2 (up2 Q 2 5 (nI u)) 3 5 0) (up2 T 5 u (G 2 5))))) H := hP
      have hD : va_D A (wSim s0 z M ++ (wCfg cy (z 0) bq G (nI n) sc ++ (wArr cy z rt (up2 (up2 Q 2 5 (nI u)) 3 5 0) (up2 T 5 u (G 2 5))))) := hD
      refine lv_aload_n hx hb dX2_releaseJob_80 rfl (lv_at hl 1 rfl) ?_
      refine va_get (D := (dC, dI)) (ci := 2) (v := .ref (z 1)) (C := RX2) (T := TX2) (N := 15) hx hb hts hin2 hown hK hP 0 rfl rfl 1 (by decide) f_18 (fun _ h9 => h9) rfl dX2_releaseJob_81 ?_
      refine lv_iload_n hx hb dX2_releaseJob_84 rfl (lv_at hl 2 rfl) ?_
      refine lv_dup2_11 hx hb dX2_releaseJob_85 rfl rfl ?_
      refine wI_alv (v := Q 1 5) hx hb hK hP 9 0 rfl rfl 5 rfl (by omega) (by decide) rfl dX2_releaseJob_86 ?_
      refine lv_iconst (v := 1) hx hb dX2_releaseJob_87 (by decide) ?_
      refine lv_iadd hx hb dX2_releaseJob_88 ?_
      refine wI_ast hx hb hK hP hD hS 9 0 rfl rfl 5 rfl (by omega) (by decide) dX2_releaseJob_89 (fun H locs hP hD hS => ?_)
      have hP : va_P (dC, dI) vwCl (wSim s0 z M ++ (wCfg cy (z 0) bq G (nI n) sc ++ (wArr cy z rt (up2 (up2 (up2 Q 2 5 (nI u)) 3 5 0) 1 5 ((Q 1 5) + 1)) (up2 T 5 u (G 2 5))))) H := hP
      have hD : va_D A (wSim s0 z M ++ (wCfg cy (z 0) bq G (nI n) sc ++ (wArr cy z rt (up2 (up2 (up2 Q 2 5 (nI u)) 3 5 0) 1 5 ((Q 1 5) + 1)) (up2 T 5 u (G 2 5))))) := hD
      have hP9 : va_P (dC, dI) vwCl (wSim s0 z M ++ (wCfg cy (z 0) bq G (nI n) sc ++ (wArr cy z rt (up2 (up2 (up2 Q 2 5 (nI u)) 3 5 0) 1 5 ((Q 1 5) + 1)) (up2 T 5 u (G 2 5))))) H := hP
      have hD9 : va_D A (wSim s0 z M ++ (wCfg cy (z 0) bq G (nI n) sc ++ (wArr cy z rt (up2 (up2 (up2 Q 2 5 (nI u)) 3 5 0) 1 5 ((Q 1 5) + 1)) (up2 T 5 u (G 2 5))))) := hD
      exact W.vret hx hb hr (fun t ht hW => ⟨⟨(M, up2 (up2 (up2 Q 2 5 (nI u)) 3 5 0) 1 5 ((Q 1 5) + 1), up2 T 5 u (G 2 5)), rfl, (by simp only [relJ]; rw [drM, if_pos (b01.mp c_8), nds, if_pos (b01.mp c_8), relQ, if_pos c_63]), by rw [ht]; exact hP9, hD9⟩, hS.F ht⟩) hS.2.2 dX2_releaseJob_90
  · refine lv_aload_n hx hb dX2_releaseJob_11 rfl (lv_at hl 0 rfl) ?_
    have hPc := hP.sub (ws' := wSim s0 z M) [0] rfl
    have hDc := hD.sub (ws' := wSim s0 z M) [0] (by decide) rfl
    have hFc := va_free (wc := wSim s0 z M) hD hS hA [0] rfl
    refine va_calli (va_runV (As := []) (rest := []) ⟨hx, hb, hml, hown, hts⟩ (c_X2_drawOverrun l dC dI cy s.heap.size s0 z M) (cwV 0 hts gX2_releaseJob_X2_drawOverrun rfl rfl rfl (by decide +kernel) ⟨Nat.le_of_ble_eq_true rfl, Nat.le_of_ble_eq_true rfl⟩) ⟨bl_in, va_recv hK hPc (ci := 2) (q0 := 0) rfl rfl, pr_in hPc hE hDc⟩ rfl rfl hl.1 rfl (lv_room (Nat.le_of_ble_eq_true rfl)) dX2_releaseJob_12 ⟨Nat.le_of_ble_eq_true rfl, Nat.le_of_ble_eq_true rfl⟩) hS (fun q _ h => hFc q h) hFc (fun r u t H1 locs ht hvm hw hB hz1 hk1 hS => ?_)
    obtain ⟨rfl, rfl⟩ := hw
    obtain ⟨hP1, hD1⟩ := hB
    rw [ht] at hP1
    obtain ⟨hP, hD⟩ := va_join (wr := wCfg cy (z 0) bq G (nI n) sc ++ (wArr cy z rt Q T)) (w1 := wSim s0 z (upd M 7 (drw (M 7)))) hP hD [0] [1, 2, 3, 4, 5, 6, 7, 8, 9, 10, 11, 12, 13, 14, 15, 16, 17, 18, 19, 20, 21] rfl rfl (by decide) (by decide) hk1 hFc hP1 hD1
    have hP : va_P (dC, dI) vwCl (wSim s0 z (upd M 7 (drw (M 7))) ++ (wCfg cy (z 0) bq G (nI n) sc ++ (wArr cy z rt Q T))) H1 := hP.sub [21, 0, 1, 2, 3, 4, 5, 6, 7, 8, 9, 10, 11, 12, 13, 14, 15, 16, 17, 18, 19, 20] rfl
    have hD : va_D A (wSim s0 z (upd M 7 (drw (M 7))) ++ (wCfg cy (z 0) bq G (nI n) sc ++ (wArr cy z rt Q T))) := hD.sub [21, 0, 1, 2, 3, 4, 5, 6, 7, 8, 9, 10, 11, 12, 13, 14, 15, 16, 17, 18, 19, 20] (by decide) rfl
    clear hz1 hk1 hPc hDc hFc hP1 hD1
    generalize H1 = H at hP hS ⊢
    refine lv_topi (fun y_ ey_ => ?_)
    obtain rfl : y_ = if ovr (drw (M 7)) (M 8) then 1 else 0 := ey_
    refine lv_if_eq (tgt := 22) hx hb dX2_releaseJob_15 (by decide) (fun c_15 => ?_) (fun c_15 => ?_)
    · refine lv_iconst (v := 0) hx hb dX2_releaseJob_22 (by decide) ?_
      refine lv_istore_n (lv' := [(3, .int 0), (0, .ref s0), (1, .int (nI 5)), (2, .int (nI u))]) hx hb dX2_releaseJob_23 rfl hl (by decide) rfl (fun ls hl => ?_)
      refine lv_aload_n hx hb dX2_releaseJob_24 rfl (lv_at hl 1 rfl) ?_
      refine va_get (D := (dC, dI)) (ci := 2) (v := .ref (z 4)) (C := RX2) (T := TX2) (N := 15) hx hb hts hin2 hown hK hP 0 rfl rfl 4 (by decide) f_30 (fun _ h9 => h9) rfl dX2_releaseJob_25 ?_
      refine lv_iload_n hx hb dX2_releaseJob_28 rfl (lv_at hl 2 rfl) ?_
      refine wB_ald (q := (rt 5)) hx hb hK hP 12 2 rfl rfl 5 rfl (by omega) (by decide) rfl dX2_releaseJob_29 ?_
      refine lv_iload_n hx hb dX2_releaseJob_30 rfl (lv_at hl 3 rfl) ?_
      refine lv_iload_n hx hb dX2_releaseJob_31 rfl (lv_at hl 0 rfl) ?_
      refine lv_if_eq (tgt := 47) hx hb dX2_releaseJob_32 (by decide) (fun _ => ?_) (fun h0 => absurd h0 (by decide))
      refine lv_aload_n hx hb dX2_releaseJob_47 rfl (lv_at hl 1 rfl) ?_
      refine va_get (D := (dC, dI)) (ci := 2) (v := .ref (z 0)) (C := RX2) (T := TX2) (N := 15) hx hb hts hin2 hown hK hP 0 rfl rfl 0 (by decide) f_12 (fun _ h9 => h9) rfl dX2_releaseJob_48 ?_
      refine va_getN (D := (dC, dI)) (ci := 0) (v := .ref (bq 2)) (C := RX0) (T := TX0) (N := 9) hx hb hts hin0 hown hK hP 1 rfl rfl 2 (by decide) f_113 (fun _ h9 => h9) rfl dX2_releaseJob_51 ?_
      refine lv_iload_n hx hb dX2_releaseJob_54 rfl (lv_at hl 2 rfl) ?_
      refine wI_alv (v := G 2 5) hx hb hK hP 4 0 rfl rfl 5 rfl (by omega) (by decide) rfl dX2_releaseJob_55 ?_
      refine wI_ast hx hb hK hP hD hS 19 0 rfl rfl u rfl (by omega) (by decide) dX2_releaseJob_56 (fun H locs hP hD hS => ?_)
      have hP : va_P (dC, dI) vwCl (wSim s0 z (upd M 7 (drw (M 7))) ++ (wCfg cy (z 0) bq G (nI n) sc ++ (wArr cy z rt Q (up2 T 5 u (G 2 5))))) H := hP
      have hD : va_D A (wSim s0 z (upd M 7 (drw (M 7))) ++ (wCfg cy (z 0) bq G (nI n) sc ++ (wArr cy z rt Q (up2 T 5 u (G 2 5))))) := hD
      refine lv_aload_n hx hb dX2_releaseJob_57 rfl (lv_at hl 1 rfl) ?_
      refine va_get (D := (dC, dI)) (ci := 2) (v := .ref (z 1)) (C := RX2) (T := TX2) (N := 15) hx hb hts hin2 hown hK hP 0 rfl rfl 1 (by decide) f_18 (fun _ h9 => h9) rfl dX2_releaseJob_58 ?_
      refine lv_iload_n hx hb dX2_releaseJob_61 rfl (lv_at hl 2 rfl) ?_
      refine wI_alv (v := Q 1 5) hx hb hK hP 9 0 rfl rfl 5 rfl (by omega) (by decide) rfl dX2_releaseJob_62 ?_
      refine lv_if_ne (tgt := 80) hx hb dX2_releaseJob_63 (by decide) (fun c_63 => ?_) (fun c_63 => ?_)
      · refine lv_aload_n hx hb dX2_releaseJob_80 rfl (lv_at hl 1 rfl) ?_
        refine va_get (D := (dC, dI)) (ci := 2) (v := .ref (z 1)) (C := RX2) (T := TX2) (N := 15) hx hb hts hin2 hown hK hP 0 rfl rfl 1 (by decide) f_18 (fun _ h9 => h9) rfl dX2_releaseJob_81 ?_
        refine lv_iload_n hx hb dX2_releaseJob_84 rfl (lv_at hl 2 rfl) ?_
        refine lv_dup2_11 hx hb dX2_releaseJob_85 rfl rfl ?_
        refine wI_alv (v := Q 1 5) hx hb hK hP 9 0 rfl rfl 5 rfl (by omega) (by decide) rfl dX2_releaseJob_86 ?_
        refine lv_iconst (v := 1) hx hb dX2_releaseJob_87 (by decide) ?_
        refine lv_iadd hx hb dX2_releaseJob_88 ?_
        refine wI_ast hx hb hK hP hD hS 9 0 rfl rfl 5 rfl (by omega) (by decide) dX2_releaseJob_89 (fun H locs hP hD hS => ?_)
        have hP : va_P (dC, dI) vwCl (wSim s0 z (upd M 7 (drw (M 7))) ++ (wCfg cy (z 0) bq G (nI n) sc ++ (wArr cy z rt (up2 Q 1 5 ((Q 1 5) + 1)) (up2 T 5 u (G 2 5))))) H := hP
        have hD : va_D A (wSim s0 z (upd M 7 (drw (M 7))) ++ (wCfg cy (z 0) bq G (nI n) sc ++ (wArr cy z rt (up2 Q 1 5 ((Q 1 5) + 1)) (up2 T 5 u (G 2 5))))) := hD
        have hP9 : va_P (dC, dI) vwCl (wSim s0 z (upd M 7 (drw (M 7))) ++ (wCfg cy (z 0) bq G (nI n) sc ++ (wArr cy z rt (up2 Q 1 5 ((Q 1 5) + 1)) (up2 T 5 u (G 2 5))))) H := hP
        have hD9 : va_D A (wSim s0 z (upd M 7 (drw (M 7))) ++ (wCfg cy (z 0) bq G (nI n) sc ++ (wArr cy z rt (up2 Q 1 5 ((Q 1 5) + 1)) (up2 T 5 u (G 2 5))))) := hD
        exact W.vret hx hb hr (fun t ht hW => ⟨⟨(upd M 7 (drw (M 7)), up2 Q 1 5 ((Q 1 5) + 1), up2 T 5 u (G 2 5)), rfl, (by simp only [relJ]; rw [drM, if_neg (fun h => c_8 (b01.mpr h)), nds, if_neg (fun h => c_8 (b01.mpr h)), if_neg (b10.mp c_15), relQ, if_neg c_63]), by rw [ht]; exact hP9, hD9⟩, hS.F ht⟩) hS.2.2 dX2_releaseJob_90
      · refine lv_aload_n hx hb dX2_releaseJob_66 rfl (lv_at hl 1 rfl) ?_
        refine va_get (D := (dC, dI)) (ci := 2) (v := .ref (z 2)) (C := RX2) (T := TX2) (N := 15) hx hb hts hin2 hown hK hP 0 rfl rfl 2 (by decide) f_22 (fun _ h9 => h9) rfl dX2_releaseJob_67 ?_
        refine lv_iload_n hx hb dX2_releaseJob_70 rfl (lv_at hl 2 rfl) ?_
        refine lv_iload_n hx hb dX2_releaseJob_71 rfl (lv_at hl 3 rfl) ?_
        refine wI_ast hx hb hK hP hD hS 10 0 rfl rfl 5 rfl (by omega) (by decide) dX2_releaseJob_72 (fun H locs hP hD hS => ?_)
        have hP : va_P (dC, dI) vwCl (wSim s0 z (upd M 7 (drw (M 7))) ++ (wCfg cy (z 0) bq G (nI n) sc ++ (wArr cy z rt (up2 Q 2 5 (nI u)) (up2 T 5 u (G 2 5))))) H := hP
        have hD : va_D A (wSim s0 z (upd M 7 (drw (M 7))) ++ (wCfg cy (z 0) bq G (nI n) sc ++ (wArr cy z rt (up2 Q 2 5 (nI u)) (up2 T 5 u (G 2 5))))) := hD
        refine lv_aload_n hx hb dX2_releaseJob_73 rfl (lv_at hl 1 rfl) ?_
        refine va_get (D := (dC, dI)) (ci := 2) (v := .ref (z 3)) (C := RX2) (T := TX2) (N := 15) hx hb hts hin2 hown hK hP 0 rfl rfl 3 (by decide) f_25 (fun _ h9 => h9) rfl dX2_releaseJob_74 ?_
        refine lv_iload_n hx hb dX2_releaseJob_77 rfl (lv_at hl 2 rfl) ?_
        refine lv_iconst (v := 0) hx hb dX2_releaseJob_78 (by decide) ?_
        refine wI_ast hx hb hK hP hD hS 11 0 rfl rfl 5 rfl (by omega) (by decide) dX2_releaseJob_79 (fun H locs hP hD hS => ?_)
        have hP : va_P (dC, dI) vwCl (wSim s0 z (upd M 7 (drw (M 7))) ++ (wCfg cy (z 0) bq G (nI n) sc ++ (wArr cy z rt (up2 (up2 Q 2 5 (nI u)) 3 5 0) (up2 T 5 u (G 2 5))))) H := hP
        have hD : va_D A (wSim s0 z (upd M 7 (drw (M 7))) ++ (wCfg cy (z 0) bq G (nI n) sc ++ (wArr cy z rt (up2 (up2 Q 2 5 (nI u)) 3 5 0) (up2 T 5 u (G 2 5))))) := hD
        refine lv_aload_n hx hb dX2_releaseJob_80 rfl (lv_at hl 1 rfl) ?_
        refine va_get (D := (dC, dI)) (ci := 2) (v := .ref (z 1)) (C := RX2) (T := TX2) (N := 15) hx hb hts hin2 hown hK hP 0 rfl rfl 1 (by decide) f_18 (fun _ h9 => h9) rfl dX2_releaseJob_81 ?_
        refine lv_iload_n hx hb dX2_releaseJob_84 rfl (lv_at hl 2 rfl) ?_
        refine lv_dup2_11 hx hb dX2_releaseJob_85 rfl rfl ?_
        refine wI_alv (v := Q 1 5) hx hb hK hP 9 0 rfl rfl 5 rfl (by omega) (by decide) rfl dX2_releaseJob_86 ?_
        refine lv_iconst (v := 1) hx hb dX2_releaseJob_87 (by decide) ?_
        refine lv_iadd hx hb dX2_releaseJob_88 ?_
        refine wI_ast hx hb hK hP hD hS 9 0 rfl rfl 5 rfl (by omega) (by decide) dX2_releaseJob_89 (fun H locs hP hD hS => ?_)
        have hP : va_P (dC, dI) vwCl (wSim s0 z (upd M 7 (drw (M 7))) ++ (wCfg cy (z 0) bq G (nI n) sc ++ (wArr cy z rt (up2 (up2 (up2 Q 2 5 (nI u)) 3 5 0) 1 5 ((Q 1 5) + 1)) (up2 T 5 u (G 2 5))))) H := hP
        have hD : va_D A (wSim s0 z (upd M 7 (drw (M 7))) ++ (wCfg cy (z 0) bq G (nI n) sc ++ (wArr cy z rt (up2 (up2 (up2 Q 2 5 (nI u)) 3 5 0) 1 5 ((Q 1 5) + 1)) (up2 T 5 u (G 2 5))))) := hD
        have hP9 : va_P (dC, dI) vwCl (wSim s0 z (upd M 7 (drw (M 7))) ++ (wCfg cy (z 0) bq G (nI n) sc ++ (wArr cy z rt (up2 (up2 (up2 Q 2 5 (nI u)) 3 5 0) 1 5 ((Q 1 5) + 1)) (up2 T 5 u (G 2 5))))) H := hP
        have hD9 : va_D A (wSim s0 z (upd M 7 (drw (M 7))) ++ (wCfg cy (z 0) bq G (nI n) sc ++ (wArr cy z rt (up2 (up2 (up2 Q 2 5 (nI u)) 3 5 0) 1 5 ((Q 1 5) + 1)) (up2 T 5 u (G 2 5))))) := hD
        exact W.vret hx hb hr (fun t ht hW => ⟨⟨(upd M 7 (drw (M 7)), up2 (up2 (up2 Q 2 5 (nI u)) 3 5 0) 1 5 ((Q 1 5) + 1), up2 T 5 u (G 2 5)), rfl, (by simp only [relJ]; rw [drM, if_neg (fun h => c_8 (b01.mpr h)), nds, if_neg (fun h => c_8 (b01.mpr h)), if_neg (b10.mp c_15), relQ, if_pos c_63]), by rw [ht]; exact hP9, hD9⟩, hS.F ht⟩) hS.2.2 dX2_releaseJob_90
    · refine lv_iconst (v := 1) hx hb dX2_releaseJob_18 (by decide) ?_
      refine lv_goto (tgt := 23) hx hb dX2_releaseJob_19 (by decide) ?_
      refine lv_istore_n (lv' := [(3, .int 1), (0, .ref s0), (1, .int (nI 5)), (2, .int (nI u))]) hx hb dX2_releaseJob_23 rfl hl (by decide) rfl (fun ls hl => ?_)
      refine lv_aload_n hx hb dX2_releaseJob_24 rfl (lv_at hl 1 rfl) ?_
      refine va_get (D := (dC, dI)) (ci := 2) (v := .ref (z 4)) (C := RX2) (T := TX2) (N := 15) hx hb hts hin2 hown hK hP 0 rfl rfl 4 (by decide) f_30 (fun _ h9 => h9) rfl dX2_releaseJob_25 ?_
      refine lv_iload_n hx hb dX2_releaseJob_28 rfl (lv_at hl 2 rfl) ?_
      refine wB_ald (q := (rt 5)) hx hb hK hP 12 2 rfl rfl 5 rfl (by omega) (by decide) rfl dX2_releaseJob_29 ?_
      refine lv_iload_n hx hb dX2_releaseJob_30 rfl (lv_at hl 3 rfl) ?_
      refine lv_iload_n hx hb dX2_releaseJob_31 rfl (lv_at hl 0 rfl) ?_
      refine lv_if_eq (tgt := 47) hx hb dX2_releaseJob_32 (by decide) (fun h0 => absurd h0 (by decide)) (fun _ => ?_)
      refine lv_aload_n hx hb dX2_releaseJob_35 rfl (lv_at hl 1 rfl) ?_
      refine va_get (D := (dC, dI)) (ci := 2) (v := .ref (z 0)) (C := RX2) (T := TX2) (N := 15) hx hb hts hin2 hown hK hP 0 rfl rfl 0 (by decide) f_12 (fun _ h9 => h9) rfl dX2_releaseJob_36 ?_
      refine va_getN (D := (dC, dI)) (ci := 0) (v := .ref (bq 3)) (C := RX0) (T := TX0) (N := 9) hx hb hts hin0 hown hK hP 1 rfl rfl 3 (by decide) f_110 (fun _ h9 => h9) rfl dX2_releaseJob_39 ?_
      refine lv_iload_n hx hb dX2_releaseJob_42 rfl (lv_at hl 2 rfl) ?_
      refine wI_alv (v := G 3 5) hx hb hK hP 5 0 rfl rfl 5 rfl (by omega) (by decide) rfl dX2_releaseJob_43 ?_
      refine lv_goto (tgt := 56) hx hb dX2_releaseJob_44 (by decide) ?_
      refine wI_ast hx hb hK hP hD hS 19 0 rfl rfl u rfl (by omega) (by decide) dX2_releaseJob_56 (fun H locs hP hD hS => ?_)
      have hP : va_P (dC, dI) vwCl (wSim s0 z (upd M 7 (drw (M 7))) ++ (wCfg cy (z 0) bq G (nI n) sc ++ (wArr cy z rt Q (up2 T 5 u (G 3 5))))) H := hP
      have hD : va_D A (wSim s0 z (upd M 7 (drw (M 7))) ++ (wCfg cy (z 0) bq G (nI n) sc ++ (wArr cy z rt Q (up2 T 5 u (G 3 5))))) := hD
      refine lv_aload_n hx hb dX2_releaseJob_57 rfl (lv_at hl 1 rfl) ?_
      refine va_get (D := (dC, dI)) (ci := 2) (v := .ref (z 1)) (C := RX2) (T := TX2) (N := 15) hx hb hts hin2 hown hK hP 0 rfl rfl 1 (by decide) f_18 (fun _ h9 => h9) rfl dX2_releaseJob_58 ?_
      refine lv_iload_n hx hb dX2_releaseJob_61 rfl (lv_at hl 2 rfl) ?_
      refine wI_alv (v := Q 1 5) hx hb hK hP 9 0 rfl rfl 5 rfl (by omega) (by decide) rfl dX2_releaseJob_62 ?_
      refine lv_if_ne (tgt := 80) hx hb dX2_releaseJob_63 (by decide) (fun c_63 => ?_) (fun c_63 => ?_)
      · refine lv_aload_n hx hb dX2_releaseJob_80 rfl (lv_at hl 1 rfl) ?_
        refine va_get (D := (dC, dI)) (ci := 2) (v := .ref (z 1)) (C := RX2) (T := TX2) (N := 15) hx hb hts hin2 hown hK hP 0 rfl rfl 1 (by decide) f_18 (fun _ h9 => h9) rfl dX2_releaseJob_81 ?_
        refine lv_iload_n hx hb dX2_releaseJob_84 rfl (lv_at hl 2 rfl) ?_
        refine lv_dup2_11 hx hb dX2_releaseJob_85 rfl rfl ?_
        refine wI_alv (v := Q 1 5) hx hb hK hP 9 0 rfl rfl 5 rfl (by omega) (by decide) rfl dX2_releaseJob_86 ?_
        refine lv_iconst (v := 1) hx hb dX2_releaseJob_87 (by decide) ?_
        refine lv_iadd hx hb dX2_releaseJob_88 ?_
        refine wI_ast hx hb hK hP hD hS 9 0 rfl rfl 5 rfl (by omega) (by decide) dX2_releaseJob_89 (fun H locs hP hD hS => ?_)
        have hP : va_P (dC, dI) vwCl (wSim s0 z (upd M 7 (drw (M 7))) ++ (wCfg cy (z 0) bq G (nI n) sc ++ (wArr cy z rt (up2 Q 1 5 ((Q 1 5) + 1)) (up2 T 5 u (G 3 5))))) H := hP
        have hD : va_D A (wSim s0 z (upd M 7 (drw (M 7))) ++ (wCfg cy (z 0) bq G (nI n) sc ++ (wArr cy z rt (up2 Q 1 5 ((Q 1 5) + 1)) (up2 T 5 u (G 3 5))))) := hD
        have hP9 : va_P (dC, dI) vwCl (wSim s0 z (upd M 7 (drw (M 7))) ++ (wCfg cy (z 0) bq G (nI n) sc ++ (wArr cy z rt (up2 Q 1 5 ((Q 1 5) + 1)) (up2 T 5 u (G 3 5))))) H := hP
        have hD9 : va_D A (wSim s0 z (upd M 7 (drw (M 7))) ++ (wCfg cy (z 0) bq G (nI n) sc ++ (wArr cy z rt (up2 Q 1 5 ((Q 1 5) + 1)) (up2 T 5 u (G 3 5))))) := hD
        exact W.vret hx hb hr (fun t ht hW => ⟨⟨(upd M 7 (drw (M 7)), up2 Q 1 5 ((Q 1 5) + 1), up2 T 5 u (G 3 5)), rfl, (by simp only [relJ]; rw [drM, if_neg (fun h => c_8 (b01.mpr h)), nds, if_neg (fun h => c_8 (b01.mpr h)), if_pos (nb10 c_15), relQ, if_neg c_63]), by rw [ht]; exact hP9, hD9⟩, hS.F ht⟩) hS.2.2 dX2_releaseJob_90
      · refine lv_aload_n hx hb dX2_releaseJob_66 rfl (lv_at hl 1 rfl) ?_
        refine va_get (D := (dC, dI)) (ci := 2) (v := .ref (z 2)) (C := RX2) (T := TX2) (N := 15) hx hb hts hin2 hown hK hP 0 rfl rfl 2 (by decide) f_22 (fun _ h9 => h9) rfl dX2_releaseJob_67 ?_
        refine lv_iload_n hx hb dX2_releaseJob_70 rfl (lv_at hl 2 rfl) ?_
        refine lv_iload_n hx hb dX2_releaseJob_71 rfl (lv_at hl 3 rfl) ?_
        refine wI_ast hx hb hK hP hD hS 10 0 rfl rfl 5 rfl (by omega) (by decide) dX2_releaseJob_72 (fun H locs hP hD hS => ?_)
        have hP : va_P (dC, dI) vwCl (wSim s0 z (upd M 7 (drw (M 7))) ++ (wCfg cy (z 0) bq G (nI n) sc ++ (wArr cy z rt (up2 Q 2 5 (nI u)) (up2 T 5 u (G 3 5))))) H := hP
        have hD : va_D A (wSim s0 z (upd M 7 (drw (M 7))) ++ (wCfg cy (z 0) bq G (nI n) sc ++ (wArr cy z rt (up2 Q 2 5 (nI u)) (up2 T 5 u (G 3 5))))) := hD
        refine lv_aload_n hx hb dX2_releaseJob_73 rfl (lv_at hl 1 rfl) ?_
        refine va_get (D := (dC, dI)) (ci := 2) (v := .ref (z 3)) (C := RX2) (T := TX2) (N := 15) hx hb hts hin2 hown hK hP 0 rfl rfl 3 (by decide) f_25 (fun _ h9 => h9) rfl dX2_releaseJob_74 ?_
        refine lv_iload_n hx hb dX2_releaseJob_77 rfl (lv_at hl 2 rfl) ?_
        refine lv_iconst (v := 0) hx hb dX2_releaseJob_78 (by decide) ?_
        refine wI_ast hx hb hK hP hD hS 11 0 rfl rfl 5 rfl (by omega) (by decide) dX2_releaseJob_79 (fun H locs hP hD hS => ?_)
        have hP : va_P (dC, dI) vwCl (wSim s0 z (upd M 7 (drw (M 7))) ++ (wCfg cy (z 0) bq G (nI n) sc ++ (wArr cy z rt (up2 (up2 Q 2 5 (nI u)) 3 5 0) (up2 T 5 u (G 3 5))))) H := hP
        have hD : va_D A (wSim s0 z (upd M 7 (drw (M 7))) ++ (wCfg cy (z 0) bq G (nI n) sc ++ (wArr cy z rt (up2 (up2 Q 2 5 (nI u)) 3 5 0) (up2 T 5 u (G 3 5))))) := hD
        refine lv_aload_n hx hb dX2_releaseJob_80 rfl (lv_at hl 1 rfl) ?_
        refine va_get (D := (dC, dI)) (ci := 2) (v := .ref (z 1)) (C := RX2) (T := TX2) (N := 15) hx hb hts hin2 hown hK hP 0 rfl rfl 1 (by decide) f_18 (fun _ h9 => h9) rfl dX2_releaseJob_81 ?_
        refine lv_iload_n hx hb dX2_releaseJob_84 rfl (lv_at hl 2 rfl) ?_
        refine lv_dup2_11 hx hb dX2_releaseJob_85 rfl rfl ?_
        refine wI_alv (v := Q 1 5) hx hb hK hP 9 0 rfl rfl 5 rfl (by omega) (by decide) rfl dX2_releaseJob_86 ?_
        refine lv_iconst (v := 1) hx hb dX2_releaseJob_87 (by decide) ?_
        refine lv_iadd hx hb dX2_releaseJob_88 ?_
        refine wI_ast hx hb hK hP hD hS 9 0 rfl rfl 5 rfl (by omega) (by decide) dX2_releaseJob_89 (fun H locs hP hD hS => ?_)
        have hP : va_P (dC, dI) vwCl (wSim s0 z (upd M 7 (drw (M 7))) ++ (wCfg cy (z 0) bq G (nI n) sc ++ (wArr cy z rt (up2 (up2 (up2 Q 2 5 (nI u)) 3 5 0) 1 5 ((Q 1 5) + 1)) (up2 T 5 u (G 3 5))))) H := hP
        have hD : va_D A (wSim s0 z (upd M 7 (drw (M 7))) ++ (wCfg cy (z 0) bq G (nI n) sc ++ (wArr cy z rt (up2 (up2 (up2 Q 2 5 (nI u)) 3 5 0) 1 5 ((Q 1 5) + 1)) (up2 T 5 u (G 3 5))))) := hD
        have hP9 : va_P (dC, dI) vwCl (wSim s0 z (upd M 7 (drw (M 7))) ++ (wCfg cy (z 0) bq G (nI n) sc ++ (wArr cy z rt (up2 (up2 (up2 Q 2 5 (nI u)) 3 5 0) 1 5 ((Q 1 5) + 1)) (up2 T 5 u (G 3 5))))) H := hP
        have hD9 : va_D A (wSim s0 z (upd M 7 (drw (M 7))) ++ (wCfg cy (z 0) bq G (nI n) sc ++ (wArr cy z rt (up2 (up2 (up2 Q 2 5 (nI u)) 3 5 0) 1 5 ((Q 1 5) + 1)) (up2 T 5 u (G 3 5))))) := hD
        exact W.vret hx hb hr (fun t ht hW => ⟨⟨(upd M 7 (drw (M 7)), up2 (up2 (up2 Q 2 5 (nI u)) 3 5 0) 1 5 ((Q 1 5) + 1), up2 T 5 u (G 3 5)), rfl, (by simp only [relJ]; rw [drM, if_neg (fun h => c_8 (b01.mpr h)), nds, if_neg (fun h => c_8 (b01.mpr h)), if_pos (nb10 c_15), relQ, if_pos c_63]), by rw [ht]; exact hP9, hD9⟩, hS.F ht⟩) hS.2.2 dX2_releaseJob_90
set_option maxHeartbeats 1000000 in
set_option maxRecDepth 100000 in
/-- a job of task 6 -/
theorem c_X2_releaseJob_6 (l : Launch) (dC : Nat → ClassId) (dI : Nat → Nat → Nat) (cy : Nat → ClassId) (sz : Nat) (s0 : Nat) (z : Nat → Nat) (M : Nat → Int32) (bq : Nat → Nat) (G : vG) (n : Nat) (hn : n ≤ 8) (sc : Int32) (Q : vG) (rt : Nat → Nat) (T : vG) (u : Nat) (hu : u < 200) : Met l yX2_releaseJob wsX2_releaseJob ({ frames := 1, cells := 0, slots := 0, locals := 21 }) (va_Pc [.ref s0, .int (nI 6), .int (nI u)] (pIn dC dI cy (wSim s0 z M ++ (wCfg cy (z 0) bq G (nI n) sc ++ (wArr cy z rt Q T))) sz)) (va_Qv (fun (u9 : SSt) => u9 = relJ G 6 u (M, Q, T)) (fun (u : SSt) t => va_P (dC, dI) vwCl (wSim s0 z u.1 ++ (wCfg cy (z 0) bq G (nI n) sc ++ (wArr cy z rt u.2.1 u.2.2))) t.heap ∧ va_D (va_A (wSim s0 z M ++ (wCfg cy (z 0) bq G (nI n) sc ++ (wArr cy z rt Q T))) sz) (wSim s0 z u.1 ++ (wCfg cy (z 0) bq G (nI n) sc ++ (wArr cy z rt u.2.1 u.2.2)))) (va_A (wSim s0 z M ++ (wCfg cy (z 0) bq G (nI n) sc ++ (wArr cy z rt Q T))) sz)) 0 0 (va_A (wSim s0 z M ++ (wCfg cy (z 0) bq G (nI n) sc ++ (wArr cy z rt Q T))) sz) := by
  refine Met.ofW (cc := cX2_releaseJob) (maxL := 4) (ret := none) (by decide) rfl ?_
  intro p e s m args below meth c s₁ B hml hv
  obtain ⟨rfl, hsz, hP, hE, hD0⟩ := hv
  have hK := hE.1
  subst hsz
  have hD := hD0.self (sz := s.heap.size)
  generalize hAe : va_A (wSim s0 z M ++ (wCfg cy (z 0) bq G (nI n) sc ++ (wArr cy z rt Q T))) s.heap.size = A at hD ⊢
  have hA : ∀ q : Nat, s.heap.size ≤ q → A q := fun q h => by rw [← hAe]; exact Or.inr h
  have hS : va_S A s.heap s.heap [] := va_S.rf
  have hP : va_P (dC, dI) vwCl (wSim s0 z M ++ (wCfg cy (z 0) bq G (nI n) sc ++ (wArr cy z rt Q T))) s.heap := hP
  have hx := B.exec
  have hb := B.bytes
  have hr := B.returns
  have hts := atoms_spec (ws := wsX2_releaseJob) B.pre
  have hown : s.vm.findClass RX2 = some m.cls := findClass_of_methodNamed B.named
  have hlocks := B.notSynchronized
  have hin0 : ∀ w ∈ u_ws RX0 TX0 9, w ∈ wsX2_releaseJob := by decide +kernel
  have hin2 : ∀ w ∈ u_ws RX2 TX2 15, w ∈ wsX2_releaseJob := by decide +kernel
  have f_110 := va_Nw.use (A := ([.ref s0, .int (nI 6), .int (nI u)].toArray)) rfl (hE.f 4 rfl)
  have f_113 := va_Nw.use (A := ([.ref s0, .int (nI 6), .int (nI u)].toArray)) rfl (hE.f 2 rfl)
  have f_12 := hts (.fieldLink RX2 12 "DeadlineAdmission$Simulation" "tasks" "LDeadlineAdmission$Configuration;") (by decide +kernel)
  have f_18 := hts (.fieldLink RX2 18 "DeadlineAdmission$Simulation" "pendingJobs" "[I") (by decide +kernel)
  have f_22 := hts (.fieldLink RX2 22 "DeadlineAdmission$Simulation" "oldestRelease" "[I") (by decide +kernel)
  have f_25 := hts (.fieldLink RX2 25 "DeadlineAdmission$Simulation" "oldestHasRun" "[I") (by decide +kernel)
  have f_30 := hts (.fieldLink RX2 30 "DeadlineAdmission$Simulation" "runningTime" "[[I") (by decide +kernel)
  have hl := lv_entry ([.ref s0, .int (nI 6), .int (nI u)]) (n := 4) (Nat.le_of_ble_eq_true rfl)
  rw [lg_entry_eq]
  generalize (lg_sl ([.ref s0, .int (nI 6), .int (nI u)]) ++ List.replicate (4 - (lg_sl ([.ref s0, .int (nI 6), .int (nI u)])).length) Slot.unset).toArray = ls at hl ⊢
  have hl : lv_has ls 4 [(0, .ref s0), (1, .int (nI 6)), (2, .int (nI u))] := hl
  refine lv_aload_n hx hb dX2_releaseJob_0 rfl (lv_at hl 0 rfl) ?_
  refine va_get (D := (dC, dI)) (ci := 2) (v := .ref (z 0)) (C := RX2) (T := TX2) (N := 15) hx hb hts hin2 hown hK hP 0 rfl rfl 0 (by decide) f_12 (fun _ h9 => h9) rfl dX2_releaseJob_1 ?_
  refine lv_iload_n hx hb dX2_releaseJob_4 rfl (lv_at hl 1 rfl) ?_
  refine vp_callSi (va_runV (As := [.int (nI 6)]) (rest := []) ⟨hx, hb, hml, hown, hts⟩ (c_X0_hasHighBudget l dC dI cy (z 0) bq G (nI n) sc  6 (by omega)) (cwV 1 hts gX2_releaseJob_X0_hasHighBudget rfl rfl rfl (by decide +kernel) ⟨Nat.le_of_ble_eq_true rfl, Nat.le_of_ble_eq_true rfl⟩) ⟨bl_ro, va_recv hK (hP.sub (ws' := wCfg cy (z 0) bq G (nI n) sc) [1, 2, 3, 4, 5, 6, 7, 8] rfl) (ci := 0) (q0 := 0) rfl rfl, pr_ro (hP.sub (ws' := wCfg cy (z 0) bq G (nI n) sc) [1, 2, 3, 4, 5, 6, 7, 8] rfl) hE⟩ rfl rfl hl.1 rfl (lv_room (Nat.le_of_ble_eq_true rfl)) dX2_releaseJob_5 ⟨Nat.le_of_ble_eq_true rfl, Nat.le_of_ble_eq_true rfl⟩).run (fun r e_r => ?_)
  subst e_r
  refine lv_if_eq (tgt := 22) hx hb dX2_releaseJob_8 (by decide) (fun c_8 => ?_) (fun c_8 => ?_)
  · refine lv_iconst (v := 0) hx hb dX2_releaseJob_22 (by decide) ?_
    refine lv_istore_n (lv' := [(3, .int 0), (0, .ref s0), (1, .int (nI 6)), (2, .int (nI u))]) hx hb dX2_releaseJob_23 rfl hl (by decide) rfl (fun ls hl => ?_)
    refine lv_aload_n hx hb dX2_releaseJob_24 rfl (lv_at hl 1 rfl) ?_
    refine va_get (D := (dC, dI)) (ci := 2) (v := .ref (z 4)) (C := RX2) (T := TX2) (N := 15) hx hb hts hin2 hown hK hP 0 rfl rfl 4 (by decide) f_30 (fun _ h9 => h9) rfl dX2_releaseJob_25 ?_
    refine lv_iload_n hx hb dX2_releaseJob_28 rfl (lv_at hl 2 rfl) ?_
    refine wB_ald (q := (rt 6)) hx hb hK hP 12 2 rfl rfl 6 rfl (by omega) (by decide) rfl dX2_releaseJob_29 ?_
    refine lv_iload_n hx hb dX2_releaseJob_30 rfl (lv_at hl 3 rfl) ?_
    refine lv_iload_n hx hb dX2_releaseJob_31 rfl (lv_at hl 0 rfl) ?_
    refine lv_if_eq (tgt := 47) hx hb dX2_releaseJob_32 (by decide) (fun _ => ?_) (fun h0 => absurd h0 (by decide))
    refine lv_aload_n hx hb dX2_releaseJob_47 rfl (lv_at hl 1 rfl) ?_
    refine va_get (D := (dC, dI)) (ci := 2) (v := .ref (z 0)) (C := RX2) (T := TX2) (N := 15) hx hb hts hin2 hown hK hP 0 rfl rfl 0 (by decide) f_12 (fun _ h9 => h9) rfl dX2_releaseJob_48 ?_
    refine va_getN (D := (dC, dI)) (ci := 0) (v := .ref (bq 2)) (C := RX0) (T := TX0) (N := 9) hx hb hts hin0 hown hK hP 1 rfl rfl 2 (by decide) f_113 (fun _ h9 => h9) rfl dX2_releaseJob_51 ?_
    refine lv_iload_n hx hb dX2_releaseJob_54 rfl (lv_at hl 2 rfl) ?_
    refine wI_alv (v := G 2 6) hx hb hK hP 4 0 rfl rfl 6 rfl (by omega) (by decide) rfl dX2_releaseJob_55 ?_
    refine wI_ast hx hb hK hP hD hS 20 0 rfl rfl u rfl (by omega) (by decide) dX2_releaseJob_56 (fun H locs hP hD hS => ?_)
    have hP : va_P (dC, dI) vwCl (wSim s0 z M ++ (wCfg cy (z 0) bq G (nI n) sc ++ (wArr cy z rt Q (up2 T 6 u (G 2 6))))) H := hP
    have hD : va_D A (wSim s0 z M ++ (wCfg cy (z 0) bq G (nI n) sc ++ (wArr cy z rt Q (up2 T 6 u (G 2 6))))) := hD
    refine lv_aload_n hx hb dX2_releaseJob_57 rfl (lv_at hl 1 rfl) ?_
    refine va_get (D := (dC, dI)) (ci := 2) (v := .ref (z 1)) (C := RX2) (T := TX2) (N := 15) hx hb hts hin2 hown hK hP 0 rfl rfl 1 (by decide) f_18 (fun _ h9 => h9) rfl dX2_releaseJob_58 ?_
    refine lv_iload_n hx hb dX2_releaseJob_61 rfl (lv_at hl 2 rfl) ?_
    refine wI_alv (v := Q 1 6) hx hb hK hP 9 0 rfl rfl 6 rfl (by omega) (by decide) rfl dX2_releaseJob_62 ?_
    refine lv_if_ne (tgt := 80) hx hb dX2_releaseJob_63 (by decide) (fun c_63 => ?_) (fun c_63 => ?_)
    · refine lv_aload_n hx hb dX2_releaseJob_80 rfl (lv_at hl 1 rfl) ?_
      refine va_get (D := (dC, dI)) (ci := 2) (v := .ref (z 1)) (C := RX2) (T := TX2) (N := 15) hx hb hts hin2 hown hK hP 0 rfl rfl 1 (by decide) f_18 (fun _ h9 => h9) rfl dX2_releaseJob_81 ?_
      refine lv_iload_n hx hb dX2_releaseJob_84 rfl (lv_at hl 2 rfl) ?_
      refine lv_dup2_11 hx hb dX2_releaseJob_85 rfl rfl ?_
      refine wI_alv (v := Q 1 6) hx hb hK hP 9 0 rfl rfl 6 rfl (by omega) (by decide) rfl dX2_releaseJob_86 ?_
      refine lv_iconst (v := 1) hx hb dX2_releaseJob_87 (by decide) ?_
      refine lv_iadd hx hb dX2_releaseJob_88 ?_
      refine wI_ast hx hb hK hP hD hS 9 0 rfl rfl 6 rfl (by omega) (by decide) dX2_releaseJob_89 (fun H locs hP hD hS => ?_)
      have hP : va_P (dC, dI) vwCl (wSim s0 z M ++ (wCfg cy (z 0) bq G (nI n) sc ++ (wArr cy z rt (up2 Q 1 6 ((Q 1 6) + 1)) (up2 T 6 u (G 2 6))))) H := hP
      have hD : va_D A (wSim s0 z M ++ (wCfg cy (z 0) bq G (nI n) sc ++ (wArr cy z rt (up2 Q 1 6 ((Q 1 6) + 1)) (up2 T 6 u (G 2 6))))) := hD
      have hP9 : va_P (dC, dI) vwCl (wSim s0 z M ++ (wCfg cy (z 0) bq G (nI n) sc ++ (wArr cy z rt (up2 Q 1 6 ((Q 1 6) + 1)) (up2 T 6 u (G 2 6))))) H := hP
      have hD9 : va_D A (wSim s0 z M ++ (wCfg cy (z 0) bq G (nI n) sc ++ (wArr cy z rt (up2 Q 1 6 ((Q 1 6) + 1)) (up2 T 6 u (G 2 6))))) := hD
      exact W.vret hx hb hr (fun t ht hW => ⟨⟨(M, up2 Q 1 6 ((Q 1 6) + 1), up2 T 6 u (G 2 6)), rfl, (by simp only [relJ]; rw [drM, if_pos (b01.mp c_8), nds, if_pos (b01.mp c_8), relQ, if_neg c_63]), by rw [ht]; exact hP9, hD9⟩, hS.F ht⟩) hS.2.2 dX2_releaseJob_90
    · refine lv_aload_n hx hb dX2_releaseJob_66 rfl (lv_at hl 1 rfl) ?_
      refine va_get (D := (dC, dI)) (ci := 2) (v := .ref (z 2)) (C := RX2) (T := TX2) (N := 15) hx hb hts hin2 hown hK hP 0 rfl rfl 2 (by decide) f_22 (fun _ h9 => h9) rfl dX2_releaseJob_67 ?_
      refine lv_iload_n hx hb dX2_releaseJob_70 rfl (lv_at hl 2 rfl) ?_
      refine lv_iload_n hx hb dX2_releaseJob_71 rfl (lv_at hl 3 rfl) ?_
      refine wI_ast hx hb hK hP hD hS 10 0 rfl rfl 6 rfl (by omega) (by decide) dX2_releaseJob_72 (fun H locs hP hD hS => ?_)
      have hP : va_P (dC, dI) vwCl (wSim s0 z M ++ (wCfg cy (z 0) bq G (nI n) sc ++ (wArr cy z rt (up2 Q 2 6 (nI u)) (up2 T 6 u (G 2 6))))) H := hP
      have hD : va_D A (wSim s0 z M ++ (wCfg cy (z 0) bq G (nI n) sc ++ (wArr cy z rt (up2 Q 2 6 (nI u)) (up2 T 6 u (G 2 6))))) := hD
      refine lv_aload_n hx hb dX2_releaseJob_73 rfl (lv_at hl 1 rfl) ?_
      refine va_get (D := (dC, dI)) (ci := 2) (v := .ref (z 3)) (C := RX2) (T := TX2) (N := 15) hx hb hts hin2 hown hK hP 0 rfl rfl 3 (by decide) f_25 (fun _ h9 => h9) rfl dX2_releaseJob_74 ?_
      refine lv_iload_n hx hb dX2_releaseJob_77 rfl (lv_at hl 2 rfl) ?_
      refine lv_iconst (v := 0) hx hb dX2_releaseJob_78 (by decide) ?_
      refine wI_ast hx hb hK hP hD hS 11 0 rfl rfl 6 rfl (by omega) (by decide) dX2_releaseJob_79 (fun H locs hP hD hS => ?_)
      have hP : va_P (dC, dI) vwCl (wSim s0 z M ++ (wCfg cy (z 0) bq G (nI n) sc ++ (wArr cy z rt (up2 (up2 Q 2 6 (nI u)) 3 6 0) (up2 T 6 u (G 2 6))))) H := hP
      have hD : va_D A (wSim s0 z M ++ (wCfg cy (z 0) bq G (nI n) sc ++ (wArr cy z rt (up2 (up2 Q 2 6 (nI u)) 3 6 0) (up2 T 6 u (G 2 6))))) := hD
      refine lv_aload_n hx hb dX2_releaseJob_80 rfl (lv_at hl 1 rfl) ?_
      refine va_get (D := (dC, dI)) (ci := 2) (v := .ref (z 1)) (C := RX2) (T := TX2) (N := 15) hx hb hts hin2 hown hK hP 0 rfl rfl 1 (by decide) f_18 (fun _ h9 => h9) rfl dX2_releaseJob_81 ?_
      refine lv_iload_n hx hb dX2_releaseJob_84 rfl (lv_at hl 2 rfl) ?_
      refine lv_dup2_11 hx hb dX2_releaseJob_85 rfl rfl ?_
      refine wI_alv (v := Q 1 6) hx hb hK hP 9 0 rfl rfl 6 rfl (by omega) (by decide) rfl dX2_releaseJob_86 ?_
      refine lv_iconst (v := 1) hx hb dX2_releaseJob_87 (by decide) ?_
      refine lv_iadd hx hb dX2_releaseJob_88 ?_
      refine wI_ast hx hb hK hP hD hS 9 0 rfl rfl 6 rfl (by omega) (by decide) dX2_releaseJob_89 (fun H locs hP hD hS => ?_)
      have hP : va_P (dC, dI) vwCl (wSim s0 z M ++ (wCfg cy (z 0) bq G (nI n) sc ++ (wArr cy z rt (up2 (up2 (up2 Q 2 6 (nI u)) 3 6 0) 1 6 ((Q 1 6) + 1)) (up2 T 6 u (G 2 6))))) H := hP
      have hD : va_D A (wSim s0 z M ++ (wCfg cy (z 0) bq G (nI n) sc ++ (wArr cy z rt (up2 (up2 (up2 Q 2 6 (nI u)) 3 6 0) 1 6 ((Q 1 6) + 1)) (up2 T 6 u (G 2 6))))) := hD
      have hP9 : va_P (dC, dI) vwCl (wSim s0 z M ++ (wCfg cy (z 0) bq G (nI n) sc ++ (wArr cy z rt (up2 (up2 (up2 Q 2 6 (nI u)) 3 6 0) 1 6 ((Q 1 6) + 1)) (up2 T 6 u (G 2 6))))) H := hP
      have hD9 : va_D A (wSim s0 z M ++ (wCfg cy (z 0) bq G (nI n) sc ++ (wArr cy z rt (up2 (up2 (up2 Q 2 6 (nI u)) 3 6 0) 1 6 ((Q 1 6) + 1)) (up2 T 6 u (G 2 6))))) := hD
      exact W.vret hx hb hr (fun t ht hW => ⟨⟨(M, up2 (up2 (up2 Q 2 6 (nI u)) 3 6 0) 1 6 ((Q 1 6) + 1), up2 T 6 u (G 2 6)), rfl, (by simp only [relJ]; rw [drM, if_pos (b01.mp c_8), nds, if_pos (b01.mp c_8), relQ, if_pos c_63]), by rw [ht]; exact hP9, hD9⟩, hS.F ht⟩) hS.2.2 dX2_releaseJob_90
  · refine lv_aload_n hx hb dX2_releaseJob_11 rfl (lv_at hl 0 rfl) ?_
    have hPc := hP.sub (ws' := wSim s0 z M) [0] rfl
    have hDc := hD.sub (ws' := wSim s0 z M) [0] (by decide) rfl
    have hFc := va_free (wc := wSim s0 z M) hD hS hA [0] rfl
    refine va_calli (va_runV (As := []) (rest := []) ⟨hx, hb, hml, hown, hts⟩ (c_X2_drawOverrun l dC dI cy s.heap.size s0 z M) (cwV 0 hts gX2_releaseJob_X2_drawOverrun rfl rfl rfl (by decide +kernel) ⟨Nat.le_of_ble_eq_true rfl, Nat.le_of_ble_eq_true rfl⟩) ⟨bl_in, va_recv hK hPc (ci := 2) (q0 := 0) rfl rfl, pr_in hPc hE hDc⟩ rfl rfl hl.1 rfl (lv_room (Nat.le_of_ble_eq_true rfl)) dX2_releaseJob_12 ⟨Nat.le_of_ble_eq_true rfl, Nat.le_of_ble_eq_true rfl⟩) hS (fun q _ h => hFc q h) hFc (fun r u t H1 locs ht hvm hw hB hz1 hk1 hS => ?_)
    obtain ⟨rfl, rfl⟩ := hw
    obtain ⟨hP1, hD1⟩ := hB
    rw [ht] at hP1
    obtain ⟨hP, hD⟩ := va_join (wr := wCfg cy (z 0) bq G (nI n) sc ++ (wArr cy z rt Q T)) (w1 := wSim s0 z (upd M 7 (drw (M 7)))) hP hD [0] [1, 2, 3, 4, 5, 6, 7, 8, 9, 10, 11, 12, 13, 14, 15, 16, 17, 18, 19, 20, 21] rfl rfl (by decide) (by decide) hk1 hFc hP1 hD1
    have hP : va_P (dC, dI) vwCl (wSim s0 z (upd M 7 (drw (M 7))) ++ (wCfg cy (z 0) bq G (nI n) sc ++ (wArr cy z rt Q T))) H1 := hP.sub [21, 0, 1, 2, 3, 4, 5, 6, 7, 8, 9, 10, 11, 12, 13, 14, 15, 16, 17, 18, 19, 20] rfl
    have hD : va_D A (wSim s0 z (upd M 7 (drw (M 7))) ++ (wCfg cy (z 0) bq G (nI n) sc ++ (wArr cy z rt Q T))) := hD.sub [21, 0, 1, 2, 3, 4, 5, 6, 7, 8, 9, 10, 11, 12, 13, 14, 15, 16, 17, 18, 19, 20] (by decide) rfl
    clear hz1 hk1 hPc hDc hFc hP1 hD1
    generalize H1 = H at hP hS ⊢
    refine lv_topi (fun y_ ey_ => ?_)
    obtain rfl : y_ = if ovr (drw (M 7)) (M 8) then 1 else 0 := ey_
    refine lv_if_eq (tgt := 22) hx hb dX2_releaseJob_15 (by decide) (fun c_15 => ?_) (fun c_15 => ?_)
    · refine lv_iconst (v := 0) hx hb dX2_releaseJob_22 (by decide) ?_
      refine lv_istore_n (lv' := [(3, .int 0), (0, .ref s0), (1, .int (nI 6)), (2, .int (nI u))]) hx hb dX2_releaseJob_23 rfl hl (by decide) rfl (fun ls hl => ?_)
      refine lv_aload_n hx hb dX2_releaseJob_24 rfl (lv_at hl 1 rfl) ?_
      refine va_get (D := (dC, dI)) (ci := 2) (v := .ref (z 4)) (C := RX2) (T := TX2) (N := 15) hx hb hts hin2 hown hK hP 0 rfl rfl 4 (by decide) f_30 (fun _ h9 => h9) rfl dX2_releaseJob_25 ?_
      refine lv_iload_n hx hb dX2_releaseJob_28 rfl (lv_at hl 2 rfl) ?_
      refine wB_ald (q := (rt 6)) hx hb hK hP 12 2 rfl rfl 6 rfl (by omega) (by decide) rfl dX2_releaseJob_29 ?_
      refine lv_iload_n hx hb dX2_releaseJob_30 rfl (lv_at hl 3 rfl) ?_
      refine lv_iload_n hx hb dX2_releaseJob_31 rfl (lv_at hl 0 rfl) ?_
      refine lv_if_eq (tgt := 47) hx hb dX2_releaseJob_32 (by decide) (fun _ => ?_) (fun h0 => absurd h0 (by decide))
      refine lv_aload_n hx hb dX2_releaseJob_47 rfl (lv_at hl 1 rfl) ?_
      refine va_get (D := (dC, dI)) (ci := 2) (v := .ref (z 0)) (C := RX2) (T := TX2) (N := 15) hx hb hts hin2 hown hK hP 0 rfl rfl 0 (by decide) f_12 (fun _ h9 => h9) rfl dX2_releaseJob_48 ?_
      refine va_getN (D := (dC, dI)) (ci := 0) (v := .ref (bq 2)) (C := RX0) (T := TX0) (N := 9) hx hb hts hin0 hown hK hP 1 rfl rfl 2 (by decide) f_113 (fun _ h9 => h9) rfl dX2_releaseJob_51 ?_
      refine lv_iload_n hx hb dX2_releaseJob_54 rfl (lv_at hl 2 rfl) ?_
      refine wI_alv (v := G 2 6) hx hb hK hP 4 0 rfl rfl 6 rfl (by omega) (by decide) rfl dX2_releaseJob_55 ?_
      refine wI_ast hx hb hK hP hD hS 20 0 rfl rfl u rfl (by omega) (by decide) dX2_releaseJob_56 (fun H locs hP hD hS => ?_)
      have hP : va_P (dC, dI) vwCl (wSim s0 z (upd M 7 (drw (M 7))) ++ (wCfg cy (z 0) bq G (nI n) sc ++ (wArr cy z rt Q (up2 T 6 u (G 2 6))))) H := hP
      have hD : va_D A (wSim s0 z (upd M 7 (drw (M 7))) ++ (wCfg cy (z 0) bq G (nI n) sc ++ (wArr cy z rt Q (up2 T 6 u (G 2 6))))) := hD
      refine lv_aload_n hx hb dX2_releaseJob_57 rfl (lv_at hl 1 rfl) ?_
      refine va_get (D := (dC, dI)) (ci := 2) (v := .ref (z 1)) (C := RX2) (T := TX2) (N := 15) hx hb hts hin2 hown hK hP 0 rfl rfl 1 (by decide) f_18 (fun _ h9 => h9) rfl dX2_releaseJob_58 ?_
      refine lv_iload_n hx hb dX2_releaseJob_61 rfl (lv_at hl 2 rfl) ?_
      refine wI_alv (v := Q 1 6) hx hb hK hP 9 0 rfl rfl 6 rfl (by omega) (by decide) rfl dX2_releaseJob_62 ?_
      refine lv_if_ne (tgt := 80) hx hb dX2_releaseJob_63 (by decide) (fun c_63 => ?_) (fun c_63 => ?_)
      · refine lv_aload_n hx hb dX2_releaseJob_80 rfl (lv_at hl 1 rfl) ?_
        refine va_get (D := (dC, dI)) (ci := 2) (v := .ref (z 1)) (C := RX2) (T := TX2) (N := 15) hx hb hts hin2 hown hK hP 0 rfl rfl 1 (by decide) f_18 (fun _ h9 => h9) rfl dX2_releaseJob_81 ?_
        refine lv_iload_n hx hb dX2_releaseJob_84 rfl (lv_at hl 2 rfl) ?_
        refine lv_dup2_11 hx hb dX2_releaseJob_85 rfl rfl ?_
        refine wI_alv (v := Q 1 6) hx hb hK hP 9 0 rfl rfl 6 rfl (by omega) (by decide) rfl dX2_releaseJob_86 ?_
        refine lv_iconst (v := 1) hx hb dX2_releaseJob_87 (by decide) ?_
        refine lv_iadd hx hb dX2_releaseJob_88 ?_
        refine wI_ast hx hb hK hP hD hS 9 0 rfl rfl 6 rfl (by omega) (by decide) dX2_releaseJob_89 (fun H locs hP hD hS => ?_)
        have hP : va_P (dC, dI) vwCl (wSim s0 z (upd M 7 (drw (M 7))) ++ (wCfg cy (z 0) bq G (nI n) sc ++ (wArr cy z rt (up2 Q 1 6 ((Q 1 6) + 1)) (up2 T 6 u (G 2 6))))) H := hP
        have hD : va_D A (wSim s0 z (upd M 7 (drw (M 7))) ++ (wCfg cy (z 0) bq G (nI n) sc ++ (wArr cy z rt (up2 Q 1 6 ((Q 1 6) + 1)) (up2 T 6 u (G 2 6))))) := hD
        have hP9 : va_P (dC, dI) vwCl (wSim s0 z (upd M 7 (drw (M 7))) ++ (wCfg cy (z 0) bq G (nI n) sc ++ (wArr cy z rt (up2 Q 1 6 ((Q 1 6) + 1)) (up2 T 6 u (G 2 6))))) H := hP
        have hD9 : va_D A (wSim s0 z (upd M 7 (drw (M 7))) ++ (wCfg cy (z 0) bq G (nI n) sc ++ (wArr cy z rt (up2 Q 1 6 ((Q 1 6) + 1)) (up2 T 6 u (G 2 6))))) := hD
        exact W.vret hx hb hr (fun t ht hW => ⟨⟨(upd M 7 (drw (M 7)), up2 Q 1 6 ((Q 1 6) + 1), up2 T 6 u (G 2 6)), rfl, (by simp only [relJ]; rw [drM, if_neg (fun h => c_8 (b01.mpr h)), nds, if_neg (fun h => c_8 (b01.mpr h)), if_neg (b10.mp c_15), relQ, if_neg c_63]), by rw [ht]; exact hP9, hD9⟩, hS.F ht⟩) hS.2.2 dX2_releaseJob_90
      · refine lv_aload_n hx hb dX2_releaseJob_66 rfl (lv_at hl 1 rfl) ?_
        refine va_get (D := (dC, dI)) (ci := 2) (v := .ref (z 2)) (C := RX2) (T := TX2) (N := 15) hx hb hts hin2 hown hK hP 0 rfl rfl 2 (by decide) f_22 (fun _ h9 => h9) rfl dX2_releaseJob_67 ?_
        refine lv_iload_n hx hb dX2_releaseJob_70 rfl (lv_at hl 2 rfl) ?_
        refine lv_iload_n hx hb dX2_releaseJob_71 rfl (lv_at hl 3 rfl) ?_
        refine wI_ast hx hb hK hP hD hS 10 0 rfl rfl 6 rfl (by omega) (by decide) dX2_releaseJob_72 (fun H locs hP hD hS => ?_)
        have hP : va_P (dC, dI) vwCl (wSim s0 z (upd M 7 (drw (M 7))) ++ (wCfg cy (z 0) bq G (nI n) sc ++ (wArr cy z rt (up2 Q 2 6 (nI u)) (up2 T 6 u (G 2 6))))) H := hP
        have hD : va_D A (wSim s0 z (upd M 7 (drw (M 7))) ++ (wCfg cy (z 0) bq G (nI n) sc ++ (wArr cy z rt (up2 Q 2 6 (nI u)) (up2 T 6 u (G 2 6))))) := hD
        refine lv_aload_n hx hb dX2_releaseJob_73 rfl (lv_at hl 1 rfl) ?_
        refine va_get (D := (dC, dI)) (ci := 2) (v := .ref (z 3)) (C := RX2) (T := TX2) (N := 15) hx hb hts hin2 hown hK hP 0 rfl rfl 3 (by decide) f_25 (fun _ h9 => h9) rfl dX2_releaseJob_74 ?_
        refine lv_iload_n hx hb dX2_releaseJob_77 rfl (lv_at hl 2 rfl) ?_
        refine lv_iconst (v := 0) hx hb dX2_releaseJob_78 (by decide) ?_
        refine wI_ast hx hb hK hP hD hS 11 0 rfl rfl 6 rfl (by omega) (by decide) dX2_releaseJob_79 (fun H locs hP hD hS => ?_)
        have hP : va_P (dC, dI) vwCl (wSim s0 z (upd M 7 (drw (M 7))) ++ (wCfg cy (z 0) bq G (nI n) sc ++ (wArr cy z rt (up2 (up2 Q 2 6 (nI u)) 3 6 0) (up2 T 6 u (G 2 6))))) H := hP
        have hD : va_D A (wSim s0 z (upd M 7 (drw (M 7))) ++ (wCfg cy (z 0) bq G (nI n) sc ++ (wArr cy z rt (up2 (up2 Q 2 6 (nI u)) 3 6 0) (up2 T 6 u (G 2 6))))) := hD
        refine lv_aload_n hx hb dX2_releaseJob_80 rfl (lv_at hl 1 rfl) ?_
        refine va_get (D := (dC, dI)) (ci := 2) (v := .ref (z 1)) (C := RX2) (T := TX2) (N := 15) hx hb hts hin2 hown hK hP 0 rfl rfl 1 (by decide) f_18 (fun _ h9 => h9) rfl dX2_releaseJob_81 ?_
        refine lv_iload_n hx hb dX2_releaseJob_84 rfl (lv_at hl 2 rfl) ?_
        refine lv_dup2_11 hx hb dX2_releaseJob_85 rfl rfl ?_
        refine wI_alv (v := Q 1 6) hx hb hK hP 9 0 rfl rfl 6 rfl (by omega) (by decide) rfl dX2_releaseJob_86 ?_
        refine lv_iconst (v := 1) hx hb dX2_releaseJob_87 (by decide) ?_
        refine lv_iadd hx hb dX2_releaseJob_88 ?_
        refine wI_ast hx hb hK hP hD hS 9 0 rfl rfl 6 rfl (by omega) (by decide) dX2_releaseJob_89 (fun H locs hP hD hS => ?_)
        have hP : va_P (dC, dI) vwCl (wSim s0 z (upd M 7 (drw (M 7))) ++ (wCfg cy (z 0) bq G (nI n) sc ++ (wArr cy z rt (up2 (up2 (up2 Q 2 6 (nI u)) 3 6 0) 1 6 ((Q 1 6) + 1)) (up2 T 6 u (G 2 6))))) H := hP
        have hD : va_D A (wSim s0 z (upd M 7 (drw (M 7))) ++ (wCfg cy (z 0) bq G (nI n) sc ++ (wArr cy z rt (up2 (up2 (up2 Q 2 6 (nI u)) 3 6 0) 1 6 ((Q 1 6) + 1)) (up2 T 6 u (G 2 6))))) := hD
        have hP9 : va_P (dC, dI) vwCl (wSim s0 z (upd M 7 (drw (M 7))) ++ (wCfg cy (z 0) bq G (nI n) sc ++ (wArr cy z rt (up2 (up2 (up2 Q 2 6 (nI u)) 3 6 0) 1 6 ((Q 1 6) + 1)) (up2 T 6 u (G 2 6))))) H := hP
        have hD9 : va_D A (wSim s0 z (upd M 7 (drw (M 7))) ++ (wCfg cy (z 0) bq G (nI n) sc ++ (wArr cy z rt (up2 (up2 (up2 Q 2 6 (nI u)) 3 6 0) 1 6 ((Q 1 6) + 1)) (up2 T 6 u (G 2 6))))) := hD
        exact W.vret hx hb hr (fun t ht hW => ⟨⟨(upd M 7 (drw (M 7)), up2 (up2 (up2 Q 2 6 (nI u)) 3 6 0) 1 6 ((Q 1 6) + 1), up2 T 6 u (G 2 6)), rfl, (by simp only [relJ]; rw [drM, if_neg (fun h => c_8 (b01.mpr h)), nds, if_neg (fun h => c_8 (b01.mpr h)), if_neg (b10.mp c_15), relQ, if_pos c_63]), by rw [ht]; exact hP9, hD9⟩, hS.F ht⟩) hS.2.2 dX2_releaseJob_90
    · refine lv_iconst (v := 1) hx hb dX2_releaseJob_18 (by decide) ?_
      refine lv_goto (tgt := 23) hx hb dX2_releaseJob_19 (by decide) ?_
      refine lv_istore_n (lv' := [(3, .int 1), (0, .ref s0), (1, .int (nI 6)), (2, .int (nI u))]) hx hb dX2_releaseJob_23 rfl hl (by decide) rfl (fun ls hl => ?_)
      refine lv_aload_n hx hb dX2_releaseJob_24 rfl (lv_at hl 1 rfl) ?_
      refine va_get (D := (dC, dI)) (ci := 2) (v := .ref (z 4)) (C := RX2) (T := TX2) (N := 15) hx hb hts hin2 hown hK hP 0 rfl rfl 4 (by decide) f_30 (fun _ h9 => h9) rfl dX2_releaseJob_25 ?_
      refine lv_iload_n hx hb dX2_releaseJob_28 rfl (lv_at hl 2 rfl) ?_
      refine wB_ald (q := (rt 6)) hx hb hK hP 12 2 rfl rfl 6 rfl (by omega) (by decide) rfl dX2_releaseJob_29 ?_
      refine lv_iload_n hx hb dX2_releaseJob_30 rfl (lv_at hl 3 rfl) ?_
      refine lv_iload_n hx hb dX2_releaseJob_31 rfl (lv_at hl 0 rfl) ?_
      refine lv_if_eq (tgt := 47) hx hb dX2_releaseJob_32 (by decide) (fun h0 => absurd h0 (by decide)) (fun _ => ?_)
      refine lv_aload_n hx hb dX2_releaseJob_35 rfl (lv_at hl 1 rfl) ?_
      refine va_get (D := (dC, dI)) (ci := 2) (v := .ref (z 0)) (C := RX2) (T := TX2) (N := 15) hx hb hts hin2 hown hK hP 0 rfl rfl 0 (by decide) f_12 (fun _ h9 => h9) rfl dX2_releaseJob_36 ?_
      refine va_getN (D := (dC, dI)) (ci := 0) (v := .ref (bq 3)) (C := RX0) (T := TX0) (N := 9) hx hb hts hin0 hown hK hP 1 rfl rfl 3 (by decide) f_110 (fun _ h9 => h9) rfl dX2_releaseJob_39 ?_
      refine lv_iload_n hx hb dX2_releaseJob_42 rfl (lv_at hl 2 rfl) ?_
      refine wI_alv (v := G 3 6) hx hb hK hP 5 0 rfl rfl 6 rfl (by omega) (by decide) rfl dX2_releaseJob_43 ?_
      refine lv_goto (tgt := 56) hx hb dX2_releaseJob_44 (by decide) ?_
      refine wI_ast hx hb hK hP hD hS 20 0 rfl rfl u rfl (by omega) (by decide) dX2_releaseJob_56 (fun H locs hP hD hS => ?_)
      have hP : va_P (dC, dI) vwCl (wSim s0 z (upd M 7 (drw (M 7))) ++ (wCfg cy (z 0) bq G (nI n) sc ++ (wArr cy z rt Q (up2 T 6 u (G 3 6))))) H := hP
      have hD : va_D A (wSim s0 z (upd M 7 (drw (M 7))) ++ (wCfg cy (z 0) bq G (nI n) sc ++ (wArr cy z rt Q (up2 T 6 u (G 3 6))))) := hD
      refine lv_aload_n hx hb dX2_releaseJob_57 rfl (lv_at hl 1 rfl) ?_
      refine va_get (D := (dC, dI)) (ci := 2) (v := .ref (z 1)) (C := RX2) (T := TX2) (N := 15) hx hb hts hin2 hown hK hP 0 rfl rfl 1 (by decide) f_18 (fun _ h9 => h9) rfl dX2_releaseJob_58 ?_
      refine lv_iload_n hx hb dX2_releaseJob_61 rfl (lv_at hl 2 rfl) ?_
      refine wI_alv (v := Q 1 6) hx hb hK hP 9 0 rfl rfl 6 rfl (by omega) (by decide) rfl dX2_releaseJob_62 ?_
      refine lv_if_ne (tgt := 80) hx hb dX2_releaseJob_63 (by decide) (fun c_63 => ?_) (fun c_63 => ?_)
      · refine lv_aload_n hx hb dX2_releaseJob_80 rfl (lv_at hl 1 rfl) ?_
        refine va_get (D := (dC, dI)) (ci := 2) (v := .ref (z 1)) (C := RX2) (T := TX2) (N := 15) hx hb hts hin2 hown hK hP 0 rfl rfl 1 (by decide) f_18 (fun _ h9 => h9) rfl dX2_releaseJob_81 ?_
        refine lv_iload_n hx hb dX2_releaseJob_84 rfl (lv_at hl 2 rfl) ?_
        refine lv_dup2_11 hx hb dX2_releaseJob_85 rfl rfl ?_
        refine wI_alv (v := Q 1 6) hx hb hK hP 9 0 rfl rfl 6 rfl (by omega) (by decide) rfl dX2_releaseJob_86 ?_
        refine lv_iconst (v := 1) hx hb dX2_releaseJob_87 (by decide) ?_
        refine lv_iadd hx hb dX2_releaseJob_88 ?_
        refine wI_ast hx hb hK hP hD hS 9 0 rfl rfl 6 rfl (by omega) (by decide) dX2_releaseJob_89 (fun H locs hP hD hS => ?_)
        have hP : va_P (dC, dI) vwCl (wSim s0 z (upd M 7 (drw (M 7))) ++ (wCfg cy (z 0) bq G (nI n) sc ++ (wArr cy z rt (up2 Q 1 6 ((Q 1 6) + 1)) (up2 T 6 u (G 3 6))))) H := hP
        have hD : va_D A (wSim s0 z (upd M 7 (drw (M 7))) ++ (wCfg cy (z 0) bq G (nI n) sc ++ (wArr cy z rt (up2 Q 1 6 ((Q 1 6) + 1)) (up2 T 6 u (G 3 6))))) := hD
        have hP9 : va_P (dC, dI) vwCl (wSim s0 z (upd M 7 (drw (M 7))) ++ (wCfg cy (z 0) bq G (nI n) sc ++ (wArr cy z rt (up2 Q 1 6 ((Q 1 6) + 1)) (up2 T 6 u (G 3 6))))) H := hP
        have hD9 : va_D A (wSim s0 z (upd M 7 (drw (M 7))) ++ (wCfg cy (z 0) bq G (nI n) sc ++ (wArr cy z rt (up2 Q 1 6 ((Q 1 6) + 1)) (up2 T 6 u (G 3 6))))) := hD
        exact W.vret hx hb hr (fun t ht hW => ⟨⟨(upd M 7 (drw (M 7)), up2 Q 1 6 ((Q 1 6) + 1), up2 T 6 u (G 3 6)), rfl, (by simp only [relJ]; rw [drM, if_neg (fun h => c_8 (b01.mpr h)), nds, if_neg (fun h => c_8 (b01.mpr h)), if_pos (nb10 c_15), relQ, if_neg c_63]), by rw [ht]; exact hP9, hD9⟩, hS.F ht⟩) hS.2.2 dX2_releaseJob_90
      · refine lv_aload_n hx hb dX2_releaseJob_66 rfl (lv_at hl 1 rfl) ?_
        refine va_get (D := (dC, dI)) (ci := 2) (v := .ref (z 2)) (C := RX2) (T := TX2) (N := 15) hx hb hts hin2 hown hK hP 0 rfl rfl 2 (by decide) f_22 (fun _ h9 => h9) rfl dX2_releaseJob_67 ?_
        refine lv_iload_n hx hb dX2_releaseJob_70 rfl (lv_at hl 2 rfl) ?_
        refine lv_iload_n hx hb dX2_releaseJob_71 rfl (lv_at hl 3 rfl) ?_
        refine wI_ast hx hb hK hP hD hS 10 0 rfl rfl 6 rfl (by omega) (by decide) dX2_releaseJob_72 (fun H locs hP hD hS => ?_)
        have hP : va_P (dC, dI) vwCl (wSim s0 z (upd M 7 (drw (M 7))) ++ (wCfg cy (z 0) bq G (nI n) sc ++ (wArr cy z rt (up2 Q 2 6 (nI u)) (up2 T 6 u (G 3 6))))) H := hP
        have hD : va_D A (wSim s0 z (upd M 7 (drw (M 7))) ++ (wCfg cy (z 0) bq G (nI n) sc ++ (wArr cy z rt (up2 Q 2 6 (nI u)) (up2 T 6 u (G 3 6))))) := hD
        refine lv_aload_n hx hb dX2_releaseJob_73 rfl (lv_at hl 1 rfl) ?_
        refine va_get (D := (dC, dI)) (ci := 2) (v := .ref (z 3)) (C := RX2) (T := TX2) (N := 15) hx hb hts hin2 hown hK hP 0 rfl rfl 3 (by decide) f_25 (fun _ h9 => h9) rfl dX2_releaseJob_74 ?_
        refine lv_iload_n hx hb dX2_releaseJob_77 rfl (lv_at hl 2 rfl) ?_
        refine lv_iconst (v := 0) hx hb dX2_releaseJob_78 (by decide) ?_
        refine wI_ast hx hb hK hP hD hS 11 0 rfl rfl 6 rfl (by omega) (by decide) dX2_releaseJob_79 (fun H locs hP hD hS => ?_)
        have hP : va_P (dC, dI) vwCl (wSim s0 z (upd M 7 (drw (M 7))) ++ (wCfg cy (z 0) bq G (nI n) sc ++ (wArr cy z rt (up2 (up2 Q 2 6 (nI u)) 3 6 0) (up2 T 6 u (G 3 6))))) H := hP
        have hD : va_D A (wSim s0 z (upd M 7 (drw (M 7))) ++ (wCfg cy (z 0) bq G (nI n) sc ++ (wArr cy z rt (up2 (up2 Q 2 6 (nI u)) 3 6 0) (up2 T 6 u (G 3 6))))) := hD
        refine lv_aload_n hx hb dX2_releaseJob_80 rfl (lv_at hl 1 rfl) ?_
        refine va_get (D := (dC, dI)) (ci := 2) (v := .ref (z 1)) (C := RX2) (T := TX2) (N := 15) hx hb hts hin2 hown hK hP 0 rfl rfl 1 (by decide) f_18 (fun _ h9 => h9) rfl dX2_releaseJob_81 ?_
        refine lv_iload_n hx hb dX2_releaseJob_84 rfl (lv_at hl 2 rfl) ?_
        refine lv_dup2_11 hx hb dX2_releaseJob_85 rfl rfl ?_
        refine wI_alv (v := Q 1 6) hx hb hK hP 9 0 rfl rfl 6 rfl (by omega) (by decide) rfl dX2_releaseJob_86 ?_
        refine lv_iconst (v := 1) hx hb dX2_releaseJob_87 (by decide) ?_
        refine lv_iadd hx hb dX2_releaseJob_88 ?_
        refine wI_ast hx hb hK hP hD hS 9 0 rfl rfl 6 rfl (by omega) (by decide) dX2_releaseJob_89 (fun H locs hP hD hS => ?_)
        have hP : va_P (dC, dI) vwCl (wSim s0 z (upd M 7 (drw (M 7))) ++ (wCfg cy (z 0) bq G (nI n) sc ++ (wArr cy z rt (up2 (up2 (up2 Q 2 6 (nI u)) 3 6 0) 1 6 ((Q 1 6) + 1)) (up2 T 6 u (G 3 6))))) H := hP
        have hD : va_D A (wSim s0 z (upd M 7 (drw (M 7))) ++ (wCfg cy (z 0) bq G (nI n) sc ++ (wArr cy z rt (up2 (up2 (up2 Q 2 6 (nI u)) 3 6 0) 1 6 ((Q 1 6) + 1)) (up2 T 6 u (G 3 6))))) := hD
        have hP9 : va_P (dC, dI) vwCl (wSim s0 z (upd M 7 (drw (M 7))) ++ (wCfg cy (z 0) bq G (nI n) sc ++ (wArr cy z rt (up2 (up2 (up2 Q 2 6 (nI u)) 3 6 0) 1 6 ((Q 1 6) + 1)) (up2 T 6 u (G 3 6))))) H := hP
        have hD9 : va_D A (wSim s0 z (upd M 7 (drw (M 7))) ++ (wCfg cy (z 0) bq G (nI n) sc ++ (wArr cy z rt (up2 (up2 (up2 Q 2 6 (nI u)) 3 6 0) 1 6 ((Q 1 6) + 1)) (up2 T 6 u (G 3 6))))) := hD
        exact W.vret hx hb hr (fun t ht hW => ⟨⟨(upd M 7 (drw (M 7)), up2 (up2 (up2 Q 2 6 (nI u)) 3 6 0) 1 6 ((Q 1 6) + 1), up2 T 6 u (G 3 6)), rfl, (by simp only [relJ]; rw [drM, if_neg (fun h => c_8 (b01.mpr h)), nds, if_neg (fun h => c_8 (b01.mpr h)), if_pos (nb10 c_15), relQ, if_pos c_63]), by rw [ht]; exact hP9, hD9⟩, hS.F ht⟩) hS.2.2 dX2_releaseJob_90
set_option maxHeartbeats 1000000 in
set_option maxRecDepth 100000 in
/-- a job of task 7 -/
theorem c_X2_releaseJob_7 (l : Launch) (dC : Nat → ClassId) (dI : Nat → Nat → Nat) (cy : Nat → ClassId) (sz : Nat) (s0 : Nat) (z : Nat → Nat) (M : Nat → Int32) (bq : Nat → Nat) (G : vG) (n : Nat) (hn : n ≤ 8) (sc : Int32) (Q : vG) (rt : Nat → Nat) (T : vG) (u : Nat) (hu : u < 200) : Met l yX2_releaseJob wsX2_releaseJob ({ frames := 1, cells := 0, slots := 0, locals := 21 }) (va_Pc [.ref s0, .int (nI 7), .int (nI u)] (pIn dC dI cy (wSim s0 z M ++ (wCfg cy (z 0) bq G (nI n) sc ++ (wArr cy z rt Q T))) sz)) (va_Qv (fun (u9 : SSt) => u9 = relJ G 7 u (M, Q, T)) (fun (u : SSt) t => va_P (dC, dI) vwCl (wSim s0 z u.1 ++ (wCfg cy (z 0) bq G (nI n) sc ++ (wArr cy z rt u.2.1 u.2.2))) t.heap ∧ va_D (va_A (wSim s0 z M ++ (wCfg cy (z 0) bq G (nI n) sc ++ (wArr cy z rt Q T))) sz) (wSim s0 z u.1 ++ (wCfg cy (z 0) bq G (nI n) sc ++ (wArr cy z rt u.2.1 u.2.2)))) (va_A (wSim s0 z M ++ (wCfg cy (z 0) bq G (nI n) sc ++ (wArr cy z rt Q T))) sz)) 0 0 (va_A (wSim s0 z M ++ (wCfg cy (z 0) bq G (nI n) sc ++ (wArr cy z rt Q T))) sz) := by
  refine Met.ofW (cc := cX2_releaseJob) (maxL := 4) (ret := none) (by decide) rfl ?_
  intro p e s m args below meth c s₁ B hml hv
  obtain ⟨rfl, hsz, hP, hE, hD0⟩ := hv
  have hK := hE.1
  subst hsz
  have hD := hD0.self (sz := s.heap.size)
  generalize hAe : va_A (wSim s0 z M ++ (wCfg cy (z 0) bq G (nI n) sc ++ (wArr cy z rt Q T))) s.heap.size = A at hD ⊢
  have hA : ∀ q : Nat, s.heap.size ≤ q → A q := fun q h => by rw [← hAe]; exact Or.inr h
  have hS : va_S A s.heap s.heap [] := va_S.rf
  have hP : va_P (dC, dI) vwCl (wSim s0 z M ++ (wCfg cy (z 0) bq G (nI n) sc ++ (wArr cy z rt Q T))) s.heap := hP
  have hx := B.exec
  have hb := B.bytes
  have hr := B.returns
  have hts := atoms_spec (ws := wsX2_releaseJob) B.pre
  have hown : s.vm.findClass RX2 = some m.cls := findClass_of_methodNamed B.named
  have hlocks := B.notSynchronized
  have hin0 : ∀ w ∈ u_ws RX0 TX0 9, w ∈ wsX2_releaseJob := by decide +kernel
  have hin2 : ∀ w ∈ u_ws RX2 TX2 15, w ∈ wsX2_releaseJob := by decide +kernel
  have f_110 := va_Nw.use (A := ([.ref s0, .int (nI 7), .int (nI u)].toArray)) rfl (hE.f 4 rfl)
  have f_113 := va_Nw.use (A := ([.ref s0, .int (nI 7), .int (nI u)].toArray)) rfl (hE.f 2 rfl)
  have f_12 := hts (.fieldLink RX2 12 "DeadlineAdmission$Simulation" "tasks" "LDeadlineAdmission$Configuration;") (by decide +kernel)
  have f_18 := hts (.fieldLink RX2 18 "DeadlineAdmission$Simulation" "pendingJobs" "[I") (by decide +kernel)
  have f_22 := hts (.fieldLink RX2 22 "DeadlineAdmission$Simulation" "oldestRelease" "[I") (by decide +kernel)
  have f_25 := hts (.fieldLink RX2 25 "DeadlineAdmission$Simulation" "oldestHasRun" "[I") (by decide +kernel)
  have f_30 := hts (.fieldLink RX2 30 "DeadlineAdmission$Simulation" "runningTime" "[[I") (by decide +kernel)
  have hl := lv_entry ([.ref s0, .int (nI 7), .int (nI u)]) (n := 4) (Nat.le_of_ble_eq_true rfl)
  rw [lg_entry_eq]
  generalize (lg_sl ([.ref s0, .int (nI 7), .int (nI u)]) ++ List.replicate (4 - (lg_sl ([.ref s0, .int (nI 7), .int (nI u)])).length) Slot.unset).toArray = ls at hl ⊢
  have hl : lv_has ls 4 [(0, .ref s0), (1, .int (nI 7)), (2, .int (nI u))] := hl
  refine lv_aload_n hx hb dX2_releaseJob_0 rfl (lv_at hl 0 rfl) ?_
  refine va_get (D := (dC, dI)) (ci := 2) (v := .ref (z 0)) (C := RX2) (T := TX2) (N := 15) hx hb hts hin2 hown hK hP 0 rfl rfl 0 (by decide) f_12 (fun _ h9 => h9) rfl dX2_releaseJob_1 ?_
  refine lv_iload_n hx hb dX2_releaseJob_4 rfl (lv_at hl 1 rfl) ?_
  refine vp_callSi (va_runV (As := [.int (nI 7)]) (rest := []) ⟨hx, hb, hml, hown, hts⟩ (c_X0_hasHighBudget l dC dI cy (z 0) bq G (nI n) sc  7 (by omega)) (cwV 1 hts gX2_releaseJob_X0_hasHighBudget rfl rfl rfl (by decide +kernel) ⟨Nat.le_of_ble_eq_true rfl, Nat.le_of_ble_eq_true rfl⟩) ⟨bl_ro, va_recv hK (hP.sub (ws' := wCfg cy (z 0) bq G (nI n) sc) [1, 2, 3, 4, 5, 6, 7, 8] rfl) (ci := 0) (q0 := 0) rfl rfl, pr_ro (hP.sub (ws' := wCfg cy (z 0) bq G (nI n) sc) [1, 2, 3, 4, 5, 6, 7, 8] rfl) hE⟩ rfl rfl hl.1 rfl (lv_room (Nat.le_of_ble_eq_true rfl)) dX2_releaseJob_5 ⟨Nat.le_of_ble_eq_true rfl, Nat.le_of_ble_eq_true rfl⟩).run (fun r e_r => ?_)
  subst e_r
  refine lv_if_eq (tgt := 22) hx hb dX2_releaseJob_8 (by decide) (fun c_8 => ?_) (fun c_8 => ?_)
  · refine lv_iconst (v := 0) hx hb dX2_releaseJob_22 (by decide) ?_
    refine lv_istore_n (lv' := [(3, .int 0), (0, .ref s0), (1, .int (nI 7)), (2, .int (nI u))]) hx hb dX2_releaseJob_23 rfl hl (by decide) rfl (fun ls hl => ?_)
    refine lv_aload_n hx hb dX2_releaseJob_24 rfl (lv_at hl 1 rfl) ?_
    refine va_get (D := (dC, dI)) (ci := 2) (v := .ref (z 4)) (C := RX2) (T := TX2) (N := 15) hx hb hts hin2 hown hK hP 0 rfl rfl 4 (by decide) f_30 (fun _ h9 => h9) rfl dX2_releaseJob_25 ?_
    refine lv_iload_n hx hb dX2_releaseJob_28 rfl (lv_at hl 2 rfl) ?_
    refine wB_ald (q := (rt 7)) hx hb hK hP 12 2 rfl rfl 7 rfl (by omega) (by decide) rfl dX2_releaseJob_29 ?_
    refine lv_iload_n hx hb dX2_releaseJob_30 rfl (lv_at hl 3 rfl) ?_
    refine lv_iload_n hx hb dX2_releaseJob_31 rfl (lv_at hl 0 rfl) ?_
    refine lv_if_eq (tgt := 47) hx hb dX2_releaseJob_32 (by decide) (fun _ => ?_) (fun h0 => absurd h0 (by decide))
    refine lv_aload_n hx hb dX2_releaseJob_47 rfl (lv_at hl 1 rfl) ?_
    refine va_get (D := (dC, dI)) (ci := 2) (v := .ref (z 0)) (C := RX2) (T := TX2) (N := 15) hx hb hts hin2 hown hK hP 0 rfl rfl 0 (by decide) f_12 (fun _ h9 => h9) rfl dX2_releaseJob_48 ?_
    refine va_getN (D := (dC, dI)) (ci := 0) (v := .ref (bq 2)) (C := RX0) (T := TX0) (N := 9) hx hb hts hin0 hown hK hP 1 rfl rfl 2 (by decide) f_113 (fun _ h9 => h9) rfl dX2_releaseJob_51 ?_
    refine lv_iload_n hx hb dX2_releaseJob_54 rfl (lv_at hl 2 rfl) ?_
    refine wI_alv (v := G 2 7) hx hb hK hP 4 0 rfl rfl 7 rfl (by omega) (by decide) rfl dX2_releaseJob_55 ?_
    refine wI_ast hx hb hK hP hD hS 21 0 rfl rfl u rfl (by omega) (by decide) dX2_releaseJob_56 (fun H locs hP hD hS => ?_)
    have hP : va_P (dC, dI) vwCl (wSim s0 z M ++ (wCfg cy (z 0) bq G (nI n) sc ++ (wArr cy z rt Q (up2 T 7 u (G 2 7))))) H := hP
    have hD : va_D A (wSim s0 z M ++ (wCfg cy (z 0) bq G (nI n) sc ++ (wArr cy z rt Q (up2 T 7 u (G 2 7))))) := hD
    refine lv_aload_n hx hb dX2_releaseJob_57 rfl (lv_at hl 1 rfl) ?_
    refine va_get (D := (dC, dI)) (ci := 2) (v := .ref (z 1)) (C := RX2) (T := TX2) (N := 15) hx hb hts hin2 hown hK hP 0 rfl rfl 1 (by decide) f_18 (fun _ h9 => h9) rfl dX2_releaseJob_58 ?_
    refine lv_iload_n hx hb dX2_releaseJob_61 rfl (lv_at hl 2 rfl) ?_
    refine wI_alv (v := Q 1 7) hx hb hK hP 9 0 rfl rfl 7 rfl (by omega) (by decide) rfl dX2_releaseJob_62 ?_
    refine lv_if_ne (tgt := 80) hx hb dX2_releaseJob_63 (by decide) (fun c_63 => ?_) (fun c_63 => ?_)
    · refine lv_aload_n hx hb dX2_releaseJob_80 rfl (lv_at hl 1 rfl) ?_
      refine va_get (D := (dC, dI)) (ci := 2) (v := .ref (z 1)) (C := RX2) (T := TX2) (N := 15) hx hb hts hin2 hown hK hP 0 rfl rfl 1 (by decide) f_18 (fun _ h9 => h9) rfl dX2_releaseJob_81 ?_
      refine lv_iload_n hx hb dX2_releaseJob_84 rfl (lv_at hl 2 rfl) ?_
      refine lv_dup2_11 hx hb dX2_releaseJob_85 rfl rfl ?_
      refine wI_alv (v := Q 1 7) hx hb hK hP 9 0 rfl rfl 7 rfl (by omega) (by decide) rfl dX2_releaseJob_86 ?_
      refine lv_iconst (v := 1) hx hb dX2_releaseJob_87 (by decide) ?_
      refine lv_iadd hx hb dX2_releaseJob_88 ?_
      refine wI_ast hx hb hK hP hD hS 9 0 rfl rfl 7 rfl (by omega) (by decide) dX2_releaseJob_89 (fun H locs hP hD hS => ?_)
      have hP : va_P (dC, dI) vwCl (wSim s0 z M ++ (wCfg cy (z 0) bq G (nI n) sc ++ (wArr cy z rt (up2 Q 1 7 ((Q 1 7) + 1)) (up2 T 7 u (G 2 7))))) H := hP
      have hD : va_D A (wSim s0 z M ++ (wCfg cy (z 0) bq G (nI n) sc ++ (wArr cy z rt (up2 Q 1 7 ((Q 1 7) + 1)) (up2 T 7 u (G 2 7))))) := hD
      have hP9 : va_P (dC, dI) vwCl (wSim s0 z M ++ (wCfg cy (z 0) bq G (nI n) sc ++ (wArr cy z rt (up2 Q 1 7 ((Q 1 7) + 1)) (up2 T 7 u (G 2 7))))) H := hP
      have hD9 : va_D A (wSim s0 z M ++ (wCfg cy (z 0) bq G (nI n) sc ++ (wArr cy z rt (up2 Q 1 7 ((Q 1 7) + 1)) (up2 T 7 u (G 2 7))))) := hD
      exact W.vret hx hb hr (fun t ht hW => ⟨⟨(M, up2 Q 1 7 ((Q 1 7) + 1), up2 T 7 u (G 2 7)), rfl, (by simp only [relJ]; rw [drM, if_pos (b01.mp c_8), nds, if_pos (b01.mp c_8), relQ, if_neg c_63]), by rw [ht]; exact hP9, hD9⟩, hS.F ht⟩) hS.2.2 dX2_releaseJob_90
    · refine lv_aload_n hx hb dX2_releaseJob_66 rfl (lv_at hl 1 rfl) ?_
      refine va_get (D := (dC, dI)) (ci := 2) (v := .ref (z 2)) (C := RX2) (T := TX2) (N := 15) hx hb hts hin2 hown hK hP 0 rfl rfl 2 (by decide) f_22 (fun _ h9 => h9) rfl dX2_releaseJob_67 ?_
      refine lv_iload_n hx hb dX2_releaseJob_70 rfl (lv_at hl 2 rfl) ?_
      refine lv_iload_n hx hb dX2_releaseJob_71 rfl (lv_at hl 3 rfl) ?_
      refine wI_ast hx hb hK hP hD hS 10 0 rfl rfl 7 rfl (by omega) (by decide) dX2_releaseJob_72 (fun H locs hP hD hS => ?_)
      have hP : va_P (dC, dI) vwCl (wSim s0 z M ++ (wCfg cy (z 0) bq G (nI n) sc ++ (wArr cy z rt (up2 Q 2 7 (nI u)) (up2 T 7 u (G 2 7))))) H := hP
      have hD : va_D A (wSim s0 z M ++ (wCfg cy (z 0) bq G (nI n) sc ++ (wArr cy z rt (up2 Q 2 7 (nI u)) (up2 T 7 u (G 2 7))))) := hD
      refine lv_aload_n hx hb dX2_releaseJob_73 rfl (lv_at hl 1 rfl) ?_
      refine va_get (D := (dC, dI)) (ci := 2) (v := .ref (z 3)) (C := RX2) (T := TX2) (N := 15) hx hb hts hin2 hown hK hP 0 rfl rfl 3 (by decide) f_25 (fun _ h9 => h9) rfl dX2_releaseJob_74 ?_
      refine lv_iload_n hx hb dX2_releaseJob_77 rfl (lv_at hl 2 rfl) ?_
      refine lv_iconst (v := 0) hx hb dX2_releaseJob_78 (by decide) ?_
      refine wI_ast hx hb hK hP hD hS 11 0 rfl rfl 7 rfl (by omega) (by decide) dX2_releaseJob_79 (fun H locs hP hD hS => ?_)
      have hP : va_P (dC, dI) vwCl (wSim s0 z M ++ (wCfg cy (z 0) bq G (nI n) sc ++ (wArr cy z rt (up2 (up2 Q 2 7 (nI u)) 3 7 0) (up2 T 7 u (G 2 7))))) H := hP
      have hD : va_D A (wSim s0 z M ++ (wCfg cy (z 0) bq G (nI n) sc ++ (wArr cy z rt (up2 (up2 Q 2 7 (nI u)) 3 7 0) (up2 T 7 u (G 2 7))))) := hD
      refine lv_aload_n hx hb dX2_releaseJob_80 rfl (lv_at hl 1 rfl) ?_
      refine va_get (D := (dC, dI)) (ci := 2) (v := .ref (z 1)) (C := RX2) (T := TX2) (N := 15) hx hb hts hin2 hown hK hP 0 rfl rfl 1 (by decide) f_18 (fun _ h9 => h9) rfl dX2_releaseJob_81 ?_
      refine lv_iload_n hx hb dX2_releaseJob_84 rfl (lv_at hl 2 rfl) ?_
      refine lv_dup2_11 hx hb dX2_releaseJob_85 rfl rfl ?_
      refine wI_alv (v := Q 1 7) hx hb hK hP 9 0 rfl rfl 7 rfl (by omega) (by decide) rfl dX2_releaseJob_86 ?_
      refine lv_iconst (v := 1) hx hb dX2_releaseJob_87 (by decide) ?_
      refine lv_iadd hx hb dX2_releaseJob_88 ?_
      refine wI_ast hx hb hK hP hD hS 9 0 rfl rfl 7 rfl (by omega) (by decide) dX2_releaseJob_89 (fun H locs hP hD hS => ?_)
      have hP : va_P (dC, dI) vwCl (wSim s0 z M ++ (wCfg cy (z 0) bq G (nI n) sc ++ (wArr cy z rt (up2 (up2 (up2 Q 2 7 (nI u)) 3 7 0) 1 7 ((Q 1 7) + 1)) (up2 T 7 u (G 2 7))))) H := hP
      have hD : va_D A (wSim s0 z M ++ (wCfg cy (z 0) bq G (nI n) sc ++ (wArr cy z rt (up2 (up2 (up2 Q 2 7 (nI u)) 3 7 0) 1 7 ((Q 1 7) + 1)) (up2 T 7 u (G 2 7))))) := hD
      have hP9 : va_P (dC, dI) vwCl (wSim s0 z M ++ (wCfg cy (z 0) bq G (nI n) sc ++ (wArr cy z rt (up2 (up2 (up2 Q 2 7 (nI u)) 3 7 0) 1 7 ((Q 1 7) + 1)) (up2 T 7 u (G 2 7))))) H := hP
      have hD9 : va_D A (wSim s0 z M ++ (wCfg cy (z 0) bq G (nI n) sc ++ (wArr cy z rt (up2 (up2 (up2 Q 2 7 (nI u)) 3 7 0) 1 7 ((Q 1 7) + 1)) (up2 T 7 u (G 2 7))))) := hD
      exact W.vret hx hb hr (fun t ht hW => ⟨⟨(M, up2 (up2 (up2 Q 2 7 (nI u)) 3 7 0) 1 7 ((Q 1 7) + 1), up2 T 7 u (G 2 7)), rfl, (by simp only [relJ]; rw [drM, if_pos (b01.mp c_8), nds, if_pos (b01.mp c_8), relQ, if_pos c_63]), by rw [ht]; exact hP9, hD9⟩, hS.F ht⟩) hS.2.2 dX2_releaseJob_90
  · refine lv_aload_n hx hb dX2_releaseJob_11 rfl (lv_at hl 0 rfl) ?_
    have hPc := hP.sub (ws' := wSim s0 z M) [0] rfl
    have hDc := hD.sub (ws' := wSim s0 z M) [0] (by decide) rfl
    have hFc := va_free (wc := wSim s0 z M) hD hS hA [0] rfl
    refine va_calli (va_runV (As := []) (rest := []) ⟨hx, hb, hml, hown, hts⟩ (c_X2_drawOverrun l dC dI cy s.heap.size s0 z M) (cwV 0 hts gX2_releaseJob_X2_drawOverrun rfl rfl rfl (by decide +kernel) ⟨Nat.le_of_ble_eq_true rfl, Nat.le_of_ble_eq_true rfl⟩) ⟨bl_in, va_recv hK hPc (ci := 2) (q0 := 0) rfl rfl, pr_in hPc hE hDc⟩ rfl rfl hl.1 rfl (lv_room (Nat.le_of_ble_eq_true rfl)) dX2_releaseJob_12 ⟨Nat.le_of_ble_eq_true rfl, Nat.le_of_ble_eq_true rfl⟩) hS (fun q _ h => hFc q h) hFc (fun r u t H1 locs ht hvm hw hB hz1 hk1 hS => ?_)
    obtain ⟨rfl, rfl⟩ := hw
    obtain ⟨hP1, hD1⟩ := hB
    rw [ht] at hP1
    obtain ⟨hP, hD⟩ := va_join (wr := wCfg cy (z 0) bq G (nI n) sc ++ (wArr cy z rt Q T)) (w1 := wSim s0 z (upd M 7 (drw (M 7)))) hP hD [0] [1, 2, 3, 4, 5, 6, 7, 8, 9, 10, 11, 12, 13, 14, 15, 16, 17, 18, 19, 20, 21] rfl rfl (by decide) (by decide) hk1 hFc hP1 hD1
    have hP : va_P (dC, dI) vwCl (wSim s0 z (upd M 7 (drw (M 7))) ++ (wCfg cy (z 0) bq G (nI n) sc ++ (wArr cy z rt Q T))) H1 := hP.sub [21, 0, 1, 2, 3, 4, 5, 6, 7, 8, 9, 10, 11, 12, 13, 14, 15, 16, 17, 18, 19, 20] rfl
    have hD : va_D A (wSim s0 z (upd M 7 (drw (M 7))) ++ (wCfg cy (z 0) bq G (nI n) sc ++ (wArr cy z rt Q T))) := hD.sub [21, 0, 1, 2, 3, 4, 5, 6, 7, 8, 9, 10, 11, 12, 13, 14, 15, 16, 17, 18, 19, 20] (by decide) rfl
    clear hz1 hk1 hPc hDc hFc hP1 hD1
    generalize H1 = H at hP hS ⊢
    refine lv_topi (fun y_ ey_ => ?_)
    obtain rfl : y_ = if ovr (drw (M 7)) (M 8) then 1 else 0 := ey_
    refine lv_if_eq (tgt := 22) hx hb dX2_releaseJob_15 (by decide) (fun c_15 => ?_) (fun c_15 => ?_)
    · refine lv_iconst (v := 0) hx hb dX2_releaseJob_22 (by decide) ?_
      refine lv_istore_n (lv' := [(3, .int 0), (0, .ref s0), (1, .int (nI 7)), (2, .int (nI u))]) hx hb dX2_releaseJob_23 rfl hl (by decide) rfl (fun ls hl => ?_)
      refine lv_aload_n hx hb dX2_releaseJob_24 rfl (lv_at hl 1 rfl) ?_
      refine va_get (D := (dC, dI)) (ci := 2) (v := .ref (z 4)) (C := RX2) (T := TX2) (N := 15) hx hb hts hin2 hown hK hP 0 rfl rfl 4 (by decide) f_30 (fun _ h9 => h9) rfl dX2_releaseJob_25 ?_
      refine lv_iload_n hx hb dX2_releaseJob_28 rfl (lv_at hl 2 rfl) ?_
      refine wB_ald (q := (rt 7)) hx hb hK hP 12 2 rfl rfl 7 rfl (by omega) (by decide) rfl dX2_releaseJob_29 ?_
      refine lv_iload_n hx hb dX2_releaseJob_30 rfl (lv_at hl 3 rfl) ?_
      refine lv_iload_n hx hb dX2_releaseJob_31 rfl (lv_at hl 0 rfl) ?_
      refine lv_if_eq (tgt := 47) hx hb dX2_releaseJob_32 (by decide) (fun _ => ?_) (fun h0 => absurd h0 (by decide))
      refine lv_aload_n hx hb dX2_releaseJob_47 rfl (lv_at hl 1 rfl) ?_
      refine va_get (D := (dC, dI)) (ci := 2) (v := .ref (z 0)) (C := RX2) (T := TX2) (N := 15) hx hb hts hin2 hown hK hP 0 rfl rfl 0 (by decide) f_12 (fun _ h9 => h9) rfl dX2_releaseJob_48 ?_
      refine va_getN (D := (dC, dI)) (ci := 0) (v := .ref (bq 2)) (C := RX0) (T := TX0) (N := 9) hx hb hts hin0 hown hK hP 1 rfl rfl 2 (by decide) f_113 (fun _ h9 => h9) rfl dX2_releaseJob_51 ?_
      refine lv_iload_n hx hb dX2_releaseJob_54 rfl (lv_at hl 2 rfl) ?_
      refine wI_alv (v := G 2 7) hx hb hK hP 4 0 rfl rfl 7 rfl (by omega) (by decide) rfl dX2_releaseJob_55 ?_
      refine wI_ast hx hb hK hP hD hS 21 0 rfl rfl u rfl (by omega) (by decide) dX2_releaseJob_56 (fun H locs hP hD hS => ?_)
      have hP : va_P (dC, dI) vwCl (wSim s0 z (upd M 7 (drw (M 7))) ++ (wCfg cy (z 0) bq G (nI n) sc ++ (wArr cy z rt Q (up2 T 7 u (G 2 7))))) H := hP
      have hD : va_D A (wSim s0 z (upd M 7 (drw (M 7))) ++ (wCfg cy (z 0) bq G (nI n) sc ++ (wArr cy z rt Q (up2 T 7 u (G 2 7))))) := hD
      refine lv_aload_n hx hb dX2_releaseJob_57 rfl (lv_at hl 1 rfl) ?_
      refine va_get (D := (dC, dI)) (ci := 2) (v := .ref (z 1)) (C := RX2) (T := TX2) (N := 15) hx hb hts hin2 hown hK hP 0 rfl rfl 1 (by decide) f_18 (fun _ h9 => h9) rfl dX2_releaseJob_58 ?_
      refine lv_iload_n hx hb dX2_releaseJob_61 rfl (lv_at hl 2 rfl) ?_
      refine wI_alv (v := Q 1 7) hx hb hK hP 9 0 rfl rfl 7 rfl (by omega) (by decide) rfl dX2_releaseJob_62 ?_
      refine lv_if_ne (tgt := 80) hx hb dX2_releaseJob_63 (by decide) (fun c_63 => ?_) (fun c_63 => ?_)
      · refine lv_aload_n hx hb dX2_releaseJob_80 rfl (lv_at hl 1 rfl) ?_
        refine va_get (D := (dC, dI)) (ci := 2) (v := .ref (z 1)) (C := RX2) (T := TX2) (N := 15) hx hb hts hin2 hown hK hP 0 rfl rfl 1 (by decide) f_18 (fun _ h9 => h9) rfl dX2_releaseJob_81 ?_
        refine lv_iload_n hx hb dX2_releaseJob_84 rfl (lv_at hl 2 rfl) ?_
        refine lv_dup2_11 hx hb dX2_releaseJob_85 rfl rfl ?_
        refine wI_alv (v := Q 1 7) hx hb hK hP 9 0 rfl rfl 7 rfl (by omega) (by decide) rfl dX2_releaseJob_86 ?_
        refine lv_iconst (v := 1) hx hb dX2_releaseJob_87 (by decide) ?_
        refine lv_iadd hx hb dX2_releaseJob_88 ?_
        refine wI_ast hx hb hK hP hD hS 9 0 rfl rfl 7 rfl (by omega) (by decide) dX2_releaseJob_89 (fun H locs hP hD hS => ?_)
        have hP : va_P (dC, dI) vwCl (wSim s0 z (upd M 7 (drw (M 7))) ++ (wCfg cy (z 0) bq G (nI n) sc ++ (wArr cy z rt (up2 Q 1 7 ((Q 1 7) + 1)) (up2 T 7 u (G 2 7))))) H := hP
        have hD : va_D A (wSim s0 z (upd M 7 (drw (M 7))) ++ (wCfg cy (z 0) bq G (nI n) sc ++ (wArr cy z rt (up2 Q 1 7 ((Q 1 7) + 1)) (up2 T 7 u (G 2 7))))) := hD
        have hP9 : va_P (dC, dI) vwCl (wSim s0 z (upd M 7 (drw (M 7))) ++ (wCfg cy (z 0) bq G (nI n) sc ++ (wArr cy z rt (up2 Q 1 7 ((Q 1 7) + 1)) (up2 T 7 u (G 2 7))))) H := hP
        have hD9 : va_D A (wSim s0 z (upd M 7 (drw (M 7))) ++ (wCfg cy (z 0) bq G (nI n) sc ++ (wArr cy z rt (up2 Q 1 7 ((Q 1 7) + 1)) (up2 T 7 u (G 2 7))))) := hD
        exact W.vret hx hb hr (fun t ht hW => ⟨⟨(upd M 7 (drw (M 7)), up2 Q 1 7 ((Q 1 7) + 1), up2 T 7 u (G 2 7)), rfl, (by simp only [relJ]; rw [drM, if_neg (fun h => c_8 (b01.mpr h)), nds, if_neg (fun h => c_8 (b01.mpr h)), if_neg (b10.mp c_15), relQ, if_neg c_63]), by rw [ht]; exact hP9, hD9⟩, hS.F ht⟩) hS.2.2 dX2_releaseJob_90
      · refine lv_aload_n hx hb dX2_releaseJob_66 rfl (lv_at hl 1 rfl) ?_
        refine va_get (D := (dC, dI)) (ci := 2) (v := .ref (z 2)) (C := RX2) (T := TX2) (N := 15) hx hb hts hin2 hown hK hP 0 rfl rfl 2 (by decide) f_22 (fun _ h9 => h9) rfl dX2_releaseJob_67 ?_
        refine lv_iload_n hx hb dX2_releaseJob_70 rfl (lv_at hl 2 rfl) ?_
        refine lv_iload_n hx hb dX2_releaseJob_71 rfl (lv_at hl 3 rfl) ?_
        refine wI_ast hx hb hK hP hD hS 10 0 rfl rfl 7 rfl (by omega) (by decide) dX2_releaseJob_72 (fun H locs hP hD hS => ?_)
        have hP : va_P (dC, dI) vwCl (wSim s0 z (upd M 7 (drw (M 7))) ++ (wCfg cy (z 0) bq G (nI n) sc ++ (wArr cy z rt (up2 Q 2 7 (nI u)) (up2 T 7 u (G 2 7))))) H := hP
        have hD : va_D A (wSim s0 z (upd M 7 (drw (M 7))) ++ (wCfg cy (z 0) bq G (nI n) sc ++ (wArr cy z rt (up2 Q 2 7 (nI u)) (up2 T 7 u (G 2 7))))) := hD
        refine lv_aload_n hx hb dX2_releaseJob_73 rfl (lv_at hl 1 rfl) ?_
        refine va_get (D := (dC, dI)) (ci := 2) (v := .ref (z 3)) (C := RX2) (T := TX2) (N := 15) hx hb hts hin2 hown hK hP 0 rfl rfl 3 (by decide) f_25 (fun _ h9 => h9) rfl dX2_releaseJob_74 ?_
        refine lv_iload_n hx hb dX2_releaseJob_77 rfl (lv_at hl 2 rfl) ?_
        refine lv_iconst (v := 0) hx hb dX2_releaseJob_78 (by decide) ?_
        refine wI_ast hx hb hK hP hD hS 11 0 rfl rfl 7 rfl (by omega) (by decide) dX2_releaseJob_79 (fun H locs hP hD hS => ?_)
        have hP : va_P (dC, dI) vwCl (wSim s0 z (upd M 7 (drw (M 7))) ++ (wCfg cy (z 0) bq G (nI n) sc ++ (wArr cy z rt (up2 (up2 Q 2 7 (nI u)) 3 7 0) (up2 T 7 u (G 2 7))))) H := hP
        have hD : va_D A (wSim s0 z (upd M 7 (drw (M 7))) ++ (wCfg cy (z 0) bq G (nI n) sc ++ (wArr cy z rt (up2 (up2 Q 2 7 (nI u)) 3 7 0) (up2 T 7 u (G 2 7))))) := hD
        refine lv_aload_n hx hb dX2_releaseJob_80 rfl (lv_at hl 1 rfl) ?_
        refine va_get (D := (dC, dI)) (ci := 2) (v := .ref (z 1)) (C := RX2) (T := TX2) (N := 15) hx hb hts hin2 hown hK hP 0 rfl rfl 1 (by decide) f_18 (fun _ h9 => h9) rfl dX2_releaseJob_81 ?_
        refine lv_iload_n hx hb dX2_releaseJob_84 rfl (lv_at hl 2 rfl) ?_
        refine lv_dup2_11 hx hb dX2_releaseJob_85 rfl rfl ?_
        refine wI_alv (v := Q 1 7) hx hb hK hP 9 0 rfl rfl 7 rfl (by omega) (by decide) rfl dX2_releaseJob_86 ?_
        refine lv_iconst (v := 1) hx hb dX2_releaseJob_87 (by decide) ?_
        refine lv_iadd hx hb dX2_releaseJob_88 ?_
        refine wI_ast hx hb hK hP hD hS 9 0 rfl rfl 7 rfl (by omega) (by decide) dX2_releaseJob_89 (fun H locs hP hD hS => ?_)
        have hP : va_P (dC, dI) vwCl (wSim s0 z (upd M 7 (drw (M 7))) ++ (wCfg cy (z 0) bq G (nI n) sc ++ (wArr cy z rt (up2 (up2 (up2 Q 2 7 (nI u)) 3 7 0) 1 7 ((Q 1 7) + 1)) (up2 T 7 u (G 2 7))))) H := hP
        have hD : va_D A (wSim s0 z (upd M 7 (drw (M 7))) ++ (wCfg cy (z 0) bq G (nI n) sc ++ (wArr cy z rt (up2 (up2 (up2 Q 2 7 (nI u)) 3 7 0) 1 7 ((Q 1 7) + 1)) (up2 T 7 u (G 2 7))))) := hD
        have hP9 : va_P (dC, dI) vwCl (wSim s0 z (upd M 7 (drw (M 7))) ++ (wCfg cy (z 0) bq G (nI n) sc ++ (wArr cy z rt (up2 (up2 (up2 Q 2 7 (nI u)) 3 7 0) 1 7 ((Q 1 7) + 1)) (up2 T 7 u (G 2 7))))) H := hP
        have hD9 : va_D A (wSim s0 z (upd M 7 (drw (M 7))) ++ (wCfg cy (z 0) bq G (nI n) sc ++ (wArr cy z rt (up2 (up2 (up2 Q 2 7 (nI u)) 3 7 0) 1 7 ((Q 1 7) + 1)) (up2 T 7 u (G 2 7))))) := hD
        exact W.vret hx hb hr (fun t ht hW => ⟨⟨(upd M 7 (drw (M 7)), up2 (up2 (up2 Q 2 7 (nI u)) 3 7 0) 1 7 ((Q 1 7) + 1), up2 T 7 u (G 2 7)), rfl, (by simp only [relJ]; rw [drM, if_neg (fun h => c_8 (b01.mpr h)), nds, if_neg (fun h => c_8 (b01.mpr h)), if_neg (b10.mp c_15), relQ, if_pos c_63]), by rw [ht]; exact hP9, hD9⟩, hS.F ht⟩) hS.2.2 dX2_releaseJob_90
    · refine lv_iconst (v := 1) hx hb dX2_releaseJob_18 (by decide) ?_
      refine lv_goto (tgt := 23) hx hb dX2_releaseJob_19 (by decide) ?_
      refine lv_istore_n (lv' := [(3, .int 1), (0, .ref s0), (1, .int (nI 7)), (2, .int (nI u))]) hx hb dX2_releaseJob_23 rfl hl (by decide) rfl (fun ls hl => ?_)
      refine lv_aload_n hx hb dX2_releaseJob_24 rfl (lv_at hl 1 rfl) ?_
      refine va_get (D := (dC, dI)) (ci := 2) (v := .ref (z 4)) (C := RX2) (T := TX2) (N := 15) hx hb hts hin2 hown hK hP 0 rfl rfl 4 (by decide) f_30 (fun _ h9 => h9) rfl dX2_releaseJob_25 ?_
      refine lv_iload_n hx hb dX2_releaseJob_28 rfl (lv_at hl 2 rfl) ?_
      refine wB_ald (q := (rt 7)) hx hb hK hP 12 2 rfl rfl 7 rfl (by omega) (by decide) rfl dX2_releaseJob_29 ?_
      refine lv_iload_n hx hb dX2_releaseJob_30 rfl (lv_at hl 3 rfl) ?_
      refine lv_iload_n hx hb dX2_releaseJob_31 rfl (lv_at hl 0 rfl) ?_
      refine lv_if_eq (tgt := 47) hx hb dX2_releaseJob_32 (by decide) (fun h0 => absurd h0 (by decide)) (fun _ => ?_)
      refine lv_aload_n hx hb dX2_releaseJob_35 rfl (lv_at hl 1 rfl) ?_
      refine va_get (D := (dC, dI)) (ci := 2) (v := .ref (z 0)) (C := RX2) (T := TX2) (N := 15) hx hb hts hin2 hown hK hP 0 rfl rfl 0 (by decide) f_12 (fun _ h9 => h9) rfl dX2_releaseJob_36 ?_
      refine va_getN (D := (dC, dI)) (ci := 0) (v := .ref (bq 3)) (C := RX0) (T := TX0) (N := 9) hx hb hts hin0 hown hK hP 1 rfl rfl 3 (by decide) f_110 (fun _ h9 => h9) rfl dX2_releaseJob_39 ?_
      refine lv_iload_n hx hb dX2_releaseJob_42 rfl (lv_at hl 2 rfl) ?_
      refine wI_alv (v := G 3 7) hx hb hK hP 5 0 rfl rfl 7 rfl (by omega) (by decide) rfl dX2_releaseJob_43 ?_
      refine lv_goto (tgt := 56) hx hb dX2_releaseJob_44 (by decide) ?_
      refine wI_ast hx hb hK hP hD hS 21 0 rfl rfl u rfl (by omega) (by decide) dX2_releaseJob_56 (fun H locs hP hD hS => ?_)
      have hP : va_P (dC, dI) vwCl (wSim s0 z (upd M 7 (drw (M 7))) ++ (wCfg cy (z 0) bq G (nI n) sc ++ (wArr cy z rt Q (up2 T 7 u (G 3 7))))) H := hP
      have hD : va_D A (wSim s0 z (upd M 7 (drw (M 7))) ++ (wCfg cy (z 0) bq G (nI n) sc ++ (wArr cy z rt Q (up2 T 7 u (G 3 7))))) := hD
      refine lv_aload_n hx hb dX2_releaseJob_57 rfl (lv_at hl 1 rfl) ?_
      refine va_get (D := (dC, dI)) (ci := 2) (v := .ref (z 1)) (C := RX2) (T := TX2) (N := 15) hx hb hts hin2 hown hK hP 0 rfl rfl 1 (by decide) f_18 (fun _ h9 => h9) rfl dX2_releaseJob_58 ?_
      refine lv_iload_n hx hb dX2_releaseJob_61 rfl (lv_at hl 2 rfl) ?_
      refine wI_alv (v := Q 1 7) hx hb hK hP 9 0 rfl rfl 7 rfl (by omega) (by decide) rfl dX2_releaseJob_62 ?_
      refine lv_if_ne (tgt := 80) hx hb dX2_releaseJob_63 (by decide) (fun c_63 => ?_) (fun c_63 => ?_)
      · refine lv_aload_n hx hb dX2_releaseJob_80 rfl (lv_at hl 1 rfl) ?_
        refine va_get (D := (dC, dI)) (ci := 2) (v := .ref (z 1)) (C := RX2) (T := TX2) (N := 15) hx hb hts hin2 hown hK hP 0 rfl rfl 1 (by decide) f_18 (fun _ h9 => h9) rfl dX2_releaseJob_81 ?_
        refine lv_iload_n hx hb dX2_releaseJob_84 rfl (lv_at hl 2 rfl) ?_
        refine lv_dup2_11 hx hb dX2_releaseJob_85 rfl rfl ?_
        refine wI_alv (v := Q 1 7) hx hb hK hP 9 0 rfl rfl 7 rfl (by omega) (by decide) rfl dX2_releaseJob_86 ?_
        refine lv_iconst (v := 1) hx hb dX2_releaseJob_87 (by decide) ?_
        refine lv_iadd hx hb dX2_releaseJob_88 ?_
        refine wI_ast hx hb hK hP hD hS 9 0 rfl rfl 7 rfl (by omega) (by decide) dX2_releaseJob_89 (fun H locs hP hD hS => ?_)
        have hP : va_P (dC, dI) vwCl (wSim s0 z (upd M 7 (drw (M 7))) ++ (wCfg cy (z 0) bq G (nI n) sc ++ (wArr cy z rt (up2 Q 1 7 ((Q 1 7) + 1)) (up2 T 7 u (G 3 7))))) H := hP
        have hD : va_D A (wSim s0 z (upd M 7 (drw (M 7))) ++ (wCfg cy (z 0) bq G (nI n) sc ++ (wArr cy z rt (up2 Q 1 7 ((Q 1 7) + 1)) (up2 T 7 u (G 3 7))))) := hD
        have hP9 : va_P (dC, dI) vwCl (wSim s0 z (upd M 7 (drw (M 7))) ++ (wCfg cy (z 0) bq G (nI n) sc ++ (wArr cy z rt (up2 Q 1 7 ((Q 1 7) + 1)) (up2 T 7 u (G 3 7))))) H := hP
        have hD9 : va_D A (wSim s0 z (upd M 7 (drw (M 7))) ++ (wCfg cy (z 0) bq G (nI n) sc ++ (wArr cy z rt (up2 Q 1 7 ((Q 1 7) + 1)) (up2 T 7 u (G 3 7))))) := hD
        exact W.vret hx hb hr (fun t ht hW => ⟨⟨(upd M 7 (drw (M 7)), up2 Q 1 7 ((Q 1 7) + 1), up2 T 7 u (G 3 7)), rfl, (by simp only [relJ]; rw [drM, if_neg (fun h => c_8 (b01.mpr h)), nds, if_neg (fun h => c_8 (b01.mpr h)), if_pos (nb10 c_15), relQ, if_neg c_63]), by rw [ht]; exact hP9, hD9⟩, hS.F ht⟩) hS.2.2 dX2_releaseJob_90
      · refine lv_aload_n hx hb dX2_releaseJob_66 rfl (lv_at hl 1 rfl) ?_
        refine va_get (D := (dC, dI)) (ci := 2) (v := .ref (z 2)) (C := RX2) (T := TX2) (N := 15) hx hb hts hin2 hown hK hP 0 rfl rfl 2 (by decide) f_22 (fun _ h9 => h9) rfl dX2_releaseJob_67 ?_
        refine lv_iload_n hx hb dX2_releaseJob_70 rfl (lv_at hl 2 rfl) ?_
        refine lv_iload_n hx hb dX2_releaseJob_71 rfl (lv_at hl 3 rfl) ?_
        refine wI_ast hx hb hK hP hD hS 10 0 rfl rfl 7 rfl (by omega) (by decide) dX2_releaseJob_72 (fun H locs hP hD hS => ?_)
        have hP : va_P (dC, dI) vwCl (wSim s0 z (upd M 7 (drw (M 7))) ++ (wCfg cy (z 0) bq G (nI n) sc ++ (wArr cy z rt (up2 Q 2 7 (nI u)) (up2 T 7 u (G 3 7))))) H := hP
        have hD : va_D A (wSim s0 z (upd M 7 (drw (M 7))) ++ (wCfg cy (z 0) bq G (nI n) sc ++ (wArr cy z rt (up2 Q 2 7 (nI u)) (up2 T 7 u (G 3 7))))) := hD
        refine lv_aload_n hx hb dX2_releaseJob_73 rfl (lv_at hl 1 rfl) ?_
        refine va_get (D := (dC, dI)) (ci := 2) (v := .ref (z 3)) (C := RX2) (T := TX2) (N := 15) hx hb hts hin2 hown hK hP 0 rfl rfl 3 (by decide) f_25 (fun _ h9 => h9) rfl dX2_releaseJob_74 ?_
        refine lv_iload_n hx hb dX2_releaseJob_77 rfl (lv_at hl 2 rfl) ?_
        refine lv_iconst (v := 0) hx hb dX2_releaseJob_78 (by decide) ?_
        refine wI_ast hx hb hK hP hD hS 11 0 rfl rfl 7 rfl (by omega) (by decide) dX2_releaseJob_79 (fun H locs hP hD hS => ?_)
        have hP : va_P (dC, dI) vwCl (wSim s0 z (upd M 7 (drw (M 7))) ++ (wCfg cy (z 0) bq G (nI n) sc ++ (wArr cy z rt (up2 (up2 Q 2 7 (nI u)) 3 7 0) (up2 T 7 u (G 3 7))))) H := hP
        have hD : va_D A (wSim s0 z (upd M 7 (drw (M 7))) ++ (wCfg cy (z 0) bq G (nI n) sc ++ (wArr cy z rt (up2 (up2 Q 2 7 (nI u)) 3 7 0) (up2 T 7 u (G 3 7))))) := hD
        refine lv_aload_n hx hb dX2_releaseJob_80 rfl (lv_at hl 1 rfl) ?_
        refine va_get (D := (dC, dI)) (ci := 2) (v := .ref (z 1)) (C := RX2) (T := TX2) (N := 15) hx hb hts hin2 hown hK hP 0 rfl rfl 1 (by decide) f_18 (fun _ h9 => h9) rfl dX2_releaseJob_81 ?_
        refine lv_iload_n hx hb dX2_releaseJob_84 rfl (lv_at hl 2 rfl) ?_
        refine lv_dup2_11 hx hb dX2_releaseJob_85 rfl rfl ?_
        refine wI_alv (v := Q 1 7) hx hb hK hP 9 0 rfl rfl 7 rfl (by omega) (by decide) rfl dX2_releaseJob_86 ?_
        refine lv_iconst (v := 1) hx hb dX2_releaseJob_87 (by decide) ?_
        refine lv_iadd hx hb dX2_releaseJob_88 ?_
        refine wI_ast hx hb hK hP hD hS 9 0 rfl rfl 7 rfl (by omega) (by decide) dX2_releaseJob_89 (fun H locs hP hD hS => ?_)
        have hP : va_P (dC, dI) vwCl (wSim s0 z (upd M 7 (drw (M 7))) ++ (wCfg cy (z 0) bq G (nI n) sc ++ (wArr cy z rt (up2 (up2 (up2 Q 2 7 (nI u)) 3 7 0) 1 7 ((Q 1 7) + 1)) (up2 T 7 u (G 3 7))))) H := hP
        have hD : va_D A (wSim s0 z (upd M 7 (drw (M 7))) ++ (wCfg cy (z 0) bq G (nI n) sc ++ (wArr cy z rt (up2 (up2 (up2 Q 2 7 (nI u)) 3 7 0) 1 7 ((Q 1 7) + 1)) (up2 T 7 u (G 3 7))))) := hD
        have hP9 : va_P (dC, dI) vwCl (wSim s0 z (upd M 7 (drw (M 7))) ++ (wCfg cy (z 0) bq G (nI n) sc ++ (wArr cy z rt (up2 (up2 (up2 Q 2 7 (nI u)) 3 7 0) 1 7 ((Q 1 7) + 1)) (up2 T 7 u (G 3 7))))) H := hP
        have hD9 : va_D A (wSim s0 z (upd M 7 (drw (M 7))) ++ (wCfg cy (z 0) bq G (nI n) sc ++ (wArr cy z rt (up2 (up2 (up2 Q 2 7 (nI u)) 3 7 0) 1 7 ((Q 1 7) + 1)) (up2 T 7 u (G 3 7))))) := hD
        exact W.vret hx hb hr (fun t ht hW => ⟨⟨(upd M 7 (drw (M 7)), up2 (up2 (up2 Q 2 7 (nI u)) 3 7 0) 1 7 ((Q 1 7) + 1), up2 T 7 u (G 3 7)), rfl, (by simp only [relJ]; rw [drM, if_neg (fun h => c_8 (b01.mpr h)), nds, if_neg (fun h => c_8 (b01.mpr h)), if_pos (nb10 c_15), relQ, if_pos c_63]), by rw [ht]; exact hP9, hD9⟩, hS.F ht⟩) hS.2.2 dX2_releaseJob_90
set_option maxHeartbeats 1000000 in
set_option maxRecDepth 100000 in
theorem c_X2_releaseJob (l : Launch) (dC : Nat → ClassId) (dI : Nat → Nat → Nat) (cy : Nat → ClassId) (sz : Nat) (s0 : Nat) (z : Nat → Nat) (M : Nat → Int32) (bq : Nat → Nat) (G : vG) (n : Nat) (hn : n ≤ 8) (sc : Int32) (Q : vG) (rt : Nat → Nat) (T : vG) (i : Nat) (hi8 : i < 8) (u : Nat) (hu : u < 200) : Met l yX2_releaseJob wsX2_releaseJob ({ frames := 1, cells := 0, slots := 0, locals := 21 }) (va_Pc [.ref s0, .int (nI i), .int (nI u)] (pIn dC dI cy (wSim s0 z M ++ (wCfg cy (z 0) bq G (nI n) sc ++ (wArr cy z rt Q T))) sz)) (va_Qv (fun (u9 : SSt) => u9 = relJ G i u (M, Q, T)) (fun (u : SSt) t => va_P (dC, dI) vwCl (wSim s0 z u.1 ++ (wCfg cy (z 0) bq G (nI n) sc ++ (wArr cy z rt u.2.1 u.2.2))) t.heap ∧ va_D (va_A (wSim s0 z M ++ (wCfg cy (z 0) bq G (nI n) sc ++ (wArr cy z rt Q T))) sz) (wSim s0 z u.1 ++ (wCfg cy (z 0) bq G (nI n) sc ++ (wArr cy z rt u.2.1 u.2.2)))) (va_A (wSim s0 z M ++ (wCfg cy (z 0) bq G (nI n) sc ++ (wArr cy z rt Q T))) sz)) 0 0 (va_A (wSim s0 z M ++ (wCfg cy (z 0) bq G (nI n) sc ++ (wArr cy z rt Q T))) sz) := by
  rcases (show i = 0 ∨ i = 1 ∨ i = 2 ∨ i = 3 ∨ i = 4 ∨ i = 5 ∨ i = 6 ∨ i = 7 by omega) with rfl | rfl | rfl | rfl | rfl | rfl | rfl | rfl
  · exact c_X2_releaseJob_0 l dC dI cy sz s0 z M bq G n hn sc Q rt T u hu
  · exact c_X2_releaseJob_1 l dC dI cy sz s0 z M bq G n hn sc Q rt T u hu
  · exact c_X2_releaseJob_2 l dC dI cy sz s0 z M bq G n hn sc Q rt T u hu
  · exact c_X2_releaseJob_3 l dC dI cy sz s0 z M bq G n hn sc Q rt T u hu
  · exact c_X2_releaseJob_4 l dC dI cy sz s0 z M bq G n hn sc Q rt T u hu
  · exact c_X2_releaseJob_5 l dC dI cy sz s0 z M bq G n hn sc Q rt T u hu
  · exact c_X2_releaseJob_6 l dC dI cy sz s0 z M bq G n hn sc Q rt T u hu
  · exact c_X2_releaseJob_7 l dC dI cy sz s0 z M bq G n hn sc Q rt T u hu

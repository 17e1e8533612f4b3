/-! PART 63: DeadlineAdmission.simulate -/
/-- the class's simulate: what it answers and leaves -/
def kSim (F : Nat → Int32) (Gt : vG) (n : Nat) (sc : Int32) (M : Nat → Int32) (Q T : vG) (sd ov p2 r : Int32) (u : (Nat → Int32) × SSt) : Prop :=
  cSim ov p2 = 0 ∧ ∃ hz, 1 ≤ hz ∧ hz ≤ 200 ∧ p2 = nI hz ∧ u = (upd F 7 1, simE Gt n (sts Gt sc n (sim0 M Q T sd ov hz) hz)) ∧ r = u.2.1 10
set_option maxHeartbeats 1000000 in
set_option maxRecDepth 100000 in
/-- a simulation -/
theorem c_X4_simulate (l : Launch) (hst : l.stackTraces = false) (dC : Nat → ClassId) (dI : Nat → Nat → Nat) (cy : Nat → ClassId) (sz : Nat) (d0 : Nat) (o : Nat → Nat) (F : Nat → Int32) (bc : Nat → Nat) (G : vG) (n : Nat) (hn : n ≤ 8) (sc : Int32) (z : Nat → Nat) (M : Nat → Int32) (bq : Nat → Nat) (Gz : vG) (nz : Nat) (hnz : nz ≤ 8) (scz : Int32) (Q : vG) (rt : Nat → Nat) (T : vG) (p0 p1 p2 : Int32) (Gt : vG) (hGt : cpG Gz G n = Gt) (hok : ∀ hz, 1 ≤ hz → hz ≤ 200 → p2 = nI hz → inr p1 0 100 → simOk Gt sc n hz (sim0 M Q T p0 p1 hz)) : vx_Met l yX4_simulate wsX4_simulate ({ frames := 6, cells := 1, slots := 6, locals := 95 }) (va_Pc [.ref d0, .int p0, .int p1, .int p2] (pX dC dI cy (wObj d0 o F ++ (wCfg cy (o 0) bc G (nI n) sc ++ (wSim (o 5) z M ++ (wCfg cy (z 0) bq Gz (nI nz) scz ++ (wArr cy z rt Q T))))) sz)) (va_Qi (fun (r : Int32) (u : (Nat → Int32) × SSt) => kSim F Gt n sc M Q T p0 p1 p2 r u) (fun (u : (Nat → Int32) × SSt) t => va_P (dC, dI) vwCl (wObj d0 o u.1 ++ (wCfg cy (o 0) bc G (nI n) sc ++ (wSim (o 5) z u.2.1 ++ (wCfg cy (z 0) bq Gt (nI n) sc ++ (wArr cy z rt u.2.2.1 u.2.2.2))))) t.heap ∧ va_D (va_A (wObj d0 o F ++ (wCfg cy (o 0) bc G (nI n) sc ++ (wSim (o 5) z M ++ (wCfg cy (z 0) bq Gz (nI nz) scz ++ (wArr cy z rt Q T))))) sz) (wObj d0 o u.1 ++ (wCfg cy (o 0) bc G (nI n) sc ++ (wSim (o 5) z u.2.1 ++ (wCfg cy (z 0) bq Gt (nI n) sc ++ (wArr cy z rt u.2.2.1 u.2.2.2)))))) (va_A (wObj d0 o F ++ (wCfg cy (o 0) bc G (nI n) sc ++ (wSim (o 5) z M ++ (wCfg cy (z 0) bq Gz (nI nz) scz ++ (wArr cy z rt Q T))))) sz)) (vx_X (fun (_ : Unit) => True) (fun (E : String) (u : Unit) (t : State) => (E = "java/lang/IllegalArgumentException" ∧ cSim p1 p2 = 1) ∧ va_P (dC, dI) vwCl (wObj d0 o F ++ (wCfg cy (o 0) bc G (nI n) sc ++ (wSim (o 5) z M ++ (wCfg cy (z 0) bq Gz (nI nz) scz ++ (wArr cy z rt Q T))))) t.heap ∧ va_D (va_A (wObj d0 o F ++ (wCfg cy (o 0) bc G (nI n) sc ++ (wSim (o 5) z M ++ (wCfg cy (z 0) bq Gz (nI nz) scz ++ (wArr cy z rt Q T))))) sz) (wObj d0 o F ++ (wCfg cy (o 0) bc G (nI n) sc ++ (wSim (o 5) z M ++ (wCfg cy (z 0) bq Gz (nI nz) scz ++ (wArr cy z rt Q T)))))) (va_A (wObj d0 o F ++ (wCfg cy (o 0) bc G (nI n) sc ++ (wSim (o 5) z M ++ (wCfg cy (z 0) bq Gz (nI nz) scz ++ (wArr cy z rt Q T))))) sz)) 1 6 (va_A (wObj d0 o F ++ (wCfg cy (o 0) bc G (nI n) sc ++ (wSim (o 5) z M ++ (wCfg cy (z 0) bq Gz (nI nz) scz ++ (wArr cy z rt Q T))))) sz) := by
  refine vx_ofW (cc := cX4_simulate) (maxL := 4) (ret := some .int) (by decide) rfl ?_
  intro p e s m args below meth c s₁ B hml hnt hv
  obtain ⟨rfl, hsz, hP, hE, hD0, hX, hZ⟩ := hv
  have hK := hE.1
  subst hsz
  have hD := hD0.self (sz := s.heap.size)
  generalize hAe : va_A (wObj d0 o F ++ (wCfg cy (o 0) bc G (nI n) sc ++ (wSim (o 5) z M ++ (wCfg cy (z 0) bq Gz (nI nz) scz ++ (wArr cy z rt Q T))))) s.heap.size = A at hD hZ ⊢
  have hA : ∀ q : Nat, s.heap.size ≤ q → A q := fun q h => by rw [← hAe]; exact Or.inr h
  have hS : va_S A s.heap s.heap [] := va_S.rf
  have hP : va_P (dC, dI) vwCl (wObj d0 o F ++ (wCfg cy (o 0) bc G (nI n) sc ++ (wSim (o 5) z M ++ (wCfg cy (z 0) bq Gz (nI nz) scz ++ (wArr cy z rt Q T))))) s.heap := hP
  have hx := B.exec
  have hb := B.bytes
  have hr := B.returns
  have hts := atoms_spec (ws := wsX4_simulate) B.pre
  have hown : s.vm.findClass RX4 = some m.cls := findClass_of_methodNamed B.named
  have hlocks := B.notSynchronized
  have hin2 : ∀ w ∈ u_ws RX2 TX2 15, w ∈ wsX4_simulate := by decide +kernel
  have hin4 : ∀ w ∈ u_ws RX4 TX4 12, w ∈ wsX4_simulate := by decide +kernel
  have f_12 := hts (.fieldLink RX4 12 "DeadlineAdmission" "current" "LDeadlineAdmission$Configuration;") (by decide +kernel)
  have f_145 := hts (.fieldLink RX4 145 "DeadlineAdmission" "hasSimulation" "Z") (by decide +kernel)
  have f_252 := va_Nw.use (A := ([.ref d0, .int p0, .int p1, .int p2].toArray)) rfl (hE.f 18 rfl)
  have f_39 := hts (.fieldLink RX4 39 "DeadlineAdmission" "simulation" "LDeadlineAdmission$Simulation;") (by decide +kernel)
  have hl := lv_entry ([.ref d0, .int p0, .int p1, .int p2]) (n := 4) (Nat.le_of_ble_eq_true rfl)
  rw [lg_entry_eq]
  generalize (lg_sl ([.ref d0, .int p0, .int p1, .int p2]) ++ List.replicate (4 - (lg_sl ([.ref d0, .int p0, .int p1, .int p2])).length) Slot.unset).toArray = ls at hl ⊢
  have hl : lv_has ls 4 [(0, .ref d0), (1, .int p0), (2, .int p1), (3, .int p2)] := hl
  refine lv_iload_n hx hb dX4_simulate_0 rfl (lv_at hl 2 rfl) ?_
  refine lv_if_lt (tgt := 10) hx hb dX4_simulate_1 (by decide) (fun c_1 => ?_) (fun c_1 => ?_)
  · obtain ⟨sa, hsa⟩ := hX.s 13 (k := 244) (t := "overrun is out of range") rfl
    exact vx_throwS (names := ["java/lang/RuntimeException", "java/lang/Exception"]) hx hb hst hown (by decide +kernel) (by decide +kernel) (hts (.classLink RX4 51 "java/lang/IllegalArgumentException") (by decide +kernel)) (hts (.initialized "java/lang/IllegalArgumentException") (by decide +kernel)) hsa (vx_hat (fun w h => hts w (List.mem_cons_of_mem _ (List.mem_append_right _ h))) ng_IAE (vx_c (va_Nw.use rfl (hX.c 0 rfl)) (vx_c (va_Nw.use rfl (hX.d 0 rfl)) (vx_c (va_Nw.use rfl (hX.d 1 rfl)) (vx_c (va_Nw.use rfl (hX.d 2 rfl)) vx_n))))) ot_IAE hZ.1 hZ.2 hS (hl.1.trans hml.symm) dX4_simulate_10 dX4_simulate_13 dX4_simulate_14 dX4_simulate_16 dX4_simulate_19 (fun x hx9 => (hnt x hx9).elim) (Nat.le_of_ble_eq_true rfl) (Nat.le_of_ble_eq_true rfl) (Nat.le_of_ble_eq_true rfl) (Nat.le_of_ble_eq_true rfl) hlocks (fun t hvm hz hk => ⟨(), trivial, ⟨⟨rfl, if_neg (fun h => h.1.1 c_1)⟩, hP.kept (fun k q h9 => hk q.1 ((hP k q h9).lt)), hD⟩, ⟨Nat.le_trans hS.1 hz, fun q h1 h2 => (hk q (Nat.lt_of_lt_of_le h1 hS.1)).trans (hS.2.1 q h1 h2)⟩⟩) hS.2.2 (Nat.le_of_ble_eq_true rfl) (Nat.le_of_ble_eq_true rfl)
  · refine lv_iload_n hx hb dX4_simulate_4 rfl (lv_at hl 2 rfl) ?_
    refine lv_bipush (v := 100) hx hb dX4_simulate_5 (by decide) ?_
    refine lv_icmp_le (tgt := 20) hx hb dX4_simulate_7 (by decide) (fun c_7 => ?_) (fun c_7 => ?_)
    · refine lv_iload_n hx hb dX4_simulate_20 rfl (lv_at hl 3 rfl) ?_
      refine lv_iconst (v := 1) hx hb dX4_simulate_21 (by decide) ?_
      refine lv_icmp_lt (tgt := 32) hx hb dX4_simulate_22 (by decide) (fun c_22 => ?_) (fun c_22 => ?_)
      · obtain ⟨sa, hsa⟩ := hX.s 14 (k := 246) (t := "the horizon is out of range") rfl
        exact vx_throwS (names := ["java/lang/RuntimeException", "java/lang/Exception"]) hx hb hst hown (by decide +kernel) (by decide +kernel) (hts (.classLink RX4 51 "java/lang/IllegalArgumentException") (by decide +kernel)) (hts (.initialized "java/lang/IllegalArgumentException") (by decide +kernel)) hsa (vx_hat (fun w h => hts w (List.mem_cons_of_mem _ (List.mem_append_right _ h))) ng_IAE (vx_c (va_Nw.use rfl (hX.c 0 rfl)) (vx_c (va_Nw.use rfl (hX.d 0 rfl)) (vx_c (va_Nw.use rfl (hX.d 1 rfl)) (vx_c (va_Nw.use rfl (hX.d 2 rfl)) vx_n))))) ot_IAE hZ.1 hZ.2 hS (hl.1.trans hml.symm) dX4_simulate_32 dX4_simulate_35 dX4_simulate_36 dX4_simulate_38 dX4_simulate_41 (fun x hx9 => (hnt x hx9).elim) (Nat.le_of_ble_eq_true rfl) (Nat.le_of_ble_eq_true rfl) (Nat.le_of_ble_eq_true rfl) (Nat.le_of_ble_eq_true rfl) hlocks (fun t hvm hz hk => ⟨(), trivial, ⟨⟨rfl, if_neg (fun h => h.2.1 c_22)⟩, hP.kept (fun k q h9 => hk q.1 ((hP k q h9).lt)), hD⟩, ⟨Nat.le_trans hS.1 hz, fun q h1 h2 => (hk q (Nat.lt_of_lt_of_le h1 hS.1)).trans (hS.2.1 q h1 h2)⟩⟩) hS.2.2 (Nat.le_of_ble_eq_true rfl) (Nat.le_of_ble_eq_true rfl)
      · refine lv_iload_n hx hb dX4_simulate_25 rfl (lv_at hl 3 rfl) ?_
        refine lv_sipush (v := 200) hx hb dX4_simulate_26 (by decide) ?_
        refine lv_icmp_le (tgt := 42) hx hb dX4_simulate_29 (by decide) (fun c_29 => ?_) (fun c_29 => ?_)
        · have ov9 : inr p1 0 100 := ⟨c_1, Int32.not_lt.mpr c_7⟩
          have hp9 : inr p2 1 200 := ⟨c_22, Int32.not_lt.mpr c_29⟩
          obtain ⟨hz, hz1, hz2, rfl⟩ := hz_of hp9
          refine lv_aload_n hx hb dX4_simulate_42 rfl (lv_at hl 0 rfl) ?_
          refine va_get (D := (dC, dI)) (ci := 4) (v := .ref (o 5)) (C := RX4) (T := TX4) (N := 12) hx hb hts hin4 hown hK hP 0 rfl rfl 5 (by decide) f_39 (fun _ h9 => h9) rfl dX4_simulate_43 ?_
          refine lv_aload_n hx hb dX4_simulate_46 rfl (lv_at hl 0 rfl) ?_
          refine va_get (D := (dC, dI)) (ci := 4) (v := .ref (o 0)) (C := RX4) (T := TX4) (N := 12) hx hb hts hin4 hown hK hP 0 rfl rfl 0 (by decide) f_12 (fun _ h9 => h9) rfl dX4_simulate_47 ?_
          refine lv_iload_n hx hb dX4_simulate_50 rfl (lv_at hl 1 rfl) ?_
          refine lv_iload_n hx hb dX4_simulate_51 rfl (lv_at hl 2 rfl) ?_
          refine lv_iload_n hx hb dX4_simulate_52 rfl (lv_at hl 3 rfl) ?_
          have hPc := hP.sub (ws' := wSim (o 5) z M ++ (wCfg cy (z 0) bq Gz (nI nz) scz ++ (wArr cy z rt Q T ++ (wCfg cy (o 0) bc G (nI n) sc)))) [9, 10, 11, 12, 13, 14, 15, 16, 17, 18, 19, 20, 21, 22, 23, 24, 25, 26, 27, 28, 29, 30, 1, 2, 3, 4, 5, 6, 7, 8] rfl
          have hDc := hD.sub (ws' := wSim (o 5) z M ++ (wCfg cy (z 0) bq Gz (nI nz) scz ++ (wArr cy z rt Q T ++ (wCfg cy (o 0) bc G (nI n) sc)))) [9, 10, 11, 12, 13, 14, 15, 16, 17, 18, 19, 20, 21, 22, 23, 24, 25, 26, 27, 28, 29, 30, 1, 2, 3, 4, 5, 6, 7, 8] (by decide) rfl
          have hFc := va_free (wc := wSim (o 5) z M ++ (wCfg cy (z 0) bq Gz (nI nz) scz ++ (wArr cy z rt Q T ++ (wCfg cy (o 0) bc G (nI n) sc)))) hD hS hA [9, 10, 11, 12, 13, 14, 15, 16, 17, 18, 19, 20, 21, 22, 23, 24, 25, 26, 27, 28, 29, 30, 1, 2, 3, 4, 5, 6, 7, 8] rfl
          refine va_callv (va_runV (As := [.ref (o 0), .int p0, .int p1, .int (nI hz)]) (rest := []) ⟨hx, hb, hml, hown, hts⟩ (c_X2_run l dC dI cy s.heap.size (o 5) z M bq Gz nz hnz scz Q rt T (o 0) bc G n hn sc p0 p1 hz (by omega) Gt hGt (hok hz hz1 hz2 rfl ov9)) (cwV 4 hts gX4_simulate_X2_run rfl rfl rfl (by decide +kernel) ⟨Nat.le_of_ble_eq_true rfl, Nat.le_of_ble_eq_true rfl⟩) ⟨bl_in, va_recv hK hPc (ci := 2) (q0 := 0) rfl rfl, pr_in hPc hE hDc⟩ rfl rfl hl.1 rfl (lv_room (Nat.le_of_ble_eq_true rfl)) dX4_simulate_53 ⟨Nat.le_of_ble_eq_true rfl, Nat.le_of_ble_eq_true rfl⟩) hS (fun q _ h => hFc q h) hFc (fun u t H1 locs ht hvm hw hB hz1 hk1 hS => ?_)
          obtain ⟨M9, Q9, T9⟩ := u
          have e9 : (M9, Q9, T9) = _ := hw
          obtain ⟨hP1, hD1⟩ := hB
          rw [ht] at hP1
          obtain ⟨hP, hD⟩ := va_join (wr := wObj d0 o F) (w1 := wSim (o 5) z M9 ++ (wCfg cy (z 0) bq Gt (nI n) sc ++ (wArr cy z rt Q9 T9 ++ (wCfg cy (o 0) bc G (nI n) sc)))) hP hD [9, 10, 11, 12, 13, 14, 15, 16, 17, 18, 19, 20, 21, 22, 23, 24, 25, 26, 27, 28, 29, 30, 1, 2, 3, 4, 5, 6, 7, 8] [0] rfl rfl (by decide) (by decide) hk1 hFc hP1 hD1
          have hP : va_P (dC, dI) vwCl (wObj d0 o F ++ (wCfg cy (o 0) bc G (nI n) sc ++ (wSim (o 5) z M9 ++ (wCfg cy (z 0) bq Gt (nI n) sc ++ (wArr cy z rt Q9 T9))))) H1 := hP.sub [0, 23, 24, 25, 26, 27, 28, 29, 30, 1, 2, 3, 4, 5, 6, 7, 8, 9, 10, 11, 12, 13, 14, 15, 16, 17, 18, 19, 20, 21, 22] rfl
          have hD : va_D A (wObj d0 o F ++ (wCfg cy (o 0) bc G (nI n) sc ++ (wSim (o 5) z M9 ++ (wCfg cy (z 0) bq Gt (nI n) sc ++ (wArr cy z rt Q9 T9))))) := hD.sub [0, 23, 24, 25, 26, 27, 28, 29, 30, 1, 2, 3, 4, 5, 6, 7, 8, 9, 10, 11, 12, 13, 14, 15, 16, 17, 18, 19, 20, 21, 22] (by decide) rfl
          clear hz1 hk1 hPc hDc hFc hP1 hD1
          generalize H1 = H at hP hS ⊢
          refine lv_aload_n hx hb dX4_simulate_56 rfl (lv_at hl 0 rfl) ?_
          refine lv_iconst (v := 1) hx hb dX4_simulate_57 (by decide) ?_
          refine va_put (D := (dC, dI)) (ci := 4) (v := .int 1) (ty := .boolean) (C := RX4) (T := TX4) (N := 12) hx hb hts hin4 tyX4 tyX4_ok nmX4 hown hK hP hD hS 0 rfl rfl 7 (by decide) f_145 (fun _ h9 => h9) rfl (by decide +kernel) (by decide) rfl (Nat.le_of_ble_eq_true rfl) dX4_simulate_58 (fun H locs hP hD hS => ?_)
          have hP : va_P (dC, dI) vwCl (wObj d0 o (upd F 7 1) ++ (wCfg cy (o 0) bc G (nI n) sc ++ (wSim (o 5) z M9 ++ (wCfg cy (z 0) bq Gt (nI n) sc ++ (wArr cy z rt Q9 T9))))) H := hP
          have hD : va_D A (wObj d0 o (upd F 7 1) ++ (wCfg cy (o 0) bc G (nI n) sc ++ (wSim (o 5) z M9 ++ (wCfg cy (z 0) bq Gt (nI n) sc ++ (wArr cy z rt Q9 T9))))) := hD
          refine lv_aload_n hx hb dX4_simulate_61 rfl (lv_at hl 0 rfl) ?_
          refine va_get (D := (dC, dI)) (ci := 4) (v := .ref (o 5)) (C := RX4) (T := TX4) (N := 12) hx hb hts hin4 hown hK hP 0 rfl rfl 5 (by decide) f_39 (fun _ h9 => h9) rfl dX4_simulate_62 ?_
          refine va_getN (D := (dC, dI)) (ci := 2) (v := .int (M9 10)) (C := RX2) (T := TX2) (N := 15) hx hb hts hin2 hown hK hP 9 rfl rfl 10 (by decide) f_252 (fun _ h9 => h9) rfl dX4_simulate_65 ?_
          refine vx_ret ?_
          refine W.widen (k := 1) (n := 6) (Nat.le_of_ble_eq_true rfl) (Nat.le_of_ble_eq_true rfl) ?_
          have hP9 : va_P (dC, dI) vwCl (wObj d0 o (upd F 7 1) ++ (wCfg cy (o 0) bc G (nI n) sc ++ (wSim (o 5) z M9 ++ (wCfg cy (z 0) bq Gt (nI n) sc ++ (wArr cy z rt Q9 T9))))) H := hP
          have hD9 : va_D A (wObj d0 o (upd F 7 1) ++ (wCfg cy (o 0) bc G (nI n) sc ++ (wSim (o 5) z M9 ++ (wCfg cy (z 0) bq Gt (nI n) sc ++ (wArr cy z rt Q9 T9))))) := hD
          exact W.iret (v := M9 10) hx hb hr (fun t ht hW => ⟨⟨M9 10, (upd F 7 1, M9, Q9, T9), rfl, ⟨if_pos ⟨ov9, hp9⟩, hz, hz1, hz2, rfl, by rw [← e9], rfl⟩, by rw [ht]; exact hP9, hD9⟩, hS.F ht⟩) hS.2.2 dX4_simulate_68
        · obtain ⟨sa, hsa⟩ := hX.s 14 (k := 246) (t := "the horizon is out of range") rfl
          exact vx_throwS (names := ["java/lang/RuntimeException", "java/lang/Exception"]) hx hb hst hown (by decide +kernel) (by decide +kernel) (hts (.classLink RX4 51 "java/lang/IllegalArgumentException") (by decide +kernel)) (hts (.initialized "java/lang/IllegalArgumentException") (by decide +kernel)) hsa (vx_hat (fun w h => hts w (List.mem_cons_of_mem _ (List.mem_append_right _ h))) ng_IAE (vx_c (va_Nw.use rfl (hX.c 0 rfl)) (vx_c (va_Nw.use rfl (hX.d 0 rfl)) (vx_c (va_Nw.use rfl (hX.d 1 rfl)) (vx_c (va_Nw.use rfl (hX.d 2 rfl)) vx_n))))) ot_IAE hZ.1 hZ.2 hS (hl.1.trans hml.symm) dX4_simulate_32 dX4_simulate_35 dX4_simulate_36 dX4_simulate_38 dX4_simulate_41 (fun x hx9 => (hnt x hx9).elim) (Nat.le_of_ble_eq_true rfl) (Nat.le_of_ble_eq_true rfl) (Nat.le_of_ble_eq_true rfl) (Nat.le_of_ble_eq_true rfl) hlocks (fun t hvm hz hk => ⟨(), trivial, ⟨⟨rfl, if_neg (fun h => h.2.2 (Int32.not_le.mp c_29))⟩, hP.kept (fun k q h9 => hk q.1 ((hP k q h9).lt)), hD⟩, ⟨Nat.le_trans hS.1 hz, fun q h1 h2 => (hk q (Nat.lt_of_lt_of_le h1 hS.1)).trans (hS.2.1 q h1 h2)⟩⟩) hS.2.2 (Nat.le_of_ble_eq_true rfl) (Nat.le_of_ble_eq_true rfl)
    · obtain ⟨sa, hsa⟩ := hX.s 13 (k := 244) (t := "overrun is out of range") rfl
      exact vx_throwS (names := ["java/lang/RuntimeException", "java/lang/Exception"]) hx hb hst hown (by decide +kernel) (by decide +kernel) (hts (.classLink RX4 51 "java/lang/IllegalArgumentException") (by decide +kernel)) (hts (.initialized "java/lang/IllegalArgumentException") (by decide +kernel)) hsa (vx_hat (fun w h => hts w (List.mem_cons_of_mem _ (List.mem_append_right _ h))) ng_IAE (vx_c (va_Nw.use rfl (hX.c 0 rfl)) (vx_c (va_Nw.use rfl (hX.d 0 rfl)) (vx_c (va_Nw.use rfl (hX.d 1 rfl)) (vx_c (va_Nw.use rfl (hX.d 2 rfl)) vx_n))))) ot_IAE hZ.1 hZ.2 hS (hl.1.trans hml.symm) dX4_simulate_10 dX4_simulate_13 dX4_simulate_14 dX4_simulate_16 dX4_simulate_19 (fun x hx9 => (hnt x hx9).elim) (Nat.le_of_ble_eq_true rfl) (Nat.le_of_ble_eq_true rfl) (Nat.le_of_ble_eq_true rfl) (Nat.le_of_ble_eq_true rfl) hlocks (fun t hvm hz hk => ⟨(), trivial, ⟨⟨rfl, if_neg (fun h => h.1.2 (Int32.not_le.mp c_7))⟩, hP.kept (fun k q h9 => hk q.1 ((hP k q h9).lt)), hD⟩, ⟨Nat.le_trans hS.1 hz, fun q h1 h2 => (hk q (Nat.lt_of_lt_of_le h1 hS.1)).trans (hS.2.1 q h1 h2)⟩⟩) hS.2.2 (Nat.le_of_ble_eq_true rfl) (Nat.le_of_ble_eq_true rfl)

/-! PART 58: the class, Simulation.run -/
/-- a unit of time up to the choice of the job that runs -/
def stpA (G : vG) (sc : Int32) (n u : Nat) (s : SSt) : SSt := rls G u n 0 (if (ect G sc s.1 s.2.1 n).1 < 0 then upd s.1 6 0 else s.1, s.2.1, s.2.2)
/-- .. and behind it -/
def stpB (G : vG) (sc : Int32) (n u : Nat) (s : SSt) : SSt := if (ect G sc s.1 s.2.1 n).1 < 0 then (upd s.1 14 (s.1 14 + 1), s.2.1, s.2.2) else runO G n (ect G sc s.1 s.2.1 n).1.toNatClampNeg u s
/-- the state before unit u -/
def sts (G : vG) (sc : Int32) (n : Nat) (s : SSt) : Nat → SSt
  | 0 => s
  | u + 1 => stpB G sc n u (stpA G sc n u (sts G sc n s u))
def sim0 (M : Nat → Int32) (Q T : vG) (sd ov : Int32) (hz : Nat) : SSt := (upd (upd (upd (clrM M) 7 sd) 8 ov) 9 (nI hz), clrQ Q 8, T)
def simE (G : vG) (n : Nat) (s : SSt) : SSt := (clp G s.2.1 n 0 s.1, s.2.1, s.2.2)
/-- what a run of the simulation needs of its states -/
def simOk (G : vG) (sc : Int32) (n hz : Nat) (s : SSt) : Prop :=
  (∀ u, u ≤ hz → (sts G sc n s u).1 9 = nI hz) ∧
  (∀ u, u < hz → ∀ i, i < n → (ect G sc (stpA G sc n u (sts G sc n s u)).1 (stpA G sc n u (sts G sc n s u)).2.1 n).1 = nI i → ∃ o, o < 200 ∧ (stpA G sc n u (sts G sc n s u)).2.1 2 i = nI o) ∧
  ∀ i, i < n → ∃ c : Nat, c ≤ 300 ∧ (sts G sc n s hz).2.1 1 i = nI c
theorem ect_nn {G : vG} {sc : Int32} {M : Nat → Int32} {Q : vG} {n : Nat} (hn : n ≤ 8) (h : ¬ (ect G sc M Q n).1 < 0) : ∃ j, j < n ∧ (ect G sc M Q n).1 = nI j := by
  rcases ect_i (G := G) (sc := sc) (M := M) (Q := Q) n hn with q | ⟨j, a, b, _⟩
  · rw [q] at h; exact absurd (by decide) h
  · exact ⟨j, a, b⟩
theorem min200 {h : Nat} (hh : h ≤ 200) : (if (200 : Int32) < nI h then 200 else nI h) = nI h := if_neg (fun q : (200 : Int32) < nI h => absurd ((nI_ltI (a := 200) (b := h) (by omega) (by omega)).mp q) (by omega))
set_option maxHeartbeats 1000000 in
set_option maxRecDepth 100000 in
/-- a run of the simulation -/
theorem c_X2_run (l : Launch) (dC : Nat → ClassId) (dI : Nat → Nat → Nat) (cy : Nat → ClassId) (sz : Nat) (s0 : Nat) (z : Nat → Nat) (M : Nat → Int32) (bq : Nat → Nat) (Gz : vG) (nz : Nat) (hnz : nz ≤ 8) (scz : Int32) (Q : vG) (rt : Nat → Nat) (T : vG) (c1 : Nat) (bc : Nat → Nat) (G : vG) (n : Nat) (hn : n ≤ 8) (sc : Int32) (sd ov : Int32) (hz : Nat) (hz8 : hz ≤ 200) (Gt : vG) (hGt : cpG Gz G n = Gt) (hok : simOk Gt sc n hz (sim0 M Q T sd ov hz)) : Met l yX2_run wsX2_run ({ frames := 3, cells := 0, slots := 0, locals := 69 }) (va_Pc [.ref s0, .ref c1, .int sd, .int ov, .int (nI hz)] (pIn dC dI cy (wSim s0 z M ++ (wCfg cy (z 0) bq Gz (nI nz) scz ++ (wArr cy z rt Q T ++ (wCfg cy c1 bc G (nI n) sc)))) sz)) (va_Qv (fun (u9 : SSt) => u9 = simE Gt n (sts Gt sc n (sim0 M Q T sd ov hz) hz)) (fun (u : SSt) t => va_P (dC, dI) vwCl (wSim s0 z u.1 ++ (wCfg cy (z 0) bq Gt (nI n) sc ++ (wArr cy z rt u.2.1 u.2.2 ++ (wCfg cy c1 bc G (nI n) sc)))) t.heap ∧ va_D (va_A (wSim s0 z M ++ (wCfg cy (z 0) bq Gz (nI nz) scz ++ (wArr cy z rt Q T ++ (wCfg cy c1 bc G (nI n) sc)))) sz) (wSim s0 z u.1 ++ (wCfg cy (z 0) bq Gt (nI n) sc ++ (wArr cy z rt u.2.1 u.2.2 ++ (wCfg cy c1 bc G (nI n) sc))))) (va_A (wSim s0 z M ++ (wCfg cy (z 0) bq Gz (nI nz) scz ++ (wArr cy z rt Q T ++ (wCfg cy c1 bc G (nI n) sc)))) sz)) 0 0 (va_A (wSim s0 z M ++ (wCfg cy (z 0) bq Gz (nI nz) scz ++ (wArr cy z rt Q T ++ (wCfg cy c1 bc G (nI n) sc)))) sz) := by
  refine Met.ofW (cc := cX2_run) (maxL := 7) (ret := none) (by decide) rfl ?_
  intro p e s m args below meth c s₁ B hml hv
  obtain ⟨rfl, hsz, hP, hE, hD0⟩ := hv
  have hK := hE.1
  subst hsz
  have hD := hD0.self (sz := s.heap.size)
  generalize hAe : va_A (wSim s0 z M ++ (wCfg cy (z 0) bq Gz (nI nz) scz ++ (wArr cy z rt Q T ++ (wCfg cy c1 bc G (nI n) sc)))) s.heap.size = A at hD ⊢
  have hA : ∀ q : Nat, s.heap.size ≤ q → A q := fun q h => by rw [← hAe]; exact Or.inr h
  have hS : va_S A s.heap s.heap [] := va_S.rf
  have hP : va_P (dC, dI) vwCl (wSim s0 z M ++ (wCfg cy (z 0) bq Gz (nI nz) scz ++ (wArr cy z rt Q T ++ (wCfg cy c1 bc G (nI n) sc)))) s.heap := hP
  have hx := B.exec
  have hb := B.bytes
  have hr := B.returns
  have hts := atoms_spec (ws := wsX2_run) B.pre
  have hown : s.vm.findClass RX2 = some m.cls := findClass_of_methodNamed B.named
  have hlocks := B.notSynchronized
  have hin2 : ∀ w ∈ u_ws RX2 TX2 15, w ∈ wsX2_run := by decide +kernel
  have f_12 := hts (.fieldLink RX2 12 "DeadlineAdmission$Simulation" "tasks" "LDeadlineAdmission$Configuration;") (by decide +kernel)
  have f_43 := hts (.fieldLink RX2 43 "DeadlineAdmission$Simulation" "draw" "I") (by decide +kernel)
  have f_47 := hts (.fieldLink RX2 47 "DeadlineAdmission$Simulation" "overrunPercentage" "I") (by decide +kernel)
  have f_56 := hts (.fieldLink RX2 56 "DeadlineAdmission$Simulation" "end" "I") (by decide +kernel)
  have f_63 := hts (.fieldLink RX2 63 "DeadlineAdmission$Simulation" "mode" "I") (by decide +kernel)
  have f_70 := hts (.fieldLink RX2 70 "DeadlineAdmission$Simulation" "unitsWithoutJob" "I") (by decide +kernel)
  have hl := lv_entry ([.ref s0, .ref c1, .int sd, .int ov, .int (nI hz)]) (n := 7) (Nat.le_of_ble_eq_true rfl)
  rw [lg_entry_eq]
  generalize (lg_sl ([.ref s0, .ref c1, .int sd, .int ov, .int (nI hz)]) ++ List.replicate (7 - (lg_sl ([.ref s0, .ref c1, .int sd, .int ov, .int (nI hz)])).length) Slot.unset).toArray = ls at hl ⊢
  have hl : lv_has ls 7 [(0, .ref s0), (1, .ref c1), (2, .int sd), (3, .int ov), (4, .int (nI hz))] := hl
  refine lv_aload_n hx hb dX2_run_0 rfl (lv_at hl 0 rfl) ?_
  have hPc := hP.sub (ws' := wSim s0 z M ++ (wCfg cy (z 0) bq Gz (nI nz) scz ++ (wArr cy z rt Q T))) [0, 1, 2, 3, 4, 5, 6, 7, 8, 9, 10, 11, 12, 13, 14, 15, 16, 17, 18, 19, 20, 21] rfl
  have hDc := hD.sub (ws' := wSim s0 z M ++ (wCfg cy (z 0) bq Gz (nI nz) scz ++ (wArr cy z rt Q T))) [0, 1, 2, 3, 4, 5, 6, 7, 8, 9, 10, 11, 12, 13, 14, 15, 16, 17, 18, 19, 20, 21] (by decide) rfl
  have hFc := va_free (wc := wSim s0 z M ++ (wCfg cy (z 0) bq Gz (nI nz) scz ++ (wArr cy z rt Q T))) hD hS hA [0, 1, 2, 3, 4, 5, 6, 7, 8, 9, 10, 11, 12, 13, 14, 15, 16, 17, 18, 19, 20, 21] rfl
  refine va_callv (va_runV (As := []) (rest := []) ⟨hx, hb, hml, hown, hts⟩ (c_X2_clear l dC dI cy s.heap.size s0 z M bq Gz nz hnz scz Q rt T) (cwV 0 hts gX2_run_X2_clear rfl rfl rfl (by decide +kernel) ⟨Nat.le_of_ble_eq_true rfl, Nat.le_of_ble_eq_true rfl⟩) ⟨bl_in, va_recv hK hPc (ci := 2) (q0 := 0) rfl rfl, pr_in hPc hE hDc⟩ rfl rfl hl.1 rfl (lv_room (Nat.le_of_ble_eq_true rfl)) dX2_run_1 ⟨Nat.le_of_ble_eq_true rfl, Nat.le_of_ble_eq_true rfl⟩) hS (fun q _ h => hFc q h) hFc (fun u t H1 locs ht hvm hw hB hz1 hk1 hS => ?_)
  obtain rfl : u = (clrM M, clrQ Q 8, T) := hw
  obtain ⟨hP1, hD1⟩ := hB
  rw [ht] at hP1
  obtain ⟨hP, hD⟩ := va_join (wr := wCfg cy c1 bc G (nI n) sc) (w1 := wSim s0 z (clrM M) ++ (wCfg cy (z 0) bq Gz (nI nz) scz ++ (wArr cy z rt (clrQ Q 8) T))) hP hD [0, 1, 2, 3, 4, 5, 6, 7, 8, 9, 10, 11, 12, 13, 14, 15, 16, 17, 18, 19, 20, 21] [22, 23, 24, 25, 26, 27, 28, 29] rfl rfl (by decide) (by decide) hk1 hFc hP1 hD1
  have hP : va_P (dC, dI) vwCl (wSim s0 z (clrM M) ++ (wCfg cy (z 0) bq Gz (nI nz) scz ++ (wArr cy z rt (clrQ Q 8) T ++ (wCfg cy c1 bc G (nI n) sc)))) H1 := hP.sub [8, 9, 10, 11, 12, 13, 14, 15, 16, 17, 18, 19, 20, 21, 22, 23, 24, 25, 26, 27, 28, 29, 0, 1, 2, 3, 4, 5, 6, 7] rfl
  have hD : va_D A (wSim s0 z (clrM M) ++ (wCfg cy (z 0) bq Gz (nI nz) scz ++ (wArr cy z rt (clrQ Q 8) T ++ (wCfg cy c1 bc G (nI n) sc)))) := hD.sub [8, 9, 10, 11, 12, 13, 14, 15, 16, 17, 18, 19, 20, 21, 22, 23, 24, 25, 26, 27, 28, 29, 0, 1, 2, 3, 4, 5, 6, 7] (by decide) rfl
  clear hz1 hk1 hPc hDc hFc hP1 hD1
  generalize H1 = H at hP hS ⊢
  refine lv_aload_n hx hb dX2_run_4 rfl (lv_at hl 0 rfl) ?_
  refine va_get (D := (dC, dI)) (ci := 2) (v := .ref (z 0)) (C := RX2) (T := TX2) (N := 15) hx hb hts hin2 hown hK hP 0 rfl rfl 0 (by decide) f_12 (fun _ h9 => h9) rfl dX2_run_5 ?_
  refine lv_aload_n hx hb dX2_run_8 rfl (lv_at hl 1 rfl) ?_
  have hPc := hP.sub (ws' := wCfg cy (z 0) bq Gz (nI nz) scz ++ (wCfg cy c1 bc G (nI n) sc)) [1, 2, 3, 4, 5, 6, 7, 8, 22, 23, 24, 25, 26, 27, 28, 29] rfl
  have hDc := hD.sub (ws' := wCfg cy (z 0) bq Gz (nI nz) scz ++ (wCfg cy c1 bc G (nI n) sc)) [1, 2, 3, 4, 5, 6, 7, 8, 22, 23, 24, 25, 26, 27, 28, 29] (by decide) rfl
  have hFc := va_free (wc := wCfg cy (z 0) bq Gz (nI nz) scz ++ (wCfg cy c1 bc G (nI n) sc)) hD hS hA [1, 2, 3, 4, 5, 6, 7, 8, 22, 23, 24, 25, 26, 27, 28, 29] rfl
  refine va_callv (va_runV (As := [.ref c1]) (rest := []) ⟨hx, hb, hml, hown, hts⟩ (c_X0_copyFrom l dC dI cy H.size (z 0) bq Gz (nI nz) scz c1 bc G n hn sc) (cwV 1 hts gX2_run_X0_copyFrom rfl rfl rfl (by decide +kernel) ⟨Nat.le_of_ble_eq_true rfl, Nat.le_of_ble_eq_true rfl⟩) ⟨bl_in, va_recv hK hPc (ci := 0) (q0 := 0) rfl rfl, pr_in hPc hE hDc⟩ rfl rfl hl.1 rfl (lv_room (Nat.le_of_ble_eq_true rfl)) dX2_run_9 ⟨Nat.le_of_ble_eq_true rfl, Nat.le_of_ble_eq_true rfl⟩) hS (fun q _ h => hFc q h) hFc (fun u t H1 locs ht hvm hw hB hz1 hk1 hS => ?_)
  rw [hGt] at hB
  obtain ⟨hP1, hD1⟩ := hB
  rw [ht] at hP1
  obtain ⟨hP, hD⟩ := va_join (wr := wSim s0 z (clrM M) ++ (wArr cy z rt (clrQ Q 8) T)) (w1 := wCfg cy (z 0) bq Gt (nI n) sc ++ (wCfg cy c1 bc G (nI n) sc)) hP hD [1, 2, 3, 4, 5, 6, 7, 8, 22, 23, 24, 25, 26, 27, 28, 29] [0, 9, 10, 11, 12, 13, 14, 15, 16, 17, 18, 19, 20, 21] rfl rfl (by decide) (by decide) hk1 hFc hP1 hD1
  have hP : va_P (dC, dI) vwCl (wSim s0 z (clrM M) ++ (wCfg cy (z 0) bq Gt (nI n) sc ++ (wArr cy z rt (clrQ Q 8) T ++ (wCfg cy c1 bc G (nI n) sc)))) H1 := hP.sub [0, 14, 15, 16, 17, 18, 19, 20, 21, 1, 2, 3, 4, 5, 6, 7, 8, 9, 10, 11, 12, 13, 22, 23, 24, 25, 26, 27, 28, 29] rfl
  have hD : va_D A (wSim s0 z (clrM M) ++ (wCfg cy (z 0) bq Gt (nI n) sc ++ (wArr cy z rt (clrQ Q 8) T ++ (wCfg cy c1 bc G (nI n) sc)))) := hD.sub [0, 14, 15, 16, 17, 18, 19, 20, 21, 1, 2, 3, 4, 5, 6, 7, 8, 9, 10, 11, 12, 13, 22, 23, 24, 25, 26, 27, 28, 29] (by decide) rfl
  clear hz1 hk1 hPc hDc hFc hP1 hD1
  generalize H1 = H at hP hS ⊢
  refine lv_aload_n hx hb dX2_run_12 rfl (lv_at hl 0 rfl) ?_
  refine lv_iload_n hx hb dX2_run_13 rfl (lv_at hl 2 rfl) ?_
  refine va_put (D := (dC, dI)) (ci := 2) (v := .int sd) (ty := .int) (C := RX2) (T := TX2) (N := 15) hx hb hts hin2 tyX2 tyX2_ok nmX2 hown hK hP hD hS 0 rfl rfl 7 (by decide) f_43 (fun _ h9 => h9) rfl (by decide +kernel) rfl rfl (Nat.le_of_ble_eq_true rfl) dX2_run_14 (fun H locs hP hD hS => ?_)
  have hP : va_P (dC, dI) vwCl (wSim s0 z (upd (clrM M) 7 sd) ++ (wCfg cy (z 0) bq Gt (nI n) sc ++ (wArr cy z rt (clrQ Q 8) T ++ (wCfg cy c1 bc G (nI n) sc)))) H := hP
  have hD : va_D A (wSim s0 z (upd (clrM M) 7 sd) ++ (wCfg cy (z 0) bq Gt (nI n) sc ++ (wArr cy z rt (clrQ Q 8) T ++ (wCfg cy c1 bc G (nI n) sc)))) := hD
  refine lv_aload_n hx hb dX2_run_17 rfl (lv_at hl 0 rfl) ?_
  refine lv_iload_n hx hb dX2_run_18 rfl (lv_at hl 3 rfl) ?_
  refine va_put (D := (dC, dI)) (ci := 2) (v := .int ov) (ty := .int) (C := RX2) (T := TX2) (N := 15) hx hb hts hin2 tyX2 tyX2_ok nmX2 hown hK hP hD hS 0 rfl rfl 8 (by decide) f_47 (fun _ h9 => h9) rfl (by decide +kernel) rfl rfl (Nat.le_of_ble_eq_true rfl) dX2_run_19 (fun H locs hP hD hS => ?_)
  have hP : va_P (dC, dI) vwCl (wSim s0 z (upd (upd (clrM M) 7 sd) 8 ov) ++ (wCfg cy (z 0) bq Gt (nI n) sc ++ (wArr cy z rt (clrQ Q 8) T ++ (wCfg cy c1 bc G (nI n) sc)))) H := hP
  have hD : va_D A (wSim s0 z (upd (upd (clrM M) 7 sd) 8 ov) ++ (wCfg cy (z 0) bq Gt (nI n) sc ++ (wArr cy z rt (clrQ Q 8) T ++ (wCfg cy c1 bc G (nI n) sc)))) := hD
  refine lv_aload_n hx hb dX2_run_22 rfl (lv_at hl 0 rfl) ?_
  refine lv_iload hx hb dX2_run_23 (lv_at hl 4 rfl) ?_
  refine lv_sipush (v := 200) hx hb dX2_run_25 (by decide) ?_
  refine va_mmin hx hb (by rw [hml]; exact hl.1.symm) hown (hts (.methodLink RX2 50 Lib.Math.min.name) (by decide +kernel)) (hts (.static Lib.Math.min.name) (by decide +kernel)) (hts (.initialized "java/lang/Math") (by decide +kernel)) (hts (.code Lib.Math.min.name Lib.Math.min.code 2 (some .int)) (by decide +kernel)) (Nat.le_of_ble_eq_true rfl) (Nat.le_of_ble_eq_true rfl) (Nat.le_of_ble_eq_true rfl) (Nat.le_of_ble_eq_true rfl) dX2_run_28 ?_
  refine lv_topi (fun y_ ey_ => ?_)
  obtain rfl : y_ = nI hz := ey_.trans (min200 hz8)
  refine va_put (D := (dC, dI)) (ci := 2) (v := .int (nI hz)) (ty := .int) (C := RX2) (T := TX2) (N := 15) hx hb hts hin2 tyX2 tyX2_ok nmX2 hown hK hP hD hS 0 rfl rfl 9 (by decide) f_56 (fun _ h9 => h9) rfl (by decide +kernel) rfl rfl (Nat.le_of_ble_eq_true rfl) dX2_run_31 (fun H locs hP hD hS => ?_)
  have hP : va_P (dC, dI) vwCl (wSim s0 z (upd (upd (upd (clrM M) 7 sd) 8 ov) 9 (nI hz)) ++ (wCfg cy (z 0) bq Gt (nI n) sc ++ (wArr cy z rt (clrQ Q 8) T ++ (wCfg cy c1 bc G (nI n) sc)))) H := hP
  have hD : va_D A (wSim s0 z (upd (upd (upd (clrM M) 7 sd) 8 ov) 9 (nI hz)) ++ (wCfg cy (z 0) bq Gt (nI n) sc ++ (wArr cy z rt (clrQ Q 8) T ++ (wCfg cy c1 bc G (nI n) sc)))) := hD
  refine lv_iconst (v := 0) hx hb dX2_run_34 (by decide) ?_
  refine lv_istore (lv' := [(5, .int 0), (0, .ref s0), (1, .ref c1), (2, .int sd), (3, .int ov), (4, .int (nI hz))]) hx hb dX2_run_35 hl (by decide) rfl (fun ls hl => ?_)
  have loop37 : ∀ (k : Nat) (u9 : Nat) (Mk : Nat → Int32) (Qk : vG) (Tk : vG) (ls : Array Slot), u9 ≤ hz → hz < u9 + k → (Mk, Qk, Tk) = sts Gt sc n (sim0 M Q T sd ov hz) u9 → ∀ (H : Heap) (locs : List Loc), va_P (dC, dI) vwCl (wSim s0 z Mk ++ (wCfg cy (z 0) bq Gt (nI n) sc ++ (wArr cy z rt Qk Tk ++ (wCfg cy c1 bc G (nI n) sc)))) H → va_D A (wSim s0 z Mk ++ (wCfg cy (z 0) bq Gt (nI n) sc ++ (wArr cy z rt Qk Tk ++ (wCfg cy c1 bc G (nI n) sc)))) → va_S A s.heap H locs → lv_has ls 7 [(0, .ref s0), (5, .int (nI u9))] → W p l e (headSpec wsX2_run ({ frames := 3, cells := 0, slots := 0, locals := 69 }) |>.room) s m (([.ref s0, .ref c1, .int sd, .int ov, .int (nI hz)].toArray)) below meth c H locs 0 0 (MQ below (va_Qv (fun (u9 : SSt) => u9 = simE Gt n (sts Gt sc n (sim0 M Q T sd ov hz) hz)) (fun (u : SSt) t => va_P (dC, dI) vwCl (wSim s0 z u.1 ++ (wCfg cy (z 0) bq Gt (nI n) sc ++ (wArr cy z rt u.2.1 u.2.2 ++ (wCfg cy c1 bc G (nI n) sc)))) t.heap ∧ va_D (A) (wSim s0 z u.1 ++ (wCfg cy (z 0) bq Gt (nI n) sc ++ (wArr cy z rt u.2.1 u.2.2 ++ (wCfg cy c1 bc G (nI n) sc))))) (A)) ([.ref s0, .ref c1, .int sd, .int ov, .int (nI hz)].toArray) s 0 0 A) (F0 m 37 ls []) := by
    intro k
    induction k with
    | zero =>
      intro u9 Mk Qk Tk ls hu hk es
      exfalso; omega
    | succ k ih37 =>
      intro u9 Mk Qk Tk ls hu hk es H locs hP hD hS hl
      have e9 : Mk 9 = nI hz := (congrArg (fun q : SSt => q.1 9) es).trans (hok.1 u9 hu)
      refine lv_iload hx hb dX2_run_37 (lv_at hl 1 rfl) ?_
      refine lv_aload_n hx hb dX2_run_39 rfl (lv_at hl 0 rfl) ?_
      refine va_get (D := (dC, dI)) (ci := 2) (v := .int (Mk 9)) (C := RX2) (T := TX2) (N := 15) hx hb hts hin2 hown hK hP 0 rfl rfl 9 (by decide) f_56 (fun _ h9 => h9) rfl dX2_run_40 ?_
      refine lv_icmp_ge (tgt := 102) hx hb dX2_run_43 (by decide) (fun c_43 => ?_) (fun c_43 => ?_)
      · have e_u : u9 = hz := Nat.le_antisymm hu ((nI_leI (by omega) (by omega)).mp (by rw [e9] at c_43; exact c_43))
        have es9 : (Mk, Qk, Tk) = sts Gt sc n (sim0 M Q T sd ov hz) hz := by rw [es, e_u]
        have hc9 : ∀ t, t < n → ∃ c : Nat, c ≤ 300 ∧ Qk 1 t = nI c := fun t ht => by obtain ⟨c9, a, b⟩ := hok.2.2 t ht; exact ⟨c9, a, (congrArg (fun q : SSt => q.2.1 1 t) es9).trans b⟩
        refine lv_aload_n hx hb dX2_run_102 rfl (lv_at hl 0 rfl) ?_
        have hPc := hP.sub (ws' := wSim s0 z Mk ++ (wCfg cy (z 0) bq Gt (nI n) sc ++ (wArr cy z rt Qk Tk))) [0, 1, 2, 3, 4, 5, 6, 7, 8, 9, 10, 11, 12, 13, 14, 15, 16, 17, 18, 19, 20, 21] rfl
        have hDc := hD.sub (ws' := wSim s0 z Mk ++ (wCfg cy (z 0) bq Gt (nI n) sc ++ (wArr cy z rt Qk Tk))) [0, 1, 2, 3, 4, 5, 6, 7, 8, 9, 10, 11, 12, 13, 14, 15, 16, 17, 18, 19, 20, 21] (by decide) rfl
        have hFc := va_free (wc := wSim s0 z Mk ++ (wCfg cy (z 0) bq Gt (nI n) sc ++ (wArr cy z rt Qk Tk))) hD hS hA [0, 1, 2, 3, 4, 5, 6, 7, 8, 9, 10, 11, 12, 13, 14, 15, 16, 17, 18, 19, 20, 21] rfl
        refine va_callv (va_runV (As := []) (rest := []) ⟨hx, hb, hml, hown, hts⟩ (c_X2_countLatePendingJobs l dC dI cy H.size s0 z Mk bq Gt n hn sc Qk rt Tk hc9) (cwV 0 hts gX2_run_X2_countLatePendingJobs rfl rfl rfl (by decide +kernel) ⟨Nat.le_of_ble_eq_true rfl, Nat.le_of_ble_eq_true rfl⟩) ⟨bl_in, va_recv hK hPc (ci := 2) (q0 := 0) rfl rfl, pr_in hPc hE hDc⟩ rfl rfl hl.1 rfl (lv_room (Nat.le_of_ble_eq_true rfl)) dX2_run_103 ⟨Nat.le_of_ble_eq_true rfl, Nat.le_of_ble_eq_true rfl⟩) hS (fun q _ h => hFc q h) hFc (fun u t H1 locs ht hvm hw hB hz1 hk1 hS => ?_)
        obtain ⟨M_103, Q_103, T_103⟩ := u
        have e_103 : (M_103, Q_103, T_103) = _ := hw
        obtain ⟨hP1, hD1⟩ := hB
        rw [ht] at hP1
        obtain ⟨hP, hD⟩ := va_join (wr := wCfg cy c1 bc G (nI n) sc) (w1 := wSim s0 z M_103 ++ (wCfg cy (z 0) bq Gt (nI n) sc ++ (wArr cy z rt Q_103 T_103))) hP hD [0, 1, 2, 3, 4, 5, 6, 7, 8, 9, 10, 11, 12, 13, 14, 15, 16, 17, 18, 19, 20, 21] [22, 23, 24, 25, 26, 27, 28, 29] rfl rfl (by decide) (by decide) hk1 hFc hP1 hD1
        have hP : va_P (dC, dI) vwCl (wSim s0 z M_103 ++ (wCfg cy (z 0) bq Gt (nI n) sc ++ (wArr cy z rt Q_103 T_103 ++ (wCfg cy c1 bc G (nI n) sc)))) H1 := hP.sub [8, 9, 10, 11, 12, 13, 14, 15, 16, 17, 18, 19, 20, 21, 22, 23, 24, 25, 26, 27, 28, 29, 0, 1, 2, 3, 4, 5, 6, 7] rfl
        have hD : va_D A (wSim s0 z M_103 ++ (wCfg cy (z 0) bq Gt (nI n) sc ++ (wArr cy z rt Q_103 T_103 ++ (wCfg cy c1 bc G (nI n) sc)))) := hD.sub [8, 9, 10, 11, 12, 13, 14, 15, 16, 17, 18, 19, 20, 21, 22, 23, 24, 25, 26, 27, 28, 29, 0, 1, 2, 3, 4, 5, 6, 7] (by decide) rfl
        clear hz1 hk1 hPc hDc hFc hP1 hD1
        generalize H1 = H at hP hS ⊢
        have hP9 : va_P (dC, dI) vwCl (wSim s0 z M_103 ++ (wCfg cy (z 0) bq Gt (nI n) sc ++ (wArr cy z rt Q_103 T_103 ++ (wCfg cy c1 bc G (nI n) sc)))) H := hP
        have hD9 : va_D A (wSim s0 z M_103 ++ (wCfg cy (z 0) bq Gt (nI n) sc ++ (wArr cy z rt Q_103 T_103 ++ (wCfg cy c1 bc G (nI n) sc)))) := hD
        exact W.vret hx hb hr (fun t ht hW => ⟨⟨(M_103, Q_103, T_103), rfl, (by rw [simE, ← es9]; exact e_103), by rw [ht]; exact hP9, hD9⟩, hS.F ht⟩) hS.2.2 dX2_run_106
      · have hlt : u9 < hz := Nat.lt_of_not_le (fun h => c_43 (by rw [e9]; exact nI_le h (by omega)))
        refine lv_aload_n hx hb dX2_run_46 rfl (lv_at hl 0 rfl) ?_
        refine vp_callSi (va_runV (As := []) (rest := []) ⟨hx, hb, hml, hown, hts⟩ (c_X2_earliestTask l dC dI cy s0 z Mk bq Gt n hn sc Qk rt Tk) (cwV 0 hts gX2_run_X2_earliestTask rfl rfl rfl (by decide +kernel) ⟨Nat.le_of_ble_eq_true rfl, Nat.le_of_ble_eq_true rfl⟩) ⟨bl_ro, va_recv hK (hP.sub (ws' := wSim s0 z Mk ++ (wCfg cy (z 0) bq Gt (nI n) sc ++ (wArr cy z rt Qk Tk))) [0, 1, 2, 3, 4, 5, 6, 7, 8, 9, 10, 11, 12, 13, 14, 15, 16, 17, 18, 19, 20, 21] rfl) (ci := 2) (q0 := 0) rfl rfl, pr_ro (hP.sub (ws' := wSim s0 z Mk ++ (wCfg cy (z 0) bq Gt (nI n) sc ++ (wArr cy z rt Qk Tk))) [0, 1, 2, 3, 4, 5, 6, 7, 8, 9, 10, 11, 12, 13, 14, 15, 16, 17, 18, 19, 20, 21] rfl) hE⟩ rfl rfl hl.1 rfl (lv_room (Nat.le_of_ble_eq_true rfl)) dX2_run_47 ⟨Nat.le_of_ble_eq_true rfl, Nat.le_of_ble_eq_true rfl⟩).run (fun r e_r => ?_)
        subst e_r
        refine lv_if_ge (tgt := 58) hx hb dX2_run_50 (by decide) (fun c_50 => ?_) (fun c_50 => ?_)
        · refine lv_aload_n hx hb dX2_run_58 rfl (lv_at hl 0 rfl) ?_
          refine lv_iload hx hb dX2_run_59 (lv_at hl 1 rfl) ?_
          have hPc := hP.sub (ws' := wSim s0 z Mk ++ (wCfg cy (z 0) bq Gt (nI n) sc ++ (wArr cy z rt Qk Tk))) [0, 1, 2, 3, 4, 5, 6, 7, 8, 9, 10, 11, 12, 13, 14, 15, 16, 17, 18, 19, 20, 21] rfl
          have hDc := hD.sub (ws' := wSim s0 z Mk ++ (wCfg cy (z 0) bq Gt (nI n) sc ++ (wArr cy z rt Qk Tk))) [0, 1, 2, 3, 4, 5, 6, 7, 8, 9, 10, 11, 12, 13, 14, 15, 16, 17, 18, 19, 20, 21] (by decide) rfl
          have hFc := va_free (wc := wSim s0 z Mk ++ (wCfg cy (z 0) bq Gt (nI n) sc ++ (wArr cy z rt Qk Tk))) hD hS hA [0, 1, 2, 3, 4, 5, 6, 7, 8, 9, 10, 11, 12, 13, 14, 15, 16, 17, 18, 19, 20, 21] rfl
          refine va_callv (va_runV (As := [.int (nI u9)]) (rest := []) ⟨hx, hb, hml, hown, hts⟩ (c_X2_releaseDueJobs l dC dI cy H.size s0 z Mk bq Gt n hn sc Qk rt Tk u9 (by omega)) (cwV 1 hts gX2_run_X2_releaseDueJobs rfl rfl rfl (by decide +kernel) ⟨Nat.le_of_ble_eq_true rfl, Nat.le_of_ble_eq_true rfl⟩) ⟨bl_in, va_recv hK hPc (ci := 2) (q0 := 0) rfl rfl, pr_in hPc hE hDc⟩ rfl rfl hl.1 rfl (lv_room (Nat.le_of_ble_eq_true rfl)) dX2_run_61 ⟨Nat.le_of_ble_eq_true rfl, Nat.le_of_ble_eq_true rfl⟩) hS (fun q _ h => hFc q h) hFc (fun u t H1 locs ht hvm hw hB hz1 hk1 hS => ?_)
          obtain ⟨M_61, Q_61, T_61⟩ := u
          have e_61 : (M_61, Q_61, T_61) = _ := hw
          obtain ⟨hP1, hD1⟩ := hB
          rw [ht] at hP1
          obtain ⟨hP, hD⟩ := va_join (wr := wCfg cy c1 bc G (nI n) sc) (w1 := wSim s0 z M_61 ++ (wCfg cy (z 0) bq Gt (nI n) sc ++ (wArr cy z rt Q_61 T_61))) hP hD [0, 1, 2, 3, 4, 5, 6, 7, 8, 9, 10, 11, 12, 13, 14, 15, 16, 17, 18, 19, 20, 21] [22, 23, 24, 25, 26, 27, 28, 29] rfl rfl (by decide) (by decide) hk1 hFc hP1 hD1
          have hP : va_P (dC, dI) vwCl (wSim s0 z M_61 ++ (wCfg cy (z 0) bq Gt (nI n) sc ++ (wArr cy z rt Q_61 T_61 ++ (wCfg cy c1 bc G (nI n) sc)))) H1 := hP.sub [8, 9, 10, 11, 12, 13, 14, 15, 16, 17, 18, 19, 20, 21, 22, 23, 24, 25, 26, 27, 28, 29, 0, 1, 2, 3, 4, 5, 6, 7] rfl
          have hD : va_D A (wSim s0 z M_61 ++ (wCfg cy (z 0) bq Gt (nI n) sc ++ (wArr cy z rt Q_61 T_61 ++ (wCfg cy c1 bc G (nI n) sc)))) := hD.sub [8, 9, 10, 11, 12, 13, 14, 15, 16, 17, 18, 19, 20, 21, 22, 23, 24, 25, 26, 27, 28, 29, 0, 1, 2, 3, 4, 5, 6, 7] (by decide) rfl
          clear hz1 hk1 hPc hDc hFc hP1 hD1
          generalize H1 = H at hP hS ⊢
          refine lv_aload_n hx hb dX2_run_64 rfl (lv_at hl 0 rfl) ?_
          refine vp_callSi (va_runV (As := []) (rest := []) ⟨hx, hb, hml, hown, hts⟩ (c_X2_earliestTask l dC dI cy s0 z M_61 bq Gt n hn sc Q_61 rt T_61) (cwV 0 hts gX2_run_X2_earliestTask rfl rfl rfl (by decide +kernel) ⟨Nat.le_of_ble_eq_true rfl, Nat.le_of_ble_eq_true rfl⟩) ⟨bl_ro, va_recv hK (hP.sub (ws' := wSim s0 z M_61 ++ (wCfg cy (z 0) bq Gt (nI n) sc ++ (wArr cy z rt Q_61 T_61))) [0, 1, 2, 3, 4, 5, 6, 7, 8, 9, 10, 11, 12, 13, 14, 15, 16, 17, 18, 19, 20, 21] rfl) (ci := 2) (q0 := 0) rfl rfl, pr_ro (hP.sub (ws' := wSim s0 z M_61 ++ (wCfg cy (z 0) bq Gt (nI n) sc ++ (wArr cy z rt Q_61 T_61))) [0, 1, 2, 3, 4, 5, 6, 7, 8, 9, 10, 11, 12, 13, 14, 15, 16, 17, 18, 19, 20, 21] rfl) hE⟩ rfl rfl hl.1 rfl (lv_room (Nat.le_of_ble_eq_true rfl)) dX2_run_65 ⟨Nat.le_of_ble_eq_true rfl, Nat.le_of_ble_eq_true rfl⟩).run (fun r e_r => ?_)
          subst e_r
          refine lv_istore (lv' := [(6, .int ((ect Gt sc M_61 Q_61 n).1)), (0, .ref s0), (5, .int (nI u9))]) hx hb dX2_run_68 hl (by decide) rfl (fun ls hl => ?_)
          refine lv_iload hx hb dX2_run_70 (lv_at hl 0 rfl) ?_
          refine lv_if_ge (tgt := 88) hx hb dX2_run_72 (by decide) (fun c_72 => ?_) (fun c_72 => ?_)
          · obtain ⟨j, hj, ej⟩ := ect_nn hn (Int32.not_lt.mpr c_72)
            obtain ⟨o, ho8, ho⟩ : ∃ o, o < 200 ∧ Q_61 2 j = nI o := by have h9 := hok.2.1 u9 hlt j hj; rw [← es, stpA, if_neg (Int32.not_lt.mpr c_50), ← e_61] at h9; exact h9 ej
            refine lv_aload_n hx hb dX2_run_88 rfl (lv_at hl 1 rfl) ?_
            refine lv_iload hx hb dX2_run_89 (lv_at hl 0 rfl) ?_
            refine lv_topi (fun y_ ey_ => ?_)
            obtain rfl : y_ = nI j := ey_.trans ej
            refine lv_iload hx hb dX2_run_91 (lv_at hl 2 rfl) ?_
            have hPc := hP.sub (ws' := wSim s0 z M_61 ++ (wCfg cy (z 0) bq Gt (nI n) sc ++ (wArr cy z rt Q_61 T_61))) [0, 1, 2, 3, 4, 5, 6, 7, 8, 9, 10, 11, 12, 13, 14, 15, 16, 17, 18, 19, 20, 21] rfl
            have hDc := hD.sub (ws' := wSim s0 z M_61 ++ (wCfg cy (z 0) bq Gt (nI n) sc ++ (wArr cy z rt Q_61 T_61))) [0, 1, 2, 3, 4, 5, 6, 7, 8, 9, 10, 11, 12, 13, 14, 15, 16, 17, 18, 19, 20, 21] (by decide) rfl
            have hFc := va_free (wc := wSim s0 z M_61 ++ (wCfg cy (z 0) bq Gt (nI n) sc ++ (wArr cy z rt Q_61 T_61))) hD hS hA [0, 1, 2, 3, 4, 5, 6, 7, 8, 9, 10, 11, 12, 13, 14, 15, 16, 17, 18, 19, 20, 21] rfl
            refine va_callv (va_runV (As := [.int (nI j), .int (nI u9)]) (rest := []) ⟨hx, hb, hml, hown, hts⟩ (c_X2_runOldestJob l dC dI cy H.size s0 z M_61 bq Gt n hn sc Q_61 rt T_61 j (by omega) u9 (by omega) o ho8 ho) (cwV 2 hts gX2_run_X2_runOldestJob rfl rfl rfl (by decide +kernel) ⟨Nat.le_of_ble_eq_true rfl, Nat.le_of_ble_eq_true rfl⟩) ⟨bl_in, va_recv hK hPc (ci := 2) (q0 := 0) rfl rfl, pr_in hPc hE hDc⟩ rfl rfl hl.1 rfl (lv_room (Nat.le_of_ble_eq_true rfl)) dX2_run_93 ⟨Nat.le_of_ble_eq_true rfl, Nat.le_of_ble_eq_true rfl⟩) hS (fun q _ h => hFc q h) hFc (fun u t H1 locs ht hvm hw hB hz1 hk1 hS => ?_)
            obtain ⟨M_93, Q_93, T_93⟩ := u
            have e_93 : (M_93, Q_93, T_93) = _ := hw
            obtain ⟨hP1, hD1⟩ := hB
            rw [ht] at hP1
            obtain ⟨hP, hD⟩ := va_join (wr := wCfg cy c1 bc G (nI n) sc) (w1 := wSim s0 z M_93 ++ (wCfg cy (z 0) bq Gt (nI n) sc ++ (wArr cy z rt Q_93 T_93))) hP hD [0, 1, 2, 3, 4, 5, 6, 7, 8, 9, 10, 11, 12, 13, 14, 15, 16, 17, 18, 19, 20, 21] [22, 23, 24, 25, 26, 27, 28, 29] rfl rfl (by decide) (by decide) hk1 hFc hP1 hD1
            have hP : va_P (dC, dI) vwCl (wSim s0 z M_93 ++ (wCfg cy (z 0) bq Gt (nI n) sc ++ (wArr cy z rt Q_93 T_93 ++ (wCfg cy c1 bc G (nI n) sc)))) H1 := hP.sub [8, 9, 10, 11, 12, 13, 14, 15, 16, 17, 18, 19, 20, 21, 22, 23, 24, 25, 26, 27, 28, 29, 0, 1, 2, 3, 4, 5, 6, 7] rfl
            have hD : va_D A (wSim s0 z M_93 ++ (wCfg cy (z 0) bq Gt (nI n) sc ++ (wArr cy z rt Q_93 T_93 ++ (wCfg cy c1 bc G (nI n) sc)))) := hD.sub [8, 9, 10, 11, 12, 13, 14, 15, 16, 17, 18, 19, 20, 21, 22, 23, 24, 25, 26, 27, 28, 29, 0, 1, 2, 3, 4, 5, 6, 7] (by decide) rfl
            clear hz1 hk1 hPc hDc hFc hP1 hD1
            generalize H1 = H at hP hS ⊢
            refine lv_iinc (v := nI (u9 + 1)) (lv' := [(5, .int (nI (u9 + 1))), (6, .int ((ect Gt sc M_61 Q_61 n).1)), (0, .ref s0)]) hx hb dX2_run_96 hl (k := 2) rfl (nI_1 _) (by decide) rfl (fun ls hl => ?_)
            refine lv_goto (tgt := 37) hx hb dX2_run_99 (by decide) ?_
            exact ih37 (u9 + 1) _ _ _ ls (by omega) (by omega) (by rw [sts, ← es, stpA, if_neg (Int32.not_lt.mpr c_50), ← e_61, stpB, if_neg (Int32.not_lt.mpr c_72)]; show _ = runO Gt n (ect Gt sc M_61 Q_61 n).1.toNatClampNeg u9 (M_61, Q_61, T_61); rw [ej, nI_clamp (by omega)]; exact e_93) _ _ hP hD hS (lv_sub hl [2, 0] rfl)
          · refine lv_aload_n hx hb dX2_run_75 rfl (lv_at hl 1 rfl) ?_
            refine lv_dup hx hb dX2_run_76 rfl ?_
            refine va_get (D := (dC, dI)) (ci := 2) (v := .int (M_61 14)) (C := RX2) (T := TX2) (N := 15) hx hb hts hin2 hown hK hP 0 rfl rfl 14 (by decide) f_70 (fun _ h9 => h9) rfl dX2_run_77 ?_
            refine lv_iconst (v := 1) hx hb dX2_run_80 (by decide) ?_
            refine lv_iadd hx hb dX2_run_81 ?_
            refine va_put (D := (dC, dI)) (ci := 2) (v := .int ((M_61 14) + 1)) (ty := .int) (C := RX2) (T := TX2) (N := 15) hx hb hts hin2 tyX2 tyX2_ok nmX2 hown hK hP hD hS 0 rfl rfl 14 (by decide) f_70 (fun _ h9 => h9) rfl (by decide +kernel) rfl rfl (Nat.le_of_ble_eq_true rfl) dX2_run_82 (fun H locs hP hD hS => ?_)
            have hP : va_P (dC, dI) vwCl (wSim s0 z (upd M_61 14 ((M_61 14) + 1)) ++ (wCfg cy (z 0) bq Gt (nI n) sc ++ (wArr cy z rt Q_61 T_61 ++ (wCfg cy c1 bc G (nI n) sc)))) H := hP
            have hD : va_D A (wSim s0 z (upd M_61 14 ((M_61 14) + 1)) ++ (wCfg cy (z 0) bq Gt (nI n) sc ++ (wArr cy z rt Q_61 T_61 ++ (wCfg cy c1 bc G (nI n) sc)))) := hD
            refine lv_goto (tgt := 96) hx hb dX2_run_85 (by decide) ?_
            refine lv_iinc (v := nI (u9 + 1)) (lv' := [(5, .int (nI (u9 + 1))), (6, .int ((ect Gt sc M_61 Q_61 n).1)), (0, .ref s0)]) hx hb dX2_run_96 hl (k := 2) rfl (nI_1 _) (by decide) rfl (fun ls hl => ?_)
            refine lv_goto (tgt := 37) hx hb dX2_run_99 (by decide) ?_
            exact ih37 (u9 + 1) _ _ _ ls (by omega) (by omega) (by rw [sts, ← es, stpA, if_neg (Int32.not_lt.mpr c_50), ← e_61, stpB, if_pos (Int32.not_le.mp c_72)]) _ _ hP hD hS (lv_sub hl [2, 0] rfl)
        · refine lv_aload_n hx hb dX2_run_53 rfl (lv_at hl 0 rfl) ?_
          refine lv_iconst (v := 0) hx hb dX2_run_54 (by decide) ?_
          refine va_put (D := (dC, dI)) (ci := 2) (v := .int 0) (ty := .int) (C := RX2) (T := TX2) (N := 15) hx hb hts hin2 tyX2 tyX2_ok nmX2 hown hK hP hD hS 0 rfl rfl 6 (by decide) f_63 (fun _ h9 => h9) rfl (by decide +kernel) rfl rfl (Nat.le_of_ble_eq_true rfl) dX2_run_55 (fun H locs hP hD hS => ?_)
          have hP : va_P (dC, dI) vwCl (wSim s0 z (upd Mk 6 0) ++ (wCfg cy (z 0) bq Gt (nI n) sc ++ (wArr cy z rt Qk Tk ++ (wCfg cy c1 bc G (nI n) sc)))) H := hP
          have hD : va_D A (wSim s0 z (upd Mk 6 0) ++ (wCfg cy (z 0) bq Gt (nI n) sc ++ (wArr cy z rt Qk Tk ++ (wCfg cy c1 bc G (nI n) sc)))) := hD
          refine lv_aload_n hx hb dX2_run_58 rfl (lv_at hl 0 rfl) ?_
          refine lv_iload hx hb dX2_run_59 (lv_at hl 1 rfl) ?_
          have hPc := hP.sub (ws' := wSim s0 z (upd Mk 6 0) ++ (wCfg cy (z 0) bq Gt (nI n) sc ++ (wArr cy z rt Qk Tk))) [0, 1, 2, 3, 4, 5, 6, 7, 8, 9, 10, 11, 12, 13, 14, 15, 16, 17, 18, 19, 20, 21] rfl
          have hDc := hD.sub (ws' := wSim s0 z (upd Mk 6 0) ++ (wCfg cy (z 0) bq Gt (nI n) sc ++ (wArr cy z rt Qk Tk))) [0, 1, 2, 3, 4, 5, 6, 7, 8, 9, 10, 11, 12, 13, 14, 15, 16, 17, 18, 19, 20, 21] (by decide) rfl
          have hFc := va_free (wc := wSim s0 z (upd Mk 6 0) ++ (wCfg cy (z 0) bq Gt (nI n) sc ++ (wArr cy z rt Qk Tk))) hD hS hA [0, 1, 2, 3, 4, 5, 6, 7, 8, 9, 10, 11, 12, 13, 14, 15, 16, 17, 18, 19, 20, 21] rfl
          refine va_callv (va_runV (As := [.int (nI u9)]) (rest := []) ⟨hx, hb, hml, hown, hts⟩ (c_X2_releaseDueJobs l dC dI cy H.size s0 z (upd Mk 6 0) bq Gt n hn sc Qk rt Tk u9 (by omega)) (cwV 1 hts gX2_run_X2_releaseDueJobs rfl rfl rfl (by decide +kernel) ⟨Nat.le_of_ble_eq_true rfl, Nat.le_of_ble_eq_true rfl⟩) ⟨bl_in, va_recv hK hPc (ci := 2) (q0 := 0) rfl rfl, pr_in hPc hE hDc⟩ rfl rfl hl.1 rfl (lv_room (Nat.le_of_ble_eq_true rfl)) dX2_run_61 ⟨Nat.le_of_ble_eq_true rfl, Nat.le_of_ble_eq_true rfl⟩) hS (fun q _ h => hFc q h) hFc (fun u t H1 locs ht hvm hw hB hz1 hk1 hS => ?_)
          obtain ⟨M_61, Q_61, T_61⟩ := u
          have e_61 : (M_61, Q_61, T_61) = _ := hw
          obtain ⟨hP1, hD1⟩ := hB
          rw [ht] at hP1
          obtain ⟨hP, hD⟩ := va_join (wr := wCfg cy c1 bc G (nI n) sc) (w1 := wSim s0 z M_61 ++ (wCfg cy (z 0) bq Gt (nI n) sc ++ (wArr cy z rt Q_61 T_61))) hP hD [0, 1, 2, 3, 4, 5, 6, 7, 8, 9, 10, 11, 12, 13, 14, 15, 16, 17, 18, 19, 20, 21] [22, 23, 24, 25, 26, 27, 28, 29] rfl rfl (by decide) (by decide) hk1 hFc hP1 hD1
          have hP : va_P (dC, dI) vwCl (wSim s0 z M_61 ++ (wCfg cy (z 0) bq Gt (nI n) sc ++ (wArr cy z rt Q_61 T_61 ++ (wCfg cy c1 bc G (nI n) sc)))) H1 := hP.sub [8, 9, 10, 11, 12, 13, 14, 15, 16, 17, 18, 19, 20, 21, 22, 23, 24, 25, 26, 27, 28, 29, 0, 1, 2, 3, 4, 5, 6, 7] rfl
          have hD : va_D A (wSim s0 z M_61 ++ (wCfg cy (z 0) bq Gt (nI n) sc ++ (wArr cy z rt Q_61 T_61 ++ (wCfg cy c1 bc G (nI n) sc)))) := hD.sub [8, 9, 10, 11, 12, 13, 14, 15, 16, 17, 18, 19, 20, 21, 22, 23, 24, 25, 26, 27, 28, 29, 0, 1, 2, 3, 4, 5, 6, 7] (by decide) rfl
          clear hz1 hk1 hPc hDc hFc hP1 hD1
          generalize H1 = H at hP hS ⊢
          refine lv_aload_n hx hb dX2_run_64 rfl (lv_at hl 0 rfl) ?_
          refine vp_callSi (va_runV (As := []) (rest := []) ⟨hx, hb, hml, hown, hts⟩ (c_X2_earliestTask l dC dI cy s0 z M_61 bq Gt n hn sc Q_61 rt T_61) (cwV 0 hts gX2_run_X2_earliestTask rfl rfl rfl (by decide +kernel) ⟨Nat.le_of_ble_eq_true rfl, Nat.le_of_ble_eq_true rfl⟩) ⟨bl_ro, va_recv hK (hP.sub (ws' := wSim s0 z M_61 ++ (wCfg cy (z 0) bq Gt (nI n) sc ++ (wArr cy z rt Q_61 T_61))) [0, 1, 2, 3, 4, 5, 6, 7, 8, 9, 10, 11, 12, 13, 14, 15, 16, 17, 18, 19, 20, 21] rfl) (ci := 2) (q0 := 0) rfl rfl, pr_ro (hP.sub (ws' := wSim s0 z M_61 ++ (wCfg cy (z 0) bq Gt (nI n) sc ++ (wArr cy z rt Q_61 T_61))) [0, 1, 2, 3, 4, 5, 6, 7, 8, 9, 10, 11, 12, 13, 14, 15, 16, 17, 18, 19, 20, 21] rfl) hE⟩ rfl rfl hl.1 rfl (lv_room (Nat.le_of_ble_eq_true rfl)) dX2_run_65 ⟨Nat.le_of_ble_eq_true rfl, Nat.le_of_ble_eq_true rfl⟩).run (fun r e_r => ?_)
          subst e_r
          refine lv_istore (lv' := [(6, .int ((ect Gt sc M_61 Q_61 n).1)), (0, .ref s0), (5, .int (nI u9))]) hx hb dX2_run_68 hl (by decide) rfl (fun ls hl => ?_)
          refine lv_iload hx hb dX2_run_70 (lv_at hl 0 rfl) ?_
          refine lv_if_ge (tgt := 88) hx hb dX2_run_72 (by decide) (fun c_72 => ?_) (fun c_72 => ?_)
          · obtain ⟨j, hj, ej⟩ := ect_nn hn (Int32.not_lt.mpr c_72)
            obtain ⟨o, ho8, ho⟩ : ∃ o, o < 200 ∧ Q_61 2 j = nI o := by have h9 := hok.2.1 u9 hlt j hj; rw [← es, stpA, if_pos (Int32.not_le.mp c_50), ← e_61] at h9; exact h9 ej
            refine lv_aload_n hx hb dX2_run_88 rfl (lv_at hl 1 rfl) ?_
            refine lv_iload hx hb dX2_run_89 (lv_at hl 0 rfl) ?_
            refine lv_topi (fun y_ ey_ => ?_)
            obtain rfl : y_ = nI j := ey_.trans ej
            refine lv_iload hx hb dX2_run_91 (lv_at hl 2 rfl) ?_
            have hPc := hP.sub (ws' := wSim s0 z M_61 ++ (wCfg cy (z 0) bq Gt (nI n) sc ++ (wArr cy z rt Q_61 T_61))) [0, 1, 2, 3, 4, 5, 6, 7, 8, 9, 10, 11, 12, 13, 14, 15, 16, 17, 18, 19, 20, 21] rfl
            have hDc := hD.sub (ws' := wSim s0 z M_61 ++ (wCfg cy (z 0) bq Gt (nI n) sc ++ (wArr cy z rt Q_61 T_61))) [0, 1, 2, 3, 4, 5, 6, 7, 8, 9, 10, 11, 12, 13, 14, 15, 16, 17, 18, 19, 20, 21] (by decide) rfl
            have hFc := va_free (wc := wSim s0 z M_61 ++ (wCfg cy (z 0) bq Gt (nI n) sc ++ (wArr cy z rt Q_61 T_61))) hD hS hA [0, 1, 2, 3, 4, 5, 6, 7, 8, 9, 10, 11, 12, 13, 14, 15, 16, 17, 18, 19, 20, 21] rfl
            refine va_callv (va_runV (As := [.int (nI j), .int (nI u9)]) (rest := []) ⟨hx, hb, hml, hown, hts⟩ (c_X2_runOldestJob l dC dI cy H.size s0 z M_61 bq Gt n hn sc Q_61 rt T_61 j (by omega) u9 (by omega) o ho8 ho) (cwV 2 hts gX2_run_X2_runOldestJob rfl rfl rfl (by decide +kernel) ⟨Nat.le_of_ble_eq_true rfl, Nat.le_of_ble_eq_true rfl⟩) ⟨bl_in, va_recv hK hPc (ci := 2) (q0 := 0) rfl rfl, pr_in hPc hE hDc⟩ rfl rfl hl.1 rfl (lv_room (Nat.le_of_ble_eq_true rfl)) dX2_run_93 ⟨Nat.le_of_ble_eq_true rfl, Nat.le_of_ble_eq_true rfl⟩) hS (fun q _ h => hFc q h) hFc (fun u t H1 locs ht hvm hw hB hz1 hk1 hS => ?_)
            obtain ⟨M_93, Q_93, T_93⟩ := u
            have e_93 : (M_93, Q_93, T_93) = _ := hw
            obtain ⟨hP1, hD1⟩ := hB
            rw [ht] at hP1
            obtain ⟨hP, hD⟩ := va_join (wr := wCfg cy c1 bc G (nI n) sc) (w1 := wSim s0 z M_93 ++ (wCfg cy (z 0) bq Gt (nI n) sc ++ (wArr cy z rt Q_93 T_93))) hP hD [0, 1, 2, 3, 4, 5, 6, 7, 8, 9, 10, 11, 12, 13, 14, 15, 16, 17, 18, 19, 20, 21] [22, 23, 24, 25, 26, 27, 28, 29] rfl rfl (by decide) (by decide) hk1 hFc hP1 hD1
            have hP : va_P (dC, dI) vwCl (wSim s0 z M_93 ++ (wCfg cy (z 0) bq Gt (nI n) sc ++ (wArr cy z rt Q_93 T_93 ++ (wCfg cy c1 bc G (nI n) sc)))) H1 := hP.sub [8, 9, 10, 11, 12, 13, 14, 15, 16, 17, 18, 19, 20, 21, 22, 23, 24, 25, 26, 27, 28, 29, 0, 1, 2, 3, 4, 5, 6, 7] rfl
            have hD : va_D A (wSim s0 z M_93 ++ (wCfg cy (z 0) bq Gt (nI n) sc ++ (wArr cy z rt Q_93 T_93 ++ (wCfg cy c1 bc G (nI n) sc)))) := hD.sub [8, 9, 10, 11, 12, 13, 14, 15, 16, 17, 18, 19, 20, 21, 22, 23, 24, 25, 26, 27, 28, 29, 0, 1, 2, 3, 4, 5, 6, 7] (by decide) rfl
            clear hz1 hk1 hPc hDc hFc hP1 hD1
            generalize H1 = H at hP hS ⊢
            refine lv_iinc (v := nI (u9 + 1)) (lv' := [(5, .int (nI (u9 + 1))), (6, .int ((ect Gt sc M_61 Q_61 n).1)), (0, .ref s0)]) hx hb dX2_run_96 hl (k := 2) rfl (nI_1 _) (by decide) rfl (fun ls hl => ?_)
            refine lv_goto (tgt := 37) hx hb dX2_run_99 (by decide) ?_
            exact ih37 (u9 + 1) _ _ _ ls (by omega) (by omega) (by rw [sts, ← es, stpA, if_pos (Int32.not_le.mp c_50), ← e_61, stpB, if_neg (Int32.not_lt.mpr c_72)]; show _ = runO Gt n (ect Gt sc M_61 Q_61 n).1.toNatClampNeg u9 (M_61, Q_61, T_61); rw [ej, nI_clamp (by omega)]; exact e_93) _ _ hP hD hS (lv_sub hl [2, 0] rfl)
          · refine lv_aload_n hx hb dX2_run_75 rfl (lv_at hl 1 rfl) ?_
            refine lv_dup hx hb dX2_run_76 rfl ?_
            refine va_get (D := (dC, dI)) (ci := 2) (v := .int (M_61 14)) (C := RX2) (T := TX2) (N := 15) hx hb hts hin2 hown hK hP 0 rfl rfl 14 (by decide) f_70 (fun _ h9 => h9) rfl dX2_run_77 ?_
            refine lv_iconst (v := 1) hx hb dX2_run_80 (by decide) ?_
            refine lv_iadd hx hb dX2_run_81 ?_
            refine va_put (D := (dC, dI)) (ci := 2) (v := .int ((M_61 14) + 1)) (ty := .int) (C := RX2) (T := TX2) (N := 15) hx hb hts hin2 tyX2 tyX2_ok nmX2 hown hK hP hD hS 0 rfl rfl 14 (by decide) f_70 (fun _ h9 => h9) rfl (by decide +kernel) rfl rfl (Nat.le_of_ble_eq_true rfl) dX2_run_82 (fun H locs hP hD hS => ?_)
            have hP : va_P (dC, dI) vwCl (wSim s0 z (upd M_61 14 ((M_61 14) + 1)) ++ (wCfg cy (z 0) bq Gt (nI n) sc ++ (wArr cy z rt Q_61 T_61 ++ (wCfg cy c1 bc G (nI n) sc)))) H := hP
            have hD : va_D A (wSim s0 z (upd M_61 14 ((M_61 14) + 1)) ++ (wCfg cy (z 0) bq Gt (nI n) sc ++ (wArr cy z rt Q_61 T_61 ++ (wCfg cy c1 bc G (nI n) sc)))) := hD
            refine lv_goto (tgt := 96) hx hb dX2_run_85 (by decide) ?_
            refine lv_iinc (v := nI (u9 + 1)) (lv' := [(5, .int (nI (u9 + 1))), (6, .int ((ect Gt sc M_61 Q_61 n).1)), (0, .ref s0)]) hx hb dX2_run_96 hl (k := 2) rfl (nI_1 _) (by decide) rfl (fun ls hl => ?_)
            refine lv_goto (tgt := 37) hx hb dX2_run_99 (by decide) ?_
            exact ih37 (u9 + 1) _ _ _ ls (by omega) (by omega) (by rw [sts, ← es, stpA, if_pos (Int32.not_le.mp c_50), ← e_61, stpB, if_pos (Int32.not_le.mp c_72)]) _ _ hP hD hS (lv_sub hl [2, 0] rfl)
  exact loop37 (hz + 1) 0 _ _ _ ls (Nat.zero_le _) (by omega) rfl _ _ hP hD hS (lv_sub hl [1, 0] rfl)

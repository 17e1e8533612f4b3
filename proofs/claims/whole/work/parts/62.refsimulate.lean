/-! PART 62: the reference, simulate -/
def stAR (ov : Int32) (n u : Nat) (s : MSt) : MSt := rlsR u ov n 0 (upd s.1 29 (if s.1 28 = 0 then 0 else s.1 29), s.2)
/-- the state before unit u -/
def stsR (ov : Int32) (n hz : Nat) (s : MSt) : Nat → MSt
  | 0 => s
  | u + 1 => runR u (nI hz) (stAR ov n u (stsR ov n hz s u))
def simR0 (I : Nat → Int32) (R : vG) (sd : Int32) : MSt := (upd (upd (upd (upd (upd (upd (upd (upd (upd (upd I 0 0) 14 1) 15 0) 16 0) 17 0) 18 0) 28 0) 29 0) 30 sd) 31 0, upr R 19 (cpR (fun _ => 0) (R 19) 8))
/-- the jobs that wait at the end and are late: of the first j -/
def latR (s : MSt) (hz : Int32) : Nat → Int32
  | 0 => s.1 31
  | j + 1 => latR s hz j + (if hz < s.2 25 j + Gs (s.2 1) 1 (s.2 24 j).toNatClampNeg then 0 else 1)
def simRE (hz : Nat) (s : MSt) : MSt := (upd s.1 31 (latR s (nI hz) (s.1 28).toNatClampNeg), s.2)
def jobOk (n : Nat) (S : Nat → Int32) (s : MSt) : Prop := s.2 1 = S ∧ ∃ m, m ≤ 1690 ∧ s.1 28 = nI m ∧ ∀ y, y < m → ∃ t, t < n ∧ s.2 24 y = nI t
def simOkR (ov : Int32) (n hz : Nat) (s : MSt) : Prop := (∀ u, u ≤ hz → jobOk n (s.2 1) (stsR ov n hz s u)) ∧ ∀ u, u < hz → jobOk n (s.2 1) (stAR ov n u (stsR ov n hz s u))
def cSim (ov hz : Int32) : Int32 := if inr ov 0 100 ∧ inr hz 1 200 then 0 else 1
theorem hz_of {x : Int32} (h : inr x 1 200) : ∃ hz : Nat, 1 ≤ hz ∧ hz ≤ 200 ∧ x = nI hz := by
  have h0 : ¬ x < 0 := fun q => h.1 (by
    rw [Int32.lt_iff_toInt_lt] at q ⊢
    have a : (0 : Int32).toInt = 0 := by decide
    have b : (1 : Int32).toInt = 1 := by decide
    omega)
  obtain ⟨j, hj, rfl⟩ := nI_of h0
  have h1 : ¬ j < 1 := fun q => h.1 (nI_lt (b := 1) q (by omega))
  have h2 : ¬ 200 < j := fun q => h.2 (nI_lt (a := 200) q hj)
  exact ⟨j, by omega, by omega, rfl⟩
/-- the reference's simulate: what it answers and leaves -/
def qSim (I : Nat → Int32) (R : vG) (n : Nat) (sd ov p2 r : Int32) (u : MSt) : Prop :=
  (cSim ov p2 = 1 ∧ u = (upd I 0 1, R)) ∨ (cSim ov p2 = 0 ∧ ∃ hz, 1 ≤ hz ∧ hz ≤ 200 ∧ p2 = nI hz ∧ r = u.1 31 ∧ u = simRE hz (stsR ov n hz (simR0 I R sd) hz))
set_option maxHeartbeats 1000000 in
set_option maxRecDepth 100000 in
/-- a simulation -/
theorem c_X5_simulate (l : Launch) (dC : Nat → ClassId) (dI : Nat → Nat → Nat) (cy : Nat → ClassId) (sz : Nat) (m0 : Nat) (a : Nat → Nat) (I : Nat → Int32) (R : vG) (n : Nat) (hn : n ≤ 8) (hS0 : R 1 0 = nI n) (hG : okG (Gs (R 1)) n) (p0 p1 p2 : Int32) (hok0 : ∀ hz, 1 ≤ hz → hz ≤ 200 → p2 = nI hz → inr p1 0 100 → simOkR p1 n hz (simR0 I R p0)) : Met l yX5_simulate wsX5_simulate ({ frames := 5, cells := 0, slots := 0, locals := 110 }) (va_Pc [.ref m0, .int p0, .int p1, .int p2] (pIn dC dI cy (wMdl cy m0 a I R) sz)) (va_Qi (fun (r : Int32) (u : MSt) => qSim I R n p0 p1 p2 r u) (fun (u : (Nat → Int32) × vG) t => va_P (dC, dI) vwCl (wMdl cy m0 a u.1 u.2) t.heap ∧ va_D (va_A (wMdl cy m0 a I R) sz) (wMdl cy m0 a u.1 u.2)) (va_A (wMdl cy m0 a I R) sz)) 0 0 (va_A (wMdl cy m0 a I R) sz) := by
  refine Met.ofW (cc := cX5_simulate) (maxL := 5) (ret := some .int) (by decide) rfl ?_
  intro p e s m args below meth c s₁ B hml hv
  obtain ⟨rfl, hsz, hP, hE, hD0⟩ := hv
  have hK := hE.1
  subst hsz
  have hD := hD0.self (sz := s.heap.size)
  generalize hAe : va_A (wMdl cy m0 a I R) s.heap.size = A at hD ⊢
  have hA : ∀ q : Nat, s.heap.size ≤ q → A q := fun q h => by rw [← hAe]; exact Or.inr h
  have hS : va_S A s.heap s.heap [] := va_S.rf
  have hP : va_P (dC, dI) vwCl (wMdl cy m0 a I R) s.heap := hP
  have hx := B.exec
  have hb := B.bytes
  have hr := B.returns
  have hts := atoms_spec (ws := wsX5_simulate) B.pre
  have hown : s.vm.findClass RX5 = some m.cls := findClass_of_methodNamed B.named
  have hlocks := B.notSynchronized
  have hin5 : ∀ w ∈ u_ws RX5 TX5 32, w ∈ wsX5_simulate := by decide +kernel
  have f_184 := hts (.fieldLink RX5 184 "DeadlineAdmissionModel" "mode" "I") (by decide +kernel)
  have f_187 := hts (.fieldLink RX5 187 "DeadlineAdmissionModel" "dropped" "I") (by decide +kernel)
  have f_194 := hts (.fieldLink RX5 194 "DeadlineAdmissionModel" "jobs" "I") (by decide +kernel)
  have f_197 := hts (.fieldLink RX5 197 "DeadlineAdmissionModel" "drawn" "I") (by decide +kernel)
  have f_204 := hts (.fieldLink RX5 204 "DeadlineAdmissionModel" "completed" "I") (by decide +kernel)
  have f_207 := hts (.fieldLink RX5 207 "DeadlineAdmissionModel" "late" "I") (by decide +kernel)
  have f_214 := hts (.fieldLink RX5 214 "DeadlineAdmissionModel" "switches" "I") (by decide +kernel)
  have f_217 := hts (.fieldLink RX5 217 "DeadlineAdmissionModel" "idle" "I") (by decide +kernel)
  have f_29 := hts (.fieldLink RX5 29 "DeadlineAdmissionModel" "responses" "[I") (by decide +kernel)
  have f_38 := hts (.fieldLink RX5 38 "DeadlineAdmissionModel" "jobTask" "[I") (by decide +kernel)
  have f_41 := hts (.fieldLink RX5 41 "DeadlineAdmissionModel" "jobRelease" "[I") (by decide +kernel)
  have f_50 := hts (.fieldLink RX5 50 "DeadlineAdmissionModel" "thrown" "I") (by decide +kernel)
  have f_60 := hts (.fieldLink RX5 60 "DeadlineAdmissionModel" "isSimulated" "Z") (by decide +kernel)
  have f_9 := hts (.fieldLink RX5 9 "DeadlineAdmissionModel" "s" "[I") (by decide +kernel)
  have hl := lv_entry ([.ref m0, .int p0, .int p1, .int p2]) (n := 5) (Nat.le_of_ble_eq_true rfl)
  rw [lg_entry_eq]
  generalize (lg_sl ([.ref m0, .int p0, .int p1, .int p2]) ++ List.replicate (5 - (lg_sl ([.ref m0, .int p0, .int p1, .int p2])).length) Slot.unset).toArray = ls at hl ⊢
  have hl : lv_has ls 5 [(0, .ref m0), (1, .int p0), (2, .int p1), (3, .int p2)] := hl
  refine lv_aload_n hx hb dX5_simulate_0 rfl (lv_at hl 0 rfl) ?_
  refine lv_iconst (v := 0) hx hb dX5_simulate_1 (by decide) ?_
  refine va_put (D := (dC, dI)) (ci := 5) (v := .int 0) (ty := .int) (C := RX5) (T := TX5) (N := 32) hx hb hts hin5 tyX5 tyX5_ok nmX5 hown hK hP hD hS 0 rfl rfl 0 (by decide) f_50 (fun _ h9 => h9) rfl (by decide +kernel) rfl rfl (Nat.le_of_ble_eq_true rfl) dX5_simulate_2 (fun H locs hP hD hS => ?_)
  have hP : va_P (dC, dI) vwCl (wMdl cy m0 a (upd I 0 0) R) H := hP
  have hD : va_D A (wMdl cy m0 a (upd I 0 0) R) := hD
  refine lv_iload_n hx hb dX5_simulate_5 rfl (lv_at hl 2 rfl) ?_
  refine lv_iconst (v := 0) hx hb dX5_simulate_6 (by decide) ?_
  refine lv_bipush (v := 100) hx hb dX5_simulate_7 (by decide) ?_
  refine vp_callSi (va_runS (As := [.int p1, .int 0, .int 100]) (rest := []) ⟨hx, hb, hml, hown, hts⟩ (c_X5_in l p1 0 100) (cwS 3 hts gX5_simulate_X5_in rfl rfl rfl (by decide +kernel) ⟨Nat.le_of_ble_eq_true rfl, Nat.le_of_ble_eq_true rfl⟩) ⟨fun a U g mk q => q, fun U hU hW => ⟨rfl, trivial⟩⟩ rfl rfl hl.1 rfl (lv_room (Nat.le_of_ble_eq_true rfl)) dX5_simulate_9 ⟨Nat.le_of_ble_eq_true rfl, Nat.le_of_ble_eq_true rfl⟩).run (fun r e_r => ?_)
  subst e_r
  refine lv_topi (fun y_ ey_ => ?_)
  obtain rfl : y_ = if ¬ p1 < 0 ∧ ¬ 100 < p1 then 1 else 0 := ey_
  refine lv_if_eq (tgt := 26) hx hb dX5_simulate_12 (by decide) (fun c_12 => ?_) (fun c_12 => ?_)
  · refine lv_aload_n hx hb dX5_simulate_26 rfl (lv_at hl 0 rfl) ?_
    refine lv_iconst (v := 1) hx hb dX5_simulate_27 (by decide) ?_
    have hPc := hP.sub (ws' := wMdl cy m0 a (upd I 0 0) R) [0, 1, 2, 3, 4, 5, 6, 7, 8, 9, 10, 11, 12] rfl
    have hDc := hD.sub (ws' := wMdl cy m0 a (upd I 0 0) R) [0, 1, 2, 3, 4, 5, 6, 7, 8, 9, 10, 11, 12] (by decide) rfl
    have hFc := va_free (wc := wMdl cy m0 a (upd I 0 0) R) hD hS hA [0, 1, 2, 3, 4, 5, 6, 7, 8, 9, 10, 11, 12] rfl
    refine va_calli (va_runV (As := [.int 1]) (rest := []) ⟨hx, hb, hml, hown, hts⟩ (c_X5_fails l dC dI cy H.size m0 a (upd I 0 0) R 1  ) (cwV 1 hts gX5_simulate_X5_fails rfl rfl rfl (by decide +kernel) ⟨Nat.le_of_ble_eq_true rfl, Nat.le_of_ble_eq_true rfl⟩) ⟨bl_in, va_recv hK hPc (ci := 5) (q0 := 0) rfl rfl, pr_in hPc hE hDc⟩ rfl rfl hl.1 rfl (lv_room (Nat.le_of_ble_eq_true rfl)) dX5_simulate_28 ⟨Nat.le_of_ble_eq_true rfl, Nat.le_of_ble_eq_true rfl⟩) hS (fun q _ h => hFc q h) hFc (fun r u t H1 locs ht hvm hw hB hz1 hk1 hS => ?_)
    obtain rfl := hw
    obtain ⟨hP1, hD1⟩ := hB
    rw [ht] at hP1
    obtain ⟨hP, hD⟩ := va_join (wr := []) (w1 := wMdl cy m0 a (upd I 0 1) R) hP hD [0, 1, 2, 3, 4, 5, 6, 7, 8, 9, 10, 11, 12] [] rfl rfl (by decide) (by decide) hk1 hFc hP1 hD1
    have hP : va_P (dC, dI) vwCl (wMdl cy m0 a (upd I 0 1) R) H1 := hP.sub [0, 1, 2, 3, 4, 5, 6, 7, 8, 9, 10, 11, 12] rfl
    have hD : va_D A (wMdl cy m0 a (upd I 0 1) R) := hD.sub [0, 1, 2, 3, 4, 5, 6, 7, 8, 9, 10, 11, 12] (by decide) rfl
    clear hz1 hk1 hPc hDc hFc hP1 hD1
    generalize H1 = H at hP hS ⊢
    have hP9 : va_P (dC, dI) vwCl (wMdl cy m0 a (upd I 0 1) R) H := hP
    have hD9 : va_D A (wMdl cy m0 a (upd I 0 1) R) := hD
    exact W.iret (v := 0) hx hb hr (fun t ht hW => ⟨⟨0, (upd I 0 1, R), rfl, (Or.inl ⟨if_neg (fun h => b10.mp c_12 h.1), rfl⟩), by rw [ht]; exact hP9, hD9⟩, hS.F ht⟩) hS.2.2 dX5_simulate_31
  · refine lv_iload_n hx hb dX5_simulate_15 rfl (lv_at hl 3 rfl) ?_
    refine lv_iconst (v := 1) hx hb dX5_simulate_16 (by decide) ?_
    refine lv_sipush (v := 200) hx hb dX5_simulate_17 (by decide) ?_
    refine vp_callSi (va_runS (As := [.int p2, .int 1, .int 200]) (rest := []) ⟨hx, hb, hml, hown, hts⟩ (c_X5_in l p2 1 200) (cwS 3 hts gX5_simulate_X5_in rfl rfl rfl (by decide +kernel) ⟨Nat.le_of_ble_eq_true rfl, Nat.le_of_ble_eq_true rfl⟩) ⟨fun a U g mk q => q, fun U hU hW => ⟨rfl, trivial⟩⟩ rfl rfl hl.1 rfl (lv_room (Nat.le_of_ble_eq_true rfl)) dX5_simulate_20 ⟨Nat.le_of_ble_eq_true rfl, Nat.le_of_ble_eq_true rfl⟩).run (fun r e_r => ?_)
    subst e_r
    refine lv_topi (fun y_ ey_ => ?_)
    obtain rfl : y_ = if ¬ p2 < 1 ∧ ¬ 200 < p2 then 1 else 0 := ey_
    refine lv_if_ne (tgt := 32) hx hb dX5_simulate_23 (by decide) (fun c_23 => ?_) (fun c_23 => ?_)
    · obtain ⟨hz, hz1, hz2, rfl⟩ := hz_of (nb10 c_23)
      have hok := hok0 hz hz1 hz2 rfl (nb10 c_12)
      refine lv_aload_n hx hb dX5_simulate_32 rfl (lv_at hl 0 rfl) ?_
      refine lv_iconst (v := 1) hx hb dX5_simulate_33 (by decide) ?_
      refine va_put (D := (dC, dI)) (ci := 5) (v := .int 1) (ty := .boolean) (C := RX5) (T := TX5) (N := 32) hx hb hts hin5 tyX5 tyX5_ok nmX5 hown hK hP hD hS 0 rfl rfl 14 (by decide) f_60 (fun _ h9 => h9) rfl (by decide +kernel) (by decide) rfl (Nat.le_of_ble_eq_true rfl) dX5_simulate_34 (fun H locs hP hD hS => ?_)
      have hP : va_P (dC, dI) vwCl (wMdl cy m0 a (upd (upd I 0 0) 14 1) R) H := hP
      have hD : va_D A (wMdl cy m0 a (upd (upd I 0 0) 14 1) R) := hD
      refine lv_aload_n hx hb dX5_simulate_37 rfl (lv_at hl 0 rfl) ?_
      refine lv_iconst (v := 0) hx hb dX5_simulate_38 (by decide) ?_
      refine va_put (D := (dC, dI)) (ci := 5) (v := .int 0) (ty := .int) (C := RX5) (T := TX5) (N := 32) hx hb hts hin5 tyX5 tyX5_ok nmX5 hown hK hP hD hS 0 rfl rfl 15 (by decide) f_204 (fun _ h9 => h9) rfl (by decide +kernel) rfl rfl (Nat.le_of_ble_eq_true rfl) dX5_simulate_39 (fun H locs hP hD hS => ?_)
      have hP : va_P (dC, dI) vwCl (wMdl cy m0 a (upd (upd (upd I 0 0) 14 1) 15 0) R) H := hP
      have hD : va_D A (wMdl cy m0 a (upd (upd (upd I 0 0) 14 1) 15 0) R) := hD
      refine lv_aload_n hx hb dX5_simulate_42 rfl (lv_at hl 0 rfl) ?_
      refine lv_iconst (v := 0) hx hb dX5_simulate_43 (by decide) ?_
      refine va_put (D := (dC, dI)) (ci := 5) (v := .int 0) (ty := .int) (C := RX5) (T := TX5) (N := 32) hx hb hts hin5 tyX5 tyX5_ok nmX5 hown hK hP hD hS 0 rfl rfl 16 (by decide) f_187 (fun _ h9 => h9) rfl (by decide +kernel) rfl rfl (Nat.le_of_ble_eq_true rfl) dX5_simulate_44 (fun H locs hP hD hS => ?_)
      have hP : va_P (dC, dI) vwCl (wMdl cy m0 a (upd (upd (upd (upd I 0 0) 14 1) 15 0) 16 0) R) H := hP
      have hD : va_D A (wMdl cy m0 a (upd (upd (upd (upd I 0 0) 14 1) 15 0) 16 0) R) := hD
      refine lv_aload_n hx hb dX5_simulate_47 rfl (lv_at hl 0 rfl) ?_
      refine lv_iconst (v := 0) hx hb dX5_simulate_48 (by decide) ?_
      refine va_put (D := (dC, dI)) (ci := 5) (v := .int 0) (ty := .int) (C := RX5) (T := TX5) (N := 32) hx hb hts hin5 tyX5 tyX5_ok nmX5 hown hK hP hD hS 0 rfl rfl 17 (by decide) f_214 (fun _ h9 => h9) rfl (by decide +kernel) rfl rfl (Nat.le_of_ble_eq_true rfl) dX5_simulate_49 (fun H locs hP hD hS => ?_)
      have hP : va_P (dC, dI) vwCl (wMdl cy m0 a (upd (upd (upd (upd (upd I 0 0) 14 1) 15 0) 16 0) 17 0) R) H := hP
      have hD : va_D A (wMdl cy m0 a (upd (upd (upd (upd (upd I 0 0) 14 1) 15 0) 16 0) 17 0) R) := hD
      refine lv_aload_n hx hb dX5_simulate_52 rfl (lv_at hl 0 rfl) ?_
      refine lv_iconst (v := 0) hx hb dX5_simulate_53 (by decide) ?_
      refine va_put (D := (dC, dI)) (ci := 5) (v := .int 0) (ty := .int) (C := RX5) (T := TX5) (N := 32) hx hb hts hin5 tyX5 tyX5_ok nmX5 hown hK hP hD hS 0 rfl rfl 18 (by decide) f_217 (fun _ h9 => h9) rfl (by decide +kernel) rfl rfl (Nat.le_of_ble_eq_true rfl) dX5_simulate_54 (fun H locs hP hD hS => ?_)
      have hP : va_P (dC, dI) vwCl (wMdl cy m0 a (upd (upd (upd (upd (upd (upd I 0 0) 14 1) 15 0) 16 0) 17 0) 18 0) R) H := hP
      have hD : va_D A (wMdl cy m0 a (upd (upd (upd (upd (upd (upd I 0 0) 14 1) 15 0) 16 0) 17 0) 18 0) R) := hD
      refine lv_aload_n hx hb dX5_simulate_57 rfl (lv_at hl 0 rfl) ?_
      refine lv_iconst (v := 0) hx hb dX5_simulate_58 (by decide) ?_
      refine va_put (D := (dC, dI)) (ci := 5) (v := .int 0) (ty := .int) (C := RX5) (T := TX5) (N := 32) hx hb hts hin5 tyX5 tyX5_ok nmX5 hown hK hP hD hS 0 rfl rfl 28 (by decide) f_194 (fun _ h9 => h9) rfl (by decide +kernel) rfl rfl (Nat.le_of_ble_eq_true rfl) dX5_simulate_59 (fun H locs hP hD hS => ?_)
      have hP : va_P (dC, dI) vwCl (wMdl cy m0 a (upd (upd (upd (upd (upd (upd (upd I 0 0) 14 1) 15 0) 16 0) 17 0) 18 0) 28 0) R) H := hP
      have hD : va_D A (wMdl cy m0 a (upd (upd (upd (upd (upd (upd (upd I 0 0) 14 1) 15 0) 16 0) 17 0) 18 0) 28 0) R) := hD
      refine lv_aload_n hx hb dX5_simulate_62 rfl (lv_at hl 0 rfl) ?_
      refine lv_iconst (v := 0) hx hb dX5_simulate_63 (by decide) ?_
      refine va_put (D := (dC, dI)) (ci := 5) (v := .int 0) (ty := .int) (C := RX5) (T := TX5) (N := 32) hx hb hts hin5 tyX5 tyX5_ok nmX5 hown hK hP hD hS 0 rfl rfl 31 (by decide) f_207 (fun _ h9 => h9) rfl (by decide +kernel) rfl rfl (Nat.le_of_ble_eq_true rfl) dX5_simulate_64 (fun H locs hP hD hS => ?_)
      have hP : va_P (dC, dI) vwCl (wMdl cy m0 a (upd (upd (upd (upd (upd (upd (upd (upd I 0 0) 14 1) 15 0) 16 0) 17 0) 18 0) 28 0) 31 0) R) H := hP
      have hD : va_D A (wMdl cy m0 a (upd (upd (upd (upd (upd (upd (upd (upd I 0 0) 14 1) 15 0) 16 0) 17 0) 18 0) 28 0) 31 0) R) := hD
      refine lv_aload_n hx hb dX5_simulate_67 rfl (lv_at hl 0 rfl) ?_
      refine lv_iconst (v := 0) hx hb dX5_simulate_68 (by decide) ?_
      refine va_put (D := (dC, dI)) (ci := 5) (v := .int 0) (ty := .int) (C := RX5) (T := TX5) (N := 32) hx hb hts hin5 tyX5 tyX5_ok nmX5 hown hK hP hD hS 0 rfl rfl 29 (by decide) f_184 (fun _ h9 => h9) rfl (by decide +kernel) rfl rfl (Nat.le_of_ble_eq_true rfl) dX5_simulate_69 (fun H locs hP hD hS => ?_)
      have hP : va_P (dC, dI) vwCl (wMdl cy m0 a (upd (upd (upd (upd (upd (upd (upd (upd (upd I 0 0) 14 1) 15 0) 16 0) 17 0) 18 0) 28 0) 29 0) 31 0) R) H := hP
      have hD : va_D A (wMdl cy m0 a (upd (upd (upd (upd (upd (upd (upd (upd (upd I 0 0) 14 1) 15 0) 16 0) 17 0) 18 0) 28 0) 29 0) 31 0) R) := hD
      refine lv_aload_n hx hb dX5_simulate_72 rfl (lv_at hl 0 rfl) ?_
      refine lv_iload_n hx hb dX5_simulate_73 rfl (lv_at hl 1 rfl) ?_
      refine va_put (D := (dC, dI)) (ci := 5) (v := .int p0) (ty := .int) (C := RX5) (T := TX5) (N := 32) hx hb hts hin5 tyX5 tyX5_ok nmX5 hown hK hP hD hS 0 rfl rfl 30 (by decide) f_197 (fun _ h9 => h9) rfl (by decide +kernel) rfl rfl (Nat.le_of_ble_eq_true rfl) dX5_simulate_74 (fun H locs hP hD hS => ?_)
      have hP : va_P (dC, dI) vwCl (wMdl cy m0 a (upd (upd (upd (upd (upd (upd (upd (upd (upd (upd I 0 0) 14 1) 15 0) 16 0) 17 0) 18 0) 28 0) 29 0) 30 p0) 31 0) R) H := hP
      have hD : va_D A (wMdl cy m0 a (upd (upd (upd (upd (upd (upd (upd (upd (upd (upd I 0 0) 14 1) 15 0) 16 0) 17 0) 18 0) 28 0) 29 0) 30 p0) 31 0) R) := hD
      refine lv_iconst (v := 0) hx hb dX5_simulate_77 (by decide) ?_
      refine lv_istore (lv' := [(4, .int 0), (0, .ref m0), (1, .int p0), (2, .int p1), (3, .int (nI hz))]) hx hb dX5_simulate_78 hl (by decide) rfl (fun ls hl => ?_)
      have loop80 : ∀ (k : Nat) (i : Nat) (ls : Array Slot), i ≤ 8 → 8 < i + k → ∀ (H : Heap) (locs : List Loc), va_P (dC, dI) vwCl (wMdl cy m0 a (upd (upd (upd (upd (upd (upd (upd (upd (upd (upd I 0 0) 14 1) 15 0) 16 0) 17 0) 18 0) 28 0) 29 0) 30 p0) 31 0) (upr R 19 (cpR (fun _ => 0) (R 19) i))) H → va_D A (wMdl cy m0 a (upd (upd (upd (upd (upd (upd (upd (upd (upd (upd I 0 0) 14 1) 15 0) 16 0) 17 0) 18 0) 28 0) 29 0) 30 p0) 31 0) (upr R 19 (cpR (fun _ => 0) (R 19) i))) → va_S A s.heap H locs → lv_has ls 5 [(0, .ref m0), (1, .int p0), (2, .int p1), (3, .int (nI hz)), (4, .int (nI i))] → W p l e (headSpec wsX5_simulate ({ frames := 5, cells := 0, slots := 0, locals := 110 }) |>.room) s m (([.ref m0, .int p0, .int p1, .int (nI hz)].toArray)) below meth c H locs 0 0 (MQ below (va_Qi (fun (r : Int32) (u : MSt) => qSim I R n p0 p1 (nI hz) r u) (fun (u : (Nat → Int32) × vG) t => va_P (dC, dI) vwCl (wMdl cy m0 a u.1 u.2) t.heap ∧ va_D (A) (wMdl cy m0 a u.1 u.2)) (A)) ([.ref m0, .int p0, .int p1, .int (nI hz)].toArray) s 0 0 A) (F0 m 80 ls []) := by
        intro k
        induction k with
        | zero =>
          intro i ls hi hk
          exfalso; omega
        | succ k ih80 =>
          intro i ls hi hk H locs hP hD hS hl
          refine lv_iload hx hb dX5_simulate_80 (lv_at hl 4 rfl) ?_
          refine lv_bipush (v := 8) hx hb dX5_simulate_82 (by decide) ?_
          refine lv_icmp_ge (tgt := 101) hx hb dX5_simulate_84 (by decide) (fun c_84 => ?_) (fun c_84 => ?_)
          · have e_i : i = 8 := by have := (nI_leI (a := 8) (b := i) (by omega) (by omega)).mp c_84; omega
            refine lv_iconst (v := 0) hx hb dX5_simulate_101 (by decide) ?_
            refine lv_istore (lv' := [(4, .int 0), (0, .ref m0), (1, .int p0), (2, .int p1), (3, .int (nI hz))]) hx hb dX5_simulate_102 hl (by decide) rfl (fun ls hl => ?_)
            have loop104 : ∀ (k : Nat) (u9 : Nat) (Ik : Nat → Int32) (Rk : vG) (ls : Array Slot), u9 ≤ hz → hz < u9 + k → (Ik, Rk) = stsR p1 n hz (simR0 I R p0) u9 → ∀ (H : Heap) (locs : List Loc), va_P (dC, dI) vwCl (wMdl cy m0 a Ik Rk) H → va_D A (wMdl cy m0 a Ik Rk) → va_S A s.heap H locs → lv_has ls 5 [(0, .ref m0), (1, .int p0), (2, .int p1), (3, .int (nI hz)), (4, .int (nI u9))] → W p l e (headSpec wsX5_simulate ({ frames := 5, cells := 0, slots := 0, locals := 110 }) |>.room) s m (([.ref m0, .int p0, .int p1, .int (nI hz)].toArray)) below meth c H locs 0 0 (MQ below (va_Qi (fun (r : Int32) (u : MSt) => qSim I R n p0 p1 (nI hz) r u) (fun (u : (Nat → Int32) × vG) t => va_P (dC, dI) vwCl (wMdl cy m0 a u.1 u.2) t.heap ∧ va_D (A) (wMdl cy m0 a u.1 u.2)) (A)) ([.ref m0, .int p0, .int p1, .int (nI hz)].toArray) s 0 0 A) (F0 m 104 ls []) := by
              intro k
              induction k with
              | zero =>
                intro u9 Ik Rk ls hu hk es
                exfalso; omega
              | succ k ih104 =>
                intro u9 Ik Rk ls hu hk es H locs hP hD hS hl
                obtain ⟨eR1, mk, hmk, em, hJ⟩ : jobOk n (R 1) (Ik, Rk) := by rw [es]; exact hok.1 u9 hu
                have eR1 : Rk 1 = R 1 := eR1
                have em : Ik 28 = nI mk := em
                refine lv_iload hx hb dX5_simulate_104 (lv_at hl 4 rfl) ?_
                refine lv_iload_n hx hb dX5_simulate_106 rfl (lv_at hl 3 rfl) ?_
                refine lv_icmp_ge (tgt := 149) hx hb dX5_simulate_107 (by decide) (fun c_107 => ?_) (fun c_107 => ?_)
                · have e_u : u9 = hz := Nat.le_antisymm hu ((nI_leI (by omega) (by omega)).mp c_107)
                  have es9 : (Ik, Rk) = stsR p1 n hz (simR0 I R p0) hz := by rw [es, e_u]
                  refine lv_iconst (v := 0) hx hb dX5_simulate_149 (by decide) ?_
                  refine lv_istore (lv' := [(4, .int 0), (0, .ref m0), (1, .int p0), (2, .int p1), (3, .int (nI hz))]) hx hb dX5_simulate_150 hl (by decide) rfl (fun ls hl => ?_)
                  have loop152 : ∀ (k : Nat) (j : Nat) (y : Int32) (ls : Array Slot), j ≤ mk → mk < j + k → y = latR (Ik, Rk) (nI hz) j → ∀ (H : Heap) (locs : List Loc), va_P (dC, dI) vwCl (wMdl cy m0 a (upd Ik 31 y) Rk) H → va_D A (wMdl cy m0 a (upd Ik 31 y) Rk) → va_S A s.heap H locs → lv_has ls 5 [(0, .ref m0), (1, .int p0), (2, .int p1), (3, .int (nI hz)), (4, .int (nI j))] → W p l e (headSpec wsX5_simulate ({ frames := 5, cells := 0, slots := 0, locals := 110 }) |>.room) s m (([.ref m0, .int p0, .int p1, .int (nI hz)].toArray)) below meth c H locs 0 0 (MQ below (va_Qi (fun (r : Int32) (u : MSt) => qSim I R n p0 p1 (nI hz) r u) (fun (u : (Nat → Int32) × vG) t => va_P (dC, dI) vwCl (wMdl cy m0 a u.1 u.2) t.heap ∧ va_D (A) (wMdl cy m0 a u.1 u.2)) (A)) ([.ref m0, .int p0, .int p1, .int (nI hz)].toArray) s 0 0 A) (F0 m 152 ls []) := by
                    intro k
                    induction k with
                    | zero =>
                      intro j y ls hj hk2 ey
                      exfalso; omega
                    | succ k ih152 =>
                      intro j y ls hj hk2 ey H locs hP hD hS hl
                      refine lv_iload hx hb dX5_simulate_152 (lv_at hl 4 rfl) ?_
                      refine lv_aload_n hx hb dX5_simulate_154 rfl (lv_at hl 0 rfl) ?_
                      refine va_get (D := (dC, dI)) (ci := 5) (v := .int (Ik 28)) (C := RX5) (T := TX5) (N := 32) hx hb hts hin5 hown hK hP 0 rfl rfl 28 (by decide) f_194 (fun _ h9 => h9) rfl dX5_simulate_155 ?_
                      refine lv_icmp_ge (tgt := 208) hx hb dX5_simulate_158 (by decide) (fun c_158 => ?_) (fun c_158 => ?_)
                      · have e_jm : j = mk := Nat.le_antisymm hj ((nI_leI (by omega) (by omega)).mp (by rw [em] at c_158; exact c_158))
                        refine lv_aload_n hx hb dX5_simulate_208 rfl (lv_at hl 0 rfl) ?_
                        refine va_get (D := (dC, dI)) (ci := 5) (v := .int y) (C := RX5) (T := TX5) (N := 32) hx hb hts hin5 hown hK hP 0 rfl rfl 31 (by decide) f_207 (fun _ h9 => h9) rfl dX5_simulate_209 ?_
                        have hP9 : va_P (dC, dI) vwCl (wMdl cy m0 a (upd Ik 31 y) Rk) H := hP
                        have hD9 : va_D A (wMdl cy m0 a (upd Ik 31 y) Rk) := hD
                        exact W.iret (v := y) hx hb hr (fun t ht hW => ⟨⟨y, (upd Ik 31 y, Rk), rfl, (Or.inr ⟨if_pos ⟨nb10 c_12, nb10 c_23⟩, hz, hz1, hz2, rfl, rfl, (by rw [← es9]; simp only [simRE, em, nI_clamp (show mk < 2 ^ 31 by omega)]; rw [ey, e_jm])⟩), by rw [ht]; exact hP9, hD9⟩, hS.F ht⟩) hS.2.2 dX5_simulate_212
                      · have hjlt : j < mk := Nat.lt_of_not_le (fun h => c_158 (by rw [em]; exact nI_le h (by omega)))
                        obtain ⟨tj, ht9, eT⟩ : ∃ tj, tj < n ∧ Rk 24 j = nI tj := hJ j hjlt
                        refine lv_aload_n hx hb dX5_simulate_161 rfl (lv_at hl 0 rfl) ?_
                        refine lv_dup hx hb dX5_simulate_162 rfl ?_
                        refine va_get (D := (dC, dI)) (ci := 5) (v := .int y) (C := RX5) (T := TX5) (N := 32) hx hb hts hin5 hown hK hP 0 rfl rfl 31 (by decide) f_207 (fun _ h9 => h9) rfl dX5_simulate_163 ?_
                        refine lv_aload_n hx hb dX5_simulate_166 rfl (lv_at hl 0 rfl) ?_
                        refine va_get (D := (dC, dI)) (ci := 5) (v := .ref (a 25)) (C := RX5) (T := TX5) (N := 32) hx hb hts hin5 hown hK hP 0 rfl rfl 25 (by decide) f_41 (fun _ h9 => h9) rfl dX5_simulate_167 ?_
                        refine lv_iload hx hb dX5_simulate_170 (lv_at hl 4 rfl) ?_
                        refine wI_alv (v := Rk 25 j) hx hb hK hP 10 0 rfl rfl j rfl (by omega) (by decide) rfl dX5_simulate_172 ?_
                        refine lv_aload_n hx hb dX5_simulate_173 rfl (lv_at hl 0 rfl) ?_
                        refine va_get (D := (dC, dI)) (ci := 5) (v := .ref (a 1)) (C := RX5) (T := TX5) (N := 32) hx hb hts hin5 hown hK hP 0 rfl rfl 1 (by decide) f_9 (fun _ h9 => h9) rfl dX5_simulate_174 ?_
                        refine lv_bipush (v := 10) hx hb dX5_simulate_177 (by decide) ?_
                        refine lv_aload_n hx hb dX5_simulate_179 rfl (lv_at hl 0 rfl) ?_
                        refine va_get (D := (dC, dI)) (ci := 5) (v := .ref (a 24)) (C := RX5) (T := TX5) (N := 32) hx hb hts hin5 hown hK hP 0 rfl rfl 24 (by decide) f_38 (fun _ h9 => h9) rfl dX5_simulate_180 ?_
                        refine lv_iload hx hb dX5_simulate_183 (lv_at hl 4 rfl) ?_
                        refine wI_alv (v := nI tj) hx hb hK hP 9 0 rfl rfl j rfl (by omega) (by decide) eT dX5_simulate_185 ?_
                        refine lv_iadd hx hb dX5_simulate_186 ?_
                        refine wI_alv (v := Gs (Rk 1) 1 tj) hx hb hK hP 1 0 rfl rfl (10 + tj) (nadd rfl rfl) (by omega) (by decide) rfl dX5_simulate_187 ?_
                        refine lv_iadd hx hb dX5_simulate_188 ?_
                        refine lv_iload_n hx hb dX5_simulate_189 rfl (lv_at hl 3 rfl) ?_
                        refine lv_icmp_gt (tgt := 197) hx hb dX5_simulate_190 (by decide) (fun c_190 => ?_) (fun c_190 => ?_)
                        · refine lv_iconst (v := 0) hx hb dX5_simulate_197 (by decide) ?_
                          refine lv_iadd hx hb dX5_simulate_198 ?_
                          refine va_put (D := (dC, dI)) (ci := 5) (v := .int (y + 0)) (ty := .int) (C := RX5) (T := TX5) (N := 32) hx hb hts hin5 tyX5 tyX5_ok nmX5 hown hK hP hD hS 0 rfl rfl 31 (by decide) f_207 (fun _ h9 => h9) rfl (by decide +kernel) rfl rfl (Nat.le_of_ble_eq_true rfl) dX5_simulate_199 (fun H locs hP hD hS => ?_)
                          have hP : va_P (dC, dI) vwCl (wMdl cy m0 a (upd Ik 31 (y + 0)) Rk) H := hP
                          have hD : va_D A (wMdl cy m0 a (upd Ik 31 (y + 0)) Rk) := hD
                          refine lv_iinc (v := nI (j + 1)) (lv' := [(4, .int (nI (j + 1))), (0, .ref m0), (1, .int p0), (2, .int p1), (3, .int (nI hz))]) hx hb dX5_simulate_202 hl (k := 4) rfl (nI_1 _) (by decide) rfl (fun ls hl => ?_)
                          refine lv_goto (tgt := 152) hx hb dX5_simulate_205 (by decide) ?_
                          exact ih152 (j + 1) _ ls (by omega) (by omega) (by rw [ey, latR]; rw [show (if nI hz < Rk 25 j + Gs (Rk 1) 1 (Rk 24 j).toNatClampNeg then (0 : Int32) else 1) = _ from if_pos (by rw [eT, nI_clamp (by omega)]; exact c_190)]) _ _ hP hD hS (lv_sub hl [1, 2, 3, 4, 0] rfl)
                        · refine lv_iconst (v := 1) hx hb dX5_simulate_193 (by decide) ?_
                          refine lv_goto (tgt := 198) hx hb dX5_simulate_194 (by decide) ?_
                          refine lv_iadd hx hb dX5_simulate_198 ?_
                          refine va_put (D := (dC, dI)) (ci := 5) (v := .int (y + 1)) (ty := .int) (C := RX5) (T := TX5) (N := 32) hx hb hts hin5 tyX5 tyX5_ok nmX5 hown hK hP hD hS 0 rfl rfl 31 (by decide) f_207 (fun _ h9 => h9) rfl (by decide +kernel) rfl rfl (Nat.le_of_ble_eq_true rfl) dX5_simulate_199 (fun H locs hP hD hS => ?_)
                          have hP : va_P (dC, dI) vwCl (wMdl cy m0 a (upd Ik 31 (y + 1)) Rk) H := hP
                          have hD : va_D A (wMdl cy m0 a (upd Ik 31 (y + 1)) Rk) := hD
                          refine lv_iinc (v := nI (j + 1)) (lv' := [(4, .int (nI (j + 1))), (0, .ref m0), (1, .int p0), (2, .int p1), (3, .int (nI hz))]) hx hb dX5_simulate_202 hl (k := 4) rfl (nI_1 _) (by decide) rfl (fun ls hl => ?_)
                          refine lv_goto (tgt := 152) hx hb dX5_simulate_205 (by decide) ?_
                          exact ih152 (j + 1) _ ls (by omega) (by omega) (by rw [ey, latR]; rw [show (if nI hz < Rk 25 j + Gs (Rk 1) 1 (Rk 24 j).toNatClampNeg then (0 : Int32) else 1) = _ from if_neg (by rw [eT, nI_clamp (by omega)]; exact c_190)]) _ _ hP hD hS (lv_sub hl [1, 2, 3, 4, 0] rfl)
                  exact loop152 (mk + 1) 0 (Ik 31) ls (Nat.zero_le _) (by omega) rfl _ _ (by rw [upd_self]; exact hP) (by rw [upd_self]; exact hD) hS (lv_sub hl [1, 2, 3, 4, 0] rfl)
                · have hlt : u9 < hz := Nat.lt_of_not_le (fun h => c_107 (nI_le h (by omega)))
                  refine lv_aload_n hx hb dX5_simulate_110 rfl (lv_at hl 0 rfl) ?_
                  refine lv_aload_n hx hb dX5_simulate_111 rfl (lv_at hl 0 rfl) ?_
                  refine va_get (D := (dC, dI)) (ci := 5) (v := .int (Ik 28)) (C := RX5) (T := TX5) (N := 32) hx hb hts hin5 hown hK hP 0 rfl rfl 28 (by decide) f_194 (fun _ h9 => h9) rfl dX5_simulate_112 ?_
                  refine lv_if_ne (tgt := 122) hx hb dX5_simulate_115 (by decide) (fun c_115 => ?_) (fun c_115 => ?_)
                  · refine lv_aload_n hx hb dX5_simulate_122 rfl (lv_at hl 0 rfl) ?_
                    refine va_get (D := (dC, dI)) (ci := 5) (v := .int (Ik 29)) (C := RX5) (T := TX5) (N := 32) hx hb hts hin5 hown hK hP 0 rfl rfl 29 (by decide) f_184 (fun _ h9 => h9) rfl dX5_simulate_123 ?_
                    refine va_put (D := (dC, dI)) (ci := 5) (v := .int (Ik 29)) (ty := .int) (C := RX5) (T := TX5) (N := 32) hx hb hts hin5 tyX5 tyX5_ok nmX5 hown hK hP hD hS 0 rfl rfl 29 (by decide) f_184 (fun _ h9 => h9) rfl (by decide +kernel) rfl rfl (Nat.le_of_ble_eq_true rfl) dX5_simulate_126 (fun H locs hP hD hS => ?_)
                    have hP : va_P (dC, dI) vwCl (wMdl cy m0 a (upd Ik 29 (Ik 29)) Rk) H := hP
                    have hD : va_D A (wMdl cy m0 a (upd Ik 29 (Ik 29)) Rk) := hD
                    refine lv_aload_n hx hb dX5_simulate_129 rfl (lv_at hl 0 rfl) ?_
                    refine lv_iload hx hb dX5_simulate_130 (lv_at hl 4 rfl) ?_
                    refine lv_iload_n hx hb dX5_simulate_132 rfl (lv_at hl 2 rfl) ?_
                    have hPc := hP.sub (ws' := wMdl cy m0 a (upd Ik 29 (Ik 29)) Rk) [0, 1, 2, 3, 4, 5, 6, 7, 8, 9, 10, 11, 12] rfl
                    have hDc := hD.sub (ws' := wMdl cy m0 a (upd Ik 29 (Ik 29)) Rk) [0, 1, 2, 3, 4, 5, 6, 7, 8, 9, 10, 11, 12] (by decide) rfl
                    have hFc := va_free (wc := wMdl cy m0 a (upd Ik 29 (Ik 29)) Rk) hD hS hA [0, 1, 2, 3, 4, 5, 6, 7, 8, 9, 10, 11, 12] rfl
                    refine va_callv (va_runV (As := [.int (nI u9), .int p1]) (rest := []) ⟨hx, hb, hml, hown, hts⟩ (c_X5_releases l dC dI cy H.size m0 a (upd Ik 29 (Ik 29)) Rk n hn (by rw [show Rk 1 = R 1 from eR1]; exact hS0) (by rw [show Rk 1 = R 1 from eR1]; exact hG) mk hmk em u9 p1) (cwV 2 hts gX5_simulate_X5_releases rfl rfl rfl (by decide +kernel) ⟨Nat.le_of_ble_eq_true rfl, Nat.le_of_ble_eq_true rfl⟩) ⟨bl_in, va_recv hK hPc (ci := 5) (q0 := 0) rfl rfl, pr_in hPc hE hDc⟩ rfl rfl hl.1 rfl (lv_room (Nat.le_of_ble_eq_true rfl)) dX5_simulate_133 ⟨Nat.le_of_ble_eq_true rfl, Nat.le_of_ble_eq_true rfl⟩) hS (fun q _ h => hFc q h) hFc (fun u t H1 locs ht hvm hw hB hz1 hk1 hS => ?_)
                    obtain ⟨I_133, R_133⟩ := u
                    have e_133 : (I_133, R_133) = _ := hw
                    obtain ⟨hP1, hD1⟩ := hB
                    rw [ht] at hP1
                    obtain ⟨hP, hD⟩ := va_join (wr := []) (w1 := wMdl cy m0 a I_133 R_133) hP hD [0, 1, 2, 3, 4, 5, 6, 7, 8, 9, 10, 11, 12] [] rfl rfl (by decide) (by decide) hk1 hFc hP1 hD1
                    have hP : va_P (dC, dI) vwCl (wMdl cy m0 a I_133 R_133) H1 := hP.sub [0, 1, 2, 3, 4, 5, 6, 7, 8, 9, 10, 11, 12] rfl
                    have hD : va_D A (wMdl cy m0 a I_133 R_133) := hD.sub [0, 1, 2, 3, 4, 5, 6, 7, 8, 9, 10, 11, 12] (by decide) rfl
                    clear hz1 hk1 hPc hDc hFc hP1 hD1
                    generalize H1 = H at hP hS ⊢
                    have e9 : (I_133, R_133) = stAR p1 n u9 (Ik, Rk) := by rw [e_133]; simp only [stAR, if_neg c_115]
                    obtain ⟨eR2, m2, hm2, em2, hJ2⟩ : jobOk n (R 1) (I_133, R_133) := by rw [e9, es]; exact hok.2 u9 hlt
                    have eR2 : R_133 1 = R 1 := eR2
                    have em2 : I_133 28 = nI m2 := em2
                    refine lv_aload_n hx hb dX5_simulate_136 rfl (lv_at hl 0 rfl) ?_
                    refine lv_iload hx hb dX5_simulate_137 (lv_at hl 4 rfl) ?_
                    refine lv_iload_n hx hb dX5_simulate_139 rfl (lv_at hl 3 rfl) ?_
                    have hPc := hP.sub (ws' := wMdl cy m0 a I_133 R_133) [0, 1, 2, 3, 4, 5, 6, 7, 8, 9, 10, 11, 12] rfl
                    have hDc := hD.sub (ws' := wMdl cy m0 a I_133 R_133) [0, 1, 2, 3, 4, 5, 6, 7, 8, 9, 10, 11, 12] (by decide) rfl
                    have hFc := va_free (wc := wMdl cy m0 a I_133 R_133) hD hS hA [0, 1, 2, 3, 4, 5, 6, 7, 8, 9, 10, 11, 12] rfl
                    refine va_callv (va_runV (As := [.int (nI u9), .int (nI hz)]) (rest := []) ⟨hx, hb, hml, hown, hts⟩ (c_X5_runs l dC dI cy H.size m0 a I_133 R_133 n hn (by rw [eR2]; exact hS0) (by rw [eR2]; exact hG) m2 hm2 em2 hJ2 u9 (nI hz)) (cwV 2 hts gX5_simulate_X5_runs rfl rfl rfl (by decide +kernel) ⟨Nat.le_of_ble_eq_true rfl, Nat.le_of_ble_eq_true rfl⟩) ⟨bl_in, va_recv hK hPc (ci := 5) (q0 := 0) rfl rfl, pr_in hPc hE hDc⟩ rfl rfl hl.1 rfl (lv_room (Nat.le_of_ble_eq_true rfl)) dX5_simulate_140 ⟨Nat.le_of_ble_eq_true rfl, Nat.le_of_ble_eq_true rfl⟩) hS (fun q _ h => hFc q h) hFc (fun u t H1 locs ht hvm hw hB hz1 hk1 hS => ?_)
                    obtain ⟨I_140, R_140⟩ := u
                    have e_140 : (I_140, R_140) = _ := hw
                    obtain ⟨hP1, hD1⟩ := hB
                    rw [ht] at hP1
                    obtain ⟨hP, hD⟩ := va_join (wr := []) (w1 := wMdl cy m0 a I_140 R_140) hP hD [0, 1, 2, 3, 4, 5, 6, 7, 8, 9, 10, 11, 12] [] rfl rfl (by decide) (by decide) hk1 hFc hP1 hD1
                    have hP : va_P (dC, dI) vwCl (wMdl cy m0 a I_140 R_140) H1 := hP.sub [0, 1, 2, 3, 4, 5, 6, 7, 8, 9, 10, 11, 12] rfl
                    have hD : va_D A (wMdl cy m0 a I_140 R_140) := hD.sub [0, 1, 2, 3, 4, 5, 6, 7, 8, 9, 10, 11, 12] (by decide) rfl
                    clear hz1 hk1 hPc hDc hFc hP1 hD1
                    generalize H1 = H at hP hS ⊢
                    refine lv_iinc (v := nI (u9 + 1)) (lv' := [(4, .int (nI (u9 + 1))), (0, .ref m0), (1, .int p0), (2, .int p1), (3, .int (nI hz))]) hx hb dX5_simulate_143 hl (k := 4) rfl (nI_1 _) (by decide) rfl (fun ls hl => ?_)
                    refine lv_goto (tgt := 104) hx hb dX5_simulate_146 (by decide) ?_
                    exact ih104 (u9 + 1) _ _ ls (by omega) (by omega) (by rw [stsR, ← es, ← e9]; exact e_140) _ _ hP hD hS (lv_sub hl [1, 2, 3, 4, 0] rfl)
                  · refine lv_iconst (v := 0) hx hb dX5_simulate_118 (by decide) ?_
                    refine lv_goto (tgt := 126) hx hb dX5_simulate_119 (by decide) ?_
                    refine va_put (D := (dC, dI)) (ci := 5) (v := .int 0) (ty := .int) (C := RX5) (T := TX5) (N := 32) hx hb hts hin5 tyX5 tyX5_ok nmX5 hown hK hP hD hS 0 rfl rfl 29 (by decide) f_184 (fun _ h9 => h9) rfl (by decide +kernel) rfl rfl (Nat.le_of_ble_eq_true rfl) dX5_simulate_126 (fun H locs hP hD hS => ?_)
                    have hP : va_P (dC, dI) vwCl (wMdl cy m0 a (upd Ik 29 0) Rk) H := hP
                    have hD : va_D A (wMdl cy m0 a (upd Ik 29 0) Rk) := hD
                    refine lv_aload_n hx hb dX5_simulate_129 rfl (lv_at hl 0 rfl) ?_
                    refine lv_iload hx hb dX5_simulate_130 (lv_at hl 4 rfl) ?_
                    refine lv_iload_n hx hb dX5_simulate_132 rfl (lv_at hl 2 rfl) ?_
                    have hPc := hP.sub (ws' := wMdl cy m0 a (upd Ik 29 0) Rk) [0, 1, 2, 3, 4, 5, 6, 7, 8, 9, 10, 11, 12] rfl
                    have hDc := hD.sub (ws' := wMdl cy m0 a (upd Ik 29 0) Rk) [0, 1, 2, 3, 4, 5, 6, 7, 8, 9, 10, 11, 12] (by decide) rfl
                    have hFc := va_free (wc := wMdl cy m0 a (upd Ik 29 0) Rk) hD hS hA [0, 1, 2, 3, 4, 5, 6, 7, 8, 9, 10, 11, 12] rfl
                    refine va_callv (va_runV (As := [.int (nI u9), .int p1]) (rest := []) ⟨hx, hb, hml, hown, hts⟩ (c_X5_releases l dC dI cy H.size m0 a (upd Ik 29 0) Rk n hn (by rw [show Rk 1 = R 1 from eR1]; exact hS0) (by rw [show Rk 1 = R 1 from eR1]; exact hG) mk hmk em u9 p1) (cwV 2 hts gX5_simulate_X5_releases rfl rfl rfl (by decide +kernel) ⟨Nat.le_of_ble_eq_true rfl, Nat.le_of_ble_eq_true rfl⟩) ⟨bl_in, va_recv hK hPc (ci := 5) (q0 := 0) rfl rfl, pr_in hPc hE hDc⟩ rfl rfl hl.1 rfl (lv_room (Nat.le_of_ble_eq_true rfl)) dX5_simulate_133 ⟨Nat.le_of_ble_eq_true rfl, Nat.le_of_ble_eq_true rfl⟩) hS (fun q _ h => hFc q h) hFc (fun u t H1 locs ht hvm hw hB hz1 hk1 hS => ?_)
                    obtain ⟨I_133, R_133⟩ := u
                    have e_133 : (I_133, R_133) = _ := hw
                    obtain ⟨hP1, hD1⟩ := hB
                    rw [ht] at hP1
                    obtain ⟨hP, hD⟩ := va_join (wr := []) (w1 := wMdl cy m0 a I_133 R_133) hP hD [0, 1, 2, 3, 4, 5, 6, 7, 8, 9, 10, 11, 12] [] rfl rfl (by decide) (by decide) hk1 hFc hP1 hD1
                    have hP : va_P (dC, dI) vwCl (wMdl cy m0 a I_133 R_133) H1 := hP.sub [0, 1, 2, 3, 4, 5, 6, 7, 8, 9, 10, 11, 12] rfl
                    have hD : va_D A (wMdl cy m0 a I_133 R_133) := hD.sub [0, 1, 2, 3, 4, 5, 6, 7, 8, 9, 10, 11, 12] (by decide) rfl
                    clear hz1 hk1 hPc hDc hFc hP1 hD1
                    generalize H1 = H at hP hS ⊢
                    have e9 : (I_133, R_133) = stAR p1 n u9 (Ik, Rk) := by rw [e_133]; simp only [stAR, if_pos c_115]
                    obtain ⟨eR2, m2, hm2, em2, hJ2⟩ : jobOk n (R 1) (I_133, R_133) := by rw [e9, es]; exact hok.2 u9 hlt
                    have eR2 : R_133 1 = R 1 := eR2
                    have em2 : I_133 28 = nI m2 := em2
                    refine lv_aload_n hx hb dX5_simulate_136 rfl (lv_at hl 0 rfl) ?_
                    refine lv_iload hx hb dX5_simulate_137 (lv_at hl 4 rfl) ?_
                    refine lv_iload_n hx hb dX5_simulate_139 rfl (lv_at hl 3 rfl) ?_
                    have hPc := hP.sub (ws' := wMdl cy m0 a I_133 R_133) [0, 1, 2, 3, 4, 5, 6, 7, 8, 9, 10, 11, 12] rfl
                    have hDc := hD.sub (ws' := wMdl cy m0 a I_133 R_133) [0, 1, 2, 3, 4, 5, 6, 7, 8, 9, 10, 11, 12] (by decide) rfl
                    have hFc := va_free (wc := wMdl cy m0 a I_133 R_133) hD hS hA [0, 1, 2, 3, 4, 5, 6, 7, 8, 9, 10, 11, 12] rfl
                    refine va_callv (va_runV (As := [.int (nI u9), .int (nI hz)]) (rest := []) ⟨hx, hb, hml, hown, hts⟩ (c_X5_runs l dC dI cy H.size m0 a I_133 R_133 n hn (by rw [eR2]; exact hS0) (by rw [eR2]; exact hG) m2 hm2 em2 hJ2 u9 (nI hz)) (cwV 2 hts gX5_simulate_X5_runs rfl rfl rfl (by decide +kernel) ⟨Nat.le_of_ble_eq_true rfl, Nat.le_of_ble_eq_true rfl⟩) ⟨bl_in, va_recv hK hPc (ci := 5) (q0 := 0) rfl rfl, pr_in hPc hE hDc⟩ rfl rfl hl.1 rfl (lv_room (Nat.le_of_ble_eq_true rfl)) dX5_simulate_140 ⟨Nat.le_of_ble_eq_true rfl, Nat.le_of_ble_eq_true rfl⟩) hS (fun q _ h => hFc q h) hFc (fun u t H1 locs ht hvm hw hB hz1 hk1 hS => ?_)
                    obtain ⟨I_140, R_140⟩ := u
                    have e_140 : (I_140, R_140) = _ := hw
                    obtain ⟨hP1, hD1⟩ := hB
                    rw [ht] at hP1
                    obtain ⟨hP, hD⟩ := va_join (wr := []) (w1 := wMdl cy m0 a I_140 R_140) hP hD [0, 1, 2, 3, 4, 5, 6, 7, 8, 9, 10, 11, 12] [] rfl rfl (by decide) (by decide) hk1 hFc hP1 hD1
                    have hP : va_P (dC, dI) vwCl (wMdl cy m0 a I_140 R_140) H1 := hP.sub [0, 1, 2, 3, 4, 5, 6, 7, 8, 9, 10, 11, 12] rfl
                    have hD : va_D A (wMdl cy m0 a I_140 R_140) := hD.sub [0, 1, 2, 3, 4, 5, 6, 7, 8, 9, 10, 11, 12] (by decide) rfl
                    clear hz1 hk1 hPc hDc hFc hP1 hD1
                    generalize H1 = H at hP hS ⊢
                    refine lv_iinc (v := nI (u9 + 1)) (lv' := [(4, .int (nI (u9 + 1))), (0, .ref m0), (1, .int p0), (2, .int p1), (3, .int (nI hz))]) hx hb dX5_simulate_143 hl (k := 4) rfl (nI_1 _) (by decide) rfl (fun ls hl => ?_)
                    refine lv_goto (tgt := 104) hx hb dX5_simulate_146 (by decide) ?_
                    exact ih104 (u9 + 1) _ _ ls (by omega) (by omega) (by rw [stsR, ← es, ← e9]; exact e_140) _ _ hP hD hS (lv_sub hl [1, 2, 3, 4, 0] rfl)
            exact loop104 (hz + 1) 0 _ _ ls (Nat.zero_le _) (by omega) (by rw [e_i]; rfl) _ _ hP hD hS (lv_sub hl [1, 2, 3, 4, 0] rfl)
          · have hlt : i < 8 := Nat.lt_of_not_le (fun h => c_84 (nI_le (a := 8) h (by omega)))
            refine lv_aload_n hx hb dX5_simulate_87 rfl (lv_at hl 0 rfl) ?_
            refine va_get (D := (dC, dI)) (ci := 5) (v := .ref (a 19)) (C := RX5) (T := TX5) (N := 32) hx hb hts hin5 hown hK hP 0 rfl rfl 19 (by decide) f_29 (fun _ h9 => h9) rfl dX5_simulate_88 ?_
            refine lv_iload hx hb dX5_simulate_91 (lv_at hl 4 rfl) ?_
            refine lv_iconst (v := 0) hx hb dX5_simulate_93 (by decide) ?_
            refine wI_ast hx hb hK hP hD hS 6 0 rfl rfl i rfl (by omega) (by decide) dX5_simulate_94 (fun H locs hP hD hS => ?_)
            have hP : va_P (dC, dI) vwCl (wMdl cy m0 a (upd (upd (upd (upd (upd (upd (upd (upd (upd (upd I 0 0) 14 1) 15 0) 16 0) 17 0) 18 0) 28 0) 29 0) 30 p0) 31 0) (upr R 19 (upd (cpR (fun _ => 0) (R 19) i) i 0))) H := hP
            have hD : va_D A (wMdl cy m0 a (upd (upd (upd (upd (upd (upd (upd (upd (upd (upd I 0 0) 14 1) 15 0) 16 0) 17 0) 18 0) 28 0) 29 0) 30 p0) 31 0) (upr R 19 (upd (cpR (fun _ => 0) (R 19) i) i 0))) := hD
            refine lv_iinc (v := nI (i + 1)) (lv' := [(4, .int (nI (i + 1))), (0, .ref m0), (1, .int p0), (2, .int p1), (3, .int (nI hz))]) hx hb dX5_simulate_95 hl (k := 4) rfl (nI_1 _) (by decide) rfl (fun ls hl => ?_)
            refine lv_goto (tgt := 80) hx hb dX5_simulate_98 (by decide) ?_
            exact ih80 (i + 1) ls (by omega) (by omega) _ _ (by rw [← cpR_s]; exact hP) (by rw [← cpR_s]; exact hD) hS (lv_sub hl [1, 2, 3, 4, 0] rfl)
      exact loop80 9 0 ls (Nat.zero_le _) (by omega) _ _ (by rw [cpR_0]; exact hP) (by rw [cpR_0]; exact hD) hS (lv_sub hl [1, 2, 3, 4, 0] rfl)
    · refine lv_aload_n hx hb dX5_simulate_26 rfl (lv_at hl 0 rfl) ?_
      refine lv_iconst (v := 1) hx hb dX5_simulate_27 (by decide) ?_
      have hPc := hP.sub (ws' := wMdl cy m0 a (upd I 0 0) R) [0, 1, 2, 3, 4, 5, 6, 7, 8, 9, 10, 11, 12] rfl
      have hDc := hD.sub (ws' := wMdl cy m0 a (upd I 0 0) R) [0, 1, 2, 3, 4, 5, 6, 7, 8, 9, 10, 11, 12] (by decide) rfl
      have hFc := va_free (wc := wMdl cy m0 a (upd I 0 0) R) hD hS hA [0, 1, 2, 3, 4, 5, 6, 7, 8, 9, 10, 11, 12] rfl
      refine va_calli (va_runV (As := [.int 1]) (rest := []) ⟨hx, hb, hml, hown, hts⟩ (c_X5_fails l dC dI cy H.size m0 a (upd I 0 0) R 1  ) (cwV 1 hts gX5_simulate_X5_fails rfl rfl rfl (by decide +kernel) ⟨Nat.le_of_ble_eq_true rfl, Nat.le_of_ble_eq_true rfl⟩) ⟨bl_in, va_recv hK hPc (ci := 5) (q0 := 0) rfl rfl, pr_in hPc hE hDc⟩ rfl rfl hl.1 rfl (lv_room (Nat.le_of_ble_eq_true rfl)) dX5_simulate_28 ⟨Nat.le_of_ble_eq_true rfl, Nat.le_of_ble_eq_true rfl⟩) hS (fun q _ h => hFc q h) hFc (fun r u t H1 locs ht hvm hw hB hz1 hk1 hS => ?_)
      obtain rfl := hw
      obtain ⟨hP1, hD1⟩ := hB
      rw [ht] at hP1
      obtain ⟨hP, hD⟩ := va_join (wr := []) (w1 := wMdl cy m0 a (upd I 0 1) R) hP hD [0, 1, 2, 3, 4, 5, 6, 7, 8, 9, 10, 11, 12] [] rfl rfl (by decide) (by decide) hk1 hFc hP1 hD1
      have hP : va_P (dC, dI) vwCl (wMdl cy m0 a (upd I 0 1) R) H1 := hP.sub [0, 1, 2, 3, 4, 5, 6, 7, 8, 9, 10, 11, 12] rfl
      have hD : va_D A (wMdl cy m0 a (upd I 0 1) R) := hD.sub [0, 1, 2, 3, 4, 5, 6, 7, 8, 9, 10, 11, 12] (by decide) rfl
      clear hz1 hk1 hPc hDc hFc hP1 hD1
      generalize H1 = H at hP hS ⊢
      have hP9 : va_P (dC, dI) vwCl (wMdl cy m0 a (upd I 0 1) R) H := hP
      have hD9 : va_D A (wMdl cy m0 a (upd I 0 1) R) := hD
      exact W.iret (v := 0) hx hb hr (fun t ht hW => ⟨⟨0, (upd I 0 1, R), rfl, (Or.inl ⟨if_neg (fun h => b10.mp c_23 h.2), rfl⟩), by rw [ht]; exact hP9, hD9⟩, hS.F ht⟩) hS.2.2 dX5_simulate_31

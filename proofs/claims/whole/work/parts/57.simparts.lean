/-! PART 57: the class, Simulation: releases, drops, completions -/
theorem up2_at {G : vG} {k i : Nat} {x : Int32} : up2 G k i x k i = x := by
  show (if k = k then upd (G k) i x else G k) i = x
  rw [if_pos rfl]
  exact pk_us
set_option maxHeartbeats 1000000 in
set_option maxRecDepth 100000 in
/-- what is due is released -/
theorem c_X2_releaseDueJobs (l : Launch) (dC : Nat → ClassId) (dI : Nat → Nat → Nat) (cy : Nat → ClassId) (sz : Nat) (s0 : Nat) (z : Nat → Nat) (M : Nat → Int32) (bq : Nat → Nat) (G : vG) (n : Nat) (hn : n ≤ 8) (sc : Int32) (Q : vG) (rt : Nat → Nat) (T : vG) (u : Nat) (hu : u < 200) : Met l yX2_releaseDueJobs wsX2_releaseDueJobs ({ frames := 2, cells := 0, slots := 0, locals := 44 }) (va_Pc [.ref s0, .int (nI u)] (pIn dC dI cy (wSim s0 z M ++ (wCfg cy (z 0) bq G (nI n) sc ++ (wArr cy z rt Q T))) sz)) (va_Qv (fun (u9 : SSt) => u9 = rls G u n 0 (M, Q, T)) (fun (u : SSt) t => va_P (dC, dI) vwCl (wSim s0 z u.1 ++ (wCfg cy (z 0) bq G (nI n) sc ++ (wArr cy z rt u.2.1 u.2.2))) t.heap ∧ va_D (va_A (wSim s0 z M ++ (wCfg cy (z 0) bq G (nI n) sc ++ (wArr cy z rt Q T))) sz) (wSim s0 z u.1 ++ (wCfg cy (z 0) bq G (nI n) sc ++ (wArr cy z rt u.2.1 u.2.2)))) (va_A (wSim s0 z M ++ (wCfg cy (z 0) bq G (nI n) sc ++ (wArr cy z rt Q T))) sz)) 0 0 (va_A (wSim s0 z M ++ (wCfg cy (z 0) bq G (nI n) sc ++ (wArr cy z rt Q T))) sz) := by
  refine Met.ofW (cc := cX2_releaseDueJobs) (maxL := 3) (ret := none) (by decide) rfl ?_
  intro p e s m args below meth c s₁ B hml hv
  obtain ⟨rfl, hsz, hP, hE, hD0⟩ := hv
  have hK := hE.1
  subst hsz
  have hD := hD0.self (sz := s.heap.size)
  generalize hAe : va_A (wSim s0 z M ++ (wCfg cy (z 0) bq G (nI n) sc ++ (wArr cy z rt Q T))) s.heap.size = A at hD ⊢
  have hA : ∀ q : Nat, s.heap.size ≤ q → A q := fun q h => by rw [← hAe]; exact Or.inr h
  have hS : va_S A s.heap s.heap [] := va_S.rf
  have hP : va_P (dC, dI) vwCl (wSim s0 z M ++ (wCfg cy (z 0) bq G (nI n) sc ++ (wArr cy z rt Q T))) s.heap := hP
  have hx := B.exec
  have hb := B.bytes
  have hr := B.returns
  have hts := atoms_spec (ws := wsX2_releaseDueJobs) B.pre
  have hown : s.vm.findClass RX2 = some m.cls := findClass_of_methodNamed B.named
  have hlocks := B.notSynchronized
  have hin0 : ∀ w ∈ u_ws RX0 TX0 9, w ∈ wsX2_releaseDueJobs := by decide +kernel
  have hin2 : ∀ w ∈ u_ws RX2 TX2 15, w ∈ wsX2_releaseDueJobs := by decide +kernel
  have f_12 := hts (.fieldLink RX2 12 "DeadlineAdmission$Simulation" "tasks" "LDeadlineAdmission$Configuration;") (by decide +kernel)
  have f_63 := hts (.fieldLink RX2 63 "DeadlineAdmission$Simulation" "mode" "I") (by decide +kernel)
  have f_86 := hts (.fieldLink RX2 86 "DeadlineAdmission$Simulation" "droppedJobs" "I") (by decide +kernel)
  have f_92 := va_Nw.use (A := ([.ref s0, .int (nI u)].toArray)) rfl (hE.f 10 rfl)
  have hl := lv_entry ([.ref s0, .int (nI u)]) (n := 3) (Nat.le_of_ble_eq_true rfl)
  rw [lg_entry_eq]
  generalize (lg_sl ([.ref s0, .int (nI u)]) ++ List.replicate (3 - (lg_sl ([.ref s0, .int (nI u)])).length) Slot.unset).toArray = ls at hl ⊢
  have hl : lv_has ls 3 [(0, .ref s0), (1, .int (nI u))] := hl
  refine lv_iconst (v := 0) hx hb dX2_releaseDueJobs_0 (by decide) ?_
  refine lv_istore_n (lv' := [(2, .int 0), (0, .ref s0), (1, .int (nI u))]) hx hb dX2_releaseDueJobs_1 rfl hl (by decide) rfl (fun ls hl => ?_)
  have loop2 : ∀ (k : Nat) (j : Nat) (i : Nat) (Mk : Nat → Int32) (Qk : vG) (Tk : vG) (ls : Array Slot), i + j = n → j < k → rls G u j i (Mk, Qk, Tk) = rls G u n 0 (M, Q, T) → ∀ (H : Heap) (locs : List Loc), va_P (dC, dI) vwCl (wSim s0 z Mk ++ (wCfg cy (z 0) bq G (nI n) sc ++ (wArr cy z rt Qk Tk))) H → va_D A (wSim s0 z Mk ++ (wCfg cy (z 0) bq G (nI n) sc ++ (wArr cy z rt Qk Tk))) → va_S A s.heap H locs → lv_has ls 3 [(0, .ref s0), (1, .int (nI u)), (2, .int (nI i))] → W p l e (headSpec wsX2_releaseDueJobs ({ frames := 2, cells := 0, slots := 0, locals := 44 }) |>.room) s m (([.ref s0, .int (nI u)].toArray)) below meth c H locs 0 0 (MQ below (va_Qv (fun (u9 : SSt) => u9 = rls G u n 0 (M, Q, T)) (fun (u : SSt) t => va_P (dC, dI) vwCl (wSim s0 z u.1 ++ (wCfg cy (z 0) bq G (nI n) sc ++ (wArr cy z rt u.2.1 u.2.2))) t.heap ∧ va_D (A) (wSim s0 z u.1 ++ (wCfg cy (z 0) bq G (nI n) sc ++ (wArr cy z rt u.2.1 u.2.2)))) (A)) ([.ref s0, .int (nI u)].toArray) s 0 0 A) (F0 m 2 ls []) := by
    intro k
    induction k with
    | zero =>
      intro j i Mk Qk Tk ls hij hk er
      exfalso; omega
    | succ k ih2 =>
      intro j i Mk Qk Tk ls hij hk er H locs hP hD hS hl
      refine lv_iload_n hx hb dX2_releaseDueJobs_2 rfl (lv_at hl 2 rfl) ?_
      refine lv_aload_n hx hb dX2_releaseDueJobs_3 rfl (lv_at hl 0 rfl) ?_
      refine va_get (D := (dC, dI)) (ci := 2) (v := .ref (z 0)) (C := RX2) (T := TX2) (N := 15) hx hb hts hin2 hown hK hP 0 rfl rfl 0 (by decide) f_12 (fun _ h9 => h9) rfl dX2_releaseDueJobs_4 ?_
      refine va_getN (D := (dC, dI)) (ci := 0) (v := .int (nI n)) (C := RX0) (T := TX0) (N := 9) hx hb hts hin0 hown hK hP 1 rfl rfl 7 (by decide) f_92 (fun _ h9 => h9) rfl dX2_releaseDueJobs_7 ?_
      refine lv_icmp_ge (tgt := 70) hx hb dX2_releaseDueJobs_10 (by decide) (fun c_10 => ?_) (fun c_10 => ?_)
      · have e_j : j = 0 := by have := (nI_leI (a := n) (b := i) (by omega) (by omega)).mp c_10; omega
        have hP9 : va_P (dC, dI) vwCl (wSim s0 z Mk ++ (wCfg cy (z 0) bq G (nI n) sc ++ (wArr cy z rt Qk Tk))) H := hP
        have hD9 : va_D A (wSim s0 z Mk ++ (wCfg cy (z 0) bq G (nI n) sc ++ (wArr cy z rt Qk Tk))) := hD
        exact W.vret hx hb hr (fun t ht hW => ⟨⟨(Mk, Qk, Tk), rfl, (by rw [← er, e_j]; rfl), by rw [ht]; exact hP9, hD9⟩, hS.F ht⟩) hS.2.2 dX2_releaseDueJobs_70
      · have hlt : i < n := Nat.lt_of_not_le (fun h => c_10 (nI_le h (by omega)))
        obtain ⟨j, rfl⟩ : ∃ z, j = z + 1 := ⟨j - 1, by omega⟩
        refine lv_iload_n hx hb dX2_releaseDueJobs_13 rfl (lv_at hl 1 rfl) ?_
        refine lv_aload_n hx hb dX2_releaseDueJobs_14 rfl (lv_at hl 0 rfl) ?_
        refine va_get (D := (dC, dI)) (ci := 2) (v := .ref (z 0)) (C := RX2) (T := TX2) (N := 15) hx hb hts hin2 hown hK hP 0 rfl rfl 0 (by decide) f_12 (fun _ h9 => h9) rfl dX2_releaseDueJobs_15 ?_
        refine lv_iload_n hx hb dX2_releaseDueJobs_18 rfl (lv_at hl 2 rfl) ?_
        refine vp_callSi (va_runV (As := [.int (nI i)]) (rest := [.int (nI u)]) ⟨hx, hb, hml, hown, hts⟩ (c_X0_effectivePeriod l dC dI cy (z 0) bq G (nI n) sc  i (by omega)) (cwV 1 hts gX2_releaseDueJobs_X0_effectivePeriod rfl rfl rfl (by decide +kernel) ⟨Nat.le_of_ble_eq_true rfl, Nat.le_of_ble_eq_true rfl⟩) ⟨bl_ro, va_recv hK (hP.sub (ws' := wCfg cy (z 0) bq G (nI n) sc) [1, 2, 3, 4, 5, 6, 7, 8] rfl) (ci := 0) (q0 := 0) rfl rfl, pr_ro (hP.sub (ws' := wCfg cy (z 0) bq G (nI n) sc) [1, 2, 3, 4, 5, 6, 7, 8] rfl) hE⟩ rfl rfl hl.1 rfl (lv_room (Nat.le_of_ble_eq_true rfl)) dX2_releaseDueJobs_19 ⟨Nat.le_of_ble_eq_true rfl, Nat.le_of_ble_eq_true rfl⟩).run (fun r e_r => ?_)
        subst e_r
        refine lv_irem hx hb dX2_releaseDueJobs_22 (per_pos _ _) ?_
        refine lv_if_ne (tgt := 64) hx hb dX2_releaseDueJobs_23 (by decide) (fun c_23 => ?_) (fun c_23 => ?_)
        · refine lv_iinc (v := nI (i + 1)) (lv' := [(2, .int (nI (i + 1))), (0, .ref s0), (1, .int (nI u))]) hx hb dX2_releaseDueJobs_64 hl (k := 2) rfl (nI_1 _) (by decide) rfl (fun ls hl => ?_)
          refine lv_goto (tgt := 2) hx hb dX2_releaseDueJobs_67 (by decide) ?_
          exact ih2 j (i + 1) _ _ _ ls (by omega) (by omega) (by rw [← er, rls, rls1, if_neg c_23]) _ _ hP hD hS (lv_sub hl [1, 2, 0] rfl)
        · refine lv_aload_n hx hb dX2_releaseDueJobs_26 rfl (lv_at hl 0 rfl) ?_
          refine va_get (D := (dC, dI)) (ci := 2) (v := .int (Mk 6)) (C := RX2) (T := TX2) (N := 15) hx hb hts hin2 hown hK hP 0 rfl rfl 6 (by decide) f_63 (fun _ h9 => h9) rfl dX2_releaseDueJobs_27 ?_
          refine lv_iconst (v := 1) hx hb dX2_releaseDueJobs_30 (by decide) ?_
          refine lv_icmp_ne (tgt := 58) hx hb dX2_releaseDueJobs_31 (by decide) (fun c_31 => ?_) (fun c_31 => ?_)
          · refine lv_aload_n hx hb dX2_releaseDueJobs_58 rfl (lv_at hl 0 rfl) ?_
            refine lv_iload_n hx hb dX2_releaseDueJobs_59 rfl (lv_at hl 2 rfl) ?_
            refine lv_iload_n hx hb dX2_releaseDueJobs_60 rfl (lv_at hl 1 rfl) ?_
            have hPc := hP.sub (ws' := wSim s0 z Mk ++ (wCfg cy (z 0) bq G (nI n) sc ++ (wArr cy z rt Qk Tk))) [0, 1, 2, 3, 4, 5, 6, 7, 8, 9, 10, 11, 12, 13, 14, 15, 16, 17, 18, 19, 20, 21] rfl
            have hDc := hD.sub (ws' := wSim s0 z Mk ++ (wCfg cy (z 0) bq G (nI n) sc ++ (wArr cy z rt Qk Tk))) [0, 1, 2, 3, 4, 5, 6, 7, 8, 9, 10, 11, 12, 13, 14, 15, 16, 17, 18, 19, 20, 21] (by decide) rfl
            have hFc := va_free (wc := wSim s0 z Mk ++ (wCfg cy (z 0) bq G (nI n) sc ++ (wArr cy z rt Qk Tk))) hD hS hA [0, 1, 2, 3, 4, 5, 6, 7, 8, 9, 10, 11, 12, 13, 14, 15, 16, 17, 18, 19, 20, 21] rfl
            refine va_callv (va_runV (As := [.int (nI i), .int (nI u)]) (rest := []) ⟨hx, hb, hml, hown, hts⟩ (c_X2_releaseJob l dC dI cy H.size s0 z Mk bq G n hn sc Qk rt Tk i (by omega) u (by omega)) (cwV 2 hts gX2_releaseDueJobs_X2_releaseJob rfl rfl rfl (by decide +kernel) ⟨Nat.le_of_ble_eq_true rfl, Nat.le_of_ble_eq_true rfl⟩) ⟨bl_in, va_recv hK hPc (ci := 2) (q0 := 0) rfl rfl, pr_in hPc hE hDc⟩ rfl rfl hl.1 rfl (lv_room (Nat.le_of_ble_eq_true rfl)) dX2_releaseDueJobs_61 ⟨Nat.le_of_ble_eq_true rfl, Nat.le_of_ble_eq_true rfl⟩) hS (fun q _ h => hFc q h) hFc (fun u t H1 locs ht hvm hw hB hz1 hk1 hS => ?_)
            obtain ⟨M_61, Q_61, T_61⟩ := u
            have e_61 : (M_61, Q_61, T_61) = _ := hw
            obtain ⟨hP1, hD1⟩ := hB
            rw [ht] at hP1
            obtain ⟨hP, hD⟩ := va_join (wr := []) (w1 := wSim s0 z M_61 ++ (wCfg cy (z 0) bq G (nI n) sc ++ (wArr cy z rt Q_61 T_61))) hP hD [0, 1, 2, 3, 4, 5, 6, 7, 8, 9, 10, 11, 12, 13, 14, 15, 16, 17, 18, 19, 20, 21] [] rfl rfl (by decide) (by decide) hk1 hFc hP1 hD1
            have hP : va_P (dC, dI) vwCl (wSim s0 z M_61 ++ (wCfg cy (z 0) bq G (nI n) sc ++ (wArr cy z rt Q_61 T_61))) H1 := hP.sub [0, 1, 2, 3, 4, 5, 6, 7, 8, 9, 10, 11, 12, 13, 14, 15, 16, 17, 18, 19, 20, 21] rfl
            have hD : va_D A (wSim s0 z M_61 ++ (wCfg cy (z 0) bq G (nI n) sc ++ (wArr cy z rt Q_61 T_61))) := hD.sub [0, 1, 2, 3, 4, 5, 6, 7, 8, 9, 10, 11, 12, 13, 14, 15, 16, 17, 18, 19, 20, 21] (by decide) rfl
            clear hz1 hk1 hPc hDc hFc hP1 hD1
            generalize H1 = H at hP hS ⊢
            refine lv_iinc (v := nI (i + 1)) (lv' := [(2, .int (nI (i + 1))), (0, .ref s0), (1, .int (nI u))]) hx hb dX2_releaseDueJobs_64 hl (k := 2) rfl (nI_1 _) (by decide) rfl (fun ls hl => ?_)
            refine lv_goto (tgt := 2) hx hb dX2_releaseDueJobs_67 (by decide) ?_
            exact ih2 j (i + 1) _ _ _ ls (by omega) (by omega) (by rw [← er, rls, rls1, if_pos c_23, if_neg (fun h => c_31 h.1), ← e_61]) _ _ hP hD hS (lv_sub hl [1, 2, 0] rfl)
          · refine lv_aload_n hx hb dX2_releaseDueJobs_34 rfl (lv_at hl 0 rfl) ?_
            refine va_get (D := (dC, dI)) (ci := 2) (v := .ref (z 0)) (C := RX2) (T := TX2) (N := 15) hx hb hts hin2 hown hK hP 0 rfl rfl 0 (by decide) f_12 (fun _ h9 => h9) rfl dX2_releaseDueJobs_35 ?_
            refine lv_iload_n hx hb dX2_releaseDueJobs_38 rfl (lv_at hl 2 rfl) ?_
            refine vp_callSi (va_runV (As := [.int (nI i)]) (rest := []) ⟨hx, hb, hml, hown, hts⟩ (c_X0_hasHighBudget l dC dI cy (z 0) bq G (nI n) sc  i (by omega)) (cwV 1 hts gX2_releaseDueJobs_X0_hasHighBudget rfl rfl rfl (by decide +kernel) ⟨Nat.le_of_ble_eq_true rfl, Nat.le_of_ble_eq_true rfl⟩) ⟨bl_ro, va_recv hK (hP.sub (ws' := wCfg cy (z 0) bq G (nI n) sc) [1, 2, 3, 4, 5, 6, 7, 8] rfl) (ci := 0) (q0 := 0) rfl rfl, pr_ro (hP.sub (ws' := wCfg cy (z 0) bq G (nI n) sc) [1, 2, 3, 4, 5, 6, 7, 8] rfl) hE⟩ rfl rfl hl.1 rfl (lv_room (Nat.le_of_ble_eq_true rfl)) dX2_releaseDueJobs_39 ⟨Nat.le_of_ble_eq_true rfl, Nat.le_of_ble_eq_true rfl⟩).run (fun r e_r => ?_)
            subst e_r
            refine lv_if_ne (tgt := 58) hx hb dX2_releaseDueJobs_42 (by decide) (fun c_42 => ?_) (fun c_42 => ?_)
            · refine lv_aload_n hx hb dX2_releaseDueJobs_58 rfl (lv_at hl 0 rfl) ?_
              refine lv_iload_n hx hb dX2_releaseDueJobs_59 rfl (lv_at hl 2 rfl) ?_
              refine lv_iload_n hx hb dX2_releaseDueJobs_60 rfl (lv_at hl 1 rfl) ?_
              have hPc := hP.sub (ws' := wSim s0 z Mk ++ (wCfg cy (z 0) bq G (nI n) sc ++ (wArr cy z rt Qk Tk))) [0, 1, 2, 3, 4, 5, 6, 7, 8, 9, 10, 11, 12, 13, 14, 15, 16, 17, 18, 19, 20, 21] rfl
              have hDc := hD.sub (ws' := wSim s0 z Mk ++ (wCfg cy (z 0) bq G (nI n) sc ++ (wArr cy z rt Qk Tk))) [0, 1, 2, 3, 4, 5, 6, 7, 8, 9, 10, 11, 12, 13, 14, 15, 16, 17, 18, 19, 20, 21] (by decide) rfl
              have hFc := va_free (wc := wSim s0 z Mk ++ (wCfg cy (z 0) bq G (nI n) sc ++ (wArr cy z rt Qk Tk))) hD hS hA [0, 1, 2, 3, 4, 5, 6, 7, 8, 9, 10, 11, 12, 13, 14, 15, 16, 17, 18, 19, 20, 21] rfl
              refine va_callv (va_runV (As := [.int (nI i), .int (nI u)]) (rest := []) ⟨hx, hb, hml, hown, hts⟩ (c_X2_releaseJob l dC dI cy H.size s0 z Mk bq G n hn sc Qk rt Tk i (by omega) u (by omega)) (cwV 2 hts gX2_releaseDueJobs_X2_releaseJob rfl rfl rfl (by decide +kernel) ⟨Nat.le_of_ble_eq_true rfl, Nat.le_of_ble_eq_true rfl⟩) ⟨bl_in, va_recv hK hPc (ci := 2) (q0 := 0) rfl rfl, pr_in hPc hE hDc⟩ rfl rfl hl.1 rfl (lv_room (Nat.le_of_ble_eq_true rfl)) dX2_releaseDueJobs_61 ⟨Nat.le_of_ble_eq_true rfl, Nat.le_of_ble_eq_true rfl⟩) hS (fun q _ h => hFc q h) hFc (fun u t H1 locs ht hvm hw hB hz1 hk1 hS => ?_)
              obtain ⟨M_61, Q_61, T_61⟩ := u
              have e_61 : (M_61, Q_61, T_61) = _ := hw
              obtain ⟨hP1, hD1⟩ := hB
              rw [ht] at hP1
              obtain ⟨hP, hD⟩ := va_join (wr := []) (w1 := wSim s0 z M_61 ++ (wCfg cy (z 0) bq G (nI n) sc ++ (wArr cy z rt Q_61 T_61))) hP hD [0, 1, 2, 3, 4, 5, 6, 7, 8, 9, 10, 11, 12, 13, 14, 15, 16, 17, 18, 19, 20, 21] [] rfl rfl (by decide) (by decide) hk1 hFc hP1 hD1
              have hP : va_P (dC, dI) vwCl (wSim s0 z M_61 ++ (wCfg cy (z 0) bq G (nI n) sc ++ (wArr cy z rt Q_61 T_61))) H1 := hP.sub [0, 1, 2, 3, 4, 5, 6, 7, 8, 9, 10, 11, 12, 13, 14, 15, 16, 17, 18, 19, 20, 21] rfl
              have hD : va_D A (wSim s0 z M_61 ++ (wCfg cy (z 0) bq G (nI n) sc ++ (wArr cy z rt Q_61 T_61))) := hD.sub [0, 1, 2, 3, 4, 5, 6, 7, 8, 9, 10, 11, 12, 13, 14, 15, 16, 17, 18, 19, 20, 21] (by decide) rfl
              clear hz1 hk1 hPc hDc hFc hP1 hD1
              generalize H1 = H at hP hS ⊢
              refine lv_iinc (v := nI (i + 1)) (lv' := [(2, .int (nI (i + 1))), (0, .ref s0), (1, .int (nI u))]) hx hb dX2_releaseDueJobs_64 hl (k := 2) rfl (nI_1 _) (by decide) rfl (fun ls hl => ?_)
              refine lv_goto (tgt := 2) hx hb dX2_releaseDueJobs_67 (by decide) ?_
              exact ih2 j (i + 1) _ _ _ ls (by omega) (by omega) (by rw [← er, rls, rls1, if_pos c_23, if_neg (fun h => c_42 (b01.mpr h.2)), ← e_61]) _ _ hP hD hS (lv_sub hl [1, 2, 0] rfl)
            · refine lv_aload_n hx hb dX2_releaseDueJobs_45 rfl (lv_at hl 0 rfl) ?_
              refine lv_dup hx hb dX2_releaseDueJobs_46 rfl ?_
              refine va_get (D := (dC, dI)) (ci := 2) (v := .int (Mk 12)) (C := RX2) (T := TX2) (N := 15) hx hb hts hin2 hown hK hP 0 rfl rfl 12 (by decide) f_86 (fun _ h9 => h9) rfl dX2_releaseDueJobs_47 ?_
              refine lv_iconst (v := 1) hx hb dX2_releaseDueJobs_50 (by decide) ?_
              refine lv_iadd hx hb dX2_releaseDueJobs_51 ?_
              refine va_put (D := (dC, dI)) (ci := 2) (v := .int ((Mk 12) + 1)) (ty := .int) (C := RX2) (T := TX2) (N := 15) hx hb hts hin2 tyX2 tyX2_ok nmX2 hown hK hP hD hS 0 rfl rfl 12 (by decide) f_86 (fun _ h9 => h9) rfl (by decide +kernel) rfl rfl (Nat.le_of_ble_eq_true rfl) dX2_releaseDueJobs_52 (fun H locs hP hD hS => ?_)
              have hP : va_P (dC, dI) vwCl (wSim s0 z (upd Mk 12 ((Mk 12) + 1)) ++ (wCfg cy (z 0) bq G (nI n) sc ++ (wArr cy z rt Qk Tk))) H := hP
              have hD : va_D A (wSim s0 z (upd Mk 12 ((Mk 12) + 1)) ++ (wCfg cy (z 0) bq G (nI n) sc ++ (wArr cy z rt Qk Tk))) := hD
              refine lv_goto (tgt := 64) hx hb dX2_releaseDueJobs_55 (by decide) ?_
              refine lv_iinc (v := nI (i + 1)) (lv' := [(2, .int (nI (i + 1))), (0, .ref s0), (1, .int (nI u))]) hx hb dX2_releaseDueJobs_64 hl (k := 2) rfl (nI_1 _) (by decide) rfl (fun ls hl => ?_)
              refine lv_goto (tgt := 2) hx hb dX2_releaseDueJobs_67 (by decide) ?_
              exact ih2 j (i + 1) _ _ _ ls (by omega) (by omega) (by rw [← er, rls, rls1, if_pos c_23, if_pos ⟨c_31, b01.mp c_42⟩]) _ _ hP hD hS (lv_sub hl [1, 2, 0] rfl)
  exact loop2 (n + 1) n 0 M Q T ls (by omega) (by omega) rfl _ _ hP hD hS (lv_sub hl [1, 2, 0] rfl)
set_option maxHeartbeats 1000000 in
set_option maxRecDepth 100000 in
/-- a job that is late -/
theorem c_X2_countLateJob (l : Launch) (dC : Nat → ClassId) (dI : Nat → Nat → Nat) (cy : Nat → ClassId) (sz : Nat) (s0 : Nat) (z : Nat → Nat) (M : Nat → Int32) (bq : Nat → Nat) (G : vG) (n : Nat) (hn : n ≤ 8) (sc : Int32) (Q : vG) (rt : Nat → Nat) (T : vG) (i : Nat) (hi8 : i < 8) (p1 : Int32) : Met l yX2_countLateJob wsX2_countLateJob ({ frames := 0, cells := 0, slots := 0, locals := 0 }) (va_Pc [.ref s0, .int (nI i), .int p1] (pIn dC dI cy (wSim s0 z M ++ (wCfg cy (z 0) bq G (nI n) sc ++ (wArr cy z rt Q T))) sz)) (va_Qv (fun (u : SSt) => u = (cnl G i p1 M, Q, T)) (fun (u : SSt) t => va_P (dC, dI) vwCl (wSim s0 z u.1 ++ (wCfg cy (z 0) bq G (nI n) sc ++ (wArr cy z rt u.2.1 u.2.2))) t.heap ∧ va_D (va_A (wSim s0 z M ++ (wCfg cy (z 0) bq G (nI n) sc ++ (wArr cy z rt Q T))) sz) (wSim s0 z u.1 ++ (wCfg cy (z 0) bq G (nI n) sc ++ (wArr cy z rt u.2.1 u.2.2)))) (va_A (wSim s0 z M ++ (wCfg cy (z 0) bq G (nI n) sc ++ (wArr cy z rt Q T))) sz)) 0 0 (va_A (wSim s0 z M ++ (wCfg cy (z 0) bq G (nI n) sc ++ (wArr cy z rt Q T))) sz) := by
  refine Met.ofW (cc := cX2_countLateJob) (maxL := 3) (ret := none) (by decide) rfl ?_
  intro p e s m args below meth c s₁ B hml hv
  obtain ⟨rfl, hsz, hP, hE, hD0⟩ := hv
  have hK := hE.1
  subst hsz
  have hD := hD0.self (sz := s.heap.size)
  generalize hAe : va_A (wSim s0 z M ++ (wCfg cy (z 0) bq G (nI n) sc ++ (wArr cy z rt Q T))) s.heap.size = A at hD ⊢
  have hA : ∀ q : Nat, s.heap.size ≤ q → A q := fun q h => by rw [← hAe]; exact Or.inr h
  have hS : va_S A s.heap s.heap [] := va_S.rf
  have hP : va_P (dC, dI) vwCl (wSim s0 z M ++ (wCfg cy (z 0) bq G (nI n) sc ++ (wArr cy z rt Q T))) s.heap := hP
  have hx := B.exec
  have hb := B.bytes
  have hr := B.returns
  have hts := atoms_spec (ws := wsX2_countLateJob) B.pre
  have hown : s.vm.findClass RX2 = some m.cls := findClass_of_methodNamed B.named
  have hlocks := B.notSynchronized
  have hin0 : ∀ w ∈ u_ws RX0 TX0 9, w ∈ wsX2_countLateJob := by decide +kernel
  have hin2 : ∀ w ∈ u_ws RX2 TX2 15, w ∈ wsX2_countLateJob := by decide +kernel
  have f_12 := hts (.fieldLink RX2 12 "DeadlineAdmission$Simulation" "tasks" "LDeadlineAdmission$Configuration;") (by decide +kernel)
  have f_126 := va_Nw.use (A := ([.ref s0, .int (nI i), .int p1].toArray)) rfl (hE.f 0 rfl)
  have f_56 := hts (.fieldLink RX2 56 "DeadlineAdmission$Simulation" "end" "I") (by decide +kernel)
  have f_80 := hts (.fieldLink RX2 80 "DeadlineAdmission$Simulation" "lateJobs" "I") (by decide +kernel)
  have hl := lv_entry ([.ref s0, .int (nI i), .int p1]) (n := 3) (Nat.le_of_ble_eq_true rfl)
  rw [lg_entry_eq]
  generalize (lg_sl ([.ref s0, .int (nI i), .int p1]) ++ List.replicate (3 - (lg_sl ([.ref s0, .int (nI i), .int p1])).length) Slot.unset).toArray = ls at hl ⊢
  have hl : lv_has ls 3 [(0, .ref s0), (1, .int (nI i)), (2, .int p1)] := hl
  refine lv_iload_n hx hb dX2_countLateJob_0 rfl (lv_at hl 2 rfl) ?_
  refine lv_aload_n hx hb dX2_countLateJob_1 rfl (lv_at hl 0 rfl) ?_
  refine va_get (D := (dC, dI)) (ci := 2) (v := .ref (z 0)) (C := RX2) (T := TX2) (N := 15) hx hb hts hin2 hown hK hP 0 rfl rfl 0 (by decide) f_12 (fun _ h9 => h9) rfl dX2_countLateJob_2 ?_
  refine va_getN (D := (dC, dI)) (ci := 0) (v := .ref (bq 1)) (C := RX0) (T := TX0) (N := 9) hx hb hts hin0 hown hK hP 1 rfl rfl 1 (by decide) f_126 (fun _ h9 => h9) rfl dX2_countLateJob_5 ?_
  refine lv_iload_n hx hb dX2_countLateJob_8 rfl (lv_at hl 1 rfl) ?_
  refine wI_alv (v := G 1 i) hx hb hK hP 3 0 rfl rfl i rfl (by omega) (by decide) rfl dX2_countLateJob_9 ?_
  refine lv_iadd hx hb dX2_countLateJob_10 ?_
  refine lv_aload_n hx hb dX2_countLateJob_11 rfl (lv_at hl 0 rfl) ?_
  refine va_get (D := (dC, dI)) (ci := 2) (v := .int (M 9)) (C := RX2) (T := TX2) (N := 15) hx hb hts hin2 hown hK hP 0 rfl rfl 9 (by decide) f_56 (fun _ h9 => h9) rfl dX2_countLateJob_12 ?_
  refine lv_icmp_gt (tgt := 28) hx hb dX2_countLateJob_15 (by decide) (fun c_15 => ?_) (fun c_15 => ?_)
  · have hP9 : va_P (dC, dI) vwCl (wSim s0 z M ++ (wCfg cy (z 0) bq G (nI n) sc ++ (wArr cy z rt Q T))) s.heap := hP
    have hD9 : va_D A (wSim s0 z M ++ (wCfg cy (z 0) bq G (nI n) sc ++ (wArr cy z rt Q T))) := hD
    exact W.vret hx hb hr (fun t ht hW => ⟨⟨(M, Q, T), rfl, (by simp only [cnl, c_15, ↓reduceIte]), by rw [ht]; exact hP9, hD9⟩, hS.F ht⟩) hS.2.2 dX2_countLateJob_28
  · refine lv_aload_n hx hb dX2_countLateJob_18 rfl (lv_at hl 0 rfl) ?_
    refine lv_dup hx hb dX2_countLateJob_19 rfl ?_
    refine va_get (D := (dC, dI)) (ci := 2) (v := .int (M 10)) (C := RX2) (T := TX2) (N := 15) hx hb hts hin2 hown hK hP 0 rfl rfl 10 (by decide) f_80 (fun _ h9 => h9) rfl dX2_countLateJob_20 ?_
    refine lv_iconst (v := 1) hx hb dX2_countLateJob_23 (by decide) ?_
    refine lv_iadd hx hb dX2_countLateJob_24 ?_
    refine va_put (D := (dC, dI)) (ci := 2) (v := .int ((M 10) + 1)) (ty := .int) (C := RX2) (T := TX2) (N := 15) hx hb hts hin2 tyX2 tyX2_ok nmX2 hown hK hP hD hS 0 rfl rfl 10 (by decide) f_80 (fun _ h9 => h9) rfl (by decide +kernel) rfl rfl (Nat.le_of_ble_eq_true rfl) dX2_countLateJob_25 (fun H locs hP hD hS => ?_)
    have hP : va_P (dC, dI) vwCl (wSim s0 z (upd M 10 ((M 10) + 1)) ++ (wCfg cy (z 0) bq G (nI n) sc ++ (wArr cy z rt Q T))) H := hP
    have hD : va_D A (wSim s0 z (upd M 10 ((M 10) + 1)) ++ (wCfg cy (z 0) bq G (nI n) sc ++ (wArr cy z rt Q T))) := hD
    have hP9 : va_P (dC, dI) vwCl (wSim s0 z (upd M 10 ((M 10) + 1)) ++ (wCfg cy (z 0) bq G (nI n) sc ++ (wArr cy z rt Q T))) H := hP
    have hD9 : va_D A (wSim s0 z (upd M 10 ((M 10) + 1)) ++ (wCfg cy (z 0) bq G (nI n) sc ++ (wArr cy z rt Q T))) := hD
    exact W.vret hx hb hr (fun t ht hW => ⟨⟨(upd M 10 ((M 10) + 1), Q, T), rfl, (by simp only [cnl, c_15, ↓reduceIte]), by rw [ht]; exact hP9, hD9⟩, hS.F ht⟩) hS.2.2 dX2_countLateJob_28
set_option maxHeartbeats 1000000 in
set_option maxRecDepth 100000 in
/-- the oldest job of a task ends -/
theorem c_X2_completeOldestJob (l : Launch) (dC : Nat → ClassId) (dI : Nat → Nat → Nat) (cy : Nat → ClassId) (sz : Nat) (s0 : Nat) (z : Nat → Nat) (M : Nat → Int32) (bq : Nat → Nat) (G : vG) (n : Nat) (hn : n ≤ 8) (sc : Int32) (Q : vG) (rt : Nat → Nat) (T : vG) (i : Nat) (hi8 : i < 8) (tm : Int32) : Met l yX2_completeOldestJob wsX2_completeOldestJob ({ frames := 1, cells := 0, slots := 0, locals := 22 }) (va_Pc [.ref s0, .int (nI i), .int tm] (pIn dC dI cy (wSim s0 z M ++ (wCfg cy (z 0) bq G (nI n) sc ++ (wArr cy z rt Q T))) sz)) (va_Qv (fun (u : SSt) => u = (cplM G i tm M Q, cplQ G i tm Q, T)) (fun (u : SSt) t => va_P (dC, dI) vwCl (wSim s0 z u.1 ++ (wCfg cy (z 0) bq G (nI n) sc ++ (wArr cy z rt u.2.1 u.2.2))) t.heap ∧ va_D (va_A (wSim s0 z M ++ (wCfg cy (z 0) bq G (nI n) sc ++ (wArr cy z rt Q T))) sz) (wSim s0 z u.1 ++ (wCfg cy (z 0) bq G (nI n) sc ++ (wArr cy z rt u.2.1 u.2.2)))) (va_A (wSim s0 z M ++ (wCfg cy (z 0) bq G (nI n) sc ++ (wArr cy z rt Q T))) sz)) 0 0 (va_A (wSim s0 z M ++ (wCfg cy (z 0) bq G (nI n) sc ++ (wArr cy z rt Q T))) sz) := by
  refine Met.ofW (cc := cX2_completeOldestJob) (maxL := 4) (ret := none) (by decide) rfl ?_
  intro p e s m args below meth c s₁ B hml hv
  obtain ⟨rfl, hsz, hP, hE, hD0⟩ := hv
  have hK := hE.1
  subst hsz
  have hD := hD0.self (sz := s.heap.size)
  generalize hAe : va_A (wSim s0 z M ++ (wCfg cy (z 0) bq G (nI n) sc ++ (wArr cy z rt Q T))) s.heap.size = A at hD ⊢
  have hA : ∀ q : Nat, s.heap.size ≤ q → A q := fun q h => by rw [← hAe]; exact Or.inr h
  have hS : va_S A s.heap s.heap [] := va_S.rf
  have hP : va_P (dC, dI) vwCl (wSim s0 z M ++ (wCfg cy (z 0) bq G (nI n) sc ++ (wArr cy z rt Q T))) s.heap := hP
  have hx := B.exec
  have hb := B.bytes
  have hr := B.returns
  have hts := atoms_spec (ws := wsX2_completeOldestJob) B.pre
  have hown : s.vm.findClass RX2 = some m.cls := findClass_of_methodNamed B.named
  have hlocks := B.notSynchronized
  have hin0 : ∀ w ∈ u_ws RX0 TX0 9, w ∈ wsX2_completeOldestJob := by decide +kernel
  have hin2 : ∀ w ∈ u_ws RX2 TX2 15, w ∈ wsX2_completeOldestJob := by decide +kernel
  have f_12 := hts (.fieldLink RX2 12 "DeadlineAdmission$Simulation" "tasks" "LDeadlineAdmission$Configuration;") (by decide +kernel)
  have f_126 := va_Nw.use (A := ([.ref s0, .int (nI i), .int tm].toArray)) rfl (hE.f 0 rfl)
  have f_18 := hts (.fieldLink RX2 18 "DeadlineAdmission$Simulation" "pendingJobs" "[I") (by decide +kernel)
  have f_22 := hts (.fieldLink RX2 22 "DeadlineAdmission$Simulation" "oldestRelease" "[I") (by decide +kernel)
  have f_25 := hts (.fieldLink RX2 25 "DeadlineAdmission$Simulation" "oldestHasRun" "[I") (by decide +kernel)
  have f_33 := hts (.fieldLink RX2 33 "DeadlineAdmission$Simulation" "greatestResponse" "[I") (by decide +kernel)
  have f_83 := hts (.fieldLink RX2 83 "DeadlineAdmission$Simulation" "completedJobs" "I") (by decide +kernel)
  have hl := lv_entry ([.ref s0, .int (nI i), .int tm]) (n := 4) (Nat.le_of_ble_eq_true rfl)
  rw [lg_entry_eq]
  generalize (lg_sl ([.ref s0, .int (nI i), .int tm]) ++ List.replicate (4 - (lg_sl ([.ref s0, .int (nI i), .int tm])).length) Slot.unset).toArray = ls at hl ⊢
  have hl : lv_has ls 4 [(0, .ref s0), (1, .int (nI i)), (2, .int tm)] := hl
  refine lv_iload_n hx hb dX2_completeOldestJob_0 rfl (lv_at hl 2 rfl) ?_
  refine lv_aload_n hx hb dX2_completeOldestJob_1 rfl (lv_at hl 0 rfl) ?_
  refine va_get (D := (dC, dI)) (ci := 2) (v := .ref (z 2)) (C := RX2) (T := TX2) (N := 15) hx hb hts hin2 hown hK hP 0 rfl rfl 2 (by decide) f_22 (fun _ h9 => h9) rfl dX2_completeOldestJob_2 ?_
  refine lv_iload_n hx hb dX2_completeOldestJob_5 rfl (lv_at hl 1 rfl) ?_
  refine wI_alv (v := Q 2 i) hx hb hK hP 10 0 rfl rfl i rfl (by omega) (by decide) rfl dX2_completeOldestJob_6 ?_
  refine lv_isub hx hb dX2_completeOldestJob_7 ?_
  refine lv_istore_n (lv' := [(3, .int (tm - (Q 2 i))), (0, .ref s0), (1, .int (nI i)), (2, .int tm)]) hx hb dX2_completeOldestJob_8 rfl hl (by decide) rfl (fun ls hl => ?_)
  refine lv_aload_n hx hb dX2_completeOldestJob_9 rfl (lv_at hl 1 rfl) ?_
  refine va_get (D := (dC, dI)) (ci := 2) (v := .ref (z 5)) (C := RX2) (T := TX2) (N := 15) hx hb hts hin2 hown hK hP 0 rfl rfl 5 (by decide) f_33 (fun _ h9 => h9) rfl dX2_completeOldestJob_10 ?_
  refine lv_iload_n hx hb dX2_completeOldestJob_13 rfl (lv_at hl 2 rfl) ?_
  refine lv_aload_n hx hb dX2_completeOldestJob_14 rfl (lv_at hl 1 rfl) ?_
  refine va_get (D := (dC, dI)) (ci := 2) (v := .ref (z 5)) (C := RX2) (T := TX2) (N := 15) hx hb hts hin2 hown hK hP 0 rfl rfl 5 (by decide) f_33 (fun _ h9 => h9) rfl dX2_completeOldestJob_15 ?_
  refine lv_iload_n hx hb dX2_completeOldestJob_18 rfl (lv_at hl 2 rfl) ?_
  refine wI_alv (v := Q 5 i) hx hb hK hP 13 0 rfl rfl i rfl (by omega) (by decide) rfl dX2_completeOldestJob_19 ?_
  refine lv_iload_n hx hb dX2_completeOldestJob_20 rfl (lv_at hl 0 rfl) ?_
  refine va_mmax hx hb (by rw [hml]; exact hl.1.symm) hown (hts (.methodLink RX2 135 Lib.Math.max.name) (by decide +kernel)) (hts (.static Lib.Math.max.name) (by decide +kernel)) (hts (.initialized "java/lang/Math") (by decide +kernel)) (hts (.code Lib.Math.max.name Lib.Math.max.code 2 (some .int)) (by decide +kernel)) (Nat.le_of_ble_eq_true rfl) (Nat.le_of_ble_eq_true rfl) (Nat.le_of_ble_eq_true rfl) (Nat.le_of_ble_eq_true rfl) dX2_completeOldestJob_21 ?_
  refine wI_ast hx hb hK hP hD hS 13 0 rfl rfl i rfl (by omega) (by decide) dX2_completeOldestJob_24 (fun H locs hP hD hS => ?_)
  have hP : va_P (dC, dI) vwCl (wSim s0 z M ++ (wCfg cy (z 0) bq G (nI n) sc ++ (wArr cy z rt (up2 Q 5 i (if (Q 5 i) < (tm - (Q 2 i)) then tm - (Q 2 i) else Q 5 i)) T))) H := hP
  have hD : va_D A (wSim s0 z M ++ (wCfg cy (z 0) bq G (nI n) sc ++ (wArr cy z rt (up2 Q 5 i (if (Q 5 i) < (tm - (Q 2 i)) then tm - (Q 2 i) else Q 5 i)) T))) := hD
  refine lv_aload_n hx hb dX2_completeOldestJob_25 rfl (lv_at hl 1 rfl) ?_
  refine lv_dup hx hb dX2_completeOldestJob_26 rfl ?_
  refine va_get (D := (dC, dI)) (ci := 2) (v := .int (M 11)) (C := RX2) (T := TX2) (N := 15) hx hb hts hin2 hown hK hP 0 rfl rfl 11 (by decide) f_83 (fun _ h9 => h9) rfl dX2_completeOldestJob_27 ?_
  refine lv_iconst (v := 1) hx hb dX2_completeOldestJob_30 (by decide) ?_
  refine lv_iadd hx hb dX2_completeOldestJob_31 ?_
  refine va_put (D := (dC, dI)) (ci := 2) (v := .int ((M 11) + 1)) (ty := .int) (C := RX2) (T := TX2) (N := 15) hx hb hts hin2 tyX2 tyX2_ok nmX2 hown hK hP hD hS 0 rfl rfl 11 (by decide) f_83 (fun _ h9 => h9) rfl (by decide +kernel) rfl rfl (Nat.le_of_ble_eq_true rfl) dX2_completeOldestJob_32 (fun H locs hP hD hS => ?_)
  have hP : va_P (dC, dI) vwCl (wSim s0 z (upd M 11 ((M 11) + 1)) ++ (wCfg cy (z 0) bq G (nI n) sc ++ (wArr cy z rt (up2 Q 5 i (if (Q 5 i) < (tm - (Q 2 i)) then tm - (Q 2 i) else Q 5 i)) T))) H := hP
  have hD : va_D A (wSim s0 z (upd M 11 ((M 11) + 1)) ++ (wCfg cy (z 0) bq G (nI n) sc ++ (wArr cy z rt (up2 Q 5 i (if (Q 5 i) < (tm - (Q 2 i)) then tm - (Q 2 i) else Q 5 i)) T))) := hD
  refine lv_iload_n hx hb dX2_completeOldestJob_35 rfl (lv_at hl 0 rfl) ?_
  refine lv_aload_n hx hb dX2_completeOldestJob_36 rfl (lv_at hl 1 rfl) ?_
  refine va_get (D := (dC, dI)) (ci := 2) (v := .ref (z 0)) (C := RX2) (T := TX2) (N := 15) hx hb hts hin2 hown hK hP 0 rfl rfl 0 (by decide) f_12 (fun _ h9 => h9) rfl dX2_completeOldestJob_37 ?_
  refine va_getN (D := (dC, dI)) (ci := 0) (v := .ref (bq 1)) (C := RX0) (T := TX0) (N := 9) hx hb hts hin0 hown hK hP 1 rfl rfl 1 (by decide) f_126 (fun _ h9 => h9) rfl dX2_completeOldestJob_40 ?_
  refine lv_iload_n hx hb dX2_completeOldestJob_43 rfl (lv_at hl 2 rfl) ?_
  refine wI_alv (v := G 1 i) hx hb hK hP 3 0 rfl rfl i rfl (by omega) (by decide) rfl dX2_completeOldestJob_44 ?_
  refine lv_icmp_le (tgt := 59) hx hb dX2_completeOldestJob_45 (by decide) (fun c_45 => ?_) (fun c_45 => ?_)
  · refine lv_aload_n hx hb dX2_completeOldestJob_59 rfl (lv_at hl 1 rfl) ?_
    refine va_get (D := (dC, dI)) (ci := 2) (v := .ref (z 1)) (C := RX2) (T := TX2) (N := 15) hx hb hts hin2 hown hK hP 0 rfl rfl 1 (by decide) f_18 (fun _ h9 => h9) rfl dX2_completeOldestJob_60 ?_
    refine lv_iload_n hx hb dX2_completeOldestJob_63 rfl (lv_at hl 2 rfl) ?_
    refine lv_dup2_11 hx hb dX2_completeOldestJob_64 rfl rfl ?_
    refine wI_alv (v := Q 1 i) hx hb hK hP 9 0 rfl rfl i rfl (by omega) (by decide) rfl dX2_completeOldestJob_65 ?_
    refine lv_iconst (v := 1) hx hb dX2_completeOldestJob_66 (by decide) ?_
    refine lv_isub hx hb dX2_completeOldestJob_67 ?_
    refine wI_ast hx hb hK hP hD hS 9 0 rfl rfl i rfl (by omega) (by decide) dX2_completeOldestJob_68 (fun H locs hP hD hS => ?_)
    have hP : va_P (dC, dI) vwCl (wSim s0 z (upd M 11 ((M 11) + 1)) ++ (wCfg cy (z 0) bq G (nI n) sc ++ (wArr cy z rt (up2 (up2 Q 5 i (if (Q 5 i) < (tm - (Q 2 i)) then tm - (Q 2 i) else Q 5 i)) 1 i ((Q 1 i) - 1)) T))) H := hP
    have hD : va_D A (wSim s0 z (upd M 11 ((M 11) + 1)) ++ (wCfg cy (z 0) bq G (nI n) sc ++ (wArr cy z rt (up2 (up2 Q 5 i (if (Q 5 i) < (tm - (Q 2 i)) then tm - (Q 2 i) else Q 5 i)) 1 i ((Q 1 i) - 1)) T))) := hD
    refine lv_aload_n hx hb dX2_completeOldestJob_69 rfl (lv_at hl 1 rfl) ?_
    refine va_get (D := (dC, dI)) (ci := 2) (v := .ref (z 2)) (C := RX2) (T := TX2) (N := 15) hx hb hts hin2 hown hK hP 0 rfl rfl 2 (by decide) f_22 (fun _ h9 => h9) rfl dX2_completeOldestJob_70 ?_
    refine lv_iload_n hx hb dX2_completeOldestJob_73 rfl (lv_at hl 2 rfl) ?_
    refine lv_dup2_11 hx hb dX2_completeOldestJob_74 rfl rfl ?_
    refine wI_alv (v := Q 2 i) hx hb hK hP 10 0 rfl rfl i rfl (by omega) (by decide) rfl dX2_completeOldestJob_75 ?_
    refine lv_aload_n hx hb dX2_completeOldestJob_76 rfl (lv_at hl 1 rfl) ?_
    refine va_get (D := (dC, dI)) (ci := 2) (v := .ref (z 0)) (C := RX2) (T := TX2) (N := 15) hx hb hts hin2 hown hK hP 0 rfl rfl 0 (by decide) f_12 (fun _ h9 => h9) rfl dX2_completeOldestJob_77 ?_
    refine lv_iload_n hx hb dX2_completeOldestJob_80 rfl (lv_at hl 2 rfl) ?_
    refine vp_callSi (va_runV (As := [.int (nI i)]) (rest := [.int (Q 2 i), .int (nI i), .ref (z 2)]) ⟨hx, hb, hml, hown, hts⟩ (c_X0_effectivePeriod l dC dI cy (z 0) bq G (nI n) sc  i (by omega)) (cwV 1 hts gX2_completeOldestJob_X0_effectivePeriod rfl rfl rfl (by decide +kernel) ⟨Nat.le_of_ble_eq_true rfl, Nat.le_of_ble_eq_true rfl⟩) ⟨bl_ro, va_recv hK (hP.sub (ws' := wCfg cy (z 0) bq G (nI n) sc) [1, 2, 3, 4, 5, 6, 7, 8] rfl) (ci := 0) (q0 := 0) rfl rfl, pr_ro (hP.sub (ws' := wCfg cy (z 0) bq G (nI n) sc) [1, 2, 3, 4, 5, 6, 7, 8] rfl) hE⟩ rfl rfl hl.1 rfl (lv_room (Nat.le_of_ble_eq_true rfl)) dX2_completeOldestJob_81 ⟨Nat.le_of_ble_eq_true rfl, Nat.le_of_ble_eq_true rfl⟩).run (fun r e_r => ?_)
    subst e_r
    refine lv_topi (fun y_ ey_ => ?_)
    obtain rfl : y_ = per G i := ey_
    refine lv_iadd hx hb dX2_completeOldestJob_84 ?_
    refine wI_ast hx hb hK hP hD hS 10 0 rfl rfl i rfl (by omega) (by decide) dX2_completeOldestJob_85 (fun H locs hP hD hS => ?_)
    have hP : va_P (dC, dI) vwCl (wSim s0 z (upd M 11 ((M 11) + 1)) ++ (wCfg cy (z 0) bq G (nI n) sc ++ (wArr cy z rt (up2 (up2 (up2 Q 5 i (if (Q 5 i) < (tm - (Q 2 i)) then tm - (Q 2 i) else Q 5 i)) 1 i ((Q 1 i) - 1)) 2 i ((Q 2 i) + (per G i))) T))) H := hP
    have hD : va_D A (wSim s0 z (upd M 11 ((M 11) + 1)) ++ (wCfg cy (z 0) bq G (nI n) sc ++ (wArr cy z rt (up2 (up2 (up2 Q 5 i (if (Q 5 i) < (tm - (Q 2 i)) then tm - (Q 2 i) else Q 5 i)) 1 i ((Q 1 i) - 1)) 2 i ((Q 2 i) + (per G i))) T))) := hD
    refine lv_aload_n hx hb dX2_completeOldestJob_86 rfl (lv_at hl 1 rfl) ?_
    refine va_get (D := (dC, dI)) (ci := 2) (v := .ref (z 3)) (C := RX2) (T := TX2) (N := 15) hx hb hts hin2 hown hK hP 0 rfl rfl 3 (by decide) f_25 (fun _ h9 => h9) rfl dX2_completeOldestJob_87 ?_
    refine lv_iload_n hx hb dX2_completeOldestJob_90 rfl (lv_at hl 2 rfl) ?_
    refine lv_iconst (v := 0) hx hb dX2_completeOldestJob_91 (by decide) ?_
    refine wI_ast hx hb hK hP hD hS 11 0 rfl rfl i rfl (by omega) (by decide) dX2_completeOldestJob_92 (fun H locs hP hD hS => ?_)
    have hP : va_P (dC, dI) vwCl (wSim s0 z (upd M 11 ((M 11) + 1)) ++ (wCfg cy (z 0) bq G (nI n) sc ++ (wArr cy z rt (up2 (up2 (up2 (up2 Q 5 i (if (Q 5 i) < (tm - (Q 2 i)) then tm - (Q 2 i) else Q 5 i)) 1 i ((Q 1 i) - 1)) 2 i ((Q 2 i) + (per G i))) 3 i 0) T))) H := hP
    have hD : va_D A (wSim s0 z (upd M 11 ((M 11) + 1)) ++ (wCfg cy (z 0) bq G (nI n) sc ++ (wArr cy z rt (up2 (up2 (up2 (up2 Q 5 i (if (Q 5 i) < (tm - (Q 2 i)) then tm - (Q 2 i) else Q 5 i)) 1 i ((Q 1 i) - 1)) 2 i ((Q 2 i) + (per G i))) 3 i 0) T))) := hD
    have hP9 : va_P (dC, dI) vwCl (wSim s0 z (upd M 11 ((M 11) + 1)) ++ (wCfg cy (z 0) bq G (nI n) sc ++ (wArr cy z rt (up2 (up2 (up2 (up2 Q 5 i (if (Q 5 i) < (tm - (Q 2 i)) then tm - (Q 2 i) else Q 5 i)) 1 i ((Q 1 i) - 1)) 2 i ((Q 2 i) + (per G i))) 3 i 0) T))) H := hP
    have hD9 : va_D A (wSim s0 z (upd M 11 ((M 11) + 1)) ++ (wCfg cy (z 0) bq G (nI n) sc ++ (wArr cy z rt (up2 (up2 (up2 (up2 Q 5 i (if (Q 5 i) < (tm - (Q 2 i)) then tm - (Q 2 i) else Q 5 i)) 1 i ((Q 1 i) - 1)) 2 i ((Q 2 i) + (per G i))) 3 i 0) T))) := hD
    exact W.vret hx hb hr (fun t ht hW => ⟨⟨(upd M 11 ((M 11) + 1), up2 (up2 (up2 (up2 Q 5 i (if (Q 5 i) < (tm - (Q 2 i)) then tm - (Q 2 i) else Q 5 i)) 1 i ((Q 1 i) - 1)) 2 i ((Q 2 i) + (per G i))) 3 i 0, T), rfl, (by simp only [cplM, cplQ, if_pos c_45]), by rw [ht]; exact hP9, hD9⟩, hS.F ht⟩) hS.2.2 dX2_completeOldestJob_93
  · refine lv_aload_n hx hb dX2_completeOldestJob_48 rfl (lv_at hl 1 rfl) ?_
    refine lv_iload_n hx hb dX2_completeOldestJob_49 rfl (lv_at hl 2 rfl) ?_
    refine lv_aload_n hx hb dX2_completeOldestJob_50 rfl (lv_at hl 1 rfl) ?_
    refine va_get (D := (dC, dI)) (ci := 2) (v := .ref (z 2)) (C := RX2) (T := TX2) (N := 15) hx hb hts hin2 hown hK hP 0 rfl rfl 2 (by decide) f_22 (fun _ h9 => h9) rfl dX2_completeOldestJob_51 ?_
    refine lv_iload_n hx hb dX2_completeOldestJob_54 rfl (lv_at hl 2 rfl) ?_
    refine wI_alv (v := Q 2 i) hx hb hK hP 10 0 rfl rfl i rfl (by omega) (by decide) rfl dX2_completeOldestJob_55 ?_
    have hPc := hP.sub (ws' := wSim s0 z (upd M 11 ((M 11) + 1)) ++ (wCfg cy (z 0) bq G (nI n) sc ++ (wArr cy z rt (up2 Q 5 i (if (Q 5 i) < (tm - (Q 2 i)) then tm - (Q 2 i) else Q 5 i)) T))) [0, 1, 2, 3, 4, 5, 6, 7, 8, 9, 10, 11, 12, 13, 14, 15, 16, 17, 18, 19, 20, 21] rfl
    have hDc := hD.sub (ws' := wSim s0 z (upd M 11 ((M 11) + 1)) ++ (wCfg cy (z 0) bq G (nI n) sc ++ (wArr cy z rt (up2 Q 5 i (if (Q 5 i) < (tm - (Q 2 i)) then tm - (Q 2 i) else Q 5 i)) T))) [0, 1, 2, 3, 4, 5, 6, 7, 8, 9, 10, 11, 12, 13, 14, 15, 16, 17, 18, 19, 20, 21] (by decide) rfl
    have hFc := va_free (wc := wSim s0 z (upd M 11 ((M 11) + 1)) ++ (wCfg cy (z 0) bq G (nI n) sc ++ (wArr cy z rt (up2 Q 5 i (if (Q 5 i) < (tm - (Q 2 i)) then tm - (Q 2 i) else Q 5 i)) T))) hD hS hA [0, 1, 2, 3, 4, 5, 6, 7, 8, 9, 10, 11, 12, 13, 14, 15, 16, 17, 18, 19, 20, 21] rfl
    refine va_callv (va_runV (As := [.int (nI i), .int (Q 2 i)]) (rest := []) ⟨hx, hb, hml, hown, hts⟩ (c_X2_countLateJob l dC dI cy H.size s0 z (upd M 11 ((M 11) + 1)) bq G n hn sc (up2 Q 5 i (if (Q 5 i) < (tm - (Q 2 i)) then tm - (Q 2 i) else Q 5 i)) rt T i (by omega) (Q 2 i)) (cwV 2 hts gX2_completeOldestJob_X2_countLateJob rfl rfl rfl (by decide +kernel) ⟨Nat.le_of_ble_eq_true rfl, Nat.le_of_ble_eq_true rfl⟩) ⟨bl_in, va_recv hK hPc (ci := 2) (q0 := 0) rfl rfl, pr_in hPc hE hDc⟩ rfl rfl hl.1 rfl (lv_room (Nat.le_of_ble_eq_true rfl)) dX2_completeOldestJob_56 ⟨Nat.le_of_ble_eq_true rfl, Nat.le_of_ble_eq_true rfl⟩) hS (fun q _ h => hFc q h) hFc (fun u t H1 locs ht hvm hw hB hz1 hk1 hS => ?_)
    obtain ⟨M_56, Q_56, T_56⟩ := u
    obtain ⟨e_56, rfl, rfl⟩ : M_56 = cnl G i (Q 2 i) (upd M 11 ((M 11) + 1)) ∧ up2 Q 5 i (if (Q 5 i) < (tm - (Q 2 i)) then tm - (Q 2 i) else Q 5 i) = Q_56 ∧ T = T_56 := ⟨congrArg (·.1) hw, (congrArg (·.2.1) hw).symm, (congrArg (·.2.2) hw).symm⟩
    obtain ⟨hP1, hD1⟩ := hB
    rw [ht] at hP1
    obtain ⟨hP, hD⟩ := va_join (wr := []) (w1 := wSim s0 z M_56 ++ (wCfg cy (z 0) bq G (nI n) sc ++ (wArr cy z rt (up2 Q 5 i (if (Q 5 i) < (tm - (Q 2 i)) then tm - (Q 2 i) else Q 5 i)) T))) hP hD [0, 1, 2, 3, 4, 5, 6, 7, 8, 9, 10, 11, 12, 13, 14, 15, 16, 17, 18, 19, 20, 21] [] rfl rfl (by decide) (by decide) hk1 hFc hP1 hD1
    have hP : va_P (dC, dI) vwCl (wSim s0 z M_56 ++ (wCfg cy (z 0) bq G (nI n) sc ++ (wArr cy z rt (up2 Q 5 i (if (Q 5 i) < (tm - (Q 2 i)) then tm - (Q 2 i) else Q 5 i)) T))) H1 := hP.sub [0, 1, 2, 3, 4, 5, 6, 7, 8, 9, 10, 11, 12, 13, 14, 15, 16, 17, 18, 19, 20, 21] rfl
    have hD : va_D A (wSim s0 z M_56 ++ (wCfg cy (z 0) bq G (nI n) sc ++ (wArr cy z rt (up2 Q 5 i (if (Q 5 i) < (tm - (Q 2 i)) then tm - (Q 2 i) else Q 5 i)) T))) := hD.sub [0, 1, 2, 3, 4, 5, 6, 7, 8, 9, 10, 11, 12, 13, 14, 15, 16, 17, 18, 19, 20, 21] (by decide) rfl
    clear hz1 hk1 hPc hDc hFc hP1 hD1
    generalize H1 = H at hP hS ⊢
    refine lv_aload_n hx hb dX2_completeOldestJob_59 rfl (lv_at hl 1 rfl) ?_
    refine va_get (D := (dC, dI)) (ci := 2) (v := .ref (z 1)) (C := RX2) (T := TX2) (N := 15) hx hb hts hin2 hown hK hP 0 rfl rfl 1 (by decide) f_18 (fun _ h9 => h9) rfl dX2_completeOldestJob_60 ?_
    refine lv_iload_n hx hb dX2_completeOldestJob_63 rfl (lv_at hl 2 rfl) ?_
    refine lv_dup2_11 hx hb dX2_completeOldestJob_64 rfl rfl ?_
    refine wI_alv (v := Q 1 i) hx hb hK hP 9 0 rfl rfl i rfl (by omega) (by decide) rfl dX2_completeOldestJob_65 ?_
    refine lv_iconst (v := 1) hx hb dX2_completeOldestJob_66 (by decide) ?_
    refine lv_isub hx hb dX2_completeOldestJob_67 ?_
    refine wI_ast hx hb hK hP hD hS 9 0 rfl rfl i rfl (by omega) (by decide) dX2_completeOldestJob_68 (fun H locs hP hD hS => ?_)
    have hP : va_P (dC, dI) vwCl (wSim s0 z M_56 ++ (wCfg cy (z 0) bq G (nI n) sc ++ (wArr cy z rt (up2 (up2 Q 5 i (if (Q 5 i) < (tm - (Q 2 i)) then tm - (Q 2 i) else Q 5 i)) 1 i ((Q 1 i) - 1)) T))) H := hP
    have hD : va_D A (wSim s0 z M_56 ++ (wCfg cy (z 0) bq G (nI n) sc ++ (wArr cy z rt (up2 (up2 Q 5 i (if (Q 5 i) < (tm - (Q 2 i)) then tm - (Q 2 i) else Q 5 i)) 1 i ((Q 1 i) - 1)) T))) := hD
    refine lv_aload_n hx hb dX2_completeOldestJob_69 rfl (lv_at hl 1 rfl) ?_
    refine va_get (D := (dC, dI)) (ci := 2) (v := .ref (z 2)) (C := RX2) (T := TX2) (N := 15) hx hb hts hin2 hown hK hP 0 rfl rfl 2 (by decide) f_22 (fun _ h9 => h9) rfl dX2_completeOldestJob_70 ?_
    refine lv_iload_n hx hb dX2_completeOldestJob_73 rfl (lv_at hl 2 rfl) ?_
    refine lv_dup2_11 hx hb dX2_completeOldestJob_74 rfl rfl ?_
    refine wI_alv (v := Q 2 i) hx hb hK hP 10 0 rfl rfl i rfl (by omega) (by decide) rfl dX2_completeOldestJob_75 ?_
    refine lv_aload_n hx hb dX2_completeOldestJob_76 rfl (lv_at hl 1 rfl) ?_
    refine va_get (D := (dC, dI)) (ci := 2) (v := .ref (z 0)) (C := RX2) (T := TX2) (N := 15) hx hb hts hin2 hown hK hP 0 rfl rfl 0 (by decide) f_12 (fun _ h9 => h9) rfl dX2_completeOldestJob_77 ?_
    refine lv_iload_n hx hb dX2_completeOldestJob_80 rfl (lv_at hl 2 rfl) ?_
    refine vp_callSi (va_runV (As := [.int (nI i)]) (rest := [.int (Q 2 i), .int (nI i), .ref (z 2)]) ⟨hx, hb, hml, hown, hts⟩ (c_X0_effectivePeriod l dC dI cy (z 0) bq G (nI n) sc  i (by omega)) (cwV 1 hts gX2_completeOldestJob_X0_effectivePeriod rfl rfl rfl (by decide +kernel) ⟨Nat.le_of_ble_eq_true rfl, Nat.le_of_ble_eq_true rfl⟩) ⟨bl_ro, va_recv hK (hP.sub (ws' := wCfg cy (z 0) bq G (nI n) sc) [1, 2, 3, 4, 5, 6, 7, 8] rfl) (ci := 0) (q0 := 0) rfl rfl, pr_ro (hP.sub (ws' := wCfg cy (z 0) bq G (nI n) sc) [1, 2, 3, 4, 5, 6, 7, 8] rfl) hE⟩ rfl rfl hl.1 rfl (lv_room (Nat.le_of_ble_eq_true rfl)) dX2_completeOldestJob_81 ⟨Nat.le_of_ble_eq_true rfl, Nat.le_of_ble_eq_true rfl⟩).run (fun r e_r => ?_)
    subst e_r
    refine lv_iadd hx hb dX2_completeOldestJob_84 ?_
    refine wI_ast hx hb hK hP hD hS 10 0 rfl rfl i rfl (by omega) (by decide) dX2_completeOldestJob_85 (fun H locs hP hD hS => ?_)
    have hP : va_P (dC, dI) vwCl (wSim s0 z M_56 ++ (wCfg cy (z 0) bq G (nI n) sc ++ (wArr cy z rt (up2 (up2 (up2 Q 5 i (if (Q 5 i) < (tm - (Q 2 i)) then tm - (Q 2 i) else Q 5 i)) 1 i ((Q 1 i) - 1)) 2 i ((Q 2 i) + (per G i))) T))) H := hP
    have hD : va_D A (wSim s0 z M_56 ++ (wCfg cy (z 0) bq G (nI n) sc ++ (wArr cy z rt (up2 (up2 (up2 Q 5 i (if (Q 5 i) < (tm - (Q 2 i)) then tm - (Q 2 i) else Q 5 i)) 1 i ((Q 1 i) - 1)) 2 i ((Q 2 i) + (per G i))) T))) := hD
    refine lv_aload_n hx hb dX2_completeOldestJob_86 rfl (lv_at hl 1 rfl) ?_
    refine va_get (D := (dC, dI)) (ci := 2) (v := .ref (z 3)) (C := RX2) (T := TX2) (N := 15) hx hb hts hin2 hown hK hP 0 rfl rfl 3 (by decide) f_25 (fun _ h9 => h9) rfl dX2_completeOldestJob_87 ?_
    refine lv_iload_n hx hb dX2_completeOldestJob_90 rfl (lv_at hl 2 rfl) ?_
    refine lv_iconst (v := 0) hx hb dX2_completeOldestJob_91 (by decide) ?_
    refine wI_ast hx hb hK hP hD hS 11 0 rfl rfl i rfl (by omega) (by decide) dX2_completeOldestJob_92 (fun H locs hP hD hS => ?_)
    have hP : va_P (dC, dI) vwCl (wSim s0 z M_56 ++ (wCfg cy (z 0) bq G (nI n) sc ++ (wArr cy z rt (up2 (up2 (up2 (up2 Q 5 i (if (Q 5 i) < (tm - (Q 2 i)) then tm - (Q 2 i) else Q 5 i)) 1 i ((Q 1 i) - 1)) 2 i ((Q 2 i) + (per G i))) 3 i 0) T))) H := hP
    have hD : va_D A (wSim s0 z M_56 ++ (wCfg cy (z 0) bq G (nI n) sc ++ (wArr cy z rt (up2 (up2 (up2 (up2 Q 5 i (if (Q 5 i) < (tm - (Q 2 i)) then tm - (Q 2 i) else Q 5 i)) 1 i ((Q 1 i) - 1)) 2 i ((Q 2 i) + (per G i))) 3 i 0) T))) := hD
    have hP9 : va_P (dC, dI) vwCl (wSim s0 z M_56 ++ (wCfg cy (z 0) bq G (nI n) sc ++ (wArr cy z rt (up2 (up2 (up2 (up2 Q 5 i (if (Q 5 i) < (tm - (Q 2 i)) then tm - (Q 2 i) else Q 5 i)) 1 i ((Q 1 i) - 1)) 2 i ((Q 2 i) + (per G i))) 3 i 0) T))) H := hP
    have hD9 : va_D A (wSim s0 z M_56 ++ (wCfg cy (z 0) bq G (nI n) sc ++ (wArr cy z rt (up2 (up2 (up2 (up2 Q 5 i (if (Q 5 i) < (tm - (Q 2 i)) then tm - (Q 2 i) else Q 5 i)) 1 i ((Q 1 i) - 1)) 2 i ((Q 2 i) + (per G i))) 3 i 0) T))) := hD
    exact W.vret hx hb hr (fun t ht hW => ⟨⟨(M_56, up2 (up2 (up2 (up2 Q 5 i (if (Q 5 i) < (tm - (Q 2 i)) then tm - (Q 2 i) else Q 5 i)) 1 i ((Q 1 i) - 1)) 2 i ((Q 2 i) + (per G i))) 3 i 0, T), rfl, (by simp only [cplM, cplQ, if_neg c_45, e_56]), by rw [ht]; exact hP9, hD9⟩, hS.F ht⟩) hS.2.2 dX2_completeOldestJob_93
set_option maxHeartbeats 1000000 in
set_option maxRecDepth 100000 in
/-- jobs are dropped -/
theorem c_X2_dropPendingJobs (l : Launch) (dC : Nat → ClassId) (dI : Nat → Nat → Nat) (cy : Nat → ClassId) (sz : Nat) (s0 : Nat) (z : Nat → Nat) (M : Nat → Int32) (bq : Nat → Nat) (G : vG) (n : Nat) (hn : n ≤ 8) (sc : Int32) (Q : vG) (rt : Nat → Nat) (T : vG) : Met l yX2_dropPendingJobs wsX2_dropPendingJobs ({ frames := 1, cells := 0, slots := 0, locals := 21 }) (va_Pc [.ref s0] (pIn dC dI cy (wSim s0 z M ++ (wCfg cy (z 0) bq G (nI n) sc ++ (wArr cy z rt Q T))) sz)) (va_Qv (fun (u : SSt) => u = ((dpp G n (M, Q)).1, (dpp G n (M, Q)).2, T)) (fun (u : SSt) t => va_P (dC, dI) vwCl (wSim s0 z u.1 ++ (wCfg cy (z 0) bq G (nI n) sc ++ (wArr cy z rt u.2.1 u.2.2))) t.heap ∧ va_D (va_A (wSim s0 z M ++ (wCfg cy (z 0) bq G (nI n) sc ++ (wArr cy z rt Q T))) sz) (wSim s0 z u.1 ++ (wCfg cy (z 0) bq G (nI n) sc ++ (wArr cy z rt u.2.1 u.2.2)))) (va_A (wSim s0 z M ++ (wCfg cy (z 0) bq G (nI n) sc ++ (wArr cy z rt Q T))) sz)) 0 0 (va_A (wSim s0 z M ++ (wCfg cy (z 0) bq G (nI n) sc ++ (wArr cy z rt Q T))) sz) := by
  refine Met.ofW (cc := cX2_dropPendingJobs) (maxL := 2) (ret := none) (by decide) rfl ?_
  intro p e s m args below meth c s₁ B hml hv
  obtain ⟨rfl, hsz, hP, hE, hD0⟩ := hv
  have hK := hE.1
  subst hsz
  have hD := hD0.self (sz := s.heap.size)
  generalize hAe : va_A (wSim s0 z M ++ (wCfg cy (z 0) bq G (nI n) sc ++ (wArr cy z rt Q T))) s.heap.size = A at hD ⊢
  have hA : ∀ q : Nat, s.heap.size ≤ q → A q := fun q h => by rw [← hAe]; exact Or.inr h
  have hS : va_S A s.heap s.heap [] := va_S.rf
  have hP : va_P (dC, dI) vwCl (wSim s0 z M ++ (wCfg cy (z 0) bq G (nI n) sc ++ (wArr cy z rt Q T))) s.heap := hP
  have hx := B.exec
  have hb := B.bytes
  have hr := B.returns
  have hts := atoms_spec (ws := wsX2_dropPendingJobs) B.pre
  have hown : s.vm.findClass RX2 = some m.cls := findClass_of_methodNamed B.named
  have hlocks := B.notSynchronized
  have hin0 : ∀ w ∈ u_ws RX0 TX0 9, w ∈ wsX2_dropPendingJobs := by decide +kernel
  have hin2 : ∀ w ∈ u_ws RX2 TX2 15, w ∈ wsX2_dropPendingJobs := by decide +kernel
  have f_12 := hts (.fieldLink RX2 12 "DeadlineAdmission$Simulation" "tasks" "LDeadlineAdmission$Configuration;") (by decide +kernel)
  have f_18 := hts (.fieldLink RX2 18 "DeadlineAdmission$Simulation" "pendingJobs" "[I") (by decide +kernel)
  have f_86 := hts (.fieldLink RX2 86 "DeadlineAdmission$Simulation" "droppedJobs" "I") (by decide +kernel)
  have f_92 := va_Nw.use (A := ([.ref s0].toArray)) rfl (hE.f 10 rfl)
  have hl := lv_entry ([.ref s0]) (n := 2) (Nat.le_of_ble_eq_true rfl)
  rw [lg_entry_eq]
  generalize (lg_sl ([.ref s0]) ++ List.replicate (2 - (lg_sl ([.ref s0])).length) Slot.unset).toArray = ls at hl ⊢
  have hl : lv_has ls 2 [(0, .ref s0)] := hl
  refine lv_iconst (v := 0) hx hb dX2_dropPendingJobs_0 (by decide) ?_
  refine lv_istore_n (lv' := [(1, .int 0), (0, .ref s0)]) hx hb dX2_dropPendingJobs_1 rfl hl (by decide) rfl (fun ls hl => ?_)
  have loop2 : ∀ (k : Nat) (i : Nat) (Mk : Nat → Int32) (Qk : vG) (ls : Array Slot), i ≤ n → n < i + k → (Mk, Qk) = dpp G i (M, Q) → ∀ (H : Heap) (locs : List Loc), va_P (dC, dI) vwCl (wSim s0 z Mk ++ (wCfg cy (z 0) bq G (nI n) sc ++ (wArr cy z rt Qk T))) H → va_D A (wSim s0 z Mk ++ (wCfg cy (z 0) bq G (nI n) sc ++ (wArr cy z rt Qk T))) → va_S A s.heap H locs → lv_has ls 2 [(0, .ref s0), (1, .int (nI i))] → W p l e (headSpec wsX2_dropPendingJobs ({ frames := 1, cells := 0, slots := 0, locals := 21 }) |>.room) s m (([.ref s0].toArray)) below meth c H locs 0 0 (MQ below (va_Qv (fun (u : SSt) => u = ((dpp G n (M, Q)).1, (dpp G n (M, Q)).2, T)) (fun (u : SSt) t => va_P (dC, dI) vwCl (wSim s0 z u.1 ++ (wCfg cy (z 0) bq G (nI n) sc ++ (wArr cy z rt u.2.1 u.2.2))) t.heap ∧ va_D (A) (wSim s0 z u.1 ++ (wCfg cy (z 0) bq G (nI n) sc ++ (wArr cy z rt u.2.1 u.2.2)))) (A)) ([.ref s0].toArray) s 0 0 A) (F0 m 2 ls []) := by
    intro k
    induction k with
    | zero =>
      intro i Mk Qk ls hi hk ed
      exfalso; omega
    | succ k ih2 =>
      intro i Mk Qk ls hi hk ed H locs hP hD hS hl
      refine lv_iload_n hx hb dX2_dropPendingJobs_2 rfl (lv_at hl 1 rfl) ?_
      refine lv_aload_n hx hb dX2_dropPendingJobs_3 rfl (lv_at hl 0 rfl) ?_
      refine va_get (D := (dC, dI)) (ci := 2) (v := .ref (z 0)) (C := RX2) (T := TX2) (N := 15) hx hb hts hin2 hown hK hP 0 rfl rfl 0 (by decide) f_12 (fun _ h9 => h9) rfl dX2_dropPendingJobs_4 ?_
      refine va_getN (D := (dC, dI)) (ci := 0) (v := .int (nI n)) (C := RX0) (T := TX0) (N := 9) hx hb hts hin0 hown hK hP 1 rfl rfl 7 (by decide) f_92 (fun _ h9 => h9) rfl dX2_dropPendingJobs_7 ?_
      refine lv_icmp_ge (tgt := 52) hx hb dX2_dropPendingJobs_10 (by decide) (fun c_10 => ?_) (fun c_10 => ?_)
      · have e_i : i = n := Nat.le_antisymm hi ((nI_leI (by omega) (by omega)).mp c_10)
        have hP9 : va_P (dC, dI) vwCl (wSim s0 z Mk ++ (wCfg cy (z 0) bq G (nI n) sc ++ (wArr cy z rt Qk T))) H := hP
        have hD9 : va_D A (wSim s0 z Mk ++ (wCfg cy (z 0) bq G (nI n) sc ++ (wArr cy z rt Qk T))) := hD
        exact W.vret hx hb hr (fun t ht hW => ⟨⟨(Mk, Qk, T), rfl, (by rw [← e_i, ← ed]), by rw [ht]; exact hP9, hD9⟩, hS.F ht⟩) hS.2.2 dX2_dropPendingJobs_52
      · have hlt : i < n := Nat.lt_of_not_le (fun h => c_10 (nI_le h (by omega)))
        refine lv_aload_n hx hb dX2_dropPendingJobs_13 rfl (lv_at hl 0 rfl) ?_
        refine va_get (D := (dC, dI)) (ci := 2) (v := .ref (z 0)) (C := RX2) (T := TX2) (N := 15) hx hb hts hin2 hown hK hP 0 rfl rfl 0 (by decide) f_12 (fun _ h9 => h9) rfl dX2_dropPendingJobs_14 ?_
        refine lv_iload_n hx hb dX2_dropPendingJobs_17 rfl (lv_at hl 1 rfl) ?_
        refine vp_callSi (va_runV (As := [.int (nI i)]) (rest := []) ⟨hx, hb, hml, hown, hts⟩ (c_X0_hasHighBudget l dC dI cy (z 0) bq G (nI n) sc  i (by omega)) (cwV 1 hts gX2_dropPendingJobs_X0_hasHighBudget rfl rfl rfl (by decide +kernel) ⟨Nat.le_of_ble_eq_true rfl, Nat.le_of_ble_eq_true rfl⟩) ⟨bl_ro, va_recv hK (hP.sub (ws' := wCfg cy (z 0) bq G (nI n) sc) [1, 2, 3, 4, 5, 6, 7, 8] rfl) (ci := 0) (q0 := 0) rfl rfl, pr_ro (hP.sub (ws' := wCfg cy (z 0) bq G (nI n) sc) [1, 2, 3, 4, 5, 6, 7, 8] rfl) hE⟩ rfl rfl hl.1 rfl (lv_room (Nat.le_of_ble_eq_true rfl)) dX2_dropPendingJobs_18 ⟨Nat.le_of_ble_eq_true rfl, Nat.le_of_ble_eq_true rfl⟩).run (fun r e_r => ?_)
        subst e_r
        refine lv_if_ne (tgt := 46) hx hb dX2_dropPendingJobs_21 (by decide) (fun c_21 => ?_) (fun c_21 => ?_)
        · refine lv_iinc (v := nI (i + 1)) (lv' := [(1, .int (nI (i + 1))), (0, .ref s0)]) hx hb dX2_dropPendingJobs_46 hl (k := 1) rfl (nI_1 _) (by decide) rfl (fun ls hl => ?_)
          refine lv_goto (tgt := 2) hx hb dX2_dropPendingJobs_49 (by decide) ?_
          exact ih2 (i + 1) _ _ ls (by omega) (by omega) (by simp only [dpp, if_neg (fun h => c_21 (b01.mpr h))]; exact ed) _ _ hP hD hS (lv_sub hl [1, 0] rfl)
        · refine lv_aload_n hx hb dX2_dropPendingJobs_24 rfl (lv_at hl 0 rfl) ?_
          refine lv_dup hx hb dX2_dropPendingJobs_25 rfl ?_
          refine va_get (D := (dC, dI)) (ci := 2) (v := .int (Mk 12)) (C := RX2) (T := TX2) (N := 15) hx hb hts hin2 hown hK hP 0 rfl rfl 12 (by decide) f_86 (fun _ h9 => h9) rfl dX2_dropPendingJobs_26 ?_
          refine lv_aload_n hx hb dX2_dropPendingJobs_29 rfl (lv_at hl 0 rfl) ?_
          refine va_get (D := (dC, dI)) (ci := 2) (v := .ref (z 1)) (C := RX2) (T := TX2) (N := 15) hx hb hts hin2 hown hK hP 0 rfl rfl 1 (by decide) f_18 (fun _ h9 => h9) rfl dX2_dropPendingJobs_30 ?_
          refine lv_iload_n hx hb dX2_dropPendingJobs_33 rfl (lv_at hl 1 rfl) ?_
          refine wI_alv (v := Qk 1 i) hx hb hK hP 9 0 rfl rfl i rfl (by omega) (by decide) rfl dX2_dropPendingJobs_34 ?_
          refine lv_iadd hx hb dX2_dropPendingJobs_35 ?_
          refine va_put (D := (dC, dI)) (ci := 2) (v := .int ((Mk 12) + (Qk 1 i))) (ty := .int) (C := RX2) (T := TX2) (N := 15) hx hb hts hin2 tyX2 tyX2_ok nmX2 hown hK hP hD hS 0 rfl rfl 12 (by decide) f_86 (fun _ h9 => h9) rfl (by decide +kernel) rfl rfl (Nat.le_of_ble_eq_true rfl) dX2_dropPendingJobs_36 (fun H locs hP hD hS => ?_)
          have hP : va_P (dC, dI) vwCl (wSim s0 z (upd Mk 12 ((Mk 12) + (Qk 1 i))) ++ (wCfg cy (z 0) bq G (nI n) sc ++ (wArr cy z rt Qk T))) H := hP
          have hD : va_D A (wSim s0 z (upd Mk 12 ((Mk 12) + (Qk 1 i))) ++ (wCfg cy (z 0) bq G (nI n) sc ++ (wArr cy z rt Qk T))) := hD
          refine lv_aload_n hx hb dX2_dropPendingJobs_39 rfl (lv_at hl 0 rfl) ?_
          refine va_get (D := (dC, dI)) (ci := 2) (v := .ref (z 1)) (C := RX2) (T := TX2) (N := 15) hx hb hts hin2 hown hK hP 0 rfl rfl 1 (by decide) f_18 (fun _ h9 => h9) rfl dX2_dropPendingJobs_40 ?_
          refine lv_iload_n hx hb dX2_dropPendingJobs_43 rfl (lv_at hl 1 rfl) ?_
          refine lv_iconst (v := 0) hx hb dX2_dropPendingJobs_44 (by decide) ?_
          refine wI_ast hx hb hK hP hD hS 9 0 rfl rfl i rfl (by omega) (by decide) dX2_dropPendingJobs_45 (fun H locs hP hD hS => ?_)
          have hP : va_P (dC, dI) vwCl (wSim s0 z (upd Mk 12 ((Mk 12) + (Qk 1 i))) ++ (wCfg cy (z 0) bq G (nI n) sc ++ (wArr cy z rt (up2 Qk 1 i 0) T))) H := hP
          have hD : va_D A (wSim s0 z (upd Mk 12 ((Mk 12) + (Qk 1 i))) ++ (wCfg cy (z 0) bq G (nI n) sc ++ (wArr cy z rt (up2 Qk 1 i 0) T))) := hD
          refine lv_iinc (v := nI (i + 1)) (lv' := [(1, .int (nI (i + 1))), (0, .ref s0)]) hx hb dX2_dropPendingJobs_46 hl (k := 1) rfl (nI_1 _) (by decide) rfl (fun ls hl => ?_)
          refine lv_goto (tgt := 2) hx hb dX2_dropPendingJobs_49 (by decide) ?_
          exact ih2 (i + 1) _ _ ls (by omega) (by omega) (by simp only [dpp, if_pos (b01.mp c_21), ← ed]) _ _ hP hD hS (lv_sub hl [1, 0] rfl)
  exact loop2 (n + 1) 0 M Q ls (Nat.zero_le _) (by omega) rfl _ _ hP hD hS (lv_sub hl [1, 0] rfl)
set_option maxHeartbeats 1000000 in
set_option maxRecDepth 100000 in
/-- the oldest job of task 0 runs -/
theorem c_X2_runOldestJob_0 (l : Launch) (dC : Nat → ClassId) (dI : Nat → Nat → Nat) (cy : Nat → ClassId) (sz : Nat) (s0 : Nat) (z : Nat → Nat) (M : Nat → Int32) (bq : Nat → Nat) (G : vG) (n : Nat) (hn : n ≤ 8) (sc : Int32) (Q : vG) (rt : Nat → Nat) (T : vG) (u : Nat) (hu : u < 200) (o : Nat) (ho8 : o < 200) (ho : Q 2 0 = nI o) : Met l yX2_runOldestJob wsX2_runOldestJob ({ frames := 2, cells := 0, slots := 0, locals := 45 }) (va_Pc [.ref s0, .int (nI 0), .int (nI u)] (pIn dC dI cy (wSim s0 z M ++ (wCfg cy (z 0) bq G (nI n) sc ++ (wArr cy z rt Q T))) sz)) (va_Qv (fun (u9 : SSt) => u9 = runO G n 0 u (M, Q, T)) (fun (u : SSt) t => va_P (dC, dI) vwCl (wSim s0 z u.1 ++ (wCfg cy (z 0) bq G (nI n) sc ++ (wArr cy z rt u.2.1 u.2.2))) t.heap ∧ va_D (va_A (wSim s0 z M ++ (wCfg cy (z 0) bq G (nI n) sc ++ (wArr cy z rt Q T))) sz) (wSim s0 z u.1 ++ (wCfg cy (z 0) bq G (nI n) sc ++ (wArr cy z rt u.2.1 u.2.2)))) (va_A (wSim s0 z M ++ (wCfg cy (z 0) bq G (nI n) sc ++ (wArr cy z rt Q T))) sz)) 0 0 (va_A (wSim s0 z M ++ (wCfg cy (z 0) bq G (nI n) sc ++ (wArr cy z rt Q T))) sz) := by
  refine Met.ofW (cc := cX2_runOldestJob) (maxL := 3) (ret := none) (by decide) rfl ?_
  intro p e s m args below meth c s₁ B hml hv
  obtain ⟨rfl, hsz, hP, hE, hD0⟩ := hv
  have hK := hE.1
  subst hsz
  have hD := hD0.self (sz := s.heap.size)
  generalize hAe : va_A (wSim s0 z M ++ (wCfg cy (z 0) bq G (nI n) sc ++ (wArr cy z rt Q T))) s.heap.size = A at hD ⊢
  have hA : ∀ q : Nat, s.heap.size ≤ q → A q := fun q h => by rw [← hAe]; exact Or.inr h
  have hS : va_S A s.heap s.heap [] := va_S.rf
  have hP : va_P (dC, dI) vwCl (wSim s0 z M ++ (wCfg cy (z 0) bq G (nI n) sc ++ (wArr cy z rt Q T))) s.heap := hP
  have hx := B.exec
  have hb := B.bytes
  have hr := B.returns
  have hts := atoms_spec (ws := wsX2_runOldestJob) B.pre
  have hown : s.vm.findClass RX2 = some m.cls := findClass_of_methodNamed B.named
  have hlocks := B.notSynchronized
  have hin0 : ∀ w ∈ u_ws RX0 TX0 9, w ∈ wsX2_runOldestJob := by decide +kernel
  have hin2 : ∀ w ∈ u_ws RX2 TX2 15, w ∈ wsX2_runOldestJob := by decide +kernel
  have f_113 := va_Nw.use (A := ([.ref s0, .int (nI 0), .int (nI u)].toArray)) rfl (hE.f 2 rfl)
  have f_12 := hts (.fieldLink RX2 12 "DeadlineAdmission$Simulation" "tasks" "LDeadlineAdmission$Configuration;") (by decide +kernel)
  have f_22 := hts (.fieldLink RX2 22 "DeadlineAdmission$Simulation" "oldestRelease" "[I") (by decide +kernel)
  have f_25 := hts (.fieldLink RX2 25 "DeadlineAdmission$Simulation" "oldestHasRun" "[I") (by decide +kernel)
  have f_30 := hts (.fieldLink RX2 30 "DeadlineAdmission$Simulation" "runningTime" "[[I") (by decide +kernel)
  have f_63 := hts (.fieldLink RX2 63 "DeadlineAdmission$Simulation" "mode" "I") (by decide +kernel)
  have f_89 := hts (.fieldLink RX2 89 "DeadlineAdmission$Simulation" "highSwitches" "I") (by decide +kernel)
  have hl := lv_entry ([.ref s0, .int (nI 0), .int (nI u)]) (n := 3) (Nat.le_of_ble_eq_true rfl)
  rw [lg_entry_eq]
  generalize (lg_sl ([.ref s0, .int (nI 0), .int (nI u)]) ++ List.replicate (3 - (lg_sl ([.ref s0, .int (nI 0), .int (nI u)])).length) Slot.unset).toArray = ls at hl ⊢
  have hl : lv_has ls 3 [(0, .ref s0), (1, .int (nI 0)), (2, .int (nI u))] := hl
  refine lv_aload_n hx hb dX2_runOldestJob_0 rfl (lv_at hl 0 rfl) ?_
  refine va_get (D := (dC, dI)) (ci := 2) (v := .ref (z 3)) (C := RX2) (T := TX2) (N := 15) hx hb hts hin2 hown hK hP 0 rfl rfl 3 (by decide) f_25 (fun _ h9 => h9) rfl dX2_runOldestJob_1 ?_
  refine lv_iload_n hx hb dX2_runOldestJob_4 rfl (lv_at hl 1 rfl) ?_
  refine lv_dup2_11 hx hb dX2_runOldestJob_5 rfl rfl ?_
  refine wI_alv (v := Q 3 0) hx hb hK hP 11 0 rfl rfl 0 rfl (by omega) (by decide) rfl dX2_runOldestJob_6 ?_
  refine lv_iconst (v := 1) hx hb dX2_runOldestJob_7 (by decide) ?_
  refine lv_iadd hx hb dX2_runOldestJob_8 ?_
  refine wI_ast hx hb hK hP hD hS 11 0 rfl rfl 0 rfl (by omega) (by decide) dX2_runOldestJob_9 (fun H locs hP hD hS => ?_)
  have hP : va_P (dC, dI) vwCl (wSim s0 z M ++ (wCfg cy (z 0) bq G (nI n) sc ++ (wArr cy z rt (up2 Q 3 0 ((Q 3 0) + 1)) T))) H := hP
  have hD : va_D A (wSim s0 z M ++ (wCfg cy (z 0) bq G (nI n) sc ++ (wArr cy z rt (up2 Q 3 0 ((Q 3 0) + 1)) T))) := hD
  refine lv_aload_n hx hb dX2_runOldestJob_10 rfl (lv_at hl 0 rfl) ?_
  refine va_get (D := (dC, dI)) (ci := 2) (v := .ref (z 3)) (C := RX2) (T := TX2) (N := 15) hx hb hts hin2 hown hK hP 0 rfl rfl 3 (by decide) f_25 (fun _ h9 => h9) rfl dX2_runOldestJob_11 ?_
  refine lv_iload_n hx hb dX2_runOldestJob_14 rfl (lv_at hl 1 rfl) ?_
  refine wI_alv (v := ((Q 3 0) + 1)) hx hb hK hP 11 0 rfl rfl 0 rfl (by omega) (by decide) up2_at dX2_runOldestJob_15 ?_
  refine lv_aload_n hx hb dX2_runOldestJob_16 rfl (lv_at hl 0 rfl) ?_
  refine va_get (D := (dC, dI)) (ci := 2) (v := .ref (z 4)) (C := RX2) (T := TX2) (N := 15) hx hb hts hin2 hown hK hP 0 rfl rfl 4 (by decide) f_30 (fun _ h9 => h9) rfl dX2_runOldestJob_17 ?_
  refine lv_iload_n hx hb dX2_runOldestJob_20 rfl (lv_at hl 1 rfl) ?_
  refine wB_ald (q := (rt 0)) hx hb hK hP 12 2 rfl rfl 0 rfl (by omega) (by decide) rfl dX2_runOldestJob_21 ?_
  refine lv_aload_n hx hb dX2_runOldestJob_22 rfl (lv_at hl 0 rfl) ?_
  refine va_get (D := (dC, dI)) (ci := 2) (v := .ref (z 2)) (C := RX2) (T := TX2) (N := 15) hx hb hts hin2 hown hK hP 0 rfl rfl 2 (by decide) f_22 (fun _ h9 => h9) rfl dX2_runOldestJob_23 ?_
  refine lv_iload_n hx hb dX2_runOldestJob_26 rfl (lv_at hl 1 rfl) ?_
  refine wI_alv (v := Q 2 0) hx hb hK hP 10 0 rfl rfl 0 rfl (by omega) (by decide) rfl dX2_runOldestJob_27 ?_
  refine wI_alv (v := T 0 o) hx hb hK hP 14 0 rfl rfl o ho (by omega) (by decide) rfl dX2_runOldestJob_28 ?_
  refine lv_icmp_ne (tgt := 43) hx hb dX2_runOldestJob_29 (by decide) (fun c_29 => ?_) (fun c_29 => ?_)
  · refine lv_aload_n hx hb dX2_runOldestJob_43 rfl (lv_at hl 0 rfl) ?_
    refine va_get (D := (dC, dI)) (ci := 2) (v := .int (M 6)) (C := RX2) (T := TX2) (N := 15) hx hb hts hin2 hown hK hP 0 rfl rfl 6 (by decide) f_63 (fun _ h9 => h9) rfl dX2_runOldestJob_44 ?_
    refine lv_if_ne (tgt := 98) hx hb dX2_runOldestJob_47 (by decide) (fun c_47 => ?_) (fun c_47 => ?_)
    · have hP9 : va_P (dC, dI) vwCl (wSim s0 z M ++ (wCfg cy (z 0) bq G (nI n) sc ++ (wArr cy z rt (up2 Q 3 0 ((Q 3 0) + 1)) T))) H := hP
      have hD9 : va_D A (wSim s0 z M ++ (wCfg cy (z 0) bq G (nI n) sc ++ (wArr cy z rt (up2 Q 3 0 ((Q 3 0) + 1)) T))) := hD
      exact W.vret hx hb hr (fun t ht hW => ⟨⟨(M, up2 Q 3 0 ((Q 3 0) + 1), T), rfl, (by have e9 : T 0 (Q 2 0).toNatClampNeg = T 0 o := (by rw [ho, nI_clamp (by omega)]); simp only [runO]; rw [e9, if_neg c_29, if_neg (fun h => c_47 h.1)]), by rw [ht]; exact hP9, hD9⟩, hS.F ht⟩) hS.2.2 dX2_runOldestJob_98
    · refine lv_aload_n hx hb dX2_runOldestJob_50 rfl (lv_at hl 0 rfl) ?_
      refine va_get (D := (dC, dI)) (ci := 2) (v := .ref (z 0)) (C := RX2) (T := TX2) (N := 15) hx hb hts hin2 hown hK hP 0 rfl rfl 0 (by decide) f_12 (fun _ h9 => h9) rfl dX2_runOldestJob_51 ?_
      refine lv_iload_n hx hb dX2_runOldestJob_54 rfl (lv_at hl 1 rfl) ?_
      refine vp_callSi (va_runV (As := [.int (nI 0)]) (rest := []) ⟨hx, hb, hml, hown, hts⟩ (c_X0_hasHighBudget l dC dI cy (z 0) bq G (nI n) sc  0 (by omega)) (cwV 1 hts gX2_runOldestJob_X0_hasHighBudget rfl rfl rfl (by decide +kernel) ⟨Nat.le_of_ble_eq_true rfl, Nat.le_of_ble_eq_true rfl⟩) ⟨bl_ro, va_recv hK (hP.sub (ws' := wCfg cy (z 0) bq G (nI n) sc) [1, 2, 3, 4, 5, 6, 7, 8] rfl) (ci := 0) (q0 := 0) rfl rfl, pr_ro (hP.sub (ws' := wCfg cy (z 0) bq G (nI n) sc) [1, 2, 3, 4, 5, 6, 7, 8] rfl) hE⟩ rfl rfl hl.1 rfl (lv_room (Nat.le_of_ble_eq_true rfl)) dX2_runOldestJob_55 ⟨Nat.le_of_ble_eq_true rfl, Nat.le_of_ble_eq_true rfl⟩).run (fun r e_r => ?_)
      subst e_r
      refine lv_if_eq (tgt := 98) hx hb dX2_runOldestJob_58 (by decide) (fun c_58 => ?_) (fun c_58 => ?_)
      · have hP9 : va_P (dC, dI) vwCl (wSim s0 z M ++ (wCfg cy (z 0) bq G (nI n) sc ++ (wArr cy z rt (up2 Q 3 0 ((Q 3 0) + 1)) T))) H := hP
        have hD9 : va_D A (wSim s0 z M ++ (wCfg cy (z 0) bq G (nI n) sc ++ (wArr cy z rt (up2 Q 3 0 ((Q 3 0) + 1)) T))) := hD
        exact W.vret hx hb hr (fun t ht hW => ⟨⟨(M, up2 Q 3 0 ((Q 3 0) + 1), T), rfl, (by have e9 : T 0 (Q 2 0).toNatClampNeg = T 0 o := (by rw [ho, nI_clamp (by omega)]); simp only [runO]; rw [e9, if_neg c_29, if_neg (fun h => h.2.1 (b01.mp c_58))]), by rw [ht]; exact hP9, hD9⟩, hS.F ht⟩) hS.2.2 dX2_runOldestJob_98
      · refine lv_aload_n hx hb dX2_runOldestJob_61 rfl (lv_at hl 0 rfl) ?_
        refine va_get (D := (dC, dI)) (ci := 2) (v := .ref (z 3)) (C := RX2) (T := TX2) (N := 15) hx hb hts hin2 hown hK hP 0 rfl rfl 3 (by decide) f_25 (fun _ h9 => h9) rfl dX2_runOldestJob_62 ?_
        refine lv_iload_n hx hb dX2_runOldestJob_65 rfl (lv_at hl 1 rfl) ?_
        refine wI_alv (v := ((Q 3 0) + 1)) hx hb hK hP 11 0 rfl rfl 0 rfl (by omega) (by decide) up2_at dX2_runOldestJob_66 ?_
        refine lv_aload_n hx hb dX2_runOldestJob_67 rfl (lv_at hl 0 rfl) ?_
        refine va_get (D := (dC, dI)) (ci := 2) (v := .ref (z 0)) (C := RX2) (T := TX2) (N := 15) hx hb hts hin2 hown hK hP 0 rfl rfl 0 (by decide) f_12 (fun _ h9 => h9) rfl dX2_runOldestJob_68 ?_
        refine va_getN (D := (dC, dI)) (ci := 0) (v := .ref (bq 2)) (C := RX0) (T := TX0) (N := 9) hx hb hts hin0 hown hK hP 1 rfl rfl 2 (by decide) f_113 (fun _ h9 => h9) rfl dX2_runOldestJob_71 ?_
        refine lv_iload_n hx hb dX2_runOldestJob_74 rfl (lv_at hl 1 rfl) ?_
        refine wI_alv (v := G 2 0) hx hb hK hP 4 0 rfl rfl 0 rfl (by omega) (by decide) rfl dX2_runOldestJob_75 ?_
        refine lv_icmp_ne (tgt := 98) hx hb dX2_runOldestJob_76 (by decide) (fun c_76 => ?_) (fun c_76 => ?_)
        · have hP9 : va_P (dC, dI) vwCl (wSim s0 z M ++ (wCfg cy (z 0) bq G (nI n) sc ++ (wArr cy z rt (up2 Q 3 0 ((Q 3 0) + 1)) T))) H := hP
          have hD9 : va_D A (wSim s0 z M ++ (wCfg cy (z 0) bq G (nI n) sc ++ (wArr cy z rt (up2 Q 3 0 ((Q 3 0) + 1)) T))) := hD
          exact W.vret hx hb hr (fun t ht hW => ⟨⟨(M, up2 Q 3 0 ((Q 3 0) + 1), T), rfl, (by have e9 : T 0 (Q 2 0).toNatClampNeg = T 0 o := (by rw [ho, nI_clamp (by omega)]); simp only [runO]; rw [e9, if_neg c_29, if_neg (fun h => c_76 h.2.2)]), by rw [ht]; exact hP9, hD9⟩, hS.F ht⟩) hS.2.2 dX2_runOldestJob_98
        · refine lv_aload_n hx hb dX2_runOldestJob_79 rfl (lv_at hl 0 rfl) ?_
          refine lv_iconst (v := 1) hx hb dX2_runOldestJob_80 (by decide) ?_
          refine va_put (D := (dC, dI)) (ci := 2) (v := .int 1) (ty := .int) (C := RX2) (T := TX2) (N := 15) hx hb hts hin2 tyX2 tyX2_ok nmX2 hown hK hP hD hS 0 rfl rfl 6 (by decide) f_63 (fun _ h9 => h9) rfl (by decide +kernel) rfl rfl (Nat.le_of_ble_eq_true rfl) dX2_runOldestJob_81 (fun H locs hP hD hS => ?_)
          have hP : va_P (dC, dI) vwCl (wSim s0 z (upd M 6 1) ++ (wCfg cy (z 0) bq G (nI n) sc ++ (wArr cy z rt (up2 Q 3 0 ((Q 3 0) + 1)) T))) H := hP
          have hD : va_D A (wSim s0 z (upd M 6 1) ++ (wCfg cy (z 0) bq G (nI n) sc ++ (wArr cy z rt (up2 Q 3 0 ((Q 3 0) + 1)) T))) := hD
          refine lv_aload_n hx hb dX2_runOldestJob_84 rfl (lv_at hl 0 rfl) ?_
          refine lv_dup hx hb dX2_runOldestJob_85 rfl ?_
          refine va_get (D := (dC, dI)) (ci := 2) (v := .int (M 13)) (C := RX2) (T := TX2) (N := 15) hx hb hts hin2 hown hK hP 0 rfl rfl 13 (by decide) f_89 (fun _ h9 => h9) rfl dX2_runOldestJob_86 ?_
          refine lv_iconst (v := 1) hx hb dX2_runOldestJob_89 (by decide) ?_
          refine lv_iadd hx hb dX2_runOldestJob_90 ?_
          refine va_put (D := (dC, dI)) (ci := 2) (v := .int ((M 13) + 1)) (ty := .int) (C := RX2) (T := TX2) (N := 15) hx hb hts hin2 tyX2 tyX2_ok nmX2 hown hK hP hD hS 0 rfl rfl 13 (by decide) f_89 (fun _ h9 => h9) rfl (by decide +kernel) rfl rfl (Nat.le_of_ble_eq_true rfl) dX2_runOldestJob_91 (fun H locs hP hD hS => ?_)
          have hP : va_P (dC, dI) vwCl (wSim s0 z (upd (upd M 6 1) 13 ((M 13) + 1)) ++ (wCfg cy (z 0) bq G (nI n) sc ++ (wArr cy z rt (up2 Q 3 0 ((Q 3 0) + 1)) T))) H := hP
          have hD : va_D A (wSim s0 z (upd (upd M 6 1) 13 ((M 13) + 1)) ++ (wCfg cy (z 0) bq G (nI n) sc ++ (wArr cy z rt (up2 Q 3 0 ((Q 3 0) + 1)) T))) := hD
          refine lv_aload_n hx hb dX2_runOldestJob_94 rfl (lv_at hl 0 rfl) ?_
          have hPc := hP.sub (ws' := wSim s0 z (upd (upd M 6 1) 13 ((M 13) + 1)) ++ (wCfg cy (z 0) bq G (nI n) sc ++ (wArr cy z rt (up2 Q 3 0 ((Q 3 0) + 1)) T))) [0, 1, 2, 3, 4, 5, 6, 7, 8, 9, 10, 11, 12, 13, 14, 15, 16, 17, 18, 19, 20, 21] rfl
          have hDc := hD.sub (ws' := wSim s0 z (upd (upd M 6 1) 13 ((M 13) + 1)) ++ (wCfg cy (z 0) bq G (nI n) sc ++ (wArr cy z rt (up2 Q 3 0 ((Q 3 0) + 1)) T))) [0, 1, 2, 3, 4, 5, 6, 7, 8, 9, 10, 11, 12, 13, 14, 15, 16, 17, 18, 19, 20, 21] (by decide) rfl
          have hFc := va_free (wc := wSim s0 z (upd (upd M 6 1) 13 ((M 13) + 1)) ++ (wCfg cy (z 0) bq G (nI n) sc ++ (wArr cy z rt (up2 Q 3 0 ((Q 3 0) + 1)) T))) hD hS hA [0, 1, 2, 3, 4, 5, 6, 7, 8, 9, 10, 11, 12, 13, 14, 15, 16, 17, 18, 19, 20, 21] rfl
          refine va_callv (va_runV (As := []) (rest := []) ⟨hx, hb, hml, hown, hts⟩ (c_X2_dropPendingJobs l dC dI cy H.size s0 z (upd (upd M 6 1) 13 ((M 13) + 1)) bq G n hn sc (up2 Q 3 0 ((Q 3 0) + 1)) rt T) (cwV 0 hts gX2_runOldestJob_X2_dropPendingJobs rfl rfl rfl (by decide +kernel) ⟨Nat.le_of_ble_eq_true rfl, Nat.le_of_ble_eq_true rfl⟩) ⟨bl_in, va_recv hK hPc (ci := 2) (q0 := 0) rfl rfl, pr_in hPc hE hDc⟩ rfl rfl hl.1 rfl (lv_room (Nat.le_of_ble_eq_true rfl)) dX2_runOldestJob_95 ⟨Nat.le_of_ble_eq_true rfl, Nat.le_of_ble_eq_true rfl⟩) hS (fun q _ h => hFc q h) hFc (fun u t H1 locs ht hvm hw hB hz1 hk1 hS => ?_)
          obtain ⟨M_95, Q_95, T_95⟩ := u
          have e_95 : (M_95, Q_95, T_95) = _ := hw
          obtain ⟨hP1, hD1⟩ := hB
          rw [ht] at hP1
          obtain ⟨hP, hD⟩ := va_join (wr := []) (w1 := wSim s0 z M_95 ++ (wCfg cy (z 0) bq G (nI n) sc ++ (wArr cy z rt Q_95 T_95))) hP hD [0, 1, 2, 3, 4, 5, 6, 7, 8, 9, 10, 11, 12, 13, 14, 15, 16, 17, 18, 19, 20, 21] [] rfl rfl (by decide) (by decide) hk1 hFc hP1 hD1
          have hP : va_P (dC, dI) vwCl (wSim s0 z M_95 ++ (wCfg cy (z 0) bq G (nI n) sc ++ (wArr cy z rt Q_95 T_95))) H1 := hP.sub [0, 1, 2, 3, 4, 5, 6, 7, 8, 9, 10, 11, 12, 13, 14, 15, 16, 17, 18, 19, 20, 21] rfl
          have hD : va_D A (wSim s0 z M_95 ++ (wCfg cy (z 0) bq G (nI n) sc ++ (wArr cy z rt Q_95 T_95))) := hD.sub [0, 1, 2, 3, 4, 5, 6, 7, 8, 9, 10, 11, 12, 13, 14, 15, 16, 17, 18, 19, 20, 21] (by decide) rfl
          clear hz1 hk1 hPc hDc hFc hP1 hD1
          generalize H1 = H at hP hS ⊢
          have hP9 : va_P (dC, dI) vwCl (wSim s0 z M_95 ++ (wCfg cy (z 0) bq G (nI n) sc ++ (wArr cy z rt Q_95 T_95))) H := hP
          have hD9 : va_D A (wSim s0 z M_95 ++ (wCfg cy (z 0) bq G (nI n) sc ++ (wArr cy z rt Q_95 T_95))) := hD
          exact W.vret hx hb hr (fun t ht hW => ⟨⟨(M_95, Q_95, T_95), rfl, (by have e9 : T 0 (Q 2 0).toNatClampNeg = T 0 o := (by rw [ho, nI_clamp (by omega)]); simp only [runO]; rw [e9, if_neg c_29, if_pos ⟨c_47, fun h => c_58 (b01.mpr h), c_76⟩]; exact e_95), by rw [ht]; exact hP9, hD9⟩, hS.F ht⟩) hS.2.2 dX2_runOldestJob_98
  · refine lv_aload_n hx hb dX2_runOldestJob_32 rfl (lv_at hl 0 rfl) ?_
    refine lv_iload_n hx hb dX2_runOldestJob_33 rfl (lv_at hl 1 rfl) ?_
    refine lv_iload_n hx hb dX2_runOldestJob_34 rfl (lv_at hl 2 rfl) ?_
    refine lv_iconst (v := 1) hx hb dX2_runOldestJob_35 (by decide) ?_
    refine lv_iadd hx hb dX2_runOldestJob_36 ?_
    have hPc := hP.sub (ws' := wSim s0 z M ++ (wCfg cy (z 0) bq G (nI n) sc ++ (wArr cy z rt (up2 Q 3 0 ((Q 3 0) + 1)) T))) [0, 1, 2, 3, 4, 5, 6, 7, 8, 9, 10, 11, 12, 13, 14, 15, 16, 17, 18, 19, 20, 21] rfl
    have hDc := hD.sub (ws' := wSim s0 z M ++ (wCfg cy (z 0) bq G (nI n) sc ++ (wArr cy z rt (up2 Q 3 0 ((Q 3 0) + 1)) T))) [0, 1, 2, 3, 4, 5, 6, 7, 8, 9, 10, 11, 12, 13, 14, 15, 16, 17, 18, 19, 20, 21] (by decide) rfl
    have hFc := va_free (wc := wSim s0 z M ++ (wCfg cy (z 0) bq G (nI n) sc ++ (wArr cy z rt (up2 Q 3 0 ((Q 3 0) + 1)) T))) hD hS hA [0, 1, 2, 3, 4, 5, 6, 7, 8, 9, 10, 11, 12, 13, 14, 15, 16, 17, 18, 19, 20, 21] rfl
    refine va_callv (va_runV (As := [.int (nI 0), .int ((nI u) + 1)]) (rest := []) ⟨hx, hb, hml, hown, hts⟩ (c_X2_completeOldestJob l dC dI cy H.size s0 z M bq G n hn sc (up2 Q 3 0 ((Q 3 0) + 1)) rt T 0 (by omega) ((nI u) + 1)) (cwV 2 hts gX2_runOldestJob_X2_completeOldestJob rfl rfl rfl (by decide +kernel) ⟨Nat.le_of_ble_eq_true rfl, Nat.le_of_ble_eq_true rfl⟩) ⟨bl_in, va_recv hK hPc (ci := 2) (q0 := 0) rfl rfl, pr_in hPc hE hDc⟩ rfl rfl hl.1 rfl (lv_room (Nat.le_of_ble_eq_true rfl)) dX2_runOldestJob_37 ⟨Nat.le_of_ble_eq_true rfl, Nat.le_of_ble_eq_true rfl⟩) hS (fun q _ h => hFc q h) hFc (fun u t H1 locs ht hvm hw hB hz1 hk1 hS => ?_)
    obtain ⟨M_37, Q_37, T_37⟩ := u
    have e_37 : (M_37, Q_37, T_37) = _ := hw
    obtain ⟨hP1, hD1⟩ := hB
    rw [ht] at hP1
    obtain ⟨hP, hD⟩ := va_join (wr := []) (w1 := wSim s0 z M_37 ++ (wCfg cy (z 0) bq G (nI n) sc ++ (wArr cy z rt Q_37 T_37))) hP hD [0, 1, 2, 3, 4, 5, 6, 7, 8, 9, 10, 11, 12, 13, 14, 15, 16, 17, 18, 19, 20, 21] [] rfl rfl (by decide) (by decide) hk1 hFc hP1 hD1
    have hP : va_P (dC, dI) vwCl (wSim s0 z M_37 ++ (wCfg cy (z 0) bq G (nI n) sc ++ (wArr cy z rt Q_37 T_37))) H1 := hP.sub [0, 1, 2, 3, 4, 5, 6, 7, 8, 9, 10, 11, 12, 13, 14, 15, 16, 17, 18, 19, 20, 21] rfl
    have hD : va_D A (wSim s0 z M_37 ++ (wCfg cy (z 0) bq G (nI n) sc ++ (wArr cy z rt Q_37 T_37))) := hD.sub [0, 1, 2, 3, 4, 5, 6, 7, 8, 9, 10, 11, 12, 13, 14, 15, 16, 17, 18, 19, 20, 21] (by decide) rfl
    clear hz1 hk1 hPc hDc hFc hP1 hD1
    generalize H1 = H at hP hS ⊢
    refine lv_goto (tgt := 98) hx hb dX2_runOldestJob_40 (by decide) ?_
    have hP9 : va_P (dC, dI) vwCl (wSim s0 z M_37 ++ (wCfg cy (z 0) bq G (nI n) sc ++ (wArr cy z rt Q_37 T_37))) H := hP
    have hD9 : va_D A (wSim s0 z M_37 ++ (wCfg cy (z 0) bq G (nI n) sc ++ (wArr cy z rt Q_37 T_37))) := hD
    exact W.vret hx hb hr (fun t ht hW => ⟨⟨(M_37, Q_37, T_37), rfl, (by have e9 : T 0 (Q 2 0).toNatClampNeg = T 0 o := (by rw [ho, nI_clamp (by omega)]); simp only [runO]; rw [e9, if_pos c_29]; exact e_37), by rw [ht]; exact hP9, hD9⟩, hS.F ht⟩) hS.2.2 dX2_runOldestJob_98
set_option maxHeartbeats 1000000 in
set_option maxRecDepth 100000 in
/-- the oldest job of task 1 runs -/
theorem c_X2_runOldestJob_1 (l : Launch) (dC : Nat → ClassId) (dI : Nat → Nat → Nat) (cy : Nat → ClassId) (sz : Nat) (s0 : Nat) (z : Nat → Nat) (M : Nat → Int32) (bq : Nat → Nat) (G : vG) (n : Nat) (hn : n ≤ 8) (sc : Int32) (Q : vG) (rt : Nat → Nat) (T : vG) (u : Nat) (hu : u < 200) (o : Nat) (ho8 : o < 200) (ho : Q 2 1 = nI o) : Met l yX2_runOldestJob wsX2_runOldestJob ({ frames := 2, cells := 0, slots := 0, locals := 45 }) (va_Pc [.ref s0, .int (nI 1), .int (nI u)] (pIn dC dI cy (wSim s0 z M ++ (wCfg cy (z 0) bq G (nI n) sc ++ (wArr cy z rt Q T))) sz)) (va_Qv (fun (u9 : SSt) => u9 = runO G n 1 u (M, Q, T)) (fun (u : SSt) t => va_P (dC, dI) vwCl (wSim s0 z u.1 ++ (wCfg cy (z 0) bq G (nI n) sc ++ (wArr cy z rt u.2.1 u.2.2))) t.heap ∧ va_D (va_A (wSim s0 z M ++ (wCfg cy (z 0) bq G (nI n) sc ++ (wArr cy z rt Q T))) sz) (wSim s0 z u.1 ++ (wCfg cy (z 0) bq G (nI n) sc ++ (wArr cy z rt u.2.1 u.2.2)))) (va_A (wSim s0 z M ++ (wCfg cy (z 0) bq G (nI n) sc ++ (wArr cy z rt Q T))) sz)) 0 0 (va_A (wSim s0 z M ++ (wCfg cy (z 0) bq G (nI n) sc ++ (wArr cy z rt Q T))) sz) := by
  refine Met.ofW (cc := cX2_runOldestJob) (maxL := 3) (ret := none) (by decide) rfl ?_
  intro p e s m args below meth c s₁ B hml hv
  obtain ⟨rfl, hsz, hP, hE, hD0⟩ := hv
  have hK := hE.1
  subst hsz
  have hD := hD0.self (sz := s.heap.size)
  generalize hAe : va_A (wSim s0 z M ++ (wCfg cy (z 0) bq G (nI n) sc ++ (wArr cy z rt Q T))) s.heap.size = A at hD ⊢
  have hA : ∀ q : Nat, s.heap.size ≤ q → A q := fun q h => by rw [← hAe]; exact Or.inr h
  have hS : va_S A s.heap s.heap [] := va_S.rf
  have hP : va_P (dC, dI) vwCl (wSim s0 z M ++ (wCfg cy (z 0) bq G (nI n) sc ++ (wArr cy z rt Q T))) s.heap := hP
  have hx := B.exec
  have hb := B.bytes
  have hr := B.returns
  have hts := atoms_spec (ws := wsX2_runOldestJob) B.pre
  have hown : s.vm.findClass RX2 = some m.cls := findClass_of_methodNamed B.named
  have hlocks := B.notSynchronized
  have hin0 : ∀ w ∈ u_ws RX0 TX0 9, w ∈ wsX2_runOldestJob := by decide +kernel
  have hin2 : ∀ w ∈ u_ws RX2 TX2 15, w ∈ wsX2_runOldestJob := by decide +kernel
  have f_113 := va_Nw.use (A := ([.ref s0, .int (nI 1), .int (nI u)].toArray)) rfl (hE.f 2 rfl)
  have f_12 := hts (.fieldLink RX2 12 "DeadlineAdmission$Simulation" "tasks" "LDeadlineAdmission$Configuration;") (by decide +kernel)
  have f_22 := hts (.fieldLink RX2 22 "DeadlineAdmission$Simulation" "oldestRelease" "[I") (by decide +kernel)
  have f_25 := hts (.fieldLink RX2 25 "DeadlineAdmission$Simulation" "oldestHasRun" "[I") (by decide +kernel)
  have f_30 := hts (.fieldLink RX2 30 "DeadlineAdmission$Simulation" "runningTime" "[[I") (by decide +kernel)
  have f_63 := hts (.fieldLink RX2 63 "DeadlineAdmission$Simulation" "mode" "I") (by decide +kernel)
  have f_89 := hts (.fieldLink RX2 89 "DeadlineAdmission$Simulation" "highSwitches" "I") (by decide +kernel)
  have hl := lv_entry ([.ref s0, .int (nI 1), .int (nI u)]) (n := 3) (Nat.le_of_ble_eq_true rfl)
  rw [lg_entry_eq]
  generalize (lg_sl ([.ref s0, .int (nI 1), .int (nI u)]) ++ List.replicate (3 - (lg_sl ([.ref s0, .int (nI 1), .int (nI u)])).length) Slot.unset).toArray = ls at hl ⊢
  have hl : lv_has ls 3 [(0, .ref s0), (1, .int (nI 1)), (2, .int (nI u))] := hl
  refine lv_aload_n hx hb dX2_runOldestJob_0 rfl (lv_at hl 0 rfl) ?_
  refine va_get (D := (dC, dI)) (ci := 2) (v := .ref (z 3)) (C := RX2) (T := TX2) (N := 15) hx hb hts hin2 hown hK hP 0 rfl rfl 3 (by decide) f_25 (fun _ h9 => h9) rfl dX2_runOldestJob_1 ?_
  refine lv_iload_n hx hb dX2_runOldestJob_4 rfl (lv_at hl 1 rfl) ?_
  refine lv_dup2_11 hx hb dX2_runOldestJob_5 rfl rfl ?_
  refine wI_alv (v := Q 3 1) hx hb hK hP 11 0 rfl rfl 1 rfl (by omega) (by decide) rfl dX2_runOldestJob_6 ?_
  refine lv_iconst (v := 1) hx hb dX2_runOldestJob_7 (by decide) ?_
  refine lv_iadd hx hb dX2_runOldestJob_8 ?_
  refine wI_ast hx hb hK hP hD hS 11 0 rfl rfl 1 rfl (by omega) (by decide) dX2_runOldestJob_9 (fun H locs hP hD hS => ?_)
  have hP : va_P (dC, dI) vwCl (wSim s0 z M ++ (wCfg cy (z 0) bq G (nI n) sc ++ (wArr cy z rt (up2 Q 3 1 ((Q 3 1) + 1)) T))) H := hP
  have hD : va_D A (wSim s0 z M ++ (wCfg cy (z 0) bq G (nI n) sc ++ (wArr cy z rt (up2 Q 3 1 ((Q 3 1) + 1)) T))) := hD
  refine lv_aload_n hx hb dX2_runOldestJob_10 rfl (lv_at hl 0 rfl) ?_
  refine va_get (D := (dC, dI)) (ci := 2) (v := .ref (z 3)) (C := RX2) (T := TX2) (N := 15) hx hb hts hin2 hown hK hP 0 rfl rfl 3 (by decide) f_25 (fun _ h9 => h9) rfl dX2_runOldestJob_11 ?_
  refine lv_iload_n hx hb dX2_runOldestJob_14 rfl (lv_at hl 1 rfl) ?_
  refine wI_alv (v := ((Q 3 1) + 1)) hx hb hK hP 11 0 rfl rfl 1 rfl (by omega) (by decide) up2_at dX2_runOldestJob_15 ?_
  refine lv_aload_n hx hb dX2_runOldestJob_16 rfl (lv_at hl 0 rfl) ?_
  refine va_get (D := (dC, dI)) (ci := 2) (v := .ref (z 4)) (C := RX2) (T := TX2) (N := 15) hx hb hts hin2 hown hK hP 0 rfl rfl 4 (by decide) f_30 (fun _ h9 => h9) rfl dX2_runOldestJob_17 ?_
  refine lv_iload_n hx hb dX2_runOldestJob_20 rfl (lv_at hl 1 rfl) ?_
  refine wB_ald (q := (rt 1)) hx hb hK hP 12 2 rfl rfl 1 rfl (by omega) (by decide) rfl dX2_runOldestJob_21 ?_
  refine lv_aload_n hx hb dX2_runOldestJob_22 rfl (lv_at hl 0 rfl) ?_
  refine va_get (D := (dC, dI)) (ci := 2) (v := .ref (z 2)) (C := RX2) (T := TX2) (N := 15) hx hb hts hin2 hown hK hP 0 rfl rfl 2 (by decide) f_22 (fun _ h9 => h9) rfl dX2_runOldestJob_23 ?_
  refine lv_iload_n hx hb dX2_runOldestJob_26 rfl (lv_at hl 1 rfl) ?_
  refine wI_alv (v := Q 2 1) hx hb hK hP 10 0 rfl rfl 1 rfl (by omega) (by decide) rfl dX2_runOldestJob_27 ?_
  refine wI_alv (v := T 1 o) hx hb hK hP 15 0 rfl rfl o ho (by omega) (by decide) rfl dX2_runOldestJob_28 ?_
  refine lv_icmp_ne (tgt := 43) hx hb dX2_runOldestJob_29 (by decide) (fun c_29 => ?_) (fun c_29 => ?_)
  · refine lv_aload_n hx hb dX2_runOldestJob_43 rfl (lv_at hl 0 rfl) ?_
    refine va_get (D := (dC, dI)) (ci := 2) (v := .int (M 6)) (C := RX2) (T := TX2) (N := 15) hx hb hts hin2 hown hK hP 0 rfl rfl 6 (by decide) f_63 (fun _ h9 => h9) rfl dX2_runOldestJob_44 ?_
    refine lv_if_ne (tgt := 98) hx hb dX2_runOldestJob_47 (by decide) (fun c_47 => ?_) (fun c_47 => ?_)
    · have hP9 : va_P (dC, dI) vwCl (wSim s0 z M ++ (wCfg cy (z 0) bq G (nI n) sc ++ (wArr cy z rt (up2 Q 3 1 ((Q 3 1) + 1)) T))) H := hP
      have hD9 : va_D A (wSim s0 z M ++ (wCfg cy (z 0) bq G (nI n) sc ++ (wArr cy z rt (up2 Q 3 1 ((Q 3 1) + 1)) T))) := hD
      exact W.vret hx hb hr (fun t ht hW => ⟨⟨(M, up2 Q 3 1 ((Q 3 1) + 1), T), rfl, (by have e9 : T 1 (Q 2 1).toNatClampNeg = T 1 o := (by rw [ho, nI_clamp (by omega)]); simp only [runO]; rw [e9, if_neg c_29, if_neg (fun h => c_47 h.1)]), by rw [ht]; exact hP9, hD9⟩, hS.F ht⟩) hS.2.2 dX2_runOldestJob_98
    · refine lv_aload_n hx hb dX2_runOldestJob_50 rfl (lv_at hl 0 rfl) ?_
      refine va_get (D := (dC, dI)) (ci := 2) (v := .ref (z 0)) (C := RX2) (T := TX2) (N := 15) hx hb hts hin2 hown hK hP 0 rfl rfl 0 (by decide) f_12 (fun _ h9 => h9) rfl dX2_runOldestJob_51 ?_
      refine lv_iload_n hx hb dX2_runOldestJob_54 rfl (lv_at hl 1 rfl) ?_
      refine vp_callSi (va_runV (As := [.int (nI 1)]) (rest := []) ⟨hx, hb, hml, hown, hts⟩ (c_X0_hasHighBudget l dC dI cy (z 0) bq G (nI n) sc  1 (by omega)) (cwV 1 hts gX2_runOldestJob_X0_hasHighBudget rfl rfl rfl (by decide +kernel) ⟨Nat.le_of_ble_eq_true rfl, Nat.le_of_ble_eq_true rfl⟩) ⟨bl_ro, va_recv hK (hP.sub (ws' := wCfg cy (z 0) bq G (nI n) sc) [1, 2, 3, 4, 5, 6, 7, 8] rfl) (ci := 0) (q0 := 0) rfl rfl, pr_ro (hP.sub (ws' := wCfg cy (z 0) bq G (nI n) sc) [1, 2, 3, 4, 5, 6, 7, 8] rfl) hE⟩ rfl rfl hl.1 rfl (lv_room (Nat.le_of_ble_eq_true rfl)) dX2_runOldestJob_55 ⟨Nat.le_of_ble_eq_true rfl, Nat.le_of_ble_eq_true rfl⟩).run (fun r e_r => ?_)
      subst e_r
      refine lv_if_eq (tgt := 98) hx hb dX2_runOldestJob_58 (by decide) (fun c_58 => ?_) (fun c_58 => ?_)
      · have hP9 : va_P (dC, dI) vwCl (wSim s0 z M ++ (wCfg cy (z 0) bq G (nI n) sc ++ (wArr cy z rt (up2 Q 3 1 ((Q 3 1) + 1)) T))) H := hP
        have hD9 : va_D A (wSim s0 z M ++ (wCfg cy (z 0) bq G (nI n) sc ++ (wArr cy z rt (up2 Q 3 1 ((Q 3 1) + 1)) T))) := hD
        exact W.vret hx hb hr (fun t ht hW => ⟨⟨(M, up2 Q 3 1 ((Q 3 1) + 1), T), rfl, (by have e9 : T 1 (Q 2 1).toNatClampNeg = T 1 o := (by rw [ho, nI_clamp (by omega)]); simp only [runO]; rw [e9, if_neg c_29, if_neg (fun h => h.2.1 (b01.mp c_58))]), by rw [ht]; exact hP9, hD9⟩, hS.F ht⟩) hS.2.2 dX2_runOldestJob_98
      · refine lv_aload_n hx hb dX2_runOldestJob_61 rfl (lv_at hl 0 rfl) ?_
        refine va_get (D := (dC, dI)) (ci := 2) (v := .ref (z 3)) (C := RX2) (T := TX2) (N := 15) hx hb hts hin2 hown hK hP 0 rfl rfl 3 (by decide) f_25 (fun _ h9 => h9) rfl dX2_runOldestJob_62 ?_
        refine lv_iload_n hx hb dX2_runOldestJob_65 rfl (lv_at hl 1 rfl) ?_
        refine wI_alv (v := ((Q 3 1) + 1)) hx hb hK hP 11 0 rfl rfl 1 rfl (by omega) (by decide) up2_at dX2_runOldestJob_66 ?_
        refine lv_aload_n hx hb dX2_runOldestJob_67 rfl (lv_at hl 0 rfl) ?_
        refine va_get (D := (dC, dI)) (ci := 2) (v := .ref (z 0)) (C := RX2) (T := TX2) (N := 15) hx hb hts hin2 hown hK hP 0 rfl rfl 0 (by decide) f_12 (fun _ h9 => h9) rfl dX2_runOldestJob_68 ?_
        refine va_getN (D := (dC, dI)) (ci := 0) (v := .ref (bq 2)) (C := RX0) (T := TX0) (N := 9) hx hb hts hin0 hown hK hP 1 rfl rfl 2 (by decide) f_113 (fun _ h9 => h9) rfl dX2_runOldestJob_71 ?_
        refine lv_iload_n hx hb dX2_runOldestJob_74 rfl (lv_at hl 1 rfl) ?_
        refine wI_alv (v := G 2 1) hx hb hK hP 4 0 rfl rfl 1 rfl (by omega) (by decide) rfl dX2_runOldestJob_75 ?_
        refine lv_icmp_ne (tgt := 98) hx hb dX2_runOldestJob_76 (by decide) (fun c_76 => ?_) (fun c_76 => ?_)
        · have hP9 : va_P (dC, dI) vwCl (wSim s0 z M ++ (wCfg cy (z 0) bq G (nI n) sc ++ (wArr cy z rt (up2 Q 3 1 ((Q 3 1) + 1)) T))) H := hP
          have hD9 : va_D A (wSim s0 z M ++ (wCfg cy (z 0) bq G (nI n) sc ++ (wArr cy z rt (up2 Q 3 1 ((Q 3 1) + 1)) T))) := hD
          exact W.vret hx hb hr (fun t ht hW => ⟨⟨(M, up2 Q 3 1 ((Q 3 1) + 1), T), rfl, (by have e9 : T 1 (Q 2 1).toNatClampNeg = T 1 o := (by rw [ho, nI_clamp (by omega)]); simp only [runO]; rw [e9, if_neg c_29, if_neg (fun h => c_76 h.2.2)]), by rw [ht]; exact hP9, hD9⟩, hS.F ht⟩) hS.2.2 dX2_runOldestJob_98
        · refine lv_aload_n hx hb dX2_runOldestJob_79 rfl (lv_at hl 0 rfl) ?_
          refine lv_iconst (v := 1) hx hb dX2_runOldestJob_80 (by decide) ?_
          refine va_put (D := (dC, dI)) (ci := 2) (v := .int 1) (ty := .int) (C := RX2) (T := TX2) (N := 15) hx hb hts hin2 tyX2 tyX2_ok nmX2 hown hK hP hD hS 0 rfl rfl 6 (by decide) f_63 (fun _ h9 => h9) rfl (by decide +kernel) rfl rfl (Nat.le_of_ble_eq_true rfl) dX2_runOldestJob_81 (fun H locs hP hD hS => ?_)
          have hP : va_P (dC, dI) vwCl (wSim s0 z (upd M 6 1) ++ (wCfg cy (z 0) bq G (nI n) sc ++ (wArr cy z rt (up2 Q 3 1 ((Q 3 1) + 1)) T))) H := hP
          have hD : va_D A (wSim s0 z (upd M 6 1) ++ (wCfg cy (z 0) bq G (nI n) sc ++ (wArr cy z rt (up2 Q 3 1 ((Q 3 1) + 1)) T))) := hD
          refine lv_aload_n hx hb dX2_runOldestJob_84 rfl (lv_at hl 0 rfl) ?_
          refine lv_dup hx hb dX2_runOldestJob_85 rfl ?_
          refine va_get (D := (dC, dI)) (ci := 2) (v := .int (M 13)) (C := RX2) (T := TX2) (N := 15) hx hb hts hin2 hown hK hP 0 rfl rfl 13 (by decide) f_89 (fun _ h9 => h9) rfl dX2_runOldestJob_86 ?_
          refine lv_iconst (v := 1) hx hb dX2_runOldestJob_89 (by decide) ?_
          refine lv_iadd hx hb dX2_runOldestJob_90 ?_
          refine va_put (D := (dC, dI)) (ci := 2) (v := .int ((M 13) + 1)) (ty := .int) (C := RX2) (T := TX2) (N := 15) hx hb hts hin2 tyX2 tyX2_ok nmX2 hown hK hP hD hS 0 rfl rfl 13 (by decide) f_89 (fun _ h9 => h9) rfl (by decide +kernel) rfl rfl (Nat.le_of_ble_eq_true rfl) dX2_runOldestJob_91 (fun H locs hP hD hS => ?_)
          have hP : va_P (dC, dI) vwCl (wSim s0 z (upd (upd M 6 1) 13 ((M 13) + 1)) ++ (wCfg cy (z 0) bq G (nI n) sc ++ (wArr cy z rt (up2 Q 3 1 ((Q 3 1) + 1)) T))) H := hP
          have hD : va_D A (wSim s0 z (upd (upd M 6 1) 13 ((M 13) + 1)) ++ (wCfg cy (z 0) bq G (nI n) sc ++ (wArr cy z rt (up2 Q 3 1 ((Q 3 1) + 1)) T))) := hD
          refine lv_aload_n hx hb dX2_runOldestJob_94 rfl (lv_at hl 0 rfl) ?_
          have hPc := hP.sub (ws' := wSim s0 z (upd (upd M 6 1) 13 ((M 13) + 1)) ++ (wCfg cy (z 0) bq G (nI n) sc ++ (wArr cy z rt (up2 Q 3 1 ((Q 3 1) + 1)) T))) [0, 1, 2, 3, 4, 5, 6, 7, 8, 9, 10, 11, 12, 13, 14, 15, 16, 17, 18, 19, 20, 21] rfl
          have hDc := hD.sub (ws' := wSim s0 z (upd (upd M 6 1) 13 ((M 13) + 1)) ++ (wCfg cy (z 0) bq G (nI n) sc ++ (wArr cy z rt (up2 Q 3 1 ((Q 3 1) + 1)) T))) [0, 1, 2, 3, 4, 5, 6, 7, 8, 9, 10, 11, 12, 13, 14, 15, 16, 17, 18, 19, 20, 21] (by decide) rfl
          have hFc := va_free (wc := wSim s0 z (upd (upd M 6 1) 13 ((M 13) + 1)) ++ (wCfg cy (z 0) bq G (nI n) sc ++ (wArr cy z rt (up2 Q 3 1 ((Q 3 1) + 1)) T))) hD hS hA [0, 1, 2, 3, 4, 5, 6, 7, 8, 9, 10, 11, 12, 13, 14, 15, 16, 17, 18, 19, 20, 21] rfl
          refine va_callv (va_runV (As := []) (rest := []) ⟨hx, hb, hml, hown, hts⟩ (c_X2_dropPendingJobs l dC dI cy H.size s0 z (upd (upd M 6 1) 13 ((M 13) + 1)) bq G n hn sc (up2 Q 3 1 ((Q 3 1) + 1)) rt T) (cwV 0 hts gX2_runOldestJob_X2_dropPendingJobs rfl rfl rfl (by decide +kernel) ⟨Nat.le_of_ble_eq_true rfl, Nat.le_of_ble_eq_true rfl⟩) ⟨bl_in, va_recv hK hPc (ci := 2) (q0 := 0) rfl rfl, pr_in hPc hE hDc⟩ rfl rfl hl.1 rfl (lv_room (Nat.le_of_ble_eq_true rfl)) dX2_runOldestJob_95 ⟨Nat.le_of_ble_eq_true rfl, Nat.le_of_ble_eq_true rfl⟩) hS (fun q _ h => hFc q h) hFc (fun u t H1 locs ht hvm hw hB hz1 hk1 hS => ?_)
          obtain ⟨M_95, Q_95, T_95⟩ := u
          have e_95 : (M_95, Q_95, T_95) = _ := hw
          obtain ⟨hP1, hD1⟩ := hB
          rw [ht] at hP1
          obtain ⟨hP, hD⟩ := va_join (wr := []) (w1 := wSim s0 z M_95 ++ (wCfg cy (z 0) bq G (nI n) sc ++ (wArr cy z rt Q_95 T_95))) hP hD [0, 1, 2, 3, 4, 5, 6, 7, 8, 9, 10, 11, 12, 13, 14, 15, 16, 17, 18, 19, 20, 21] [] rfl rfl (by decide) (by decide) hk1 hFc hP1 hD1
          have hP : va_P (dC, dI) vwCl (wSim s0 z M_95 ++ (wCfg cy (z 0) bq G (nI n) sc ++ (wArr cy z rt Q_95 T_95))) H1 := hP.sub [0, 1, 2, 3, 4, 5, 6, 7, 8, 9, 10, 11, 12, 13, 14, 15, 16, 17, 18, 19, 20, 21] rfl
          have hD : va_D A (wSim s0 z M_95 ++ (wCfg cy (z 0) bq G (nI n) sc ++ (wArr cy z rt Q_95 T_95))) := hD.sub [0, 1, 2, 3, 4, 5, 6, 7, 8, 9, 10, 11, 12, 13, 14, 15, 16, 17, 18, 19, 20, 21] (by decide) rfl
          clear hz1 hk1 hPc hDc hFc hP1 hD1
          generalize H1 = H at hP hS ⊢
          have hP9 : va_P (dC, dI) vwCl (wSim s0 z M_95 ++ (wCfg cy (z 0) bq G (nI n) sc ++ (wArr cy z rt Q_95 T_95))) H := hP
          have hD9 : va_D A (wSim s0 z M_95 ++ (wCfg cy (z 0) bq G (nI n) sc ++ (wArr cy z rt Q_95 T_95))) := hD
          exact W.vret hx hb hr (fun t ht hW => ⟨⟨(M_95, Q_95, T_95), rfl, (by have e9 : T 1 (Q 2 1).toNatClampNeg = T 1 o := (by rw [ho, nI_clamp (by omega)]); simp only [runO]; rw [e9, if_neg c_29, if_pos ⟨c_47, fun h => c_58 (b01.mpr h), c_76⟩]; exact e_95), by rw [ht]; exact hP9, hD9⟩, hS.F ht⟩) hS.2.2 dX2_runOldestJob_98
  · refine lv_aload_n hx hb dX2_runOldestJob_32 rfl (lv_at hl 0 rfl) ?_
    refine lv_iload_n hx hb dX2_runOldestJob_33 rfl (lv_at hl 1 rfl) ?_
    refine lv_iload_n hx hb dX2_runOldestJob_34 rfl (lv_at hl 2 rfl) ?_
    refine lv_iconst (v := 1) hx hb dX2_runOldestJob_35 (by decide) ?_
    refine lv_iadd hx hb dX2_runOldestJob_36 ?_
    have hPc := hP.sub (ws' := wSim s0 z M ++ (wCfg cy (z 0) bq G (nI n) sc ++ (wArr cy z rt (up2 Q 3 1 ((Q 3 1) + 1)) T))) [0, 1, 2, 3, 4, 5, 6, 7, 8, 9, 10, 11, 12, 13, 14, 15, 16, 17, 18, 19, 20, 21] rfl
    have hDc := hD.sub (ws' := wSim s0 z M ++ (wCfg cy (z 0) bq G (nI n) sc ++ (wArr cy z rt (up2 Q 3 1 ((Q 3 1) + 1)) T))) [0, 1, 2, 3, 4, 5, 6, 7, 8, 9, 10, 11, 12, 13, 14, 15, 16, 17, 18, 19, 20, 21] (by decide) rfl
    have hFc := va_free (wc := wSim s0 z M ++ (wCfg cy (z 0) bq G (nI n) sc ++ (wArr cy z rt (up2 Q 3 1 ((Q 3 1) + 1)) T))) hD hS hA [0, 1, 2, 3, 4, 5, 6, 7, 8, 9, 10, 11, 12, 13, 14, 15, 16, 17, 18, 19, 20, 21] rfl
    refine va_callv (va_runV (As := [.int (nI 1), .int ((nI u) + 1)]) (rest := []) ⟨hx, hb, hml, hown, hts⟩ (c_X2_completeOldestJob l dC dI cy H.size s0 z M bq G n hn sc (up2 Q 3 1 ((Q 3 1) + 1)) rt T 1 (by omega) ((nI u) + 1)) (cwV 2 hts gX2_runOldestJob_X2_completeOldestJob rfl rfl rfl (by decide +kernel) ⟨Nat.le_of_ble_eq_true rfl, Nat.le_of_ble_eq_true rfl⟩) ⟨bl_in, va_recv hK hPc (ci := 2) (q0 := 0) rfl rfl, pr_in hPc hE hDc⟩ rfl rfl hl.1 rfl (lv_room (Nat.le_of_ble_eq_true rfl)) dX2_runOldestJob_37 ⟨Nat.le_of_ble_eq_true rfl, Nat.le_of_ble_eq_true rfl⟩) hS (fun q _ h => hFc q h) hFc (fun u t H1 locs ht hvm hw hB hz1 hk1 hS => ?_)
    obtain ⟨M_37, Q_37, T_37⟩ := u
    have e_37 : (M_37, Q_37, T_37) = _ := hw
    obtain ⟨hP1, hD1⟩ := hB
    rw [ht] at hP1
    obtain ⟨hP, hD⟩ := va_join (wr := []) (w1 := wSim s0 z M_37 ++ (wCfg cy (z 0) bq G (nI n) sc ++ (wArr cy z rt Q_37 T_37))) hP hD [0, 1, 2, 3, 4, 5, 6, 7, 8, 9, 10, 11, 12, 13, 14, 15, 16, 17, 18, 19, 20, 21] [] rfl rfl (by decide) (by decide) hk1 hFc hP1 hD1
    have hP : va_P (dC, dI) vwCl (wSim s0 z M_37 ++ (wCfg cy (z 0) bq G (nI n) sc ++ (wArr cy z rt Q_37 T_37))) H1 := hP.sub [0, 1, 2, 3, 4, 5, 6, 7, 8, 9, 10, 11, 12, 13, 14, 15, 16, 17, 18, 19, 20, 21] rfl
    have hD : va_D A (wSim s0 z M_37 ++ (wCfg cy (z 0) bq G (nI n) sc ++ (wArr cy z rt Q_37 T_37))) := hD.sub [0, 1, 2, 3, 4, 5, 6, 7, 8, 9, 10, 11, 12, 13, 14, 15, 16, 17, 18, 19, 20, 21] (by decide) rfl
    clear hz1 hk1 hPc hDc hFc hP1 hD1
    generalize H1 = H at hP hS ⊢
    refine lv_goto (tgt := 98) hx hb dX2_runOldestJob_40 (by decide) ?_
    have hP9 : va_P (dC, dI) vwCl (wSim s0 z M_37 ++ (wCfg cy (z 0) bq G (nI n) sc ++ (wArr cy z rt Q_37 T_37))) H := hP
    have hD9 : va_D A (wSim s0 z M_37 ++ (wCfg cy (z 0) bq G (nI n) sc ++ (wArr cy z rt Q_37 T_37))) := hD
    exact W.vret hx hb hr (fun t ht hW => ⟨⟨(M_37, Q_37, T_37), rfl, (by have e9 : T 1 (Q 2 1).toNatClampNeg = T 1 o := (by rw [ho, nI_clamp (by omega)]); simp only [runO]; rw [e9, if_pos c_29]; exact e_37), by rw [ht]; exact hP9, hD9⟩, hS.F ht⟩) hS.2.2 dX2_runOldestJob_98
set_option maxHeartbeats 1000000 in
set_option maxRecDepth 100000 in
/-- the oldest job of task 2 runs -/
theorem c_X2_runOldestJob_2 (l : Launch) (dC : Nat → ClassId) (dI : Nat → Nat → Nat) (cy : Nat → ClassId) (sz : Nat) (s0 : Nat) (z : Nat → Nat) (M : Nat → Int32) (bq : Nat → Nat) (G : vG) (n : Nat) (hn : n ≤ 8) (sc : Int32) (Q : vG) (rt : Nat → Nat) (T : vG) (u : Nat) (hu : u < 200) (o : Nat) (ho8 : o < 200) (ho : Q 2 2 = nI o) : Met l yX2_runOldestJob wsX2_runOldestJob ({ frames := 2, cells := 0, slots := 0, locals := 45 }) (va_Pc [.ref s0, .int (nI 2), .int (nI u)] (pIn dC dI cy (wSim s0 z M ++ (wCfg cy (z 0) bq G (nI n) sc ++ (wArr cy z rt Q T))) sz)) (va_Qv (fun (u9 : SSt) => u9 = runO G n 2 u (M, Q, T)) (fun (u : SSt) t => va_P (dC, dI) vwCl (wSim s0 z u.1 ++ (wCfg cy (z 0) bq G (nI n) sc ++ (wArr cy z rt u.2.1 u.2.2))) t.heap ∧ va_D (va_A (wSim s0 z M ++ (wCfg cy (z 0) bq G (nI n) sc ++ (wArr cy z rt Q T))) sz) (wSim s0 z u.1 ++ (wCfg cy (z 0) bq G (nI n) sc ++ (wArr cy z rt u.2.1 u.2.2)))) (va_A (wSim s0 z M ++ (wCfg cy (z 0) bq G (nI n) sc ++ (wArr cy z rt Q T))) sz)) 0 0 (va_A (wSim s0 z M ++ (wCfg cy (z 0) bq G (nI n) sc ++ (wArr cy z rt Q T))) sz) := by
  refine Met.ofW (cc := cX2_runOldestJob) (maxL := 3) (ret := none) (by decide) rfl ?_
  intro p e s m args below meth c s₁ B hml hv
  obtain ⟨rfl, hsz, hP, hE, hD0⟩ := hv
  have hK := hE.1
  subst hsz
  have hD := hD0.self (sz := s.heap.size)
  generalize hAe : va_A (wSim s0 z M ++ (wCfg cy (z 0) bq G (nI n) sc ++ (wArr cy z rt Q T))) s.heap.size = A at hD ⊢
  have hA : ∀ q : Nat, s.heap.size ≤ q → A q := fun q h => by rw [← hAe]; exact Or.inr h
  have hS : va_S A s.heap s.heap [] := va_S.rf
  have hP : va_P (dC, dI) vwCl (wSim s0 z M ++ (wCfg cy (z 0) bq G (nI n) sc ++ (wArr cy z rt Q T))) s.heap := hP
  have hx := B.exec
  have hb := B.bytes
  have hr := B.returns
  have hts := atoms_spec (ws := wsX2_runOldestJob) B.pre
  have hown : s.vm.findClass RX2 = some m.cls := findClass_of_methodNamed B.named
  have hlocks := B.notSynchronized
  have hin0 : ∀ w ∈ u_ws RX0 TX0 9, w ∈ wsX2_runOldestJob := by decide +kernel
  have hin2 : ∀ w ∈ u_ws RX2 TX2 15, w ∈ wsX2_runOldestJob := by decide +kernel
  have f_113 := va_Nw.use (A := ([.ref s0, .int (nI 2), .int (nI u)].toArray)) rfl (hE.f 2 rfl)
  have f_12 := hts (.fieldLink RX2 12 "DeadlineAdmission$Simulation" "tasks" "LDeadlineAdmission$Configuration;") (by decide +kernel)
  have f_22 := hts (.fieldLink RX2 22 "DeadlineAdmission$Simulation" "oldestRelease" "[I") (by decide +kernel)
  have f_25 := hts (.fieldLink RX2 25 "DeadlineAdmission$Simulation" "oldestHasRun" "[I") (by decide +kernel)
  have f_30 := hts (.fieldLink RX2 30 "DeadlineAdmission$Simulation" "runningTime" "[[I") (by decide +kernel)
  have f_63 := hts (.fieldLink RX2 63 "DeadlineAdmission$Simulation" "mode" "I") (by decide +kernel)
  have f_89 := hts (.fieldLink RX2 89 "DeadlineAdmission$Simulation" "highSwitches" "I") (by decide +kernel)
  have hl := lv_entry ([.ref s0, .int (nI 2), .int (nI u)]) (n := 3) (Nat.le_of_ble_eq_true rfl)
  rw [lg_entry_eq]
  generalize (lg_sl ([.ref s0, .int (nI 2), .int (nI u)]) ++ List.replicate (3 - (lg_sl ([.ref s0, .int (nI 2), .int (nI u)])).length) Slot.unset).toArray = ls at hl ⊢
  have hl : lv_has ls 3 [(0, .ref s0), (1, .int (nI 2)), (2, .int (nI u))] := hl
  refine lv_aload_n hx hb dX2_runOldestJob_0 rfl (lv_at hl 0 rfl) ?_
  refine va_get (D := (dC, dI)) (ci := 2) (v := .ref (z 3)) (C := RX2) (T := TX2) (N := 15) hx hb hts hin2 hown hK hP 0 rfl rfl 3 (by decide) f_25 (fun _ h9 => h9) rfl dX2_runOldestJob_1 ?_
  refine lv_iload_n hx hb dX2_runOldestJob_4 rfl (lv_at hl 1 rfl) ?_
  refine lv_dup2_11 hx hb dX2_runOldestJob_5 rfl rfl ?_
  refine wI_alv (v := Q 3 2) hx hb hK hP 11 0 rfl rfl 2 rfl (by omega) (by decide) rfl dX2_runOldestJob_6 ?_
  refine lv_iconst (v := 1) hx hb dX2_runOldestJob_7 (by decide) ?_
  refine lv_iadd hx hb dX2_runOldestJob_8 ?_
  refine wI_ast hx hb hK hP hD hS 11 0 rfl rfl 2 rfl (by omega) (by decide) dX2_runOldestJob_9 (fun H locs hP hD hS => ?_)
  have hP : va_P (dC, dI) vwCl (wSim s0 z M ++ (wCfg cy (z 0) bq G (nI n) sc ++ (wArr cy z rt (up2 Q 3 2 ((Q 3 2) + 1)) T))) H := hP
  have hD : va_D A (wSim s0 z M ++ (wCfg cy (z 0) bq G (nI n) sc ++ (wArr cy z rt (up2 Q 3 2 ((Q 3 2) + 1)) T))) := hD
  refine lv_aload_n hx hb dX2_runOldestJob_10 rfl (lv_at hl 0 rfl) ?_
  refine va_get (D := (dC, dI)) (ci := 2) (v := .ref (z 3)) (C := RX2) (T := TX2) (N := 15) hx hb hts hin2 hown hK hP 0 rfl rfl 3 (by decide) f_25 (fun _ h9 => h9) rfl dX2_runOldestJob_11 ?_
  refine lv_iload_n hx hb dX2_runOldestJob_14 rfl (lv_at hl 1 rfl) ?_
  refine wI_alv (v := ((Q 3 2) + 1)) hx hb hK hP 11 0 rfl rfl 2 rfl (by omega) (by decide) up2_at dX2_runOldestJob_15 ?_
  refine lv_aload_n hx hb dX2_runOldestJob_16 rfl (lv_at hl 0 rfl) ?_
  refine va_get (D := (dC, dI)) (ci := 2) (v := .ref (z 4)) (C := RX2) (T := TX2) (N := 15) hx hb hts hin2 hown hK hP 0 rfl rfl 4 (by decide) f_30 (fun _ h9 => h9) rfl dX2_runOldestJob_17 ?_
  refine lv_iload_n hx hb dX2_runOldestJob_20 rfl (lv_at hl 1 rfl) ?_
  refine wB_ald (q := (rt 2)) hx hb hK hP 12 2 rfl rfl 2 rfl (by omega) (by decide) rfl dX2_runOldestJob_21 ?_
  refine lv_aload_n hx hb dX2_runOldestJob_22 rfl (lv_at hl 0 rfl) ?_
  refine va_get (D := (dC, dI)) (ci := 2) (v := .ref (z 2)) (C := RX2) (T := TX2) (N := 15) hx hb hts hin2 hown hK hP 0 rfl rfl 2 (by decide) f_22 (fun _ h9 => h9) rfl dX2_runOldestJob_23 ?_
  refine lv_iload_n hx hb dX2_runOldestJob_26 rfl (lv_at hl 1 rfl) ?_
  refine wI_alv (v := Q 2 2) hx hb hK hP 10 0 rfl rfl 2 rfl (by omega) (by decide) rfl dX2_runOldestJob_27 ?_
  refine wI_alv (v := T 2 o) hx hb hK hP 16 0 rfl rfl o ho (by omega) (by decide) rfl dX2_runOldestJob_28 ?_
  refine lv_icmp_ne (tgt := 43) hx hb dX2_runOldestJob_29 (by decide) (fun c_29 => ?_) (fun c_29 => ?_)
  · refine lv_aload_n hx hb dX2_runOldestJob_43 rfl (lv_at hl 0 rfl) ?_
    refine va_get (D := (dC, dI)) (ci := 2) (v := .int (M 6)) (C := RX2) (T := TX2) (N := 15) hx hb hts hin2 hown hK hP 0 rfl rfl 6 (by decide) f_63 (fun _ h9 => h9) rfl dX2_runOldestJob_44 ?_
    refine lv_if_ne (tgt := 98) hx hb dX2_runOldestJob_47 (by decide) (fun c_47 => ?_) (fun c_47 => ?_)
    · have hP9 : va_P (dC, dI) vwCl (wSim s0 z M ++ (wCfg cy (z 0) bq G (nI n) sc ++ (wArr cy z rt (up2 Q 3 2 ((Q 3 2) + 1)) T))) H := hP
      have hD9 : va_D A (wSim s0 z M ++ (wCfg cy (z 0) bq G (nI n) sc ++ (wArr cy z rt (up2 Q 3 2 ((Q 3 2) + 1)) T))) := hD
      exact W.vret hx hb hr (fun t ht hW => ⟨⟨(M, up2 Q 3 2 ((Q 3 2) + 1), T), rfl, (by have e9 : T 2 (Q 2 2).toNatClampNeg = T 2 o := (by rw [ho, nI_clamp (by omega)]); simp only [runO]; rw [e9, if_neg c_29, if_neg (fun h => c_47 h.1)]), by rw [ht]; exact hP9, hD9⟩, hS.F ht⟩) hS.2.2 dX2_runOldestJob_98
    · refine lv_aload_n hx hb dX2_runOldestJob_50 rfl (lv_at hl 0 rfl) ?_
      refine va_get (D := (dC, dI)) (ci := 2) (v := .ref (z 0)) (C := RX2) (T := TX2) (N := 15) hx hb hts hin2 hown hK hP 0 rfl rfl 0 (by decide) f_12 (fun _ h9 => h9) rfl dX2_runOldestJob_51 ?_
      refine lv_iload_n hx hb dX2_runOldestJob_54 rfl (lv_at hl 1 rfl) ?_
      refine vp_callSi (va_runV (As := [.int (nI 2)]) (rest := []) ⟨hx, hb, hml, hown, hts⟩ (c_X0_hasHighBudget l dC dI cy (z 0) bq G (nI n) sc  2 (by omega)) (cwV 1 hts gX2_runOldestJob_X0_hasHighBudget rfl rfl rfl (by decide +kernel) ⟨Nat.le_of_ble_eq_true rfl, Nat.le_of_ble_eq_true rfl⟩) ⟨bl_ro, va_recv hK (hP.sub (ws' := wCfg cy (z 0) bq G (nI n) sc) [1, 2, 3, 4, 5, 6, 7, 8] rfl) (ci := 0) (q0 := 0) rfl rfl, pr_ro (hP.sub (ws' := wCfg cy (z 0) bq G (nI n) sc) [1, 2, 3, 4, 5, 6, 7, 8] rfl) hE⟩ rfl rfl hl.1 rfl (lv_room (Nat.le_of_ble_eq_true rfl)) dX2_runOldestJob_55 ⟨Nat.le_of_ble_eq_true rfl, Nat.le_of_ble_eq_true rfl⟩).run (fun r e_r => ?_)
      subst e_r
      refine lv_if_eq (tgt := 98) hx hb dX2_runOldestJob_58 (by decide) (fun c_58 => ?_) (fun c_58 => ?_)
      · have hP9 : va_P (dC, dI) vwCl (wSim s0 z M ++ (wCfg cy (z 0) bq G (nI n) sc ++ (wArr cy z rt (up2 Q 3 2 ((Q 3 2) + 1)) T))) H := hP
        have hD9 : va_D A (wSim s0 z M ++ (wCfg cy (z 0) bq G (nI n) sc ++ (wArr cy z rt (up2 Q 3 2 ((Q 3 2) + 1)) T))) := hD
        exact W.vret hx hb hr (fun t ht hW => ⟨⟨(M, up2 Q 3 2 ((Q 3 2) + 1), T), rfl, (by have e9 : T 2 (Q 2 2).toNatClampNeg = T 2 o := (by rw [ho, nI_clamp (by omega)]); simp only [runO]; rw [e9, if_neg c_29, if_neg (fun h => h.2.1 (b01.mp c_58))]), by rw [ht]; exact hP9, hD9⟩, hS.F ht⟩) hS.2.2 dX2_runOldestJob_98
      · refine lv_aload_n hx hb dX2_runOldestJob_61 rfl (lv_at hl 0 rfl) ?_
        refine va_get (D := (dC, dI)) (ci := 2) (v := .ref (z 3)) (C := RX2) (T := TX2) (N := 15) hx hb hts hin2 hown hK hP 0 rfl rfl 3 (by decide) f_25 (fun _ h9 => h9) rfl dX2_runOldestJob_62 ?_
        refine lv_iload_n hx hb dX2_runOldestJob_65 rfl (lv_at hl 1 rfl) ?_
        refine wI_alv (v := ((Q 3 2) + 1)) hx hb hK hP 11 0 rfl rfl 2 rfl (by omega) (by decide) up2_at dX2_runOldestJob_66 ?_
        refine lv_aload_n hx hb dX2_runOldestJob_67 rfl (lv_at hl 0 rfl) ?_
        refine va_get (D := (dC, dI)) (ci := 2) (v := .ref (z 0)) (C := RX2) (T := TX2) (N := 15) hx hb hts hin2 hown hK hP 0 rfl rfl 0 (by decide) f_12 (fun _ h9 => h9) rfl dX2_runOldestJob_68 ?_
        refine va_getN (D := (dC, dI)) (ci := 0) (v := .ref (bq 2)) (C := RX0) (T := TX0) (N := 9) hx hb hts hin0 hown hK hP 1 rfl rfl 2 (by decide) f_113 (fun _ h9 => h9) rfl dX2_runOldestJob_71 ?_
        refine lv_iload_n hx hb dX2_runOldestJob_74 rfl (lv_at hl 1 rfl) ?_
        refine wI_alv (v := G 2 2) hx hb hK hP 4 0 rfl rfl 2 rfl (by omega) (by decide) rfl dX2_runOldestJob_75 ?_
        refine lv_icmp_ne (tgt := 98) hx hb dX2_runOldestJob_76 (by decide) (fun c_76 => ?_) (fun c_76 => ?_)
        · have hP9 : va_P (dC, dI) vwCl (wSim s0 z M ++ (wCfg cy (z 0) bq G (nI n) sc ++ (wArr cy z rt (up2 Q 3 2 ((Q 3 2) + 1)) T))) H := hP
          have hD9 : va_D A (wSim s0 z M ++ (wCfg cy (z 0) bq G (nI n) sc ++ (wArr cy z rt (up2 Q 3 2 ((Q 3 2) + 1)) T))) := hD
          exact W.vret hx hb hr (fun t ht hW => ⟨⟨(M, up2 Q 3 2 ((Q 3 2) + 1), T), rfl, (by have e9 : T 2 (Q 2 2).toNatClampNeg = T 2 o := (by rw [ho, nI_clamp (by omega)]); simp only [runO]; rw [e9, if_neg c_29, if_neg (fun h => c_76 h.2.2)]), by rw [ht]; exact hP9, hD9⟩, hS.F ht⟩) hS.2.2 dX2_runOldestJob_98
        · refine lv_aload_n hx hb dX2_runOldestJob_79 rfl (lv_at hl 0 rfl) ?_
          refine lv_iconst (v := 1) hx hb dX2_runOldestJob_80 (by decide) ?_
          refine va_put (D := (dC, dI)) (ci := 2) (v := .int 1) (ty := .int) (C := RX2) (T := TX2) (N := 15) hx hb hts hin2 tyX2 tyX2_ok nmX2 hown hK hP hD hS 0 rfl rfl 6 (by decide) f_63 (fun _ h9 => h9) rfl (by decide +kernel) rfl rfl (Nat.le_of_ble_eq_true rfl) dX2_runOldestJob_81 (fun H locs hP hD hS => ?_)
          have hP : va_P (dC, dI) vwCl (wSim s0 z (upd M 6 1) ++ (wCfg cy (z 0) bq G (nI n) sc ++ (wArr cy z rt (up2 Q 3 2 ((Q 3 2) + 1)) T))) H := hP
          have hD : va_D A (wSim s0 z (upd M 6 1) ++ (wCfg cy (z 0) bq G (nI n) sc ++ (wArr cy z rt (up2 Q 3 2 ((Q 3 2) + 1)) T))) := hD
          refine lv_aload_n hx hb dX2_runOldestJob_84 rfl (lv_at hl 0 rfl) ?_
          refine lv_dup hx hb dX2_runOldestJob_85 rfl ?_
          refine va_get (D := (dC, dI)) (ci := 2) (v := .int (M 13)) (C := RX2) (T := TX2) (N := 15) hx hb hts hin2 hown hK hP 0 rfl rfl 13 (by decide) f_89 (fun _ h9 => h9) rfl dX2_runOldestJob_86 ?_
          refine lv_iconst (v := 1) hx hb dX2_runOldestJob_89 (by decide) ?_
          refine lv_iadd hx hb dX2_runOldestJob_90 ?_
          refine va_put (D := (dC, dI)) (ci := 2) (v := .int ((M 13) + 1)) (ty := .int) (C := RX2) (T := TX2) (N := 15) hx hb hts hin2 tyX2 tyX2_ok nmX2 hown hK hP hD hS 0 rfl rfl 13 (by decide) f_89 (fun _ h9 => h9) rfl (by decide +kernel) rfl rfl (Nat.le_of_ble_eq_true rfl) dX2_runOldestJob_91 (fun H locs hP hD hS => ?_)
          have hP : va_P (dC, dI) vwCl (wSim s0 z (upd (upd M 6 1) 13 ((M 13) + 1)) ++ (wCfg cy (z 0) bq G (nI n) sc ++ (wArr cy z rt (up2 Q 3 2 ((Q 3 2) + 1)) T))) H := hP
          have hD : va_D A (wSim s0 z (upd (upd M 6 1) 13 ((M 13) + 1)) ++ (wCfg cy (z 0) bq G (nI n) sc ++ (wArr cy z rt (up2 Q 3 2 ((Q 3 2) + 1)) T))) := hD
          refine lv_aload_n hx hb dX2_runOldestJob_94 rfl (lv_at hl 0 rfl) ?_
          have hPc := hP.sub (ws' := wSim s0 z (upd (upd M 6 1) 13 ((M 13) + 1)) ++ (wCfg cy (z 0) bq G (nI n) sc ++ (wArr cy z rt (up2 Q 3 2 ((Q 3 2) + 1)) T))) [0, 1, 2, 3, 4, 5, 6, 7, 8, 9, 10, 11, 12, 13, 14, 15, 16, 17, 18, 19, 20, 21] rfl
          have hDc := hD.sub (ws' := wSim s0 z (upd (upd M 6 1) 13 ((M 13) + 1)) ++ (wCfg cy (z 0) bq G (nI n) sc ++ (wArr cy z rt (up2 Q 3 2 ((Q 3 2) + 1)) T))) [0, 1, 2, 3, 4, 5, 6, 7, 8, 9, 10, 11, 12, 13, 14, 15, 16, 17, 18, 19, 20, 21] (by decide) rfl
          have hFc := va_free (wc := wSim s0 z (upd (upd M 6 1) 13 ((M 13) + 1)) ++ (wCfg cy (z 0) bq G (nI n) sc ++ (wArr cy z rt (up2 Q 3 2 ((Q 3 2) + 1)) T))) hD hS hA [0, 1, 2, 3, 4, 5, 6, 7, 8, 9, 10, 11, 12, 13, 14, 15, 16, 17, 18, 19, 20, 21] rfl
          refine va_callv (va_runV (As := []) (rest := []) ⟨hx, hb, hml, hown, hts⟩ (c_X2_dropPendingJobs l dC dI cy H.size s0 z (upd (upd M 6 1) 13 ((M 13) + 1)) bq G n hn sc (up2 Q 3 2 ((Q 3 2) + 1)) rt T) (cwV 0 hts gX2_runOldestJob_X2_dropPendingJobs rfl rfl rfl (by decide +kernel) ⟨Nat.le_of_ble_eq_true rfl, Nat.le_of_ble_eq_true rfl⟩) ⟨bl_in, va_recv hK hPc (ci := 2) (q0 := 0) rfl rfl, pr_in hPc hE hDc⟩ rfl rfl hl.1 rfl (lv_room (Nat.le_of_ble_eq_true rfl)) dX2_runOldestJob_95 ⟨Nat.le_of_ble_eq_true rfl, Nat.le_of_ble_eq_true rfl⟩) hS (fun q _ h => hFc q h) hFc (fun u t H1 locs ht hvm hw hB hz1 hk1 hS => ?_)
          obtain ⟨M_95, Q_95, T_95⟩ := u
          have e_95 : (M_95, Q_95, T_95) = _ := hw
          obtain ⟨hP1, hD1⟩ := hB
          rw [ht] at hP1
          obtain ⟨hP, hD⟩ := va_join (wr := []) (w1 := wSim s0 z M_95 ++ (wCfg cy (z 0) bq G (nI n) sc ++ (wArr cy z rt Q_95 T_95))) hP hD [0, 1, 2, 3, 4, 5, 6, 7, 8, 9, 10, 11, 12, 13, 14, 15, 16, 17, 18, 19, 20, 21] [] rfl rfl (by decide) (by decide) hk1 hFc hP1 hD1
          have hP : va_P (dC, dI) vwCl (wSim s0 z M_95 ++ (wCfg cy (z 0) bq G (nI n) sc ++ (wArr cy z rt Q_95 T_95))) H1 := hP.sub [0, 1, 2, 3, 4, 5, 6, 7, 8, 9, 10, 11, 12, 13, 14, 15, 16, 17, 18, 19, 20, 21] rfl
          have hD : va_D A (wSim s0 z M_95 ++ (wCfg cy (z 0) bq G (nI n) sc ++ (wArr cy z rt Q_95 T_95))) := hD.sub [0, 1, 2, 3, 4, 5, 6, 7, 8, 9, 10, 11, 12, 13, 14, 15, 16, 17, 18, 19, 20, 21] (by decide) rfl
          clear hz1 hk1 hPc hDc hFc hP1 hD1
          generalize H1 = H at hP hS ⊢
          have hP9 : va_P (dC, dI) vwCl (wSim s0 z M_95 ++ (wCfg cy (z 0) bq G (nI n) sc ++ (wArr cy z rt Q_95 T_95))) H := hP
          have hD9 : va_D A (wSim s0 z M_95 ++ (wCfg cy (z 0) bq G (nI n) sc ++ (wArr cy z rt Q_95 T_95))) := hD
          exact W.vret hx hb hr (fun t ht hW => ⟨⟨(M_95, Q_95, T_95), rfl, (by have e9 : T 2 (Q 2 2).toNatClampNeg = T 2 o := (by rw [ho, nI_clamp (by omega)]); simp only [runO]; rw [e9, if_neg c_29, if_pos ⟨c_47, fun h => c_58 (b01.mpr h), c_76⟩]; exact e_95), by rw [ht]; exact hP9, hD9⟩, hS.F ht⟩) hS.2.2 dX2_runOldestJob_98
  · refine lv_aload_n hx hb dX2_runOldestJob_32 rfl (lv_at hl 0 rfl) ?_
    refine lv_iload_n hx hb dX2_runOldestJob_33 rfl (lv_at hl 1 rfl) ?_
    refine lv_iload_n hx hb dX2_runOldestJob_34 rfl (lv_at hl 2 rfl) ?_
    refine lv_iconst (v := 1) hx hb dX2_runOldestJob_35 (by decide) ?_
    refine lv_iadd hx hb dX2_runOldestJob_36 ?_
    have hPc := hP.sub (ws' := wSim s0 z M ++ (wCfg cy (z 0) bq G (nI n) sc ++ (wArr cy z rt (up2 Q 3 2 ((Q 3 2) + 1)) T))) [0, 1, 2, 3, 4, 5, 6, 7, 8, 9, 10, 11, 12, 13, 14, 15, 16, 17, 18, 19, 20, 21] rfl
    have hDc := hD.sub (ws' := wSim s0 z M ++ (wCfg cy (z 0) bq G (nI n) sc ++ (wArr cy z rt (up2 Q 3 2 ((Q 3 2) + 1)) T))) [0, 1, 2, 3, 4, 5, 6, 7, 8, 9, 10, 11, 12, 13, 14, 15, 16, 17, 18, 19, 20, 21] (by decide) rfl
    have hFc := va_free (wc := wSim s0 z M ++ (wCfg cy (z 0) bq G (nI n) sc ++ (wArr cy z rt (up2 Q 3 2 ((Q 3 2) + 1)) T))) hD hS hA [0, 1, 2, 3, 4, 5, 6, 7, 8, 9, 10, 11, 12, 13, 14, 15, 16, 17, 18, 19, 20, 21] rfl
    refine va_callv (va_runV (As := [.int (nI 2), .int ((nI u) + 1)]) (rest := []) ⟨hx, hb, hml, hown, hts⟩ (c_X2_completeOldestJob l dC dI cy H.size s0 z M bq G n hn sc (up2 Q 3 2 ((Q 3 2) + 1)) rt T 2 (by omega) ((nI u) + 1)) (cwV 2 hts gX2_runOldestJob_X2_completeOldestJob rfl rfl rfl (by decide +kernel) ⟨Nat.le_of_ble_eq_true rfl, Nat.le_of_ble_eq_true rfl⟩) ⟨bl_in, va_recv hK hPc (ci := 2) (q0 := 0) rfl rfl, pr_in hPc hE hDc⟩ rfl rfl hl.1 rfl (lv_room (Nat.le_of_ble_eq_true rfl)) dX2_runOldestJob_37 ⟨Nat.le_of_ble_eq_true rfl, Nat.le_of_ble_eq_true rfl⟩) hS (fun q _ h => hFc q h) hFc (fun u t H1 locs ht hvm hw hB hz1 hk1 hS => ?_)
    obtain ⟨M_37, Q_37, T_37⟩ := u
    have e_37 : (M_37, Q_37, T_37) = _ := hw
    obtain ⟨hP1, hD1⟩ := hB
    rw [ht] at hP1
    obtain ⟨hP, hD⟩ := va_join (wr := []) (w1 := wSim s0 z M_37 ++ (wCfg cy (z 0) bq G (nI n) sc ++ (wArr cy z rt Q_37 T_37))) hP hD [0, 1, 2, 3, 4, 5, 6, 7, 8, 9, 10, 11, 12, 13, 14, 15, 16, 17, 18, 19, 20, 21] [] rfl rfl (by decide) (by decide) hk1 hFc hP1 hD1
    have hP : va_P (dC, dI) vwCl (wSim s0 z M_37 ++ (wCfg cy (z 0) bq G (nI n) sc ++ (wArr cy z rt Q_37 T_37))) H1 := hP.sub [0, 1, 2, 3, 4, 5, 6, 7, 8, 9, 10, 11, 12, 13, 14, 15, 16, 17, 18, 19, 20, 21] rfl
    have hD : va_D A (wSim s0 z M_37 ++ (wCfg cy (z 0) bq G (nI n) sc ++ (wArr cy z rt Q_37 T_37))) := hD.sub [0, 1, 2, 3, 4, 5, 6, 7, 8, 9, 10, 11, 12, 13, 14, 15, 16, 17, 18, 19, 20, 21] (by decide) rfl
    clear hz1 hk1 hPc hDc hFc hP1 hD1
    generalize H1 = H at hP hS ⊢
    refine lv_goto (tgt := 98) hx hb dX2_runOldestJob_40 (by decide) ?_
    have hP9 : va_P (dC, dI) vwCl (wSim s0 z M_37 ++ (wCfg cy (z 0) bq G (nI n) sc ++ (wArr cy z rt Q_37 T_37))) H := hP
    have hD9 : va_D A (wSim s0 z M_37 ++ (wCfg cy (z 0) bq G (nI n) sc ++ (wArr cy z rt Q_37 T_37))) := hD
    exact W.vret hx hb hr (fun t ht hW => ⟨⟨(M_37, Q_37, T_37), rfl, (by have e9 : T 2 (Q 2 2).toNatClampNeg = T 2 o := (by rw [ho, nI_clamp (by omega)]); simp only [runO]; rw [e9, if_pos c_29]; exact e_37), by rw [ht]; exact hP9, hD9⟩, hS.F ht⟩) hS.2.2 dX2_runOldestJob_98
set_option maxHeartbeats 1000000 in
set_option maxRecDepth 100000 in
/-- the oldest job of task 3 runs -/
theorem c_X2_runOldestJob_3 (l : Launch) (dC : Nat → ClassId) (dI : Nat → Nat → Nat) (cy : Nat → ClassId) (sz : Nat) (s0 : Nat) (z : Nat → Nat) (M : Nat → Int32) (bq : Nat → Nat) (G : vG) (n : Nat) (hn : n ≤ 8) (sc : Int32) (Q : vG) (rt : Nat → Nat) (T : vG) (u : Nat) (hu : u < 200) (o : Nat) (ho8 : o < 200) (ho : Q 2 3 = nI o) : Met l yX2_runOldestJob wsX2_runOldestJob ({ frames := 2, cells := 0, slots := 0, locals := 45 }) (va_Pc [.ref s0, .int (nI 3), .int (nI u)] (pIn dC dI cy (wSim s0 z M ++ (wCfg cy (z 0) bq G (nI n) sc ++ (wArr cy z rt Q T))) sz)) (va_Qv (fun (u9 : SSt) => u9 = runO G n 3 u (M, Q, T)) (fun (u : SSt) t => va_P (dC, dI) vwCl (wSim s0 z u.1 ++ (wCfg cy (z 0) bq G (nI n) sc ++ (wArr cy z rt u.2.1 u.2.2))) t.heap ∧ va_D (va_A (wSim s0 z M ++ (wCfg cy (z 0) bq G (nI n) sc ++ (wArr cy z rt Q T))) sz) (wSim s0 z u.1 ++ (wCfg cy (z 0) bq G (nI n) sc ++ (wArr cy z rt u.2.1 u.2.2)))) (va_A (wSim s0 z M ++ (wCfg cy (z 0) bq G (nI n) sc ++ (wArr cy z rt Q T))) sz)) 0 0 (va_A (wSim s0 z M ++ (wCfg cy (z 0) bq G (nI n) sc ++ (wArr cy z rt Q T))) sz) := by
  refine Met.ofW (cc := cX2_runOldestJob) (maxL := 3) (ret := none) (by decide) rfl ?_
  intro p e s m args below meth c s₁ B hml hv
  obtain ⟨rfl, hsz, hP, hE, hD0⟩ := hv
  have hK := hE.1
  subst hsz
  have hD := hD0.self (sz := s.heap.size)
  generalize hAe : va_A (wSim s0 z M ++ (wCfg cy (z 0) bq G (nI n) sc ++ (wArr cy z rt Q T))) s.heap.size = A at hD ⊢
  have hA : ∀ q : Nat, s.heap.size ≤ q → A q := fun q h => by rw [← hAe]; exact Or.inr h
  have hS : va_S A s.heap s.heap [] := va_S.rf
  have hP : va_P (dC, dI) vwCl (wSim s0 z M ++ (wCfg cy (z 0) bq G (nI n) sc ++ (wArr cy z rt Q T))) s.heap := hP
  have hx := B.exec
  have hb := B.bytes
  have hr := B.returns
  have hts := atoms_spec (ws := wsX2_runOldestJob) B.pre
  have hown : s.vm.findClass RX2 = some m.cls := findClass_of_methodNamed B.named
  have hlocks := B.notSynchronized
  have hin0 : ∀ w ∈ u_ws RX0 TX0 9, w ∈ wsX2_runOldestJob := by decide +kernel
  have hin2 : ∀ w ∈ u_ws RX2 TX2 15, w ∈ wsX2_runOldestJob := by decide +kernel
  have f_113 := va_Nw.use (A := ([.ref s0, .int (nI 3), .int (nI u)].toArray)) rfl (hE.f 2 rfl)
  have f_12 := hts (.fieldLink RX2 12 "DeadlineAdmission$Simulation" "tasks" "LDeadlineAdmission$Configuration;") (by decide +kernel)
  have f_22 := hts (.fieldLink RX2 22 "DeadlineAdmission$Simulation" "oldestRelease" "[I") (by decide +kernel)
  have f_25 := hts (.fieldLink RX2 25 "DeadlineAdmission$Simulation" "oldestHasRun" "[I") (by decide +kernel)
  have f_30 := hts (.fieldLink RX2 30 "DeadlineAdmission$Simulation" "runningTime" "[[I") (by decide +kernel)
  have f_63 := hts (.fieldLink RX2 63 "DeadlineAdmission$Simulation" "mode" "I") (by decide +kernel)
  have f_89 := hts (.fieldLink RX2 89 "DeadlineAdmission$Simulation" "highSwitches" "I") (by decide +kernel)
  have hl := lv_entry ([.ref s0, .int (nI 3), .int (nI u)]) (n := 3) (Nat.le_of_ble_eq_true rfl)
  rw [lg_entry_eq]
  generalize (lg_sl ([.ref s0, .int (nI 3), .int (nI u)]) ++ List.replicate (3 - (lg_sl ([.ref s0, .int (nI 3), .int (nI u)])).length) Slot.unset).toArray = ls at hl ⊢
  have hl : lv_has ls 3 [(0, .ref s0), (1, .int (nI 3)), (2, .int (nI u))] := hl
  refine lv_aload_n hx hb dX2_runOldestJob_0 rfl (lv_at hl 0 rfl) ?_
  refine va_get (D := (dC, dI)) (ci := 2) (v := .ref (z 3)) (C := RX2) (T := TX2) (N := 15) hx hb hts hin2 hown hK hP 0 rfl rfl 3 (by decide) f_25 (fun _ h9 => h9) rfl dX2_runOldestJob_1 ?_
  refine lv_iload_n hx hb dX2_runOldestJob_4 rfl (lv_at hl 1 rfl) ?_
  refine lv_dup2_11 hx hb dX2_runOldestJob_5 rfl rfl ?_
  refine wI_alv (v := Q 3 3) hx hb hK hP 11 0 rfl rfl 3 rfl (by omega) (by decide) rfl dX2_runOldestJob_6 ?_
  refine lv_iconst (v := 1) hx hb dX2_runOldestJob_7 (by decide) ?_
  refine lv_iadd hx hb dX2_runOldestJob_8 ?_
  refine wI_ast hx hb hK hP hD hS 11 0 rfl rfl 3 rfl (by omega) (by decide) dX2_runOldestJob_9 (fun H locs hP hD hS => ?_)
  have hP : va_P (dC, dI) vwCl (wSim s0 z M ++ (wCfg cy (z 0) bq G (nI n) sc ++ (wArr cy z rt (up2 Q 3 3 ((Q 3 3) + 1)) T))) H := hP
  have hD : va_D A (wSim s0 z M ++ (wCfg cy (z 0) bq G (nI n) sc ++ (wArr cy z rt (up2 Q 3 3 ((Q 3 3) + 1)) T))) := hD
  refine lv_aload_n hx hb dX2_runOldestJob_10 rfl (lv_at hl 0 rfl) ?_
  refine va_get (D := (dC, dI)) (ci := 2) (v := .ref (z 3)) (C := RX2) (T := TX2) (N := 15) hx hb hts hin2 hown hK hP 0 rfl rfl 3 (by decide) f_25 (fun _ h9 => h9) rfl dX2_runOldestJob_11 ?_
  refine lv_iload_n hx hb dX2_runOldestJob_14 rfl (lv_at hl 1 rfl) ?_
  refine wI_alv (v := ((Q 3 3) + 1)) hx hb hK hP 11 0 rfl rfl 3 rfl (by omega) (by decide) up2_at dX2_runOldestJob_15 ?_
  refine lv_aload_n hx hb dX2_runOldestJob_16 rfl (lv_at hl 0 rfl) ?_
  refine va_get (D := (dC, dI)) (ci := 2) (v := .ref (z 4)) (C := RX2) (T := TX2) (N := 15) hx hb hts hin2 hown hK hP 0 rfl rfl 4 (by decide) f_30 (fun _ h9 => h9) rfl dX2_runOldestJob_17 ?_
  refine lv_iload_n hx hb dX2_runOldestJob_20 rfl (lv_at hl 1 rfl) ?_
  refine wB_ald (q := (rt 3)) hx hb hK hP 12 2 rfl rfl 3 rfl (by omega) (by decide) rfl dX2_runOldestJob_21 ?_
  refine lv_aload_n hx hb dX2_runOldestJob_22 rfl (lv_at hl 0 rfl) ?_
  refine va_get (D := (dC, dI)) (ci := 2) (v := .ref (z 2)) (C := RX2) (T := TX2) (N := 15) hx hb hts hin2 hown hK hP 0 rfl rfl 2 (by decide) f_22 (fun _ h9 => h9) rfl dX2_runOldestJob_23 ?_
  refine lv_iload_n hx hb dX2_runOldestJob_26 rfl (lv_at hl 1 rfl) ?_
  refine wI_alv (v := Q 2 3) hx hb hK hP 10 0 rfl rfl 3 rfl (by omega) (by decide) rfl dX2_runOldestJob_27 ?_
  refine wI_alv (v := T 3 o) hx hb hK hP 17 0 rfl rfl o ho (by omega) (by decide) rfl dX2_runOldestJob_28 ?_
  refine lv_icmp_ne (tgt := 43) hx hb dX2_runOldestJob_29 (by decide) (fun c_29 => ?_) (fun c_29 => ?_)
  · refine lv_aload_n hx hb dX2_runOldestJob_43 rfl (lv_at hl 0 rfl) ?_
    refine va_get (D := (dC, dI)) (ci := 2) (v := .int (M 6)) (C := RX2) (T := TX2) (N := 15) hx hb hts hin2 hown hK hP 0 rfl rfl 6 (by decide) f_63 (fun _ h9 => h9) rfl dX2_runOldestJob_44 ?_
    refine lv_if_ne (tgt := 98) hx hb dX2_runOldestJob_47 (by decide) (fun c_47 => ?_) (fun c_47 => ?_)
    · have hP9 : va_P (dC, dI) vwCl (wSim s0 z M ++ (wCfg cy (z 0) bq G (nI n) sc ++ (wArr cy z rt (up2 Q 3 3 ((Q 3 3) + 1)) T))) H := hP
      have hD9 : va_D A (wSim s0 z M ++ (wCfg cy (z 0) bq G (nI n) sc ++ (wArr cy z rt (up2 Q 3 3 ((Q 3 3) + 1)) T))) := hD
      exact W.vret hx hb hr (fun t ht hW => ⟨⟨(M, up2 Q 3 3 ((Q 3 3) + 1), T), rfl, (by have e9 : T 3 (Q 2 3).toNatClampNeg = T 3 o := (by rw [ho, nI_clamp (by omega)]); simp only [runO]; rw [e9, if_neg c_29, if_neg (fun h => c_47 h.1)]), by rw [ht]; exact hP9, hD9⟩, hS.F ht⟩) hS.2.2 dX2_runOldestJob_98
    · refine lv_aload_n hx hb dX2_runOldestJob_50 rfl (lv_at hl 0 rfl) ?_
      refine va_get (D := (dC, dI)) (ci := 2) (v := .ref (z 0)) (C := RX2) (T := TX2) (N := 15) hx hb hts hin2 hown hK hP 0 rfl rfl 0 (by decide) f_12 (fun _ h9 => h9) rfl dX2_runOldestJob_51 ?_
      refine lv_iload_n hx hb dX2_runOldestJob_54 rfl (lv_at hl 1 rfl) ?_
      refine vp_callSi (va_runV (As := [.int (nI 3)]) (rest := []) ⟨hx, hb, hml, hown, hts⟩ (c_X0_hasHighBudget l dC dI cy (z 0) bq G (nI n) sc  3 (by omega)) (cwV 1 hts gX2_runOldestJob_X0_hasHighBudget rfl rfl rfl (by decide +kernel) ⟨Nat.le_of_ble_eq_true rfl, Nat.le_of_ble_eq_true rfl⟩) ⟨bl_ro, va_recv hK (hP.sub (ws' := wCfg cy (z 0) bq G (nI n) sc) [1, 2, 3, 4, 5, 6, 7, 8] rfl) (ci := 0) (q0 := 0) rfl rfl, pr_ro (hP.sub (ws' := wCfg cy (z 0) bq G (nI n) sc) [1, 2, 3, 4, 5, 6, 7, 8] rfl) hE⟩ rfl rfl hl.1 rfl (lv_room (Nat.le_of_ble_eq_true rfl)) dX2_runOldestJob_55 ⟨Nat.le_of_ble_eq_true rfl, Nat.le_of_ble_eq_true rfl⟩).run (fun r e_r => ?_)
      subst e_r
      refine lv_if_eq (tgt := 98) hx hb dX2_runOldestJob_58 (by decide) (fun c_58 => ?_) (fun c_58 => ?_)
      · have hP9 : va_P (dC, dI) vwCl (wSim s0 z M ++ (wCfg cy (z 0) bq G (nI n) sc ++ (wArr cy z rt (up2 Q 3 3 ((Q 3 3) + 1)) T))) H := hP
        have hD9 : va_D A (wSim s0 z M ++ (wCfg cy (z 0) bq G (nI n) sc ++ (wArr cy z rt (up2 Q 3 3 ((Q 3 3) + 1)) T))) := hD
        exact W.vret hx hb hr (fun t ht hW => ⟨⟨(M, up2 Q 3 3 ((Q 3 3) + 1), T), rfl, (by have e9 : T 3 (Q 2 3).toNatClampNeg = T 3 o := (by rw [ho, nI_clamp (by omega)]); simp only [runO]; rw [e9, if_neg c_29, if_neg (fun h => h.2.1 (b01.mp c_58))]), by rw [ht]; exact hP9, hD9⟩, hS.F ht⟩) hS.2.2 dX2_runOldestJob_98
      · refine lv_aload_n hx hb dX2_runOldestJob_61 rfl (lv_at hl 0 rfl) ?_
        refine va_get (D := (dC, dI)) (ci := 2) (v := .ref (z 3)) (C := RX2) (T := TX2) (N := 15) hx hb hts hin2 hown hK hP 0 rfl rfl 3 (by decide) f_25 (fun _ h9 => h9) rfl dX2_runOldestJob_62 ?_
        refine lv_iload_n hx hb dX2_runOldestJob_65 rfl (lv_at hl 1 rfl) ?_
        refine wI_alv (v := ((Q 3 3) + 1)) hx hb hK hP 11 0 rfl rfl 3 rfl (by omega) (by decide) up2_at dX2_runOldestJob_66 ?_
        refine lv_aload_n hx hb dX2_runOldestJob_67 rfl (lv_at hl 0 rfl) ?_
        refine va_get (D := (dC, dI)) (ci := 2) (v := .ref (z 0)) (C := RX2) (T := TX2) (N := 15) hx hb hts hin2 hown hK hP 0 rfl rfl 0 (by decide) f_12 (fun _ h9 => h9) rfl dX2_runOldestJob_68 ?_
        refine va_getN (D := (dC, dI)) (ci := 0) (v := .ref (bq 2)) (C := RX0) (T := TX0) (N := 9) hx hb hts hin0 hown hK hP 1 rfl rfl 2 (by decide) f_113 (fun _ h9 => h9) rfl dX2_runOldestJob_71 ?_
        refine lv_iload_n hx hb dX2_runOldestJob_74 rfl (lv_at hl 1 rfl) ?_
        refine wI_alv (v := G 2 3) hx hb hK hP 4 0 rfl rfl 3 rfl (by omega) (by decide) rfl dX2_runOldestJob_75 ?_
        refine lv_icmp_ne (tgt := 98) hx hb dX2_runOldestJob_76 (by decide) (fun c_76 => ?_) (fun c_76 => ?_)
        · have hP9 : va_P (dC, dI) vwCl (wSim s0 z M ++ (wCfg cy (z 0) bq G (nI n) sc ++ (wArr cy z rt (up2 Q 3 3 ((Q 3 3) + 1)) T))) H := hP
          have hD9 : va_D A (wSim s0 z M ++ (wCfg cy (z 0) bq G (nI n) sc ++ (wArr cy z rt (up2 Q 3 3 ((Q 3 3) + 1)) T))) := hD
          exact W.vret hx hb hr (fun t ht hW => ⟨⟨(M, up2 Q 3 3 ((Q 3 3) + 1), T), rfl, (by have e9 : T 3 (Q 2 3).toNatClampNeg = T 3 o := (by rw [ho, nI_clamp (by omega)]); simp only [runO]; rw [e9, if_neg c_29, if_neg (fun h => c_76 h.2.2)]), by rw [ht]; exact hP9, hD9⟩, hS.F ht⟩) hS.2.2 dX2_runOldestJob_98
        · refine lv_aload_n hx hb dX2_runOldestJob_79 rfl (lv_at hl 0 rfl) ?_
          refine lv_iconst (v := 1) hx hb dX2_runOldestJob_80 (by decide) ?_
          refine va_put (D := (dC, dI)) (ci := 2) (v := .int 1) (ty := .int) (C := RX2) (T := TX2) (N := 15) hx hb hts hin2 tyX2 tyX2_ok nmX2 hown hK hP hD hS 0 rfl rfl 6 (by decide) f_63 (fun _ h9 => h9) rfl (by decide +kernel) rfl rfl (Nat.le_of_ble_eq_true rfl) dX2_runOldestJob_81 (fun H locs hP hD hS => ?_)
          have hP : va_P (dC, dI) vwCl (wSim s0 z (upd M 6 1) ++ (wCfg cy (z 0) bq G (nI n) sc ++ (wArr cy z rt (up2 Q 3 3 ((Q 3 3) + 1)) T))) H := hP
          have hD : va_D A (wSim s0 z (upd M 6 1) ++ (wCfg cy (z 0) bq G (nI n) sc ++ (wArr cy z rt (up2 Q 3 3 ((Q 3 3) + 1)) T))) := hD
          refine lv_aload_n hx hb dX2_runOldestJob_84 rfl (lv_at hl 0 rfl) ?_
          refine lv_dup hx hb dX2_runOldestJob_85 rfl ?_
          refine va_get (D := (dC, dI)) (ci := 2) (v := .int (M 13)) (C := RX2) (T := TX2) (N := 15) hx hb hts hin2 hown hK hP 0 rfl rfl 13 (by decide) f_89 (fun _ h9 => h9) rfl dX2_runOldestJob_86 ?_
          refine lv_iconst (v := 1) hx hb dX2_runOldestJob_89 (by decide) ?_
          refine lv_iadd hx hb dX2_runOldestJob_90 ?_
          refine va_put (D := (dC, dI)) (ci := 2) (v := .int ((M 13) + 1)) (ty := .int) (C := RX2) (T := TX2) (N := 15) hx hb hts hin2 tyX2 tyX2_ok nmX2 hown hK hP hD hS 0 rfl rfl 13 (by decide) f_89 (fun _ h9 => h9) rfl (by decide +kernel) rfl rfl (Nat.le_of_ble_eq_true rfl) dX2_runOldestJob_91 (fun H locs hP hD hS => ?_)
          have hP : va_P (dC, dI) vwCl (wSim s0 z (upd (upd M 6 1) 13 ((M 13) + 1)) ++ (wCfg cy (z 0) bq G (nI n) sc ++ (wArr cy z rt (up2 Q 3 3 ((Q 3 3) + 1)) T))) H := hP
          have hD : va_D A (wSim s0 z (upd (upd M 6 1) 13 ((M 13) + 1)) ++ (wCfg cy (z 0) bq G (nI n) sc ++ (wArr cy z rt (up2 Q 3 3 ((Q 3 3) + 1)) T))) := hD
          refine lv_aload_n hx hb dX2_runOldestJob_94 rfl (lv_at hl 0 rfl) ?_
          have hPc := hP.sub (ws' := wSim s0 z (upd (upd M 6 1) 13 ((M 13) + 1)) ++ (wCfg cy (z 0) bq G (nI n) sc ++ (wArr cy z rt (up2 Q 3 3 ((Q 3 3) + 1)) T))) [0, 1, 2, 3, 4, 5, 6, 7, 8, 9, 10, 11, 12, 13, 14, 15, 16, 17, 18, 19, 20, 21] rfl
          have hDc := hD.sub (ws' := wSim s0 z (upd (upd M 6 1) 13 ((M 13) + 1)) ++ (wCfg cy (z 0) bq G (nI n) sc ++ (wArr cy z rt (up2 Q 3 3 ((Q 3 3) + 1)) T))) [0, 1, 2, 3, 4, 5, 6, 7, 8, 9, 10, 11, 12, 13, 14, 15, 16, 17, 18, 19, 20, 21] (by decide) rfl
          have hFc := va_free (wc := wSim s0 z (upd (upd M 6 1) 13 ((M 13) + 1)) ++ (wCfg cy (z 0) bq G (nI n) sc ++ (wArr cy z rt (up2 Q 3 3 ((Q 3 3) + 1)) T))) hD hS hA [0, 1, 2, 3, 4, 5, 6, 7, 8, 9, 10, 11, 12, 13, 14, 15, 16, 17, 18, 19, 20, 21] rfl
          refine va_callv (va_runV (As := []) (rest := []) ⟨hx, hb, hml, hown, hts⟩ (c_X2_dropPendingJobs l dC dI cy H.size s0 z (upd (upd M 6 1) 13 ((M 13) + 1)) bq G n hn sc (up2 Q 3 3 ((Q 3 3) + 1)) rt T) (cwV 0 hts gX2_runOldestJob_X2_dropPendingJobs rfl rfl rfl (by decide +kernel) ⟨Nat.le_of_ble_eq_true rfl, Nat.le_of_ble_eq_true rfl⟩) ⟨bl_in, va_recv hK hPc (ci := 2) (q0 := 0) rfl rfl, pr_in hPc hE hDc⟩ rfl rfl hl.1 rfl (lv_room (Nat.le_of_ble_eq_true rfl)) dX2_runOldestJob_95 ⟨Nat.le_of_ble_eq_true rfl, Nat.le_of_ble_eq_true rfl⟩) hS (fun q _ h => hFc q h) hFc (fun u t H1 locs ht hvm hw hB hz1 hk1 hS => ?_)
          obtain ⟨M_95, Q_95, T_95⟩ := u
          have e_95 : (M_95, Q_95, T_95) = _ := hw
          obtain ⟨hP1, hD1⟩ := hB
          rw [ht] at hP1
          obtain ⟨hP, hD⟩ := va_join (wr := []) (w1 := wSim s0 z M_95 ++ (wCfg cy (z 0) bq G (nI n) sc ++ (wArr cy z rt Q_95 T_95))) hP hD [0, 1, 2, 3, 4, 5, 6, 7, 8, 9, 10, 11, 12, 13, 14, 15, 16, 17, 18, 19, 20, 21] [] rfl rfl (by decide) (by decide) hk1 hFc hP1 hD1
          have hP : va_P (dC, dI) vwCl (wSim s0 z M_95 ++ (wCfg cy (z 0) bq G (nI n) sc ++ (wArr cy z rt Q_95 T_95))) H1 := hP.sub [0, 1, 2, 3, 4, 5, 6, 7, 8, 9, 10, 11, 12, 13, 14, 15, 16, 17, 18, 19, 20, 21] rfl
          have hD : va_D A (wSim s0 z M_95 ++ (wCfg cy (z 0) bq G (nI n) sc ++ (wArr cy z rt Q_95 T_95))) := hD.sub [0, 1, 2, 3, 4, 5, 6, 7, 8, 9, 10, 11, 12, 13, 14, 15, 16, 17, 18, 19, 20, 21] (by decide) rfl
          clear hz1 hk1 hPc hDc hFc hP1 hD1
          generalize H1 = H at hP hS ⊢
          have hP9 : va_P (dC, dI) vwCl (wSim s0 z M_95 ++ (wCfg cy (z 0) bq G (nI n) sc ++ (wArr cy z rt Q_95 T_95))) H := hP
          have hD9 : va_D A (wSim s0 z M_95 ++ (wCfg cy (z 0) bq G (nI n) sc ++ (wArr cy z rt Q_95 T_95))) := hD
          exact W.vret hx hb hr (fun t ht hW => ⟨⟨(M_95, Q_95, T_95), rfl, (by have e9 : T 3 (Q 2 3).toNatClampNeg = T 3 o := (by rw [ho, nI_clamp (by omega)]); simp only [runO]; rw [e9, if_neg c_29, if_pos ⟨c_47, fun h => c_58 (b01.mpr h), c_76⟩]; exact e_95), by rw [ht]; exact hP9, hD9⟩, hS.F ht⟩) hS.2.2 dX2_runOldestJob_98
  · refine lv_aload_n hx hb dX2_runOldestJob_32 rfl (lv_at hl 0 rfl) ?_
    refine lv_iload_n hx hb dX2_runOldestJob_33 rfl (lv_at hl 1 rfl) ?_
    refine lv_iload_n hx hb dX2_runOldestJob_34 rfl (lv_at hl 2 rfl) ?_
    refine lv_iconst (v := 1) hx hb dX2_runOldestJob_35 (by decide) ?_
    refine lv_iadd hx hb dX2_runOldestJob_36 ?_
    have hPc := hP.sub (ws' := wSim s0 z M ++ (wCfg cy (z 0) bq G (nI n) sc ++ (wArr cy z rt (up2 Q 3 3 ((Q 3 3) + 1)) T))) [0, 1, 2, 3, 4, 5, 6, 7, 8, 9, 10, 11, 12, 13, 14, 15, 16, 17, 18, 19, 20, 21] rfl
    have hDc := hD.sub (ws' := wSim s0 z M ++ (wCfg cy (z 0) bq G (nI n) sc ++ (wArr cy z rt (up2 Q 3 3 ((Q 3 3) + 1)) T))) [0, 1, 2, 3, 4, 5, 6, 7, 8, 9, 10, 11, 12, 13, 14, 15, 16, 17, 18, 19, 20, 21] (by decide) rfl
    have hFc := va_free (wc := wSim s0 z M ++ (wCfg cy (z 0) bq G (nI n) sc ++ (wArr cy z rt (up2 Q 3 3 ((Q 3 3) + 1)) T))) hD hS hA [0, 1, 2, 3, 4, 5, 6, 7, 8, 9, 10, 11, 12, 13, 14, 15, 16, 17, 18, 19, 20, 21] rfl
    refine va_callv (va_runV (As := [.int (nI 3), .int ((nI u) + 1)]) (rest := []) ⟨hx, hb, hml, hown, hts⟩ (c_X2_completeOldestJob l dC dI cy H.size s0 z M bq G n hn sc (up2 Q 3 3 ((Q 3 3) + 1)) rt T 3 (by omega) ((nI u) + 1)) (cwV 2 hts gX2_runOldestJob_X2_completeOldestJob rfl rfl rfl (by decide +kernel) ⟨Nat.le_of_ble_eq_true rfl, Nat.le_of_ble_eq_true rfl⟩) ⟨bl_in, va_recv hK hPc (ci := 2) (q0 := 0) rfl rfl, pr_in hPc hE hDc⟩ rfl rfl hl.1 rfl (lv_room (Nat.le_of_ble_eq_true rfl)) dX2_runOldestJob_37 ⟨Nat.le_of_ble_eq_true rfl, Nat.le_of_ble_eq_true rfl⟩) hS (fun q _ h => hFc q h) hFc (fun u t H1 locs ht hvm hw hB hz1 hk1 hS => ?_)
    obtain ⟨M_37, Q_37, T_37⟩ := u
    have e_37 : (M_37, Q_37, T_37) = _ := hw
    obtain ⟨hP1, hD1⟩ := hB
    rw [ht] at hP1
    obtain ⟨hP, hD⟩ := va_join (wr := []) (w1 := wSim s0 z M_37 ++ (wCfg cy (z 0) bq G (nI n) sc ++ (wArr cy z rt Q_37 T_37))) hP hD [0, 1, 2, 3, 4, 5, 6, 7, 8, 9, 10, 11, 12, 13, 14, 15, 16, 17, 18, 19, 20, 21] [] rfl rfl (by decide) (by decide) hk1 hFc hP1 hD1
    have hP : va_P (dC, dI) vwCl (wSim s0 z M_37 ++ (wCfg cy (z 0) bq G (nI n) sc ++ (wArr cy z rt Q_37 T_37))) H1 := hP.sub [0, 1, 2, 3, 4, 5, 6, 7, 8, 9, 10, 11, 12, 13, 14, 15, 16, 17, 18, 19, 20, 21] rfl
    have hD : va_D A (wSim s0 z M_37 ++ (wCfg cy (z 0) bq G (nI n) sc ++ (wArr cy z rt Q_37 T_37))) := hD.sub [0, 1, 2, 3, 4, 5, 6, 7, 8, 9, 10, 11, 12, 13, 14, 15, 16, 17, 18, 19, 20, 21] (by decide) rfl
    clear hz1 hk1 hPc hDc hFc hP1 hD1
    generalize H1 = H at hP hS ⊢
    refine lv_goto (tgt := 98) hx hb dX2_runOldestJob_40 (by decide) ?_
    have hP9 : va_P (dC, dI) vwCl (wSim s0 z M_37 ++ (wCfg cy (z 0) bq G (nI n) sc ++ (wArr cy z rt Q_37 T_37))) H := hP
    have hD9 : va_D A (wSim s0 z M_37 ++ (wCfg cy (z 0) bq G (nI n) sc ++ (wArr cy z rt Q_37 T_37))) := hD
    exact W.vret hx hb hr (fun t ht hW => ⟨⟨(M_37, Q_37, T_37), rfl, (by have e9 : T 3 (Q 2 3).toNatClampNeg = T 3 o := (by rw [ho, nI_clamp (by omega)]); simp only [runO]; rw [e9, if_pos c_29]; exact e_37), by rw [ht]; exact hP9, hD9⟩, hS.F ht⟩) hS.2.2 dX2_runOldestJob_98
set_option maxHeartbeats 1000000 in
set_option maxRecDepth 100000 in
/-- the oldest job of task 4 runs -/
theorem c_X2_runOldestJob_4 (l : Launch) (dC : Nat → ClassId) (dI : Nat → Nat → Nat) (cy : Nat → ClassId) (sz : Nat) (s0 : Nat) (z : Nat → Nat) (M : Nat → Int32) (bq : Nat → Nat) (G : vG) (n : Nat) (hn : n ≤ 8) (sc : Int32) (Q : vG) (rt : Nat → Nat) (T : vG) (u : Nat) (hu : u < 200) (o : Nat) (ho8 : o < 200) (ho : Q 2 4 = nI o) : Met l yX2_runOldestJob wsX2_runOldestJob ({ frames := 2, cells := 0, slots := 0, locals := 45 }) (va_Pc [.ref s0, .int (nI 4), .int (nI u)] (pIn dC dI cy (wSim s0 z M ++ (wCfg cy (z 0) bq G (nI n) sc ++ (wArr cy z rt Q T))) sz)) (va_Qv (fun (u9 : SSt) => u9 = runO G n 4 u (M, Q, T)) (fun (u : SSt) t => va_P (dC, dI) vwCl (wSim s0 z u.1 ++ (wCfg cy (z 0) bq G (nI n) sc ++ (wArr cy z rt u.2.1 u.2.2))) t.heap ∧ va_D (va_A (wSim s0 z M ++ (wCfg cy (z 0) bq G (nI n) sc ++ (wArr cy z rt Q T))) sz) (wSim s0 z u.1 ++ (wCfg cy (z 0) bq G (nI n) sc ++ (wArr cy z rt u.2.1 u.2.2)))) (va_A (wSim s0 z M ++ (wCfg cy (z 0) bq G (nI n) sc ++ (wArr cy z rt Q T))) sz)) 0 0 (va_A (wSim s0 z M ++ (wCfg cy (z 0) bq G (nI n) sc ++ (wArr cy z rt Q T))) sz) := by
  refine Met.ofW (cc := cX2_runOldestJob) (maxL := 3) (ret := none) (by decide) rfl ?_
  intro p e s m args below meth c s₁ B hml hv
  obtain ⟨rfl, hsz, hP, hE, hD0⟩ := hv
  have hK := hE.1
  subst hsz
  have hD := hD0.self (sz := s.heap.size)
  generalize hAe : va_A (wSim s0 z M ++ (wCfg cy (z 0) bq G (nI n) sc ++ (wArr cy z rt Q T))) s.heap.size = A at hD ⊢
  have hA : ∀ q : Nat, s.heap.size ≤ q → A q := fun q h => by rw [← hAe]; exact Or.inr h
  have hS : va_S A s.heap s.heap [] := va_S.rf
  have hP : va_P (dC, dI) vwCl (wSim s0 z M ++ (wCfg cy (z 0) bq G (nI n) sc ++ (wArr cy z rt Q T))) s.heap := hP
  have hx := B.exec
  have hb := B.bytes
  have hr := B.returns
  have hts := atoms_spec (ws := wsX2_runOldestJob) B.pre
  have hown : s.vm.findClass RX2 = some m.cls := findClass_of_methodNamed B.named
  have hlocks := B.notSynchronized
  have hin0 : ∀ w ∈ u_ws RX0 TX0 9, w ∈ wsX2_runOldestJob := by decide +kernel
  have hin2 : ∀ w ∈ u_ws RX2 TX2 15, w ∈ wsX2_runOldestJob := by decide +kernel
  have f_113 := va_Nw.use (A := ([.ref s0, .int (nI 4), .int (nI u)].toArray)) rfl (hE.f 2 rfl)
  have f_12 := hts (.fieldLink RX2 12 "DeadlineAdmission$Simulation" "tasks" "LDeadlineAdmission$Configuration;") (by decide +kernel)
  have f_22 := hts (.fieldLink RX2 22 "DeadlineAdmission$Simulation" "oldestRelease" "[I") (by decide +kernel)
  have f_25 := hts (.fieldLink RX2 25 "DeadlineAdmission$Simulation" "oldestHasRun" "[I") (by decide +kernel)
  have f_30 := hts (.fieldLink RX2 30 "DeadlineAdmission$Simulation" "runningTime" "[[I") (by decide +kernel)
  have f_63 := hts (.fieldLink RX2 63 "DeadlineAdmission$Simulation" "mode" "I") (by decide +kernel)
  have f_89 := hts (.fieldLink RX2 89 "DeadlineAdmission$Simulation" "highSwitches" "I") (by decide +kernel)
  have hl := lv_entry ([.ref s0, .int (nI 4), .int (nI u)]) (n := 3) (Nat.le_of_ble_eq_true rfl)
  rw [lg_entry_eq]
  generalize (lg_sl ([.ref s0, .int (nI 4), .int (nI u)]) ++ List.replicate (3 - (lg_sl ([.ref s0, .int (nI 4), .int (nI u)])).length) Slot.unset).toArray = ls at hl ⊢
  have hl : lv_has ls 3 [(0, .ref s0), (1, .int (nI 4)), (2, .int (nI u))] := hl
  refine lv_aload_n hx hb dX2_runOldestJob_0 rfl (lv_at hl 0 rfl) ?_
  refine va_get (D := (dC, dI)) (ci := 2) (v := .ref (z 3)) (C := RX2) (T := TX2) (N := 15) hx hb hts hin2 hown hK hP 0 rfl rfl 3 (by decide) f_25 (fun _ h9 => h9) rfl dX2_runOldestJob_1 ?_
  refine lv_iload_n hx hb dX2_runOldestJob_4 rfl (lv_at hl 1 rfl) ?_
  refine lv_dup2_11 hx hb dX2_runOldestJob_5 rfl rfl ?_
  refine wI_alv (v := Q 3 4) hx hb hK hP 11 0 rfl rfl 4 rfl (by omega) (by decide) rfl dX2_runOldestJob_6 ?_
  refine lv_iconst (v := 1) hx hb dX2_runOldestJob_7 (by decide) ?_
  refine lv_iadd hx hb dX2_runOldestJob_8 ?_
  refine wI_ast hx hb hK hP hD hS 11 0 rfl rfl 4 rfl (by omega) (by decide) dX2_runOldestJob_9 (fun H locs hP hD hS => ?_)
  have hP : va_P (dC, dI) vwCl (wSim s0 z M ++ (wCfg cy (z 0) bq G (nI n) sc ++ (wArr cy z rt (up2 Q 3 4 ((Q 3 4) + 1)) T))) H := hP
  have hD : va_D A (wSim s0 z M ++ (wCfg cy (z 0) bq G (nI n) sc ++ (wArr cy z rt (up2 Q 3 4 ((Q 3 4) + 1)) T))) := hD
  refine lv_aload_n hx hb dX2_runOldestJob_10 rfl (lv_at hl 0 rfl) ?_
  refine va_get (D := (dC, dI)) (ci := 2) (v := .ref (z 3)) (C := RX2) (T := TX2) (N := 15) hx hb hts hin2 hown hK hP 0 rfl rfl 3 (by decide) f_25 (fun _ h9 => h9) rfl dX2_runOldestJob_11 ?_
  refine lv_iload_n hx hb dX2_runOldestJob_14 rfl (lv_at hl 1 rfl) ?_
  refine wI_alv (v := ((Q 3 4) + 1)) hx hb hK hP 11 0 rfl rfl 4 rfl (by omega) (by decide) up2_at dX2_runOldestJob_15 ?_
  refine lv_aload_n hx hb dX2_runOldestJob_16 rfl (lv_at hl 0 rfl) ?_
  refine va_get (D := (dC, dI)) (ci := 2) (v := .ref (z 4)) (C := RX2) (T := TX2) (N := 15) hx hb hts hin2 hown hK hP 0 rfl rfl 4 (by decide) f_30 (fun _ h9 => h9) rfl dX2_runOldestJob_17 ?_
  refine lv_iload_n hx hb dX2_runOldestJob_20 rfl (lv_at hl 1 rfl) ?_
  refine wB_ald (q := (rt 4)) hx hb hK hP 12 2 rfl rfl 4 rfl (by omega) (by decide) rfl dX2_runOldestJob_21 ?_
  refine lv_aload_n hx hb dX2_runOldestJob_22 rfl (lv_at hl 0 rfl) ?_
  refine va_get (D := (dC, dI)) (ci := 2) (v := .ref (z 2)) (C := RX2) (T := TX2) (N := 15) hx hb hts hin2 hown hK hP 0 rfl rfl 2 (by decide) f_22 (fun _ h9 => h9) rfl dX2_runOldestJob_23 ?_
  refine lv_iload_n hx hb dX2_runOldestJob_26 rfl (lv_at hl 1 rfl) ?_
  refine wI_alv (v := Q 2 4) hx hb hK hP 10 0 rfl rfl 4 rfl (by omega) (by decide) rfl dX2_runOldestJob_27 ?_
  refine wI_alv (v := T 4 o) hx hb hK hP 18 0 rfl rfl o ho (by omega) (by decide) rfl dX2_runOldestJob_28 ?_
  refine lv_icmp_ne (tgt := 43) hx hb dX2_runOldestJob_29 (by decide) (fun c_29 => ?_) (fun c_29 => ?_)
  · refine lv_aload_n hx hb dX2_runOldestJob_43 rfl (lv_at hl 0 rfl) ?_
    refine va_get (D := (dC, dI)) (ci := 2) (v := .int (M 6)) (C := RX2) (T := TX2) (N := 15) hx hb hts hin2 hown hK hP 0 rfl rfl 6 (by decide) f_63 (fun _ h9 => h9) rfl dX2_runOldestJob_44 ?_
    refine lv_if_ne (tgt := 98) hx hb dX2_runOldestJob_47 (by decide) (fun c_47 => ?_) (fun c_47 => ?_)
    · have hP9 : va_P (dC, dI) vwCl (wSim s0 z M ++ (wCfg cy (z 0) bq G (nI n) sc ++ (wArr cy z rt (up2 Q 3 4 ((Q 3 4) + 1)) T))) H := hP
      have hD9 : va_D A (wSim s0 z M ++ (wCfg cy (z 0) bq G (nI n) sc ++ (wArr cy z rt (up2 Q 3 4 ((Q 3 4) + 1)) T))) := hD
      exact W.vret hx hb hr (fun t ht hW => ⟨⟨(M, up2 Q 3 4 ((Q 3 4) + 1), T), rfl, (by have e9 : T 4 (Q 2 4).toNatClampNeg = T 4 o := (by rw [ho, nI_clamp (by omega)]); simp only [runO]; rw [e9, if_neg c_29, if_neg (fun h => c_47 h.1)]), by rw [ht]; exact hP9, hD9⟩, hS.F ht⟩) hS.2.2 dX2_runOldestJob_98
    · refine lv_aload_n hx hb dX2_runOldestJob_50 rfl (lv_at hl 0 rfl) ?_
      refine va_get (D := (dC, dI)) (ci := 2) (v := .ref (z 0)) (C := RX2) (T := TX2) (N := 15) hx hb hts hin2 hown hK hP 0 rfl rfl 0 (by decide) f_12 (fun _ h9 => h9) rfl dX2_runOldestJob_51 ?_
      refine lv_iload_n hx hb dX2_runOldestJob_54 rfl (lv_at hl 1 rfl) ?_
      refine vp_callSi (va_runV (As := [.int (nI 4)]) (rest := []) ⟨hx, hb, hml, hown, hts⟩ (c_X0_hasHighBudget l dC dI cy (z 0) bq G (nI n) sc  4 (by omega)) (cwV 1 hts gX2_runOldestJob_X0_hasHighBudget rfl rfl rfl (by decide +kernel) ⟨Nat.le_of_ble_eq_true rfl, Nat.le_of_ble_eq_true rfl⟩) ⟨bl_ro, va_recv hK (hP.sub (ws' := wCfg cy (z 0) bq G (nI n) sc) [1, 2, 3, 4, 5, 6, 7, 8] rfl) (ci := 0) (q0 := 0) rfl rfl, pr_ro (hP.sub (ws' := wCfg cy (z 0) bq G (nI n) sc) [1, 2, 3, 4, 5, 6, 7, 8] rfl) hE⟩ rfl rfl hl.1 rfl (lv_room (Nat.le_of_ble_eq_true rfl)) dX2_runOldestJob_55 ⟨Nat.le_of_ble_eq_true rfl, Nat.le_of_ble_eq_true rfl⟩).run (fun r e_r => ?_)
      subst e_r
      refine lv_if_eq (tgt := 98) hx hb dX2_runOldestJob_58 (by decide) (fun c_58 => ?_) (fun c_58 => ?_)
      · have hP9 : va_P (dC, dI) vwCl (wSim s0 z M ++ (wCfg cy (z 0) bq G (nI n) sc ++ (wArr cy z rt (up2 Q 3 4 ((Q 3 4) + 1)) T))) H := hP
        have hD9 : va_D A (wSim s0 z M ++ (wCfg cy (z 0) bq G (nI n) sc ++ (wArr cy z rt (up2 Q 3 4 ((Q 3 4) + 1)) T))) := hD
        exact W.vret hx hb hr (fun t ht hW => ⟨⟨(M, up2 Q 3 4 ((Q 3 4) + 1), T), rfl, (by have e9 : T 4 (Q 2 4).toNatClampNeg = T 4 o := (by rw [ho, nI_clamp (by omega)]); simp only [runO]; rw [e9, if_neg c_29, if_neg (fun h => h.2.1 (b01.mp c_58))]), by rw [ht]; exact hP9, hD9⟩, hS.F ht⟩) hS.2.2 dX2_runOldestJob_98
      · refine lv_aload_n hx hb dX2_runOldestJob_61 rfl (lv_at hl 0 rfl) ?_
        refine va_get (D := (dC, dI)) (ci := 2) (v := .ref (z 3)) (C := RX2) (T := TX2) (N := 15) hx hb hts hin2 hown hK hP 0 rfl rfl 3 (by decide) f_25 (fun _ h9 => h9) rfl dX2_runOldestJob_62 ?_
        refine lv_iload_n hx hb dX2_runOldestJob_65 rfl (lv_at hl 1 rfl) ?_
        refine wI_alv (v := ((Q 3 4) + 1)) hx hb hK hP 11 0 rfl rfl 4 rfl (by omega) (by decide) up2_at dX2_runOldestJob_66 ?_
        refine lv_aload_n hx hb dX2_runOldestJob_67 rfl (lv_at hl 0 rfl) ?_
        refine va_get (D := (dC, dI)) (ci := 2) (v := .ref (z 0)) (C := RX2) (T := TX2) (N := 15) hx hb hts hin2 hown hK hP 0 rfl rfl 0 (by decide) f_12 (fun _ h9 => h9) rfl dX2_runOldestJob_68 ?_
        refine va_getN (D := (dC, dI)) (ci := 0) (v := .ref (bq 2)) (C := RX0) (T := TX0) (N := 9) hx hb hts hin0 hown hK hP 1 rfl rfl 2 (by decide) f_113 (fun _ h9 => h9) rfl dX2_runOldestJob_71 ?_
        refine lv_iload_n hx hb dX2_runOldestJob_74 rfl (lv_at hl 1 rfl) ?_
        refine wI_alv (v := G 2 4) hx hb hK hP 4 0 rfl rfl 4 rfl (by omega) (by decide) rfl dX2_runOldestJob_75 ?_
        refine lv_icmp_ne (tgt := 98) hx hb dX2_runOldestJob_76 (by decide) (fun c_76 => ?_) (fun c_76 => ?_)
        · have hP9 : va_P (dC, dI) vwCl (wSim s0 z M ++ (wCfg cy (z 0) bq G (nI n) sc ++ (wArr cy z rt (up2 Q 3 4 ((Q 3 4) + 1)) T))) H := hP
          have hD9 : va_D A (wSim s0 z M ++ (wCfg cy (z 0) bq G (nI n) sc ++ (wArr cy z rt (up2 Q 3 4 ((Q 3 4) + 1)) T))) := hD
          exact W.vret hx hb hr (fun t ht hW => ⟨⟨(M, up2 Q 3 4 ((Q 3 4) + 1), T), rfl, (by have e9 : T 4 (Q 2 4).toNatClampNeg = T 4 o := (by rw [ho, nI_clamp (by omega)]); simp only [runO]; rw [e9, if_neg c_29, if_neg (fun h => c_76 h.2.2)]), by rw [ht]; exact hP9, hD9⟩, hS.F ht⟩) hS.2.2 dX2_runOldestJob_98
        · refine lv_aload_n hx hb dX2_runOldestJob_79 rfl (lv_at hl 0 rfl) ?_
          refine lv_iconst (v := 1) hx hb dX2_runOldestJob_80 (by decide) ?_
          refine va_put (D := (dC, dI)) (ci := 2) (v := .int 1) (ty := .int) (C := RX2) (T := TX2) (N := 15) hx hb hts hin2 tyX2 tyX2_ok nmX2 hown hK hP hD hS 0 rfl rfl 6 (by decide) f_63 (fun _ h9 => h9) rfl (by decide +kernel) rfl rfl (Nat.le_of_ble_eq_true rfl) dX2_runOldestJob_81 (fun H locs hP hD hS => ?_)
          have hP : va_P (dC, dI) vwCl (wSim s0 z (upd M 6 1) ++ (wCfg cy (z 0) bq G (nI n) sc ++ (wArr cy z rt (up2 Q 3 4 ((Q 3 4) + 1)) T))) H := hP
          have hD : va_D A (wSim s0 z (upd M 6 1) ++ (wCfg cy (z 0) bq G (nI n) sc ++ (wArr cy z rt (up2 Q 3 4 ((Q 3 4) + 1)) T))) := hD
          refine lv_aload_n hx hb dX2_runOldestJob_84 rfl (lv_at hl 0 rfl) ?_
          refine lv_dup hx hb dX2_runOldestJob_85 rfl ?_
          refine va_get (D := (dC, dI)) (ci := 2) (v := .int (M 13)) (C := RX2) (T := TX2) (N := 15) hx hb hts hin2 hown hK hP 0 rfl rfl 13 (by decide) f_89 (fun _ h9 => h9) rfl dX2_runOldestJob_86 ?_
          refine lv_iconst (v := 1) hx hb dX2_runOldestJob_89 (by decide) ?_
          refine lv_iadd hx hb dX2_runOldestJob_90 ?_
          refine va_put (D := (dC, dI)) (ci := 2) (v := .int ((M 13) + 1)) (ty := .int) (C := RX2) (T := TX2) (N := 15) hx hb hts hin2 tyX2 tyX2_ok nmX2 hown hK hP hD hS 0 rfl rfl 13 (by decide) f_89 (fun _ h9 => h9) rfl (by decide +kernel) rfl rfl (Nat.le_of_ble_eq_true rfl) dX2_runOldestJob_91 (fun H locs hP hD hS => ?_)
          have hP : va_P (dC, dI) vwCl (wSim s0 z (upd (upd M 6 1) 13 ((M 13) + 1)) ++ (wCfg cy (z 0) bq G (nI n) sc ++ (wArr cy z rt (up2 Q 3 4 ((Q 3 4) + 1)) T))) H := hP
          have hD : va_D A (wSim s0 z (upd (upd M 6 1) 13 ((M 13) + 1)) ++ (wCfg cy (z 0) bq G (nI n) sc ++ (wArr cy z rt (up2 Q 3 4 ((Q 3 4) + 1)) T))) := hD
          refine lv_aload_n hx hb dX2_runOldestJob_94 rfl (lv_at hl 0 rfl) ?_
          have hPc := hP.sub (ws' := wSim s0 z (upd (upd M 6 1) 13 ((M 13) + 1)) ++ (wCfg cy (z 0) bq G (nI n) sc ++ (wArr cy z rt (up2 Q 3 4 ((Q 3 4) + 1)) T))) [0, 1, 2, 3, 4, 5, 6, 7, 8, 9, 10, 11, 12, 13, 14, 15, 16, 17, 18, 19, 20, 21] rfl
          have hDc := hD.sub (ws' := wSim s0 z (upd (upd M 6 1) 13 ((M 13) + 1)) ++ (wCfg cy (z 0) bq G (nI n) sc ++ (wArr cy z rt (up2 Q 3 4 ((Q 3 4) + 1)) T))) [0, 1, 2, 3, 4, 5, 6, 7, 8, 9, 10, 11, 12, 13, 14, 15, 16, 17, 18, 19, 20, 21] (by decide) rfl
          have hFc := va_free (wc := wSim s0 z (upd (upd M 6 1) 13 ((M 13) + 1)) ++ (wCfg cy (z 0) bq G (nI n) sc ++ (wArr cy z rt (up2 Q 3 4 ((Q 3 4) + 1)) T))) hD hS hA [0, 1, 2, 3, 4, 5, 6, 7, 8, 9, 10, 11, 12, 13, 14, 15, 16, 17, 18, 19, 20, 21] rfl
          refine va_callv (va_runV (As := []) (rest := []) ⟨hx, hb, hml, hown, hts⟩ (c_X2_dropPendingJobs l dC dI cy H.size s0 z (upd (upd M 6 1) 13 ((M 13) + 1)) bq G n hn sc (up2 Q 3 4 ((Q 3 4) + 1)) rt T) (cwV 0 hts gX2_runOldestJob_X2_dropPendingJobs rfl rfl rfl (by decide +kernel) ⟨Nat.le_of_ble_eq_true rfl, Nat.le_of_ble_eq_true rfl⟩) ⟨bl_in, va_recv hK hPc (ci := 2) (q0 := 0) rfl rfl, pr_in hPc hE hDc⟩ rfl rfl hl.1 rfl (lv_room (Nat.le_of_ble_eq_true rfl)) dX2_runOldestJob_95 ⟨Nat.le_of_ble_eq_true rfl, Nat.le_of_ble_eq_true rfl⟩) hS (fun q _ h => hFc q h) hFc (fun u t H1 locs ht hvm hw hB hz1 hk1 hS => ?_)
          obtain ⟨M_95, Q_95, T_95⟩ := u
          have e_95 : (M_95, Q_95, T_95) = _ := hw
          obtain ⟨hP1, hD1⟩ := hB
          rw [ht] at hP1
          obtain ⟨hP, hD⟩ := va_join (wr := []) (w1 := wSim s0 z M_95 ++ (wCfg cy (z 0) bq G (nI n) sc ++ (wArr cy z rt Q_95 T_95))) hP hD [0, 1, 2, 3, 4, 5, 6, 7, 8, 9, 10, 11, 12, 13, 14, 15, 16, 17, 18, 19, 20, 21] [] rfl rfl (by decide) (by decide) hk1 hFc hP1 hD1
          have hP : va_P (dC, dI) vwCl (wSim s0 z M_95 ++ (wCfg cy (z 0) bq G (nI n) sc ++ (wArr cy z rt Q_95 T_95))) H1 := hP.sub [0, 1, 2, 3, 4, 5, 6, 7, 8, 9, 10, 11, 12, 13, 14, 15, 16, 17, 18, 19, 20, 21] rfl
          have hD : va_D A (wSim s0 z M_95 ++ (wCfg cy (z 0) bq G (nI n) sc ++ (wArr cy z rt Q_95 T_95))) := hD.sub [0, 1, 2, 3, 4, 5, 6, 7, 8, 9, 10, 11, 12, 13, 14, 15, 16, 17, 18, 19, 20, 21] (by decide) rfl
          clear hz1 hk1 hPc hDc hFc hP1 hD1
          generalize H1 = H at hP hS ⊢
          have hP9 : va_P (dC, dI) vwCl (wSim s0 z M_95 ++ (wCfg cy (z 0) bq G (nI n) sc ++ (wArr cy z rt Q_95 T_95))) H := hP
          have hD9 : va_D A (wSim s0 z M_95 ++ (wCfg cy (z 0) bq G (nI n) sc ++ (wArr cy z rt Q_95 T_95))) := hD
          exact W.vret hx hb hr (fun t ht hW => ⟨⟨(M_95, Q_95, T_95), rfl, (by have e9 : T 4 (Q 2 4).toNatClampNeg = T 4 o := (by rw [ho, nI_clamp (by omega)]); simp only [runO]; rw [e9, if_neg c_29, if_pos ⟨c_47, fun h => c_58 (b01.mpr h), c_76⟩]; exact e_95), by rw [ht]; exact hP9, hD9⟩, hS.F ht⟩) hS.2.2 dX2_runOldestJob_98
  · refine lv_aload_n hx hb dX2_runOldestJob_32 rfl (lv_at hl 0 rfl) ?_
    refine lv_iload_n hx hb dX2_runOldestJob_33 rfl (lv_at hl 1 rfl) ?_
    refine lv_iload_n hx hb dX2_runOldestJob_34 rfl (lv_at hl 2 rfl) ?_
    refine lv_iconst (v := 1) hx hb dX2_runOldestJob_35 (by decide) ?_
    refine lv_iadd hx hb dX2_runOldestJob_36 ?_
    have hPc := hP.sub (ws' := wSim s0 z M ++ (wCfg cy (z 0) bq G (nI n) sc ++ (wArr cy z rt (up2 Q 3 4 ((Q 3 4) + 1)) T))) [0, 1, 2, 3, 4, 5, 6, 7, 8, 9, 10, 11, 12, 13, 14, 15, 16, 17, 18, 19, 20, 21] rfl
    have hDc := hD.sub (ws' := wSim s0 z M ++ (wCfg cy (z 0) bq G (nI n) sc ++ (wArr cy z rt (up2 Q 3 4 ((Q 3 4) + 1)) T))) [0, 1, 2, 3, 4, 5, 6, 7, 8, 9, 10, 11, 12, 13, 14, 15, 16, 17, 18, 19, 20, 21] (by decide) rfl
    have hFc := va_free (wc := wSim s0 z M ++ (wCfg cy (z 0) bq G (nI n) sc ++ (wArr cy z rt (up2 Q 3 4 ((Q 3 4) + 1)) T))) hD hS hA [0, 1, 2, 3, 4, 5, 6, 7, 8, 9, 10, 11, 12, 13, 14, 15, 16, 17, 18, 19, 20, 21] rfl
    refine va_callv (va_runV (As := [.int (nI 4), .int ((nI u) + 1)]) (rest := []) ⟨hx, hb, hml, hown, hts⟩ (c_X2_completeOldestJob l dC dI cy H.size s0 z M bq G n hn sc (up2 Q 3 4 ((Q 3 4) + 1)) rt T 4 (by omega) ((nI u) + 1)) (cwV 2 hts gX2_runOldestJob_X2_completeOldestJob rfl rfl rfl (by decide +kernel) ⟨Nat.le_of_ble_eq_true rfl, Nat.le_of_ble_eq_true rfl⟩) ⟨bl_in, va_recv hK hPc (ci := 2) (q0 := 0) rfl rfl, pr_in hPc hE hDc⟩ rfl rfl hl.1 rfl (lv_room (Nat.le_of_ble_eq_true rfl)) dX2_runOldestJob_37 ⟨Nat.le_of_ble_eq_true rfl, Nat.le_of_ble_eq_true rfl⟩) hS (fun q _ h => hFc q h) hFc (fun u t H1 locs ht hvm hw hB hz1 hk1 hS => ?_)
    obtain ⟨M_37, Q_37, T_37⟩ := u
    have e_37 : (M_37, Q_37, T_37) = _ := hw
    obtain ⟨hP1, hD1⟩ := hB
    rw [ht] at hP1
    obtain ⟨hP, hD⟩ := va_join (wr := []) (w1 := wSim s0 z M_37 ++ (wCfg cy (z 0) bq G (nI n) sc ++ (wArr cy z rt Q_37 T_37))) hP hD [0, 1, 2, 3, 4, 5, 6, 7, 8, 9, 10, 11, 12, 13, 14, 15, 16, 17, 18, 19, 20, 21] [] rfl rfl (by decide) (by decide) hk1 hFc hP1 hD1
    have hP : va_P (dC, dI) vwCl (wSim s0 z M_37 ++ (wCfg cy (z 0) bq G (nI n) sc ++ (wArr cy z rt Q_37 T_37))) H1 := hP.sub [0, 1, 2, 3, 4, 5, 6, 7, 8, 9, 10, 11, 12, 13, 14, 15, 16, 17, 18, 19, 20, 21] rfl
    have hD : va_D A (wSim s0 z M_37 ++ (wCfg cy (z 0) bq G (nI n) sc ++ (wArr cy z rt Q_37 T_37))) := hD.sub [0, 1, 2, 3, 4, 5, 6, 7, 8, 9, 10, 11, 12, 13, 14, 15, 16, 17, 18, 19, 20, 21] (by decide) rfl
    clear hz1 hk1 hPc hDc hFc hP1 hD1
    generalize H1 = H at hP hS ⊢
    refine lv_goto (tgt := 98) hx hb dX2_runOldestJob_40 (by decide) ?_
    have hP9 : va_P (dC, dI) vwCl (wSim s0 z M_37 ++ (wCfg cy (z 0) bq G (nI n) sc ++ (wArr cy z rt Q_37 T_37))) H := hP
    have hD9 : va_D A (wSim s0 z M_37 ++ (wCfg cy (z 0) bq G (nI n) sc ++ (wArr cy z rt Q_37 T_37))) := hD
    exact W.vret hx hb hr (fun t ht hW => ⟨⟨(M_37, Q_37, T_37), rfl, (by have e9 : T 4 (Q 2 4).toNatClampNeg = T 4 o := (by rw [ho, nI_clamp (by omega)]); simp only [runO]; rw [e9, if_pos c_29]; exact e_37), by rw [ht]; exact hP9, hD9⟩, hS.F ht⟩) hS.2.2 dX2_runOldestJob_98
set_option maxHeartbeats 1000000 in
set_option maxRecDepth 100000 in
/-- the oldest job of task 5 runs -/
theorem c_X2_runOldestJob_5 (l : Launch) (dC : Nat → ClassId) (dI : Nat → Nat → Nat) (cy : Nat → ClassId) (sz : Nat) (s0 : Nat) (z : Nat → Nat) (M : Nat → Int32) (bq : Nat → Nat) (G : vG) (n : Nat) (hn : n ≤ 8) (sc : Int32) (Q : vG) (rt : Nat → Nat) (T : vG) (u : Nat) (hu : u < 200) (o : Nat) (ho8 : o < 200) (ho : Q 2 5 = nI o) : Met l yX2_runOldestJob wsX2_runOldestJob ({ frames := 2, cells := 0, slots := 0, locals := 45 }) (va_Pc [.ref s0, .int (nI 5), .int (nI u)] (pIn dC dI cy (wSim s0 z M ++ (wCfg cy (z 0) bq G (nI n) sc ++ (wArr cy z rt Q T))) sz)) (va_Qv (fun (u9 : SSt) => u9 = runO G n 5 u (M, Q, T)) (fun (u : SSt) t => va_P (dC, dI) vwCl (wSim s0 z u.1 ++ (wCfg cy (z 0) bq G (nI n) sc ++ (wArr cy z rt u.2.1 u.2.2))) t.heap ∧ va_D (va_A (wSim s0 z M ++ (wCfg cy (z 0) bq G (nI n) sc ++ (wArr cy z rt Q T))) sz) (wSim s0 z u.1 ++ (wCfg cy (z 0) bq G (nI n) sc ++ (wArr cy z rt u.2.1 u.2.2)))) (va_A (wSim s0 z M ++ (wCfg cy (z 0) bq G (nI n) sc ++ (wArr cy z rt Q T))) sz)) 0 0 (va_A (wSim s0 z M ++ (wCfg cy (z 0) bq G (nI n) sc ++ (wArr cy z rt Q T))) sz) := by
  refine Met.ofW (cc := cX2_runOldestJob) (maxL := 3) (ret := none) (by decide) rfl ?_
  intro p e s m args below meth c s₁ B hml hv
  obtain ⟨rfl, hsz, hP, hE, hD0⟩ := hv
  have hK := hE.1
  subst hsz
  have hD := hD0.self (sz := s.heap.size)
  generalize hAe : va_A (wSim s0 z M ++ (wCfg cy (z 0) bq G (nI n) sc ++ (wArr cy z rt Q T))) s.heap.size = A at hD ⊢
  have hA : ∀ q : Nat, s.heap.size ≤ q → A q := fun q h => by rw [← hAe]; exact Or.inr h
  have hS : va_S A s.heap s.heap [] := va_S.rf
  have hP : va_P (dC, dI) vwCl (wSim s0 z M ++ (wCfg cy (z 0) bq G (nI n) sc ++ (wArr cy z rt Q T))) s.heap := hP
  have hx := B.exec
  have hb := B.bytes
  have hr := B.returns
  have hts := atoms_spec (ws := wsX2_runOldestJob) B.pre
  have hown : s.vm.findClass RX2 = some m.cls := findClass_of_methodNamed B.named
  have hlocks := B.notSynchronized
  have hin0 : ∀ w ∈ u_ws RX0 TX0 9, w ∈ wsX2_runOldestJob := by decide +kernel
  have hin2 : ∀ w ∈ u_ws RX2 TX2 15, w ∈ wsX2_runOldestJob := by decide +kernel
  have f_113 := va_Nw.use (A := ([.ref s0, .int (nI 5), .int (nI u)].toArray)) rfl (hE.f 2 rfl)
  have f_12 := hts (.fieldLink RX2 12 "DeadlineAdmission$Simulation" "tasks" "LDeadlineAdmission$Configuration;") (by decide +kernel)
  have f_22 := hts (.fieldLink RX2 22 "DeadlineAdmission$Simulation" "oldestRelease" "[I") (by decide +kernel)
  have f_25 := hts (.fieldLink RX2 25 "DeadlineAdmission$Simulation" "oldestHasRun" "[I") (by decide +kernel)
  have f_30 := hts (.fieldLink RX2 30 "DeadlineAdmission$Simulation" "runningTime" "[[I") (by decide +kernel)
  have f_63 := hts (.fieldLink RX2 63 "DeadlineAdmission$Simulation" "mode" "I") (by decide +kernel)
  have f_89 := hts (.fieldLink RX2 89 "DeadlineAdmission$Simulation" "highSwitches" "I") (by decide +kernel)
  have hl := lv_entry ([.ref s0, .int (nI 5), .int (nI u)]) (n := 3) (Nat.le_of_ble_eq_true rfl)
  rw [lg_entry_eq]
  generalize (lg_sl ([.ref s0, .int (nI 5), .int (nI u)]) ++ List.replicate (3 - (lg_sl ([.ref s0, .int (nI 5), .int (nI u)])).length) Slot.unset).toArray = ls at hl ⊢
  have hl : lv_has ls 3 [(0, .ref s0), (1, .int (nI 5)), (2, .int (nI u))] := hl
  refine lv_aload_n hx hb dX2_runOldestJob_0 rfl (lv_at hl 0 rfl) ?_
  refine va_get (D := (dC, dI)) (ci := 2) (v := .ref (z 3)) (C := RX2) (T := TX2) (N := 15) hx hb hts hin2 hown hK hP 0 rfl rfl 3 (by decide) f_25 (fun _ h9 => h9) rfl dX2_runOldestJob_1 ?_
  refine lv_iload_n hx hb dX2_runOldestJob_4 rfl (lv_at hl 1 rfl) ?_
  refine lv_dup2_11 hx hb dX2_runOldestJob_5 rfl rfl ?_
  refine wI_alv (v := Q 3 5) hx hb hK hP 11 0 rfl rfl 5 rfl (by omega) (by decide) rfl dX2_runOldestJob_6 ?_
  refine lv_iconst (v := 1) hx hb dX2_runOldestJob_7 (by decide) ?_
  refine lv_iadd hx hb dX2_runOldestJob_8 ?_
  refine wI_ast hx hb hK hP hD hS 11 0 rfl rfl 5 rfl (by omega) (by decide) dX2_runOldestJob_9 (fun H locs hP hD hS => ?_)
  have hP : va_P (dC, dI) vwCl (wSim s0 z M ++ (wCfg cy (z 0) bq G (nI n) sc ++ (wArr cy z rt (up2 Q 3 5 ((Q 3 5) + 1)) T))) H := hP
  have hD : va_D A (wSim s0 z M ++ (wCfg cy (z 0) bq G (nI n) sc ++ (wArr cy z rt (up2 Q 3 5 ((Q 3 5) + 1)) T))) := hD
  refine lv_aload_n hx hb dX2_runOldestJob_10 rfl (lv_at hl 0 rfl) ?_
  refine va_get (D := (dC, dI)) (ci := 2) (v := .ref (z 3)) (C := RX2) (T := TX2) (N := 15) hx hb hts hin2 hown hK hP 0 rfl rfl 3 (by decide) f_25 (fun _ h9 => h9) rfl dX2_runOldestJob_11 ?_
  refine lv_iload_n hx hb dX2_runOldestJob_14 rfl (lv_at hl 1 rfl) ?_
  refine wI_alv (v := ((Q 3 5) + 1)) hx hb hK hP 11 0 rfl rfl 5 rfl (by omega) (by decide) up2_at dX2_runOldestJob_15 ?_
  refine lv_aload_n hx hb dX2_runOldestJob_16 rfl (lv_at hl 0 rfl) ?_
  refine va_get (D := (dC, dI)) (ci := 2) (v := .ref (z 4)) (C := RX2) (T := TX2) (N := 15) hx hb hts hin2 hown hK hP 0 rfl rfl 4 (by decide) f_30 (fun _ h9 => h9) rfl dX2_runOldestJob_17 ?_
  refine lv_iload_n hx hb dX2_runOldestJob_20 rfl (lv_at hl 1 rfl) ?_
  refine wB_ald (q := (rt 5)) hx hb hK hP 12 2 rfl rfl 5 rfl (by omega) (by decide) rfl dX2_runOldestJob_21 ?_
  refine lv_aload_n hx hb dX2_runOldestJob_22 rfl (lv_at hl 0 rfl) ?_
  refine va_get (D := (dC, dI)) (ci := 2) (v := .ref (z 2)) (C := RX2) (T := TX2) (N := 15) hx hb hts hin2 hown hK hP 0 rfl rfl 2 (by decide) f_22 (fun _ h9 => h9) rfl dX2_runOldestJob_23 ?_
  refine lv_iload_n hx hb dX2_runOldestJob_26 rfl (lv_at hl 1 rfl) ?_
  refine wI_alv (v := Q 2 5) hx hb hK hP 10 0 rfl rfl 5 rfl (by omega) (by decide) rfl dX2_runOldestJob_27 ?_
  refine wI_alv (v := T 5 o) hx hb hK hP 19 0 rfl rfl o ho (by omega) (by decide) rfl dX2_runOldestJob_28 ?_
  refine lv_icmp_ne (tgt := 43) hx hb dX2_runOldestJob_29 (by decide) (fun c_29 => ?_) (fun c_29 => ?_)
  · refine lv_aload_n hx hb dX2_runOldestJob_43 rfl (lv_at hl 0 rfl) ?_
    refine va_get (D := (dC, dI)) (ci := 2) (v := .int (M 6)) (C := RX2) (T := TX2) (N := 15) hx hb hts hin2 hown hK hP 0 rfl rfl 6 (by decide) f_63 (fun _ h9 => h9) rfl dX2_runOldestJob_44 ?_
    refine lv_if_ne (tgt := 98) hx hb dX2_runOldestJob_47 (by decide) (fun c_47 => ?_) (fun c_47 => ?_)
    · have hP9 : va_P (dC, dI) vwCl (wSim s0 z M ++ (wCfg cy (z 0) bq G (nI n) sc ++ (wArr cy z rt (up2 Q 3 5 ((Q 3 5) + 1)) T))) H := hP
      have hD9 : va_D A (wSim s0 z M ++ (wCfg cy (z 0) bq G (nI n) sc ++ (wArr cy z rt (up2 Q 3 5 ((Q 3 5) + 1)) T))) := hD
      exact W.vret hx hb hr (fun t ht hW => ⟨⟨(M, up2 Q 3 5 ((Q 3 5) + 1), T), rfl, (by have e9 : T 5 (Q 2 5).toNatClampNeg = T 5 o := (by rw [ho, nI_clamp (by omega)]); simp only [runO]; rw [e9, if_neg c_29, if_neg (fun h => c_47 h.1)]), by rw [ht]; exact hP9, hD9⟩, hS.F ht⟩) hS.2.2 dX2_runOldestJob_98
    · refine lv_aload_n hx hb dX2_runOldestJob_50 rfl (lv_at hl 0 rfl) ?_
      refine va_get (D := (dC, dI)) (ci := 2) (v := .ref (z 0)) (C := RX2) (T := TX2) (N := 15) hx hb hts hin2 hown hK hP 0 rfl rfl 0 (by decide) f_12 (fun _ h9 => h9) rfl dX2_runOldestJob_51 ?_
      refine lv_iload_n hx hb dX2_runOldestJob_54 rfl (lv_at hl 1 rfl) ?_
      refine vp_callSi (va_runV (As := [.int (nI 5)]) (rest := []) ⟨hx, hb, hml, hown, hts⟩ (c_X0_hasHighBudget l dC dI cy (z 0) bq G (nI n) sc  5 (by omega)) (cwV 1 hts gX2_runOldestJob_X0_hasHighBudget rfl rfl rfl (by decide +kernel) ⟨Nat.le_of_ble_eq_true rfl, Nat.le_of_ble_eq_true rfl⟩) ⟨bl_ro, va_recv hK (hP.sub (ws' := wCfg cy (z 0) bq G (nI n) sc) [1, 2, 3, 4, 5, 6, 7, 8] rfl) (ci := 0) (q0 := 0) rfl rfl, pr_ro (hP.sub (ws' := wCfg cy (z 0) bq G (nI n) sc) [1, 2, 3, 4, 5, 6, 7, 8] rfl) hE⟩ rfl rfl hl.1 rfl (lv_room (Nat.le_of_ble_eq_true rfl)) dX2_runOldestJob_55 ⟨Nat.le_of_ble_eq_true rfl, Nat.le_of_ble_eq_true rfl⟩).run (fun r e_r => ?_)
      subst e_r
      refine lv_if_eq (tgt := 98) hx hb dX2_runOldestJob_58 (by decide) (fun c_58 => ?_) (fun c_58 => ?_)
      · have hP9 : va_P (dC, dI) vwCl (wSim s0 z M ++ (wCfg cy (z 0) bq G (nI n) sc ++ (wArr cy z rt (up2 Q 3 5 ((Q 3 5) + 1)) T))) H := hP
        have hD9 : va_D A (wSim s0 z M ++ (wCfg cy (z 0) bq G (nI n) sc ++ (wArr cy z rt (up2 Q 3 5 ((Q 3 5) + 1)) T))) := hD
        exact W.vret hx hb hr (fun t ht hW => ⟨⟨(M, up2 Q 3 5 ((Q 3 5) + 1), T), rfl, (by have e9 : T 5 (Q 2 5).toNatClampNeg = T 5 o := (by rw [ho, nI_clamp (by omega)]); simp only [runO]; rw [e9, if_neg c_29, if_neg (fun h => h.2.1 (b01.mp c_58))]), by rw [ht]; exact hP9, hD9⟩, hS.F ht⟩) hS.2.2 dX2_runOldestJob_98
      · refine lv_aload_n hx hb dX2_runOldestJob_61 rfl (lv_at hl 0 rfl) ?_
        refine va_get (D := (dC, dI)) (ci := 2) (v := .ref (z 3)) (C := RX2) (T := TX2) (N := 15) hx hb hts hin2 hown hK hP 0 rfl rfl 3 (by decide) f_25 (fun _ h9 => h9) rfl dX2_runOldestJob_62 ?_
        refine lv_iload_n hx hb dX2_runOldestJob_65 rfl (lv_at hl 1 rfl) ?_
        refine wI_alv (v := ((Q 3 5) + 1)) hx hb hK hP 11 0 rfl rfl 5 rfl (by omega) (by decide) up2_at dX2_runOldestJob_66 ?_
        refine lv_aload_n hx hb dX2_runOldestJob_67 rfl (lv_at hl 0 rfl) ?_
        refine va_get (D := (dC, dI)) (ci := 2) (v := .ref (z 0)) (C := RX2) (T := TX2) (N := 15) hx hb hts hin2 hown hK hP 0 rfl rfl 0 (by decide) f_12 (fun _ h9 => h9) rfl dX2_runOldestJob_68 ?_
        refine va_getN (D := (dC, dI)) (ci := 0) (v := .ref (bq 2)) (C := RX0) (T := TX0) (N := 9) hx hb hts hin0 hown hK hP 1 rfl rfl 2 (by decide) f_113 (fun _ h9 => h9) rfl dX2_runOldestJob_71 ?_
        refine lv_iload_n hx hb dX2_runOldestJob_74 rfl (lv_at hl 1 rfl) ?_
        refine wI_alv (v := G 2 5) hx hb hK hP 4 0 rfl rfl 5 rfl (by omega) (by decide) rfl dX2_runOldestJob_75 ?_
        refine lv_icmp_ne (tgt := 98) hx hb dX2_runOldestJob_76 (by decide) (fun c_76 => ?_) (fun c_76 => ?_)
        · have hP9 : va_P (dC, dI) vwCl (wSim s0 z M ++ (wCfg cy (z 0) bq G (nI n) sc ++ (wArr cy z rt (up2 Q 3 5 ((Q 3 5) + 1)) T))) H := hP
          have hD9 : va_D A (wSim s0 z M ++ (wCfg cy (z 0) bq G (nI n) sc ++ (wArr cy z rt (up2 Q 3 5 ((Q 3 5) + 1)) T))) := hD
          exact W.vret hx hb hr (fun t ht hW => ⟨⟨(M, up2 Q 3 5 ((Q 3 5) + 1), T), rfl, (by have e9 : T 5 (Q 2 5).toNatClampNeg = T 5 o := (by rw [ho, nI_clamp (by omega)]); simp only [runO]; rw [e9, if_neg c_29, if_neg (fun h => c_76 h.2.2)]), by rw [ht]; exact hP9, hD9⟩, hS.F ht⟩) hS.2.2 dX2_runOldestJob_98
        · refine lv_aload_n hx hb dX2_runOldestJob_79 rfl (lv_at hl 0 rfl) ?_
          refine lv_iconst (v := 1) hx hb dX2_runOldestJob_80 (by decide) ?_
          refine va_put (D := (dC, dI)) (ci := 2) (v := .int 1) (ty := .int) (C := RX2) (T := TX2) (N := 15) hx hb hts hin2 tyX2 tyX2_ok nmX2 hown hK hP hD hS 0 rfl rfl 6 (by decide) f_63 (fun _ h9 => h9) rfl (by decide +kernel) rfl rfl (Nat.le_of_ble_eq_true rfl) dX2_runOldestJob_81 (fun H locs hP hD hS => ?_)
          have hP : va_P (dC, dI) vwCl (wSim s0 z (upd M 6 1) ++ (wCfg cy (z 0) bq G (nI n) sc ++ (wArr cy z rt (up2 Q 3 5 ((Q 3 5) + 1)) T))) H := hP
          have hD : va_D A (wSim s0 z (upd M 6 1) ++ (wCfg cy (z 0) bq G (nI n) sc ++ (wArr cy z rt (up2 Q 3 5 ((Q 3 5) + 1)) T))) := hD
          refine lv_aload_n hx hb dX2_runOldestJob_84 rfl (lv_at hl 0 rfl) ?_
          refine lv_dup hx hb dX2_runOldestJob_85 rfl ?_
          refine va_get (D := (dC, dI)) (ci := 2) (v := .int (M 13)) (C := RX2) (T := TX2) (N := 15) hx hb hts hin2 hown hK hP 0 rfl rfl 13 (by decide) f_89 (fun _ h9 => h9) rfl dX2_runOldestJob_86 ?_
          refine lv_iconst (v := 1) hx hb dX2_runOldestJob_89 (by decide) ?_
          refine lv_iadd hx hb dX2_runOldestJob_90 ?_
          refine va_put (D := (dC, dI)) (ci := 2) (v := .int ((M 13) + 1)) (ty := .int) (C := RX2) (T := TX2) (N := 15) hx hb hts hin2 tyX2 tyX2_ok nmX2 hown hK hP hD hS 0 rfl rfl 13 (by decide) f_89 (fun _ h9 => h9) rfl (by decide +kernel) rfl rfl (Nat.le_of_ble_eq_true rfl) dX2_runOldestJob_91 (fun H locs hP hD hS => ?_)
          have hP : va_P (dC, dI) vwCl (wSim s0 z (upd (upd M 6 1) 13 ((M 13) + 1)) ++ (wCfg cy (z 0) bq G (nI n) sc ++ (wArr cy z rt (up2 Q 3 5 ((Q 3 5) + 1)) T))) H := hP
          have hD : va_D A (wSim s0 z (upd (upd M 6 1) 13 ((M 13) + 1)) ++ (wCfg cy (z 0) bq G (nI n) sc ++ (wArr cy z rt (up2 Q 3 5 ((Q 3 5) + 1)) T))) := hD
          refine lv_aload_n hx hb dX2_runOldestJob_94 rfl (lv_at hl 0 rfl) ?_
          have hPc := hP.sub (ws' := wSim s0 z (upd (upd M 6 1) 13 ((M 13) + 1)) ++ (wCfg cy (z 0) bq G (nI n) sc ++ (wArr cy z rt (up2 Q 3 5 ((Q 3 5) + 1)) T))) [0, 1, 2, 3, 4, 5, 6, 7, 8, 9, 10, 11, 12, 13, 14, 15, 16, 17, 18, 19, 20, 21] rfl
          have hDc := hD.sub (ws' := wSim s0 z (upd (upd M 6 1) 13 ((M 13) + 1)) ++ (wCfg cy (z 0) bq G (nI n) sc ++ (wArr cy z rt (up2 Q 3 5 ((Q 3 5) + 1)) T))) [0, 1, 2, 3, 4, 5, 6, 7, 8, 9, 10, 11, 12, 13, 14, 15, 16, 17, 18, 19, 20, 21] (by decide) rfl
          have hFc := va_free (wc := wSim s0 z (upd (upd M 6 1) 13 ((M 13) + 1)) ++ (wCfg cy (z 0) bq G (nI n) sc ++ (wArr cy z rt (up2 Q 3 5 ((Q 3 5) + 1)) T))) hD hS hA [0, 1, 2, 3, 4, 5, 6, 7, 8, 9, 10, 11, 12, 13, 14, 15, 16, 17, 18, 19, 20, 21] rfl
          refine va_callv (va_runV (As := []) (rest := []) ⟨hx, hb, hml, hown, hts⟩ (c_X2_dropPendingJobs l dC dI cy H.size s0 z (upd (upd M 6 1) 13 ((M 13) + 1)) bq G n hn sc (up2 Q 3 5 ((Q 3 5) + 1)) rt T) (cwV 0 hts gX2_runOldestJob_X2_dropPendingJobs rfl rfl rfl (by decide +kernel) ⟨Nat.le_of_ble_eq_true rfl, Nat.le_of_ble_eq_true rfl⟩) ⟨bl_in, va_recv hK hPc (ci := 2) (q0 := 0) rfl rfl, pr_in hPc hE hDc⟩ rfl rfl hl.1 rfl (lv_room (Nat.le_of_ble_eq_true rfl)) dX2_runOldestJob_95 ⟨Nat.le_of_ble_eq_true rfl, Nat.le_of_ble_eq_true rfl⟩) hS (fun q _ h => hFc q h) hFc (fun u t H1 locs ht hvm hw hB hz1 hk1 hS => ?_)
          obtain ⟨M_95, Q_95, T_95⟩ := u
          have e_95 : (M_95, Q_95, T_95) = _ := hw
          obtain ⟨hP1, hD1⟩ := hB
          rw [ht] at hP1
          obtain ⟨hP, hD⟩ := va_join (wr := []) (w1 := wSim s0 z M_95 ++ (wCfg cy (z 0) bq G (nI n) sc ++ (wArr cy z rt Q_95 T_95))) hP hD [0, 1, 2, 3, 4, 5, 6, 7, 8, 9, 10, 11, 12, 13, 14, 15, 16, 17, 18, 19, 20, 21] [] rfl rfl (by decide) (by decide) hk1 hFc hP1 hD1
          have hP : va_P (dC, dI) vwCl (wSim s0 z M_95 ++ (wCfg cy (z 0) bq G (nI n) sc ++ (wArr cy z rt Q_95 T_95))) H1 := hP.sub [0, 1, 2, 3, 4, 5, 6, 7, 8, 9, 10, 11, 12, 13, 14, 15, 16, 17, 18, 19, 20, 21] rfl
          have hD : va_D A (wSim s0 z M_95 ++ (wCfg cy (z 0) bq G (nI n) sc ++ (wArr cy z rt Q_95 T_95))) := hD.sub [0, 1, 2, 3, 4, 5, 6, 7, 8, 9, 10, 11, 12, 13, 14, 15, 16, 17, 18, 19, 20, 21] (by decide) rfl
          clear hz1 hk1 hPc hDc hFc hP1 hD1
          generalize H1 = H at hP hS ⊢
          have hP9 : va_P (dC, dI) vwCl (wSim s0 z M_95 ++ (wCfg cy (z 0) bq G (nI n) sc ++ (wArr cy z rt Q_95 T_95))) H := hP
          have hD9 : va_D A (wSim s0 z M_95 ++ (wCfg cy (z 0) bq G (nI n) sc ++ (wArr cy z rt Q_95 T_95))) := hD
          exact W.vret hx hb hr (fun t ht hW => ⟨⟨(M_95, Q_95, T_95), rfl, (by have e9 : T 5 (Q 2 5).toNatClampNeg = T 5 o := (by rw [ho, nI_clamp (by omega)]); simp only [runO]; rw [e9, if_neg c_29, if_pos ⟨c_47, fun h => c_58 (b01.mpr h), c_76⟩]; exact e_95), by rw [ht]; exact hP9, hD9⟩, hS.F ht⟩) hS.2.2 dX2_runOldestJob_98
  · refine lv_aload_n hx hb dX2_runOldestJob_32 rfl (lv_at hl 0 rfl) ?_
    refine lv_iload_n hx hb dX2_runOldestJob_33 rfl (lv_at hl 1 rfl) ?_
    refine lv_iload_n hx hb dX2_runOldestJob_34 rfl (lv_at hl 2 rfl) ?_
    refine lv_iconst (v := 1) hx hb dX2_runOldestJob_35 (by decide) ?_
    refine lv_iadd hx hb dX2_runOldestJob_36 ?_
    have hPc := hP.sub (ws' := wSim s0 z M ++ (wCfg cy (z 0) bq G (nI n) sc ++ (wArr cy z rt (up2 Q 3 5 ((Q 3 5) + 1)) T))) [0, 1, 2, 3, 4, 5, 6, 7, 8, 9, 10, 11, 12, 13, 14, 15, 16, 17, 18, 19, 20, 21] rfl
    have hDc := hD.sub (ws' := wSim s0 z M ++ (wCfg cy (z 0) bq G (nI n) sc ++ (wArr cy z rt (up2 Q 3 5 ((Q 3 5) + 1)) T))) [0, 1, 2, 3, 4, 5, 6, 7, 8, 9, 10, 11, 12, 13, 14, 15, 16, 17, 18, 19, 20, 21] (by decide) rfl
    have hFc := va_free (wc := wSim s0 z M ++ (wCfg cy (z 0) bq G (nI n) sc ++ (wArr cy z rt (up2 Q 3 5 ((Q 3 5) + 1)) T))) hD hS hA [0, 1, 2, 3, 4, 5, 6, 7, 8, 9, 10, 11, 12, 13, 14, 15, 16, 17, 18, 19, 20, 21] rfl
    refine va_callv (va_runV (As := [.int (nI 5), .int ((nI u) + 1)]) (rest := []) ⟨hx, hb, hml, hown, hts⟩ (c_X2_completeOldestJob l dC dI cy H.size s0 z M bq G n hn sc (up2 Q 3 5 ((Q 3 5) + 1)) rt T 5 (by omega) ((nI u) + 1)) (cwV 2 hts gX2_runOldestJob_X2_completeOldestJob rfl rfl rfl (by decide +kernel) ⟨Nat.le_of_ble_eq_true rfl, Nat.le_of_ble_eq_true rfl⟩) ⟨bl_in, va_recv hK hPc (ci := 2) (q0 := 0) rfl rfl, pr_in hPc hE hDc⟩ rfl rfl hl.1 rfl (lv_room (Nat.le_of_ble_eq_true rfl)) dX2_runOldestJob_37 ⟨Nat.le_of_ble_eq_true rfl, Nat.le_of_ble_eq_true rfl⟩) hS (fun q _ h => hFc q h) hFc (fun u t H1 locs ht hvm hw hB hz1 hk1 hS => ?_)
    obtain ⟨M_37, Q_37, T_37⟩ := u
    have e_37 : (M_37, Q_37, T_37) = _ := hw
    obtain ⟨hP1, hD1⟩ := hB
    rw [ht] at hP1
    obtain ⟨hP, hD⟩ := va_join (wr := []) (w1 := wSim s0 z M_37 ++ (wCfg cy (z 0) bq G (nI n) sc ++ (wArr cy z rt Q_37 T_37))) hP hD [0, 1, 2, 3, 4, 5, 6, 7, 8, 9, 10, 11, 12, 13, 14, 15, 16, 17, 18, 19, 20, 21] [] rfl rfl (by decide) (by decide) hk1 hFc hP1 hD1
    have hP : va_P (dC, dI) vwCl (wSim s0 z M_37 ++ (wCfg cy (z 0) bq G (nI n) sc ++ (wArr cy z rt Q_37 T_37))) H1 := hP.sub [0, 1, 2, 3, 4, 5, 6, 7, 8, 9, 10, 11, 12, 13, 14, 15, 16, 17, 18, 19, 20, 21] rfl
    have hD : va_D A (wSim s0 z M_37 ++ (wCfg cy (z 0) bq G (nI n) sc ++ (wArr cy z rt Q_37 T_37))) := hD.sub [0, 1, 2, 3, 4, 5, 6, 7, 8, 9, 10, 11, 12, 13, 14, 15, 16, 17, 18, 19, 20, 21] (by decide) rfl
    clear hz1 hk1 hPc hDc hFc hP1 hD1
    generalize H1 = H at hP hS ⊢
    refine lv_goto (tgt := 98) hx hb dX2_runOldestJob_40 (by decide) ?_
    have hP9 : va_P (dC, dI) vwCl (wSim s0 z M_37 ++ (wCfg cy (z 0) bq G (nI n) sc ++ (wArr cy z rt Q_37 T_37))) H := hP
    have hD9 : va_D A (wSim s0 z M_37 ++ (wCfg cy (z 0) bq G (nI n) sc ++ (wArr cy z rt Q_37 T_37))) := hD
    exact W.vret hx hb hr (fun t ht hW => ⟨⟨(M_37, Q_37, T_37), rfl, (by have e9 : T 5 (Q 2 5).toNatClampNeg = T 5 o := (by rw [ho, nI_clamp (by omega)]); simp only [runO]; rw [e9, if_pos c_29]; exact e_37), by rw [ht]; exact hP9, hD9⟩, hS.F ht⟩) hS.2.2 dX2_runOldestJob_98
set_option maxHeartbeats 1000000 in
set_option maxRecDepth 100000 in
/-- the oldest job of task 6 runs -/
theorem c_X2_runOldestJob_6 (l : Launch) (dC : Nat → ClassId) (dI : Nat → Nat → Nat) (cy : Nat → ClassId) (sz : Nat) (s0 : Nat) (z : Nat → Nat) (M : Nat → Int32) (bq : Nat → Nat) (G : vG) (n : Nat) (hn : n ≤ 8) (sc : Int32) (Q : vG) (rt : Nat → Nat) (T : vG) (u : Nat) (hu : u < 200) (o : Nat) (ho8 : o < 200) (ho : Q 2 6 = nI o) : Met l yX2_runOldestJob wsX2_runOldestJob ({ frames := 2, cells := 0, slots := 0, locals := 45 }) (va_Pc [.ref s0, .int (nI 6), .int (nI u)] (pIn dC dI cy (wSim s0 z M ++ (wCfg cy (z 0) bq G (nI n) sc ++ (wArr cy z rt Q T))) sz)) (va_Qv (fun (u9 : SSt) => u9 = runO G n 6 u (M, Q, T)) (fun (u : SSt) t => va_P (dC, dI) vwCl (wSim s0 z u.1 ++ (wCfg cy (z 0) bq G (nI n) sc ++ (wArr cy z rt u.2.1 u.2.2))) t.heap ∧ va_D (va_A (wSim s0 z M ++ (wCfg cy (z 0) bq G (nI n) sc ++ (wArr cy z rt Q T))) sz) (wSim s0 z u.1 ++ (wCfg cy (z 0) bq G (nI n) sc ++ (wArr cy z rt u.2.1 u.2.2)))) (va_A (wSim s0 z M ++ (wCfg cy (z 0) bq G (nI n) sc ++ (wArr cy z rt Q T))) sz)) 0 0 (va_A (wSim s0 z M ++ (wCfg cy (z 0) bq G (nI n) sc ++ (wArr cy z rt Q T))) sz) := by
  refine Met.ofW (cc := cX2_runOldestJob) (maxL := 3) (ret := none) (by decide) rfl ?_
  intro p e s m args below meth c s₁ B hml hv
  obtain ⟨rfl, hsz, hP, hE, hD0⟩ := hv
  have hK := hE.1
  subst hsz
  have hD := hD0.self (sz := s.heap.size)
  generalize hAe : va_A (wSim s0 z M ++ (wCfg cy (z 0) bq G (nI n) sc ++ (wArr cy z rt Q T))) s.heap.size = A at hD ⊢
  have hA : ∀ q : Nat, s.heap.size ≤ q → A q := fun q h => by rw [← hAe]; exact Or.inr h
  have hS : va_S A s.heap s.heap [] := va_S.rf
  have hP : va_P (dC, dI) vwCl (wSim s0 z M ++ (wCfg cy (z 0) bq G (nI n) sc ++ (wArr cy z rt Q T))) s.heap := hP
  have hx := B.exec
  have hb := B.bytes
  have hr := B.returns
  have hts := atoms_spec (ws := wsX2_runOldestJob) B.pre
  have hown : s.vm.findClass RX2 = some m.cls := findClass_of_methodNamed B.named
  have hlocks := B.notSynchronized
  have hin0 : ∀ w ∈ u_ws RX0 TX0 9, w ∈ wsX2_runOldestJob := by decide +kernel
  have hin2 : ∀ w ∈ u_ws RX2 TX2 15, w ∈ wsX2_runOldestJob := by decide +kernel
  have f_113 := va_Nw.use (A := ([.ref s0, .int (nI 6), .int (nI u)].toArray)) rfl (hE.f 2 rfl)
  have f_12 := hts (.fieldLink RX2 12 "DeadlineAdmission$Simulation" "tasks" "LDeadlineAdmission$Configuration;") (by decide +kernel)
  have f_22 := hts (.fieldLink RX2 22 "DeadlineAdmission$Simulation" "oldestRelease" "[I") (by decide +kernel)
  have f_25 := hts (.fieldLink RX2 25 "DeadlineAdmission$Simulation" "oldestHasRun" "[I") (by decide +kernel)
  have f_30 := hts (.fieldLink RX2 30 "DeadlineAdmission$Simulation" "runningTime" "[[I") (by decide +kernel)
  have f_63 := hts (.fieldLink RX2 63 "DeadlineAdmission$Simulation" "mode" "I") (by decide +kernel)
  have f_89 := hts (.fieldLink RX2 89 "DeadlineAdmission$Simulation" "highSwitches" "I") (by decide +kernel)
  have hl := lv_entry ([.ref s0, .int (nI 6), .int (nI u)]) (n := 3) (Nat.le_of_ble_eq_true rfl)
  rw [lg_entry_eq]
  generalize (lg_sl ([.ref s0, .int (nI 6), .int (nI u)]) ++ List.replicate (3 - (lg_sl ([.ref s0, .int (nI 6), .int (nI u)])).length) Slot.unset).toArray = ls at hl ⊢
  have hl : lv_has ls 3 [(0, .ref s0), (1, .int (nI 6)), (2, .int (nI u))] := hl
  refine lv_aload_n hx hb dX2_runOldestJob_0 rfl (lv_at hl 0 rfl) ?_
  refine va_get (D := (dC, dI)) (ci := 2) (v := .ref (z 3)) (C := RX2) (T := TX2) (N := 15) hx hb hts hin2 hown hK hP 0 rfl rfl 3 (by decide) f_25 (fun _ h9 => h9) rfl dX2_runOldestJob_1 ?_
  refine lv_iload_n hx hb dX2_runOldestJob_4 rfl (lv_at hl 1 rfl) ?_
  refine lv_dup2_11 hx hb dX2_runOldestJob_5 rfl rfl ?_
  refine wI_alv (v := Q 3 6) hx hb hK hP 11 0 rfl rfl 6 rfl (by omega) (by decide) rfl dX2_runOldestJob_6 ?_
  refine lv_iconst (v := 1) hx hb dX2_runOldestJob_7 (by decide) ?_
  refine lv_iadd hx hb dX2_runOldestJob_8 ?_
  refine wI_ast hx hb hK hP hD hS 11 0 rfl rfl 6 rfl (by omega) (by decide) dX2_runOldestJob_9 (fun H locs hP hD hS => ?_)
  have hP : va_P (dC, dI) vwCl (wSim s0 z M ++ (wCfg cy (z 0) bq G (nI n) sc ++ (wArr cy z rt (up2 Q 3 6 ((Q 3 6) + 1)) T))) H := hP
  have hD : va_D A (wSim s0 z M ++ (wCfg cy (z 0) bq G (nI n) sc ++ (wArr cy z rt (up2 Q 3 6 ((Q 3 6) + 1)) T))) := hD
  refine lv_aload_n hx hb dX2_runOldestJob_10 rfl (lv_at hl 0 rfl) ?_
  refine va_get (D := (dC, dI)) (ci := 2) (v := .ref (z 3)) (C := RX2) (T := TX2) (N := 15) hx hb hts hin2 hown hK hP 0 rfl rfl 3 (by decide) f_25 (fun _ h9 => h9) rfl dX2_runOldestJob_11 ?_
  refine lv_iload_n hx hb dX2_runOldestJob_14 rfl (lv_at hl 1 rfl) ?_
  refine wI_alv (v := ((Q 3 6) + 1)) hx hb hK hP 11 0 rfl rfl 6 rfl (by omega) (by decide) up2_at dX2_runOldestJob_15 ?_
  refine lv_aload_n hx hb dX2_runOldestJob_16 rfl (lv_at hl 0 rfl) ?_
  refine va_get (D := (dC, dI)) (ci := 2) (v := .ref (z 4)) (C := RX2) (T := TX2) (N := 15) hx hb hts hin2 hown hK hP 0 rfl rfl 4 (by decide) f_30 (fun _ h9 => h9) rfl dX2_runOldestJob_17 ?_
  refine lv_iload_n hx hb dX2_runOldestJob_20 rfl (lv_at hl 1 rfl) ?_
  refine wB_ald (q := (rt 6)) hx hb hK hP 12 2 rfl rfl 6 rfl (by omega) (by decide) rfl dX2_runOldestJob_21 ?_
  refine lv_aload_n hx hb dX2_runOldestJob_22 rfl (lv_at hl 0 rfl) ?_
  refine va_get (D := (dC, dI)) (ci := 2) (v := .ref (z 2)) (C := RX2) (T := TX2) (N := 15) hx hb hts hin2 hown hK hP 0 rfl rfl 2 (by decide) f_22 (fun _ h9 => h9) rfl dX2_runOldestJob_23 ?_
  refine lv_iload_n hx hb dX2_runOldestJob_26 rfl (lv_at hl 1 rfl) ?_
  refine wI_alv (v := Q 2 6) hx hb hK hP 10 0 rfl rfl 6 rfl (by omega) (by decide) rfl dX2_runOldestJob_27 ?_
  refine wI_alv (v := T 6 o) hx hb hK hP 20 0 rfl rfl o ho (by omega) (by decide) rfl dX2_runOldestJob_28 ?_
  refine lv_icmp_ne (tgt := 43) hx hb dX2_runOldestJob_29 (by decide) (fun c_29 => ?_) (fun c_29 => ?_)
  · refine lv_aload_n hx hb dX2_runOldestJob_43 rfl (lv_at hl 0 rfl) ?_
    refine va_get (D := (dC, dI)) (ci := 2) (v := .int (M 6)) (C := RX2) (T := TX2) (N := 15) hx hb hts hin2 hown hK hP 0 rfl rfl 6 (by decide) f_63 (fun _ h9 => h9) rfl dX2_runOldestJob_44 ?_
    refine lv_if_ne (tgt := 98) hx hb dX2_runOldestJob_47 (by decide) (fun c_47 => ?_) (fun c_47 => ?_)
    · have hP9 : va_P (dC, dI) vwCl (wSim s0 z M ++ (wCfg cy (z 0) bq G (nI n) sc ++ (wArr cy z rt (up2 Q 3 6 ((Q 3 6) + 1)) T))) H := hP
      have hD9 : va_D A (wSim s0 z M ++ (wCfg cy (z 0) bq G (nI n) sc ++ (wArr cy z rt (up2 Q 3 6 ((Q 3 6) + 1)) T))) := hD
      exact W.vret hx hb hr (fun t ht hW => ⟨⟨(M, up2 Q 3 6 ((Q 3 6) + 1), T), rfl, (by have e9 : T 6 (Q 2 6).toNatClampNeg = T 6 o := (by rw [ho, nI_clamp (by omega)]); simp only [runO]; rw [e9, if_neg c_29, if_neg (fun h => c_47 h.1)]), by rw [ht]; exact hP9, hD9⟩, hS.F ht⟩) hS.2.2 dX2_runOldestJob_98
    · refine lv_aload_n hx hb dX2_runOldestJob_50 rfl (lv_at hl 0 rfl) ?_
      refine va_get (D := (dC, dI)) (ci := 2) (v := .ref (z 0)) (C := RX2) (T := TX2) (N := 15) hx hb hts hin2 hown hK hP 0 rfl rfl 0 (by decide) f_12 (fun _ h9 => h9) rfl dX2_runOldestJob_51 ?_
      refine lv_iload_n hx hb dX2_runOldestJob_54 rfl (lv_at hl 1 rfl) ?_
      refine vp_callSi (va_runV (As := [.int (nI 6)]) (rest := []) ⟨hx, hb, hml, hown, hts⟩ (c_X0_hasHighBudget l dC dI cy (z 0) bq G (nI n) sc  6 (by omega)) (cwV 1 hts gX2_runOldestJob_X0_hasHighBudget rfl rfl rfl (by decide +kernel) ⟨Nat.le_of_ble_eq_true rfl, Nat.le_of_ble_eq_true rfl⟩) ⟨bl_ro, va_recv hK (hP.sub (ws' := wCfg cy (z 0) bq G (nI n) sc) [1, 2, 3, 4, 5, 6, 7, 8] rfl) (ci := 0) (q0 := 0) rfl rfl, pr_ro (hP.sub (ws' := wCfg cy (z 0) bq G (nI n) sc) [1, 2, 3, 4, 5, 6, 7, 8] rfl) hE⟩ rfl rfl hl.1 rfl (lv_room (Nat.le_of_ble_eq_true rfl)) dX2_runOldestJob_55 ⟨Nat.le_of_ble_eq_true rfl, Nat.le_of_ble_eq_true rfl⟩).run (fun r e_r => ?_)
      subst e_r
      refine lv_if_eq (tgt := 98) hx hb dX2_runOldestJob_58 (by decide) (fun c_58 => ?_) (fun c_58 => ?_)
      · have hP9 : va_P (dC, dI) vwCl (wSim s0 z M ++ (wCfg cy (z 0) bq G (nI n) sc ++ (wArr cy z rt (up2 Q 3 6 ((Q 3 6) + 1)) T))) H := hP
        have hD9 : va_D A (wSim s0 z M ++ (wCfg cy (z 0) bq G (nI n) sc ++ (wArr cy z rt (up2 Q 3 6 ((Q 3 6) + 1)) T))) := hD
        exact W.vret hx hb hr (fun t ht hW => ⟨⟨(M, up2 Q 3 6 ((Q 3 6) + 1), T), rfl, (by have e9 : T 6 (Q 2 6).toNatClampNeg = T 6 o := (by rw [ho, nI_clamp (by omega)]); simp only [runO]; rw [e9, if_neg c_29, if_neg (fun h => h.2.1 (b01.mp c_58))]), by rw [ht]; exact hP9, hD9⟩, hS.F ht⟩) hS.2.2 dX2_runOldestJob_98
      · refine lv_aload_n hx hb dX2_runOldestJob_61 rfl (lv_at hl 0 rfl) ?_
        refine va_get (D := (dC, dI)) (ci := 2) (v := .ref (z 3)) (C := RX2) (T := TX2) (N := 15) hx hb hts hin2 hown hK hP 0 rfl rfl 3 (by decide) f_25 (fun _ h9 => h9) rfl dX2_runOldestJob_62 ?_
        refine lv_iload_n hx hb dX2_runOldestJob_65 rfl (lv_at hl 1 rfl) ?_
        refine wI_alv (v := ((Q 3 6) + 1)) hx hb hK hP 11 0 rfl rfl 6 rfl (by omega) (by decide) up2_at dX2_runOldestJob_66 ?_
        refine lv_aload_n hx hb dX2_runOldestJob_67 rfl (lv_at hl 0 rfl) ?_
        refine va_get (D := (dC, dI)) (ci := 2) (v := .ref (z 0)) (C := RX2) (T := TX2) (N := 15) hx hb hts hin2 hown hK hP 0 rfl rfl 0 (by decide) f_12 (fun _ h9 => h9) rfl dX2_runOldestJob_68 ?_
        refine va_getN (D := (dC, dI)) (ci := 0) (v := .ref (bq 2)) (C := RX0) (T := TX0) (N := 9) hx hb hts hin0 hown hK hP 1 rfl rfl 2 (by decide) f_113 (fun _ h9 => h9) rfl dX2_runOldestJob_71 ?_
        refine lv_iload_n hx hb dX2_runOldestJob_74 rfl (lv_at hl 1 rfl) ?_
        refine wI_alv (v := G 2 6) hx hb hK hP 4 0 rfl rfl 6 rfl (by omega) (by decide) rfl dX2_runOldestJob_75 ?_
        refine lv_icmp_ne (tgt := 98) hx hb dX2_runOldestJob_76 (by decide) (fun c_76 => ?_) (fun c_76 => ?_)
        · have hP9 : va_P (dC, dI) vwCl (wSim s0 z M ++ (wCfg cy (z 0) bq G (nI n) sc ++ (wArr cy z rt (up2 Q 3 6 ((Q 3 6) + 1)) T))) H := hP
          have hD9 : va_D A (wSim s0 z M ++ (wCfg cy (z 0) bq G (nI n) sc ++ (wArr cy z rt (up2 Q 3 6 ((Q 3 6) + 1)) T))) := hD
          exact W.vret hx hb hr (fun t ht hW => ⟨⟨(M, up2 Q 3 6 ((Q 3 6) + 1), T), rfl, (by have e9 : T 6 (Q 2 6).toNatClampNeg = T 6 o := (by rw [ho, nI_clamp (by omega)]); simp only [runO]; rw [e9, if_neg c_29, if_neg (fun h => c_76 h.2.2)]), by rw [ht]; exact hP9, hD9⟩, hS.F ht⟩) hS.2.2 dX2_runOldestJob_98
        · refine lv_aload_n hx hb dX2_runOldestJob_79 rfl (lv_at hl 0 rfl) ?_
          refine lv_iconst (v := 1) hx hb dX2_runOldestJob_80 (by decide) ?_
          refine va_put (D := (dC, dI)) (ci := 2) (v := .int 1) (ty := .int) (C := RX2) (T := TX2) (N := 15) hx hb hts hin2 tyX2 tyX2_ok nmX2 hown hK hP hD hS 0 rfl rfl 6 (by decide) f_63 (fun _ h9 => h9) rfl (by decide +kernel) rfl rfl (Nat.le_of_ble_eq_true rfl) dX2_runOldestJob_81 (fun H locs hP hD hS => ?_)
          have hP : va_P (dC, dI) vwCl (wSim s0 z (upd M 6 1) ++ (wCfg cy (z 0) bq G (nI n) sc ++ (wArr cy z rt (up2 Q 3 6 ((Q 3 6) + 1)) T))) H := hP
          have hD : va_D A (wSim s0 z (upd M 6 1) ++ (wCfg cy (z 0) bq G (nI n) sc ++ (wArr cy z rt (up2 Q 3 6 ((Q 3 6) + 1)) T))) := hD
          refine lv_aload_n hx hb dX2_runOldestJob_84 rfl (lv_at hl 0 rfl) ?_
          refine lv_dup hx hb dX2_runOldestJob_85 rfl ?_
          refine va_get (D := (dC, dI)) (ci := 2) (v := .int (M 13)) (C := RX2) (T := TX2) (N := 15) hx hb hts hin2 hown hK hP 0 rfl rfl 13 (by decide) f_89 (fun _ h9 => h9) rfl dX2_runOldestJob_86 ?_
          refine lv_iconst (v := 1) hx hb dX2_runOldestJob_89 (by decide) ?_
          refine lv_iadd hx hb dX2_runOldestJob_90 ?_
          refine va_put (D := (dC, dI)) (ci := 2) (v := .int ((M 13) + 1)) (ty := .int) (C := RX2) (T := TX2) (N := 15) hx hb hts hin2 tyX2 tyX2_ok nmX2 hown hK hP hD hS 0 rfl rfl 13 (by decide) f_89 (fun _ h9 => h9) rfl (by decide +kernel) rfl rfl (Nat.le_of_ble_eq_true rfl) dX2_runOldestJob_91 (fun H locs hP hD hS => ?_)
          have hP : va_P (dC, dI) vwCl (wSim s0 z (upd (upd M 6 1) 13 ((M 13) + 1)) ++ (wCfg cy (z 0) bq G (nI n) sc ++ (wArr cy z rt (up2 Q 3 6 ((Q 3 6) + 1)) T))) H := hP
          have hD : va_D A (wSim s0 z (upd (upd M 6 1) 13 ((M 13) + 1)) ++ (wCfg cy (z 0) bq G (nI n) sc ++ (wArr cy z rt (up2 Q 3 6 ((Q 3 6) + 1)) T))) := hD
          refine lv_aload_n hx hb dX2_runOldestJob_94 rfl (lv_at hl 0 rfl) ?_
          have hPc := hP.sub (ws' := wSim s0 z (upd (upd M 6 1) 13 ((M 13) + 1)) ++ (wCfg cy (z 0) bq G (nI n) sc ++ (wArr cy z rt (up2 Q 3 6 ((Q 3 6) + 1)) T))) [0, 1, 2, 3, 4, 5, 6, 7, 8, 9, 10, 11, 12, 13, 14, 15, 16, 17, 18, 19, 20, 21] rfl
          have hDc := hD.sub (ws' := wSim s0 z (upd (upd M 6 1) 13 ((M 13) + 1)) ++ (wCfg cy (z 0) bq G (nI n) sc ++ (wArr cy z rt (up2 Q 3 6 ((Q 3 6) + 1)) T))) [0, 1, 2, 3, 4, 5, 6, 7, 8, 9, 10, 11, 12, 13, 14, 15, 16, 17, 18, 19, 20, 21] (by decide) rfl
          have hFc := va_free (wc := wSim s0 z (upd (upd M 6 1) 13 ((M 13) + 1)) ++ (wCfg cy (z 0) bq G (nI n) sc ++ (wArr cy z rt (up2 Q 3 6 ((Q 3 6) + 1)) T))) hD hS hA [0, 1, 2, 3, 4, 5, 6, 7, 8, 9, 10, 11, 12, 13, 14, 15, 16, 17, 18, 19, 20, 21] rfl
          refine va_callv (va_runV (As := []) (rest := []) ⟨hx, hb, hml, hown, hts⟩ (c_X2_dropPendingJobs l dC dI cy H.size s0 z (upd (upd M 6 1) 13 ((M 13) + 1)) bq G n hn sc (up2 Q 3 6 ((Q 3 6) + 1)) rt T) (cwV 0 hts gX2_runOldestJob_X2_dropPendingJobs rfl rfl rfl (by decide +kernel) ⟨Nat.le_of_ble_eq_true rfl, Nat.le_of_ble_eq_true rfl⟩) ⟨bl_in, va_recv hK hPc (ci := 2) (q0 := 0) rfl rfl, pr_in hPc hE hDc⟩ rfl rfl hl.1 rfl (lv_room (Nat.le_of_ble_eq_true rfl)) dX2_runOldestJob_95 ⟨Nat.le_of_ble_eq_true rfl, Nat.le_of_ble_eq_true rfl⟩) hS (fun q _ h => hFc q h) hFc (fun u t H1 locs ht hvm hw hB hz1 hk1 hS => ?_)
          obtain ⟨M_95, Q_95, T_95⟩ := u
          have e_95 : (M_95, Q_95, T_95) = _ := hw
          obtain ⟨hP1, hD1⟩ := hB
          rw [ht] at hP1
          obtain ⟨hP, hD⟩ := va_join (wr := []) (w1 := wSim s0 z M_95 ++ (wCfg cy (z 0) bq G (nI n) sc ++ (wArr cy z rt Q_95 T_95))) hP hD [0, 1, 2, 3, 4, 5, 6, 7, 8, 9, 10, 11, 12, 13, 14, 15, 16, 17, 18, 19, 20, 21] [] rfl rfl (by decide) (by decide) hk1 hFc hP1 hD1
          have hP : va_P (dC, dI) vwCl (wSim s0 z M_95 ++ (wCfg cy (z 0) bq G (nI n) sc ++ (wArr cy z rt Q_95 T_95))) H1 := hP.sub [0, 1, 2, 3, 4, 5, 6, 7, 8, 9, 10, 11, 12, 13, 14, 15, 16, 17, 18, 19, 20, 21] rfl
          have hD : va_D A (wSim s0 z M_95 ++ (wCfg cy (z 0) bq G (nI n) sc ++ (wArr cy z rt Q_95 T_95))) := hD.sub [0, 1, 2, 3, 4, 5, 6, 7, 8, 9, 10, 11, 12, 13, 14, 15, 16, 17, 18, 19, 20, 21] (by decide) rfl
          clear hz1 hk1 hPc hDc hFc hP1 hD1
          generalize H1 = H at hP hS ⊢
          have hP9 : va_P (dC, dI) vwCl (wSim s0 z M_95 ++ (wCfg cy (z 0) bq G (nI n) sc ++ (wArr cy z rt Q_95 T_95))) H := hP
          have hD9 : va_D A (wSim s0 z M_95 ++ (wCfg cy (z 0) bq G (nI n) sc ++ (wArr cy z rt Q_95 T_95))) := hD
          exact W.vret hx hb hr (fun t ht hW => ⟨⟨(M_95, Q_95, T_95), rfl, (by have e9 : T 6 (Q 2 6).toNatClampNeg = T 6 o := (by rw [ho, nI_clamp (by omega)]); simp only [runO]; rw [e9, if_neg c_29, if_pos ⟨c_47, fun h => c_58 (b01.mpr h), c_76⟩]; exact e_95), by rw [ht]; exact hP9, hD9⟩, hS.F ht⟩) hS.2.2 dX2_runOldestJob_98
  · refine lv_aload_n hx hb dX2_runOldestJob_32 rfl (lv_at hl 0 rfl) ?_
    refine lv_iload_n hx hb dX2_runOldestJob_33 rfl (lv_at hl 1 rfl) ?_
    refine lv_iload_n hx hb dX2_runOldestJob_34 rfl (lv_at hl 2 rfl) ?_
    refine lv_iconst (v := 1) hx hb dX2_runOldestJob_35 (by decide) ?_
    refine lv_iadd hx hb dX2_runOldestJob_36 ?_
    have hPc := hP.sub (ws' := wSim s0 z M ++ (wCfg cy (z 0) bq G (nI n) sc ++ (wArr cy z rt (up2 Q 3 6 ((Q 3 6) + 1)) T))) [0, 1, 2, 3, 4, 5, 6, 7, 8, 9, 10, 11, 12, 13, 14, 15, 16, 17, 18, 19, 20, 21] rfl
    have hDc := hD.sub (ws' := wSim s0 z M ++ (wCfg cy (z 0) bq G (nI n) sc ++ (wArr cy z rt (up2 Q 3 6 ((Q 3 6) + 1)) T))) [0, 1, 2, 3, 4, 5, 6, 7, 8, 9, 10, 11, 12, 13, 14, 15, 16, 17, 18, 19, 20, 21] (by decide) rfl
    have hFc := va_free (wc := wSim s0 z M ++ (wCfg cy (z 0) bq G (nI n) sc ++ (wArr cy z rt (up2 Q 3 6 ((Q 3 6) + 1)) T))) hD hS hA [0, 1, 2, 3, 4, 5, 6, 7, 8, 9, 10, 11, 12, 13, 14, 15, 16, 17, 18, 19, 20, 21] rfl
    refine va_callv (va_runV (As := [.int (nI 6), .int ((nI u) + 1)]) (rest := []) ⟨hx, hb, hml, hown, hts⟩ (c_X2_completeOldestJob l dC dI cy H.size s0 z M bq G n hn sc (up2 Q 3 6 ((Q 3 6) + 1)) rt T 6 (by omega) ((nI u) + 1)) (cwV 2 hts gX2_runOldestJob_X2_completeOldestJob rfl rfl rfl (by decide +kernel) ⟨Nat.le_of_ble_eq_true rfl, Nat.le_of_ble_eq_true rfl⟩) ⟨bl_in, va_recv hK hPc (ci := 2) (q0 := 0) rfl rfl, pr_in hPc hE hDc⟩ rfl rfl hl.1 rfl (lv_room (Nat.le_of_ble_eq_true rfl)) dX2_runOldestJob_37 ⟨Nat.le_of_ble_eq_true rfl, Nat.le_of_ble_eq_true rfl⟩) hS (fun q _ h => hFc q h) hFc (fun u t H1 locs ht hvm hw hB hz1 hk1 hS => ?_)
    obtain ⟨M_37, Q_37, T_37⟩ := u
    have e_37 : (M_37, Q_37, T_37) = _ := hw
    obtain ⟨hP1, hD1⟩ := hB
    rw [ht] at hP1
    obtain ⟨hP, hD⟩ := va_join (wr := []) (w1 := wSim s0 z M_37 ++ (wCfg cy (z 0) bq G (nI n) sc ++ (wArr cy z rt Q_37 T_37))) hP hD [0, 1, 2, 3, 4, 5, 6, 7, 8, 9, 10, 11, 12, 13, 14, 15, 16, 17, 18, 19, 20, 21] [] rfl rfl (by decide) (by decide) hk1 hFc hP1 hD1
    have hP : va_P (dC, dI) vwCl (wSim s0 z M_37 ++ (wCfg cy (z 0) bq G (nI n) sc ++ (wArr cy z rt Q_37 T_37))) H1 := hP.sub [0, 1, 2, 3, 4, 5, 6, 7, 8, 9, 10, 11, 12, 13, 14, 15, 16, 17, 18, 19, 20, 21] rfl
    have hD : va_D A (wSim s0 z M_37 ++ (wCfg cy (z 0) bq G (nI n) sc ++ (wArr cy z rt Q_37 T_37))) := hD.sub [0, 1, 2, 3, 4, 5, 6, 7, 8, 9, 10, 11, 12, 13, 14, 15, 16, 17, 18, 19, 20, 21] (by decide) rfl
    clear hz1 hk1 hPc hDc hFc hP1 hD1
    generalize H1 = H at hP hS ⊢
    refine lv_goto (tgt := 98) hx hb dX2_runOldestJob_40 (by decide) ?_
    have hP9 : va_P (dC, dI) vwCl (wSim s0 z M_37 ++ (wCfg cy (z 0) bq G (nI n) sc ++ (wArr cy z rt Q_37 T_37))) H := hP
    have hD9 : va_D A (wSim s0 z M_37 ++ (wCfg cy (z 0) bq G (nI n) sc ++ (wArr cy z rt Q_37 T_37))) := hD
    exact W.vret hx hb hr (fun t ht hW => ⟨⟨(M_37, Q_37, T_37), rfl, (by have e9 : T 6 (Q 2 6).toNatClampNeg = T 6 o := (by rw [ho, nI_clamp (by omega)]); simp only [runO]; rw [e9, if_pos c_29]; exact e_37), by rw [ht]; exact hP9, hD9⟩, hS.F ht⟩) hS.2.2 dX2_runOldestJob_98
set_option maxHeartbeats 1000000 in
set_option maxRecDepth 100000 in
/-- the oldest job of task 7 runs -/
theorem c_X2_runOldestJob_7 (l : Launch) (dC : Nat → ClassId) (dI : Nat → Nat → Nat) (cy : Nat → ClassId) (sz : Nat) (s0 : Nat) (z : Nat → Nat) (M : Nat → Int32) (bq : Nat → Nat) (G : vG) (n : Nat) (hn : n ≤ 8) (sc : Int32) (Q : vG) (rt : Nat → Nat) (T : vG) (u : Nat) (hu : u < 200) (o : Nat) (ho8 : o < 200) (ho : Q 2 7 = nI o) : Met l yX2_runOldestJob wsX2_runOldestJob ({ frames := 2, cells := 0, slots := 0, locals := 45 }) (va_Pc [.ref s0, .int (nI 7), .int (nI u)] (pIn dC dI cy (wSim s0 z M ++ (wCfg cy (z 0) bq G (nI n) sc ++ (wArr cy z rt Q T))) sz)) (va_Qv (fun (u9 : SSt) => u9 = runO G n 7 u (M, Q, T)) (fun (u : SSt) t => va_P (dC, dI) vwCl (wSim s0 z u.1 ++ (wCfg cy (z 0) bq G (nI n) sc ++ (wArr cy z rt u.2.1 u.2.2))) t.heap ∧ va_D (va_A (wSim s0 z M ++ (wCfg cy (z 0) bq G (nI n) sc ++ (wArr cy z rt Q T))) sz) (wSim s0 z u.1 ++ (wCfg cy (z 0) bq G (nI n) sc ++ (wArr cy z rt u.2.1 u.2.2)))) (va_A (wSim s0 z M ++ (wCfg cy (z 0) bq G (nI n) sc ++ (wArr cy z rt Q T))) sz)) 0 0 (va_A (wSim s0 z M ++ (wCfg cy (z 0) bq G (nI n) sc ++ (wArr cy z rt Q T))) sz) := by
  refine Met.ofW (cc := cX2_runOldestJob) (maxL := 3) (ret := none) (by decide) rfl ?_
  intro p e s m args below meth c s₁ B hml hv
  obtain ⟨rfl, hsz, hP, hE, hD0⟩ := hv
  have hK := hE.1
  subst hsz
  have hD := hD0.self (sz := s.heap.size)
  generalize hAe : va_A (wSim s0 z M ++ (wCfg cy (z 0) bq G (nI n) sc ++ (wArr cy z rt Q T))) s.heap.size = A at hD ⊢
  have hA : ∀ q : Nat, s.heap.size ≤ q → A q := fun q h => by rw [← hAe]; exact Or.inr h
  have hS : va_S A s.heap s.heap [] := va_S.rf
  have hP : va_P (dC, dI) vwCl (wSim s0 z M ++ (wCfg cy (z 0) bq G (nI n) sc ++ (wArr cy z rt Q T))) s.heap := hP
  have hx := B.exec
  have hb := B.bytes
  have hr := B.returns
  have hts := atoms_spec (ws := wsX2_runOldestJob) B.pre
  have hown : s.vm.findClass RX2 = some m.cls := findClass_of_methodNamed B.named
  have hlocks := B.notSynchronized
  have hin0 : ∀ w ∈ u_ws RX0 TX0 9, w ∈ wsX2_runOldestJob := by decide +kernel
  have hin2 : ∀ w ∈ u_ws RX2 TX2 15, w ∈ wsX2_runOldestJob := by decide +kernel
  have f_113 := va_Nw.use (A := ([.ref s0, .int (nI 7), .int (nI u)].toArray)) rfl (hE.f 2 rfl)
  have f_12 := hts (.fieldLink RX2 12 "DeadlineAdmission$Simulation" "tasks" "LDeadlineAdmission$Configuration;") (by decide +kernel)
  have f_22 := hts (.fieldLink RX2 22 "DeadlineAdmission$Simulation" "oldestRelease" "[I") (by decide +kernel)
  have f_25 := hts (.fieldLink RX2 25 "DeadlineAdmission$Simulation" "oldestHasRun" "[I") (by decide +kernel)
  have f_30 := hts (.fieldLink RX2 30 "DeadlineAdmission$Simulation" "runningTime" "[[I") (by decide +kernel)
  have f_63 := hts (.fieldLink RX2 63 "DeadlineAdmission$Simulation" "mode" "I") (by decide +kernel)
  have f_89 := hts (.fieldLink RX2 89 "DeadlineAdmission$Simulation" "highSwitches" "I") (by decide +kernel)
  have hl := lv_entry ([.ref s0, .int (nI 7), .int (nI u)]) (n := 3) (Nat.le_of_ble_eq_true rfl)
  rw [lg_entry_eq]
  generalize (lg_sl ([.ref s0, .int (nI 7), .int (nI u)]) ++ List.replicate (3 - (lg_sl ([.ref s0, .int (nI 7), .int (nI u)])).length) Slot.unset).toArray = ls at hl ⊢
  have hl : lv_has ls 3 [(0, .ref s0), (1, .int (nI 7)), (2, .int (nI u))] := hl
  refine lv_aload_n hx hb dX2_runOldestJob_0 rfl (lv_at hl 0 rfl) ?_
  refine va_get (D := (dC, dI)) (ci := 2) (v := .ref (z 3)) (C := RX2) (T := TX2) (N := 15) hx hb hts hin2 hown hK hP 0 rfl rfl 3 (by decide) f_25 (fun _ h9 => h9) rfl dX2_runOldestJob_1 ?_
  refine lv_iload_n hx hb dX2_runOldestJob_4 rfl (lv_at hl 1 rfl) ?_
  refine lv_dup2_11 hx hb dX2_runOldestJob_5 rfl rfl ?_
  refine wI_alv (v := Q 3 7) hx hb hK hP 11 0 rfl rfl 7 rfl (by omega) (by decide) rfl dX2_runOldestJob_6 ?_
  refine lv_iconst (v := 1) hx hb dX2_runOldestJob_7 (by decide) ?_
  refine lv_iadd hx hb dX2_runOldestJob_8 ?_
  refine wI_ast hx hb hK hP hD hS 11 0 rfl rfl 7 rfl (by omega) (by decide) dX2_runOldestJob_9 (fun H locs hP hD hS => ?_)
  have hP : va_P (dC, dI) vwCl (wSim s0 z M ++ (wCfg cy (z 0) bq G (nI n) sc ++ (wArr cy z rt (up2 Q 3 7 ((Q 3 7) + 1)) T))) H := hP
  have hD : va_D A (wSim s0 z M ++ (wCfg cy (z 0) bq G (nI n) sc ++ (wArr cy z rt (up2 Q 3 7 ((Q 3 7) + 1)) T))) := hD
  refine lv_aload_n hx hb dX2_runOldestJob_10 rfl (lv_at hl 0 rfl) ?_
  refine va_get (D := (dC, dI)) (ci := 2) (v := .ref (z 3)) (C := RX2) (T := TX2) (N := 15) hx hb hts hin2 hown hK hP 0 rfl rfl 3 (by decide) f_25 (fun _ h9 => h9) rfl dX2_runOldestJob_11 ?_
  refine lv_iload_n hx hb dX2_runOldestJob_14 rfl (lv_at hl 1 rfl) ?_
  refine wI_alv (v := ((Q 3 7) + 1)) hx hb hK hP 11 0 rfl rfl 7 rfl (by omega) (by decide) up2_at dX2_runOldestJob_15 ?_
  refine lv_aload_n hx hb dX2_runOldestJob_16 rfl (lv_at hl 0 rfl) ?_
  refine va_get (D := (dC, dI)) (ci := 2) (v := .ref (z 4)) (C := RX2) (T := TX2) (N := 15) hx hb hts hin2 hown hK hP 0 rfl rfl 4 (by decide) f_30 (fun _ h9 => h9) rfl dX2_runOldestJob_17 ?_
  refine lv_iload_n hx hb dX2_runOldestJob_20 rfl (lv_at hl 1 rfl) ?_
  refine wB_ald (q := (rt 7)) hx hb hK hP 12 2 rfl rfl 7 rfl (by omega) (by decide) rfl dX2_runOldestJob_21 ?_
  refine lv_aload_n hx hb dX2_runOldestJob_22 rfl (lv_at hl 0 rfl) ?_
  refine va_get (D := (dC, dI)) (ci := 2) (v := .ref (z 2)) (C := RX2) (T := TX2) (N := 15) hx hb hts hin2 hown hK hP 0 rfl rfl 2 (by decide) f_22 (fun _ h9 => h9) rfl dX2_runOldestJob_23 ?_
  refine lv_iload_n hx hb dX2_runOldestJob_26 rfl (lv_at hl 1 rfl) ?_
  refine wI_alv (v := Q 2 7) hx hb hK hP 10 0 rfl rfl 7 rfl (by omega) (by decide) rfl dX2_runOldestJob_27 ?_
  refine wI_alv (v := T 7 o) hx hb hK hP 21 0 rfl rfl o ho (by omega) (by decide) rfl dX2_runOldestJob_28 ?_
  refine lv_icmp_ne (tgt := 43) hx hb dX2_runOldestJob_29 (by decide) (fun c_29 => ?_) (fun c_29 => ?_)
  · refine lv_aload_n hx hb dX2_runOldestJob_43 rfl (lv_at hl 0 rfl) ?_
    refine va_get (D := (dC, dI)) (ci := 2) (v := .int (M 6)) (C := RX2) (T := TX2) (N := 15) hx hb hts hin2 hown hK hP 0 rfl rfl 6 (by decide) f_63 (fun _ h9 => h9) rfl dX2_runOldestJob_44 ?_
    refine lv_if_ne (tgt := 98) hx hb dX2_runOldestJob_47 (by decide) (fun c_47 => ?_) (fun c_47 => ?_)
    · have hP9 : va_P (dC, dI) vwCl (wSim s0 z M ++ (wCfg cy (z 0) bq G (nI n) sc ++ (wArr cy z rt (up2 Q 3 7 ((Q 3 7) + 1)) T))) H := hP
      have hD9 : va_D A (wSim s0 z M ++ (wCfg cy (z 0) bq G (nI n) sc ++ (wArr cy z rt (up2 Q 3 7 ((Q 3 7) + 1)) T))) := hD
      exact W.vret hx hb hr (fun t ht hW => ⟨⟨(M, up2 Q 3 7 ((Q 3 7) + 1), T), rfl, (by have e9 : T 7 (Q 2 7).toNatClampNeg = T 7 o := (by rw [ho, nI_clamp (by omega)]); simp only [runO]; rw [e9, if_neg c_29, if_neg (fun h => c_47 h.1)]), by rw [ht]; exact hP9, hD9⟩, hS.F ht⟩) hS.2.2 dX2_runOldestJob_98
    · refine lv_aload_n hx hb dX2_runOldestJob_50 rfl (lv_at hl 0 rfl) ?_
      refine va_get (D := (dC, dI)) (ci := 2) (v := .ref (z 0)) (C := RX2) (T := TX2) (N := 15) hx hb hts hin2 hown hK hP 0 rfl rfl 0 (by decide) f_12 (fun _ h9 => h9) rfl dX2_runOldestJob_51 ?_
      refine lv_iload_n hx hb dX2_runOldestJob_54 rfl (lv_at hl 1 rfl) ?_
      refine vp_callSi (va_runV (As := [.int (nI 7)]) (rest := []) ⟨hx, hb, hml, hown, hts⟩ (c_X0_hasHighBudget l dC dI cy (z 0) bq G (nI n) sc  7 (by omega)) (cwV 1 hts gX2_runOldestJob_X0_hasHighBudget rfl rfl rfl (by decide +kernel) ⟨Nat.le_of_ble_eq_true rfl, Nat.le_of_ble_eq_true rfl⟩) ⟨bl_ro, va_recv hK (hP.sub (ws' := wCfg cy (z 0) bq G (nI n) sc) [1, 2, 3, 4, 5, 6, 7, 8] rfl) (ci := 0) (q0 := 0) rfl rfl, pr_ro (hP.sub (ws' := wCfg cy (z 0) bq G (nI n) sc) [1, 2, 3, 4, 5, 6, 7, 8] rfl) hE⟩ rfl rfl hl.1 rfl (lv_room (Nat.le_of_ble_eq_true rfl)) dX2_runOldestJob_55 ⟨Nat.le_of_ble_eq_true rfl, Nat.le_of_ble_eq_true rfl⟩).run (fun r e_r => ?_)
      subst e_r
      refine lv_if_eq (tgt := 98) hx hb dX2_runOldestJob_58 (by decide) (fun c_58 => ?_) (fun c_58 => ?_)
      · have hP9 : va_P (dC, dI) vwCl (wSim s0 z M ++ (wCfg cy (z 0) bq G (nI n) sc ++ (wArr cy z rt (up2 Q 3 7 ((Q 3 7) + 1)) T))) H := hP
        have hD9 : va_D A (wSim s0 z M ++ (wCfg cy (z 0) bq G (nI n) sc ++ (wArr cy z rt (up2 Q 3 7 ((Q 3 7) + 1)) T))) := hD
        exact W.vret hx hb hr (fun t ht hW => ⟨⟨(M, up2 Q 3 7 ((Q 3 7) + 1), T), rfl, (by have e9 : T 7 (Q 2 7).toNatClampNeg = T 7 o := (by rw [ho, nI_clamp (by omega)]); simp only [runO]; rw [e9, if_neg c_29, if_neg (fun h => h.2.1 (b01.mp c_58))]), by rw [ht]; exact hP9, hD9⟩, hS.F ht⟩) hS.2.2 dX2_runOldestJob_98
      · refine lv_aload_n hx hb dX2_runOldestJob_61 rfl (lv_at hl 0 rfl) ?_
        refine va_get (D := (dC, dI)) (ci := 2) (v := .ref (z 3)) (C := RX2) (T := TX2) (N := 15) hx hb hts hin2 hown hK hP 0 rfl rfl 3 (by decide) f_25 (fun _ h9 => h9) rfl dX2_runOldestJob_62 ?_
        refine lv_iload_n hx hb dX2_runOldestJob_65 rfl (lv_at hl 1 rfl) ?_
        refine wI_alv (v := ((Q 3 7) + 1)) hx hb hK hP 11 0 rfl rfl 7 rfl (by omega) (by decide) up2_at dX2_runOldestJob_66 ?_
        refine lv_aload_n hx hb dX2_runOldestJob_67 rfl (lv_at hl 0 rfl) ?_
        refine va_get (D := (dC, dI)) (ci := 2) (v := .ref (z 0)) (C := RX2) (T := TX2) (N := 15) hx hb hts hin2 hown hK hP 0 rfl rfl 0 (by decide) f_12 (fun _ h9 => h9) rfl dX2_runOldestJob_68 ?_
        refine va_getN (D := (dC, dI)) (ci := 0) (v := .ref (bq 2)) (C := RX0) (T := TX0) (N := 9) hx hb hts hin0 hown hK hP 1 rfl rfl 2 (by decide) f_113 (fun _ h9 => h9) rfl dX2_runOldestJob_71 ?_
        refine lv_iload_n hx hb dX2_runOldestJob_74 rfl (lv_at hl 1 rfl) ?_
        refine wI_alv (v := G 2 7) hx hb hK hP 4 0 rfl rfl 7 rfl (by omega) (by decide) rfl dX2_runOldestJob_75 ?_
        refine lv_icmp_ne (tgt := 98) hx hb dX2_runOldestJob_76 (by decide) (fun c_76 => ?_) (fun c_76 => ?_)
        · have hP9 : va_P (dC, dI) vwCl (wSim s0 z M ++ (wCfg cy (z 0) bq G (nI n) sc ++ (wArr cy z rt (up2 Q 3 7 ((Q 3 7) + 1)) T))) H := hP
          have hD9 : va_D A (wSim s0 z M ++ (wCfg cy (z 0) bq G (nI n) sc ++ (wArr cy z rt (up2 Q 3 7 ((Q 3 7) + 1)) T))) := hD
          exact W.vret hx hb hr (fun t ht hW => ⟨⟨(M, up2 Q 3 7 ((Q 3 7) + 1), T), rfl, (by have e9 : T 7 (Q 2 7).toNatClampNeg = T 7 o := (by rw [ho, nI_clamp (by omega)]); simp only [runO]; rw [e9, if_neg c_29, if_neg (fun h => c_76 h.2.2)]), by rw [ht]; exact hP9, hD9⟩, hS.F ht⟩) hS.2.2 dX2_runOldestJob_98
        · refine lv_aload_n hx hb dX2_runOldestJob_79 rfl (lv_at hl 0 rfl) ?_
          refine lv_iconst (v := 1) hx hb dX2_runOldestJob_80 (by decide) ?_
          refine va_put (D := (dC, dI)) (ci := 2) (v := .int 1) (ty := .int) (C := RX2) (T := TX2) (N := 15) hx hb hts hin2 tyX2 tyX2_ok nmX2 hown hK hP hD hS 0 rfl rfl 6 (by decide) f_63 (fun _ h9 => h9) rfl (by decide +kernel) rfl rfl (Nat.le_of_ble_eq_true rfl) dX2_runOldestJob_81 (fun H locs hP hD hS => ?_)
          have hP : va_P (dC, dI) vwCl (wSim s0 z (upd M 6 1) ++ (wCfg cy (z 0) bq G (nI n) sc ++ (wArr cy z rt (up2 Q 3 7 ((Q 3 7) + 1)) T))) H := hP
          have hD : va_D A (wSim s0 z (upd M 6 1) ++ (wCfg cy (z 0) bq G (nI n) sc ++ (wArr cy z rt (up2 Q 3 7 ((Q 3 7) + 1)) T))) := hD
          refine lv_aload_n hx hb dX2_runOldestJob_84 rfl (lv_at hl 0 rfl) ?_
          refine lv_dup hx hb dX2_runOldestJob_85 rfl ?_
          refine va_get (D := (dC, dI)) (ci := 2) (v := .int (M 13)) (C := RX2) (T := TX2) (N := 15) hx hb hts hin2 hown hK hP 0 rfl rfl 13 (by decide) f_89 (fun _ h9 => h9) rfl dX2_runOldestJob_86 ?_
          refine lv_iconst (v := 1) hx hb dX2_runOldestJob_89 (by decide) ?_
          refine lv_iadd hx hb dX2_runOldestJob_90 ?_
          refine va_put (D := (dC, dI)) (ci := 2) (v := .int ((M 13) + 1)) (ty := .int) (C := RX2) (T := TX2) (N := 15) hx hb hts hin2 tyX2 tyX2_ok nmX2 hown hK hP hD hS 0 rfl rfl 13 (by decide) f_89 (fun _ h9 => h9) rfl (by decide +kernel) rfl rfl (Nat.le_of_ble_eq_true rfl) dX2_runOldestJob_91 (fun H locs hP hD hS => ?_)
          have hP : va_P (dC, dI) vwCl (wSim s0 z (upd (upd M 6 1) 13 ((M 13) + 1)) ++ (wCfg cy (z 0) bq G (nI n) sc ++ (wArr cy z rt (up2 Q 3 7 ((Q 3 7) + 1)) T))) H := hP
          have hD : va_D A (wSim s0 z (upd (upd M 6 1) 13 ((M 13) + 1)) ++ (wCfg cy (z 0) bq G (nI n) sc ++ (wArr cy z rt (up2 Q 3 7 ((Q 3 7) + 1)) T))) := hD
          refine lv_aload_n hx hb dX2_runOldestJob_94 rfl (lv_at hl 0 rfl) ?_
          have hPc := hP.sub (ws' := wSim s0 z (upd (upd M 6 1) 13 ((M 13) + 1)) ++ (wCfg cy (z 0) bq G (nI n) sc ++ (wArr cy z rt (up2 Q 3 7 ((Q 3 7) + 1)) T))) [0, 1, 2, 3, 4, 5, 6, 7, 8, 9, 10, 11, 12, 13, 14, 15, 16, 17, 18, 19, 20, 21] rfl
          have hDc := hD.sub (ws' := wSim s0 z (upd (upd M 6 1) 13 ((M 13) + 1)) ++ (wCfg cy (z 0) bq G (nI n) sc ++ (wArr cy z rt (up2 Q 3 7 ((Q 3 7) + 1)) T))) [0, 1, 2, 3, 4, 5, 6, 7, 8, 9, 10, 11, 12, 13, 14, 15, 16, 17, 18, 19, 20, 21] (by decide) rfl
          have hFc := va_free (wc := wSim s0 z (upd (upd M 6 1) 13 ((M 13) + 1)) ++ (wCfg cy (z 0) bq G (nI n) sc ++ (wArr cy z rt (up2 Q 3 7 ((Q 3 7) + 1)) T))) hD hS hA [0, 1, 2, 3, 4, 5, 6, 7, 8, 9, 10, 11, 12, 13, 14, 15, 16, 17, 18, 19, 20, 21] rfl
          refine va_callv (va_runV (As := []) (rest := []) ⟨hx, hb, hml, hown, hts⟩ (c_X2_dropPendingJobs l dC dI cy H.size s0 z (upd (upd M 6 1) 13 ((M 13) + 1)) bq G n hn sc (up2 Q 3 7 ((Q 3 7) + 1)) rt T) (cwV 0 hts gX2_runOldestJob_X2_dropPendingJobs rfl rfl rfl (by decide +kernel) ⟨Nat.le_of_ble_eq_true rfl, Nat.le_of_ble_eq_true rfl⟩) ⟨bl_in, va_recv hK hPc (ci := 2) (q0 := 0) rfl rfl, pr_in hPc hE hDc⟩ rfl rfl hl.1 rfl (lv_room (Nat.le_of_ble_eq_true rfl)) dX2_runOldestJob_95 ⟨Nat.le_of_ble_eq_true rfl, Nat.le_of_ble_eq_true rfl⟩) hS (fun q _ h => hFc q h) hFc (fun u t H1 locs ht hvm hw hB hz1 hk1 hS => ?_)
          obtain ⟨M_95, Q_95, T_95⟩ := u
          have e_95 : (M_95, Q_95, T_95) = _ := hw
          obtain ⟨hP1, hD1⟩ := hB
          rw [ht] at hP1
          obtain ⟨hP, hD⟩ := va_join (wr := []) (w1 := wSim s0 z M_95 ++ (wCfg cy (z 0) bq G (nI n) sc ++ (wArr cy z rt Q_95 T_95))) hP hD [0, 1, 2, 3, 4, 5, 6, 7, 8, 9, 10, 11, 12, 13, 14, 15, 16, 17, 18, 19, 20, 21] [] rfl rfl (by decide) (by decide) hk1 hFc hP1 hD1
          have hP : va_P (dC, dI) vwCl (wSim s0 z M_95 ++ (wCfg cy (z 0) bq G (nI n) sc ++ (wArr cy z rt Q_95 T_95))) H1 := hP.sub [0, 1, 2, 3, 4, 5, 6, 7, 8, 9, 10, 11, 12, 13, 14, 15, 16, 17, 18, 19, 20, 21] rfl
          have hD : va_D A (wSim s0 z M_95 ++ (wCfg cy (z 0) bq G (nI n) sc ++ (wArr cy z rt Q_95 T_95))) := hD.sub [0, 1, 2, 3, 4, 5, 6, 7, 8, 9, 10, 11, 12, 13, 14, 15, 16, 17, 18, 19, 20, 21] (by decide) rfl
          clear hz1 hk1 hPc hDc hFc hP1 hD1
          generalize H1 = H at hP hS ⊢
          have hP9 : va_P (dC, dI) vwCl (wSim s0 z M_95 ++ (wCfg cy (z 0) bq G (nI n) sc ++ (wArr cy z rt Q_95 T_95))) H := hP
          have hD9 : va_D A (wSim s0 z M_95 ++ (wCfg cy (z 0) bq G (nI n) sc ++ (wArr cy z rt Q_95 T_95))) := hD
          exact W.vret hx hb hr (fun t ht hW => ⟨⟨(M_95, Q_95, T_95), rfl, (by have e9 : T 7 (Q 2 7).toNatClampNeg = T 7 o := (by rw [ho, nI_clamp (by omega)]); simp only [runO]; rw [e9, if_neg c_29, if_pos ⟨c_47, fun h => c_58 (b01.mpr h), c_76⟩]; exact e_95), by rw [ht]; exact hP9, hD9⟩, hS.F ht⟩) hS.2.2 dX2_runOldestJob_98
  · refine lv_aload_n hx hb dX2_runOldestJob_32 rfl (lv_at hl 0 rfl) ?_
    refine lv_iload_n hx hb dX2_runOldestJob_33 rfl (lv_at hl 1 rfl) ?_
    refine lv_iload_n hx hb dX2_runOldestJob_34 rfl (lv_at hl 2 rfl) ?_
    refine lv_iconst (v := 1) hx hb dX2_runOldestJob_35 (by decide) ?_
    refine lv_iadd hx hb dX2_runOldestJob_36 ?_
    have hPc := hP.sub (ws' := wSim s0 z M ++ (wCfg cy (z 0) bq G (nI n) sc ++ (wArr cy z rt (up2 Q 3 7 ((Q 3 7) + 1)) T))) [0, 1, 2, 3, 4, 5, 6, 7, 8, 9, 10, 11, 12, 13, 14, 15, 16, 17, 18, 19, 20, 21] rfl
    have hDc := hD.sub (ws' := wSim s0 z M ++ (wCfg cy (z 0) bq G (nI n) sc ++ (wArr cy z rt (up2 Q 3 7 ((Q 3 7) + 1)) T))) [0, 1, 2, 3, 4, 5, 6, 7, 8, 9, 10, 11, 12, 13, 14, 15, 16, 17, 18, 19, 20, 21] (by decide) rfl
    have hFc := va_free (wc := wSim s0 z M ++ (wCfg cy (z 0) bq G (nI n) sc ++ (wArr cy z rt (up2 Q 3 7 ((Q 3 7) + 1)) T))) hD hS hA [0, 1, 2, 3, 4, 5, 6, 7, 8, 9, 10, 11, 12, 13, 14, 15, 16, 17, 18, 19, 20, 21] rfl
    refine va_callv (va_runV (As := [.int (nI 7), .int ((nI u) + 1)]) (rest := []) ⟨hx, hb, hml, hown, hts⟩ (c_X2_completeOldestJob l dC dI cy H.size s0 z M bq G n hn sc (up2 Q 3 7 ((Q 3 7) + 1)) rt T 7 (by omega) ((nI u) + 1)) (cwV 2 hts gX2_runOldestJob_X2_completeOldestJob rfl rfl rfl (by decide +kernel) ⟨Nat.le_of_ble_eq_true rfl, Nat.le_of_ble_eq_true rfl⟩) ⟨bl_in, va_recv hK hPc (ci := 2) (q0 := 0) rfl rfl, pr_in hPc hE hDc⟩ rfl rfl hl.1 rfl (lv_room (Nat.le_of_ble_eq_true rfl)) dX2_runOldestJob_37 ⟨Nat.le_of_ble_eq_true rfl, Nat.le_of_ble_eq_true rfl⟩) hS (fun q _ h => hFc q h) hFc (fun u t H1 locs ht hvm hw hB hz1 hk1 hS => ?_)
    obtain ⟨M_37, Q_37, T_37⟩ := u
    have e_37 : (M_37, Q_37, T_37) = _ := hw
    obtain ⟨hP1, hD1⟩ := hB
    rw [ht] at hP1
    obtain ⟨hP, hD⟩ := va_join (wr := []) (w1 := wSim s0 z M_37 ++ (wCfg cy (z 0) bq G (nI n) sc ++ (wArr cy z rt Q_37 T_37))) hP hD [0, 1, 2, 3, 4, 5, 6, 7, 8, 9, 10, 11, 12, 13, 14, 15, 16, 17, 18, 19, 20, 21] [] rfl rfl (by decide) (by decide) hk1 hFc hP1 hD1
    have hP : va_P (dC, dI) vwCl (wSim s0 z M_37 ++ (wCfg cy (z 0) bq G (nI n) sc ++ (wArr cy z rt Q_37 T_37))) H1 := hP.sub [0, 1, 2, 3, 4, 5, 6, 7, 8, 9, 10, 11, 12, 13, 14, 15, 16, 17, 18, 19, 20, 21] rfl
    have hD : va_D A (wSim s0 z M_37 ++ (wCfg cy (z 0) bq G (nI n) sc ++ (wArr cy z rt Q_37 T_37))) := hD.sub [0, 1, 2, 3, 4, 5, 6, 7, 8, 9, 10, 11, 12, 13, 14, 15, 16, 17, 18, 19, 20, 21] (by decide) rfl
    clear hz1 hk1 hPc hDc hFc hP1 hD1
    generalize H1 = H at hP hS ⊢
    refine lv_goto (tgt := 98) hx hb dX2_runOldestJob_40 (by decide) ?_
    have hP9 : va_P (dC, dI) vwCl (wSim s0 z M_37 ++ (wCfg cy (z 0) bq G (nI n) sc ++ (wArr cy z rt Q_37 T_37))) H := hP
    have hD9 : va_D A (wSim s0 z M_37 ++ (wCfg cy (z 0) bq G (nI n) sc ++ (wArr cy z rt Q_37 T_37))) := hD
    exact W.vret hx hb hr (fun t ht hW => ⟨⟨(M_37, Q_37, T_37), rfl, (by have e9 : T 7 (Q 2 7).toNatClampNeg = T 7 o := (by rw [ho, nI_clamp (by omega)]); simp only [runO]; rw [e9, if_pos c_29]; exact e_37), by rw [ht]; exact hP9, hD9⟩, hS.F ht⟩) hS.2.2 dX2_runOldestJob_98
set_option maxHeartbeats 1000000 in
set_option maxRecDepth 100000 in
theorem c_X2_runOldestJob (l : Launch) (dC : Nat → ClassId) (dI : Nat → Nat → Nat) (cy : Nat → ClassId) (sz : Nat) (s0 : Nat) (z : Nat → Nat) (M : Nat → Int32) (bq : Nat → Nat) (G : vG) (n : Nat) (hn : n ≤ 8) (sc : Int32) (Q : vG) (rt : Nat → Nat) (T : vG) (i : Nat) (hi8 : i < 8) (u : Nat) (hu : u < 200) (o : Nat) (ho8 : o < 200) (ho : Q 2 i = nI o) : Met l yX2_runOldestJob wsX2_runOldestJob ({ frames := 2, cells := 0, slots := 0, locals := 45 }) (va_Pc [.ref s0, .int (nI i), .int (nI u)] (pIn dC dI cy (wSim s0 z M ++ (wCfg cy (z 0) bq G (nI n) sc ++ (wArr cy z rt Q T))) sz)) (va_Qv (fun (u9 : SSt) => u9 = runO G n i u (M, Q, T)) (fun (u : SSt) t => va_P (dC, dI) vwCl (wSim s0 z u.1 ++ (wCfg cy (z 0) bq G (nI n) sc ++ (wArr cy z rt u.2.1 u.2.2))) t.heap ∧ va_D (va_A (wSim s0 z M ++ (wCfg cy (z 0) bq G (nI n) sc ++ (wArr cy z rt Q T))) sz) (wSim s0 z u.1 ++ (wCfg cy (z 0) bq G (nI n) sc ++ (wArr cy z rt u.2.1 u.2.2)))) (va_A (wSim s0 z M ++ (wCfg cy (z 0) bq G (nI n) sc ++ (wArr cy z rt Q T))) sz)) 0 0 (va_A (wSim s0 z M ++ (wCfg cy (z 0) bq G (nI n) sc ++ (wArr cy z rt Q T))) sz) := by
  rcases (show i = 0 ∨ i = 1 ∨ i = 2 ∨ i = 3 ∨ i = 4 ∨ i = 5 ∨ i = 6 ∨ i = 7 by omega) with rfl | rfl | rfl | rfl | rfl | rfl | rfl | rfl
  · exact c_X2_runOldestJob_0 l dC dI cy sz s0 z M bq G n hn sc Q rt T u hu o ho8 ho
  · exact c_X2_runOldestJob_1 l dC dI cy sz s0 z M bq G n hn sc Q rt T u hu o ho8 ho
  · exact c_X2_runOldestJob_2 l dC dI cy sz s0 z M bq G n hn sc Q rt T u hu o ho8 ho
  · exact c_X2_runOldestJob_3 l dC dI cy sz s0 z M bq G n hn sc Q rt T u hu o ho8 ho
  · exact c_X2_runOldestJob_4 l dC dI cy sz s0 z M bq G n hn sc Q rt T u hu o ho8 ho
  · exact c_X2_runOldestJob_5 l dC dI cy sz s0 z M bq G n hn sc Q rt T u hu o ho8 ho
  · exact c_X2_runOldestJob_6 l dC dI cy sz s0 z M bq G n hn sc Q rt T u hu o ho8 ho
  · exact c_X2_runOldestJob_7 l dC dI cy sz s0 z M bq G n hn sc Q rt T u hu o ho8 ho
set_option maxHeartbeats 1000000 in
set_option maxRecDepth 100000 in
/-- the jobs that wait at the end -/
theorem c_X2_countLatePendingJobs (l : Launch) (dC : Nat → ClassId) (dI : Nat → Nat → Nat) (cy : Nat → ClassId) (sz : Nat) (s0 : Nat) (z : Nat → Nat) (M : Nat → Int32) (bq : Nat → Nat) (G : vG) (n : Nat) (hn : n ≤ 8) (sc : Int32) (Q : vG) (rt : Nat → Nat) (T : vG) (hc : ∀ t, t < n → ∃ c : Nat, c ≤ 300 ∧ Q 1 t = nI c) : Met l yX2_countLatePendingJobs wsX2_countLatePendingJobs ({ frames := 1, cells := 0, slots := 0, locals := 22 }) (va_Pc [.ref s0] (pIn dC dI cy (wSim s0 z M ++ (wCfg cy (z 0) bq G (nI n) sc ++ (wArr cy z rt Q T))) sz)) (va_Qv (fun (u : SSt) => u = (clp G Q n 0 M, Q, T)) (fun (u : SSt) t => va_P (dC, dI) vwCl (wSim s0 z u.1 ++ (wCfg cy (z 0) bq G (nI n) sc ++ (wArr cy z rt u.2.1 u.2.2))) t.heap ∧ va_D (va_A (wSim s0 z M ++ (wCfg cy (z 0) bq G (nI n) sc ++ (wArr cy z rt Q T))) sz) (wSim s0 z u.1 ++ (wCfg cy (z 0) bq G (nI n) sc ++ (wArr cy z rt u.2.1 u.2.2)))) (va_A (wSim s0 z M ++ (wCfg cy (z 0) bq G (nI n) sc ++ (wArr cy z rt Q T))) sz)) 0 0 (va_A (wSim s0 z M ++ (wCfg cy (z 0) bq G (nI n) sc ++ (wArr cy z rt Q T))) sz) := by
  refine Met.ofW (cc := cX2_countLatePendingJobs) (maxL := 3) (ret := none) (by decide) rfl ?_
  intro p e s m args below meth c s₁ B hml hv
  obtain ⟨rfl, hsz, hP, hE, hD0⟩ := hv
  have hK := hE.1
  subst hsz
  have hD := hD0.self (sz := s.heap.size)
  generalize hAe : va_A (wSim s0 z M ++ (wCfg cy (z 0) bq G (nI n) sc ++ (wArr cy z rt Q T))) s.heap.size = A at hD ⊢
  have hA : ∀ q : Nat, s.heap.size ≤ q → A q := fun q h => by rw [← hAe]; exact Or.inr h
  have hS : va_S A s.heap s.heap [] := va_S.rf
  have hP : va_P (dC, dI) vwCl (wSim s0 z M ++ (wCfg cy (z 0) bq G (nI n) sc ++ (wArr cy z rt Q T))) s.heap := hP
  have hx := B.exec
  have hb := B.bytes
  have hr := B.returns
  have hts := atoms_spec (ws := wsX2_countLatePendingJobs) B.pre
  have hown : s.vm.findClass RX2 = some m.cls := findClass_of_methodNamed B.named
  have hlocks := B.notSynchronized
  have hin0 : ∀ w ∈ u_ws RX0 TX0 9, w ∈ wsX2_countLatePendingJobs := by decide +kernel
  have hin2 : ∀ w ∈ u_ws RX2 TX2 15, w ∈ wsX2_countLatePendingJobs := by decide +kernel
  have f_12 := hts (.fieldLink RX2 12 "DeadlineAdmission$Simulation" "tasks" "LDeadlineAdmission$Configuration;") (by decide +kernel)
  have f_18 := hts (.fieldLink RX2 18 "DeadlineAdmission$Simulation" "pendingJobs" "[I") (by decide +kernel)
  have f_22 := hts (.fieldLink RX2 22 "DeadlineAdmission$Simulation" "oldestRelease" "[I") (by decide +kernel)
  have f_92 := va_Nw.use (A := ([.ref s0].toArray)) rfl (hE.f 10 rfl)
  have hl := lv_entry ([.ref s0]) (n := 3) (Nat.le_of_ble_eq_true rfl)
  rw [lg_entry_eq]
  generalize (lg_sl ([.ref s0]) ++ List.replicate (3 - (lg_sl ([.ref s0])).length) Slot.unset).toArray = ls at hl ⊢
  have hl : lv_has ls 3 [(0, .ref s0)] := hl
  refine lv_iconst (v := 0) hx hb dX2_countLatePendingJobs_0 (by decide) ?_
  refine lv_istore_n (lv' := [(1, .int 0), (0, .ref s0)]) hx hb dX2_countLatePendingJobs_1 rfl hl (by decide) rfl (fun ls hl => ?_)
  have loop2 : ∀ (k : Nat) (j : Nat) (i : Nat) (Mk : Nat → Int32) (ls : Array Slot), i + j = n → j < k → clp G Q j i Mk = clp G Q n 0 M → ∀ (H : Heap) (locs : List Loc), va_P (dC, dI) vwCl (wSim s0 z Mk ++ (wCfg cy (z 0) bq G (nI n) sc ++ (wArr cy z rt Q T))) H → va_D A (wSim s0 z Mk ++ (wCfg cy (z 0) bq G (nI n) sc ++ (wArr cy z rt Q T))) → va_S A s.heap H locs → lv_has ls 3 [(0, .ref s0), (1, .int (nI i))] → W p l e (headSpec wsX2_countLatePendingJobs ({ frames := 1, cells := 0, slots := 0, locals := 22 }) |>.room) s m (([.ref s0].toArray)) below meth c H locs 0 0 (MQ below (va_Qv (fun (u : SSt) => u = (clp G Q n 0 M, Q, T)) (fun (u : SSt) t => va_P (dC, dI) vwCl (wSim s0 z u.1 ++ (wCfg cy (z 0) bq G (nI n) sc ++ (wArr cy z rt u.2.1 u.2.2))) t.heap ∧ va_D (A) (wSim s0 z u.1 ++ (wCfg cy (z 0) bq G (nI n) sc ++ (wArr cy z rt u.2.1 u.2.2)))) (A)) ([.ref s0].toArray) s 0 0 A) (F0 m 2 ls []) := by
    intro k
    induction k with
    | zero =>
      intro j i Mk ls hij hk er
      exfalso; omega
    | succ k ih2 =>
      intro j i Mk ls hij hk er H locs hP hD hS hl
      refine lv_iload_n hx hb dX2_countLatePendingJobs_2 rfl (lv_at hl 1 rfl) ?_
      refine lv_aload_n hx hb dX2_countLatePendingJobs_3 rfl (lv_at hl 0 rfl) ?_
      refine va_get (D := (dC, dI)) (ci := 2) (v := .ref (z 0)) (C := RX2) (T := TX2) (N := 15) hx hb hts hin2 hown hK hP 0 rfl rfl 0 (by decide) f_12 (fun _ h9 => h9) rfl dX2_countLatePendingJobs_4 ?_
      refine va_getN (D := (dC, dI)) (ci := 0) (v := .int (nI n)) (C := RX0) (T := TX0) (N := 9) hx hb hts hin0 hown hK hP 1 rfl rfl 7 (by decide) f_92 (fun _ h9 => h9) rfl dX2_countLatePendingJobs_7 ?_
      refine lv_icmp_ge (tgt := 59) hx hb dX2_countLatePendingJobs_10 (by decide) (fun c_10 => ?_) (fun c_10 => ?_)
      · have e_j : j = 0 := by have := (nI_leI (a := n) (b := i) (by omega) (by omega)).mp c_10; omega
        have hP9 : va_P (dC, dI) vwCl (wSim s0 z Mk ++ (wCfg cy (z 0) bq G (nI n) sc ++ (wArr cy z rt Q T))) H := hP
        have hD9 : va_D A (wSim s0 z Mk ++ (wCfg cy (z 0) bq G (nI n) sc ++ (wArr cy z rt Q T))) := hD
        exact W.vret hx hb hr (fun t ht hW => ⟨⟨(Mk, Q, T), rfl, (by rw [← er, e_j]; rfl), by rw [ht]; exact hP9, hD9⟩, hS.F ht⟩) hS.2.2 dX2_countLatePendingJobs_59
      · have hlt : i < n := Nat.lt_of_not_le (fun h => c_10 (nI_le h (by omega)))
        obtain ⟨j, rfl⟩ : ∃ z, j = z + 1 := ⟨j - 1, by omega⟩
        obtain ⟨c9, hc9, ec9⟩ := hc i hlt
        refine lv_iconst (v := 0) hx hb dX2_countLatePendingJobs_13 (by decide) ?_
        refine lv_istore_n (lv' := [(2, .int 0), (0, .ref s0), (1, .int (nI i))]) hx hb dX2_countLatePendingJobs_14 rfl hl (by decide) rfl (fun ls hl => ?_)
        have loop15 : ∀ (k : Nat) (q : Nat) (b : Nat) (Mk : Nat → Int32) (ls : Array Slot), b + q = c9 → q < k → clp G Q j (i + 1) (clt G Q i q b Mk) = clp G Q n 0 M → ∀ (H : Heap) (locs : List Loc), va_P (dC, dI) vwCl (wSim s0 z Mk ++ (wCfg cy (z 0) bq G (nI n) sc ++ (wArr cy z rt Q T))) H → va_D A (wSim s0 z Mk ++ (wCfg cy (z 0) bq G (nI n) sc ++ (wArr cy z rt Q T))) → va_S A s.heap H locs → lv_has ls 3 [(0, .ref s0), (1, .int (nI i)), (2, .int (nI b))] → W p l e (headSpec wsX2_countLatePendingJobs ({ frames := 1, cells := 0, slots := 0, locals := 22 }) |>.room) s m (([.ref s0].toArray)) below meth c H locs 0 0 (MQ below (va_Qv (fun (u : SSt) => u = (clp G Q n 0 M, Q, T)) (fun (u : SSt) t => va_P (dC, dI) vwCl (wSim s0 z u.1 ++ (wCfg cy (z 0) bq G (nI n) sc ++ (wArr cy z rt u.2.1 u.2.2))) t.heap ∧ va_D (A) (wSim s0 z u.1 ++ (wCfg cy (z 0) bq G (nI n) sc ++ (wArr cy z rt u.2.1 u.2.2)))) (A)) ([.ref s0].toArray) s 0 0 A) (F0 m 15 ls []) := by
          intro k
          induction k with
          | zero =>
            intro q b Mk ls hqb hk2 er
            exfalso; omega
          | succ k ih15 =>
            intro q b Mk ls hqb hk2 er H locs hP hD hS hl
            refine lv_iload_n hx hb dX2_countLatePendingJobs_15 rfl (lv_at hl 2 rfl) ?_
            refine lv_aload_n hx hb dX2_countLatePendingJobs_16 rfl (lv_at hl 0 rfl) ?_
            refine va_get (D := (dC, dI)) (ci := 2) (v := .ref (z 1)) (C := RX2) (T := TX2) (N := 15) hx hb hts hin2 hown hK hP 0 rfl rfl 1 (by decide) f_18 (fun _ h9 => h9) rfl dX2_countLatePendingJobs_17 ?_
            refine lv_iload_n hx hb dX2_countLatePendingJobs_20 rfl (lv_at hl 1 rfl) ?_
            refine wI_alv (v := Q 1 i) hx hb hK hP 9 0 rfl rfl i rfl (by omega) (by decide) rfl dX2_countLatePendingJobs_21 ?_
            refine lv_icmp_ge (tgt := 53) hx hb dX2_countLatePendingJobs_22 (by decide) (fun c_22 => ?_) (fun c_22 => ?_)
            · have e_q : q = 0 := by rw [ec9] at c_22; have := (nI_leI (a := c9) (b := b) (by omega) (by omega)).mp c_22; omega
              refine lv_iinc (v := nI (i + 1)) (lv' := [(1, .int (nI (i + 1))), (0, .ref s0), (2, .int (nI b))]) hx hb dX2_countLatePendingJobs_53 hl (k := 1) rfl (nI_1 _) (by decide) rfl (fun ls hl => ?_)
              refine lv_goto (tgt := 2) hx hb dX2_countLatePendingJobs_56 (by decide) ?_
              exact ih2 j (i + 1) _ ls (by omega) (by omega) (by rw [← er, e_q]; rfl) _ _ hP hD hS (lv_sub hl [1, 0] rfl)
            · obtain ⟨q, rfl⟩ : ∃ z, q = z + 1 := ⟨q - 1, by rw [ec9] at c_22; have h : ¬ (c9 ≤ b) := fun h => c_22 ((nI_leI (a := c9) (b := b) (by omega) (by omega)).mpr h); omega⟩
              refine lv_aload_n hx hb dX2_countLatePendingJobs_25 rfl (lv_at hl 0 rfl) ?_
              refine lv_iload_n hx hb dX2_countLatePendingJobs_26 rfl (lv_at hl 1 rfl) ?_
              refine lv_aload_n hx hb dX2_countLatePendingJobs_27 rfl (lv_at hl 0 rfl) ?_
              refine va_get (D := (dC, dI)) (ci := 2) (v := .ref (z 2)) (C := RX2) (T := TX2) (N := 15) hx hb hts hin2 hown hK hP 0 rfl rfl 2 (by decide) f_22 (fun _ h9 => h9) rfl dX2_countLatePendingJobs_28 ?_
              refine lv_iload_n hx hb dX2_countLatePendingJobs_31 rfl (lv_at hl 1 rfl) ?_
              refine wI_alv (v := Q 2 i) hx hb hK hP 10 0 rfl rfl i rfl (by omega) (by decide) rfl dX2_countLatePendingJobs_32 ?_
              refine lv_iload_n hx hb dX2_countLatePendingJobs_33 rfl (lv_at hl 2 rfl) ?_
              refine lv_aload_n hx hb dX2_countLatePendingJobs_34 rfl (lv_at hl 0 rfl) ?_
              refine va_get (D := (dC, dI)) (ci := 2) (v := .ref (z 0)) (C := RX2) (T := TX2) (N := 15) hx hb hts hin2 hown hK hP 0 rfl rfl 0 (by decide) f_12 (fun _ h9 => h9) rfl dX2_countLatePendingJobs_35 ?_
              refine lv_iload_n hx hb dX2_countLatePendingJobs_38 rfl (lv_at hl 1 rfl) ?_
              refine vp_callSi (va_runV (As := [.int (nI i)]) (rest := [.int (nI b), .int (Q 2 i), .int (nI i), .ref s0]) ⟨hx, hb, hml, hown, hts⟩ (c_X0_effectivePeriod l dC dI cy (z 0) bq G (nI n) sc  i (by omega)) (cwV 1 hts gX2_countLatePendingJobs_X0_effectivePeriod rfl rfl rfl (by decide +kernel) ⟨Nat.le_of_ble_eq_true rfl, Nat.le_of_ble_eq_true rfl⟩) ⟨bl_ro, va_recv hK (hP.sub (ws' := wCfg cy (z 0) bq G (nI n) sc) [1, 2, 3, 4, 5, 6, 7, 8] rfl) (ci := 0) (q0 := 0) rfl rfl, pr_ro (hP.sub (ws' := wCfg cy (z 0) bq G (nI n) sc) [1, 2, 3, 4, 5, 6, 7, 8] rfl) hE⟩ rfl rfl hl.1 rfl (lv_room (Nat.le_of_ble_eq_true rfl)) dX2_countLatePendingJobs_39 ⟨Nat.le_of_ble_eq_true rfl, Nat.le_of_ble_eq_true rfl⟩).run (fun r e_r => ?_)
              subst e_r
              refine lv_imul hx hb dX2_countLatePendingJobs_42 ?_
              refine lv_iadd hx hb dX2_countLatePendingJobs_43 ?_
              have hPc := hP.sub (ws' := wSim s0 z Mk ++ (wCfg cy (z 0) bq G (nI n) sc ++ (wArr cy z rt Q T))) [0, 1, 2, 3, 4, 5, 6, 7, 8, 9, 10, 11, 12, 13, 14, 15, 16, 17, 18, 19, 20, 21] rfl
              have hDc := hD.sub (ws' := wSim s0 z Mk ++ (wCfg cy (z 0) bq G (nI n) sc ++ (wArr cy z rt Q T))) [0, 1, 2, 3, 4, 5, 6, 7, 8, 9, 10, 11, 12, 13, 14, 15, 16, 17, 18, 19, 20, 21] (by decide) rfl
              have hFc := va_free (wc := wSim s0 z Mk ++ (wCfg cy (z 0) bq G (nI n) sc ++ (wArr cy z rt Q T))) hD hS hA [0, 1, 2, 3, 4, 5, 6, 7, 8, 9, 10, 11, 12, 13, 14, 15, 16, 17, 18, 19, 20, 21] rfl
              refine va_callv (va_runV (As := [.int (nI i), .int ((Q 2 i) + ((nI b) * (per G i)))]) (rest := []) ⟨hx, hb, hml, hown, hts⟩ (c_X2_countLateJob l dC dI cy H.size s0 z Mk bq G n hn sc Q rt T i (by omega) ((Q 2 i) + ((nI b) * (per G i)))) (cwV 2 hts gX2_countLatePendingJobs_X2_countLateJob rfl rfl rfl (by decide +kernel) ⟨Nat.le_of_ble_eq_true rfl, Nat.le_of_ble_eq_true rfl⟩) ⟨bl_in, va_recv hK hPc (ci := 2) (q0 := 0) rfl rfl, pr_in hPc hE hDc⟩ rfl rfl hl.1 rfl (lv_room (Nat.le_of_ble_eq_true rfl)) dX2_countLatePendingJobs_44 ⟨Nat.le_of_ble_eq_true rfl, Nat.le_of_ble_eq_true rfl⟩) hS (fun q _ h => hFc q h) hFc (fun u t H1 locs ht hvm hw hB hz1 hk1 hS => ?_)
              obtain ⟨M_44, Q_44, T_44⟩ := u
              obtain ⟨e_44, rfl, rfl⟩ : M_44 = cnl G i ((Q 2 i) + ((nI b) * (per G i))) (Mk) ∧ Q = Q_44 ∧ T = T_44 := ⟨congrArg (·.1) hw, (congrArg (·.2.1) hw).symm, (congrArg (·.2.2) hw).symm⟩
              obtain ⟨hP1, hD1⟩ := hB
              rw [ht] at hP1
              obtain ⟨hP, hD⟩ := va_join (wr := []) (w1 := wSim s0 z M_44 ++ (wCfg cy (z 0) bq G (nI n) sc ++ (wArr cy z rt Q T))) hP hD [0, 1, 2, 3, 4, 5, 6, 7, 8, 9, 10, 11, 12, 13, 14, 15, 16, 17, 18, 19, 20, 21] [] rfl rfl (by decide) (by decide) hk1 hFc hP1 hD1
              have hP : va_P (dC, dI) vwCl (wSim s0 z M_44 ++ (wCfg cy (z 0) bq G (nI n) sc ++ (wArr cy z rt Q T))) H1 := hP.sub [0, 1, 2, 3, 4, 5, 6, 7, 8, 9, 10, 11, 12, 13, 14, 15, 16, 17, 18, 19, 20, 21] rfl
              have hD : va_D A (wSim s0 z M_44 ++ (wCfg cy (z 0) bq G (nI n) sc ++ (wArr cy z rt Q T))) := hD.sub [0, 1, 2, 3, 4, 5, 6, 7, 8, 9, 10, 11, 12, 13, 14, 15, 16, 17, 18, 19, 20, 21] (by decide) rfl
              clear hz1 hk1 hPc hDc hFc hP1 hD1
              generalize H1 = H at hP hS ⊢
              refine lv_iinc (v := nI (b + 1)) (lv' := [(2, .int (nI (b + 1))), (0, .ref s0), (1, .int (nI i))]) hx hb dX2_countLatePendingJobs_47 hl (k := 2) rfl (nI_1 _) (by decide) rfl (fun ls hl => ?_)
              refine lv_goto (tgt := 15) hx hb dX2_countLatePendingJobs_50 (by decide) ?_
              exact ih15 q (b + 1) _ ls (by omega) (by omega) (by rw [← er, clt, e_44]) _ _ hP hD hS (lv_sub hl [1, 2, 0] rfl)
        exact loop15 (c9 + 1) c9 0 _ ls (by omega) (by omega) (by rw [← er, clp, ec9, nI_clamp (by omega)]) _ _ hP hD hS (lv_sub hl [1, 2, 0] rfl)
  exact loop2 (n + 1) n 0 M ls (by omega) (by omega) rfl _ _ hP hD hS (lv_sub hl [1, 0] rfl)

/-! PART 61: the reference: releases, ends, the high mode, a unit -/
theorem rAdd_28 {i u : Nat} {ov : Int32} {I : Nat → Int32} {R : vG} {I' : Nat → Int32} {R' : vG} {m : Nat} (h : (I', R') = rAdd i u ov (I, R)) (hm : I 28 = nI m) : I' 28 = nI (m + 1) ∧ R' 1 = R 1 := by
  have e1 : I' = _ := congrArg (·.1) h
  have e2 : R' = _ := congrArg (·.2) h
  subst e1
  subst e2
  refine ⟨?_, rfl⟩
  show drI (Gs (R 1)) i (upd I 28 (I 28 + 1)) 28 = _
  unfold drI
  split
  · rw [pk_us, hm, nI_1]
  · rw [pk_un (by decide), pk_us, hm, nI_1]
set_option maxHeartbeats 1000000 in
set_option maxRecDepth 100000 in
/-- what is due is released -/
theorem c_X5_releases (l : Launch) (dC : Nat → ClassId) (dI : Nat → Nat → Nat) (cy : Nat → ClassId) (sz : Nat) (m0 : Nat) (a : Nat → Nat) (I : Nat → Int32) (R : vG) (n : Nat) (hn : n ≤ 8) (hS0 : R 1 0 = nI n) (hG : okG (Gs (R 1)) n) (mj : Nat) (hm : mj ≤ 1690) (hI28 : I 28 = nI mj) (v : Nat) (p1 : Int32) : Met l yX5_releases wsX5_releases ({ frames := 2, cells := 0, slots := 0, locals := 44 }) (va_Pc [.ref m0, .int (nI v), .int p1] (pIn dC dI cy (wMdl cy m0 a I R) sz)) (va_Qv (fun (u : MSt) => u = rlsR v p1 n 0 (I, R)) (fun (u : (Nat → Int32) × vG) t => va_P (dC, dI) vwCl (wMdl cy m0 a u.1 u.2) t.heap ∧ va_D (va_A (wMdl cy m0 a I R) sz) (wMdl cy m0 a u.1 u.2)) (va_A (wMdl cy m0 a I R) sz)) 0 0 (va_A (wMdl cy m0 a I R) sz) := by
  refine Met.ofW (cc := cX5_releases) (maxL := 4) (ret := none) (by decide) rfl ?_
  intro p e s m args below meth c s₁ B hml hv
  obtain ⟨rfl, hsz, hP, hE, hD0⟩ := hv
  have hK := hE.1
  subst hsz
  have hD := hD0.self (sz := s.heap.size)
  generalize hAe : va_A (wMdl cy m0 a I R) s.heap.size = A at hD ⊢
  have hA : ∀ q : Nat, s.heap.size ≤ q → A q := fun q h => by rw [← hAe]; exact Or.inr h
  have hS : va_S A s.heap s.heap [] := va_S.rf
  have hP : va_P (dC, dI) vwCl (wMdl cy m0 a I R) s.heap := hP
  have hx := B.exec
  have hb := B.bytes
  have hr := B.returns
  have hts := atoms_spec (ws := wsX5_releases) B.pre
  have hown : s.vm.findClass RX5 = some m.cls := findClass_of_methodNamed B.named
  have hlocks := B.notSynchronized
  have hin5 : ∀ w ∈ u_ws RX5 TX5 32, w ∈ wsX5_releases := by decide +kernel
  have f_184 := hts (.fieldLink RX5 184 "DeadlineAdmissionModel" "mode" "I") (by decide +kernel)
  have f_187 := hts (.fieldLink RX5 187 "DeadlineAdmissionModel" "dropped" "I") (by decide +kernel)
  have f_9 := hts (.fieldLink RX5 9 "DeadlineAdmissionModel" "s" "[I") (by decide +kernel)
  have hl := lv_entry ([.ref m0, .int (nI v), .int p1]) (n := 4) (Nat.le_of_ble_eq_true rfl)
  rw [lg_entry_eq]
  generalize (lg_sl ([.ref m0, .int (nI v), .int p1]) ++ List.replicate (4 - (lg_sl ([.ref m0, .int (nI v), .int p1])).length) Slot.unset).toArray = ls at hl ⊢
  have hl : lv_has ls 4 [(0, .ref m0), (1, .int (nI v)), (2, .int p1)] := hl
  refine lv_iconst (v := 0) hx hb dX5_releases_0 (by decide) ?_
  refine lv_istore_n (lv' := [(3, .int 0), (0, .ref m0), (1, .int (nI v)), (2, .int p1)]) hx hb dX5_releases_1 rfl hl (by decide) rfl (fun ls hl => ?_)
  have loop2 : ∀ (k : Nat) (j : Nat) (i : Nat) (Ik : Nat → Int32) (Rk : vG) (mk : Nat) (ls : Array Slot), i + j = n → j < k → rlsR v p1 j i (Ik, Rk) = rlsR v p1 n 0 (I, R) → Rk 1 = R 1 → Ik 28 = nI mk → mk + j ≤ 1700 → ∀ (H : Heap) (locs : List Loc), va_P (dC, dI) vwCl (wMdl cy m0 a Ik Rk) H → va_D A (wMdl cy m0 a Ik Rk) → va_S A s.heap H locs → lv_has ls 4 [(0, .ref m0), (1, .int (nI v)), (2, .int p1), (3, .int (nI i))] → W p l e (headSpec wsX5_releases ({ frames := 2, cells := 0, slots := 0, locals := 44 }) |>.room) s m (([.ref m0, .int (nI v), .int p1].toArray)) below meth c H locs 0 0 (MQ below (va_Qv (fun (u : MSt) => u = rlsR v p1 n 0 (I, R)) (fun (u : (Nat → Int32) × vG) t => va_P (dC, dI) vwCl (wMdl cy m0 a u.1 u.2) t.heap ∧ va_D (A) (wMdl cy m0 a u.1 u.2)) (A)) ([.ref m0, .int (nI v), .int p1].toArray) s 0 0 A) (F0 m 2 ls []) := by
    intro k
    induction k with
    | zero =>
      intro j i Ik Rk mk ls hij hk er eR1 em hmk
      exfalso; omega
    | succ k ih2 =>
      intro j i Ik Rk mk ls hij hk er eR1 em hmk H locs hP hD hS hl
      refine lv_iload_n hx hb dX5_releases_2 rfl (lv_at hl 3 rfl) ?_
      refine lv_aload_n hx hb dX5_releases_3 rfl (lv_at hl 0 rfl) ?_
      refine va_get (D := (dC, dI)) (ci := 5) (v := .ref (a 1)) (C := RX5) (T := TX5) (N := 32) hx hb hts hin5 hown hK hP 0 rfl rfl 1 (by decide) f_9 (fun _ h9 => h9) rfl dX5_releases_4 ?_
      refine lv_iconst (v := 0) hx hb dX5_releases_7 (by decide) ?_
      refine wI_alv (v := nI n) hx hb hK hP 1 0 rfl rfl 0 rfl (by omega) (by decide) (by rw [eR1]; exact hS0) dX5_releases_8 ?_
      refine lv_icmp_ge (tgt := 64) hx hb dX5_releases_9 (by decide) (fun c_9 => ?_) (fun c_9 => ?_)
      · have e_j : j = 0 := by have := (nI_leI (a := n) (b := i) (by omega) (by omega)).mp c_9; omega
        have hP9 : va_P (dC, dI) vwCl (wMdl cy m0 a Ik Rk) H := hP
        have hD9 : va_D A (wMdl cy m0 a Ik Rk) := hD
        exact W.vret hx hb hr (fun t ht hW => ⟨⟨(Ik, Rk), rfl, (by rw [← er, e_j]; rfl), by rw [ht]; exact hP9, hD9⟩, hS.F ht⟩) hS.2.2 dX5_releases_64
      · have hlt : i < n := Nat.lt_of_not_le (fun h => c_9 (nI_le h (by omega)))
        obtain ⟨j, rfl⟩ : ∃ z, j = z + 1 := ⟨j - 1, by omega⟩
        refine lv_iload_n hx hb dX5_releases_12 rfl (lv_at hl 1 rfl) ?_
        refine lv_aload_n hx hb dX5_releases_13 rfl (lv_at hl 0 rfl) ?_
        refine lv_iload_n hx hb dX5_releases_14 rfl (lv_at hl 3 rfl) ?_
        refine vp_callSi (va_runV (As := [.int (nI i)]) (rest := [.int (nI v)]) ⟨hx, hb, hml, hown, hts⟩ (c_X5_periodOf l dC dI cy m0 a Ik Rk  i (by omega) (by rw [eR1]; exact hG _ hlt)) (cwV 1 hts gX5_releases_X5_periodOf rfl rfl rfl (by decide +kernel) ⟨Nat.le_of_ble_eq_true rfl, Nat.le_of_ble_eq_true rfl⟩) ⟨bl_ro, va_recv hK hP (ci := 5) (q0 := 0) rfl rfl, pr_ro hP hE⟩ rfl rfl hl.1 rfl (lv_room (Nat.le_of_ble_eq_true rfl)) dX5_releases_15 ⟨Nat.le_of_ble_eq_true rfl, Nat.le_of_ble_eq_true rfl⟩).run (fun r e_r => ?_)
        subst e_r
        refine lv_irem hx hb dX5_releases_18 (per_pos _ _) ?_
        refine lv_if_ne (tgt := 58) hx hb dX5_releases_19 (by decide) (fun c_19 => ?_) (fun c_19 => ?_)
        · refine lv_iinc (v := nI (i + 1)) (lv' := [(3, .int (nI (i + 1))), (0, .ref m0), (1, .int (nI v)), (2, .int p1)]) hx hb dX5_releases_58 hl (k := 3) rfl (nI_1 _) (by decide) rfl (fun ls hl => ?_)
          refine lv_goto (tgt := 2) hx hb dX5_releases_61 (by decide) ?_
          exact ih2 j (i + 1) _ _ mk ls (by omega) (by omega) (by rw [← er, rlsR, rls1R, if_neg c_19]) eR1 em (by omega) _ _ hP hD hS (lv_sub hl [1, 2, 3, 0] rfl)
        · refine lv_aload_n hx hb dX5_releases_22 rfl (lv_at hl 0 rfl) ?_
          refine va_get (D := (dC, dI)) (ci := 5) (v := .int (Ik 29)) (C := RX5) (T := TX5) (N := 32) hx hb hts hin5 hown hK hP 0 rfl rfl 29 (by decide) f_184 (fun _ h9 => h9) rfl dX5_releases_23 ?_
          refine lv_iconst (v := 1) hx hb dX5_releases_26 (by decide) ?_
          refine lv_icmp_ne (tgt := 51) hx hb dX5_releases_27 (by decide) (fun c_27 => ?_) (fun c_27 => ?_)
          · refine lv_aload_n hx hb dX5_releases_51 rfl (lv_at hl 0 rfl) ?_
            refine lv_iload_n hx hb dX5_releases_52 rfl (lv_at hl 3 rfl) ?_
            refine lv_iload_n hx hb dX5_releases_53 rfl (lv_at hl 1 rfl) ?_
            refine lv_iload_n hx hb dX5_releases_54 rfl (lv_at hl 2 rfl) ?_
            have hPc := hP.sub (ws' := wMdl cy m0 a Ik Rk) [0, 1, 2, 3, 4, 5, 6, 7, 8, 9, 10, 11, 12] rfl
            have hDc := hD.sub (ws' := wMdl cy m0 a Ik Rk) [0, 1, 2, 3, 4, 5, 6, 7, 8, 9, 10, 11, 12] (by decide) rfl
            have hFc := va_free (wc := wMdl cy m0 a Ik Rk) hD hS hA [0, 1, 2, 3, 4, 5, 6, 7, 8, 9, 10, 11, 12] rfl
            refine va_callv (va_runV (As := [.int (nI i), .int (nI v), .int p1]) (rest := []) ⟨hx, hb, hml, hown, hts⟩ (c_X5_adds l dC dI cy H.size m0 a Ik Rk mk (by omega) em i (by omega) v p1) (cwV 3 hts gX5_releases_X5_adds rfl rfl rfl (by decide +kernel) ⟨Nat.le_of_ble_eq_true rfl, Nat.le_of_ble_eq_true rfl⟩) ⟨bl_in, va_recv hK hPc (ci := 5) (q0 := 0) rfl rfl, pr_in hPc hE hDc⟩ rfl rfl hl.1 rfl (lv_room (Nat.le_of_ble_eq_true rfl)) dX5_releases_55 ⟨Nat.le_of_ble_eq_true rfl, Nat.le_of_ble_eq_true rfl⟩) hS (fun q _ h => hFc q h) hFc (fun u t H1 locs ht hvm hw hB hz1 hk1 hS => ?_)
            obtain ⟨I_55, R_55⟩ := u
            have e_55 : (I_55, R_55) = _ := hw
            obtain ⟨hP1, hD1⟩ := hB
            rw [ht] at hP1
            obtain ⟨hP, hD⟩ := va_join (wr := []) (w1 := wMdl cy m0 a I_55 R_55) hP hD [0, 1, 2, 3, 4, 5, 6, 7, 8, 9, 10, 11, 12] [] rfl rfl (by decide) (by decide) hk1 hFc hP1 hD1
            have hP : va_P (dC, dI) vwCl (wMdl cy m0 a I_55 R_55) H1 := hP.sub [0, 1, 2, 3, 4, 5, 6, 7, 8, 9, 10, 11, 12] rfl
            have hD : va_D A (wMdl cy m0 a I_55 R_55) := hD.sub [0, 1, 2, 3, 4, 5, 6, 7, 8, 9, 10, 11, 12] (by decide) rfl
            clear hz1 hk1 hPc hDc hFc hP1 hD1
            generalize H1 = H at hP hS ⊢
            refine lv_iinc (v := nI (i + 1)) (lv' := [(3, .int (nI (i + 1))), (0, .ref m0), (1, .int (nI v)), (2, .int p1)]) hx hb dX5_releases_58 hl (k := 3) rfl (nI_1 _) (by decide) rfl (fun ls hl => ?_)
            refine lv_goto (tgt := 2) hx hb dX5_releases_61 (by decide) ?_
            exact ih2 j (i + 1) _ _ (mk + 1) ls (by omega) (by omega) (by rw [← er, rlsR, rls1R, if_pos c_19, if_neg (fun h => c_27 h.1), ← e_55]) ((rAdd_28 e_55 em).2.trans eR1) (rAdd_28 e_55 em).1 (by omega) _ _ hP hD hS (lv_sub hl [1, 2, 3, 0] rfl)
          · refine lv_aload_n hx hb dX5_releases_30 rfl (lv_at hl 0 rfl) ?_
            refine lv_iload_n hx hb dX5_releases_31 rfl (lv_at hl 3 rfl) ?_
            refine vp_callSi (va_runV (As := [.int (nI i)]) (rest := []) ⟨hx, hb, hml, hown, hts⟩ (c_X5_isHighTask l dC dI cy m0 a Ik Rk  i (by omega)) (cwV 1 hts gX5_releases_X5_isHighTask rfl rfl rfl (by decide +kernel) ⟨Nat.le_of_ble_eq_true rfl, Nat.le_of_ble_eq_true rfl⟩) ⟨bl_ro, va_recv hK hP (ci := 5) (q0 := 0) rfl rfl, pr_ro hP hE⟩ rfl rfl hl.1 rfl (lv_room (Nat.le_of_ble_eq_true rfl)) dX5_releases_32 ⟨Nat.le_of_ble_eq_true rfl, Nat.le_of_ble_eq_true rfl⟩).run (fun r e_r => ?_)
            subst e_r
            refine lv_if_ne (tgt := 51) hx hb dX5_releases_35 (by decide) (fun c_35 => ?_) (fun c_35 => ?_)
            · refine lv_aload_n hx hb dX5_releases_51 rfl (lv_at hl 0 rfl) ?_
              refine lv_iload_n hx hb dX5_releases_52 rfl (lv_at hl 3 rfl) ?_
              refine lv_iload_n hx hb dX5_releases_53 rfl (lv_at hl 1 rfl) ?_
              refine lv_iload_n hx hb dX5_releases_54 rfl (lv_at hl 2 rfl) ?_
              have hPc := hP.sub (ws' := wMdl cy m0 a Ik Rk) [0, 1, 2, 3, 4, 5, 6, 7, 8, 9, 10, 11, 12] rfl
              have hDc := hD.sub (ws' := wMdl cy m0 a Ik Rk) [0, 1, 2, 3, 4, 5, 6, 7, 8, 9, 10, 11, 12] (by decide) rfl
              have hFc := va_free (wc := wMdl cy m0 a Ik Rk) hD hS hA [0, 1, 2, 3, 4, 5, 6, 7, 8, 9, 10, 11, 12] rfl
              refine va_callv (va_runV (As := [.int (nI i), .int (nI v), .int p1]) (rest := []) ⟨hx, hb, hml, hown, hts⟩ (c_X5_adds l dC dI cy H.size m0 a Ik Rk mk (by omega) em i (by omega) v p1) (cwV 3 hts gX5_releases_X5_adds rfl rfl rfl (by decide +kernel) ⟨Nat.le_of_ble_eq_true rfl, Nat.le_of_ble_eq_true rfl⟩) ⟨bl_in, va_recv hK hPc (ci := 5) (q0 := 0) rfl rfl, pr_in hPc hE hDc⟩ rfl rfl hl.1 rfl (lv_room (Nat.le_of_ble_eq_true rfl)) dX5_releases_55 ⟨Nat.le_of_ble_eq_true rfl, Nat.le_of_ble_eq_true rfl⟩) hS (fun q _ h => hFc q h) hFc (fun u t H1 locs ht hvm hw hB hz1 hk1 hS => ?_)
              obtain ⟨I_55, R_55⟩ := u
              have e_55 : (I_55, R_55) = _ := hw
              obtain ⟨hP1, hD1⟩ := hB
              rw [ht] at hP1
              obtain ⟨hP, hD⟩ := va_join (wr := []) (w1 := wMdl cy m0 a I_55 R_55) hP hD [0, 1, 2, 3, 4, 5, 6, 7, 8, 9, 10, 11, 12] [] rfl rfl (by decide) (by decide) hk1 hFc hP1 hD1
              have hP : va_P (dC, dI) vwCl (wMdl cy m0 a I_55 R_55) H1 := hP.sub [0, 1, 2, 3, 4, 5, 6, 7, 8, 9, 10, 11, 12] rfl
              have hD : va_D A (wMdl cy m0 a I_55 R_55) := hD.sub [0, 1, 2, 3, 4, 5, 6, 7, 8, 9, 10, 11, 12] (by decide) rfl
              clear hz1 hk1 hPc hDc hFc hP1 hD1
              generalize H1 = H at hP hS ⊢
              refine lv_iinc (v := nI (i + 1)) (lv' := [(3, .int (nI (i + 1))), (0, .ref m0), (1, .int (nI v)), (2, .int p1)]) hx hb dX5_releases_58 hl (k := 3) rfl (nI_1 _) (by decide) rfl (fun ls hl => ?_)
              refine lv_goto (tgt := 2) hx hb dX5_releases_61 (by decide) ?_
              exact ih2 j (i + 1) _ _ (mk + 1) ls (by omega) (by omega) (by rw [← er, rlsR, rls1R, if_pos c_19, if_neg (fun h => c_35 (b01.mpr h.2)), ← e_55]) ((rAdd_28 e_55 em).2.trans eR1) (rAdd_28 e_55 em).1 (by omega) _ _ hP hD hS (lv_sub hl [1, 2, 3, 0] rfl)
            · refine lv_aload_n hx hb dX5_releases_38 rfl (lv_at hl 0 rfl) ?_
              refine lv_dup hx hb dX5_releases_39 rfl ?_
              refine va_get (D := (dC, dI)) (ci := 5) (v := .int (Ik 16)) (C := RX5) (T := TX5) (N := 32) hx hb hts hin5 hown hK hP 0 rfl rfl 16 (by decide) f_187 (fun _ h9 => h9) rfl dX5_releases_40 ?_
              refine lv_iconst (v := 1) hx hb dX5_releases_43 (by decide) ?_
              refine lv_iadd hx hb dX5_releases_44 ?_
              refine va_put (D := (dC, dI)) (ci := 5) (v := .int ((Ik 16) + 1)) (ty := .int) (C := RX5) (T := TX5) (N := 32) hx hb hts hin5 tyX5 tyX5_ok nmX5 hown hK hP hD hS 0 rfl rfl 16 (by decide) f_187 (fun _ h9 => h9) rfl (by decide +kernel) rfl rfl (Nat.le_of_ble_eq_true rfl) dX5_releases_45 (fun H locs hP hD hS => ?_)
              have hP : va_P (dC, dI) vwCl (wMdl cy m0 a (upd Ik 16 ((Ik 16) + 1)) Rk) H := hP
              have hD : va_D A (wMdl cy m0 a (upd Ik 16 ((Ik 16) + 1)) Rk) := hD
              refine lv_goto (tgt := 58) hx hb dX5_releases_48 (by decide) ?_
              refine lv_iinc (v := nI (i + 1)) (lv' := [(3, .int (nI (i + 1))), (0, .ref m0), (1, .int (nI v)), (2, .int p1)]) hx hb dX5_releases_58 hl (k := 3) rfl (nI_1 _) (by decide) rfl (fun ls hl => ?_)
              refine lv_goto (tgt := 2) hx hb dX5_releases_61 (by decide) ?_
              exact ih2 j (i + 1) (upd Ik 16 (Ik 16 + 1)) Rk mk ls (by omega) (by omega) (by rw [← er, rlsR, rls1R, if_pos c_19, if_pos ⟨c_27, b01.mp c_35⟩]) eR1 em (by omega) _ _ hP hD hS (lv_sub hl [1, 2, 3, 0] rfl)
  exact loop2 (n + 1) n 0 I R mj ls (by omega) (by omega) rfl rfl hI28 (by omega) _ _ hP hD hS (lv_sub hl [1, 2, 3, 0] rfl)
set_option maxHeartbeats 1000000 in
set_option maxRecDepth 100000 in
/-- a job ends -/
theorem c_X5_ends (l : Launch) (dC : Nat → ClassId) (dI : Nat → Nat → Nat) (cy : Nat → ClassId) (sz : Nat) (m0 : Nat) (a : Nat → Nat) (I : Nat → Int32) (R : vG) (mj : Nat) (hm : mj < 1700) (hI28 : I 28 = nI (mj + 1)) (j : Nat) (hjm : j ≤ mj) (tj : Nat) (ht8 : tj < 8) (eT : R 24 j = nI tj) (p1 p2 : Int32) : Met l yX5_ends wsX5_ends ({ frames := 1, cells := 0, slots := 0, locals := 22 }) (va_Pc [.ref m0, .int (nI j), .int p1, .int p2] (pIn dC dI cy (wMdl cy m0 a I R) sz)) (va_Qv (fun (u : MSt) => u = endR j p1 p2 (I, R)) (fun (u : (Nat → Int32) × vG) t => va_P (dC, dI) vwCl (wMdl cy m0 a u.1 u.2) t.heap ∧ va_D (va_A (wMdl cy m0 a I R) sz) (wMdl cy m0 a u.1 u.2)) (va_A (wMdl cy m0 a I R) sz)) 0 0 (va_A (wMdl cy m0 a I R) sz) := by
  refine Met.ofW (cc := cX5_ends) (maxL := 6) (ret := none) (by decide) rfl ?_
  intro p e s m args below meth c s₁ B hml hv
  obtain ⟨rfl, hsz, hP, hE, hD0⟩ := hv
  have hK := hE.1
  subst hsz
  have hD := hD0.self (sz := s.heap.size)
  generalize hAe : va_A (wMdl cy m0 a I R) s.heap.size = A at hD ⊢
  have hA : ∀ q : Nat, s.heap.size ≤ q → A q := fun q h => by rw [← hAe]; exact Or.inr h
  have hS : va_S A s.heap s.heap [] := va_S.rf
  have hP : va_P (dC, dI) vwCl (wMdl cy m0 a I R) s.heap := hP
  have hx := B.exec
  have hb := B.bytes
  have hr := B.returns
  have hts := atoms_spec (ws := wsX5_ends) B.pre
  have hown : s.vm.findClass RX5 = some m.cls := findClass_of_methodNamed B.named
  have hlocks := B.notSynchronized
  have hin5 : ∀ w ∈ u_ws RX5 TX5 32, w ∈ wsX5_ends := by decide +kernel
  have f_204 := hts (.fieldLink RX5 204 "DeadlineAdmissionModel" "completed" "I") (by decide +kernel)
  have f_207 := hts (.fieldLink RX5 207 "DeadlineAdmissionModel" "late" "I") (by decide +kernel)
  have f_29 := hts (.fieldLink RX5 29 "DeadlineAdmissionModel" "responses" "[I") (by decide +kernel)
  have f_38 := hts (.fieldLink RX5 38 "DeadlineAdmissionModel" "jobTask" "[I") (by decide +kernel)
  have f_41 := hts (.fieldLink RX5 41 "DeadlineAdmissionModel" "jobRelease" "[I") (by decide +kernel)
  have f_9 := hts (.fieldLink RX5 9 "DeadlineAdmissionModel" "s" "[I") (by decide +kernel)
  have hl := lv_entry ([.ref m0, .int (nI j), .int p1, .int p2]) (n := 6) (Nat.le_of_ble_eq_true rfl)
  rw [lg_entry_eq]
  generalize (lg_sl ([.ref m0, .int (nI j), .int p1, .int p2]) ++ List.replicate (6 - (lg_sl ([.ref m0, .int (nI j), .int p1, .int p2])).length) Slot.unset).toArray = ls at hl ⊢
  have hl : lv_has ls 6 [(0, .ref m0), (1, .int (nI j)), (2, .int p1), (3, .int p2)] := hl
  refine lv_aload_n hx hb dX5_ends_0 rfl (lv_at hl 0 rfl) ?_
  refine va_get (D := (dC, dI)) (ci := 5) (v := .ref (a 24)) (C := RX5) (T := TX5) (N := 32) hx hb hts hin5 hown hK hP 0 rfl rfl 24 (by decide) f_38 (fun _ h9 => h9) rfl dX5_ends_1 ?_
  refine lv_iload_n hx hb dX5_ends_4 rfl (lv_at hl 1 rfl) ?_
  refine wI_alv (v := nI tj) hx hb hK hP 9 0 rfl rfl j rfl (by omega) (by decide) eT dX5_ends_5 ?_
  refine lv_istore (lv' := [(4, .int (nI tj)), (0, .ref m0), (1, .int (nI j)), (2, .int p1), (3, .int p2)]) hx hb dX5_ends_6 hl (by decide) rfl (fun ls hl => ?_)
  refine lv_iload_n hx hb dX5_ends_8 rfl (lv_at hl 3 rfl) ?_
  refine lv_aload_n hx hb dX5_ends_9 rfl (lv_at hl 1 rfl) ?_
  refine va_get (D := (dC, dI)) (ci := 5) (v := .ref (a 25)) (C := RX5) (T := TX5) (N := 32) hx hb hts hin5 hown hK hP 0 rfl rfl 25 (by decide) f_41 (fun _ h9 => h9) rfl dX5_ends_10 ?_
  refine lv_iload_n hx hb dX5_ends_13 rfl (lv_at hl 2 rfl) ?_
  refine wI_alv (v := R 25 j) hx hb hK hP 10 0 rfl rfl j rfl (by omega) (by decide) rfl dX5_ends_14 ?_
  refine lv_isub hx hb dX5_ends_15 ?_
  refine lv_istore (lv' := [(5, .int (p1 - (R 25 j))), (4, .int (nI tj)), (0, .ref m0), (1, .int (nI j)), (2, .int p1), (3, .int p2)]) hx hb dX5_ends_16 hl (by decide) rfl (fun ls hl => ?_)
  refine lv_aload_n hx hb dX5_ends_18 rfl (lv_at hl 2 rfl) ?_
  refine lv_dup hx hb dX5_ends_19 rfl ?_
  refine va_get (D := (dC, dI)) (ci := 5) (v := .int (I 15)) (C := RX5) (T := TX5) (N := 32) hx hb hts hin5 hown hK hP 0 rfl rfl 15 (by decide) f_204 (fun _ h9 => h9) rfl dX5_ends_20 ?_
  refine lv_iconst (v := 1) hx hb dX5_ends_23 (by decide) ?_
  refine lv_iadd hx hb dX5_ends_24 ?_
  refine va_put (D := (dC, dI)) (ci := 5) (v := .int ((I 15) + 1)) (ty := .int) (C := RX5) (T := TX5) (N := 32) hx hb hts hin5 tyX5 tyX5_ok nmX5 hown hK hP hD hS 0 rfl rfl 15 (by decide) f_204 (fun _ h9 => h9) rfl (by decide +kernel) rfl rfl (Nat.le_of_ble_eq_true rfl) dX5_ends_25 (fun H locs hP hD hS => ?_)
  have hP : va_P (dC, dI) vwCl (wMdl cy m0 a (upd I 15 ((I 15) + 1)) R) H := hP
  have hD : va_D A (wMdl cy m0 a (upd I 15 ((I 15) + 1)) R) := hD
  refine lv_aload_n hx hb dX5_ends_28 rfl (lv_at hl 2 rfl) ?_
  refine va_get (D := (dC, dI)) (ci := 5) (v := .ref (a 19)) (C := RX5) (T := TX5) (N := 32) hx hb hts hin5 hown hK hP 0 rfl rfl 19 (by decide) f_29 (fun _ h9 => h9) rfl dX5_ends_29 ?_
  refine lv_iload hx hb dX5_ends_32 (lv_at hl 1 rfl) ?_
  refine lv_iload hx hb dX5_ends_34 (lv_at hl 0 rfl) ?_
  refine lv_aload_n hx hb dX5_ends_36 rfl (lv_at hl 2 rfl) ?_
  refine va_get (D := (dC, dI)) (ci := 5) (v := .ref (a 19)) (C := RX5) (T := TX5) (N := 32) hx hb hts hin5 hown hK hP 0 rfl rfl 19 (by decide) f_29 (fun _ h9 => h9) rfl dX5_ends_37 ?_
  refine lv_iload hx hb dX5_ends_40 (lv_at hl 1 rfl) ?_
  refine wI_alv (v := R 19 tj) hx hb hK hP 6 0 rfl rfl tj rfl (by omega) (by decide) rfl dX5_ends_42 ?_
  refine lv_icmp_le (tgt := 51) hx hb dX5_ends_43 (by decide) (fun c_43 => ?_) (fun c_43 => ?_)
  · refine lv_aload_n hx hb dX5_ends_51 rfl (lv_at hl 2 rfl) ?_
    refine va_get (D := (dC, dI)) (ci := 5) (v := .ref (a 19)) (C := RX5) (T := TX5) (N := 32) hx hb hts hin5 hown hK hP 0 rfl rfl 19 (by decide) f_29 (fun _ h9 => h9) rfl dX5_ends_52 ?_
    refine lv_iload hx hb dX5_ends_55 (lv_at hl 1 rfl) ?_
    refine wI_alv (v := R 19 tj) hx hb hK hP 6 0 rfl rfl tj rfl (by omega) (by decide) rfl dX5_ends_57 ?_
    refine wI_ast hx hb hK hP hD hS 6 0 rfl rfl tj rfl (by omega) (by decide) dX5_ends_58 (fun H locs hP hD hS => ?_)
    have hP : va_P (dC, dI) vwCl (wMdl cy m0 a (upd I 15 ((I 15) + 1)) (upr R 19 (upd (R 19) tj (R 19 tj)))) H := hP
    have hD : va_D A (wMdl cy m0 a (upd I 15 ((I 15) + 1)) (upr R 19 (upd (R 19) tj (R 19 tj)))) := hD
    refine lv_aload_n hx hb dX5_ends_59 rfl (lv_at hl 2 rfl) ?_
    refine lv_dup hx hb dX5_ends_60 rfl ?_
    refine va_get (D := (dC, dI)) (ci := 5) (v := .int (I 31)) (C := RX5) (T := TX5) (N := 32) hx hb hts hin5 hown hK hP 0 rfl rfl 31 (by decide) f_207 (fun _ h9 => h9) rfl dX5_ends_61 ?_
    refine lv_iload hx hb dX5_ends_64 (lv_at hl 0 rfl) ?_
    refine lv_aload_n hx hb dX5_ends_66 rfl (lv_at hl 2 rfl) ?_
    refine va_get (D := (dC, dI)) (ci := 5) (v := .ref (a 1)) (C := RX5) (T := TX5) (N := 32) hx hb hts hin5 hown hK hP 0 rfl rfl 1 (by decide) f_9 (fun _ h9 => h9) rfl dX5_ends_67 ?_
    refine lv_bipush (v := 10) hx hb dX5_ends_70 (by decide) ?_
    refine lv_iload hx hb dX5_ends_72 (lv_at hl 1 rfl) ?_
    refine lv_iadd hx hb dX5_ends_74 ?_
    refine wI_alv (v := Gs (R 1) 1 tj) hx hb hK hP 1 0 rfl rfl (10 + tj) (nadd rfl rfl) (by omega) (by decide) rfl dX5_ends_75 ?_
    refine lv_icmp_le (tgt := 104) hx hb dX5_ends_76 (by decide) (fun c_76 => ?_) (fun c_76 => ?_)
    · refine lv_iconst (v := 0) hx hb dX5_ends_104 (by decide) ?_
      refine lv_iadd hx hb dX5_ends_105 ?_
      refine va_put (D := (dC, dI)) (ci := 5) (v := .int ((I 31) + 0)) (ty := .int) (C := RX5) (T := TX5) (N := 32) hx hb hts hin5 tyX5 tyX5_ok nmX5 hown hK hP hD hS 0 rfl rfl 31 (by decide) f_207 (fun _ h9 => h9) rfl (by decide +kernel) rfl rfl (Nat.le_of_ble_eq_true rfl) dX5_ends_106 (fun H locs hP hD hS => ?_)
      have hP : va_P (dC, dI) vwCl (wMdl cy m0 a (upd (upd I 15 ((I 15) + 1)) 31 ((I 31) + 0)) (upr R 19 (upd (R 19) tj (R 19 tj)))) H := hP
      have hD : va_D A (wMdl cy m0 a (upd (upd I 15 ((I 15) + 1)) 31 ((I 31) + 0)) (upr R 19 (upd (R 19) tj (R 19 tj)))) := hD
      refine lv_aload_n hx hb dX5_ends_109 rfl (lv_at hl 2 rfl) ?_
      refine lv_iload_n hx hb dX5_ends_110 rfl (lv_at hl 3 rfl) ?_
      have hPc := hP.sub (ws' := wMdl cy m0 a (upd (upd I 15 ((I 15) + 1)) 31 ((I 31) + 0)) (upr R 19 (upd (R 19) tj (R 19 tj)))) [0, 1, 2, 3, 4, 5, 6, 7, 8, 9, 10, 11, 12] rfl
      have hDc := hD.sub (ws' := wMdl cy m0 a (upd (upd I 15 ((I 15) + 1)) 31 ((I 31) + 0)) (upr R 19 (upd (R 19) tj (R 19 tj)))) [0, 1, 2, 3, 4, 5, 6, 7, 8, 9, 10, 11, 12] (by decide) rfl
      have hFc := va_free (wc := wMdl cy m0 a (upd (upd I 15 ((I 15) + 1)) 31 ((I 31) + 0)) (upr R 19 (upd (R 19) tj (R 19 tj)))) hD hS hA [0, 1, 2, 3, 4, 5, 6, 7, 8, 9, 10, 11, 12] rfl
      refine va_callv (va_runV (As := [.int (nI j)]) (rest := []) ⟨hx, hb, hml, hown, hts⟩ (c_X5_forgets l dC dI cy H.size m0 a (upd (upd I 15 ((I 15) + 1)) 31 ((I 31) + 0)) (upr R 19 (upd (R 19) tj (R 19 tj))) mj hm hI28 j (by omega)) (cwV 1 hts gX5_ends_X5_forgets rfl rfl rfl (by decide +kernel) ⟨Nat.le_of_ble_eq_true rfl, Nat.le_of_ble_eq_true rfl⟩) ⟨bl_in, va_recv hK hPc (ci := 5) (q0 := 0) rfl rfl, pr_in hPc hE hDc⟩ rfl rfl hl.1 rfl (lv_room (Nat.le_of_ble_eq_true rfl)) dX5_ends_111 ⟨Nat.le_of_ble_eq_true rfl, Nat.le_of_ble_eq_true rfl⟩) hS (fun q _ h => hFc q h) hFc (fun u t H1 locs ht hvm hw hB hz1 hk1 hS => ?_)
      obtain rfl : u = _ := hw
      simp only [fgt, cm1 (I := upd (upd I 15 ((I 15) + 1)) 31 ((I 31) + 0)) hI28 (show mj < 2000 by omega)] at hB
      obtain ⟨hP1, hD1⟩ := hB
      rw [ht] at hP1
      obtain ⟨hP, hD⟩ := va_join (wr := []) (w1 := wMdl cy m0 a (upd (upd (upd I 15 ((I 15) + 1)) 28 (I 28 - 1)) 31 ((I 31) + 0)) (upr (upr (upr (upr (upr R 19 (upd (R 19) tj (R 19 tj))) 24 (shf (R 24) j mj)) 25 (shf (R 25) j mj)) 26 (shf (R 26) j mj)) 27 (shf (R 27) j mj))) hP hD [0, 1, 2, 3, 4, 5, 6, 7, 8, 9, 10, 11, 12] [] rfl rfl (by decide) (by decide) hk1 hFc hP1 hD1
      have hP : va_P (dC, dI) vwCl (wMdl cy m0 a (upd (upd (upd I 15 ((I 15) + 1)) 28 (I 28 - 1)) 31 ((I 31) + 0)) (upr (upr (upr (upr (upr R 19 (upd (R 19) tj (R 19 tj))) 24 (shf (R 24) j mj)) 25 (shf (R 25) j mj)) 26 (shf (R 26) j mj)) 27 (shf (R 27) j mj))) H1 := hP.sub [0, 1, 2, 3, 4, 5, 6, 7, 8, 9, 10, 11, 12] rfl
      have hD : va_D A (wMdl cy m0 a (upd (upd (upd I 15 ((I 15) + 1)) 28 (I 28 - 1)) 31 ((I 31) + 0)) (upr (upr (upr (upr (upr R 19 (upd (R 19) tj (R 19 tj))) 24 (shf (R 24) j mj)) 25 (shf (R 25) j mj)) 26 (shf (R 26) j mj)) 27 (shf (R 27) j mj))) := hD.sub [0, 1, 2, 3, 4, 5, 6, 7, 8, 9, 10, 11, 12] (by decide) rfl
      clear hz1 hk1 hPc hDc hFc hP1 hD1
      generalize H1 = H at hP hS ⊢
      have hP9 : va_P (dC, dI) vwCl (wMdl cy m0 a (upd (upd (upd I 15 ((I 15) + 1)) 28 (I 28 - 1)) 31 ((I 31) + 0)) (upr (upr (upr (upr (upr R 19 (upd (R 19) tj (R 19 tj))) 24 (shf (R 24) j mj)) 25 (shf (R 25) j mj)) 26 (shf (R 26) j mj)) 27 (shf (R 27) j mj))) H := hP
      have hD9 : va_D A (wMdl cy m0 a (upd (upd (upd I 15 ((I 15) + 1)) 28 (I 28 - 1)) 31 ((I 31) + 0)) (upr (upr (upr (upr (upr R 19 (upd (R 19) tj (R 19 tj))) 24 (shf (R 24) j mj)) 25 (shf (R 25) j mj)) 26 (shf (R 26) j mj)) 27 (shf (R 27) j mj))) := hD
      exact W.vret hx hb hr (fun t ht hW => ⟨⟨(upd (upd (upd I 15 ((I 15) + 1)) 28 (I 28 - 1)) 31 ((I 31) + 0), upr (upr (upr (upr (upr R 19 (upd (R 19) tj (R 19 tj))) 24 (shf (R 24) j mj)) 25 (shf (R 25) j mj)) 26 (shf (R 26) j mj)) 27 (shf (R 27) j mj)), rfl, (by simp only [endR, eT, nI_clamp (show tj < 2 ^ 31 by omega), cm1 hI28 (show mj < 2000 by omega), if_pos c_43, if_pos c_76]; rfl), by rw [ht]; exact hP9, hD9⟩, hS.F ht⟩) hS.2.2 dX5_ends_114
    · refine lv_aload_n hx hb dX5_ends_79 rfl (lv_at hl 2 rfl) ?_
      refine va_get (D := (dC, dI)) (ci := 5) (v := .ref (a 25)) (C := RX5) (T := TX5) (N := 32) hx hb hts hin5 hown hK hP 0 rfl rfl 25 (by decide) f_41 (fun _ h9 => h9) rfl dX5_ends_80 ?_
      refine lv_iload_n hx hb dX5_ends_83 rfl (lv_at hl 3 rfl) ?_
      refine wI_alv (v := R 25 j) hx hb hK hP 10 0 rfl rfl j rfl (by omega) (by decide) rfl dX5_ends_84 ?_
      refine lv_aload_n hx hb dX5_ends_85 rfl (lv_at hl 2 rfl) ?_
      refine va_get (D := (dC, dI)) (ci := 5) (v := .ref (a 1)) (C := RX5) (T := TX5) (N := 32) hx hb hts hin5 hown hK hP 0 rfl rfl 1 (by decide) f_9 (fun _ h9 => h9) rfl dX5_ends_86 ?_
      refine lv_bipush (v := 10) hx hb dX5_ends_89 (by decide) ?_
      refine lv_iload hx hb dX5_ends_91 (lv_at hl 1 rfl) ?_
      refine lv_iadd hx hb dX5_ends_93 ?_
      refine wI_alv (v := Gs (R 1) 1 tj) hx hb hK hP 1 0 rfl rfl (10 + tj) (nadd rfl rfl) (by omega) (by decide) rfl dX5_ends_94 ?_
      refine lv_iadd hx hb dX5_ends_95 ?_
      refine lv_iload_n hx hb dX5_ends_96 rfl (lv_at hl 5 rfl) ?_
      refine lv_icmp_gt (tgt := 104) hx hb dX5_ends_97 (by decide) (fun c_97 => ?_) (fun c_97 => ?_)
      · refine lv_iconst (v := 0) hx hb dX5_ends_104 (by decide) ?_
        refine lv_iadd hx hb dX5_ends_105 ?_
        refine va_put (D := (dC, dI)) (ci := 5) (v := .int ((I 31) + 0)) (ty := .int) (C := RX5) (T := TX5) (N := 32) hx hb hts hin5 tyX5 tyX5_ok nmX5 hown hK hP hD hS 0 rfl rfl 31 (by decide) f_207 (fun _ h9 => h9) rfl (by decide +kernel) rfl rfl (Nat.le_of_ble_eq_true rfl) dX5_ends_106 (fun H locs hP hD hS => ?_)
        have hP : va_P (dC, dI) vwCl (wMdl cy m0 a (upd (upd I 15 ((I 15) + 1)) 31 ((I 31) + 0)) (upr R 19 (upd (R 19) tj (R 19 tj)))) H := hP
        have hD : va_D A (wMdl cy m0 a (upd (upd I 15 ((I 15) + 1)) 31 ((I 31) + 0)) (upr R 19 (upd (R 19) tj (R 19 tj)))) := hD
        refine lv_aload_n hx hb dX5_ends_109 rfl (lv_at hl 2 rfl) ?_
        refine lv_iload_n hx hb dX5_ends_110 rfl (lv_at hl 3 rfl) ?_
        have hPc := hP.sub (ws' := wMdl cy m0 a (upd (upd I 15 ((I 15) + 1)) 31 ((I 31) + 0)) (upr R 19 (upd (R 19) tj (R 19 tj)))) [0, 1, 2, 3, 4, 5, 6, 7, 8, 9, 10, 11, 12] rfl
        have hDc := hD.sub (ws' := wMdl cy m0 a (upd (upd I 15 ((I 15) + 1)) 31 ((I 31) + 0)) (upr R 19 (upd (R 19) tj (R 19 tj)))) [0, 1, 2, 3, 4, 5, 6, 7, 8, 9, 10, 11, 12] (by decide) rfl
        have hFc := va_free (wc := wMdl cy m0 a (upd (upd I 15 ((I 15) + 1)) 31 ((I 31) + 0)) (upr R 19 (upd (R 19) tj (R 19 tj)))) hD hS hA [0, 1, 2, 3, 4, 5, 6, 7, 8, 9, 10, 11, 12] rfl
        refine va_callv (va_runV (As := [.int (nI j)]) (rest := []) ⟨hx, hb, hml, hown, hts⟩ (c_X5_forgets l dC dI cy H.size m0 a (upd (upd I 15 ((I 15) + 1)) 31 ((I 31) + 0)) (upr R 19 (upd (R 19) tj (R 19 tj))) mj hm hI28 j (by omega)) (cwV 1 hts gX5_ends_X5_forgets rfl rfl rfl (by decide +kernel) ⟨Nat.le_of_ble_eq_true rfl, Nat.le_of_ble_eq_true rfl⟩) ⟨bl_in, va_recv hK hPc (ci := 5) (q0 := 0) rfl rfl, pr_in hPc hE hDc⟩ rfl rfl hl.1 rfl (lv_room (Nat.le_of_ble_eq_true rfl)) dX5_ends_111 ⟨Nat.le_of_ble_eq_true rfl, Nat.le_of_ble_eq_true rfl⟩) hS (fun q _ h => hFc q h) hFc (fun u t H1 locs ht hvm hw hB hz1 hk1 hS => ?_)
        obtain rfl : u = _ := hw
        simp only [fgt, cm1 (I := upd (upd I 15 ((I 15) + 1)) 31 ((I 31) + 0)) hI28 (show mj < 2000 by omega)] at hB
        obtain ⟨hP1, hD1⟩ := hB
        rw [ht] at hP1
        obtain ⟨hP, hD⟩ := va_join (wr := []) (w1 := wMdl cy m0 a (upd (upd (upd I 15 ((I 15) + 1)) 28 (I 28 - 1)) 31 ((I 31) + 0)) (upr (upr (upr (upr (upr R 19 (upd (R 19) tj (R 19 tj))) 24 (shf (R 24) j mj)) 25 (shf (R 25) j mj)) 26 (shf (R 26) j mj)) 27 (shf (R 27) j mj))) hP hD [0, 1, 2, 3, 4, 5, 6, 7, 8, 9, 10, 11, 12] [] rfl rfl (by decide) (by decide) hk1 hFc hP1 hD1
        have hP : va_P (dC, dI) vwCl (wMdl cy m0 a (upd (upd (upd I 15 ((I 15) + 1)) 28 (I 28 - 1)) 31 ((I 31) + 0)) (upr (upr (upr (upr (upr R 19 (upd (R 19) tj (R 19 tj))) 24 (shf (R 24) j mj)) 25 (shf (R 25) j mj)) 26 (shf (R 26) j mj)) 27 (shf (R 27) j mj))) H1 := hP.sub [0, 1, 2, 3, 4, 5, 6, 7, 8, 9, 10, 11, 12] rfl
        have hD : va_D A (wMdl cy m0 a (upd (upd (upd I 15 ((I 15) + 1)) 28 (I 28 - 1)) 31 ((I 31) + 0)) (upr (upr (upr (upr (upr R 19 (upd (R 19) tj (R 19 tj))) 24 (shf (R 24) j mj)) 25 (shf (R 25) j mj)) 26 (shf (R 26) j mj)) 27 (shf (R 27) j mj))) := hD.sub [0, 1, 2, 3, 4, 5, 6, 7, 8, 9, 10, 11, 12] (by decide) rfl
        clear hz1 hk1 hPc hDc hFc hP1 hD1
        generalize H1 = H at hP hS ⊢
        have hP9 : va_P (dC, dI) vwCl (wMdl cy m0 a (upd (upd (upd I 15 ((I 15) + 1)) 28 (I 28 - 1)) 31 ((I 31) + 0)) (upr (upr (upr (upr (upr R 19 (upd (R 19) tj (R 19 tj))) 24 (shf (R 24) j mj)) 25 (shf (R 25) j mj)) 26 (shf (R 26) j mj)) 27 (shf (R 27) j mj))) H := hP
        have hD9 : va_D A (wMdl cy m0 a (upd (upd (upd I 15 ((I 15) + 1)) 28 (I 28 - 1)) 31 ((I 31) + 0)) (upr (upr (upr (upr (upr R 19 (upd (R 19) tj (R 19 tj))) 24 (shf (R 24) j mj)) 25 (shf (R 25) j mj)) 26 (shf (R 26) j mj)) 27 (shf (R 27) j mj))) := hD
        exact W.vret hx hb hr (fun t ht hW => ⟨⟨(upd (upd (upd I 15 ((I 15) + 1)) 28 (I 28 - 1)) 31 ((I 31) + 0), upr (upr (upr (upr (upr R 19 (upd (R 19) tj (R 19 tj))) 24 (shf (R 24) j mj)) 25 (shf (R 25) j mj)) 26 (shf (R 26) j mj)) 27 (shf (R 27) j mj)), rfl, (by simp only [endR, eT, nI_clamp (show tj < 2 ^ 31 by omega), cm1 hI28 (show mj < 2000 by omega), if_pos c_43, if_neg c_76, if_pos c_97]; rfl), by rw [ht]; exact hP9, hD9⟩, hS.F ht⟩) hS.2.2 dX5_ends_114
      · refine lv_iconst (v := 1) hx hb dX5_ends_100 (by decide) ?_
        refine lv_goto (tgt := 105) hx hb dX5_ends_101 (by decide) ?_
        refine lv_iadd hx hb dX5_ends_105 ?_
        refine va_put (D := (dC, dI)) (ci := 5) (v := .int ((I 31) + 1)) (ty := .int) (C := RX5) (T := TX5) (N := 32) hx hb hts hin5 tyX5 tyX5_ok nmX5 hown hK hP hD hS 0 rfl rfl 31 (by decide) f_207 (fun _ h9 => h9) rfl (by decide +kernel) rfl rfl (Nat.le_of_ble_eq_true rfl) dX5_ends_106 (fun H locs hP hD hS => ?_)
        have hP : va_P (dC, dI) vwCl (wMdl cy m0 a (upd (upd I 15 ((I 15) + 1)) 31 ((I 31) + 1)) (upr R 19 (upd (R 19) tj (R 19 tj)))) H := hP
        have hD : va_D A (wMdl cy m0 a (upd (upd I 15 ((I 15) + 1)) 31 ((I 31) + 1)) (upr R 19 (upd (R 19) tj (R 19 tj)))) := hD
        refine lv_aload_n hx hb dX5_ends_109 rfl (lv_at hl 2 rfl) ?_
        refine lv_iload_n hx hb dX5_ends_110 rfl (lv_at hl 3 rfl) ?_
        have hPc := hP.sub (ws' := wMdl cy m0 a (upd (upd I 15 ((I 15) + 1)) 31 ((I 31) + 1)) (upr R 19 (upd (R 19) tj (R 19 tj)))) [0, 1, 2, 3, 4, 5, 6, 7, 8, 9, 10, 11, 12] rfl
        have hDc := hD.sub (ws' := wMdl cy m0 a (upd (upd I 15 ((I 15) + 1)) 31 ((I 31) + 1)) (upr R 19 (upd (R 19) tj (R 19 tj)))) [0, 1, 2, 3, 4, 5, 6, 7, 8, 9, 10, 11, 12] (by decide) rfl
        have hFc := va_free (wc := wMdl cy m0 a (upd (upd I 15 ((I 15) + 1)) 31 ((I 31) + 1)) (upr R 19 (upd (R 19) tj (R 19 tj)))) hD hS hA [0, 1, 2, 3, 4, 5, 6, 7, 8, 9, 10, 11, 12] rfl
        refine va_callv (va_runV (As := [.int (nI j)]) (rest := []) ⟨hx, hb, hml, hown, hts⟩ (c_X5_forgets l dC dI cy H.size m0 a (upd (upd I 15 ((I 15) + 1)) 31 ((I 31) + 1)) (upr R 19 (upd (R 19) tj (R 19 tj))) mj hm hI28 j (by omega)) (cwV 1 hts gX5_ends_X5_forgets rfl rfl rfl (by decide +kernel) ⟨Nat.le_of_ble_eq_true rfl, Nat.le_of_ble_eq_true rfl⟩) ⟨bl_in, va_recv hK hPc (ci := 5) (q0 := 0) rfl rfl, pr_in hPc hE hDc⟩ rfl rfl hl.1 rfl (lv_room (Nat.le_of_ble_eq_true rfl)) dX5_ends_111 ⟨Nat.le_of_ble_eq_true rfl, Nat.le_of_ble_eq_true rfl⟩) hS (fun q _ h => hFc q h) hFc (fun u t H1 locs ht hvm hw hB hz1 hk1 hS => ?_)
        obtain rfl : u = _ := hw
        simp only [fgt, cm1 (I := upd (upd I 15 ((I 15) + 1)) 31 ((I 31) + 1)) hI28 (show mj < 2000 by omega)] at hB
        obtain ⟨hP1, hD1⟩ := hB
        rw [ht] at hP1
        obtain ⟨hP, hD⟩ := va_join (wr := []) (w1 := wMdl cy m0 a (upd (upd (upd I 15 ((I 15) + 1)) 28 (I 28 - 1)) 31 ((I 31) + 1)) (upr (upr (upr (upr (upr R 19 (upd (R 19) tj (R 19 tj))) 24 (shf (R 24) j mj)) 25 (shf (R 25) j mj)) 26 (shf (R 26) j mj)) 27 (shf (R 27) j mj))) hP hD [0, 1, 2, 3, 4, 5, 6, 7, 8, 9, 10, 11, 12] [] rfl rfl (by decide) (by decide) hk1 hFc hP1 hD1
        have hP : va_P (dC, dI) vwCl (wMdl cy m0 a (upd (upd (upd I 15 ((I 15) + 1)) 28 (I 28 - 1)) 31 ((I 31) + 1)) (upr (upr (upr (upr (upr R 19 (upd (R 19) tj (R 19 tj))) 24 (shf (R 24) j mj)) 25 (shf (R 25) j mj)) 26 (shf (R 26) j mj)) 27 (shf (R 27) j mj))) H1 := hP.sub [0, 1, 2, 3, 4, 5, 6, 7, 8, 9, 10, 11, 12] rfl
        have hD : va_D A (wMdl cy m0 a (upd (upd (upd I 15 ((I 15) + 1)) 28 (I 28 - 1)) 31 ((I 31) + 1)) (upr (upr (upr (upr (upr R 19 (upd (R 19) tj (R 19 tj))) 24 (shf (R 24) j mj)) 25 (shf (R 25) j mj)) 26 (shf (R 26) j mj)) 27 (shf (R 27) j mj))) := hD.sub [0, 1, 2, 3, 4, 5, 6, 7, 8, 9, 10, 11, 12] (by decide) rfl
        clear hz1 hk1 hPc hDc hFc hP1 hD1
        generalize H1 = H at hP hS ⊢
        have hP9 : va_P (dC, dI) vwCl (wMdl cy m0 a (upd (upd (upd I 15 ((I 15) + 1)) 28 (I 28 - 1)) 31 ((I 31) + 1)) (upr (upr (upr (upr (upr R 19 (upd (R 19) tj (R 19 tj))) 24 (shf (R 24) j mj)) 25 (shf (R 25) j mj)) 26 (shf (R 26) j mj)) 27 (shf (R 27) j mj))) H := hP
        have hD9 : va_D A (wMdl cy m0 a (upd (upd (upd I 15 ((I 15) + 1)) 28 (I 28 - 1)) 31 ((I 31) + 1)) (upr (upr (upr (upr (upr R 19 (upd (R 19) tj (R 19 tj))) 24 (shf (R 24) j mj)) 25 (shf (R 25) j mj)) 26 (shf (R 26) j mj)) 27 (shf (R 27) j mj))) := hD
        exact W.vret hx hb hr (fun t ht hW => ⟨⟨(upd (upd (upd I 15 ((I 15) + 1)) 28 (I 28 - 1)) 31 ((I 31) + 1), upr (upr (upr (upr (upr R 19 (upd (R 19) tj (R 19 tj))) 24 (shf (R 24) j mj)) 25 (shf (R 25) j mj)) 26 (shf (R 26) j mj)) 27 (shf (R 27) j mj)), rfl, (by simp only [endR, eT, nI_clamp (show tj < 2 ^ 31 by omega), cm1 hI28 (show mj < 2000 by omega), if_pos c_43, if_neg c_76, if_neg c_97]; rfl), by rw [ht]; exact hP9, hD9⟩, hS.F ht⟩) hS.2.2 dX5_ends_114
  · refine lv_iload hx hb dX5_ends_46 (lv_at hl 0 rfl) ?_
    refine lv_goto (tgt := 58) hx hb dX5_ends_48 (by decide) ?_
    refine wI_ast hx hb hK hP hD hS 6 0 rfl rfl tj rfl (by omega) (by decide) dX5_ends_58 (fun H locs hP hD hS => ?_)
    have hP : va_P (dC, dI) vwCl (wMdl cy m0 a (upd I 15 ((I 15) + 1)) (upr R 19 (upd (R 19) tj (p1 - (R 25 j))))) H := hP
    have hD : va_D A (wMdl cy m0 a (upd I 15 ((I 15) + 1)) (upr R 19 (upd (R 19) tj (p1 - (R 25 j))))) := hD
    refine lv_aload_n hx hb dX5_ends_59 rfl (lv_at hl 2 rfl) ?_
    refine lv_dup hx hb dX5_ends_60 rfl ?_
    refine va_get (D := (dC, dI)) (ci := 5) (v := .int (I 31)) (C := RX5) (T := TX5) (N := 32) hx hb hts hin5 hown hK hP 0 rfl rfl 31 (by decide) f_207 (fun _ h9 => h9) rfl dX5_ends_61 ?_
    refine lv_iload hx hb dX5_ends_64 (lv_at hl 0 rfl) ?_
    refine lv_aload_n hx hb dX5_ends_66 rfl (lv_at hl 2 rfl) ?_
    refine va_get (D := (dC, dI)) (ci := 5) (v := .ref (a 1)) (C := RX5) (T := TX5) (N := 32) hx hb hts hin5 hown hK hP 0 rfl rfl 1 (by decide) f_9 (fun _ h9 => h9) rfl dX5_ends_67 ?_
    refine lv_bipush (v := 10) hx hb dX5_ends_70 (by decide) ?_
    refine lv_iload hx hb dX5_ends_72 (lv_at hl 1 rfl) ?_
    refine lv_iadd hx hb dX5_ends_74 ?_
    refine wI_alv (v := Gs (R 1) 1 tj) hx hb hK hP 1 0 rfl rfl (10 + tj) (nadd rfl rfl) (by omega) (by decide) rfl dX5_ends_75 ?_
    refine lv_icmp_le (tgt := 104) hx hb dX5_ends_76 (by decide) (fun c_76 => ?_) (fun c_76 => ?_)
    · refine lv_iconst (v := 0) hx hb dX5_ends_104 (by decide) ?_
      refine lv_iadd hx hb dX5_ends_105 ?_
      refine va_put (D := (dC, dI)) (ci := 5) (v := .int ((I 31) + 0)) (ty := .int) (C := RX5) (T := TX5) (N := 32) hx hb hts hin5 tyX5 tyX5_ok nmX5 hown hK hP hD hS 0 rfl rfl 31 (by decide) f_207 (fun _ h9 => h9) rfl (by decide +kernel) rfl rfl (Nat.le_of_ble_eq_true rfl) dX5_ends_106 (fun H locs hP hD hS => ?_)
      have hP : va_P (dC, dI) vwCl (wMdl cy m0 a (upd (upd I 15 ((I 15) + 1)) 31 ((I 31) + 0)) (upr R 19 (upd (R 19) tj (p1 - (R 25 j))))) H := hP
      have hD : va_D A (wMdl cy m0 a (upd (upd I 15 ((I 15) + 1)) 31 ((I 31) + 0)) (upr R 19 (upd (R 19) tj (p1 - (R 25 j))))) := hD
      refine lv_aload_n hx hb dX5_ends_109 rfl (lv_at hl 2 rfl) ?_
      refine lv_iload_n hx hb dX5_ends_110 rfl (lv_at hl 3 rfl) ?_
      have hPc := hP.sub (ws' := wMdl cy m0 a (upd (upd I 15 ((I 15) + 1)) 31 ((I 31) + 0)) (upr R 19 (upd (R 19) tj (p1 - (R 25 j))))) [0, 1, 2, 3, 4, 5, 6, 7, 8, 9, 10, 11, 12] rfl
      have hDc := hD.sub (ws' := wMdl cy m0 a (upd (upd I 15 ((I 15) + 1)) 31 ((I 31) + 0)) (upr R 19 (upd (R 19) tj (p1 - (R 25 j))))) [0, 1, 2, 3, 4, 5, 6, 7, 8, 9, 10, 11, 12] (by decide) rfl
      have hFc := va_free (wc := wMdl cy m0 a (upd (upd I 15 ((I 15) + 1)) 31 ((I 31) + 0)) (upr R 19 (upd (R 19) tj (p1 - (R 25 j))))) hD hS hA [0, 1, 2, 3, 4, 5, 6, 7, 8, 9, 10, 11, 12] rfl
      refine va_callv (va_runV (As := [.int (nI j)]) (rest := []) ⟨hx, hb, hml, hown, hts⟩ (c_X5_forgets l dC dI cy H.size m0 a (upd (upd I 15 ((I 15) + 1)) 31 ((I 31) + 0)) (upr R 19 (upd (R 19) tj (p1 - (R 25 j)))) mj hm hI28 j (by omega)) (cwV 1 hts gX5_ends_X5_forgets rfl rfl rfl (by decide +kernel) ⟨Nat.le_of_ble_eq_true rfl, Nat.le_of_ble_eq_true rfl⟩) ⟨bl_in, va_recv hK hPc (ci := 5) (q0 := 0) rfl rfl, pr_in hPc hE hDc⟩ rfl rfl hl.1 rfl (lv_room (Nat.le_of_ble_eq_true rfl)) dX5_ends_111 ⟨Nat.le_of_ble_eq_true rfl, Nat.le_of_ble_eq_true rfl⟩) hS (fun q _ h => hFc q h) hFc (fun u t H1 locs ht hvm hw hB hz1 hk1 hS => ?_)
      obtain rfl : u = _ := hw
      simp only [fgt, cm1 (I := upd (upd I 15 ((I 15) + 1)) 31 ((I 31) + 0)) hI28 (show mj < 2000 by omega)] at hB
      obtain ⟨hP1, hD1⟩ := hB
      rw [ht] at hP1
      obtain ⟨hP, hD⟩ := va_join (wr := []) (w1 := wMdl cy m0 a (upd (upd (upd I 15 ((I 15) + 1)) 28 (I 28 - 1)) 31 ((I 31) + 0)) (upr (upr (upr (upr (upr R 19 (upd (R 19) tj (p1 - (R 25 j)))) 24 (shf (R 24) j mj)) 25 (shf (R 25) j mj)) 26 (shf (R 26) j mj)) 27 (shf (R 27) j mj))) hP hD [0, 1, 2, 3, 4, 5, 6, 7, 8, 9, 10, 11, 12] [] rfl rfl (by decide) (by decide) hk1 hFc hP1 hD1
      have hP : va_P (dC, dI) vwCl (wMdl cy m0 a (upd (upd (upd I 15 ((I 15) + 1)) 28 (I 28 - 1)) 31 ((I 31) + 0)) (upr (upr (upr (upr (upr R 19 (upd (R 19) tj (p1 - (R 25 j)))) 24 (shf (R 24) j mj)) 25 (shf (R 25) j mj)) 26 (shf (R 26) j mj)) 27 (shf (R 27) j mj))) H1 := hP.sub [0, 1, 2, 3, 4, 5, 6, 7, 8, 9, 10, 11, 12] rfl
      have hD : va_D A (wMdl cy m0 a (upd (upd (upd I 15 ((I 15) + 1)) 28 (I 28 - 1)) 31 ((I 31) + 0)) (upr (upr (upr (upr (upr R 19 (upd (R 19) tj (p1 - (R 25 j)))) 24 (shf (R 24) j mj)) 25 (shf (R 25) j mj)) 26 (shf (R 26) j mj)) 27 (shf (R 27) j mj))) := hD.sub [0, 1, 2, 3, 4, 5, 6, 7, 8, 9, 10, 11, 12] (by decide) rfl
      clear hz1 hk1 hPc hDc hFc hP1 hD1
      generalize H1 = H at hP hS ⊢
      have hP9 : va_P (dC, dI) vwCl (wMdl cy m0 a (upd (upd (upd I 15 ((I 15) + 1)) 28 (I 28 - 1)) 31 ((I 31) + 0)) (upr (upr (upr (upr (upr R 19 (upd (R 19) tj (p1 - (R 25 j)))) 24 (shf (R 24) j mj)) 25 (shf (R 25) j mj)) 26 (shf (R 26) j mj)) 27 (shf (R 27) j mj))) H := hP
      have hD9 : va_D A (wMdl cy m0 a (upd (upd (upd I 15 ((I 15) + 1)) 28 (I 28 - 1)) 31 ((I 31) + 0)) (upr (upr (upr (upr (upr R 19 (upd (R 19) tj (p1 - (R 25 j)))) 24 (shf (R 24) j mj)) 25 (shf (R 25) j mj)) 26 (shf (R 26) j mj)) 27 (shf (R 27) j mj))) := hD
      exact W.vret hx hb hr (fun t ht hW => ⟨⟨(upd (upd (upd I 15 ((I 15) + 1)) 28 (I 28 - 1)) 31 ((I 31) + 0), upr (upr (upr (upr (upr R 19 (upd (R 19) tj (p1 - (R 25 j)))) 24 (shf (R 24) j mj)) 25 (shf (R 25) j mj)) 26 (shf (R 26) j mj)) 27 (shf (R 27) j mj)), rfl, (by simp only [endR, eT, nI_clamp (show tj < 2 ^ 31 by omega), cm1 hI28 (show mj < 2000 by omega), if_neg c_43, if_pos c_76]; rfl), by rw [ht]; exact hP9, hD9⟩, hS.F ht⟩) hS.2.2 dX5_ends_114
    · refine lv_aload_n hx hb dX5_ends_79 rfl (lv_at hl 2 rfl) ?_
      refine va_get (D := (dC, dI)) (ci := 5) (v := .ref (a 25)) (C := RX5) (T := TX5) (N := 32) hx hb hts hin5 hown hK hP 0 rfl rfl 25 (by decide) f_41 (fun _ h9 => h9) rfl dX5_ends_80 ?_
      refine lv_iload_n hx hb dX5_ends_83 rfl (lv_at hl 3 rfl) ?_
      refine wI_alv (v := R 25 j) hx hb hK hP 10 0 rfl rfl j rfl (by omega) (by decide) rfl dX5_ends_84 ?_
      refine lv_aload_n hx hb dX5_ends_85 rfl (lv_at hl 2 rfl) ?_
      refine va_get (D := (dC, dI)) (ci := 5) (v := .ref (a 1)) (C := RX5) (T := TX5) (N := 32) hx hb hts hin5 hown hK hP 0 rfl rfl 1 (by decide) f_9 (fun _ h9 => h9) rfl dX5_ends_86 ?_
      refine lv_bipush (v := 10) hx hb dX5_ends_89 (by decide) ?_
      refine lv_iload hx hb dX5_ends_91 (lv_at hl 1 rfl) ?_
      refine lv_iadd hx hb dX5_ends_93 ?_
      refine wI_alv (v := Gs (R 1) 1 tj) hx hb hK hP 1 0 rfl rfl (10 + tj) (nadd rfl rfl) (by omega) (by decide) rfl dX5_ends_94 ?_
      refine lv_iadd hx hb dX5_ends_95 ?_
      refine lv_iload_n hx hb dX5_ends_96 rfl (lv_at hl 5 rfl) ?_
      refine lv_icmp_gt (tgt := 104) hx hb dX5_ends_97 (by decide) (fun c_97 => ?_) (fun c_97 => ?_)
      · refine lv_iconst (v := 0) hx hb dX5_ends_104 (by decide) ?_
        refine lv_iadd hx hb dX5_ends_105 ?_
        refine va_put (D := (dC, dI)) (ci := 5) (v := .int ((I 31) + 0)) (ty := .int) (C := RX5) (T := TX5) (N := 32) hx hb hts hin5 tyX5 tyX5_ok nmX5 hown hK hP hD hS 0 rfl rfl 31 (by decide) f_207 (fun _ h9 => h9) rfl (by decide +kernel) rfl rfl (Nat.le_of_ble_eq_true rfl) dX5_ends_106 (fun H locs hP hD hS => ?_)
        have hP : va_P (dC, dI) vwCl (wMdl cy m0 a (upd (upd I 15 ((I 15) + 1)) 31 ((I 31) + 0)) (upr R 19 (upd (R 19) tj (p1 - (R 25 j))))) H := hP
        have hD : va_D A (wMdl cy m0 a (upd (upd I 15 ((I 15) + 1)) 31 ((I 31) + 0)) (upr R 19 (upd (R 19) tj (p1 - (R 25 j))))) := hD
        refine lv_aload_n hx hb dX5_ends_109 rfl (lv_at hl 2 rfl) ?_
        refine lv_iload_n hx hb dX5_ends_110 rfl (lv_at hl 3 rfl) ?_
        have hPc := hP.sub (ws' := wMdl cy m0 a (upd (upd I 15 ((I 15) + 1)) 31 ((I 31) + 0)) (upr R 19 (upd (R 19) tj (p1 - (R 25 j))))) [0, 1, 2, 3, 4, 5, 6, 7, 8, 9, 10, 11, 12] rfl
        have hDc := hD.sub (ws' := wMdl cy m0 a (upd (upd I 15 ((I 15) + 1)) 31 ((I 31) + 0)) (upr R 19 (upd (R 19) tj (p1 - (R 25 j))))) [0, 1, 2, 3, 4, 5, 6, 7, 8, 9, 10, 11, 12] (by decide) rfl
        have hFc := va_free (wc := wMdl cy m0 a (upd (upd I 15 ((I 15) + 1)) 31 ((I 31) + 0)) (upr R 19 (upd (R 19) tj (p1 - (R 25 j))))) hD hS hA [0, 1, 2, 3, 4, 5, 6, 7, 8, 9, 10, 11, 12] rfl
        refine va_callv (va_runV (As := [.int (nI j)]) (rest := []) ⟨hx, hb, hml, hown, hts⟩ (c_X5_forgets l dC dI cy H.size m0 a (upd (upd I 15 ((I 15) + 1)) 31 ((I 31) + 0)) (upr R 19 (upd (R 19) tj (p1 - (R 25 j)))) mj hm hI28 j (by omega)) (cwV 1 hts gX5_ends_X5_forgets rfl rfl rfl (by decide +kernel) ⟨Nat.le_of_ble_eq_true rfl, Nat.le_of_ble_eq_true rfl⟩) ⟨bl_in, va_recv hK hPc (ci := 5) (q0 := 0) rfl rfl, pr_in hPc hE hDc⟩ rfl rfl hl.1 rfl (lv_room (Nat.le_of_ble_eq_true rfl)) dX5_ends_111 ⟨Nat.le_of_ble_eq_true rfl, Nat.le_of_ble_eq_true rfl⟩) hS (fun q _ h => hFc q h) hFc (fun u t H1 locs ht hvm hw hB hz1 hk1 hS => ?_)
        obtain rfl : u = _ := hw
        simp only [fgt, cm1 (I := upd (upd I 15 ((I 15) + 1)) 31 ((I 31) + 0)) hI28 (show mj < 2000 by omega)] at hB
        obtain ⟨hP1, hD1⟩ := hB
        rw [ht] at hP1
        obtain ⟨hP, hD⟩ := va_join (wr := []) (w1 := wMdl cy m0 a (upd (upd (upd I 15 ((I 15) + 1)) 28 (I 28 - 1)) 31 ((I 31) + 0)) (upr (upr (upr (upr (upr R 19 (upd (R 19) tj (p1 - (R 25 j)))) 24 (shf (R 24) j mj)) 25 (shf (R 25) j mj)) 26 (shf (R 26) j mj)) 27 (shf (R 27) j mj))) hP hD [0, 1, 2, 3, 4, 5, 6, 7, 8, 9, 10, 11, 12] [] rfl rfl (by decide) (by decide) hk1 hFc hP1 hD1
        have hP : va_P (dC, dI) vwCl (wMdl cy m0 a (upd (upd (upd I 15 ((I 15) + 1)) 28 (I 28 - 1)) 31 ((I 31) + 0)) (upr (upr (upr (upr (upr R 19 (upd (R 19) tj (p1 - (R 25 j)))) 24 (shf (R 24) j mj)) 25 (shf (R 25) j mj)) 26 (shf (R 26) j mj)) 27 (shf (R 27) j mj))) H1 := hP.sub [0, 1, 2, 3, 4, 5, 6, 7, 8, 9, 10, 11, 12] rfl
        have hD : va_D A (wMdl cy m0 a (upd (upd (upd I 15 ((I 15) + 1)) 28 (I 28 - 1)) 31 ((I 31) + 0)) (upr (upr (upr (upr (upr R 19 (upd (R 19) tj (p1 - (R 25 j)))) 24 (shf (R 24) j mj)) 25 (shf (R 25) j mj)) 26 (shf (R 26) j mj)) 27 (shf (R 27) j mj))) := hD.sub [0, 1, 2, 3, 4, 5, 6, 7, 8, 9, 10, 11, 12] (by decide) rfl
        clear hz1 hk1 hPc hDc hFc hP1 hD1
        generalize H1 = H at hP hS ⊢
        have hP9 : va_P (dC, dI) vwCl (wMdl cy m0 a (upd (upd (upd I 15 ((I 15) + 1)) 28 (I 28 - 1)) 31 ((I 31) + 0)) (upr (upr (upr (upr (upr R 19 (upd (R 19) tj (p1 - (R 25 j)))) 24 (shf (R 24) j mj)) 25 (shf (R 25) j mj)) 26 (shf (R 26) j mj)) 27 (shf (R 27) j mj))) H := hP
        have hD9 : va_D A (wMdl cy m0 a (upd (upd (upd I 15 ((I 15) + 1)) 28 (I 28 - 1)) 31 ((I 31) + 0)) (upr (upr (upr (upr (upr R 19 (upd (R 19) tj (p1 - (R 25 j)))) 24 (shf (R 24) j mj)) 25 (shf (R 25) j mj)) 26 (shf (R 26) j mj)) 27 (shf (R 27) j mj))) := hD
        exact W.vret hx hb hr (fun t ht hW => ⟨⟨(upd (upd (upd I 15 ((I 15) + 1)) 28 (I 28 - 1)) 31 ((I 31) + 0), upr (upr (upr (upr (upr R 19 (upd (R 19) tj (p1 - (R 25 j)))) 24 (shf (R 24) j mj)) 25 (shf (R 25) j mj)) 26 (shf (R 26) j mj)) 27 (shf (R 27) j mj)), rfl, (by simp only [endR, eT, nI_clamp (show tj < 2 ^ 31 by omega), cm1 hI28 (show mj < 2000 by omega), if_neg c_43, if_neg c_76, if_pos c_97]; rfl), by rw [ht]; exact hP9, hD9⟩, hS.F ht⟩) hS.2.2 dX5_ends_114
      · refine lv_iconst (v := 1) hx hb dX5_ends_100 (by decide) ?_
        refine lv_goto (tgt := 105) hx hb dX5_ends_101 (by decide) ?_
        refine lv_iadd hx hb dX5_ends_105 ?_
        refine va_put (D := (dC, dI)) (ci := 5) (v := .int ((I 31) + 1)) (ty := .int) (C := RX5) (T := TX5) (N := 32) hx hb hts hin5 tyX5 tyX5_ok nmX5 hown hK hP hD hS 0 rfl rfl 31 (by decide) f_207 (fun _ h9 => h9) rfl (by decide +kernel) rfl rfl (Nat.le_of_ble_eq_true rfl) dX5_ends_106 (fun H locs hP hD hS => ?_)
        have hP : va_P (dC, dI) vwCl (wMdl cy m0 a (upd (upd I 15 ((I 15) + 1)) 31 ((I 31) + 1)) (upr R 19 (upd (R 19) tj (p1 - (R 25 j))))) H := hP
        have hD : va_D A (wMdl cy m0 a (upd (upd I 15 ((I 15) + 1)) 31 ((I 31) + 1)) (upr R 19 (upd (R 19) tj (p1 - (R 25 j))))) := hD
        refine lv_aload_n hx hb dX5_ends_109 rfl (lv_at hl 2 rfl) ?_
        refine lv_iload_n hx hb dX5_ends_110 rfl (lv_at hl 3 rfl) ?_
        have hPc := hP.sub (ws' := wMdl cy m0 a (upd (upd I 15 ((I 15) + 1)) 31 ((I 31) + 1)) (upr R 19 (upd (R 19) tj (p1 - (R 25 j))))) [0, 1, 2, 3, 4, 5, 6, 7, 8, 9, 10, 11, 12] rfl
        have hDc := hD.sub (ws' := wMdl cy m0 a (upd (upd I 15 ((I 15) + 1)) 31 ((I 31) + 1)) (upr R 19 (upd (R 19) tj (p1 - (R 25 j))))) [0, 1, 2, 3, 4, 5, 6, 7, 8, 9, 10, 11, 12] (by decide) rfl
        have hFc := va_free (wc := wMdl cy m0 a (upd (upd I 15 ((I 15) + 1)) 31 ((I 31) + 1)) (upr R 19 (upd (R 19) tj (p1 - (R 25 j))))) hD hS hA [0, 1, 2, 3, 4, 5, 6, 7, 8, 9, 10, 11, 12] rfl
        refine va_callv (va_runV (As := [.int (nI j)]) (rest := []) ⟨hx, hb, hml, hown, hts⟩ (c_X5_forgets l dC dI cy H.size m0 a (upd (upd I 15 ((I 15) + 1)) 31 ((I 31) + 1)) (upr R 19 (upd (R 19) tj (p1 - (R 25 j)))) mj hm hI28 j (by omega)) (cwV 1 hts gX5_ends_X5_forgets rfl rfl rfl (by decide +kernel) ⟨Nat.le_of_ble_eq_true rfl, Nat.le_of_ble_eq_true rfl⟩) ⟨bl_in, va_recv hK hPc (ci := 5) (q0 := 0) rfl rfl, pr_in hPc hE hDc⟩ rfl rfl hl.1 rfl (lv_room (Nat.le_of_ble_eq_true rfl)) dX5_ends_111 ⟨Nat.le_of_ble_eq_true rfl, Nat.le_of_ble_eq_true rfl⟩) hS (fun q _ h => hFc q h) hFc (fun u t H1 locs ht hvm hw hB hz1 hk1 hS => ?_)
        obtain rfl : u = _ := hw
        simp only [fgt, cm1 (I := upd (upd I 15 ((I 15) + 1)) 31 ((I 31) + 1)) hI28 (show mj < 2000 by omega)] at hB
        obtain ⟨hP1, hD1⟩ := hB
        rw [ht] at hP1
        obtain ⟨hP, hD⟩ := va_join (wr := []) (w1 := wMdl cy m0 a (upd (upd (upd I 15 ((I 15) + 1)) 28 (I 28 - 1)) 31 ((I 31) + 1)) (upr (upr (upr (upr (upr R 19 (upd (R 19) tj (p1 - (R 25 j)))) 24 (shf (R 24) j mj)) 25 (shf (R 25) j mj)) 26 (shf (R 26) j mj)) 27 (shf (R 27) j mj))) hP hD [0, 1, 2, 3, 4, 5, 6, 7, 8, 9, 10, 11, 12] [] rfl rfl (by decide) (by decide) hk1 hFc hP1 hD1
        have hP : va_P (dC, dI) vwCl (wMdl cy m0 a (upd (upd (upd I 15 ((I 15) + 1)) 28 (I 28 - 1)) 31 ((I 31) + 1)) (upr (upr (upr (upr (upr R 19 (upd (R 19) tj (p1 - (R 25 j)))) 24 (shf (R 24) j mj)) 25 (shf (R 25) j mj)) 26 (shf (R 26) j mj)) 27 (shf (R 27) j mj))) H1 := hP.sub [0, 1, 2, 3, 4, 5, 6, 7, 8, 9, 10, 11, 12] rfl
        have hD : va_D A (wMdl cy m0 a (upd (upd (upd I 15 ((I 15) + 1)) 28 (I 28 - 1)) 31 ((I 31) + 1)) (upr (upr (upr (upr (upr R 19 (upd (R 19) tj (p1 - (R 25 j)))) 24 (shf (R 24) j mj)) 25 (shf (R 25) j mj)) 26 (shf (R 26) j mj)) 27 (shf (R 27) j mj))) := hD.sub [0, 1, 2, 3, 4, 5, 6, 7, 8, 9, 10, 11, 12] (by decide) rfl
        clear hz1 hk1 hPc hDc hFc hP1 hD1
        generalize H1 = H at hP hS ⊢
        have hP9 : va_P (dC, dI) vwCl (wMdl cy m0 a (upd (upd (upd I 15 ((I 15) + 1)) 28 (I 28 - 1)) 31 ((I 31) + 1)) (upr (upr (upr (upr (upr R 19 (upd (R 19) tj (p1 - (R 25 j)))) 24 (shf (R 24) j mj)) 25 (shf (R 25) j mj)) 26 (shf (R 26) j mj)) 27 (shf (R 27) j mj))) H := hP
        have hD9 : va_D A (wMdl cy m0 a (upd (upd (upd I 15 ((I 15) + 1)) 28 (I 28 - 1)) 31 ((I 31) + 1)) (upr (upr (upr (upr (upr R 19 (upd (R 19) tj (p1 - (R 25 j)))) 24 (shf (R 24) j mj)) 25 (shf (R 25) j mj)) 26 (shf (R 26) j mj)) 27 (shf (R 27) j mj))) := hD
        exact W.vret hx hb hr (fun t ht hW => ⟨⟨(upd (upd (upd I 15 ((I 15) + 1)) 28 (I 28 - 1)) 31 ((I 31) + 1), upr (upr (upr (upr (upr R 19 (upd (R 19) tj (p1 - (R 25 j)))) 24 (shf (R 24) j mj)) 25 (shf (R 25) j mj)) 26 (shf (R 26) j mj)) 27 (shf (R 27) j mj)), rfl, (by simp only [endR, eT, nI_clamp (show tj < 2 ^ 31 by omega), cm1 hI28 (show mj < 2000 by omega), if_neg c_43, if_neg c_76, if_neg c_97]; rfl), by rw [ht]; exact hP9, hD9⟩, hS.F ht⟩) hS.2.2 dX5_ends_114
theorem fgt_1 {j m : Nat} {I : Nat → Int32} {R : vG} {I' : Nat → Int32} {R' : vG} {x : Int32} (h : (I', R') = fgt j (upd I 16 x, R)) (hm : I 28 = nI (m + 1)) : I' 28 = nI m ∧ R' 1 = R 1 ∧ R' = jShf R j (I 28 - 1).toNatClampNeg := by
  have e1 : I' = _ := congrArg (·.1) h
  have e2 : R' = _ := congrArg (·.2) h
  subst e1
  subst e2
  refine ⟨?_, rfl, rfl⟩
  show I 28 - 1 = _
  rw [hm, nI_pred]
theorem fgt_J {j m n : Nat} {I : Nat → Int32} {R : vG} {I' : Nat → Int32} {R' : vG} {x : Int32} (h : (I', R') = fgt j (upd I 16 x, R)) (hm : I 28 = nI (m + 1)) (hb : m < 2000) (hJ : ∀ y, y < m + 1 → ∃ tj, tj < n ∧ R 24 y = nI tj) : ∀ y, y < m → ∃ tj, tj < n ∧ R' 24 y = nI tj := by
  intro y hy
  rw [(fgt_1 h hm).2.2, cm1 hm hb]
  show ∃ tj, tj < n ∧ shf (R 24) j m y = nI tj
  unfold shf
  split
  · exact hJ (y + 1) (by omega)
  · exact hJ y (by omega)
set_option maxHeartbeats 1000000 in
set_option maxRecDepth 100000 in
/-- the high mode -/
theorem c_X5_becomesHigh (l : Launch) (dC : Nat → ClassId) (dI : Nat → Nat → Nat) (cy : Nat → ClassId) (sz : Nat) (m0 : Nat) (a : Nat → Nat) (I : Nat → Int32) (R : vG) (n : Nat) (hn : n ≤ 8) (mj : Nat) (hm : mj ≤ 1700) (hI28 : I 28 = nI mj) (hJ : ∀ y, y < mj → ∃ tj, tj < n ∧ R 24 y = nI tj) : Met l yX5_becomesHigh wsX5_becomesHigh ({ frames := 1, cells := 0, slots := 0, locals := 22 }) (va_Pc [.ref m0] (pIn dC dI cy (wMdl cy m0 a I R) sz)) (va_Qv (fun (u : MSt) => u = becH (I, R)) (fun (u : (Nat → Int32) × vG) t => va_P (dC, dI) vwCl (wMdl cy m0 a u.1 u.2) t.heap ∧ va_D (va_A (wMdl cy m0 a I R) sz) (wMdl cy m0 a u.1 u.2)) (va_A (wMdl cy m0 a I R) sz)) 0 0 (va_A (wMdl cy m0 a I R) sz) := by
  refine Met.ofW (cc := cX5_becomesHigh) (maxL := 2) (ret := none) (by decide) rfl ?_
  intro p e s m args below meth c s₁ B hml hv
  obtain ⟨rfl, hsz, hP, hE, hD0⟩ := hv
  have hK := hE.1
  subst hsz
  have hD := hD0.self (sz := s.heap.size)
  generalize hAe : va_A (wMdl cy m0 a I R) s.heap.size = A at hD ⊢
  have hA : ∀ q : Nat, s.heap.size ≤ q → A q := fun q h => by rw [← hAe]; exact Or.inr h
  have hS : va_S A s.heap s.heap [] := va_S.rf
  have hP : va_P (dC, dI) vwCl (wMdl cy m0 a I R) s.heap := hP
  have hx := B.exec
  have hb := B.bytes
  have hr := B.returns
  have hts := atoms_spec (ws := wsX5_becomesHigh) B.pre
  have hown : s.vm.findClass RX5 = some m.cls := findClass_of_methodNamed B.named
  have hlocks := B.notSynchronized
  have hin5 : ∀ w ∈ u_ws RX5 TX5 32, w ∈ wsX5_becomesHigh := by decide +kernel
  have f_184 := hts (.fieldLink RX5 184 "DeadlineAdmissionModel" "mode" "I") (by decide +kernel)
  have f_187 := hts (.fieldLink RX5 187 "DeadlineAdmissionModel" "dropped" "I") (by decide +kernel)
  have f_194 := hts (.fieldLink RX5 194 "DeadlineAdmissionModel" "jobs" "I") (by decide +kernel)
  have f_214 := hts (.fieldLink RX5 214 "DeadlineAdmissionModel" "switches" "I") (by decide +kernel)
  have f_38 := hts (.fieldLink RX5 38 "DeadlineAdmissionModel" "jobTask" "[I") (by decide +kernel)
  have hl := lv_entry ([.ref m0]) (n := 2) (Nat.le_of_ble_eq_true rfl)
  rw [lg_entry_eq]
  generalize (lg_sl ([.ref m0]) ++ List.replicate (2 - (lg_sl ([.ref m0])).length) Slot.unset).toArray = ls at hl ⊢
  have hl : lv_has ls 2 [(0, .ref m0)] := hl
  refine lv_aload_n hx hb dX5_becomesHigh_0 rfl (lv_at hl 0 rfl) ?_
  refine lv_iconst (v := 1) hx hb dX5_becomesHigh_1 (by decide) ?_
  refine va_put (D := (dC, dI)) (ci := 5) (v := .int 1) (ty := .int) (C := RX5) (T := TX5) (N := 32) hx hb hts hin5 tyX5 tyX5_ok nmX5 hown hK hP hD hS 0 rfl rfl 29 (by decide) f_184 (fun _ h9 => h9) rfl (by decide +kernel) rfl rfl (Nat.le_of_ble_eq_true rfl) dX5_becomesHigh_2 (fun H locs hP hD hS => ?_)
  have hP : va_P (dC, dI) vwCl (wMdl cy m0 a (upd I 29 1) R) H := hP
  have hD : va_D A (wMdl cy m0 a (upd I 29 1) R) := hD
  refine lv_aload_n hx hb dX5_becomesHigh_5 rfl (lv_at hl 0 rfl) ?_
  refine lv_dup hx hb dX5_becomesHigh_6 rfl ?_
  refine va_get (D := (dC, dI)) (ci := 5) (v := .int (I 17)) (C := RX5) (T := TX5) (N := 32) hx hb hts hin5 hown hK hP 0 rfl rfl 17 (by decide) f_214 (fun _ h9 => h9) rfl dX5_becomesHigh_7 ?_
  refine lv_iconst (v := 1) hx hb dX5_becomesHigh_10 (by decide) ?_
  refine lv_iadd hx hb dX5_becomesHigh_11 ?_
  refine va_put (D := (dC, dI)) (ci := 5) (v := .int ((I 17) + 1)) (ty := .int) (C := RX5) (T := TX5) (N := 32) hx hb hts hin5 tyX5 tyX5_ok nmX5 hown hK hP hD hS 0 rfl rfl 17 (by decide) f_214 (fun _ h9 => h9) rfl (by decide +kernel) rfl rfl (Nat.le_of_ble_eq_true rfl) dX5_becomesHigh_12 (fun H locs hP hD hS => ?_)
  have hP : va_P (dC, dI) vwCl (wMdl cy m0 a (upd (upd I 17 ((I 17) + 1)) 29 1) R) H := hP
  have hD : va_D A (wMdl cy m0 a (upd (upd I 17 ((I 17) + 1)) 29 1) R) := hD
  refine lv_aload_n hx hb dX5_becomesHigh_15 rfl (lv_at hl 0 rfl) ?_
  refine va_get (D := (dC, dI)) (ci := 5) (v := .int (I 28)) (C := RX5) (T := TX5) (N := 32) hx hb hts hin5 hown hK hP 0 rfl rfl 28 (by decide) f_194 (fun _ h9 => h9) rfl dX5_becomesHigh_16 ?_
  refine lv_iconst (v := 1) hx hb dX5_becomesHigh_19 (by decide) ?_
  refine lv_isub hx hb dX5_becomesHigh_20 ?_
  refine lv_topi (fun y_ ey_ => ?_)
  obtain rfl : y_ = jm mj := ey_.trans (by rw [hI28]; rfl)
  refine lv_istore_n (lv' := [(1, .int (jm mj)), (0, .ref m0)]) hx hb dX5_becomesHigh_21 rfl hl (by decide) rfl (fun ls hl => ?_)
  have loop22 : ∀ (k : Nat) (q : Nat) (Ik : Nat → Int32) (Rk : vG) (mk : Nat) (ls : Array Slot), q ≤ mk → q < k → bhR q (Ik, Rk) = becH (I, R) → Rk 1 = R 1 → Ik 28 = nI mk → mk ≤ 1700 → (∀ y, y < mk → ∃ tj, tj < n ∧ Rk 24 y = nI tj) → ∀ (H : Heap) (locs : List Loc), va_P (dC, dI) vwCl (wMdl cy m0 a Ik Rk) H → va_D A (wMdl cy m0 a Ik Rk) → va_S A s.heap H locs → lv_has ls 2 [(0, .ref m0), (1, .int (jm q))] → W p l e (headSpec wsX5_becomesHigh ({ frames := 1, cells := 0, slots := 0, locals := 22 }) |>.room) s m (([.ref m0].toArray)) below meth c H locs 0 0 (MQ below (va_Qv (fun (u : MSt) => u = becH (I, R)) (fun (u : (Nat → Int32) × vG) t => va_P (dC, dI) vwCl (wMdl cy m0 a u.1 u.2) t.heap ∧ va_D (A) (wMdl cy m0 a u.1 u.2)) (A)) ([.ref m0].toArray) s 0 0 A) (F0 m 22 ls []) := by
    intro k
    induction k with
    | zero =>
      intro q Ik Rk mk ls hq hk eb eR1 em hmk hJ
      exfalso; omega
    | succ k ih22 =>
      intro q Ik Rk mk ls hq hk eb eR1 em hmk hJ H locs hP hD hS hl
      refine lv_iload_n hx hb dX5_becomesHigh_22 rfl (lv_at hl 1 rfl) ?_
      refine lv_if_lt (tgt := 60) hx hb dX5_becomesHigh_23 (by decide) (fun c_23 => ?_) (fun c_23 => ?_)
      · have e_q : q = 0 := by rcases Nat.eq_zero_or_pos q with h | h; exact h; exfalso; rw [show q = (q - 1) + 1 by omega, jm_s] at c_23; exact nI_pos (by omega) c_23
        have hP9 : va_P (dC, dI) vwCl (wMdl cy m0 a Ik Rk) H := hP
        have hD9 : va_D A (wMdl cy m0 a Ik Rk) := hD
        exact W.vret hx hb hr (fun t ht hW => ⟨⟨(Ik, Rk), rfl, (by rw [← eb, e_q]; rfl), by rw [ht]; exact hP9, hD9⟩, hS.F ht⟩) hS.2.2 dX5_becomesHigh_60
      · obtain ⟨q, rfl⟩ : ∃ z, q = z + 1 := ⟨q - 1, by rcases Nat.eq_zero_or_pos q with h | h; exact absurd (by rw [h]; exact jm_0) c_23; omega⟩
        rw [jm_s] at hl
        obtain ⟨tj, ht9, eT⟩ := hJ q (by omega)
        obtain ⟨m9, rfl⟩ : ∃ z, mk = z + 1 := ⟨mk - 1, by omega⟩
        refine lv_aload_n hx hb dX5_becomesHigh_26 rfl (lv_at hl 0 rfl) ?_
        refine lv_aload_n hx hb dX5_becomesHigh_27 rfl (lv_at hl 0 rfl) ?_
        refine va_get (D := (dC, dI)) (ci := 5) (v := .ref (a 24)) (C := RX5) (T := TX5) (N := 32) hx hb hts hin5 hown hK hP 0 rfl rfl 24 (by decide) f_38 (fun _ h9 => h9) rfl dX5_becomesHigh_28 ?_
        refine lv_iload_n hx hb dX5_becomesHigh_31 rfl (lv_at hl 1 rfl) ?_
        refine wI_alv (v := nI tj) hx hb hK hP 9 0 rfl rfl q rfl (by omega) (by decide) eT dX5_becomesHigh_32 ?_
        refine vp_callSi (va_runV (As := [.int (nI tj)]) (rest := []) ⟨hx, hb, hml, hown, hts⟩ (c_X5_isHighTask l dC dI cy m0 a Ik Rk  tj (by omega)) (cwV 1 hts gX5_becomesHigh_X5_isHighTask rfl rfl rfl (by decide +kernel) ⟨Nat.le_of_ble_eq_true rfl, Nat.le_of_ble_eq_true rfl⟩) ⟨bl_ro, va_recv hK hP (ci := 5) (q0 := 0) rfl rfl, pr_ro hP hE⟩ rfl rfl hl.1 rfl (lv_room (Nat.le_of_ble_eq_true rfl)) dX5_becomesHigh_33 ⟨Nat.le_of_ble_eq_true rfl, Nat.le_of_ble_eq_true rfl⟩).run (fun r e_r => ?_)
        subst e_r
        refine lv_if_ne (tgt := 54) hx hb dX5_becomesHigh_36 (by decide) (fun c_36 => ?_) (fun c_36 => ?_)
        · refine lv_iinc (v := jm q) (lv' := [(1, .int (jm q)), (0, .ref m0)]) hx hb dX5_becomesHigh_54 hl (k := 1) rfl (jm_dec q) (by decide) rfl (fun ls hl => ?_)
          refine lv_goto (tgt := 22) hx hb dX5_becomesHigh_57 (by decide) ?_
          exact ih22 q Ik Rk (m9 + 1) ls (by omega) (by omega) (by rw [← eb]; simp only [bhR]; rw [eT, nI_clamp (show tj < 2 ^ 31 by omega), if_neg (fun h => c_36 (b01.mpr h))]) eR1 em (by omega) hJ _ _ hP hD hS (lv_sub hl [1, 0] rfl)
        · refine lv_aload_n hx hb dX5_becomesHigh_39 rfl (lv_at hl 0 rfl) ?_
          refine lv_dup hx hb dX5_becomesHigh_40 rfl ?_
          refine va_get (D := (dC, dI)) (ci := 5) (v := .int (Ik 16)) (C := RX5) (T := TX5) (N := 32) hx hb hts hin5 hown hK hP 0 rfl rfl 16 (by decide) f_187 (fun _ h9 => h9) rfl dX5_becomesHigh_41 ?_
          refine lv_iconst (v := 1) hx hb dX5_becomesHigh_44 (by decide) ?_
          refine lv_iadd hx hb dX5_becomesHigh_45 ?_
          refine va_put (D := (dC, dI)) (ci := 5) (v := .int ((Ik 16) + 1)) (ty := .int) (C := RX5) (T := TX5) (N := 32) hx hb hts hin5 tyX5 tyX5_ok nmX5 hown hK hP hD hS 0 rfl rfl 16 (by decide) f_187 (fun _ h9 => h9) rfl (by decide +kernel) rfl rfl (Nat.le_of_ble_eq_true rfl) dX5_becomesHigh_46 (fun H locs hP hD hS => ?_)
          have hP : va_P (dC, dI) vwCl (wMdl cy m0 a (upd Ik 16 ((Ik 16) + 1)) Rk) H := hP
          have hD : va_D A (wMdl cy m0 a (upd Ik 16 ((Ik 16) + 1)) Rk) := hD
          refine lv_aload_n hx hb dX5_becomesHigh_49 rfl (lv_at hl 0 rfl) ?_
          refine lv_iload_n hx hb dX5_becomesHigh_50 rfl (lv_at hl 1 rfl) ?_
          have hPc := hP.sub (ws' := wMdl cy m0 a (upd Ik 16 ((Ik 16) + 1)) Rk) [0, 1, 2, 3, 4, 5, 6, 7, 8, 9, 10, 11, 12] rfl
          have hDc := hD.sub (ws' := wMdl cy m0 a (upd Ik 16 ((Ik 16) + 1)) Rk) [0, 1, 2, 3, 4, 5, 6, 7, 8, 9, 10, 11, 12] (by decide) rfl
          have hFc := va_free (wc := wMdl cy m0 a (upd Ik 16 ((Ik 16) + 1)) Rk) hD hS hA [0, 1, 2, 3, 4, 5, 6, 7, 8, 9, 10, 11, 12] rfl
          refine va_callv (va_runV (As := [.int (nI q)]) (rest := []) ⟨hx, hb, hml, hown, hts⟩ (c_X5_forgets l dC dI cy H.size m0 a (upd Ik 16 ((Ik 16) + 1)) Rk m9 (by omega) em q (by omega)) (cwV 1 hts gX5_becomesHigh_X5_forgets rfl rfl rfl (by decide +kernel) ⟨Nat.le_of_ble_eq_true rfl, Nat.le_of_ble_eq_true rfl⟩) ⟨bl_in, va_recv hK hPc (ci := 5) (q0 := 0) rfl rfl, pr_in hPc hE hDc⟩ rfl rfl hl.1 rfl (lv_room (Nat.le_of_ble_eq_true rfl)) dX5_becomesHigh_51 ⟨Nat.le_of_ble_eq_true rfl, Nat.le_of_ble_eq_true rfl⟩) hS (fun q _ h => hFc q h) hFc (fun u t H1 locs ht hvm hw hB hz1 hk1 hS => ?_)
          obtain ⟨I_51, R_51⟩ := u
          have e_51 : (I_51, R_51) = _ := hw
          obtain ⟨hP1, hD1⟩ := hB
          rw [ht] at hP1
          obtain ⟨hP, hD⟩ := va_join (wr := []) (w1 := wMdl cy m0 a I_51 R_51) hP hD [0, 1, 2, 3, 4, 5, 6, 7, 8, 9, 10, 11, 12] [] rfl rfl (by decide) (by decide) hk1 hFc hP1 hD1
          have hP : va_P (dC, dI) vwCl (wMdl cy m0 a I_51 R_51) H1 := hP.sub [0, 1, 2, 3, 4, 5, 6, 7, 8, 9, 10, 11, 12] rfl
          have hD : va_D A (wMdl cy m0 a I_51 R_51) := hD.sub [0, 1, 2, 3, 4, 5, 6, 7, 8, 9, 10, 11, 12] (by decide) rfl
          clear hz1 hk1 hPc hDc hFc hP1 hD1
          generalize H1 = H at hP hS ⊢
          refine lv_iinc (v := jm q) (lv' := [(1, .int (jm q)), (0, .ref m0)]) hx hb dX5_becomesHigh_54 hl (k := 1) rfl (jm_dec q) (by decide) rfl (fun ls hl => ?_)
          refine lv_goto (tgt := 22) hx hb dX5_becomesHigh_57 (by decide) ?_
          exact ih22 q _ _ m9 ls (by omega) (by omega) (by rw [← eb]; simp only [bhR]; rw [eT, nI_clamp (show tj < 2 ^ 31 by omega), if_pos (b01.mp c_36), ← e_51]) ((fgt_1 e_51 em).2.1.trans eR1) (fgt_1 e_51 em).1 (by omega) (fgt_J e_51 em (by omega) hJ) _ _ hP hD hS (lv_sub hl [1, 0] rfl)
  exact loop22 (mj + 1) mj (upd (upd I 17 (I 17 + 1)) 29 1) R mj ls (Nat.le_refl _) (by omega) (by simp only [becH, hI28, nI_clamp (show mj < 2 ^ 31 by omega)]) rfl hI28 hm hJ _ _ hP hD hS (lv_sub hl [1, 0] rfl)
set_option maxHeartbeats 1000000 in
set_option maxRecDepth 100000 in
/-- a unit of time -/
theorem c_X5_runs (l : Launch) (dC : Nat → ClassId) (dI : Nat → Nat → Nat) (cy : Nat → ClassId) (sz : Nat) (m0 : Nat) (a : Nat → Nat) (I : Nat → Int32) (R : vG) (n : Nat) (hn : n ≤ 8) (hS0 : R 1 0 = nI n) (hG : okG (Gs (R 1)) n) (mj : Nat) (hm : mj ≤ 1690) (hI28 : I 28 = nI mj) (hJ : ∀ y, y < mj → ∃ tj, tj < n ∧ R 24 y = nI tj) (v : Nat) (p1 : Int32) : Met l yX5_runs wsX5_runs ({ frames := 4, cells := 0, slots := 0, locals := 87 }) (va_Pc [.ref m0, .int (nI v), .int p1] (pIn dC dI cy (wMdl cy m0 a I R) sz)) (va_Qv (fun (u : MSt) => u = runR v p1 (I, R)) (fun (u : (Nat → Int32) × vG) t => va_P (dC, dI) vwCl (wMdl cy m0 a u.1 u.2) t.heap ∧ va_D (va_A (wMdl cy m0 a I R) sz) (wMdl cy m0 a u.1 u.2)) (va_A (wMdl cy m0 a I R) sz)) 0 0 (va_A (wMdl cy m0 a I R) sz) := by
  refine Met.ofW (cc := cX5_runs) (maxL := 4) (ret := none) (by decide) rfl ?_
  intro p e s m args below meth c s₁ B hml hv
  obtain ⟨rfl, hsz, hP, hE, hD0⟩ := hv
  have hK := hE.1
  subst hsz
  have hD := hD0.self (sz := s.heap.size)
  generalize hAe : va_A (wMdl cy m0 a I R) s.heap.size = A at hD ⊢
  have hA : ∀ q : Nat, s.heap.size ≤ q → A q := fun q h => by rw [← hAe]; exact Or.inr h
  have hS : va_S A s.heap s.heap [] := va_S.rf
  have hP : va_P (dC, dI) vwCl (wMdl cy m0 a I R) s.heap := hP
  have hx := B.exec
  have hb := B.bytes
  have hr := B.returns
  have hts := atoms_spec (ws := wsX5_runs) B.pre
  have hown : s.vm.findClass RX5 = some m.cls := findClass_of_methodNamed B.named
  have hlocks := B.notSynchronized
  have hin5 : ∀ w ∈ u_ws RX5 TX5 32, w ∈ wsX5_runs := by decide +kernel
  have f_184 := hts (.fieldLink RX5 184 "DeadlineAdmissionModel" "mode" "I") (by decide +kernel)
  have f_194 := hts (.fieldLink RX5 194 "DeadlineAdmissionModel" "jobs" "I") (by decide +kernel)
  have f_217 := hts (.fieldLink RX5 217 "DeadlineAdmissionModel" "idle" "I") (by decide +kernel)
  have f_38 := hts (.fieldLink RX5 38 "DeadlineAdmissionModel" "jobTask" "[I") (by decide +kernel)
  have f_44 := hts (.fieldLink RX5 44 "DeadlineAdmissionModel" "jobRan" "[I") (by decide +kernel)
  have f_47 := hts (.fieldLink RX5 47 "DeadlineAdmissionModel" "jobNeeds" "[I") (by decide +kernel)
  have f_9 := hts (.fieldLink RX5 9 "DeadlineAdmissionModel" "s" "[I") (by decide +kernel)
  have hl := lv_entry ([.ref m0, .int (nI v), .int p1]) (n := 4) (Nat.le_of_ble_eq_true rfl)
  rw [lg_entry_eq]
  generalize (lg_sl ([.ref m0, .int (nI v), .int p1]) ++ List.replicate (4 - (lg_sl ([.ref m0, .int (nI v), .int p1])).length) Slot.unset).toArray = ls at hl ⊢
  have hl : lv_has ls 4 [(0, .ref m0), (1, .int (nI v)), (2, .int p1)] := hl
  refine lv_aload_n hx hb dX5_runs_0 rfl (lv_at hl 0 rfl) ?_
  refine va_get (D := (dC, dI)) (ci := 5) (v := .int (I 28)) (C := RX5) (T := TX5) (N := 32) hx hb hts hin5 hown hK hP 0 rfl rfl 28 (by decide) f_194 (fun _ h9 => h9) rfl dX5_runs_1 ?_
  refine lv_if_ne (tgt := 18) hx hb dX5_runs_4 (by decide) (fun c_4 => ?_) (fun c_4 => ?_)
  · obtain ⟨m9, rfl⟩ : ∃ z, mj = z + 1 := ⟨mj - 1, by rcases Nat.eq_zero_or_pos mj with h | h; exact absurd (by rw [hI28, h]; rfl) c_4; omega⟩
    have hm9 : I 28 = nI (m9 + 1) := hI28
    refine lv_aload_n hx hb dX5_runs_18 rfl (lv_at hl 0 rfl) ?_
    refine vp_callSi (va_runV (As := []) (rest := []) ⟨hx, hb, hml, hown, hts⟩ (c_X5_earliest l dC dI cy m0 a I R n hn hS0 hG m9 (by omega) hm9 hJ) (cwV 0 hts gX5_runs_X5_earliest rfl rfl rfl (by decide +kernel) ⟨Nat.le_of_ble_eq_true rfl, Nat.le_of_ble_eq_true rfl⟩) ⟨bl_ro, va_recv hK hP (ci := 5) (q0 := 0) rfl rfl, pr_ro hP hE⟩ rfl rfl hl.1 rfl (lv_room (Nat.le_of_ble_eq_true rfl)) dX5_runs_19 ⟨Nat.le_of_ble_eq_true rfl, Nat.le_of_ble_eq_true rfl⟩).run (fun r e_r => ?_)
    subst e_r
    have ee9 : ear (djl I R) (R 24) m9 = earS (I, R) := by rw [earS, cm1 hm9 (by omega)]
    have hle9 := ear_le (djl I R) (R 24) m9
    generalize ear (djl I R) (R 24) m9 = e9 at ee9 hle9 ⊢
    obtain ⟨tj, ht9, eT⟩ := hJ e9 (by omega)
    refine lv_istore_n (lv' := [(3, .int (nI e9)), (0, .ref m0), (1, .int (nI v)), (2, .int p1)]) hx hb dX5_runs_22 rfl hl (by decide) rfl (fun ls hl => ?_)
    refine lv_aload_n hx hb dX5_runs_23 rfl (lv_at hl 1 rfl) ?_
    refine va_get (D := (dC, dI)) (ci := 5) (v := .ref (a 26)) (C := RX5) (T := TX5) (N := 32) hx hb hts hin5 hown hK hP 0 rfl rfl 26 (by decide) f_44 (fun _ h9 => h9) rfl dX5_runs_24 ?_
    refine lv_iload_n hx hb dX5_runs_27 rfl (lv_at hl 0 rfl) ?_
    refine lv_dup2_11 hx hb dX5_runs_28 rfl rfl ?_
    refine wI_alv (v := R 26 e9) hx hb hK hP 11 0 rfl rfl e9 rfl (by omega) (by decide) rfl dX5_runs_29 ?_
    refine lv_iconst (v := 1) hx hb dX5_runs_30 (by decide) ?_
    refine lv_iadd hx hb dX5_runs_31 ?_
    refine wI_ast hx hb hK hP hD hS 11 0 rfl rfl e9 rfl (by omega) (by decide) dX5_runs_32 (fun H locs hP hD hS => ?_)
    have hP : va_P (dC, dI) vwCl (wMdl cy m0 a I (upr R 26 (upd (R 26) e9 ((R 26 e9) + 1)))) H := hP
    have hD : va_D A (wMdl cy m0 a I (upr R 26 (upd (R 26) e9 ((R 26 e9) + 1)))) := hD
    refine lv_aload_n hx hb dX5_runs_33 rfl (lv_at hl 1 rfl) ?_
    refine va_get (D := (dC, dI)) (ci := 5) (v := .ref (a 26)) (C := RX5) (T := TX5) (N := 32) hx hb hts hin5 hown hK hP 0 rfl rfl 26 (by decide) f_44 (fun _ h9 => h9) rfl dX5_runs_34 ?_
    refine lv_iload_n hx hb dX5_runs_37 rfl (lv_at hl 0 rfl) ?_
    refine wI_alv (v := R 26 e9 + 1) hx hb hK hP 11 0 rfl rfl e9 rfl (by omega) (by decide) pk_us dX5_runs_38 ?_
    refine lv_aload_n hx hb dX5_runs_39 rfl (lv_at hl 1 rfl) ?_
    refine va_get (D := (dC, dI)) (ci := 5) (v := .ref (a 27)) (C := RX5) (T := TX5) (N := 32) hx hb hts hin5 hown hK hP 0 rfl rfl 27 (by decide) f_47 (fun _ h9 => h9) rfl dX5_runs_40 ?_
    refine lv_iload_n hx hb dX5_runs_43 rfl (lv_at hl 0 rfl) ?_
    refine wI_alv (v := R 27 e9) hx hb hK hP 12 0 rfl rfl e9 rfl (by omega) (by decide) rfl dX5_runs_44 ?_
    refine lv_icmp_ne (tgt := 60) hx hb dX5_runs_45 (by decide) (fun c_45 => ?_) (fun c_45 => ?_)
    · refine lv_aload_n hx hb dX5_runs_60 rfl (lv_at hl 1 rfl) ?_
      refine va_get (D := (dC, dI)) (ci := 5) (v := .int (I 29)) (C := RX5) (T := TX5) (N := 32) hx hb hts hin5 hown hK hP 0 rfl rfl 29 (by decide) f_184 (fun _ h9 => h9) rfl dX5_runs_61 ?_
      refine lv_if_ne (tgt := 107) hx hb dX5_runs_64 (by decide) (fun c_64 => ?_) (fun c_64 => ?_)
      · have hP9 : va_P (dC, dI) vwCl (wMdl cy m0 a I (upr R 26 (upd (R 26) e9 ((R 26 e9) + 1)))) H := hP
        have hD9 : va_D A (wMdl cy m0 a I (upr R 26 (upd (R 26) e9 ((R 26 e9) + 1)))) := hD
        exact W.vret hx hb hr (fun t ht hW => ⟨⟨(I, upr R 26 (upd (R 26) e9 ((R 26 e9) + 1))), rfl, (by simp only [runR]; rw [if_neg (show ¬ I 28 = 0 from c_4), ← ee9]; simp only [runR1]; rw [if_neg c_45, if_neg (fun h => c_64 h.1)]; rfl), by rw [ht]; exact hP9, hD9⟩, hS.F ht⟩) hS.2.2 dX5_runs_107
      · refine lv_aload_n hx hb dX5_runs_67 rfl (lv_at hl 1 rfl) ?_
        refine lv_aload_n hx hb dX5_runs_68 rfl (lv_at hl 1 rfl) ?_
        refine va_get (D := (dC, dI)) (ci := 5) (v := .ref (a 24)) (C := RX5) (T := TX5) (N := 32) hx hb hts hin5 hown hK hP 0 rfl rfl 24 (by decide) f_38 (fun _ h9 => h9) rfl dX5_runs_69 ?_
        refine lv_iload_n hx hb dX5_runs_72 rfl (lv_at hl 0 rfl) ?_
        refine wI_alv (v := nI tj) hx hb hK hP 9 0 rfl rfl e9 rfl (by omega) (by decide) eT dX5_runs_73 ?_
        refine vp_callSi (va_runV (As := [.int (nI tj)]) (rest := []) ⟨hx, hb, hml, hown, hts⟩ (c_X5_isHighTask l dC dI cy m0 a I (upr R 26 (upd (R 26) e9 ((R 26 e9) + 1)))  tj (by omega)) (cwV 1 hts gX5_runs_X5_isHighTask rfl rfl rfl (by decide +kernel) ⟨Nat.le_of_ble_eq_true rfl, Nat.le_of_ble_eq_true rfl⟩) ⟨bl_ro, va_recv hK hP (ci := 5) (q0 := 0) rfl rfl, pr_ro hP hE⟩ rfl rfl hl.1 rfl (lv_room (Nat.le_of_ble_eq_true rfl)) dX5_runs_74 ⟨Nat.le_of_ble_eq_true rfl, Nat.le_of_ble_eq_true rfl⟩).run (fun r e_r => ?_)
        subst e_r
        refine lv_topi (fun y_ ey_ => ?_)
        obtain rfl : y_ = if Gs (R 1) 3 tj ≤ 0 then 0 else 1 := ey_
        refine lv_if_eq (tgt := 107) hx hb dX5_runs_77 (by decide) (fun c_77 => ?_) (fun c_77 => ?_)
        · have hP9 : va_P (dC, dI) vwCl (wMdl cy m0 a I (upr R 26 (upd (R 26) e9 ((R 26 e9) + 1)))) H := hP
          have hD9 : va_D A (wMdl cy m0 a I (upr R 26 (upd (R 26) e9 ((R 26 e9) + 1)))) := hD
          exact W.vret hx hb hr (fun t ht hW => ⟨⟨(I, upr R 26 (upd (R 26) e9 ((R 26 e9) + 1))), rfl, (by simp only [runR]; rw [if_neg (show ¬ I 28 = 0 from c_4), ← ee9]; simp only [runR1]; rw [if_neg c_45, if_neg (fun h => h.2.1 (by rw [eT, nI_clamp (by omega)]; exact b01.mp c_77))]; rfl), by rw [ht]; exact hP9, hD9⟩, hS.F ht⟩) hS.2.2 dX5_runs_107
        · refine lv_aload_n hx hb dX5_runs_80 rfl (lv_at hl 1 rfl) ?_
          refine va_get (D := (dC, dI)) (ci := 5) (v := .ref (a 26)) (C := RX5) (T := TX5) (N := 32) hx hb hts hin5 hown hK hP 0 rfl rfl 26 (by decide) f_44 (fun _ h9 => h9) rfl dX5_runs_81 ?_
          refine lv_iload_n hx hb dX5_runs_84 rfl (lv_at hl 0 rfl) ?_
          refine wI_alv (v := R 26 e9 + 1) hx hb hK hP 11 0 rfl rfl e9 rfl (by omega) (by decide) pk_us dX5_runs_85 ?_
          refine lv_aload_n hx hb dX5_runs_86 rfl (lv_at hl 1 rfl) ?_
          refine va_get (D := (dC, dI)) (ci := 5) (v := .ref (a 1)) (C := RX5) (T := TX5) (N := 32) hx hb hts hin5 hown hK hP 0 rfl rfl 1 (by decide) f_9 (fun _ h9 => h9) rfl dX5_runs_87 ?_
          refine lv_bipush (v := 18) hx hb dX5_runs_90 (by decide) ?_
          refine lv_aload_n hx hb dX5_runs_92 rfl (lv_at hl 1 rfl) ?_
          refine va_get (D := (dC, dI)) (ci := 5) (v := .ref (a 24)) (C := RX5) (T := TX5) (N := 32) hx hb hts hin5 hown hK hP 0 rfl rfl 24 (by decide) f_38 (fun _ h9 => h9) rfl dX5_runs_93 ?_
          refine lv_iload_n hx hb dX5_runs_96 rfl (lv_at hl 0 rfl) ?_
          refine wI_alv (v := nI tj) hx hb hK hP 9 0 rfl rfl e9 rfl (by omega) (by decide) eT dX5_runs_97 ?_
          refine lv_iadd hx hb dX5_runs_98 ?_
          refine wI_alv (v := Gs (R 1) 2 tj) hx hb hK hP 1 0 rfl rfl (18 + tj) (nadd rfl rfl) (by omega) (by decide) rfl dX5_runs_99 ?_
          refine lv_icmp_ne (tgt := 107) hx hb dX5_runs_100 (by decide) (fun c_100 => ?_) (fun c_100 => ?_)
          · have hP9 : va_P (dC, dI) vwCl (wMdl cy m0 a I (upr R 26 (upd (R 26) e9 ((R 26 e9) + 1)))) H := hP
            have hD9 : va_D A (wMdl cy m0 a I (upr R 26 (upd (R 26) e9 ((R 26 e9) + 1)))) := hD
            exact W.vret hx hb hr (fun t ht hW => ⟨⟨(I, upr R 26 (upd (R 26) e9 ((R 26 e9) + 1))), rfl, (by simp only [runR]; rw [if_neg (show ¬ I 28 = 0 from c_4), ← ee9]; simp only [runR1]; rw [if_neg c_45, if_neg (fun h => c_100 (by rw [← show Gs (R 1) 2 (R 24 e9).toNatClampNeg = Gs (R 1) 2 tj by rw [eT, nI_clamp (by omega)]]; exact h.2.2))]; rfl), by rw [ht]; exact hP9, hD9⟩, hS.F ht⟩) hS.2.2 dX5_runs_107
          · refine lv_aload_n hx hb dX5_runs_103 rfl (lv_at hl 1 rfl) ?_
            have hPc := hP.sub (ws' := wMdl cy m0 a I (upr R 26 (upd (R 26) e9 ((R 26 e9) + 1)))) [0, 1, 2, 3, 4, 5, 6, 7, 8, 9, 10, 11, 12] rfl
            have hDc := hD.sub (ws' := wMdl cy m0 a I (upr R 26 (upd (R 26) e9 ((R 26 e9) + 1)))) [0, 1, 2, 3, 4, 5, 6, 7, 8, 9, 10, 11, 12] (by decide) rfl
            have hFc := va_free (wc := wMdl cy m0 a I (upr R 26 (upd (R 26) e9 ((R 26 e9) + 1)))) hD hS hA [0, 1, 2, 3, 4, 5, 6, 7, 8, 9, 10, 11, 12] rfl
            refine va_callv (va_runV (As := []) (rest := []) ⟨hx, hb, hml, hown, hts⟩ (c_X5_becomesHigh l dC dI cy H.size m0 a I (upr R 26 (upd (R 26) e9 ((R 26 e9) + 1))) n hn (m9 + 1) (by omega) hm9 hJ) (cwV 0 hts gX5_runs_X5_becomesHigh rfl rfl rfl (by decide +kernel) ⟨Nat.le_of_ble_eq_true rfl, Nat.le_of_ble_eq_true rfl⟩) ⟨bl_in, va_recv hK hPc (ci := 5) (q0 := 0) rfl rfl, pr_in hPc hE hDc⟩ rfl rfl hl.1 rfl (lv_room (Nat.le_of_ble_eq_true rfl)) dX5_runs_104 ⟨Nat.le_of_ble_eq_true rfl, Nat.le_of_ble_eq_true rfl⟩) hS (fun q _ h => hFc q h) hFc (fun u t H1 locs ht hvm hw hB hz1 hk1 hS => ?_)
            obtain ⟨I_104, R_104⟩ := u
            have e_104 : (I_104, R_104) = _ := hw
            obtain ⟨hP1, hD1⟩ := hB
            rw [ht] at hP1
            obtain ⟨hP, hD⟩ := va_join (wr := []) (w1 := wMdl cy m0 a I_104 R_104) hP hD [0, 1, 2, 3, 4, 5, 6, 7, 8, 9, 10, 11, 12] [] rfl rfl (by decide) (by decide) hk1 hFc hP1 hD1
            have hP : va_P (dC, dI) vwCl (wMdl cy m0 a I_104 R_104) H1 := hP.sub [0, 1, 2, 3, 4, 5, 6, 7, 8, 9, 10, 11, 12] rfl
            have hD : va_D A (wMdl cy m0 a I_104 R_104) := hD.sub [0, 1, 2, 3, 4, 5, 6, 7, 8, 9, 10, 11, 12] (by decide) rfl
            clear hz1 hk1 hPc hDc hFc hP1 hD1
            generalize H1 = H at hP hS ⊢
            have hP9 : va_P (dC, dI) vwCl (wMdl cy m0 a I_104 R_104) H := hP
            have hD9 : va_D A (wMdl cy m0 a I_104 R_104) := hD
            exact W.vret hx hb hr (fun t ht hW => ⟨⟨(I_104, R_104), rfl, (by simp only [runR]; rw [if_neg (show ¬ I 28 = 0 from c_4), ← ee9]; simp only [runR1]; rw [if_neg c_45, if_pos ⟨c_64, fun h => c_77 (b01.mpr (by rw [eT, nI_clamp (by omega)] at h; exact h)), (by rw [eT, nI_clamp (by omega)]; exact c_100)⟩]; exact e_104), by rw [ht]; exact hP9, hD9⟩, hS.F ht⟩) hS.2.2 dX5_runs_107
    · refine lv_aload_n hx hb dX5_runs_48 rfl (lv_at hl 1 rfl) ?_
      refine lv_iload_n hx hb dX5_runs_49 rfl (lv_at hl 0 rfl) ?_
      refine lv_iload_n hx hb dX5_runs_50 rfl (lv_at hl 2 rfl) ?_
      refine lv_iconst (v := 1) hx hb dX5_runs_51 (by decide) ?_
      refine lv_iadd hx hb dX5_runs_52 ?_
      refine lv_iload_n hx hb dX5_runs_53 rfl (lv_at hl 3 rfl) ?_
      have hPc := hP.sub (ws' := wMdl cy m0 a I (upr R 26 (upd (R 26) e9 ((R 26 e9) + 1)))) [0, 1, 2, 3, 4, 5, 6, 7, 8, 9, 10, 11, 12] rfl
      have hDc := hD.sub (ws' := wMdl cy m0 a I (upr R 26 (upd (R 26) e9 ((R 26 e9) + 1)))) [0, 1, 2, 3, 4, 5, 6, 7, 8, 9, 10, 11, 12] (by decide) rfl
      have hFc := va_free (wc := wMdl cy m0 a I (upr R 26 (upd (R 26) e9 ((R 26 e9) + 1)))) hD hS hA [0, 1, 2, 3, 4, 5, 6, 7, 8, 9, 10, 11, 12] rfl
      refine va_callv (va_runV (As := [.int (nI e9), .int ((nI v) + 1), .int p1]) (rest := []) ⟨hx, hb, hml, hown, hts⟩ (c_X5_ends l dC dI cy H.size m0 a I (upr R 26 (upd (R 26) e9 ((R 26 e9) + 1))) m9 (by omega) hm9 e9 (by omega) tj (by omega) eT ((nI v) + 1) p1) (cwV 3 hts gX5_runs_X5_ends rfl rfl rfl (by decide +kernel) ⟨Nat.le_of_ble_eq_true rfl, Nat.le_of_ble_eq_true rfl⟩) ⟨bl_in, va_recv hK hPc (ci := 5) (q0 := 0) rfl rfl, pr_in hPc hE hDc⟩ rfl rfl hl.1 rfl (lv_room (Nat.le_of_ble_eq_true rfl)) dX5_runs_54 ⟨Nat.le_of_ble_eq_true rfl, Nat.le_of_ble_eq_true rfl⟩) hS (fun q _ h => hFc q h) hFc (fun u t H1 locs ht hvm hw hB hz1 hk1 hS => ?_)
      obtain ⟨I_54, R_54⟩ := u
      have e_54 : (I_54, R_54) = _ := hw
      obtain ⟨hP1, hD1⟩ := hB
      rw [ht] at hP1
      obtain ⟨hP, hD⟩ := va_join (wr := []) (w1 := wMdl cy m0 a I_54 R_54) hP hD [0, 1, 2, 3, 4, 5, 6, 7, 8, 9, 10, 11, 12] [] rfl rfl (by decide) (by decide) hk1 hFc hP1 hD1
      have hP : va_P (dC, dI) vwCl (wMdl cy m0 a I_54 R_54) H1 := hP.sub [0, 1, 2, 3, 4, 5, 6, 7, 8, 9, 10, 11, 12] rfl
      have hD : va_D A (wMdl cy m0 a I_54 R_54) := hD.sub [0, 1, 2, 3, 4, 5, 6, 7, 8, 9, 10, 11, 12] (by decide) rfl
      clear hz1 hk1 hPc hDc hFc hP1 hD1
      generalize H1 = H at hP hS ⊢
      refine lv_goto (tgt := 107) hx hb dX5_runs_57 (by decide) ?_
      have hP9 : va_P (dC, dI) vwCl (wMdl cy m0 a I_54 R_54) H := hP
      have hD9 : va_D A (wMdl cy m0 a I_54 R_54) := hD
      exact W.vret hx hb hr (fun t ht hW => ⟨⟨(I_54, R_54), rfl, (by simp only [runR]; rw [if_neg (show ¬ I 28 = 0 from c_4), ← ee9]; simp only [runR1]; rw [if_pos c_45]; exact e_54), by rw [ht]; exact hP9, hD9⟩, hS.F ht⟩) hS.2.2 dX5_runs_107
  · refine lv_aload_n hx hb dX5_runs_7 rfl (lv_at hl 0 rfl) ?_
    refine lv_dup hx hb dX5_runs_8 rfl ?_
    refine va_get (D := (dC, dI)) (ci := 5) (v := .int (I 18)) (C := RX5) (T := TX5) (N := 32) hx hb hts hin5 hown hK hP 0 rfl rfl 18 (by decide) f_217 (fun _ h9 => h9) rfl dX5_runs_9 ?_
    refine lv_iconst (v := 1) hx hb dX5_runs_12 (by decide) ?_
    refine lv_iadd hx hb dX5_runs_13 ?_
    refine va_put (D := (dC, dI)) (ci := 5) (v := .int ((I 18) + 1)) (ty := .int) (C := RX5) (T := TX5) (N := 32) hx hb hts hin5 tyX5 tyX5_ok nmX5 hown hK hP hD hS 0 rfl rfl 18 (by decide) f_217 (fun _ h9 => h9) rfl (by decide +kernel) rfl rfl (Nat.le_of_ble_eq_true rfl) dX5_runs_14 (fun H locs hP hD hS => ?_)
    have hP : va_P (dC, dI) vwCl (wMdl cy m0 a (upd I 18 ((I 18) + 1)) R) H := hP
    have hD : va_D A (wMdl cy m0 a (upd I 18 ((I 18) + 1)) R) := hD
    have hP9 : va_P (dC, dI) vwCl (wMdl cy m0 a (upd I 18 ((I 18) + 1)) R) H := hP
    have hD9 : va_D A (wMdl cy m0 a (upd I 18 ((I 18) + 1)) R) := hD
    exact W.vret hx hb hr (fun t ht hW => ⟨⟨(upd I 18 ((I 18) + 1), R), rfl, (by simp only [runR, if_pos c_4]), by rw [ht]; exact hP9, hD9⟩, hS.F ht⟩) hS.2.2 dX5_runs_17

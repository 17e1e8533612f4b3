/-! PART 26: the reference, upgrade -/
theorem lvl_lt {G : vG} {n i : Nat} (h : okG G n) (hi : i < n) : ∃ lv, G 6 i = nI lv ∧ lv < 3 := by
  obtain ⟨P, D, L, H, im, mo, lv, e0, e1, e2, e3, e4, e5, e6, hr⟩ := h i hi
  exact ⟨lv, e6, by omega⟩
theorem okG_low {G : vG} {n i lv : Nat} (h : okG G n) (hi : i < n) (e : G 6 i = nI (lv + 1)) (hs : lv < 7) : okG (up2 G 6 i (G 6 i - 1)) n := by
  obtain ⟨P, D, L, H, im, mo, lv0, e0, e1, e2, e3, e4, e5, e6, hr⟩ := h i hi
  have h9 : lv0 = lv + 1 := by
    obtain ⟨l2, q1, q2⟩ := lvl_lt h hi
    have a : nI lv0 = nI l2 := e6.symm.trans q1
    have b : nI (lv + 1) = nI l2 := e.symm.trans q1
    have a2 := (nI_eq (by omega) (by omega)).mp a
    by_cases z : lv + 1 < 2 ^ 31
    · have b2 := (nI_eq z (by omega)).mp b
      omega
    · omega
  refine okG_lev (lv := lv) h (by rw [e]; exact nI_pred lv) ?_ (by omega)
  rw [e5]; exact nI_le (by omega) (by omega)
theorem im1 (x : Int32) : x + Int32.ofInt (-1) = x - 1 := by
  rw [show Int32.ofInt (-1) = (-1 : Int32) from by decide]
  exact (Int32.sub_eq_add_neg _ _).symm
theorem agr_low {Sc : Nat → Int32} {Gc : vG} {n i : Nat} (hn : n ≤ 8) (hi : i < n) (h : agr (Gs Sc) Gc n) : agr (Gs (upd Sc (50 + i) (Gs Sc 6 i - 1))) (up2 Gc 6 i (Gc 6 i - 1)) n := by
  rw [h 6 (by decide) i hi]
  exact agr_lev hn (by omega) h
theorem agr_bk {Sc : Nat → Int32} {Gc : vG} {n i : Nat} {y : Int32} (hn : n ≤ 8) (hi : i < n) (h : agr (Gs Sc) Gc n) : agr (Gs (upd (upd (upd Sc (50 + i) (Gs Sc 6 i - 1)) 1 y) (50 + i) (Gs (upd (upd Sc (50 + i) (Gs Sc 6 i - 1)) 1 y) 6 i + 1))) Gc n := by
  have h1 : agr (Gs (upd (upd Sc (50 + i) (Gs Sc 6 i - 1)) 1 y)) (up2 Gc 6 i (Gc 6 i - 1)) n := by rw [Gs_upd1]; exact agr_low hn hi h
  have h2 := agr_lev (x := up2 Gc 6 i (Gc 6 i - 1) 6 i + 1) hn (show i < 8 by omega) h1
  rw [up2_back] at h2
  rw [h1 6 (by decide) i hi]
  exact h2
theorem agr_ad0 {Sc : Nat → Int32} {Gc : vG} {n i : Nat} (hn : n ≤ 8) (hi : i < n) (h : agr (Gs Sc) Gc n) : agr (Gs (upd Sc (50 + i) (Gs Sc 6 i + 0))) Gc n := by
  rw [Int32.add_zero, show upd Sc (50 + i) (Gs Sc 6 i) = Sc from by rw [show Gs Sc 6 i = Sc (50 + i) from rfl]; exact upd_self Sc (50 + i)]
  exact h
set_option maxHeartbeats 1000000 in
set_option maxRecDepth 100000 in
/-- the service is raised again -/
theorem c_X5_upgrade (l : Launch) (dC : Nat → ClassId) (dI : Nat → Nat → Nat) (cy : Nat → ClassId) (sz : Nat) (m0 : Nat) (a : Nat → Nat) (I : Nat → Int32) (R : vG) (n : Nat) (hn : n ≤ 8) (hS0 : R 1 0 = nI n) (G : vG) (hagr : agr (Gs (R 1)) G n) (hG0 : okG G n) (ch : Nat) (hch : ch ≤ 6) (hI5 : I 5 = nI ch) : Met l yX5_upgrade wsX5_upgrade ({ frames := 7, cells := 0, slots := 0, locals := 158 }) (va_Pc [.ref m0] (pIn dC dI cy (wMdl cy m0 a I R) sz)) (va_Qi (fun (r : Int32) u => qUpg I R n G ch r u) (fun (u : (Nat → Int32) × vG) t => va_P (dC, dI) vwCl (wMdl cy m0 a u.1 u.2) t.heap ∧ va_D (va_A (wMdl cy m0 a I R) sz) (wMdl cy m0 a u.1 u.2)) (va_A (wMdl cy m0 a I R) sz)) 0 0 (va_A (wMdl cy m0 a I R) sz) := by
  refine Met.ofW (cc := cX5_upgrade) (maxL := 5) (ret := some .int) (by decide) rfl ?_
  intro p e s m args below meth c s₁ B hml hv
  obtain ⟨rfl, hsz, hP, hE, hD0⟩ := hv
  have hK := hE.1
  subst hsz
  have hD := hD0.self (sz := s.heap.size)
  generalize hAe : va_A (wMdl cy m0 a I R) s.heap.size = A at hD ⊢
  have hA : ∀ q : Nat, s.heap.size ≤ q → A q := fun q h => by rw [← hAe]; exact Or.inr h
  have hS : va_S A s.heap s.heap [] := va_S.rf
  have hP : va_P (dC, dI) vwCl (wMdl cy m0 a I R) s.heap := hP
  have hx := B.exec
  have hb := B.bytes
  have hr := B.returns
  have hts := atoms_spec (ws := wsX5_upgrade) B.pre
  have hown : s.vm.findClass RX5 = some m.cls := findClass_of_methodNamed B.named
  have hlocks := B.notSynchronized
  have hin5 : ∀ w ∈ u_ws RX5 TX5 32, w ∈ wsX5_upgrade := by decide +kernel
  have f_50 := hts (.fieldLink RX5 50 "DeadlineAdmissionModel" "thrown" "I") (by decide +kernel)
  have f_9 := hts (.fieldLink RX5 9 "DeadlineAdmissionModel" "s" "[I") (by decide +kernel)
  have hl := lv_entry ([.ref m0]) (n := 5) (Nat.le_of_ble_eq_true rfl)
  rw [lg_entry_eq]
  generalize (lg_sl ([.ref m0]) ++ List.replicate (5 - (lg_sl ([.ref m0])).length) Slot.unset).toArray = ls at hl ⊢
  have hl : lv_has ls 5 [(0, .ref m0)] := hl
  refine lv_aload_n hx hb dX5_upgrade_0 rfl (lv_at hl 0 rfl) ?_
  refine lv_iconst (v := 0) hx hb dX5_upgrade_1 (by decide) ?_
  refine va_put (D := (dC, dI)) (ci := 5) (v := .int 0) (ty := .int) (C := RX5) (T := TX5) (N := 32) hx hb hts hin5 tyX5 tyX5_ok nmX5 hown hK hP hD hS 0 rfl rfl 0 (by decide) f_50 (fun _ h9 => h9) rfl (by decide +kernel) rfl rfl (Nat.le_of_ble_eq_true rfl) dX5_upgrade_2 (fun H locs hP hD hS => ?_)
  have hP : va_P (dC, dI) vwCl (wMdl cy m0 a (upd I 0 0) R) H := hP
  have hD : va_D A (wMdl cy m0 a (upd I 0 0) R) := hD
  refine lv_aload_n hx hb dX5_upgrade_5 rfl (lv_at hl 0 rfl) ?_
  have hPc := hP.sub (ws' := wMdl cy m0 a (upd I 0 0) R) [0, 1, 2, 3, 4, 5, 6, 7, 8, 9, 10, 11, 12] rfl
  have hDc := hD.sub (ws' := wMdl cy m0 a (upd I 0 0) R) [0, 1, 2, 3, 4, 5, 6, 7, 8, 9, 10, 11, 12] (by decide) rfl
  have hFc := va_free (wc := wMdl cy m0 a (upd I 0 0) R) hD hS hA [0, 1, 2, 3, 4, 5, 6, 7, 8, 9, 10, 11, 12] rfl
  refine va_callv (va_runV (As := []) (rest := []) ⟨hx, hb, hml, hown, hts⟩ (c_X5_keeps l dC dI cy H.size m0 a (upd I 0 0) R   ) (cwV 0 hts gX5_upgrade_X5_keeps rfl rfl rfl (by decide +kernel) ⟨Nat.le_of_ble_eq_true rfl, Nat.le_of_ble_eq_true rfl⟩) ⟨bl_in, va_recv hK hPc (ci := 5) (q0 := 0) rfl rfl, pr_in hPc hE hDc⟩ rfl rfl hl.1 rfl (lv_room (Nat.le_of_ble_eq_true rfl)) dX5_upgrade_6 ⟨Nat.le_of_ble_eq_true rfl, Nat.le_of_ble_eq_true rfl⟩) hS (fun q _ h => hFc q h) hFc (fun u t H1 locs ht hvm hw hB hz1 hk1 hS => ?_)
  obtain ⟨hP1, hD1⟩ := hB
  rw [ht] at hP1
  obtain ⟨hP, hD⟩ := va_join (wr := []) (w1 := wMdl cy m0 a (upd I 0 0) (upr R 2 (cpR (R 1) (R 2) 58))) hP hD [0, 1, 2, 3, 4, 5, 6, 7, 8, 9, 10, 11, 12] [] rfl rfl (by decide) (by decide) hk1 hFc hP1 hD1
  have hP : va_P (dC, dI) vwCl (wMdl cy m0 a (upd I 0 0) (upr R 2 (cpR (R 1) (R 2) 58))) H1 := hP.sub [0, 1, 2, 3, 4, 5, 6, 7, 8, 9, 10, 11, 12] rfl
  have hD : va_D A (wMdl cy m0 a (upd I 0 0) (upr R 2 (cpR (R 1) (R 2) 58))) := hD.sub [0, 1, 2, 3, 4, 5, 6, 7, 8, 9, 10, 11, 12] (by decide) rfl
  clear hz1 hk1 hPc hDc hFc hP1 hD1
  generalize H1 = H at hP hS ⊢
  refine lv_iconst (v := 0) hx hb dX5_upgrade_9 (by decide) ?_
  refine lv_istore_n (lv' := [(1, .int 0), (0, .ref m0)]) hx hb dX5_upgrade_10 rfl hl (by decide) rfl (fun ls hl => ?_)
  refine lv_bipush (v := 9) hx hb dX5_upgrade_11 (by decide) ?_
  refine lv_istore_n (lv' := [(2, .int 9), (1, .int 0), (0, .ref m0)]) hx hb dX5_upgrade_13 rfl hl (by decide) rfl (fun ls hl => ?_)
  have loop14 : ∀ (k : Nat) (q : Nat) (Gc : vG) (Sc : Nat → Int32) (sm : Nat) (ls : Array Slot), Sc 0 = nI n → agr (Gs Sc) Gc n → okG Gc n → q ≤ 10 → q < k → upA n q (Gc, sm) = upgr n G → ∀ (H : Heap) (locs : List Loc), va_P (dC, dI) vwCl (wMdl cy m0 a (upd I 0 0) (upr (upr R 1 Sc) 2 (cpR (R 1) (R 2) 58))) H → va_D A (wMdl cy m0 a (upd I 0 0) (upr (upr R 1 Sc) 2 (cpR (R 1) (R 2) 58))) → va_S A s.heap H locs → lv_has ls 5 [(0, .ref m0), (1, .int (nI sm)), (2, .int (nI q - 1))] → W p l e (headSpec wsX5_upgrade ({ frames := 7, cells := 0, slots := 0, locals := 158 }) |>.room) s m (([.ref m0].toArray)) below meth c H locs 0 0 (MQ below (va_Qi (fun (r : Int32) u => qUpg I R n G ch r u) (fun (u : (Nat → Int32) × vG) t => va_P (dC, dI) vwCl (wMdl cy m0 a u.1 u.2) t.heap ∧ va_D (A) (wMdl cy m0 a u.1 u.2)) (A)) ([.ref m0].toArray) s 0 0 A) (F0 m 14 ls []) := by
    intro k
    induction k with
    | zero =>
      intro q Gc Sc sm ls hSc0 hag hok hq hk er
      exfalso; omega
    | succ k ih14 =>
      intro q Gc Sc sm ls hSc0 hag hok hq hk er H locs hP hD hS hl
      refine lv_iload_n hx hb dX5_upgrade_14 rfl (lv_at hl 2 rfl) ?_
      refine lv_if_lt (tgt := 136) hx hb dX5_upgrade_15 (by decide) (fun c_15 => ?_) (fun c_15 => ?_)
      · have e_q : q = 0 := by rcases Nat.eq_zero_or_pos q with h | h; exact h; exact absurd (by rw [show nI q - 1 = nI (q - 1) from nsub rfl rfl h]; exact nI_pos' (by omega)) (Int32.not_le.mpr c_15)
        refine lv_aload_n hx hb dX5_upgrade_136 rfl (lv_at hl 0 rfl) ?_
        have hPc := hP.sub (ws' := wMdl cy m0 a (upd I 0 0) (upr (upr R 1 Sc) 2 (cpR (R 1) (R 2) 58))) [0, 1, 2, 3, 4, 5, 6, 7, 8, 9, 10, 11, 12] rfl
        have hDc := hD.sub (ws' := wMdl cy m0 a (upd I 0 0) (upr (upr R 1 Sc) 2 (cpR (R 1) (R 2) 58))) [0, 1, 2, 3, 4, 5, 6, 7, 8, 9, 10, 11, 12] (by decide) rfl
        have hFc := va_free (wc := wMdl cy m0 a (upd I 0 0) (upr (upr R 1 Sc) 2 (cpR (R 1) (R 2) 58))) hD hS hA [0, 1, 2, 3, 4, 5, 6, 7, 8, 9, 10, 11, 12] rfl
        refine va_calli (va_runV (As := []) (rest := []) ⟨hx, hb, hml, hown, hts⟩ (c_X5_scales l dC dI cy H.size m0 a (upd I 0 0) (upr (upr R 1 Sc) 2 (cpR (R 1) (R 2) 58)) n hn hSc0 (okG_agr hag.symm hok)) (cwV 0 hts gX5_upgrade_X5_scales rfl rfl rfl (by decide +kernel) ⟨Nat.le_of_ble_eq_true rfl, Nat.le_of_ble_eq_true rfl⟩) ⟨bl_in, va_recv hK hPc (ci := 5) (q0 := 0) rfl rfl, pr_in hPc hE hDc⟩ rfl rfl hl.1 rfl (lv_room (Nat.le_of_ble_eq_true rfl)) dX5_upgrade_137 ⟨Nat.le_of_ble_eq_true rfl, Nat.le_of_ble_eq_true rfl⟩) hS (fun q _ h => hFc q h) hFc (fun r u t H1 locs ht hvm hw hB hz1 hk1 hS => ?_)
        obtain ⟨rfl, rfl⟩ := hw
        obtain ⟨hP1, hD1⟩ := hB
        rw [ht] at hP1
        obtain ⟨hP, hD⟩ := va_join (wr := []) (w1 := wMdl cy m0 a (upd I 0 0) (upr (upr R 1 (upd Sc 1 (if gscale (Gs Sc) n = 0 then 1 else nI (gscale (Gs Sc) n)))) 2 (cpR (R 1) (R 2) 58))) hP hD [0, 1, 2, 3, 4, 5, 6, 7, 8, 9, 10, 11, 12] [] rfl rfl (by decide) (by decide) hk1 hFc hP1 hD1
        have hP : va_P (dC, dI) vwCl (wMdl cy m0 a (upd I 0 0) (upr (upr R 1 (upd Sc 1 (if gscale (Gs Sc) n = 0 then 1 else nI (gscale (Gs Sc) n)))) 2 (cpR (R 1) (R 2) 58))) H1 := hP.sub [0, 1, 2, 3, 4, 5, 6, 7, 8, 9, 10, 11, 12] rfl
        have hD : va_D A (wMdl cy m0 a (upd I 0 0) (upr (upr R 1 (upd Sc 1 (if gscale (Gs Sc) n = 0 then 1 else nI (gscale (Gs Sc) n)))) 2 (cpR (R 1) (R 2) 58))) := hD.sub [0, 1, 2, 3, 4, 5, 6, 7, 8, 9, 10, 11, 12] (by decide) rfl
        clear hz1 hk1 hPc hDc hFc hP1 hD1
        generalize H1 = H at hP hS ⊢
        refine lv_topi (fun y_ ey_ => ?_)
        obtain rfl : y_ = if gscale (Gs Sc) n = 0 then 0 else 1 := ey_
        refine lv_istore_n (lv' := [(2, .int (if gscale (Gs Sc) n = 0 then 0 else 1)), (0, .ref m0), (1, .int (nI sm))]) hx hb dX5_upgrade_140 rfl hl (by decide) rfl (fun ls hl => ?_)
        refine lv_aload_n hx hb dX5_upgrade_141 rfl (lv_at hl 1 rfl) ?_
        have hPc := hP.sub (ws' := wMdl cy m0 a (upd I 0 0) (upr (upr R 1 (upd Sc 1 (if gscale (Gs Sc) n = 0 then 1 else nI (gscale (Gs Sc) n)))) 2 (cpR (R 1) (R 2) 58))) [0, 1, 2, 3, 4, 5, 6, 7, 8, 9, 10, 11, 12] rfl
        have hDc := hD.sub (ws' := wMdl cy m0 a (upd I 0 0) (upr (upr R 1 (upd Sc 1 (if gscale (Gs Sc) n = 0 then 1 else nI (gscale (Gs Sc) n)))) 2 (cpR (R 1) (R 2) 58))) [0, 1, 2, 3, 4, 5, 6, 7, 8, 9, 10, 11, 12] (by decide) rfl
        have hFc := va_free (wc := wMdl cy m0 a (upd I 0 0) (upr (upr R 1 (upd Sc 1 (if gscale (Gs Sc) n = 0 then 1 else nI (gscale (Gs Sc) n)))) 2 (cpR (R 1) (R 2) 58))) hD hS hA [0, 1, 2, 3, 4, 5, 6, 7, 8, 9, 10, 11, 12] rfl
        refine va_callv (va_runV (As := []) (rest := []) ⟨hx, hb, hml, hown, hts⟩ (c_X5_records l dC dI cy H.size m0 a (upd I 0 0) (upr (upr R 1 (upd Sc 1 (if gscale (Gs Sc) n = 0 then 1 else nI (gscale (Gs Sc) n)))) 2 (cpR (R 1) (R 2) 58))   ch hch hI5) (cwV 0 hts gX5_upgrade_X5_records rfl rfl rfl (by decide +kernel) ⟨Nat.le_of_ble_eq_true rfl, Nat.le_of_ble_eq_true rfl⟩) ⟨bl_in, va_recv hK hPc (ci := 5) (q0 := 0) rfl rfl, pr_in hPc hE hDc⟩ rfl rfl hl.1 rfl (lv_room (Nat.le_of_ble_eq_true rfl)) dX5_upgrade_142 ⟨Nat.le_of_ble_eq_true rfl, Nat.le_of_ble_eq_true rfl⟩) hS (fun q _ h => hFc q h) hFc (fun u t H1 locs ht hvm hw hB hz1 hk1 hS => ?_)
        obtain ⟨hP1, hD1⟩ := hB
        rw [ht] at hP1
        obtain ⟨hP, hD⟩ := va_join (wr := []) (w1 := wMdl cy m0 a (upd (upd (upd I 0 0) 5 (nI (hcnt ch))) 14 0) (upr (upr (upr R 1 (upd Sc 1 (if gscale (Gs Sc) n = 0 then 1 else nI (gscale (Gs Sc) n)))) 2 (cpR (R 1) (R 2) 58)) 4 (hrec (R 4) (cpR (R 1) (R 2) 58) ch))) hP hD [0, 1, 2, 3, 4, 5, 6, 7, 8, 9, 10, 11, 12] [] rfl rfl (by decide) (by decide) hk1 hFc hP1 hD1
        have hP : va_P (dC, dI) vwCl (wMdl cy m0 a (upd (upd (upd I 0 0) 5 (nI (hcnt ch))) 14 0) (upr (upr (upr R 1 (upd Sc 1 (if gscale (Gs Sc) n = 0 then 1 else nI (gscale (Gs Sc) n)))) 2 (cpR (R 1) (R 2) 58)) 4 (hrec (R 4) (cpR (R 1) (R 2) 58) ch))) H1 := hP.sub [0, 1, 2, 3, 4, 5, 6, 7, 8, 9, 10, 11, 12] rfl
        have hD : va_D A (wMdl cy m0 a (upd (upd (upd I 0 0) 5 (nI (hcnt ch))) 14 0) (upr (upr (upr R 1 (upd Sc 1 (if gscale (Gs Sc) n = 0 then 1 else nI (gscale (Gs Sc) n)))) 2 (cpR (R 1) (R 2) 58)) 4 (hrec (R 4) (cpR (R 1) (R 2) 58) ch))) := hD.sub [0, 1, 2, 3, 4, 5, 6, 7, 8, 9, 10, 11, 12] (by decide) rfl
        clear hz1 hk1 hPc hDc hFc hP1 hD1
        generalize H1 = H at hP hS ⊢
        refine lv_iload_n hx hb dX5_upgrade_145 rfl (lv_at hl 2 rfl) ?_
        have hP9 : va_P (dC, dI) vwCl (wMdl cy m0 a (upd (upd (upd I 0 0) 5 (nI (hcnt ch))) 14 0) (upr (upr (upr R 1 (upd Sc 1 (if gscale (Gs Sc) n = 0 then 1 else nI (gscale (Gs Sc) n)))) 2 (cpR (R 1) (R 2) 58)) 4 (hrec (R 4) (cpR (R 1) (R 2) 58) ch))) H := hP
        have hD9 : va_D A (wMdl cy m0 a (upd (upd (upd I 0 0) 5 (nI (hcnt ch))) 14 0) (upr (upr (upr R 1 (upd Sc 1 (if gscale (Gs Sc) n = 0 then 1 else nI (gscale (Gs Sc) n)))) 2 (cpR (R 1) (R 2) 58)) 4 (hrec (R 4) (cpR (R 1) (R 2) 58) ch))) := hD
        exact W.iret (v := nI sm) hx hb hr (fun t ht hW => ⟨⟨nI sm, (upd (upd (upd I 0 0) 5 (nI (hcnt ch))) 14 0, upr (upr (upr R 1 (upd Sc 1 (if gscale (Gs Sc) n = 0 then 1 else nI (gscale (Gs Sc) n)))) 2 (cpR (R 1) (R 2) 58)) 4 (hrec (R 4) (cpR (R 1) (R 2) 58) ch)), rfl, ⟨by rw [← er, e_q]; rfl, upd Sc 1 (if gscale (Gs Sc) n = 0 then 1 else nI (gscale (Gs Sc) n)), rfl, by rw [pk_un (by omega)]; exact hSc0, by rw [pk_us, gscale_agr (show agr (Gs Sc) (upgr n G).1 n from by rw [← er, e_q]; exact hag)], by rw [Gs_upd1, ← er, e_q]; exact hag⟩, by rw [ht]; exact hP9, hD9⟩, hS.F ht⟩) hS.2.2 dX5_upgrade_146
      · obtain ⟨q, rfl⟩ : ∃ z, q = z + 1 := ⟨q - 1, by rcases Nat.eq_zero_or_pos q with h | h; exact absurd (by rw [h]; decide) c_15; omega⟩
        rw [nI_pred q] at hl
        refine lv_iconst (v := 0) hx hb dX5_upgrade_18 (by decide) ?_
        refine lv_istore_n (lv' := [(3, .int 0), (0, .ref m0), (1, .int (nI sm)), (2, .int (nI q))]) hx hb dX5_upgrade_19 rfl hl (by decide) rfl (fun ls hl => ?_)
        have loop20 : ∀ (k : Nat) (j : Nat) (i : Nat) (Gc : vG) (Sc : Nat → Int32) (sm : Nat) (ls : Array Slot), Sc 0 = nI n → agr (Gs Sc) Gc n → okG Gc n → i + j = n → j < k → upA n q (upJ n (nI q) j i (Gc, sm)) = upgr n G → ∀ (H : Heap) (locs : List Loc), va_P (dC, dI) vwCl (wMdl cy m0 a (upd I 0 0) (upr (upr R 1 Sc) 2 (cpR (R 1) (R 2) 58))) H → va_D A (wMdl cy m0 a (upd I 0 0) (upr (upr R 1 Sc) 2 (cpR (R 1) (R 2) 58))) → va_S A s.heap H locs → lv_has ls 5 [(0, .ref m0), (1, .int (nI sm)), (2, .int (nI q)), (3, .int (nI i))] → W p l e (headSpec wsX5_upgrade ({ frames := 7, cells := 0, slots := 0, locals := 158 }) |>.room) s m (([.ref m0].toArray)) below meth c H locs 0 0 (MQ below (va_Qi (fun (r : Int32) u => qUpg I R n G ch r u) (fun (u : (Nat → Int32) × vG) t => va_P (dC, dI) vwCl (wMdl cy m0 a u.1 u.2) t.heap ∧ va_D (A) (wMdl cy m0 a u.1 u.2)) (A)) ([.ref m0].toArray) s 0 0 A) (F0 m 20 ls []) := by
          intro k
          induction k with
          | zero =>
            intro j i Gc Sc sm ls hSc0 hag hok hij hk2 er
            exfalso; omega
          | succ k ih20 =>
            intro j i Gc Sc sm ls hSc0 hag hok hij hk2 er H locs hP hD hS hl
            refine lv_iload_n hx hb dX5_upgrade_20 rfl (lv_at hl 3 rfl) ?_
            refine lv_aload_n hx hb dX5_upgrade_21 rfl (lv_at hl 0 rfl) ?_
            refine va_get (D := (dC, dI)) (ci := 5) (v := .ref (a 1)) (C := RX5) (T := TX5) (N := 32) hx hb hts hin5 hown hK hP 0 rfl rfl 1 (by decide) f_9 (fun _ h9 => h9) rfl dX5_upgrade_22 ?_
            refine lv_iconst (v := 0) hx hb dX5_upgrade_25 (by decide) ?_
            refine wI_alv (v := nI n) hx hb hK hP 1 0 rfl rfl 0 rfl (by omega) (by decide) hSc0 dX5_upgrade_26 ?_
            refine lv_icmp_ge (tgt := 130) hx hb dX5_upgrade_27 (by decide) (fun c_27 => ?_) (fun c_27 => ?_)
            · have e_j : j = 0 := by have := (nI_leI (a := n) (b := i) (by omega) (by omega)).mp c_27; omega
              refine lv_iinc (v := nI q - 1) (lv' := [(2, .int (nI q - 1)), (0, .ref m0), (1, .int (nI sm)), (3, .int (nI i))]) hx hb dX5_upgrade_130 hl (k := 2) rfl (im1 _) (by decide) rfl (fun ls hl => ?_)
              refine lv_goto (tgt := 14) hx hb dX5_upgrade_133 (by decide) ?_
              exact ih14 q _ _ _ ls hSc0 hag hok (by omega) (by omega) (by rw [← er, e_j]; rfl) _ _ hP hD hS (lv_sub hl [1, 2, 0] rfl)
            · have hlt : i < n := Nat.lt_of_not_le (fun h => c_27 (nI_le h (by omega)))
              obtain ⟨j, rfl⟩ : ∃ z, j = z + 1 := ⟨j - 1, by omega⟩
              obtain ⟨lv, hlv, hl3⟩ := lvl_lt hok hlt
              refine lv_aload_n hx hb dX5_upgrade_30 rfl (lv_at hl 0 rfl) ?_
              refine va_get (D := (dC, dI)) (ci := 5) (v := .ref (a 1)) (C := RX5) (T := TX5) (N := 32) hx hb hts hin5 hown hK hP 0 rfl rfl 1 (by decide) f_9 (fun _ h9 => h9) rfl dX5_upgrade_31 ?_
              refine lv_bipush (v := 34) hx hb dX5_upgrade_34 (by decide) ?_
              refine lv_iload_n hx hb dX5_upgrade_36 rfl (lv_at hl 3 rfl) ?_
              refine lv_iadd hx hb dX5_upgrade_37 ?_
              refine wI_alv (v := Gs Sc 4 i) hx hb hK hP 1 0 rfl rfl (34 + i) (nadd rfl rfl) (by omega) (by decide) rfl dX5_upgrade_38 ?_
              refine lv_iload_n hx hb dX5_upgrade_39 rfl (lv_at hl 2 rfl) ?_
              refine lv_icmp_ne (tgt := 47) hx hb dX5_upgrade_40 (by decide) (fun c_40 => ?_) (fun c_40 => ?_)
              · have c40 : ¬ Gc 4 i = nI q := by rw [← hag 4 (by decide) i hlt]; exact c_40
                refine lv_iconst (v := 0) hx hb dX5_upgrade_47 (by decide) ?_
                refine lv_istore (lv' := [(4, .int 0), (0, .ref m0), (1, .int (nI sm)), (2, .int (nI q)), (3, .int (nI i))]) hx hb dX5_upgrade_48 hl (by decide) rfl (fun ls hl => ?_)
                have loop50 : ∀ (k : Nat) (mo : Int32) (lv : Nat) (Gc : vG) (Sc : Nat → Int32) (sm : Nat) (ls : Array Slot), Sc 0 = nI n → agr (Gs Sc) Gc n → okG Gc n → Gc 6 i = nI lv → lv < 3 → (if mo = 0 then 0 else lv + 1) < k → upA n q (upJ n (nI q) j (i + 1) (if mo = 0 then (Gc, sm) else ((lwG n i lv Gc).1, sm + (lwG n i lv Gc).2))) = upgr n G → ∀ (H : Heap) (locs : List Loc), va_P (dC, dI) vwCl (wMdl cy m0 a (upd I 0 0) (upr (upr R 1 Sc) 2 (cpR (R 1) (R 2) 58))) H → va_D A (wMdl cy m0 a (upd I 0 0) (upr (upr R 1 Sc) 2 (cpR (R 1) (R 2) 58))) → va_S A s.heap H locs → lv_has ls 5 [(0, .ref m0), (1, .int (nI sm)), (2, .int (nI q)), (3, .int (nI i)), (4, .int mo)] → W p l e (headSpec wsX5_upgrade ({ frames := 7, cells := 0, slots := 0, locals := 158 }) |>.room) s m (([.ref m0].toArray)) below meth c H locs 0 0 (MQ below (va_Qi (fun (r : Int32) u => qUpg I R n G ch r u) (fun (u : (Nat → Int32) × vG) t => va_P (dC, dI) vwCl (wMdl cy m0 a u.1 u.2) t.heap ∧ va_D (A) (wMdl cy m0 a u.1 u.2)) (A)) ([.ref m0].toArray) s 0 0 A) (F0 m 50 ls []) := by
                  intro k
                  induction k with
                  | zero =>
                    intro mo lv Gc Sc sm ls hSc0 hag hok hlv hl3 hk3 er
                    exfalso; exact Nat.not_lt_zero _ hk3
                  | succ k ih50 =>
                    intro mo lv Gc Sc sm ls hSc0 hag hok hlv hl3 hk3 er H locs hP hD hS hl
                    refine lv_iload hx hb dX5_upgrade_50 (lv_at hl 4 rfl) ?_
                    refine lv_if_eq (tgt := 124) hx hb dX5_upgrade_52 (by decide) (fun c_52 => ?_) (fun c_52 => ?_)
                    · rw [if_pos c_52] at er
                      refine lv_iinc (v := nI (i + 1)) (lv' := [(3, .int (nI (i + 1))), (0, .ref m0), (1, .int (nI sm)), (2, .int (nI q)), (4, .int mo)]) hx hb dX5_upgrade_124 hl (k := 3) rfl (nI_1 _) (by decide) rfl (fun ls hl => ?_)
                      refine lv_goto (tgt := 20) hx hb dX5_upgrade_127 (by decide) ?_
                      exact ih20 j (i + 1) _ _ _ ls hSc0 hag hok (by omega) (by omega) er _ _ hP hD hS (lv_sub hl [1, 2, 3, 0] rfl)
                    · refine lv_aload_n hx hb dX5_upgrade_55 rfl (lv_at hl 0 rfl) ?_
                      refine va_get (D := (dC, dI)) (ci := 5) (v := .ref (a 1)) (C := RX5) (T := TX5) (N := 32) hx hb hts hin5 hown hK hP 0 rfl rfl 1 (by decide) f_9 (fun _ h9 => h9) rfl dX5_upgrade_56 ?_
                      refine lv_bipush (v := 50) hx hb dX5_upgrade_59 (by decide) ?_
                      refine lv_iload_n hx hb dX5_upgrade_61 rfl (lv_at hl 3 rfl) ?_
                      refine lv_iadd hx hb dX5_upgrade_62 ?_
                      refine wI_alv (v := Gs Sc 6 i) hx hb hK hP 1 0 rfl rfl (50 + i) (nadd rfl rfl) (by omega) (by decide) rfl dX5_upgrade_63 ?_
                      refine lv_if_le (tgt := 124) hx hb dX5_upgrade_64 (by decide) (fun c_64 => ?_) (fun c_64 => ?_)
                      · have hz0 : lv = 0 := by rw [hag 6 (by decide) i hlt, hlv] at c_64; have := (nI_leI (a := lv) (b := 0) (by omega) (by omega)).mp c_64; omega
                        rw [if_neg c_52, hz0] at er
                        refine lv_iinc (v := nI (i + 1)) (lv' := [(3, .int (nI (i + 1))), (0, .ref m0), (1, .int (nI sm)), (2, .int (nI q)), (4, .int mo)]) hx hb dX5_upgrade_124 hl (k := 3) rfl (nI_1 _) (by decide) rfl (fun ls hl => ?_)
                        refine lv_goto (tgt := 20) hx hb dX5_upgrade_127 (by decide) ?_
                        exact ih20 j (i + 1) _ _ _ ls hSc0 hag hok (by omega) (by omega) er _ _ hP hD hS (lv_sub hl [1, 2, 3, 0] rfl)
                      · obtain ⟨lv, rfl⟩ : ∃ z, lv = z + 1 := ⟨lv - 1, by rcases Nat.eq_zero_or_pos lv with h | h; exact absurd (by rw [hag 6 (by decide) i hlt, hlv, h]; decide) c_64; omega⟩
                        refine lv_aload_n hx hb dX5_upgrade_67 rfl (lv_at hl 0 rfl) ?_
                        refine va_get (D := (dC, dI)) (ci := 5) (v := .ref (a 1)) (C := RX5) (T := TX5) (N := 32) hx hb hts hin5 hown hK hP 0 rfl rfl 1 (by decide) f_9 (fun _ h9 => h9) rfl dX5_upgrade_68 ?_
                        refine lv_bipush (v := 50) hx hb dX5_upgrade_71 (by decide) ?_
                        refine lv_iload_n hx hb dX5_upgrade_73 rfl (lv_at hl 3 rfl) ?_
                        refine lv_iadd hx hb dX5_upgrade_74 ?_
                        refine lv_dup2_11 hx hb dX5_upgrade_75 rfl rfl ?_
                        refine wI_alv (v := Gs Sc 6 i) hx hb hK hP 1 0 rfl rfl (50 + i) (nadd rfl rfl) (by omega) (by decide) rfl dX5_upgrade_76 ?_
                        refine lv_iconst (v := 1) hx hb dX5_upgrade_77 (by decide) ?_
                        refine lv_isub hx hb dX5_upgrade_78 ?_
                        refine wI_ast hx hb hK hP hD hS 1 0 rfl rfl (50 + i) (nadd rfl rfl) (by omega) (by decide) dX5_upgrade_79 (fun H locs hP hD hS => ?_)
                        have hP : va_P (dC, dI) vwCl (wMdl cy m0 a (upd I 0 0) (upr (upr R 1 (upd Sc (50 + i) ((Gs Sc 6 i) - 1))) 2 (cpR (R 1) (R 2) 58))) H := hP
                        have hD : va_D A (wMdl cy m0 a (upd I 0 0) (upr (upr R 1 (upd Sc (50 + i) ((Gs Sc 6 i) - 1))) 2 (cpR (R 1) (R 2) 58))) := hD
                        refine lv_aload_n hx hb dX5_upgrade_80 rfl (lv_at hl 0 rfl) ?_
                        have hPc := hP.sub (ws' := wMdl cy m0 a (upd I 0 0) (upr (upr R 1 (upd Sc (50 + i) ((Gs Sc 6 i) - 1))) 2 (cpR (R 1) (R 2) 58))) [0, 1, 2, 3, 4, 5, 6, 7, 8, 9, 10, 11, 12] rfl
                        have hDc := hD.sub (ws' := wMdl cy m0 a (upd I 0 0) (upr (upr R 1 (upd Sc (50 + i) ((Gs Sc 6 i) - 1))) 2 (cpR (R 1) (R 2) 58))) [0, 1, 2, 3, 4, 5, 6, 7, 8, 9, 10, 11, 12] (by decide) rfl
                        have hFc := va_free (wc := wMdl cy m0 a (upd I 0 0) (upr (upr R 1 (upd Sc (50 + i) ((Gs Sc 6 i) - 1))) 2 (cpR (R 1) (R 2) 58))) hD hS hA [0, 1, 2, 3, 4, 5, 6, 7, 8, 9, 10, 11, 12] rfl
                        refine va_calli (va_runV (As := []) (rest := []) ⟨hx, hb, hml, hown, hts⟩ (c_X5_scales l dC dI cy H.size m0 a (upd I 0 0) (upr (upr R 1 (upd Sc (50 + i) ((Gs Sc 6 i) - 1))) 2 (cpR (R 1) (R 2) 58)) n hn (show (upd Sc (50 + i) ((Gs Sc 6 i) - 1)) 0 = nI n from by rw [pk_un (by omega)]; exact hSc0) (okG_agr (agr_low hn hlt hag).symm (okG_low hok hlt hlv (by omega)))) (cwV 0 hts gX5_upgrade_X5_scales rfl rfl rfl (by decide +kernel) ⟨Nat.le_of_ble_eq_true rfl, Nat.le_of_ble_eq_true rfl⟩) ⟨bl_in, va_recv hK hPc (ci := 5) (q0 := 0) rfl rfl, pr_in hPc hE hDc⟩ rfl rfl hl.1 rfl (lv_room (Nat.le_of_ble_eq_true rfl)) dX5_upgrade_81 ⟨Nat.le_of_ble_eq_true rfl, Nat.le_of_ble_eq_true rfl⟩) hS (fun q _ h => hFc q h) hFc (fun r u t H1 locs ht hvm hw hB hz1 hk1 hS => ?_)
                        obtain ⟨rfl, rfl⟩ := hw
                        obtain ⟨hP1, hD1⟩ := hB
                        rw [ht] at hP1
                        obtain ⟨hP, hD⟩ := va_join (wr := []) (w1 := wMdl cy m0 a (upd I 0 0) (upr (upr R 1 (upd (upd Sc (50 + i) ((Gs Sc 6 i) - 1)) 1 (if gscale (Gs (upd Sc (50 + i) ((Gs Sc 6 i) - 1))) n = 0 then 1 else nI (gscale (Gs (upd Sc (50 + i) ((Gs Sc 6 i) - 1))) n)))) 2 (cpR (R 1) (R 2) 58))) hP hD [0, 1, 2, 3, 4, 5, 6, 7, 8, 9, 10, 11, 12] [] rfl rfl (by decide) (by decide) hk1 hFc hP1 hD1
                        have hP : va_P (dC, dI) vwCl (wMdl cy m0 a (upd I 0 0) (upr (upr R 1 (upd (upd Sc (50 + i) ((Gs Sc 6 i) - 1)) 1 (if gscale (Gs (upd Sc (50 + i) ((Gs Sc 6 i) - 1))) n = 0 then 1 else nI (gscale (Gs (upd Sc (50 + i) ((Gs Sc 6 i) - 1))) n)))) 2 (cpR (R 1) (R 2) 58))) H1 := hP.sub [0, 1, 2, 3, 4, 5, 6, 7, 8, 9, 10, 11, 12] rfl
                        have hD : va_D A (wMdl cy m0 a (upd I 0 0) (upr (upr R 1 (upd (upd Sc (50 + i) ((Gs Sc 6 i) - 1)) 1 (if gscale (Gs (upd Sc (50 + i) ((Gs Sc 6 i) - 1))) n = 0 then 1 else nI (gscale (Gs (upd Sc (50 + i) ((Gs Sc 6 i) - 1))) n)))) 2 (cpR (R 1) (R 2) 58))) := hD.sub [0, 1, 2, 3, 4, 5, 6, 7, 8, 9, 10, 11, 12] (by decide) rfl
                        clear hz1 hk1 hPc hDc hFc hP1 hD1
                        generalize H1 = H at hP hS ⊢
                        refine lv_topi (fun y_ ey_ => ?_)
                        obtain rfl : y_ = if gscale (Gs (upd Sc (50 + i) ((Gs Sc 6 i) - 1))) n = 0 then 0 else 1 := ey_
                        refine lv_istore (lv' := [(4, .int (if gscale (Gs (upd Sc (50 + i) ((Gs Sc 6 i) - 1))) n = 0 then 0 else 1)), (0, .ref m0), (1, .int (nI sm)), (2, .int (nI q)), (3, .int (nI i))]) hx hb dX5_upgrade_84 hl (by decide) rfl (fun ls hl => ?_)
                        refine lv_aload_n hx hb dX5_upgrade_86 rfl (lv_at hl 1 rfl) ?_
                        refine va_get (D := (dC, dI)) (ci := 5) (v := .ref (a 1)) (C := RX5) (T := TX5) (N := 32) hx hb hts hin5 hown hK hP 0 rfl rfl 1 (by decide) f_9 (fun _ h9 => h9) rfl dX5_upgrade_87 ?_
                        refine lv_bipush (v := 50) hx hb dX5_upgrade_90 (by decide) ?_
                        refine lv_iload_n hx hb dX5_upgrade_92 rfl (lv_at hl 4 rfl) ?_
                        refine lv_iadd hx hb dX5_upgrade_93 ?_
                        refine lv_dup2_11 hx hb dX5_upgrade_94 rfl rfl ?_
                        refine wI_alv (v := Gs (upd (upd Sc (50 + i) ((Gs Sc 6 i) - 1)) 1 (if gscale (Gs (upd Sc (50 + i) ((Gs Sc 6 i) - 1))) n = 0 then 1 else nI (gscale (Gs (upd Sc (50 + i) ((Gs Sc 6 i) - 1))) n))) 6 i) hx hb hK hP 1 0 rfl rfl (50 + i) (nadd rfl rfl) (by omega) (by decide) rfl dX5_upgrade_95 ?_
                        refine lv_iload hx hb dX5_upgrade_96 (lv_at hl 0 rfl) ?_
                        refine lv_if_eq (tgt := 105) hx hb dX5_upgrade_98 (by decide) (fun c_98 => ?_) (fun c_98 => ?_)
                        · have g0 := b01.mp c_98
                          have g1 : gscale (up2 Gc 6 i (Gc 6 i - 1)) n = 0 := by rw [← gscale_agr (agr_low hn hlt hag)]; exact g0
                          refine lv_iconst (v := 1) hx hb dX5_upgrade_105 (by decide) ?_
                          refine lv_iadd hx hb dX5_upgrade_106 ?_
                          refine wI_ast hx hb hK hP hD hS 1 0 rfl rfl (50 + i) (nadd rfl rfl) (by omega) (by decide) dX5_upgrade_107 (fun H locs hP hD hS => ?_)
                          have hP : va_P (dC, dI) vwCl (wMdl cy m0 a (upd I 0 0) (upr (upr R 1 (upd (upd (upd Sc (50 + i) ((Gs Sc 6 i) - 1)) 1 (if gscale (Gs (upd Sc (50 + i) ((Gs Sc 6 i) - 1))) n = 0 then 1 else nI (gscale (Gs (upd Sc (50 + i) ((Gs Sc 6 i) - 1))) n))) (50 + i) ((Gs (upd (upd Sc (50 + i) ((Gs Sc 6 i) - 1)) 1 (if gscale (Gs (upd Sc (50 + i) ((Gs Sc 6 i) - 1))) n = 0 then 1 else nI (gscale (Gs (upd Sc (50 + i) ((Gs Sc 6 i) - 1))) n))) 6 i) + 1))) 2 (cpR (R 1) (R 2) 58))) H := hP
                          have hD : va_D A (wMdl cy m0 a (upd I 0 0) (upr (upr R 1 (upd (upd (upd Sc (50 + i) ((Gs Sc 6 i) - 1)) 1 (if gscale (Gs (upd Sc (50 + i) ((Gs Sc 6 i) - 1))) n = 0 then 1 else nI (gscale (Gs (upd Sc (50 + i) ((Gs Sc 6 i) - 1))) n))) (50 + i) ((Gs (upd (upd Sc (50 + i) ((Gs Sc 6 i) - 1)) 1 (if gscale (Gs (upd Sc (50 + i) ((Gs Sc 6 i) - 1))) n = 0 then 1 else nI (gscale (Gs (upd Sc (50 + i) ((Gs Sc 6 i) - 1))) n))) 6 i) + 1))) 2 (cpR (R 1) (R 2) 58))) := hD
                          refine lv_iload_n hx hb dX5_upgrade_108 rfl (lv_at hl 2 rfl) ?_
                          refine lv_iload hx hb dX5_upgrade_109 (lv_at hl 0 rfl) ?_
                          refine lv_if_eq (tgt := 118) hx hb dX5_upgrade_111 (by decide) (fun c_111 => ?_) (fun h0 => absurd c_98 h0)
                          refine lv_iconst (v := 0) hx hb dX5_upgrade_118 (by decide) ?_
                          refine lv_iadd hx hb dX5_upgrade_119 ?_
                          refine lv_topi (fun y_ ey_ => ?_)
                          obtain rfl : y_ = nI sm := ey_.trans (Int32.add_zero _)
                          refine lv_istore_n (lv' := [(1, .int (nI sm)), (4, .int (if gscale (Gs (upd Sc (50 + i) ((Gs Sc 6 i) - 1))) n = 0 then 0 else 1)), (0, .ref m0), (2, .int (nI q)), (3, .int (nI i))]) hx hb dX5_upgrade_120 rfl hl (by decide) rfl (fun ls hl => ?_)
                          refine lv_goto (tgt := 50) hx hb dX5_upgrade_121 (by decide) ?_
                          exact ih50 _ (lv + 1) Gc _ _ ls (by rw [pk_un (by omega), pk_un (by omega), pk_un (by omega)]; exact hSc0) (agr_bk hn hlt hag) hok hlv (by omega) (by rw [if_neg c_52] at hk3; rw [if_pos (b01.mpr g0)]; omega) (by rw [if_pos (b01.mpr g0), ← er, if_neg c_52, lwG, if_pos g1]; rfl) _ _ hP hD hS (lv_sub hl [2, 0, 3, 4, 1] rfl)
                        · have g0 : ¬ gscale (Gs (upd Sc (50 + i) (Gs Sc 6 i - 1))) n = 0 := fun h => c_98 (b01.mpr h)
                          have g1 : ¬ gscale (up2 Gc 6 i (Gc 6 i - 1)) n = 0 := by rw [← gscale_agr (agr_low hn hlt hag)]; exact g0
                          refine lv_iconst (v := 0) hx hb dX5_upgrade_101 (by decide) ?_
                          refine lv_goto (tgt := 106) hx hb dX5_upgrade_102 (by decide) ?_
                          refine lv_iadd hx hb dX5_upgrade_106 ?_
                          refine wI_ast hx hb hK hP hD hS 1 0 rfl rfl (50 + i) (nadd rfl rfl) (by omega) (by decide) dX5_upgrade_107 (fun H locs hP hD hS => ?_)
                          have hP : va_P (dC, dI) vwCl (wMdl cy m0 a (upd I 0 0) (upr (upr R 1 (upd (upd (upd Sc (50 + i) ((Gs Sc 6 i) - 1)) 1 (if gscale (Gs (upd Sc (50 + i) ((Gs Sc 6 i) - 1))) n = 0 then 1 else nI (gscale (Gs (upd Sc (50 + i) ((Gs Sc 6 i) - 1))) n))) (50 + i) ((Gs (upd (upd Sc (50 + i) ((Gs Sc 6 i) - 1)) 1 (if gscale (Gs (upd Sc (50 + i) ((Gs Sc 6 i) - 1))) n = 0 then 1 else nI (gscale (Gs (upd Sc (50 + i) ((Gs Sc 6 i) - 1))) n))) 6 i) + 0))) 2 (cpR (R 1) (R 2) 58))) H := hP
                          have hD : va_D A (wMdl cy m0 a (upd I 0 0) (upr (upr R 1 (upd (upd (upd Sc (50 + i) ((Gs Sc 6 i) - 1)) 1 (if gscale (Gs (upd Sc (50 + i) ((Gs Sc 6 i) - 1))) n = 0 then 1 else nI (gscale (Gs (upd Sc (50 + i) ((Gs Sc 6 i) - 1))) n))) (50 + i) ((Gs (upd (upd Sc (50 + i) ((Gs Sc 6 i) - 1)) 1 (if gscale (Gs (upd Sc (50 + i) ((Gs Sc 6 i) - 1))) n = 0 then 1 else nI (gscale (Gs (upd Sc (50 + i) ((Gs Sc 6 i) - 1))) n))) 6 i) + 0))) 2 (cpR (R 1) (R 2) 58))) := hD
                          refine lv_iload_n hx hb dX5_upgrade_108 rfl (lv_at hl 2 rfl) ?_
                          refine lv_iload hx hb dX5_upgrade_109 (lv_at hl 0 rfl) ?_
                          refine lv_if_eq (tgt := 118) hx hb dX5_upgrade_111 (by decide) (fun h0 => absurd h0 c_98) (fun c_111 => ?_)
                          refine lv_iconst (v := 1) hx hb dX5_upgrade_114 (by decide) ?_
                          refine lv_goto (tgt := 119) hx hb dX5_upgrade_115 (by decide) ?_
                          refine lv_iadd hx hb dX5_upgrade_119 ?_
                          refine lv_topi (fun y_ ey_ => ?_)
                          obtain rfl : y_ = nI (sm + 1) := ey_.trans (nI_1 sm)
                          refine lv_istore_n (lv' := [(1, .int (nI (sm + 1))), (4, .int (if gscale (Gs (upd Sc (50 + i) ((Gs Sc 6 i) - 1))) n = 0 then 0 else 1)), (0, .ref m0), (2, .int (nI q)), (3, .int (nI i))]) hx hb dX5_upgrade_120 rfl hl (by decide) rfl (fun ls hl => ?_)
                          refine lv_goto (tgt := 50) hx hb dX5_upgrade_121 (by decide) ?_
                          exact ih50 _ lv _ _ _ ls (by rw [pk_un (by omega), pk_un (by omega), pk_un (by omega)]; exact hSc0) (agr_ad0 hn hlt (show agr (Gs (upd (upd Sc (50 + i) (Gs Sc 6 i - 1)) 1 (if gscale (Gs (upd Sc (50 + i) (Gs Sc 6 i - 1))) n = 0 then 1 else nI (gscale (Gs (upd Sc (50 + i) (Gs Sc 6 i - 1))) n)))) (up2 Gc 6 i (Gc 6 i - 1)) n from by rw [Gs_upd1]; exact agr_low hn hlt hag)) (okG_low hok hlt hlv (by omega)) (show upd (Gc 6) i (Gc 6 i - 1) i = nI lv from by rw [pk_us, hlv]; exact nI_pred lv) (by omega) (by rw [if_neg c_52] at hk3; rw [if_neg (fun h => g0 (b01.mp h))]; omega) (by rw [if_neg (fun h => g0 (b01.mp h)), ← er, if_neg c_52, lwG, if_neg g1]; simp only [Nat.add_assoc, Nat.add_comm 1]) _ _ hP hD hS (lv_sub hl [2, 0, 3, 4, 1] rfl)
                exact loop50 5 _ lv _ _ _ ls hSc0 hag hok hlv hl3 (by split <;> omega) (by rw [← er, upJ, upS]; simp only [hlv, nI_clamp (show lv < 2147483648 by omega)]; rw [if_neg c40]; rfl) _ _ hP hD hS (lv_sub hl [1, 2, 3, 4, 0] rfl)
              · have c40 : Gc 4 i = nI q := by rw [← hag 4 (by decide) i hlt]; exact c_40
                refine lv_iconst (v := 1) hx hb dX5_upgrade_43 (by decide) ?_
                refine lv_goto (tgt := 48) hx hb dX5_upgrade_44 (by decide) ?_
                refine lv_istore (lv' := [(4, .int 1), (0, .ref m0), (1, .int (nI sm)), (2, .int (nI q)), (3, .int (nI i))]) hx hb dX5_upgrade_48 hl (by decide) rfl (fun ls hl => ?_)
                have loop50 : ∀ (k : Nat) (mo : Int32) (lv : Nat) (Gc : vG) (Sc : Nat → Int32) (sm : Nat) (ls : Array Slot), Sc 0 = nI n → agr (Gs Sc) Gc n → okG Gc n → Gc 6 i = nI lv → lv < 3 → (if mo = 0 then 0 else lv + 1) < k → upA n q (upJ n (nI q) j (i + 1) (if mo = 0 then (Gc, sm) else ((lwG n i lv Gc).1, sm + (lwG n i lv Gc).2))) = upgr n G → ∀ (H : Heap) (locs : List Loc), va_P (dC, dI) vwCl (wMdl cy m0 a (upd I 0 0) (upr (upr R 1 Sc) 2 (cpR (R 1) (R 2) 58))) H → va_D A (wMdl cy m0 a (upd I 0 0) (upr (upr R 1 Sc) 2 (cpR (R 1) (R 2) 58))) → va_S A s.heap H locs → lv_has ls 5 [(0, .ref m0), (1, .int (nI sm)), (2, .int (nI q)), (3, .int (nI i)), (4, .int mo)] → W p l e (headSpec wsX5_upgrade ({ frames := 7, cells := 0, slots := 0, locals := 158 }) |>.room) s m (([.ref m0].toArray)) below meth c H locs 0 0 (MQ below (va_Qi (fun (r : Int32) u => qUpg I R n G ch r u) (fun (u : (Nat → Int32) × vG) t => va_P (dC, dI) vwCl (wMdl cy m0 a u.1 u.2) t.heap ∧ va_D (A) (wMdl cy m0 a u.1 u.2)) (A)) ([.ref m0].toArray) s 0 0 A) (F0 m 50 ls []) := by
                  intro k
                  induction k with
                  | zero =>
                    intro mo lv Gc Sc sm ls hSc0 hag hok hlv hl3 hk3 er
                    exfalso; exact Nat.not_lt_zero _ hk3
                  | succ k ih50 =>
                    intro mo lv Gc Sc sm ls hSc0 hag hok hlv hl3 hk3 er H locs hP hD hS hl
                    refine lv_iload hx hb dX5_upgrade_50 (lv_at hl 4 rfl) ?_
                    refine lv_if_eq (tgt := 124) hx hb dX5_upgrade_52 (by decide) (fun c_52 => ?_) (fun c_52 => ?_)
                    · rw [if_pos c_52] at er
                      refine lv_iinc (v := nI (i + 1)) (lv' := [(3, .int (nI (i + 1))), (0, .ref m0), (1, .int (nI sm)), (2, .int (nI q)), (4, .int mo)]) hx hb dX5_upgrade_124 hl (k := 3) rfl (nI_1 _) (by decide) rfl (fun ls hl => ?_)
                      refine lv_goto (tgt := 20) hx hb dX5_upgrade_127 (by decide) ?_
                      exact ih20 j (i + 1) _ _ _ ls hSc0 hag hok (by omega) (by omega) er _ _ hP hD hS (lv_sub hl [1, 2, 3, 0] rfl)
                    · refine lv_aload_n hx hb dX5_upgrade_55 rfl (lv_at hl 0 rfl) ?_
                      refine va_get (D := (dC, dI)) (ci := 5) (v := .ref (a 1)) (C := RX5) (T := TX5) (N := 32) hx hb hts hin5 hown hK hP 0 rfl rfl 1 (by decide) f_9 (fun _ h9 => h9) rfl dX5_upgrade_56 ?_
                      refine lv_bipush (v := 50) hx hb dX5_upgrade_59 (by decide) ?_
                      refine lv_iload_n hx hb dX5_upgrade_61 rfl (lv_at hl 3 rfl) ?_
                      refine lv_iadd hx hb dX5_upgrade_62 ?_
                      refine wI_alv (v := Gs Sc 6 i) hx hb hK hP 1 0 rfl rfl (50 + i) (nadd rfl rfl) (by omega) (by decide) rfl dX5_upgrade_63 ?_
                      refine lv_if_le (tgt := 124) hx hb dX5_upgrade_64 (by decide) (fun c_64 => ?_) (fun c_64 => ?_)
                      · have hz0 : lv = 0 := by rw [hag 6 (by decide) i hlt, hlv] at c_64; have := (nI_leI (a := lv) (b := 0) (by omega) (by omega)).mp c_64; omega
                        rw [if_neg c_52, hz0] at er
                        refine lv_iinc (v := nI (i + 1)) (lv' := [(3, .int (nI (i + 1))), (0, .ref m0), (1, .int (nI sm)), (2, .int (nI q)), (4, .int mo)]) hx hb dX5_upgrade_124 hl (k := 3) rfl (nI_1 _) (by decide) rfl (fun ls hl => ?_)
                        refine lv_goto (tgt := 20) hx hb dX5_upgrade_127 (by decide) ?_
                        exact ih20 j (i + 1) _ _ _ ls hSc0 hag hok (by omega) (by omega) er _ _ hP hD hS (lv_sub hl [1, 2, 3, 0] rfl)
                      · obtain ⟨lv, rfl⟩ : ∃ z, lv = z + 1 := ⟨lv - 1, by rcases Nat.eq_zero_or_pos lv with h | h; exact absurd (by rw [hag 6 (by decide) i hlt, hlv, h]; decide) c_64; omega⟩
                        refine lv_aload_n hx hb dX5_upgrade_67 rfl (lv_at hl 0 rfl) ?_
                        refine va_get (D := (dC, dI)) (ci := 5) (v := .ref (a 1)) (C := RX5) (T := TX5) (N := 32) hx hb hts hin5 hown hK hP 0 rfl rfl 1 (by decide) f_9 (fun _ h9 => h9) rfl dX5_upgrade_68 ?_
                        refine lv_bipush (v := 50) hx hb dX5_upgrade_71 (by decide) ?_
                        refine lv_iload_n hx hb dX5_upgrade_73 rfl (lv_at hl 3 rfl) ?_
                        refine lv_iadd hx hb dX5_upgrade_74 ?_
                        refine lv_dup2_11 hx hb dX5_upgrade_75 rfl rfl ?_
                        refine wI_alv (v := Gs Sc 6 i) hx hb hK hP 1 0 rfl rfl (50 + i) (nadd rfl rfl) (by omega) (by decide) rfl dX5_upgrade_76 ?_
                        refine lv_iconst (v := 1) hx hb dX5_upgrade_77 (by decide) ?_
                        refine lv_isub hx hb dX5_upgrade_78 ?_
                        refine wI_ast hx hb hK hP hD hS 1 0 rfl rfl (50 + i) (nadd rfl rfl) (by omega) (by decide) dX5_upgrade_79 (fun H locs hP hD hS => ?_)
                        have hP : va_P (dC, dI) vwCl (wMdl cy m0 a (upd I 0 0) (upr (upr R 1 (upd Sc (50 + i) ((Gs Sc 6 i) - 1))) 2 (cpR (R 1) (R 2) 58))) H := hP
                        have hD : va_D A (wMdl cy m0 a (upd I 0 0) (upr (upr R 1 (upd Sc (50 + i) ((Gs Sc 6 i) - 1))) 2 (cpR (R 1) (R 2) 58))) := hD
                        refine lv_aload_n hx hb dX5_upgrade_80 rfl (lv_at hl 0 rfl) ?_
                        have hPc := hP.sub (ws' := wMdl cy m0 a (upd I 0 0) (upr (upr R 1 (upd Sc (50 + i) ((Gs Sc 6 i) - 1))) 2 (cpR (R 1) (R 2) 58))) [0, 1, 2, 3, 4, 5, 6, 7, 8, 9, 10, 11, 12] rfl
                        have hDc := hD.sub (ws' := wMdl cy m0 a (upd I 0 0) (upr (upr R 1 (upd Sc (50 + i) ((Gs Sc 6 i) - 1))) 2 (cpR (R 1) (R 2) 58))) [0, 1, 2, 3, 4, 5, 6, 7, 8, 9, 10, 11, 12] (by decide) rfl
                        have hFc := va_free (wc := wMdl cy m0 a (upd I 0 0) (upr (upr R 1 (upd Sc (50 + i) ((Gs Sc 6 i) - 1))) 2 (cpR (R 1) (R 2) 58))) hD hS hA [0, 1, 2, 3, 4, 5, 6, 7, 8, 9, 10, 11, 12] rfl
                        refine va_calli (va_runV (As := []) (rest := []) ⟨hx, hb, hml, hown, hts⟩ (c_X5_scales l dC dI cy H.size m0 a (upd I 0 0) (upr (upr R 1 (upd Sc (50 + i) ((Gs Sc 6 i) - 1))) 2 (cpR (R 1) (R 2) 58)) n hn (show (upd Sc (50 + i) ((Gs Sc 6 i) - 1)) 0 = nI n from by rw [pk_un (by omega)]; exact hSc0) (okG_agr (agr_low hn hlt hag).symm (okG_low hok hlt hlv (by omega)))) (cwV 0 hts gX5_upgrade_X5_scales rfl rfl rfl (by decide +kernel) ⟨Nat.le_of_ble_eq_true rfl, Nat.le_of_ble_eq_true rfl⟩) ⟨bl_in, va_recv hK hPc (ci := 5) (q0 := 0) rfl rfl, pr_in hPc hE hDc⟩ rfl rfl hl.1 rfl (lv_room (Nat.le_of_ble_eq_true rfl)) dX5_upgrade_81 ⟨Nat.le_of_ble_eq_true rfl, Nat.le_of_ble_eq_true rfl⟩) hS (fun q _ h => hFc q h) hFc (fun r u t H1 locs ht hvm hw hB hz1 hk1 hS => ?_)
                        obtain ⟨rfl, rfl⟩ := hw
                        obtain ⟨hP1, hD1⟩ := hB
                        rw [ht] at hP1
                        obtain ⟨hP, hD⟩ := va_join (wr := []) (w1 := wMdl cy m0 a (upd I 0 0) (upr (upr R 1 (upd (upd Sc (50 + i) ((Gs Sc 6 i) - 1)) 1 (if gscale (Gs (upd Sc (50 + i) ((Gs Sc 6 i) - 1))) n = 0 then 1 else nI (gscale (Gs (upd Sc (50 + i) ((Gs Sc 6 i) - 1))) n)))) 2 (cpR (R 1) (R 2) 58))) hP hD [0, 1, 2, 3, 4, 5, 6, 7, 8, 9, 10, 11, 12] [] rfl rfl (by decide) (by decide) hk1 hFc hP1 hD1
                        have hP : va_P (dC, dI) vwCl (wMdl cy m0 a (upd I 0 0) (upr (upr R 1 (upd (upd Sc (50 + i) ((Gs Sc 6 i) - 1)) 1 (if gscale (Gs (upd Sc (50 + i) ((Gs Sc 6 i) - 1))) n = 0 then 1 else nI (gscale (Gs (upd Sc (50 + i) ((Gs Sc 6 i) - 1))) n)))) 2 (cpR (R 1) (R 2) 58))) H1 := hP.sub [0, 1, 2, 3, 4, 5, 6, 7, 8, 9, 10, 11, 12] rfl
                        have hD : va_D A (wMdl cy m0 a (upd I 0 0) (upr (upr R 1 (upd (upd Sc (50 + i) ((Gs Sc 6 i) - 1)) 1 (if gscale (Gs (upd Sc (50 + i) ((Gs Sc 6 i) - 1))) n = 0 then 1 else nI (gscale (Gs (upd Sc (50 + i) ((Gs Sc 6 i) - 1))) n)))) 2 (cpR (R 1) (R 2) 58))) := hD.sub [0, 1, 2, 3, 4, 5, 6, 7, 8, 9, 10, 11, 12] (by decide) rfl
                        clear hz1 hk1 hPc hDc hFc hP1 hD1
                        generalize H1 = H at hP hS ⊢
                        refine lv_topi (fun y_ ey_ => ?_)
                        obtain rfl : y_ = if gscale (Gs (upd Sc (50 + i) ((Gs Sc 6 i) - 1))) n = 0 then 0 else 1 := ey_
                        refine lv_istore (lv' := [(4, .int (if gscale (Gs (upd Sc (50 + i) ((Gs Sc 6 i) - 1))) n = 0 then 0 else 1)), (0, .ref m0), (1, .int (nI sm)), (2, .int (nI q)), (3, .int (nI i))]) hx hb dX5_upgrade_84 hl (by decide) rfl (fun ls hl => ?_)
                        refine lv_aload_n hx hb dX5_upgrade_86 rfl (lv_at hl 1 rfl) ?_
                        refine va_get (D := (dC, dI)) (ci := 5) (v := .ref (a 1)) (C := RX5) (T := TX5) (N := 32) hx hb hts hin5 hown hK hP 0 rfl rfl 1 (by decide) f_9 (fun _ h9 => h9) rfl dX5_upgrade_87 ?_
                        refine lv_bipush (v := 50) hx hb dX5_upgrade_90 (by decide) ?_
                        refine lv_iload_n hx hb dX5_upgrade_92 rfl (lv_at hl 4 rfl) ?_
                        refine lv_iadd hx hb dX5_upgrade_93 ?_
                        refine lv_dup2_11 hx hb dX5_upgrade_94 rfl rfl ?_
                        refine wI_alv (v := Gs (upd (upd Sc (50 + i) ((Gs Sc 6 i) - 1)) 1 (if gscale (Gs (upd Sc (50 + i) ((Gs Sc 6 i) - 1))) n = 0 then 1 else nI (gscale (Gs (upd Sc (50 + i) ((Gs Sc 6 i) - 1))) n))) 6 i) hx hb hK hP 1 0 rfl rfl (50 + i) (nadd rfl rfl) (by omega) (by decide) rfl dX5_upgrade_95 ?_
                        refine lv_iload hx hb dX5_upgrade_96 (lv_at hl 0 rfl) ?_
                        refine lv_if_eq (tgt := 105) hx hb dX5_upgrade_98 (by decide) (fun c_98 => ?_) (fun c_98 => ?_)
                        · have g0 := b01.mp c_98
                          have g1 : gscale (up2 Gc 6 i (Gc 6 i - 1)) n = 0 := by rw [← gscale_agr (agr_low hn hlt hag)]; exact g0
                          refine lv_iconst (v := 1) hx hb dX5_upgrade_105 (by decide) ?_
                          refine lv_iadd hx hb dX5_upgrade_106 ?_
                          refine wI_ast hx hb hK hP hD hS 1 0 rfl rfl (50 + i) (nadd rfl rfl) (by omega) (by decide) dX5_upgrade_107 (fun H locs hP hD hS => ?_)
                          have hP : va_P (dC, dI) vwCl (wMdl cy m0 a (upd I 0 0) (upr (upr R 1 (upd (upd (upd Sc (50 + i) ((Gs Sc 6 i) - 1)) 1 (if gscale (Gs (upd Sc (50 + i) ((Gs Sc 6 i) - 1))) n = 0 then 1 else nI (gscale (Gs (upd Sc (50 + i) ((Gs Sc 6 i) - 1))) n))) (50 + i) ((Gs (upd (upd Sc (50 + i) ((Gs Sc 6 i) - 1)) 1 (if gscale (Gs (upd Sc (50 + i) ((Gs Sc 6 i) - 1))) n = 0 then 1 else nI (gscale (Gs (upd Sc (50 + i) ((Gs Sc 6 i) - 1))) n))) 6 i) + 1))) 2 (cpR (R 1) (R 2) 58))) H := hP
                          have hD : va_D A (wMdl cy m0 a (upd I 0 0) (upr (upr R 1 (upd (upd (upd Sc (50 + i) ((Gs Sc 6 i) - 1)) 1 (if gscale (Gs (upd Sc (50 + i) ((Gs Sc 6 i) - 1))) n = 0 then 1 else nI (gscale (Gs (upd Sc (50 + i) ((Gs Sc 6 i) - 1))) n))) (50 + i) ((Gs (upd (upd Sc (50 + i) ((Gs Sc 6 i) - 1)) 1 (if gscale (Gs (upd Sc (50 + i) ((Gs Sc 6 i) - 1))) n = 0 then 1 else nI (gscale (Gs (upd Sc (50 + i) ((Gs Sc 6 i) - 1))) n))) 6 i) + 1))) 2 (cpR (R 1) (R 2) 58))) := hD
                          refine lv_iload_n hx hb dX5_upgrade_108 rfl (lv_at hl 2 rfl) ?_
                          refine lv_iload hx hb dX5_upgrade_109 (lv_at hl 0 rfl) ?_
                          refine lv_if_eq (tgt := 118) hx hb dX5_upgrade_111 (by decide) (fun c_111 => ?_) (fun h0 => absurd c_98 h0)
                          refine lv_iconst (v := 0) hx hb dX5_upgrade_118 (by decide) ?_
                          refine lv_iadd hx hb dX5_upgrade_119 ?_
                          refine lv_topi (fun y_ ey_ => ?_)
                          obtain rfl : y_ = nI sm := ey_.trans (Int32.add_zero _)
                          refine lv_istore_n (lv' := [(1, .int (nI sm)), (4, .int (if gscale (Gs (upd Sc (50 + i) ((Gs Sc 6 i) - 1))) n = 0 then 0 else 1)), (0, .ref m0), (2, .int (nI q)), (3, .int (nI i))]) hx hb dX5_upgrade_120 rfl hl (by decide) rfl (fun ls hl => ?_)
                          refine lv_goto (tgt := 50) hx hb dX5_upgrade_121 (by decide) ?_
                          exact ih50 _ (lv + 1) Gc _ _ ls (by rw [pk_un (by omega), pk_un (by omega), pk_un (by omega)]; exact hSc0) (agr_bk hn hlt hag) hok hlv (by omega) (by rw [if_neg c_52] at hk3; rw [if_pos (b01.mpr g0)]; omega) (by rw [if_pos (b01.mpr g0), ← er, if_neg c_52, lwG, if_pos g1]; rfl) _ _ hP hD hS (lv_sub hl [2, 0, 3, 4, 1] rfl)
                        · have g0 : ¬ gscale (Gs (upd Sc (50 + i) (Gs Sc 6 i - 1))) n = 0 := fun h => c_98 (b01.mpr h)
                          have g1 : ¬ gscale (up2 Gc 6 i (Gc 6 i - 1)) n = 0 := by rw [← gscale_agr (agr_low hn hlt hag)]; exact g0
                          refine lv_iconst (v := 0) hx hb dX5_upgrade_101 (by decide) ?_
                          refine lv_goto (tgt := 106) hx hb dX5_upgrade_102 (by decide) ?_
                          refine lv_iadd hx hb dX5_upgrade_106 ?_
                          refine wI_ast hx hb hK hP hD hS 1 0 rfl rfl (50 + i) (nadd rfl rfl) (by omega) (by decide) dX5_upgrade_107 (fun H locs hP hD hS => ?_)
                          have hP : va_P (dC, dI) vwCl (wMdl cy m0 a (upd I 0 0) (upr (upr R 1 (upd (upd (upd Sc (50 + i) ((Gs Sc 6 i) - 1)) 1 (if gscale (Gs (upd Sc (50 + i) ((Gs Sc 6 i) - 1))) n = 0 then 1 else nI (gscale (Gs (upd Sc (50 + i) ((Gs Sc 6 i) - 1))) n))) (50 + i) ((Gs (upd (upd Sc (50 + i) ((Gs Sc 6 i) - 1)) 1 (if gscale (Gs (upd Sc (50 + i) ((Gs Sc 6 i) - 1))) n = 0 then 1 else nI (gscale (Gs (upd Sc (50 + i) ((Gs Sc 6 i) - 1))) n))) 6 i) + 0))) 2 (cpR (R 1) (R 2) 58))) H := hP
                          have hD : va_D A (wMdl cy m0 a (upd I 0 0) (upr (upr R 1 (upd (upd (upd Sc (50 + i) ((Gs Sc 6 i) - 1)) 1 (if gscale (Gs (upd Sc (50 + i) ((Gs Sc 6 i) - 1))) n = 0 then 1 else nI (gscale (Gs (upd Sc (50 + i) ((Gs Sc 6 i) - 1))) n))) (50 + i) ((Gs (upd (upd Sc (50 + i) ((Gs Sc 6 i) - 1)) 1 (if gscale (Gs (upd Sc (50 + i) ((Gs Sc 6 i) - 1))) n = 0 then 1 else nI (gscale (Gs (upd Sc (50 + i) ((Gs Sc 6 i) - 1))) n))) 6 i) + 0))) 2 (cpR (R 1) (R 2) 58))) := hD
                          refine lv_iload_n hx hb dX5_upgrade_108 rfl (lv_at hl 2 rfl) ?_
                          refine lv_iload hx hb dX5_upgrade_109 (lv_at hl 0 rfl) ?_
                          refine lv_if_eq (tgt := 118) hx hb dX5_upgrade_111 (by decide) (fun h0 => absurd h0 c_98) (fun c_111 => ?_)
                          refine lv_iconst (v := 1) hx hb dX5_upgrade_114 (by decide) ?_
                          refine lv_goto (tgt := 119) hx hb dX5_upgrade_115 (by decide) ?_
                          refine lv_iadd hx hb dX5_upgrade_119 ?_
                          refine lv_topi (fun y_ ey_ => ?_)
                          obtain rfl : y_ = nI (sm + 1) := ey_.trans (nI_1 sm)
                          refine lv_istore_n (lv' := [(1, .int (nI (sm + 1))), (4, .int (if gscale (Gs (upd Sc (50 + i) ((Gs Sc 6 i) - 1))) n = 0 then 0 else 1)), (0, .ref m0), (2, .int (nI q)), (3, .int (nI i))]) hx hb dX5_upgrade_120 rfl hl (by decide) rfl (fun ls hl => ?_)
                          refine lv_goto (tgt := 50) hx hb dX5_upgrade_121 (by decide) ?_
                          exact ih50 _ lv _ _ _ ls (by rw [pk_un (by omega), pk_un (by omega), pk_un (by omega)]; exact hSc0) (agr_ad0 hn hlt (show agr (Gs (upd (upd Sc (50 + i) (Gs Sc 6 i - 1)) 1 (if gscale (Gs (upd Sc (50 + i) (Gs Sc 6 i - 1))) n = 0 then 1 else nI (gscale (Gs (upd Sc (50 + i) (Gs Sc 6 i - 1))) n)))) (up2 Gc 6 i (Gc 6 i - 1)) n from by rw [Gs_upd1]; exact agr_low hn hlt hag)) (okG_low hok hlt hlv (by omega)) (show upd (Gc 6) i (Gc 6 i - 1) i = nI lv from by rw [pk_us, hlv]; exact nI_pred lv) (by omega) (by rw [if_neg c_52] at hk3; rw [if_neg (fun h => g0 (b01.mp h))]; omega) (by rw [if_neg (fun h => g0 (b01.mp h)), ← er, if_neg c_52, lwG, if_neg g1]; simp only [Nat.add_assoc, Nat.add_comm 1]) _ _ hP hD hS (lv_sub hl [2, 0, 3, 4, 1] rfl)
                exact loop50 5 _ lv _ _ _ ls hSc0 hag hok hlv hl3 (by split <;> omega) (by rw [← er, upJ, upS]; simp only [hlv, nI_clamp (show lv < 2147483648 by omega)]; rw [if_neg (by decide), if_pos c40]) _ _ hP hD hS (lv_sub hl [1, 2, 3, 4, 0] rfl)
        exact loop20 (n + 1) n 0 _ _ _ ls hSc0 hag hok (by omega) (by omega) er _ _ hP hD hS (lv_sub hl [1, 2, 3, 0] rfl)
  exact loop14 11 10 G (R 1) 0 ls hS0 hagr hG0 (Nat.le_refl _) (by omega) rfl _ _ hP hD hS (lv_sub hl [2, 1, 0] rfl)

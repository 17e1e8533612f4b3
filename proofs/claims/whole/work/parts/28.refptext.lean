/-! PART 28: the reference, proposeText -/
theorem nI_m {s : Nat} (h : s < 100) : ¬ nI s = -1 := fun q => by
  have h1 := nI_pos' (n := s) (by omega)
  rw [q] at h1
  exact absurd h1 (by decide)
theorem bool_if {b : Bool} {x : Int32} (e : x = if b = true then 1 else 0) (h : ¬ x = 0) : b = true := by
  cases b
  · exact absurd e h
  · rfl
theorem bool_if0 {b : Bool} {x : Int32} (e : x = if b = true then 1 else 0) (h : x = 0) : b = false := by
  cases b
  · rfl
  · rw [h] at e; exact absurd e (by decide)
set_option maxHeartbeats 1000000 in
set_option maxRecDepth 100000 in
/-- the text is read and proposed -/
theorem c_X5_proposeText (l : Launch) (dC : Nat → ClassId) (dI : Nat → Nat → Nat) (cy : Nat → ClassId) (sz : Nat) (m0 : Nat) (a : Nat → Nat) (I : Nat → Int32) (R : vG) (n : Nat) (hn : n ≤ 8) (hS0 : R 1 0 = nI n) (G : vG) (hagr : agr (Gs (R 1)) G n) (hG0 : okG G n) (ch : Nat) (hch : ch ≤ 6) (hI5 : I 5 = nI ch) (L : Nat) (hL : L ≤ 30) (hI8 : I 8 = nI L) : Met l yX5_proposeText wsX5_proposeText ({ frames := 8, cells := 0, slots := 0, locals := 186 }) (va_Pc [.ref m0] (pIn dC dI cy (wMdl cy m0 a I R) sz)) (va_Qi (fun (r : Int32) u => qPText I R n G ch L r u) (fun (u : (Nat → Int32) × vG) t => va_P (dC, dI) vwCl (wMdl cy m0 a u.1 u.2) t.heap ∧ va_D (va_A (wMdl cy m0 a I R) sz) (wMdl cy m0 a u.1 u.2)) (va_A (wMdl cy m0 a I R) sz)) 0 0 (va_A (wMdl cy m0 a I R) sz) := by
  refine Met.ofW (cc := cX5_proposeText) (maxL := 3) (ret := some .int) (by decide) rfl ?_
  intro p e s m args below meth c s₁ B hml hv
  obtain ⟨rfl, hsz, hP, hE, hD0⟩ := hv
  have hK := hE.1
  subst hsz
  have hD := hD0.self (sz := s.heap.size)
  generalize hAe : va_A (wMdl cy m0 a I R) s.heap.size = A at hD ⊢
  have hA : ∀ q : Nat, s.heap.size ≤ q → A q := fun q h => by rw [← hAe]; exact Or.inr h
  have hS : va_S A s.heap s.heap [] := va_S.rf
  have hP : va_P (dC, dI) vwCl (wMdl cy m0 a I R) s.heap := hP
  have hx := B.exec
  have hb := B.bytes
  have hr := B.returns
  have hts := atoms_spec (ws := wsX5_proposeText) B.pre
  have hown : s.vm.findClass RX5 = some m.cls := findClass_of_methodNamed B.named
  have hlocks := B.notSynchronized
  have hin5 : ∀ w ∈ u_ws RX5 TX5 32, w ∈ wsX5_proposeText := by decide +kernel
  have f_127 := hts (.fieldLink RX5 127 "DeadlineAdmissionModel" "spot" "I") (by decide +kernel)
  have f_130 := hts (.fieldLink RX5 130 "DeadlineAdmissionModel" "length" "I") (by decide +kernel)
  have f_25 := hts (.fieldLink RX5 25 "DeadlineAdmissionModel" "faultAt" "I") (by decide +kernel)
  have f_32 := hts (.fieldLink RX5 32 "DeadlineAdmissionModel" "numbers" "[I") (by decide +kernel)
  have f_50 := hts (.fieldLink RX5 50 "DeadlineAdmissionModel" "thrown" "I") (by decide +kernel)
  have hl := lv_entry ([.ref m0]) (n := 3) (Nat.le_of_ble_eq_true rfl)
  rw [lg_entry_eq]
  generalize (lg_sl ([.ref m0]) ++ List.replicate (3 - (lg_sl ([.ref m0])).length) Slot.unset).toArray = ls at hl ⊢
  have hl : lv_has ls 3 [(0, .ref m0)] := hl
  refine lv_aload_n hx hb dX5_proposeText_0 rfl (lv_at hl 0 rfl) ?_
  refine lv_iconst (v := 0) hx hb dX5_proposeText_1 (by decide) ?_
  refine va_put (D := (dC, dI)) (ci := 5) (v := .int 0) (ty := .int) (C := RX5) (T := TX5) (N := 32) hx hb hts hin5 tyX5 tyX5_ok nmX5 hown hK hP hD hS 0 rfl rfl 0 (by decide) f_50 (fun _ h9 => h9) rfl (by decide +kernel) rfl rfl (Nat.le_of_ble_eq_true rfl) dX5_proposeText_2 (fun H locs hP hD hS => ?_)
  have hP : va_P (dC, dI) vwCl (wMdl cy m0 a (upd I 0 0) R) H := hP
  have hD : va_D A (wMdl cy m0 a (upd I 0 0) R) := hD
  refine lv_aload_n hx hb dX5_proposeText_5 rfl (lv_at hl 0 rfl) ?_
  refine lv_iconst (v := 0) hx hb dX5_proposeText_6 (by decide) ?_
  refine va_put (D := (dC, dI)) (ci := 5) (v := .int 0) (ty := .int) (C := RX5) (T := TX5) (N := 32) hx hb hts hin5 tyX5 tyX5_ok nmX5 hown hK hP hD hS 0 rfl rfl 21 (by decide) f_127 (fun _ h9 => h9) rfl (by decide +kernel) rfl rfl (Nat.le_of_ble_eq_true rfl) dX5_proposeText_7 (fun H locs hP hD hS => ?_)
  have hP : va_P (dC, dI) vwCl (wMdl cy m0 a (upd (upd I 0 0) 21 0) R) H := hP
  have hD : va_D A (wMdl cy m0 a (upd (upd I 0 0) 21 0) R) := hD
  refine lv_aload_n hx hb dX5_proposeText_10 rfl (lv_at hl 0 rfl) ?_
  refine lv_iconst (v := 0) hx hb dX5_proposeText_11 (by decide) ?_
  have hPc := hP.sub (ws' := wMdl cy m0 a (upd (upd I 0 0) 21 0) R) [0, 1, 2, 3, 4, 5, 6, 7, 8, 9, 10, 11, 12] rfl
  have hDc := hD.sub (ws' := wMdl cy m0 a (upd (upd I 0 0) 21 0) R) [0, 1, 2, 3, 4, 5, 6, 7, 8, 9, 10, 11, 12] (by decide) rfl
  have hFc := va_free (wc := wMdl cy m0 a (upd (upd I 0 0) 21 0) R) hD hS hA [0, 1, 2, 3, 4, 5, 6, 7, 8, 9, 10, 11, 12] rfl
  refine va_calli (va_runV (As := [.int 0]) (rest := []) ⟨hx, hb, hml, hown, hts⟩ (c_X5_readsNumber l dC dI cy H.size m0 a (upd (upd I 0 0) 21 0) R L 0 0 (by omega) (by omega) (by omega) hI8 rfl) (cwV 1 hts gX5_proposeText_X5_readsNumber rfl rfl rfl (by decide +kernel) ⟨Nat.le_of_ble_eq_true rfl, Nat.le_of_ble_eq_true rfl⟩) ⟨bl_in, va_recv hK hPc (ci := 5) (q0 := 0) rfl rfl, pr_in hPc hE hDc⟩ rfl rfl hl.1 rfl (lv_room (Nat.le_of_ble_eq_true rfl)) dX5_proposeText_12 ⟨Nat.le_of_ble_eq_true rfl, Nat.le_of_ble_eq_true rfl⟩) hS (fun q _ h => hFc q h) hFc (fun r u t H1 locs ht hvm hw hB hz1 hk1 hS => ?_)
  obtain rfl := hw
  obtain ⟨hP1, hD1⟩ := hB
  rw [ht] at hP1
  obtain ⟨hP, hD⟩ := va_join (wr := []) (w1 := wMdl cy m0 a (upd (upd I 0 0) 21 (nI (0 + rlen (R 7) L 0))) (upr R 20 (upd (R 20) 0 (rval (R 7) L 0)))) hP hD [0, 1, 2, 3, 4, 5, 6, 7, 8, 9, 10, 11, 12] [] rfl rfl (by decide) (by decide) hk1 hFc hP1 hD1
  have hP : va_P (dC, dI) vwCl (wMdl cy m0 a (upd (upd I 0 0) 21 (nI (0 + rlen (R 7) L 0))) (upr R 20 (upd (R 20) 0 (rval (R 7) L 0)))) H1 := hP.sub [0, 1, 2, 3, 4, 5, 6, 7, 8, 9, 10, 11, 12] rfl
  have hD : va_D A (wMdl cy m0 a (upd (upd I 0 0) 21 (nI (0 + rlen (R 7) L 0))) (upr R 20 (upd (R 20) 0 (rval (R 7) L 0)))) := hD.sub [0, 1, 2, 3, 4, 5, 6, 7, 8, 9, 10, 11, 12] (by decide) rfl
  clear hz1 hk1 hPc hDc hFc hP1 hD1
  generalize H1 = H at hP hS ⊢
  refine lv_topi (fun y_ ey_ => ?_)
  obtain rfl : y_ = if rlen (R 7) L 0 = 0 then 0 else 1 := ey_
  refine lv_istore_n (lv' := [(1, .int (if rlen (R 7) L 0 = 0 then 0 else 1)), (0, .ref m0)]) hx hb dX5_proposeText_15 rfl hl (by decide) rfl (fun ls hl => ?_)
  refine lv_iconst (v := 1) hx hb dX5_proposeText_16 (by decide) ?_
  refine lv_istore_n (lv' := [(2, .int 1), (1, .int (if rlen (R 7) L 0 = 0 then 0 else 1)), (0, .ref m0)]) hx hb dX5_proposeText_17 rfl hl (by decide) rfl (fun ls hl => ?_)
  have loop18 : ∀ (k : Nat) (q : Nat) (is : Int32) (s9 : Nat) (N : Nat → Int32) (ls : Array Slot), q ≤ 5 → is = (if (pst (R 7) L q).1 = true then 1 else 0) → (pst (R 7) L q).2 = s9 → ((pst (R 7) L q).1 = true → ∀ j, j ≤ q → N j = nv (R 7) L j) → 5 < q + k → ∀ (H : Heap) (locs : List Loc), va_P (dC, dI) vwCl (wMdl cy m0 a (upd (upd I 0 0) 21 (nI s9)) (upr R 20 N)) H → va_D A (wMdl cy m0 a (upd (upd I 0 0) 21 (nI s9)) (upr R 20 N)) → va_S A s.heap H locs → lv_has ls 3 [(0, .ref m0), (1, .int is), (2, .int (nI (q + 1)))] → W p l e (headSpec wsX5_proposeText ({ frames := 8, cells := 0, slots := 0, locals := 186 }) |>.room) s m (([.ref m0].toArray)) below meth c H locs 0 0 (MQ below (va_Qi (fun (r : Int32) u => qPText I R n G ch L r u) (fun (u : (Nat → Int32) × vG) t => va_P (dC, dI) vwCl (wMdl cy m0 a u.1 u.2) t.heap ∧ va_D (A) (wMdl cy m0 a u.1 u.2)) (A)) ([.ref m0].toArray) s 0 0 A) (F0 m 18 ls []) := by
    intro k
    induction k with
    | zero =>
      intro q is s9 N ls hq eok es hN hk
      exfalso; omega
    | succ k ih18 =>
      intro q is s9 N ls hq eok es hN hk H locs hP hD hS hl
      refine lv_iload_n hx hb dX5_proposeText_18 rfl (lv_at hl 2 rfl) ?_
      refine lv_bipush (v := 6) hx hb dX5_proposeText_19 (by decide) ?_
      refine lv_icmp_ge (tgt := 85) hx hb dX5_proposeText_21 (by decide) (fun c_21 => ?_) (fun c_21 => ?_)
      · have e_q : q = 5 := by have := (nI_leI (a := 6) (b := q + 1) (by omega) (by omega)).mp c_21; omega
        have h5 : (pst (R 7) L 5).2 = s9 := by rw [← e_q]; exact es
        refine lv_aload_n hx hb dX5_proposeText_85 rfl (lv_at hl 0 rfl) ?_
        refine lv_iload_n hx hb dX5_proposeText_86 rfl (lv_at hl 1 rfl) ?_
        refine lv_if_eq (tgt := 105) hx hb dX5_proposeText_87 (by decide) (fun c_87 => ?_) (fun c_87 => ?_)
        · have hs9 : s9 ≤ 30 := by have := pst_end (R 7) L 5; omega
          have hfl : flt (R 7) L = nI s9 := by have hb0 := bool_if0 eok c_87; rw [e_q] at hb0; rw [flt, if_neg (fun h => Bool.false_ne_true (hb0.symm.trans h.1)), h5]
          refine lv_aload_n hx hb dX5_proposeText_105 rfl (lv_at hl 0 rfl) ?_
          refine va_get (D := (dC, dI)) (ci := 5) (v := .int (nI s9)) (C := RX5) (T := TX5) (N := 32) hx hb hts hin5 hown hK hP 0 rfl rfl 21 (by decide) f_127 (fun _ h9 => h9) rfl dX5_proposeText_106 ?_
          refine va_put (D := (dC, dI)) (ci := 5) (v := .int (nI s9)) (ty := .int) (C := RX5) (T := TX5) (N := 32) hx hb hts hin5 tyX5 tyX5_ok nmX5 hown hK hP hD hS 0 rfl rfl 9 (by decide) f_25 (fun _ h9 => h9) rfl (by decide +kernel) rfl rfl (Nat.le_of_ble_eq_true rfl) dX5_proposeText_109 (fun H locs hP hD hS => ?_)
          have hP : va_P (dC, dI) vwCl (wMdl cy m0 a (upd (upd (upd I 0 0) 9 (nI s9)) 21 (nI s9)) (upr R 20 N)) H := hP
          have hD : va_D A (wMdl cy m0 a (upd (upd (upd I 0 0) 9 (nI s9)) 21 (nI s9)) (upr R 20 N)) := hD
          refine lv_aload_n hx hb dX5_proposeText_112 rfl (lv_at hl 0 rfl) ?_
          refine lv_iconst (v := 0) hx hb dX5_proposeText_113 (by decide) ?_
          refine va_put (D := (dC, dI)) (ci := 5) (v := .int 0) (ty := .int) (C := RX5) (T := TX5) (N := 32) hx hb hts hin5 tyX5 tyX5_ok nmX5 hown hK hP hD hS 0 rfl rfl 8 (by decide) f_130 (fun _ h9 => h9) rfl (by decide +kernel) rfl rfl (Nat.le_of_ble_eq_true rfl) dX5_proposeText_114 (fun H locs hP hD hS => ?_)
          have hP : va_P (dC, dI) vwCl (wMdl cy m0 a (upd (upd (upd (upd I 0 0) 8 0) 9 (nI s9)) 21 (nI s9)) (upr R 20 N)) H := hP
          have hD : va_D A (wMdl cy m0 a (upd (upd (upd (upd I 0 0) 8 0) 9 (nI s9)) 21 (nI s9)) (upr R 20 N)) := hD
          refine lv_aload_n hx hb dX5_proposeText_117 rfl (lv_at hl 0 rfl) ?_
          refine va_get (D := (dC, dI)) (ci := 5) (v := .int (nI s9)) (C := RX5) (T := TX5) (N := 32) hx hb hts hin5 hown hK hP 0 rfl rfl 9 (by decide) f_25 (fun _ h9 => h9) rfl dX5_proposeText_118 ?_
          refine lv_if_lt (tgt := 130) hx hb dX5_proposeText_121 (by decide) (fun h0 => absurd h0 (nI_pos (by omega))) (fun c_121 => ?_)
          refine lv_aload_n hx hb dX5_proposeText_124 rfl (lv_at hl 0 rfl) ?_
          refine lv_iconst (v := 1) hx hb dX5_proposeText_125 (by decide) ?_
          have hPc := hP.sub (ws' := wMdl cy m0 a (upd (upd (upd (upd I 0 0) 8 0) 9 (nI s9)) 21 (nI s9)) (upr R 20 N)) [0, 1, 2, 3, 4, 5, 6, 7, 8, 9, 10, 11, 12] rfl
          have hDc := hD.sub (ws' := wMdl cy m0 a (upd (upd (upd (upd I 0 0) 8 0) 9 (nI s9)) 21 (nI s9)) (upr R 20 N)) [0, 1, 2, 3, 4, 5, 6, 7, 8, 9, 10, 11, 12] (by decide) rfl
          have hFc := va_free (wc := wMdl cy m0 a (upd (upd (upd (upd I 0 0) 8 0) 9 (nI s9)) 21 (nI s9)) (upr R 20 N)) hD hS hA [0, 1, 2, 3, 4, 5, 6, 7, 8, 9, 10, 11, 12] rfl
          refine va_calli (va_runV (As := [.int 1]) (rest := []) ⟨hx, hb, hml, hown, hts⟩ (c_X5_fails l dC dI cy H.size m0 a (upd (upd (upd (upd I 0 0) 8 0) 9 (nI s9)) 21 (nI s9)) (upr R 20 N) 1  ) (cwV 1 hts gX5_proposeText_X5_fails rfl rfl rfl (by decide +kernel) ⟨Nat.le_of_ble_eq_true rfl, Nat.le_of_ble_eq_true rfl⟩) ⟨bl_in, va_recv hK hPc (ci := 5) (q0 := 0) rfl rfl, pr_in hPc hE hDc⟩ rfl rfl hl.1 rfl (lv_room (Nat.le_of_ble_eq_true rfl)) dX5_proposeText_126 ⟨Nat.le_of_ble_eq_true rfl, Nat.le_of_ble_eq_true rfl⟩) hS (fun q _ h => hFc q h) hFc (fun r u t H1 locs ht hvm hw hB hz1 hk1 hS => ?_)
          obtain rfl := hw
          obtain ⟨hP1, hD1⟩ := hB
          rw [ht] at hP1
          obtain ⟨hP, hD⟩ := va_join (wr := []) (w1 := wMdl cy m0 a (upd (upd (upd (upd I 0 1) 8 0) 9 (nI s9)) 21 (nI s9)) (upr R 20 N)) hP hD [0, 1, 2, 3, 4, 5, 6, 7, 8, 9, 10, 11, 12] [] rfl rfl (by decide) (by decide) hk1 hFc hP1 hD1
          have hP : va_P (dC, dI) vwCl (wMdl cy m0 a (upd (upd (upd (upd I 0 1) 8 0) 9 (nI s9)) 21 (nI s9)) (upr R 20 N)) H1 := hP.sub [0, 1, 2, 3, 4, 5, 6, 7, 8, 9, 10, 11, 12] rfl
          have hD : va_D A (wMdl cy m0 a (upd (upd (upd (upd I 0 1) 8 0) 9 (nI s9)) 21 (nI s9)) (upr R 20 N)) := hD.sub [0, 1, 2, 3, 4, 5, 6, 7, 8, 9, 10, 11, 12] (by decide) rfl
          clear hz1 hk1 hPc hDc hFc hP1 hD1
          generalize H1 = H at hP hS ⊢
          have hP9 : va_P (dC, dI) vwCl (wMdl cy m0 a (upd (upd (upd (upd I 0 1) 8 0) 9 (nI s9)) 21 (nI s9)) (upr R 20 N)) H := hP
          have hD9 : va_D A (wMdl cy m0 a (upd (upd (upd (upd I 0 1) 8 0) 9 (nI s9)) 21 (nI s9)) (upr R 20 N)) := hD
          exact W.iret (v := 0) hx hb hr (fun t ht hW => ⟨⟨0, (upd (upd (upd (upd I 0 1) 8 0) 9 (nI s9)) 21 (nI s9), upr R 20 N), rfl, ⟨nI s9, N, Or.inl ⟨by rw [hfl]; exact nI_m (by omega), by rw [hfl]⟩⟩, by rw [ht]; exact hP9, hD9⟩, hS.F ht⟩) hS.2.2 dX5_proposeText_129
        · have hs9 : s9 ≤ 30 := by have := pst_end (R 7) L 5; omega
          have hb1 := bool_if eok c_87
          rw [e_q] at hb1 hN
          refine lv_aload_n hx hb dX5_proposeText_90 rfl (lv_at hl 0 rfl) ?_
          refine va_get (D := (dC, dI)) (ci := 5) (v := .int (nI s9)) (C := RX5) (T := TX5) (N := 32) hx hb hts hin5 hown hK hP 0 rfl rfl 21 (by decide) f_127 (fun _ h9 => h9) rfl dX5_proposeText_91 ?_
          refine lv_aload_n hx hb dX5_proposeText_94 rfl (lv_at hl 0 rfl) ?_
          refine va_get (D := (dC, dI)) (ci := 5) (v := .int (I 8)) (C := RX5) (T := TX5) (N := 32) hx hb hts hin5 hown hK hP 0 rfl rfl 8 (by decide) f_130 (fun _ h9 => h9) rfl dX5_proposeText_95 ?_
          refine lv_icmp_ne (tgt := 105) hx hb dX5_proposeText_98 (by decide) (fun c_98 => ?_) (fun c_98 => ?_)
          · have hfl : flt (R 7) L = nI s9 := by rw [flt, if_neg (fun h => c_98 (by rw [hI8, ← h.2, h5])), h5]
            refine lv_aload_n hx hb dX5_proposeText_105 rfl (lv_at hl 0 rfl) ?_
            refine va_get (D := (dC, dI)) (ci := 5) (v := .int (nI s9)) (C := RX5) (T := TX5) (N := 32) hx hb hts hin5 hown hK hP 0 rfl rfl 21 (by decide) f_127 (fun _ h9 => h9) rfl dX5_proposeText_106 ?_
            refine va_put (D := (dC, dI)) (ci := 5) (v := .int (nI s9)) (ty := .int) (C := RX5) (T := TX5) (N := 32) hx hb hts hin5 tyX5 tyX5_ok nmX5 hown hK hP hD hS 0 rfl rfl 9 (by decide) f_25 (fun _ h9 => h9) rfl (by decide +kernel) rfl rfl (Nat.le_of_ble_eq_true rfl) dX5_proposeText_109 (fun H locs hP hD hS => ?_)
            have hP : va_P (dC, dI) vwCl (wMdl cy m0 a (upd (upd (upd I 0 0) 9 (nI s9)) 21 (nI s9)) (upr R 20 N)) H := hP
            have hD : va_D A (wMdl cy m0 a (upd (upd (upd I 0 0) 9 (nI s9)) 21 (nI s9)) (upr R 20 N)) := hD
            refine lv_aload_n hx hb dX5_proposeText_112 rfl (lv_at hl 0 rfl) ?_
            refine lv_iconst (v := 0) hx hb dX5_proposeText_113 (by decide) ?_
            refine va_put (D := (dC, dI)) (ci := 5) (v := .int 0) (ty := .int) (C := RX5) (T := TX5) (N := 32) hx hb hts hin5 tyX5 tyX5_ok nmX5 hown hK hP hD hS 0 rfl rfl 8 (by decide) f_130 (fun _ h9 => h9) rfl (by decide +kernel) rfl rfl (Nat.le_of_ble_eq_true rfl) dX5_proposeText_114 (fun H locs hP hD hS => ?_)
            have hP : va_P (dC, dI) vwCl (wMdl cy m0 a (upd (upd (upd (upd I 0 0) 8 0) 9 (nI s9)) 21 (nI s9)) (upr R 20 N)) H := hP
            have hD : va_D A (wMdl cy m0 a (upd (upd (upd (upd I 0 0) 8 0) 9 (nI s9)) 21 (nI s9)) (upr R 20 N)) := hD
            refine lv_aload_n hx hb dX5_proposeText_117 rfl (lv_at hl 0 rfl) ?_
            refine va_get (D := (dC, dI)) (ci := 5) (v := .int (nI s9)) (C := RX5) (T := TX5) (N := 32) hx hb hts hin5 hown hK hP 0 rfl rfl 9 (by decide) f_25 (fun _ h9 => h9) rfl dX5_proposeText_118 ?_
            refine lv_if_lt (tgt := 130) hx hb dX5_proposeText_121 (by decide) (fun h0 => absurd h0 (nI_pos (by omega))) (fun c_121 => ?_)
            refine lv_aload_n hx hb dX5_proposeText_124 rfl (lv_at hl 0 rfl) ?_
            refine lv_iconst (v := 1) hx hb dX5_proposeText_125 (by decide) ?_
            have hPc := hP.sub (ws' := wMdl cy m0 a (upd (upd (upd (upd I 0 0) 8 0) 9 (nI s9)) 21 (nI s9)) (upr R 20 N)) [0, 1, 2, 3, 4, 5, 6, 7, 8, 9, 10, 11, 12] rfl
            have hDc := hD.sub (ws' := wMdl cy m0 a (upd (upd (upd (upd I 0 0) 8 0) 9 (nI s9)) 21 (nI s9)) (upr R 20 N)) [0, 1, 2, 3, 4, 5, 6, 7, 8, 9, 10, 11, 12] (by decide) rfl
            have hFc := va_free (wc := wMdl cy m0 a (upd (upd (upd (upd I 0 0) 8 0) 9 (nI s9)) 21 (nI s9)) (upr R 20 N)) hD hS hA [0, 1, 2, 3, 4, 5, 6, 7, 8, 9, 10, 11, 12] rfl
            refine va_calli (va_runV (As := [.int 1]) (rest := []) ⟨hx, hb, hml, hown, hts⟩ (c_X5_fails l dC dI cy H.size m0 a (upd (upd (upd (upd I 0 0) 8 0) 9 (nI s9)) 21 (nI s9)) (upr R 20 N) 1  ) (cwV 1 hts gX5_proposeText_X5_fails rfl rfl rfl (by decide +kernel) ⟨Nat.le_of_ble_eq_true rfl, Nat.le_of_ble_eq_true rfl⟩) ⟨bl_in, va_recv hK hPc (ci := 5) (q0 := 0) rfl rfl, pr_in hPc hE hDc⟩ rfl rfl hl.1 rfl (lv_room (Nat.le_of_ble_eq_true rfl)) dX5_proposeText_126 ⟨Nat.le_of_ble_eq_true rfl, Nat.le_of_ble_eq_true rfl⟩) hS (fun q _ h => hFc q h) hFc (fun r u t H1 locs ht hvm hw hB hz1 hk1 hS => ?_)
            obtain rfl := hw
            obtain ⟨hP1, hD1⟩ := hB
            rw [ht] at hP1
            obtain ⟨hP, hD⟩ := va_join (wr := []) (w1 := wMdl cy m0 a (upd (upd (upd (upd I 0 1) 8 0) 9 (nI s9)) 21 (nI s9)) (upr R 20 N)) hP hD [0, 1, 2, 3, 4, 5, 6, 7, 8, 9, 10, 11, 12] [] rfl rfl (by decide) (by decide) hk1 hFc hP1 hD1
            have hP : va_P (dC, dI) vwCl (wMdl cy m0 a (upd (upd (upd (upd I 0 1) 8 0) 9 (nI s9)) 21 (nI s9)) (upr R 20 N)) H1 := hP.sub [0, 1, 2, 3, 4, 5, 6, 7, 8, 9, 10, 11, 12] rfl
            have hD : va_D A (wMdl cy m0 a (upd (upd (upd (upd I 0 1) 8 0) 9 (nI s9)) 21 (nI s9)) (upr R 20 N)) := hD.sub [0, 1, 2, 3, 4, 5, 6, 7, 8, 9, 10, 11, 12] (by decide) rfl
            clear hz1 hk1 hPc hDc hFc hP1 hD1
            generalize H1 = H at hP hS ⊢
            have hP9 : va_P (dC, dI) vwCl (wMdl cy m0 a (upd (upd (upd (upd I 0 1) 8 0) 9 (nI s9)) 21 (nI s9)) (upr R 20 N)) H := hP
            have hD9 : va_D A (wMdl cy m0 a (upd (upd (upd (upd I 0 1) 8 0) 9 (nI s9)) 21 (nI s9)) (upr R 20 N)) := hD
            exact W.iret (v := 0) hx hb hr (fun t ht hW => ⟨⟨0, (upd (upd (upd (upd I 0 1) 8 0) 9 (nI s9)) 21 (nI s9), upr R 20 N), rfl, ⟨nI s9, N, Or.inl ⟨by rw [hfl]; exact nI_m (by omega), by rw [hfl]⟩⟩, by rw [ht]; exact hP9, hD9⟩, hS.F ht⟩) hS.2.2 dX5_proposeText_129
          · have hfl : flt (R 7) L = -1 := if_pos ⟨hb1, by rw [hI8] at c_98; rw [h5]; exact (nI_eq (by omega) (by omega)).mp c_98⟩
            refine lv_iconst (v := (-1)) hx hb dX5_proposeText_101 (by decide) ?_
            refine lv_goto (tgt := 109) hx hb dX5_proposeText_102 (by decide) ?_
            refine va_put (D := (dC, dI)) (ci := 5) (v := .int (-1)) (ty := .int) (C := RX5) (T := TX5) (N := 32) hx hb hts hin5 tyX5 tyX5_ok nmX5 hown hK hP hD hS 0 rfl rfl 9 (by decide) f_25 (fun _ h9 => h9) rfl (by decide +kernel) rfl rfl (Nat.le_of_ble_eq_true rfl) dX5_proposeText_109 (fun H locs hP hD hS => ?_)
            have hP : va_P (dC, dI) vwCl (wMdl cy m0 a (upd (upd (upd I 0 0) 9 (-1)) 21 (nI s9)) (upr R 20 N)) H := hP
            have hD : va_D A (wMdl cy m0 a (upd (upd (upd I 0 0) 9 (-1)) 21 (nI s9)) (upr R 20 N)) := hD
            refine lv_aload_n hx hb dX5_proposeText_112 rfl (lv_at hl 0 rfl) ?_
            refine lv_iconst (v := 0) hx hb dX5_proposeText_113 (by decide) ?_
            refine va_put (D := (dC, dI)) (ci := 5) (v := .int 0) (ty := .int) (C := RX5) (T := TX5) (N := 32) hx hb hts hin5 tyX5 tyX5_ok nmX5 hown hK hP hD hS 0 rfl rfl 8 (by decide) f_130 (fun _ h9 => h9) rfl (by decide +kernel) rfl rfl (Nat.le_of_ble_eq_true rfl) dX5_proposeText_114 (fun H locs hP hD hS => ?_)
            have hP : va_P (dC, dI) vwCl (wMdl cy m0 a (upd (upd (upd (upd I 0 0) 8 0) 9 (-1)) 21 (nI s9)) (upr R 20 N)) H := hP
            have hD : va_D A (wMdl cy m0 a (upd (upd (upd (upd I 0 0) 8 0) 9 (-1)) 21 (nI s9)) (upr R 20 N)) := hD
            refine lv_aload_n hx hb dX5_proposeText_117 rfl (lv_at hl 0 rfl) ?_
            refine va_get (D := (dC, dI)) (ci := 5) (v := .int (-1)) (C := RX5) (T := TX5) (N := 32) hx hb hts hin5 hown hK hP 0 rfl rfl 9 (by decide) f_25 (fun _ h9 => h9) rfl dX5_proposeText_118 ?_
            refine lv_if_lt (tgt := 130) hx hb dX5_proposeText_121 (by decide) (fun _ => ?_) (fun h0 => absurd h0 (by decide))
            refine lv_aload_n hx hb dX5_proposeText_130 rfl (lv_at hl 0 rfl) ?_
            refine lv_aload_n hx hb dX5_proposeText_131 rfl (lv_at hl 0 rfl) ?_
            refine va_get (D := (dC, dI)) (ci := 5) (v := .ref (a 20)) (C := RX5) (T := TX5) (N := 32) hx hb hts hin5 hown hK hP 0 rfl rfl 20 (by decide) f_32 (fun _ h9 => h9) rfl dX5_proposeText_132 ?_
            refine lv_iconst (v := 0) hx hb dX5_proposeText_135 (by decide) ?_
            refine wI_alv (v := N 0) hx hb hK hP 7 0 rfl rfl 0 rfl (by omega) (by decide) rfl dX5_proposeText_136 ?_
            refine lv_aload_n hx hb dX5_proposeText_137 rfl (lv_at hl 0 rfl) ?_
            refine va_get (D := (dC, dI)) (ci := 5) (v := .ref (a 20)) (C := RX5) (T := TX5) (N := 32) hx hb hts hin5 hown hK hP 0 rfl rfl 20 (by decide) f_32 (fun _ h9 => h9) rfl dX5_proposeText_138 ?_
            refine lv_iconst (v := 1) hx hb dX5_proposeText_141 (by decide) ?_
            refine wI_alv (v := N 1) hx hb hK hP 7 0 rfl rfl 1 rfl (by omega) (by decide) rfl dX5_proposeText_142 ?_
            refine lv_aload_n hx hb dX5_proposeText_143 rfl (lv_at hl 0 rfl) ?_
            refine va_get (D := (dC, dI)) (ci := 5) (v := .ref (a 20)) (C := RX5) (T := TX5) (N := 32) hx hb hts hin5 hown hK hP 0 rfl rfl 20 (by decide) f_32 (fun _ h9 => h9) rfl dX5_proposeText_144 ?_
            refine lv_iconst (v := 2) hx hb dX5_proposeText_147 (by decide) ?_
            refine wI_alv (v := N 2) hx hb hK hP 7 0 rfl rfl 2 rfl (by omega) (by decide) rfl dX5_proposeText_148 ?_
            refine lv_aload_n hx hb dX5_proposeText_149 rfl (lv_at hl 0 rfl) ?_
            refine va_get (D := (dC, dI)) (ci := 5) (v := .ref (a 20)) (C := RX5) (T := TX5) (N := 32) hx hb hts hin5 hown hK hP 0 rfl rfl 20 (by decide) f_32 (fun _ h9 => h9) rfl dX5_proposeText_150 ?_
            refine lv_iconst (v := 3) hx hb dX5_proposeText_153 (by decide) ?_
            refine wI_alv (v := N 3) hx hb hK hP 7 0 rfl rfl 3 rfl (by omega) (by decide) rfl dX5_proposeText_154 ?_
            refine lv_aload_n hx hb dX5_proposeText_155 rfl (lv_at hl 0 rfl) ?_
            refine va_get (D := (dC, dI)) (ci := 5) (v := .ref (a 20)) (C := RX5) (T := TX5) (N := 32) hx hb hts hin5 hown hK hP 0 rfl rfl 20 (by decide) f_32 (fun _ h9 => h9) rfl dX5_proposeText_156 ?_
            refine lv_iconst (v := 4) hx hb dX5_proposeText_159 (by decide) ?_
            refine wI_alv (v := N 4) hx hb hK hP 7 0 rfl rfl 4 rfl (by omega) (by decide) rfl dX5_proposeText_160 ?_
            refine lv_aload_n hx hb dX5_proposeText_161 rfl (lv_at hl 0 rfl) ?_
            refine va_get (D := (dC, dI)) (ci := 5) (v := .ref (a 20)) (C := RX5) (T := TX5) (N := 32) hx hb hts hin5 hown hK hP 0 rfl rfl 20 (by decide) f_32 (fun _ h9 => h9) rfl dX5_proposeText_162 ?_
            refine lv_iconst (v := 5) hx hb dX5_proposeText_165 (by decide) ?_
            refine wI_alv (v := N 5) hx hb hK hP 7 0 rfl rfl 5 rfl (by omega) (by decide) rfl dX5_proposeText_166 ?_
            have hPc := hP.sub (ws' := wMdl cy m0 a (upd (upd (upd (upd I 0 0) 8 0) 9 (-1)) 21 (nI s9)) (upr R 20 N)) [0, 1, 2, 3, 4, 5, 6, 7, 8, 9, 10, 11, 12] rfl
            have hDc := hD.sub (ws' := wMdl cy m0 a (upd (upd (upd (upd I 0 0) 8 0) 9 (-1)) 21 (nI s9)) (upr R 20 N)) [0, 1, 2, 3, 4, 5, 6, 7, 8, 9, 10, 11, 12] (by decide) rfl
            have hFc := va_free (wc := wMdl cy m0 a (upd (upd (upd (upd I 0 0) 8 0) 9 (-1)) 21 (nI s9)) (upr R 20 N)) hD hS hA [0, 1, 2, 3, 4, 5, 6, 7, 8, 9, 10, 11, 12] rfl
            refine va_calli (va_runV (As := [.int (N 0), .int (N 1), .int (N 2), .int (N 3), .int (N 4), .int (N 5)]) (rest := []) ⟨hx, hb, hml, hown, hts⟩ (c_X5_propose l dC dI cy H.size m0 a (upd (upd (upd (upd I 0 0) 8 0) 9 (-1)) 21 (nI s9)) (upr R 20 N) n hn hS0 G hagr hG0 ch hch hI5 (N 0) (N 1) (N 2) (N 3) (N 4) (N 5)) (cwV 6 hts gX5_proposeText_X5_propose rfl rfl rfl (by decide +kernel) ⟨Nat.le_of_ble_eq_true rfl, Nat.le_of_ble_eq_true rfl⟩) ⟨bl_in, va_recv hK hPc (ci := 5) (q0 := 0) rfl rfl, pr_in hPc hE hDc⟩ rfl rfl hl.1 rfl (lv_room (Nat.le_of_ble_eq_true rfl)) dX5_proposeText_167 ⟨Nat.le_of_ble_eq_true rfl, Nat.le_of_ble_eq_true rfl⟩) hS (fun q _ h => hFc q h) hFc (fun r u t H1 locs ht hvm hw hB hz1 hk1 hS => ?_)
            obtain ⟨u9, rfl⟩ : ∃ z, z = u := ⟨_, rfl⟩
            obtain ⟨r9, rfl⟩ : ∃ z, z = r := ⟨_, rfl⟩
            have hwp := hw
            obtain ⟨hP1, hD1⟩ := hB
            rw [ht] at hP1
            obtain ⟨hP, hD⟩ := va_join (wr := []) (w1 := wMdl cy m0 a u9.1 u9.2) hP hD [0, 1, 2, 3, 4, 5, 6, 7, 8, 9, 10, 11, 12] [] rfl rfl (by decide) (by decide) hk1 hFc hP1 hD1
            have hP : va_P (dC, dI) vwCl (wMdl cy m0 a u9.1 u9.2) H1 := hP.sub [0, 1, 2, 3, 4, 5, 6, 7, 8, 9, 10, 11, 12] rfl
            have hD : va_D A (wMdl cy m0 a u9.1 u9.2) := hD.sub [0, 1, 2, 3, 4, 5, 6, 7, 8, 9, 10, 11, 12] (by decide) rfl
            clear hz1 hk1 hPc hDc hFc hP1 hD1
            generalize H1 = H at hP hS ⊢
            have hP9 : va_P (dC, dI) vwCl (wMdl cy m0 a u9.1 u9.2) H := hP
            have hD9 : va_D A (wMdl cy m0 a u9.1 u9.2) := hD
            exact W.iret (v := r9) hx hb hr (fun t ht hW => ⟨⟨r9, u9, rfl, ⟨nI s9, N, Or.inr ⟨hfl, by rw [← hN hb1 0 (by omega), ← hN hb1 1 (by omega), ← hN hb1 2 (by omega), ← hN hb1 3 (by omega), ← hN hb1 4 (by omega), ← hN hb1 5 (by omega)]; exact hwp⟩⟩, by rw [ht]; exact hP9, hD9⟩, hS.F ht⟩) hS.2.2 dX5_proposeText_170
      · have hq5 : q < 5 := by rcases Nat.lt_or_ge q 5 with h | h; exact h; exact absurd (nI_le (a := 6) (b := q + 1) (by omega) (by omega)) c_21
        have hs9 : s9 ≤ 30 := by have := pst_end (R 7) L q; omega
        refine lv_iload_n hx hb dX5_proposeText_24 rfl (lv_at hl 1 rfl) ?_
        refine lv_if_eq (tgt := 85) hx hb dX5_proposeText_25 (by decide) (fun c_25 => ?_) (fun c_25 => ?_)
        · have hb0 := bool_if0 eok c_25
          have h5p : pst (R 7) L 5 = (false, s9) := by rw [pst_no hb0 5 hq, es]
          have hfl : flt (R 7) L = nI s9 := by rw [flt, h5p]; exact if_neg (fun h => Bool.false_ne_true h.1)
          refine lv_aload_n hx hb dX5_proposeText_85 rfl (lv_at hl 0 rfl) ?_
          refine lv_iload_n hx hb dX5_proposeText_86 rfl (lv_at hl 1 rfl) ?_
          refine lv_if_eq (tgt := 105) hx hb dX5_proposeText_87 (by decide) (fun c_87 => ?_) (fun h0 => absurd c_25 h0)
          refine lv_aload_n hx hb dX5_proposeText_105 rfl (lv_at hl 0 rfl) ?_
          refine va_get (D := (dC, dI)) (ci := 5) (v := .int (nI s9)) (C := RX5) (T := TX5) (N := 32) hx hb hts hin5 hown hK hP 0 rfl rfl 21 (by decide) f_127 (fun _ h9 => h9) rfl dX5_proposeText_106 ?_
          refine va_put (D := (dC, dI)) (ci := 5) (v := .int (nI s9)) (ty := .int) (C := RX5) (T := TX5) (N := 32) hx hb hts hin5 tyX5 tyX5_ok nmX5 hown hK hP hD hS 0 rfl rfl 9 (by decide) f_25 (fun _ h9 => h9) rfl (by decide +kernel) rfl rfl (Nat.le_of_ble_eq_true rfl) dX5_proposeText_109 (fun H locs hP hD hS => ?_)
          have hP : va_P (dC, dI) vwCl (wMdl cy m0 a (upd (upd (upd I 0 0) 9 (nI s9)) 21 (nI s9)) (upr R 20 N)) H := hP
          have hD : va_D A (wMdl cy m0 a (upd (upd (upd I 0 0) 9 (nI s9)) 21 (nI s9)) (upr R 20 N)) := hD
          refine lv_aload_n hx hb dX5_proposeText_112 rfl (lv_at hl 0 rfl) ?_
          refine lv_iconst (v := 0) hx hb dX5_proposeText_113 (by decide) ?_
          refine va_put (D := (dC, dI)) (ci := 5) (v := .int 0) (ty := .int) (C := RX5) (T := TX5) (N := 32) hx hb hts hin5 tyX5 tyX5_ok nmX5 hown hK hP hD hS 0 rfl rfl 8 (by decide) f_130 (fun _ h9 => h9) rfl (by decide +kernel) rfl rfl (Nat.le_of_ble_eq_true rfl) dX5_proposeText_114 (fun H locs hP hD hS => ?_)
          have hP : va_P (dC, dI) vwCl (wMdl cy m0 a (upd (upd (upd (upd I 0 0) 8 0) 9 (nI s9)) 21 (nI s9)) (upr R 20 N)) H := hP
          have hD : va_D A (wMdl cy m0 a (upd (upd (upd (upd I 0 0) 8 0) 9 (nI s9)) 21 (nI s9)) (upr R 20 N)) := hD
          refine lv_aload_n hx hb dX5_proposeText_117 rfl (lv_at hl 0 rfl) ?_
          refine va_get (D := (dC, dI)) (ci := 5) (v := .int (nI s9)) (C := RX5) (T := TX5) (N := 32) hx hb hts hin5 hown hK hP 0 rfl rfl 9 (by decide) f_25 (fun _ h9 => h9) rfl dX5_proposeText_118 ?_
          refine lv_if_lt (tgt := 130) hx hb dX5_proposeText_121 (by decide) (fun h0 => absurd h0 (nI_pos (by omega))) (fun c_121 => ?_)
          refine lv_aload_n hx hb dX5_proposeText_124 rfl (lv_at hl 0 rfl) ?_
          refine lv_iconst (v := 1) hx hb dX5_proposeText_125 (by decide) ?_
          have hPc := hP.sub (ws' := wMdl cy m0 a (upd (upd (upd (upd I 0 0) 8 0) 9 (nI s9)) 21 (nI s9)) (upr R 20 N)) [0, 1, 2, 3, 4, 5, 6, 7, 8, 9, 10, 11, 12] rfl
          have hDc := hD.sub (ws' := wMdl cy m0 a (upd (upd (upd (upd I 0 0) 8 0) 9 (nI s9)) 21 (nI s9)) (upr R 20 N)) [0, 1, 2, 3, 4, 5, 6, 7, 8, 9, 10, 11, 12] (by decide) rfl
          have hFc := va_free (wc := wMdl cy m0 a (upd (upd (upd (upd I 0 0) 8 0) 9 (nI s9)) 21 (nI s9)) (upr R 20 N)) hD hS hA [0, 1, 2, 3, 4, 5, 6, 7, 8, 9, 10, 11, 12] rfl
          refine va_calli (va_runV (As := [.int 1]) (rest := []) ⟨hx, hb, hml, hown, hts⟩ (c_X5_fails l dC dI cy H.size m0 a (upd (upd (upd (upd I 0 0) 8 0) 9 (nI s9)) 21 (nI s9)) (upr R 20 N) 1  ) (cwV 1 hts gX5_proposeText_X5_fails rfl rfl rfl (by decide +kernel) ⟨Nat.le_of_ble_eq_true rfl, Nat.le_of_ble_eq_true rfl⟩) ⟨bl_in, va_recv hK hPc (ci := 5) (q0 := 0) rfl rfl, pr_in hPc hE hDc⟩ rfl rfl hl.1 rfl (lv_room (Nat.le_of_ble_eq_true rfl)) dX5_proposeText_126 ⟨Nat.le_of_ble_eq_true rfl, Nat.le_of_ble_eq_true rfl⟩) hS (fun q _ h => hFc q h) hFc (fun r u t H1 locs ht hvm hw hB hz1 hk1 hS => ?_)
          obtain rfl := hw
          obtain ⟨hP1, hD1⟩ := hB
          rw [ht] at hP1
          obtain ⟨hP, hD⟩ := va_join (wr := []) (w1 := wMdl cy m0 a (upd (upd (upd (upd I 0 1) 8 0) 9 (nI s9)) 21 (nI s9)) (upr R 20 N)) hP hD [0, 1, 2, 3, 4, 5, 6, 7, 8, 9, 10, 11, 12] [] rfl rfl (by decide) (by decide) hk1 hFc hP1 hD1
          have hP : va_P (dC, dI) vwCl (wMdl cy m0 a (upd (upd (upd (upd I 0 1) 8 0) 9 (nI s9)) 21 (nI s9)) (upr R 20 N)) H1 := hP.sub [0, 1, 2, 3, 4, 5, 6, 7, 8, 9, 10, 11, 12] rfl
          have hD : va_D A (wMdl cy m0 a (upd (upd (upd (upd I 0 1) 8 0) 9 (nI s9)) 21 (nI s9)) (upr R 20 N)) := hD.sub [0, 1, 2, 3, 4, 5, 6, 7, 8, 9, 10, 11, 12] (by decide) rfl
          clear hz1 hk1 hPc hDc hFc hP1 hD1
          generalize H1 = H at hP hS ⊢
          have hP9 : va_P (dC, dI) vwCl (wMdl cy m0 a (upd (upd (upd (upd I 0 1) 8 0) 9 (nI s9)) 21 (nI s9)) (upr R 20 N)) H := hP
          have hD9 : va_D A (wMdl cy m0 a (upd (upd (upd (upd I 0 1) 8 0) 9 (nI s9)) 21 (nI s9)) (upr R 20 N)) := hD
          exact W.iret (v := 0) hx hb hr (fun t ht hW => ⟨⟨0, (upd (upd (upd (upd I 0 1) 8 0) 9 (nI s9)) 21 (nI s9), upr R 20 N), rfl, ⟨nI s9, N, Or.inl ⟨by rw [hfl]; exact nI_m (by omega), by rw [hfl]⟩⟩, by rw [ht]; exact hP9, hD9⟩, hS.F ht⟩) hS.2.2 dX5_proposeText_129
        · have hb1 := bool_if eok c_25
          refine lv_aload_n hx hb dX5_proposeText_28 rfl (lv_at hl 0 rfl) ?_
          refine vp_callSi (va_runV (As := []) (rest := []) ⟨hx, hb, hml, hown, hts⟩ (c_X5_here l dC dI cy m0 a (upd (upd I 0 0) 21 (nI s9)) (upr R 20 N) L s9 (by omega) (by omega) hI8 rfl) (cwV 0 hts gX5_proposeText_X5_here rfl rfl rfl (by decide +kernel) ⟨Nat.le_of_ble_eq_true rfl, Nat.le_of_ble_eq_true rfl⟩) ⟨bl_ro, va_recv hK hP (ci := 5) (q0 := 0) rfl rfl, pr_ro hP hE⟩ rfl rfl hl.1 rfl (lv_room (Nat.le_of_ble_eq_true rfl)) dX5_proposeText_29 ⟨Nat.le_of_ble_eq_true rfl, Nat.le_of_ble_eq_true rfl⟩).run (fun r e_r => ?_)
          subst e_r
          refine lv_topi (fun y_ ey_ => ?_)
          obtain rfl : y_ = hrr (R 7) L s9 := ey_
          refine lv_bipush (v := 44) hx hb dX5_proposeText_32 (by decide) ?_
          refine lv_icmp_ne (tgt := 41) hx hb dX5_proposeText_34 (by decide) (fun c_34 => ?_) (fun c_34 => ?_)
          · refine lv_iconst (v := 0) hx hb dX5_proposeText_41 (by decide) ?_
            refine lv_istore_n (lv' := [(1, .int 0), (0, .ref m0), (2, .int (nI (q + 1)))]) hx hb dX5_proposeText_42 rfl hl (by decide) rfl (fun ls hl => ?_)
            refine lv_aload_n hx hb dX5_proposeText_43 rfl (lv_at hl 1 rfl) ?_
            refine lv_dup hx hb dX5_proposeText_44 rfl ?_
            refine va_get (D := (dC, dI)) (ci := 5) (v := .int (nI s9)) (C := RX5) (T := TX5) (N := 32) hx hb hts hin5 hown hK hP 0 rfl rfl 21 (by decide) f_127 (fun _ h9 => h9) rfl dX5_proposeText_45 ?_
            refine lv_iload_n hx hb dX5_proposeText_48 rfl (lv_at hl 0 rfl) ?_
            refine lv_if_eq (tgt := 56) hx hb dX5_proposeText_49 (by decide) (fun _ => ?_) (fun h0 => absurd h0 (by decide))
            refine lv_iconst (v := 0) hx hb dX5_proposeText_56 (by decide) ?_
            refine lv_iadd hx hb dX5_proposeText_57 ?_
            refine lv_topi (fun y_ ey_ => ?_)
            obtain rfl : y_ = nI s9 := ey_.trans (Int32.add_zero _)
            refine va_put (D := (dC, dI)) (ci := 5) (v := .int (nI s9)) (ty := .int) (C := RX5) (T := TX5) (N := 32) hx hb hts hin5 tyX5 tyX5_ok nmX5 hown hK hP hD hS 0 rfl rfl 21 (by decide) f_127 (fun _ h9 => h9) rfl (by decide +kernel) rfl rfl (Nat.le_of_ble_eq_true rfl) dX5_proposeText_58 (fun H locs hP hD hS => ?_)
            have hP : va_P (dC, dI) vwCl (wMdl cy m0 a (upd (upd I 0 0) 21 (nI s9)) (upr R 20 N)) H := hP
            have hD : va_D A (wMdl cy m0 a (upd (upd I 0 0) 21 (nI s9)) (upr R 20 N)) := hD
            refine lv_iload_n hx hb dX5_proposeText_61 rfl (lv_at hl 0 rfl) ?_
            refine lv_if_eq (tgt := 77) hx hb dX5_proposeText_62 (by decide) (fun _ => ?_) (fun h0 => absurd h0 (by decide))
            refine lv_iconst (v := 0) hx hb dX5_proposeText_77 (by decide) ?_
            refine lv_istore_n (lv' := [(1, .int 0), (0, .ref m0), (2, .int (nI (q + 1)))]) hx hb dX5_proposeText_78 rfl hl (by decide) rfl (fun ls hl => ?_)
            refine lv_iinc (v := nI ((q + 1) + 1)) (lv' := [(2, .int (nI ((q + 1) + 1))), (1, .int 0), (0, .ref m0)]) hx hb dX5_proposeText_79 hl (k := 2) rfl (nI_1 _) (by decide) rfl (fun ls hl => ?_)
            refine lv_goto (tgt := 18) hx hb dX5_proposeText_82 (by decide) ?_
            exact ih18 (q + 1) _ _ _ ls (by omega) (by have e9 : pst (R 7) L (q + 1) = (false, s9) := (by simp only [pst]; rw [if_pos hb1, es, if_neg c_34]); rw [e9]; rfl) (by have e9 : pst (R 7) L (q + 1) = (false, s9) := (by simp only [pst]; rw [if_pos hb1, es, if_neg c_34]); rw [e9]) (fun h => by have e9 : pst (R 7) L (q + 1) = (false, s9) := (by simp only [pst]; rw [if_pos hb1, es, if_neg c_34]); rw [e9] at h; exact absurd h Bool.false_ne_true) (by omega) _ _ hP hD hS (lv_sub hl [2, 1, 0] rfl)
          · refine lv_iconst (v := 1) hx hb dX5_proposeText_37 (by decide) ?_
            refine lv_goto (tgt := 42) hx hb dX5_proposeText_38 (by decide) ?_
            refine lv_istore_n (lv' := [(1, .int 1), (0, .ref m0), (2, .int (nI (q + 1)))]) hx hb dX5_proposeText_42 rfl hl (by decide) rfl (fun ls hl => ?_)
            refine lv_aload_n hx hb dX5_proposeText_43 rfl (lv_at hl 1 rfl) ?_
            refine lv_dup hx hb dX5_proposeText_44 rfl ?_
            refine va_get (D := (dC, dI)) (ci := 5) (v := .int (nI s9)) (C := RX5) (T := TX5) (N := 32) hx hb hts hin5 hown hK hP 0 rfl rfl 21 (by decide) f_127 (fun _ h9 => h9) rfl dX5_proposeText_45 ?_
            refine lv_iload_n hx hb dX5_proposeText_48 rfl (lv_at hl 0 rfl) ?_
            refine lv_if_eq (tgt := 56) hx hb dX5_proposeText_49 (by decide) (fun h0 => absurd h0 (by decide)) (fun _ => ?_)
            refine lv_iconst (v := 1) hx hb dX5_proposeText_52 (by decide) ?_
            refine lv_goto (tgt := 57) hx hb dX5_proposeText_53 (by decide) ?_
            refine lv_iadd hx hb dX5_proposeText_57 ?_
            refine lv_topi (fun y_ ey_ => ?_)
            obtain rfl : y_ = nI (s9 + 1) := ey_.trans (nI_1 s9)
            refine va_put (D := (dC, dI)) (ci := 5) (v := .int (nI (s9 + 1))) (ty := .int) (C := RX5) (T := TX5) (N := 32) hx hb hts hin5 tyX5 tyX5_ok nmX5 hown hK hP hD hS 0 rfl rfl 21 (by decide) f_127 (fun _ h9 => h9) rfl (by decide +kernel) rfl rfl (Nat.le_of_ble_eq_true rfl) dX5_proposeText_58 (fun H locs hP hD hS => ?_)
            have hP : va_P (dC, dI) vwCl (wMdl cy m0 a (upd (upd I 0 0) 21 (nI (s9 + 1))) (upr R 20 N)) H := hP
            have hD : va_D A (wMdl cy m0 a (upd (upd I 0 0) 21 (nI (s9 + 1))) (upr R 20 N)) := hD
            refine lv_iload_n hx hb dX5_proposeText_61 rfl (lv_at hl 0 rfl) ?_
            refine lv_if_eq (tgt := 77) hx hb dX5_proposeText_62 (by decide) (fun h0 => absurd h0 (by decide)) (fun _ => ?_)
            refine lv_aload_n hx hb dX5_proposeText_65 rfl (lv_at hl 1 rfl) ?_
            refine lv_iload_n hx hb dX5_proposeText_66 rfl (lv_at hl 2 rfl) ?_
            have hPc := hP.sub (ws' := wMdl cy m0 a (upd (upd I 0 0) 21 (nI (s9 + 1))) (upr R 20 N)) [0, 1, 2, 3, 4, 5, 6, 7, 8, 9, 10, 11, 12] rfl
            have hDc := hD.sub (ws' := wMdl cy m0 a (upd (upd I 0 0) 21 (nI (s9 + 1))) (upr R 20 N)) [0, 1, 2, 3, 4, 5, 6, 7, 8, 9, 10, 11, 12] (by decide) rfl
            have hFc := va_free (wc := wMdl cy m0 a (upd (upd I 0 0) 21 (nI (s9 + 1))) (upr R 20 N)) hD hS hA [0, 1, 2, 3, 4, 5, 6, 7, 8, 9, 10, 11, 12] rfl
            refine va_calli (va_runV (As := [.int (nI (q + 1))]) (rest := []) ⟨hx, hb, hml, hown, hts⟩ (c_X5_readsNumber l dC dI cy H.size m0 a (upd (upd I 0 0) 21 (nI (s9 + 1))) (upr R 20 N) L (s9 + 1) (q + 1) (by omega) (by omega) (by omega) hI8 rfl) (cwV 1 hts gX5_proposeText_X5_readsNumber rfl rfl rfl (by decide +kernel) ⟨Nat.le_of_ble_eq_true rfl, Nat.le_of_ble_eq_true rfl⟩) ⟨bl_in, va_recv hK hPc (ci := 5) (q0 := 0) rfl rfl, pr_in hPc hE hDc⟩ rfl rfl hl.1 rfl (lv_room (Nat.le_of_ble_eq_true rfl)) dX5_proposeText_67 ⟨Nat.le_of_ble_eq_true rfl, Nat.le_of_ble_eq_true rfl⟩) hS (fun q _ h => hFc q h) hFc (fun r u t H1 locs ht hvm hw hB hz1 hk1 hS => ?_)
            obtain rfl := hw
            obtain ⟨hP1, hD1⟩ := hB
            rw [ht] at hP1
            obtain ⟨hP, hD⟩ := va_join (wr := []) (w1 := wMdl cy m0 a (upd (upd I 0 0) 21 (nI ((s9 + 1) + rlen (R 7) L (s9 + 1)))) (upr R 20 (upd N (q + 1) (rval (R 7) L (s9 + 1))))) hP hD [0, 1, 2, 3, 4, 5, 6, 7, 8, 9, 10, 11, 12] [] rfl rfl (by decide) (by decide) hk1 hFc hP1 hD1
            have hP : va_P (dC, dI) vwCl (wMdl cy m0 a (upd (upd I 0 0) 21 (nI ((s9 + 1) + rlen (R 7) L (s9 + 1)))) (upr R 20 (upd N (q + 1) (rval (R 7) L (s9 + 1))))) H1 := hP.sub [0, 1, 2, 3, 4, 5, 6, 7, 8, 9, 10, 11, 12] rfl
            have hD : va_D A (wMdl cy m0 a (upd (upd I 0 0) 21 (nI ((s9 + 1) + rlen (R 7) L (s9 + 1)))) (upr R 20 (upd N (q + 1) (rval (R 7) L (s9 + 1))))) := hD.sub [0, 1, 2, 3, 4, 5, 6, 7, 8, 9, 10, 11, 12] (by decide) rfl
            clear hz1 hk1 hPc hDc hFc hP1 hD1
            generalize H1 = H at hP hS ⊢
            refine lv_topi (fun y_ ey_ => ?_)
            obtain rfl : y_ = if rlen (R 7) L (s9 + 1) = 0 then 0 else 1 := ey_
            refine lv_if_eq (tgt := 77) hx hb dX5_proposeText_70 (by decide) (fun c_70 => ?_) (fun c_70 => ?_)
            · have g70 := b01.mp c_70
              refine lv_iconst (v := 0) hx hb dX5_proposeText_77 (by decide) ?_
              refine lv_istore_n (lv' := [(1, .int 0), (0, .ref m0), (2, .int (nI (q + 1)))]) hx hb dX5_proposeText_78 rfl hl (by decide) rfl (fun ls hl => ?_)
              refine lv_iinc (v := nI ((q + 1) + 1)) (lv' := [(2, .int (nI ((q + 1) + 1))), (1, .int 0), (0, .ref m0)]) hx hb dX5_proposeText_79 hl (k := 2) rfl (nI_1 _) (by decide) rfl (fun ls hl => ?_)
              refine lv_goto (tgt := 18) hx hb dX5_proposeText_82 (by decide) ?_
              exact ih18 (q + 1) _ _ _ ls (by omega) (by have e9 : pst (R 7) L (q + 1) = (decide (0 < rlen (R 7) L (s9 + 1)), s9 + 1 + rlen (R 7) L (s9 + 1)) := (by simp only [pst]; rw [if_pos hb1, es, if_pos c_34]); rw [e9]; simp [g70]) (by have e9 : pst (R 7) L (q + 1) = (decide (0 < rlen (R 7) L (s9 + 1)), s9 + 1 + rlen (R 7) L (s9 + 1)) := (by simp only [pst]; rw [if_pos hb1, es, if_pos c_34]); rw [e9]) (fun h => by have e9 : pst (R 7) L (q + 1) = (decide (0 < rlen (R 7) L (s9 + 1)), s9 + 1 + rlen (R 7) L (s9 + 1)) := (by simp only [pst]; rw [if_pos hb1, es, if_pos c_34]); rw [e9] at h; simp [g70] at h) (by omega) _ _ hP hD hS (lv_sub hl [2, 1, 0] rfl)
            · have g70 : ¬ rlen (R 7) L (s9 + 1) = 0 := fun h => c_70 (b01.mpr h)
              refine lv_iconst (v := 1) hx hb dX5_proposeText_73 (by decide) ?_
              refine lv_goto (tgt := 78) hx hb dX5_proposeText_74 (by decide) ?_
              refine lv_istore_n (lv' := [(1, .int 1), (0, .ref m0), (2, .int (nI (q + 1)))]) hx hb dX5_proposeText_78 rfl hl (by decide) rfl (fun ls hl => ?_)
              refine lv_iinc (v := nI ((q + 1) + 1)) (lv' := [(2, .int (nI ((q + 1) + 1))), (1, .int 1), (0, .ref m0)]) hx hb dX5_proposeText_79 hl (k := 2) rfl (nI_1 _) (by decide) rfl (fun ls hl => ?_)
              refine lv_goto (tgt := 18) hx hb dX5_proposeText_82 (by decide) ?_
              exact ih18 (q + 1) _ _ _ ls (by omega) (by have e9 : pst (R 7) L (q + 1) = (decide (0 < rlen (R 7) L (s9 + 1)), s9 + 1 + rlen (R 7) L (s9 + 1)) := (by simp only [pst]; rw [if_pos hb1, es, if_pos c_34]); rw [e9]; simp [Nat.pos_iff_ne_zero, g70]) (by have e9 : pst (R 7) L (q + 1) = (decide (0 < rlen (R 7) L (s9 + 1)), s9 + 1 + rlen (R 7) L (s9 + 1)) := (by simp only [pst]; rw [if_pos hb1, es, if_pos c_34]); rw [e9]) (fun _ j hj => by rcases Nat.lt_or_ge j (q + 1) with z | z; rw [pk_un (by omega)]; exact hN hb1 j (by omega); rw [show j = q + 1 by omega, pk_us, nv, psp, es]) (by omega) _ _ hP hD hS (lv_sub hl [2, 1, 0] rfl)
  exact loop18 6 0 _ _ _ ls (by omega) (by simp only [pst]; by_cases h : rlen (R 7) L 0 = 0 <;> simp [h, Nat.pos_iff_ne_zero]) (by simp only [pst]; omega) (fun _ j hj => by rw [show j = 0 by omega, pk_us]; rfl) (by omega) _ _ hP hD hS (lv_sub hl [2, 1, 0] rfl)

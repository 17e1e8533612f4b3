/-! PART 42: History, taking back -/
set_option maxHeartbeats 1000000 in
set_option maxRecDepth 100000 in
/-- the latest of the ring, from place 0 -/
theorem c_X1_takeBackInto_0 (l : Launch) (dC : Nat → ClassId) (dI : Nat → Nat → Nat) (cy : Nat → ClassId) (sz : Nat) (h0 rg : Nat) (kk : Nat) (cs : Nat → Nat) (bs : Nat → Nat → Nat) (RG : Nat → vG) (rn : Nat → Nat) (RS : Nat → Int32) (c1 : Nat) (b1 : Nat → Nat) (G1 : vG) (n1 : Nat) (sc1 : Int32) (hn1 : rn 5 ≤ 8) : Met l yX1_takeBackInto wsX1_takeBackInto ({ frames := 2, cells := 0, slots := 0, locals := 45 }) (va_Pc [.ref h0, .ref c1] (pIn dC dI cy ([(h0, .inr (1, [.ref rg, .int (nI 0), .int (nI (kk + 1))])), (rg, .inl ((cy 1), 6, .inr (.inr (.inr (.inr (fun j => some (cs j)))))))] ++ (wCfg cy (cs 0) (bs 0) (RG 0) (nI (rn 0)) (RS 0) ++ (wCfg cy (cs 1) (bs 1) (RG 1) (nI (rn 1)) (RS 1) ++ (wCfg cy (cs 2) (bs 2) (RG 2) (nI (rn 2)) (RS 2) ++ (wCfg cy (cs 3) (bs 3) (RG 3) (nI (rn 3)) (RS 3) ++ (wCfg cy (cs 4) (bs 4) (RG 4) (nI (rn 4)) (RS 4) ++ (wCfg cy (cs 5) (bs 5) (RG 5) (nI (rn 5)) (RS 5) ++ (wCfg cy c1 b1 G1 (nI n1) sc1)))))))) sz)) (va_Qv (fun _ => True) (fun (u : Unit) t => va_P (dC, dI) vwCl (wHis cy h0 rg 5 kk cs bs RG rn RS ++ wCfg cy c1 b1 (cpG G1 (RG 5) (rn 5)) (nI (rn 5)) (RS 5)) t.heap ∧ va_D (va_A ([(h0, .inr (1, [.ref rg, .int (nI 0), .int (nI (kk + 1))])), (rg, .inl ((cy 1), 6, .inr (.inr (.inr (.inr (fun j => some (cs j)))))))] ++ (wCfg cy (cs 0) (bs 0) (RG 0) (nI (rn 0)) (RS 0) ++ (wCfg cy (cs 1) (bs 1) (RG 1) (nI (rn 1)) (RS 1) ++ (wCfg cy (cs 2) (bs 2) (RG 2) (nI (rn 2)) (RS 2) ++ (wCfg cy (cs 3) (bs 3) (RG 3) (nI (rn 3)) (RS 3) ++ (wCfg cy (cs 4) (bs 4) (RG 4) (nI (rn 4)) (RS 4) ++ (wCfg cy (cs 5) (bs 5) (RG 5) (nI (rn 5)) (RS 5) ++ (wCfg cy c1 b1 G1 (nI n1) sc1)))))))) sz) (wHis cy h0 rg 5 kk cs bs RG rn RS ++ wCfg cy c1 b1 (cpG G1 (RG 5) (rn 5)) (nI (rn 5)) (RS 5))) (va_A ([(h0, .inr (1, [.ref rg, .int (nI 0), .int (nI (kk + 1))])), (rg, .inl ((cy 1), 6, .inr (.inr (.inr (.inr (fun j => some (cs j)))))))] ++ (wCfg cy (cs 0) (bs 0) (RG 0) (nI (rn 0)) (RS 0) ++ (wCfg cy (cs 1) (bs 1) (RG 1) (nI (rn 1)) (RS 1) ++ (wCfg cy (cs 2) (bs 2) (RG 2) (nI (rn 2)) (RS 2) ++ (wCfg cy (cs 3) (bs 3) (RG 3) (nI (rn 3)) (RS 3) ++ (wCfg cy (cs 4) (bs 4) (RG 4) (nI (rn 4)) (RS 4) ++ (wCfg cy (cs 5) (bs 5) (RG 5) (nI (rn 5)) (RS 5) ++ (wCfg cy c1 b1 G1 (nI n1) sc1)))))))) sz)) 0 0 (va_A ([(h0, .inr (1, [.ref rg, .int (nI 0), .int (nI (kk + 1))])), (rg, .inl ((cy 1), 6, .inr (.inr (.inr (.inr (fun j => some (cs j)))))))] ++ (wCfg cy (cs 0) (bs 0) (RG 0) (nI (rn 0)) (RS 0) ++ (wCfg cy (cs 1) (bs 1) (RG 1) (nI (rn 1)) (RS 1) ++ (wCfg cy (cs 2) (bs 2) (RG 2) (nI (rn 2)) (RS 2) ++ (wCfg cy (cs 3) (bs 3) (RG 3) (nI (rn 3)) (RS 3) ++ (wCfg cy (cs 4) (bs 4) (RG 4) (nI (rn 4)) (RS 4) ++ (wCfg cy (cs 5) (bs 5) (RG 5) (nI (rn 5)) (RS 5) ++ (wCfg cy c1 b1 G1 (nI n1) sc1)))))))) sz) := by
  refine Met.ofW (cc := cX1_takeBackInto) (maxL := 2) (ret := none) (by decide) rfl ?_
  intro p e s m args below meth c s₁ B hml hv
  obtain ⟨rfl, hsz, hP, hE, hD0⟩ := hv
  have hK := hE.1
  subst hsz
  have hD := hD0.self (sz := s.heap.size)
  generalize hAe : va_A ([(h0, .inr (1, [.ref rg, .int (nI 0), .int (nI (kk + 1))])), (rg, .inl ((cy 1), 6, .inr (.inr (.inr (.inr (fun j => some (cs j)))))))] ++ (wCfg cy (cs 0) (bs 0) (RG 0) (nI (rn 0)) (RS 0) ++ (wCfg cy (cs 1) (bs 1) (RG 1) (nI (rn 1)) (RS 1) ++ (wCfg cy (cs 2) (bs 2) (RG 2) (nI (rn 2)) (RS 2) ++ (wCfg cy (cs 3) (bs 3) (RG 3) (nI (rn 3)) (RS 3) ++ (wCfg cy (cs 4) (bs 4) (RG 4) (nI (rn 4)) (RS 4) ++ (wCfg cy (cs 5) (bs 5) (RG 5) (nI (rn 5)) (RS 5) ++ (wCfg cy c1 b1 G1 (nI n1) sc1)))))))) s.heap.size = A at hD ⊢
  have hA : ∀ q : Nat, s.heap.size ≤ q → A q := fun q h => by rw [← hAe]; exact Or.inr h
  have hS : va_S A s.heap s.heap [] := va_S.rf
  have hP : va_P (dC, dI) vwCl ([(h0, .inr (1, [.ref rg, .int (nI 0), .int (nI (kk + 1))])), (rg, .inl ((cy 1), 6, .inr (.inr (.inr (.inr (fun j => some (cs j)))))))] ++ (wCfg cy (cs 0) (bs 0) (RG 0) (nI (rn 0)) (RS 0) ++ (wCfg cy (cs 1) (bs 1) (RG 1) (nI (rn 1)) (RS 1) ++ (wCfg cy (cs 2) (bs 2) (RG 2) (nI (rn 2)) (RS 2) ++ (wCfg cy (cs 3) (bs 3) (RG 3) (nI (rn 3)) (RS 3) ++ (wCfg cy (cs 4) (bs 4) (RG 4) (nI (rn 4)) (RS 4) ++ (wCfg cy (cs 5) (bs 5) (RG 5) (nI (rn 5)) (RS 5) ++ (wCfg cy c1 b1 G1 (nI n1) sc1)))))))) s.heap := hP
  have hx := B.exec
  have hb := B.bytes
  have hr := B.returns
  have hts := atoms_spec (ws := wsX1_takeBackInto) B.pre
  have hown : s.vm.findClass RX1 = some m.cls := findClass_of_methodNamed B.named
  have hlocks := B.notSynchronized
  have hin1 : ∀ w ∈ u_ws RX1 TX1 3, w ∈ wsX1_takeBackInto := by decide +kernel
  have f_11 := hts (.fieldLink RX1 11 "DeadlineAdmission$History" "ring" "[LDeadlineAdmission$Configuration;") (by decide +kernel)
  have f_18 := hts (.fieldLink RX1 18 "DeadlineAdmission$History" "next" "I") (by decide +kernel)
  have f_26 := hts (.fieldLink RX1 26 "DeadlineAdmission$History" "kept" "I") (by decide +kernel)
  have hl := lv_entry ([.ref h0, .ref c1]) (n := 2) (Nat.le_of_ble_eq_true rfl)
  rw [lg_entry_eq]
  generalize (lg_sl ([.ref h0, .ref c1]) ++ List.replicate (2 - (lg_sl ([.ref h0, .ref c1])).length) Slot.unset).toArray = ls at hl ⊢
  have hl : lv_has ls 2 [(0, .ref h0), (1, .ref c1)] := hl
  refine lv_aload_n hx hb dX1_takeBackInto_0 rfl (lv_at hl 0 rfl) ?_
  refine lv_aload_n hx hb dX1_takeBackInto_1 rfl (lv_at hl 0 rfl) ?_
  refine va_get (D := (dC, dI)) (ci := 1) (v := .int (nI 0)) (C := RX1) (T := TX1) (N := 3) hx hb hts hin1 hown hK hP 0 rfl rfl 1 (by decide) f_18 (fun _ h9 => h9) rfl dX1_takeBackInto_2 ?_
  refine lv_bipush (v := 6) hx hb dX1_takeBackInto_5 (by decide) ?_
  refine lv_iadd hx hb dX1_takeBackInto_7 ?_
  refine lv_iconst (v := 1) hx hb dX1_takeBackInto_8 (by decide) ?_
  refine lv_isub hx hb dX1_takeBackInto_9 ?_
  refine lv_bipush (v := 6) hx hb dX1_takeBackInto_10 (by decide) ?_
  refine lv_irem hx hb dX1_takeBackInto_12 (by decide) ?_
  refine lv_topi (fun y_ ey_ => ?_)
  obtain rfl : y_ = nI 5 := ey_.trans (by decide)
  refine va_put (D := (dC, dI)) (ci := 1) (v := .int (nI 5)) (ty := .int) (C := RX1) (T := TX1) (N := 3) hx hb hts hin1 tyX1 tyX1_ok nmX1 hown hK hP hD hS 0 rfl rfl 1 (by decide) f_18 (fun _ h9 => h9) rfl (by decide +kernel) rfl rfl (Nat.le_of_ble_eq_true rfl) dX1_takeBackInto_13 (fun H locs hP hD hS => ?_)
  have hP : va_P (dC, dI) vwCl ([(h0, .inr (1, [.ref rg, .int (nI 5), .int (nI (kk + 1))])), (rg, .inl ((cy 1), 6, .inr (.inr (.inr (.inr (fun j => some (cs j)))))))] ++ (wCfg cy (cs 0) (bs 0) (RG 0) (nI (rn 0)) (RS 0) ++ (wCfg cy (cs 1) (bs 1) (RG 1) (nI (rn 1)) (RS 1) ++ (wCfg cy (cs 2) (bs 2) (RG 2) (nI (rn 2)) (RS 2) ++ (wCfg cy (cs 3) (bs 3) (RG 3) (nI (rn 3)) (RS 3) ++ (wCfg cy (cs 4) (bs 4) (RG 4) (nI (rn 4)) (RS 4) ++ (wCfg cy (cs 5) (bs 5) (RG 5) (nI (rn 5)) (RS 5) ++ (wCfg cy c1 b1 G1 (nI n1) sc1)))))))) H := hP
  have hD : va_D A ([(h0, .inr (1, [.ref rg, .int (nI 5), .int (nI (kk + 1))])), (rg, .inl ((cy 1), 6, .inr (.inr (.inr (.inr (fun j => some (cs j)))))))] ++ (wCfg cy (cs 0) (bs 0) (RG 0) (nI (rn 0)) (RS 0) ++ (wCfg cy (cs 1) (bs 1) (RG 1) (nI (rn 1)) (RS 1) ++ (wCfg cy (cs 2) (bs 2) (RG 2) (nI (rn 2)) (RS 2) ++ (wCfg cy (cs 3) (bs 3) (RG 3) (nI (rn 3)) (RS 3) ++ (wCfg cy (cs 4) (bs 4) (RG 4) (nI (rn 4)) (RS 4) ++ (wCfg cy (cs 5) (bs 5) (RG 5) (nI (rn 5)) (RS 5) ++ (wCfg cy c1 b1 G1 (nI n1) sc1)))))))) := hD
  refine lv_aload_n hx hb dX1_takeBackInto_16 rfl (lv_at hl 0 rfl) ?_
  refine lv_dup hx hb dX1_takeBackInto_17 rfl ?_
  refine va_get (D := (dC, dI)) (ci := 1) (v := .int (nI (kk + 1))) (C := RX1) (T := TX1) (N := 3) hx hb hts hin1 hown hK hP 0 rfl rfl 2 (by decide) f_26 (fun _ h9 => h9) rfl dX1_takeBackInto_18 ?_
  refine lv_iconst (v := 1) hx hb dX1_takeBackInto_21 (by decide) ?_
  refine lv_isub hx hb dX1_takeBackInto_22 ?_
  refine lv_topi (fun y_ ey_ => ?_)
  obtain rfl : y_ = nI kk := ey_.trans (nI_pred kk)
  refine va_put (D := (dC, dI)) (ci := 1) (v := .int (nI kk)) (ty := .int) (C := RX1) (T := TX1) (N := 3) hx hb hts hin1 tyX1 tyX1_ok nmX1 hown hK hP hD hS 0 rfl rfl 2 (by decide) f_26 (fun _ h9 => h9) rfl (by decide +kernel) rfl rfl (Nat.le_of_ble_eq_true rfl) dX1_takeBackInto_23 (fun H locs hP hD hS => ?_)
  have hP : va_P (dC, dI) vwCl ([(h0, .inr (1, [.ref rg, .int (nI 5), .int (nI kk)])), (rg, .inl ((cy 1), 6, .inr (.inr (.inr (.inr (fun j => some (cs j)))))))] ++ (wCfg cy (cs 0) (bs 0) (RG 0) (nI (rn 0)) (RS 0) ++ (wCfg cy (cs 1) (bs 1) (RG 1) (nI (rn 1)) (RS 1) ++ (wCfg cy (cs 2) (bs 2) (RG 2) (nI (rn 2)) (RS 2) ++ (wCfg cy (cs 3) (bs 3) (RG 3) (nI (rn 3)) (RS 3) ++ (wCfg cy (cs 4) (bs 4) (RG 4) (nI (rn 4)) (RS 4) ++ (wCfg cy (cs 5) (bs 5) (RG 5) (nI (rn 5)) (RS 5) ++ (wCfg cy c1 b1 G1 (nI n1) sc1)))))))) H := hP
  have hD : va_D A ([(h0, .inr (1, [.ref rg, .int (nI 5), .int (nI kk)])), (rg, .inl ((cy 1), 6, .inr (.inr (.inr (.inr (fun j => some (cs j)))))))] ++ (wCfg cy (cs 0) (bs 0) (RG 0) (nI (rn 0)) (RS 0) ++ (wCfg cy (cs 1) (bs 1) (RG 1) (nI (rn 1)) (RS 1) ++ (wCfg cy (cs 2) (bs 2) (RG 2) (nI (rn 2)) (RS 2) ++ (wCfg cy (cs 3) (bs 3) (RG 3) (nI (rn 3)) (RS 3) ++ (wCfg cy (cs 4) (bs 4) (RG 4) (nI (rn 4)) (RS 4) ++ (wCfg cy (cs 5) (bs 5) (RG 5) (nI (rn 5)) (RS 5) ++ (wCfg cy c1 b1 G1 (nI n1) sc1)))))))) := hD
  refine lv_aload_n hx hb dX1_takeBackInto_26 rfl (lv_at hl 1 rfl) ?_
  refine lv_aload_n hx hb dX1_takeBackInto_27 rfl (lv_at hl 0 rfl) ?_
  refine va_get (D := (dC, dI)) (ci := 1) (v := .ref rg) (C := RX1) (T := TX1) (N := 3) hx hb hts hin1 hown hK hP 0 rfl rfl 0 (by decide) f_11 (fun _ h9 => h9) rfl dX1_takeBackInto_28 ?_
  refine lv_aload_n hx hb dX1_takeBackInto_31 rfl (lv_at hl 0 rfl) ?_
  refine va_get (D := (dC, dI)) (ci := 1) (v := .int (nI 5)) (C := RX1) (T := TX1) (N := 3) hx hb hts hin1 hown hK hP 0 rfl rfl 1 (by decide) f_18 (fun _ h9 => h9) rfl dX1_takeBackInto_32 ?_
  refine wA_ald (q := (cs 5)) hx hb hK hP 1 1 rfl rfl 5 rfl (by omega) (by decide) rfl dX1_takeBackInto_35 ?_
  have hPc := hP.sub (ws' := wCfg cy c1 b1 G1 (nI n1) sc1 ++ (wCfg cy (cs 5) (bs 5) (RG 5) (nI (rn 5)) (RS 5))) [50, 51, 52, 53, 54, 55, 56, 57, 42, 43, 44, 45, 46, 47, 48, 49] rfl
  have hDc := hD.sub (ws' := wCfg cy c1 b1 G1 (nI n1) sc1 ++ (wCfg cy (cs 5) (bs 5) (RG 5) (nI (rn 5)) (RS 5))) [50, 51, 52, 53, 54, 55, 56, 57, 42, 43, 44, 45, 46, 47, 48, 49] (by decide) rfl
  have hFc := va_free (wc := wCfg cy c1 b1 G1 (nI n1) sc1 ++ (wCfg cy (cs 5) (bs 5) (RG 5) (nI (rn 5)) (RS 5))) hD hS hA [50, 51, 52, 53, 54, 55, 56, 57, 42, 43, 44, 45, 46, 47, 48, 49] rfl
  refine va_callv (va_runV (As := [.ref (cs 5)]) (rest := []) ⟨hx, hb, hml, hown, hts⟩ (c_X0_copyFrom l dC dI cy H.size c1 b1 G1 (nI n1) sc1 (cs 5) (bs 5) (RG 5) (rn 5) hn1 (RS 5)) (cwV 1 hts gX1_takeBackInto_X0_copyFrom rfl rfl rfl (by decide +kernel) ⟨Nat.le_of_ble_eq_true rfl, Nat.le_of_ble_eq_true rfl⟩) ⟨bl_in, va_recv hK hPc (ci := 0) (q0 := 0) rfl rfl, pr_in hPc hE hDc⟩ rfl rfl hl.1 rfl (lv_room (Nat.le_of_ble_eq_true rfl)) dX1_takeBackInto_36 ⟨Nat.le_of_ble_eq_true rfl, Nat.le_of_ble_eq_true rfl⟩) hS (fun q _ h => hFc q h) hFc (fun u t H1 locs ht hvm hw hB hz1 hk1 hS => ?_)
  obtain ⟨hP1, hD1⟩ := hB
  rw [ht] at hP1
  obtain ⟨hP, hD⟩ := va_join (wr := [(h0, .inr (1, [.ref rg, .int (nI 5), .int (nI kk)])), (rg, .inl ((cy 1), 6, .inr (.inr (.inr (.inr (fun j => some (cs j)))))))] ++ (wCfg cy (cs 0) (bs 0) (RG 0) (nI (rn 0)) (RS 0) ++ (wCfg cy (cs 1) (bs 1) (RG 1) (nI (rn 1)) (RS 1) ++ (wCfg cy (cs 2) (bs 2) (RG 2) (nI (rn 2)) (RS 2) ++ (wCfg cy (cs 3) (bs 3) (RG 3) (nI (rn 3)) (RS 3) ++ (wCfg cy (cs 4) (bs 4) (RG 4) (nI (rn 4)) (RS 4))))))) (w1 := wCfg cy c1 b1 (cpG G1 (RG 5) (rn 5)) (nI (rn 5)) (RS 5) ++ (wCfg cy (cs 5) (bs 5) (RG 5) (nI (rn 5)) (RS 5))) hP hD [50, 51, 52, 53, 54, 55, 56, 57, 42, 43, 44, 45, 46, 47, 48, 49] [0, 1, 2, 3, 4, 5, 6, 7, 8, 9, 10, 11, 12, 13, 14, 15, 16, 17, 18, 19, 20, 21, 22, 23, 24, 25, 26, 27, 28, 29, 30, 31, 32, 33, 34, 35, 36, 37, 38, 39, 40, 41] rfl rfl (by decide) (by decide) hk1 hFc hP1 hD1
  have hP : va_P (dC, dI) vwCl ([(h0, .inr (1, [.ref rg, .int (nI 5), .int (nI kk)])), (rg, .inl ((cy 1), 6, .inr (.inr (.inr (.inr (fun j => some (cs j)))))))] ++ (wCfg cy (cs 0) (bs 0) (RG 0) (nI (rn 0)) (RS 0) ++ (wCfg cy (cs 1) (bs 1) (RG 1) (nI (rn 1)) (RS 1) ++ (wCfg cy (cs 2) (bs 2) (RG 2) (nI (rn 2)) (RS 2) ++ (wCfg cy (cs 3) (bs 3) (RG 3) (nI (rn 3)) (RS 3) ++ (wCfg cy (cs 4) (bs 4) (RG 4) (nI (rn 4)) (RS 4) ++ (wCfg cy (cs 5) (bs 5) (RG 5) (nI (rn 5)) (RS 5) ++ (wCfg cy c1 b1 (cpG G1 (RG 5) (rn 5)) (nI (rn 5)) (RS 5))))))))) H1 := hP.sub [0, 1, 2, 3, 4, 5, 6, 7, 8, 9, 10, 11, 12, 13, 14, 15, 16, 17, 18, 19, 20, 21, 22, 23, 24, 25, 26, 27, 28, 29, 30, 31, 32, 33, 34, 35, 36, 37, 38, 39, 40, 41, 50, 51, 52, 53, 54, 55, 56, 57, 42, 43, 44, 45, 46, 47, 48, 49] rfl
  have hD : va_D A ([(h0, .inr (1, [.ref rg, .int (nI 5), .int (nI kk)])), (rg, .inl ((cy 1), 6, .inr (.inr (.inr (.inr (fun j => some (cs j)))))))] ++ (wCfg cy (cs 0) (bs 0) (RG 0) (nI (rn 0)) (RS 0) ++ (wCfg cy (cs 1) (bs 1) (RG 1) (nI (rn 1)) (RS 1) ++ (wCfg cy (cs 2) (bs 2) (RG 2) (nI (rn 2)) (RS 2) ++ (wCfg cy (cs 3) (bs 3) (RG 3) (nI (rn 3)) (RS 3) ++ (wCfg cy (cs 4) (bs 4) (RG 4) (nI (rn 4)) (RS 4) ++ (wCfg cy (cs 5) (bs 5) (RG 5) (nI (rn 5)) (RS 5) ++ (wCfg cy c1 b1 (cpG G1 (RG 5) (rn 5)) (nI (rn 5)) (RS 5))))))))) := hD.sub [0, 1, 2, 3, 4, 5, 6, 7, 8, 9, 10, 11, 12, 13, 14, 15, 16, 17, 18, 19, 20, 21, 22, 23, 24, 25, 26, 27, 28, 29, 30, 31, 32, 33, 34, 35, 36, 37, 38, 39, 40, 41, 50, 51, 52, 53, 54, 55, 56, 57, 42, 43, 44, 45, 46, 47, 48, 49] (by decide) rfl
  clear hz1 hk1 hPc hDc hFc hP1 hD1
  generalize H1 = H at hP hS ⊢
  have hP9 : va_P (dC, dI) vwCl (wHis cy h0 rg 5 kk cs bs RG rn RS ++ wCfg cy c1 b1 (cpG G1 (RG 5) (rn 5)) (nI (rn 5)) (RS 5)) H := hP
  have hD9 : va_D A (wHis cy h0 rg 5 kk cs bs RG rn RS ++ wCfg cy c1 b1 (cpG G1 (RG 5) (rn 5)) (nI (rn 5)) (RS 5)) := hD
  exact W.vret hx hb hr (fun t ht hW => ⟨⟨(), rfl, trivial, by rw [ht]; exact hP9, hD9⟩, hS.F ht⟩) hS.2.2 dX1_takeBackInto_39
set_option maxHeartbeats 1000000 in
set_option maxRecDepth 100000 in
/-- the latest of the ring, from place 1 -/
theorem c_X1_takeBackInto_1 (l : Launch) (dC : Nat → ClassId) (dI : Nat → Nat → Nat) (cy : Nat → ClassId) (sz : Nat) (h0 rg : Nat) (kk : Nat) (cs : Nat → Nat) (bs : Nat → Nat → Nat) (RG : Nat → vG) (rn : Nat → Nat) (RS : Nat → Int32) (c1 : Nat) (b1 : Nat → Nat) (G1 : vG) (n1 : Nat) (sc1 : Int32) (hn1 : rn 0 ≤ 8) : Met l yX1_takeBackInto wsX1_takeBackInto ({ frames := 2, cells := 0, slots := 0, locals := 45 }) (va_Pc [.ref h0, .ref c1] (pIn dC dI cy ([(h0, .inr (1, [.ref rg, .int (nI 1), .int (nI (kk + 1))])), (rg, .inl ((cy 1), 6, .inr (.inr (.inr (.inr (fun j => some (cs j)))))))] ++ (wCfg cy (cs 0) (bs 0) (RG 0) (nI (rn 0)) (RS 0) ++ (wCfg cy (cs 1) (bs 1) (RG 1) (nI (rn 1)) (RS 1) ++ (wCfg cy (cs 2) (bs 2) (RG 2) (nI (rn 2)) (RS 2) ++ (wCfg cy (cs 3) (bs 3) (RG 3) (nI (rn 3)) (RS 3) ++ (wCfg cy (cs 4) (bs 4) (RG 4) (nI (rn 4)) (RS 4) ++ (wCfg cy (cs 5) (bs 5) (RG 5) (nI (rn 5)) (RS 5) ++ (wCfg cy c1 b1 G1 (nI n1) sc1)))))))) sz)) (va_Qv (fun _ => True) (fun (u : Unit) t => va_P (dC, dI) vwCl (wHis cy h0 rg 0 kk cs bs RG rn RS ++ wCfg cy c1 b1 (cpG G1 (RG 0) (rn 0)) (nI (rn 0)) (RS 0)) t.heap ∧ va_D (va_A ([(h0, .inr (1, [.ref rg, .int (nI 1), .int (nI (kk + 1))])), (rg, .inl ((cy 1), 6, .inr (.inr (.inr (.inr (fun j => some (cs j)))))))] ++ (wCfg cy (cs 0) (bs 0) (RG 0) (nI (rn 0)) (RS 0) ++ (wCfg cy (cs 1) (bs 1) (RG 1) (nI (rn 1)) (RS 1) ++ (wCfg cy (cs 2) (bs 2) (RG 2) (nI (rn 2)) (RS 2) ++ (wCfg cy (cs 3) (bs 3) (RG 3) (nI (rn 3)) (RS 3) ++ (wCfg cy (cs 4) (bs 4) (RG 4) (nI (rn 4)) (RS 4) ++ (wCfg cy (cs 5) (bs 5) (RG 5) (nI (rn 5)) (RS 5) ++ (wCfg cy c1 b1 G1 (nI n1) sc1)))))))) sz) (wHis cy h0 rg 0 kk cs bs RG rn RS ++ wCfg cy c1 b1 (cpG G1 (RG 0) (rn 0)) (nI (rn 0)) (RS 0))) (va_A ([(h0, .inr (1, [.ref rg, .int (nI 1), .int (nI (kk + 1))])), (rg, .inl ((cy 1), 6, .inr (.inr (.inr (.inr (fun j => some (cs j)))))))] ++ (wCfg cy (cs 0) (bs 0) (RG 0) (nI (rn 0)) (RS 0) ++ (wCfg cy (cs 1) (bs 1) (RG 1) (nI (rn 1)) (RS 1) ++ (wCfg cy (cs 2) (bs 2) (RG 2) (nI (rn 2)) (RS 2) ++ (wCfg cy (cs 3) (bs 3) (RG 3) (nI (rn 3)) (RS 3) ++ (wCfg cy (cs 4) (bs 4) (RG 4) (nI (rn 4)) (RS 4) ++ (wCfg cy (cs 5) (bs 5) (RG 5) (nI (rn 5)) (RS 5) ++ (wCfg cy c1 b1 G1 (nI n1) sc1)))))))) sz)) 0 0 (va_A ([(h0, .inr (1, [.ref rg, .int (nI 1), .int (nI (kk + 1))])), (rg, .inl ((cy 1), 6, .inr (.inr (.inr (.inr (fun j => some (cs j)))))))] ++ (wCfg cy (cs 0) (bs 0) (RG 0) (nI (rn 0)) (RS 0) ++ (wCfg cy (cs 1) (bs 1) (RG 1) (nI (rn 1)) (RS 1) ++ (wCfg cy (cs 2) (bs 2) (RG 2) (nI (rn 2)) (RS 2) ++ (wCfg cy (cs 3) (bs 3) (RG 3) (nI (rn 3)) (RS 3) ++ (wCfg cy (cs 4) (bs 4) (RG 4) (nI (rn 4)) (RS 4) ++ (wCfg cy (cs 5) (bs 5) (RG 5) (nI (rn 5)) (RS 5) ++ (wCfg cy c1 b1 G1 (nI n1) sc1)))))))) sz) := by
  refine Met.ofW (cc := cX1_takeBackInto) (maxL := 2) (ret := none) (by decide) rfl ?_
  intro p e s m args below meth c s₁ B hml hv
  obtain ⟨rfl, hsz, hP, hE, hD0⟩ := hv
  have hK := hE.1
  subst hsz
  have hD := hD0.self (sz := s.heap.size)
  generalize hAe : va_A ([(h0, .inr (1, [.ref rg, .int (nI 1), .int (nI (kk + 1))])), (rg, .inl ((cy 1), 6, .inr (.inr (.inr (.inr (fun j => some (cs j)))))))] ++ (wCfg cy (cs 0) (bs 0) (RG 0) (nI (rn 0)) (RS 0) ++ (wCfg cy (cs 1) (bs 1) (RG 1) (nI (rn 1)) (RS 1) ++ (wCfg cy (cs 2) (bs 2) (RG 2) (nI (rn 2)) (RS 2) ++ (wCfg cy (cs 3) (bs 3) (RG 3) (nI (rn 3)) (RS 3) ++ (wCfg cy (cs 4) (bs 4) (RG 4) (nI (rn 4)) (RS 4) ++ (wCfg cy (cs 5) (bs 5) (RG 5) (nI (rn 5)) (RS 5) ++ (wCfg cy c1 b1 G1 (nI n1) sc1)))))))) s.heap.size = A at hD ⊢
  have hA : ∀ q : Nat, s.heap.size ≤ q → A q := fun q h => by rw [← hAe]; exact Or.inr h
  have hS : va_S A s.heap s.heap [] := va_S.rf
  have hP : va_P (dC, dI) vwCl ([(h0, .inr (1, [.ref rg, .int (nI 1), .int (nI (kk + 1))])), (rg, .inl ((cy 1), 6, .inr (.inr (.inr (.inr (fun j => some (cs j)))))))] ++ (wCfg cy (cs 0) (bs 0) (RG 0) (nI (rn 0)) (RS 0) ++ (wCfg cy (cs 1) (bs 1) (RG 1) (nI (rn 1)) (RS 1) ++ (wCfg cy (cs 2) (bs 2) (RG 2) (nI (rn 2)) (RS 2) ++ (wCfg cy (cs 3) (bs 3) (RG 3) (nI (rn 3)) (RS 3) ++ (wCfg cy (cs 4) (bs 4) (RG 4) (nI (rn 4)) (RS 4) ++ (wCfg cy (cs 5) (bs 5) (RG 5) (nI (rn 5)) (RS 5) ++ (wCfg cy c1 b1 G1 (nI n1) sc1)))))))) s.heap := hP
  have hx := B.exec
  have hb := B.bytes
  have hr := B.returns
  have hts := atoms_spec (ws := wsX1_takeBackInto) B.pre
  have hown : s.vm.findClass RX1 = some m.cls := findClass_of_methodNamed B.named
  have hlocks := B.notSynchronized
  have hin1 : ∀ w ∈ u_ws RX1 TX1 3, w ∈ wsX1_takeBackInto := by decide +kernel
  have f_11 := hts (.fieldLink RX1 11 "DeadlineAdmission$History" "ring" "[LDeadlineAdmission$Configuration;") (by decide +kernel)
  have f_18 := hts (.fieldLink RX1 18 "DeadlineAdmission$History" "next" "I") (by decide +kernel)
  have f_26 := hts (.fieldLink RX1 26 "DeadlineAdmission$History" "kept" "I") (by decide +kernel)
  have hl := lv_entry ([.ref h0, .ref c1]) (n := 2) (Nat.le_of_ble_eq_true rfl)
  rw [lg_entry_eq]
  generalize (lg_sl ([.ref h0, .ref c1]) ++ List.replicate (2 - (lg_sl ([.ref h0, .ref c1])).length) Slot.unset).toArray = ls at hl ⊢
  have hl : lv_has ls 2 [(0, .ref h0), (1, .ref c1)] := hl
  refine lv_aload_n hx hb dX1_takeBackInto_0 rfl (lv_at hl 0 rfl) ?_
  refine lv_aload_n hx hb dX1_takeBackInto_1 rfl (lv_at hl 0 rfl) ?_
  refine va_get (D := (dC, dI)) (ci := 1) (v := .int (nI 1)) (C := RX1) (T := TX1) (N := 3) hx hb hts hin1 hown hK hP 0 rfl rfl 1 (by decide) f_18 (fun _ h9 => h9) rfl dX1_takeBackInto_2 ?_
  refine lv_bipush (v := 6) hx hb dX1_takeBackInto_5 (by decide) ?_
  refine lv_iadd hx hb dX1_takeBackInto_7 ?_
  refine lv_iconst (v := 1) hx hb dX1_takeBackInto_8 (by decide) ?_
  refine lv_isub hx hb dX1_takeBackInto_9 ?_
  refine lv_bipush (v := 6) hx hb dX1_takeBackInto_10 (by decide) ?_
  refine lv_irem hx hb dX1_takeBackInto_12 (by decide) ?_
  refine lv_topi (fun y_ ey_ => ?_)
  obtain rfl : y_ = nI 0 := ey_.trans (by decide)
  refine va_put (D := (dC, dI)) (ci := 1) (v := .int (nI 0)) (ty := .int) (C := RX1) (T := TX1) (N := 3) hx hb hts hin1 tyX1 tyX1_ok nmX1 hown hK hP hD hS 0 rfl rfl 1 (by decide) f_18 (fun _ h9 => h9) rfl (by decide +kernel) rfl rfl (Nat.le_of_ble_eq_true rfl) dX1_takeBackInto_13 (fun H locs hP hD hS => ?_)
  have hP : va_P (dC, dI) vwCl ([(h0, .inr (1, [.ref rg, .int (nI 0), .int (nI (kk + 1))])), (rg, .inl ((cy 1), 6, .inr (.inr (.inr (.inr (fun j => some (cs j)))))))] ++ (wCfg cy (cs 0) (bs 0) (RG 0) (nI (rn 0)) (RS 0) ++ (wCfg cy (cs 1) (bs 1) (RG 1) (nI (rn 1)) (RS 1) ++ (wCfg cy (cs 2) (bs 2) (RG 2) (nI (rn 2)) (RS 2) ++ (wCfg cy (cs 3) (bs 3) (RG 3) (nI (rn 3)) (RS 3) ++ (wCfg cy (cs 4) (bs 4) (RG 4) (nI (rn 4)) (RS 4) ++ (wCfg cy (cs 5) (bs 5) (RG 5) (nI (rn 5)) (RS 5) ++ (wCfg cy c1 b1 G1 (nI n1) sc1)))))))) H := hP
  have hD : va_D A ([(h0, .inr (1, [.ref rg, .int (nI 0), .int (nI (kk + 1))])), (rg, .inl ((cy 1), 6, .inr (.inr (.inr (.inr (fun j => some (cs j)))))))] ++ (wCfg cy (cs 0) (bs 0) (RG 0) (nI (rn 0)) (RS 0) ++ (wCfg cy (cs 1) (bs 1) (RG 1) (nI (rn 1)) (RS 1) ++ (wCfg cy (cs 2) (bs 2) (RG 2) (nI (rn 2)) (RS 2) ++ (wCfg cy (cs 3) (bs 3) (RG 3) (nI (rn 3)) (RS 3) ++ (wCfg cy (cs 4) (bs 4) (RG 4) (nI (rn 4)) (RS 4) ++ (wCfg cy (cs 5) (bs 5) (RG 5) (nI (rn 5)) (RS 5) ++ (wCfg cy c1 b1 G1 (nI n1) sc1)))))))) := hD
  refine lv_aload_n hx hb dX1_takeBackInto_16 rfl (lv_at hl 0 rfl) ?_
  refine lv_dup hx hb dX1_takeBackInto_17 rfl ?_
  refine va_get (D := (dC, dI)) (ci := 1) (v := .int (nI (kk + 1))) (C := RX1) (T := TX1) (N := 3) hx hb hts hin1 hown hK hP 0 rfl rfl 2 (by decide) f_26 (fun _ h9 => h9) rfl dX1_takeBackInto_18 ?_
  refine lv_iconst (v := 1) hx hb dX1_takeBackInto_21 (by decide) ?_
  refine lv_isub hx hb dX1_takeBackInto_22 ?_
  refine lv_topi (fun y_ ey_ => ?_)
  obtain rfl : y_ = nI kk := ey_.trans (nI_pred kk)
  refine va_put (D := (dC, dI)) (ci := 1) (v := .int (nI kk)) (ty := .int) (C := RX1) (T := TX1) (N := 3) hx hb hts hin1 tyX1 tyX1_ok nmX1 hown hK hP hD hS 0 rfl rfl 2 (by decide) f_26 (fun _ h9 => h9) rfl (by decide +kernel) rfl rfl (Nat.le_of_ble_eq_true rfl) dX1_takeBackInto_23 (fun H locs hP hD hS => ?_)
  have hP : va_P (dC, dI) vwCl ([(h0, .inr (1, [.ref rg, .int (nI 0), .int (nI kk)])), (rg, .inl ((cy 1), 6, .inr (.inr (.inr (.inr (fun j => some (cs j)))))))] ++ (wCfg cy (cs 0) (bs 0) (RG 0) (nI (rn 0)) (RS 0) ++ (wCfg cy (cs 1) (bs 1) (RG 1) (nI (rn 1)) (RS 1) ++ (wCfg cy (cs 2) (bs 2) (RG 2) (nI (rn 2)) (RS 2) ++ (wCfg cy (cs 3) (bs 3) (RG 3) (nI (rn 3)) (RS 3) ++ (wCfg cy (cs 4) (bs 4) (RG 4) (nI (rn 4)) (RS 4) ++ (wCfg cy (cs 5) (bs 5) (RG 5) (nI (rn 5)) (RS 5) ++ (wCfg cy c1 b1 G1 (nI n1) sc1)))))))) H := hP
  have hD : va_D A ([(h0, .inr (1, [.ref rg, .int (nI 0), .int (nI kk)])), (rg, .inl ((cy 1), 6, .inr (.inr (.inr (.inr (fun j => some (cs j)))))))] ++ (wCfg cy (cs 0) (bs 0) (RG 0) (nI (rn 0)) (RS 0) ++ (wCfg cy (cs 1) (bs 1) (RG 1) (nI (rn 1)) (RS 1) ++ (wCfg cy (cs 2) (bs 2) (RG 2) (nI (rn 2)) (RS 2) ++ (wCfg cy (cs 3) (bs 3) (RG 3) (nI (rn 3)) (RS 3) ++ (wCfg cy (cs 4) (bs 4) (RG 4) (nI (rn 4)) (RS 4) ++ (wCfg cy (cs 5) (bs 5) (RG 5) (nI (rn 5)) (RS 5) ++ (wCfg cy c1 b1 G1 (nI n1) sc1)))))))) := hD
  refine lv_aload_n hx hb dX1_takeBackInto_26 rfl (lv_at hl 1 rfl) ?_
  refine lv_aload_n hx hb dX1_takeBackInto_27 rfl (lv_at hl 0 rfl) ?_
  refine va_get (D := (dC, dI)) (ci := 1) (v := .ref rg) (C := RX1) (T := TX1) (N := 3) hx hb hts hin1 hown hK hP 0 rfl rfl 0 (by decide) f_11 (fun _ h9 => h9) rfl dX1_takeBackInto_28 ?_
  refine lv_aload_n hx hb dX1_takeBackInto_31 rfl (lv_at hl 0 rfl) ?_
  refine va_get (D := (dC, dI)) (ci := 1) (v := .int (nI 0)) (C := RX1) (T := TX1) (N := 3) hx hb hts hin1 hown hK hP 0 rfl rfl 1 (by decide) f_18 (fun _ h9 => h9) rfl dX1_takeBackInto_32 ?_
  refine wA_ald (q := (cs 0)) hx hb hK hP 1 1 rfl rfl 0 rfl (by omega) (by decide) rfl dX1_takeBackInto_35 ?_
  have hPc := hP.sub (ws' := wCfg cy c1 b1 G1 (nI n1) sc1 ++ (wCfg cy (cs 0) (bs 0) (RG 0) (nI (rn 0)) (RS 0))) [50, 51, 52, 53, 54, 55, 56, 57, 2, 3, 4, 5, 6, 7, 8, 9] rfl
  have hDc := hD.sub (ws' := wCfg cy c1 b1 G1 (nI n1) sc1 ++ (wCfg cy (cs 0) (bs 0) (RG 0) (nI (rn 0)) (RS 0))) [50, 51, 52, 53, 54, 55, 56, 57, 2, 3, 4, 5, 6, 7, 8, 9] (by decide) rfl
  have hFc := va_free (wc := wCfg cy c1 b1 G1 (nI n1) sc1 ++ (wCfg cy (cs 0) (bs 0) (RG 0) (nI (rn 0)) (RS 0))) hD hS hA [50, 51, 52, 53, 54, 55, 56, 57, 2, 3, 4, 5, 6, 7, 8, 9] rfl
  refine va_callv (va_runV (As := [.ref (cs 0)]) (rest := []) ⟨hx, hb, hml, hown, hts⟩ (c_X0_copyFrom l dC dI cy H.size c1 b1 G1 (nI n1) sc1 (cs 0) (bs 0) (RG 0) (rn 0) hn1 (RS 0)) (cwV 1 hts gX1_takeBackInto_X0_copyFrom rfl rfl rfl (by decide +kernel) ⟨Nat.le_of_ble_eq_true rfl, Nat.le_of_ble_eq_true rfl⟩) ⟨bl_in, va_recv hK hPc (ci := 0) (q0 := 0) rfl rfl, pr_in hPc hE hDc⟩ rfl rfl hl.1 rfl (lv_room (Nat.le_of_ble_eq_true rfl)) dX1_takeBackInto_36 ⟨Nat.le_of_ble_eq_true rfl, Nat.le_of_ble_eq_true rfl⟩) hS (fun q _ h => hFc q h) hFc (fun u t H1 locs ht hvm hw hB hz1 hk1 hS => ?_)
  obtain ⟨hP1, hD1⟩ := hB
  rw [ht] at hP1
  obtain ⟨hP, hD⟩ := va_join (wr := [(h0, .inr (1, [.ref rg, .int (nI 0), .int (nI kk)])), (rg, .inl ((cy 1), 6, .inr (.inr (.inr (.inr (fun j => some (cs j)))))))] ++ (wCfg cy (cs 1) (bs 1) (RG 1) (nI (rn 1)) (RS 1) ++ (wCfg cy (cs 2) (bs 2) (RG 2) (nI (rn 2)) (RS 2) ++ (wCfg cy (cs 3) (bs 3) (RG 3) (nI (rn 3)) (RS 3) ++ (wCfg cy (cs 4) (bs 4) (RG 4) (nI (rn 4)) (RS 4) ++ (wCfg cy (cs 5) (bs 5) (RG 5) (nI (rn 5)) (RS 5))))))) (w1 := wCfg cy c1 b1 (cpG G1 (RG 0) (rn 0)) (nI (rn 0)) (RS 0) ++ (wCfg cy (cs 0) (bs 0) (RG 0) (nI (rn 0)) (RS 0))) hP hD [50, 51, 52, 53, 54, 55, 56, 57, 2, 3, 4, 5, 6, 7, 8, 9] [0, 1, 10, 11, 12, 13, 14, 15, 16, 17, 18, 19, 20, 21, 22, 23, 24, 25, 26, 27, 28, 29, 30, 31, 32, 33, 34, 35, 36, 37, 38, 39, 40, 41, 42, 43, 44, 45, 46, 47, 48, 49] rfl rfl (by decide) (by decide) hk1 hFc hP1 hD1
  have hP : va_P (dC, dI) vwCl ([(h0, .inr (1, [.ref rg, .int (nI 0), .int (nI kk)])), (rg, .inl ((cy 1), 6, .inr (.inr (.inr (.inr (fun j => some (cs j)))))))] ++ (wCfg cy (cs 0) (bs 0) (RG 0) (nI (rn 0)) (RS 0) ++ (wCfg cy (cs 1) (bs 1) (RG 1) (nI (rn 1)) (RS 1) ++ (wCfg cy (cs 2) (bs 2) (RG 2) (nI (rn 2)) (RS 2) ++ (wCfg cy (cs 3) (bs 3) (RG 3) (nI (rn 3)) (RS 3) ++ (wCfg cy (cs 4) (bs 4) (RG 4) (nI (rn 4)) (RS 4) ++ (wCfg cy (cs 5) (bs 5) (RG 5) (nI (rn 5)) (RS 5) ++ (wCfg cy c1 b1 (cpG G1 (RG 0) (rn 0)) (nI (rn 0)) (RS 0))))))))) H1 := hP.sub [0, 1, 50, 51, 52, 53, 54, 55, 56, 57, 2, 3, 4, 5, 6, 7, 8, 9, 10, 11, 12, 13, 14, 15, 16, 17, 18, 19, 20, 21, 22, 23, 24, 25, 26, 27, 28, 29, 30, 31, 32, 33, 34, 35, 36, 37, 38, 39, 40, 41, 42, 43, 44, 45, 46, 47, 48, 49] rfl
  have hD : va_D A ([(h0, .inr (1, [.ref rg, .int (nI 0), .int (nI kk)])), (rg, .inl ((cy 1), 6, .inr (.inr (.inr (.inr (fun j => some (cs j)))))))] ++ (wCfg cy (cs 0) (bs 0) (RG 0) (nI (rn 0)) (RS 0) ++ (wCfg cy (cs 1) (bs 1) (RG 1) (nI (rn 1)) (RS 1) ++ (wCfg cy (cs 2) (bs 2) (RG 2) (nI (rn 2)) (RS 2) ++ (wCfg cy (cs 3) (bs 3) (RG 3) (nI (rn 3)) (RS 3) ++ (wCfg cy (cs 4) (bs 4) (RG 4) (nI (rn 4)) (RS 4) ++ (wCfg cy (cs 5) (bs 5) (RG 5) (nI (rn 5)) (RS 5) ++ (wCfg cy c1 b1 (cpG G1 (RG 0) (rn 0)) (nI (rn 0)) (RS 0))))))))) := hD.sub [0, 1, 50, 51, 52, 53, 54, 55, 56, 57, 2, 3, 4, 5, 6, 7, 8, 9, 10, 11, 12, 13, 14, 15, 16, 17, 18, 19, 20, 21, 22, 23, 24, 25, 26, 27, 28, 29, 30, 31, 32, 33, 34, 35, 36, 37, 38, 39, 40, 41, 42, 43, 44, 45, 46, 47, 48, 49] (by decide) rfl
  clear hz1 hk1 hPc hDc hFc hP1 hD1
  generalize H1 = H at hP hS ⊢
  have hP9 : va_P (dC, dI) vwCl (wHis cy h0 rg 0 kk cs bs RG rn RS ++ wCfg cy c1 b1 (cpG G1 (RG 0) (rn 0)) (nI (rn 0)) (RS 0)) H := hP
  have hD9 : va_D A (wHis cy h0 rg 0 kk cs bs RG rn RS ++ wCfg cy c1 b1 (cpG G1 (RG 0) (rn 0)) (nI (rn 0)) (RS 0)) := hD
  exact W.vret hx hb hr (fun t ht hW => ⟨⟨(), rfl, trivial, by rw [ht]; exact hP9, hD9⟩, hS.F ht⟩) hS.2.2 dX1_takeBackInto_39
set_option maxHeartbeats 1000000 in
set_option maxRecDepth 100000 in
/-- the latest of the ring, from place 2 -/
theorem c_X1_takeBackInto_2 (l : Launch) (dC : Nat → ClassId) (dI : Nat → Nat → Nat) (cy : Nat → ClassId) (sz : Nat) (h0 rg : Nat) (kk : Nat) (cs : Nat → Nat) (bs : Nat → Nat → Nat) (RG : Nat → vG) (rn : Nat → Nat) (RS : Nat → Int32) (c1 : Nat) (b1 : Nat → Nat) (G1 : vG) (n1 : Nat) (sc1 : Int32) (hn1 : rn 1 ≤ 8) : Met l yX1_takeBackInto wsX1_takeBackInto ({ frames := 2, cells := 0, slots := 0, locals := 45 }) (va_Pc [.ref h0, .ref c1] (pIn dC dI cy ([(h0, .inr (1, [.ref rg, .int (nI 2), .int (nI (kk + 1))])), (rg, .inl ((cy 1), 6, .inr (.inr (.inr (.inr (fun j => some (cs j)))))))] ++ (wCfg cy (cs 0) (bs 0) (RG 0) (nI (rn 0)) (RS 0) ++ (wCfg cy (cs 1) (bs 1) (RG 1) (nI (rn 1)) (RS 1) ++ (wCfg cy (cs 2) (bs 2) (RG 2) (nI (rn 2)) (RS 2) ++ (wCfg cy (cs 3) (bs 3) (RG 3) (nI (rn 3)) (RS 3) ++ (wCfg cy (cs 4) (bs 4) (RG 4) (nI (rn 4)) (RS 4) ++ (wCfg cy (cs 5) (bs 5) (RG 5) (nI (rn 5)) (RS 5) ++ (wCfg cy c1 b1 G1 (nI n1) sc1)))))))) sz)) (va_Qv (fun _ => True) (fun (u : Unit) t => va_P (dC, dI) vwCl (wHis cy h0 rg 1 kk cs bs RG rn RS ++ wCfg cy c1 b1 (cpG G1 (RG 1) (rn 1)) (nI (rn 1)) (RS 1)) t.heap ∧ va_D (va_A ([(h0, .inr (1, [.ref rg, .int (nI 2), .int (nI (kk + 1))])), (rg, .inl ((cy 1), 6, .inr (.inr (.inr (.inr (fun j => some (cs j)))))))] ++ (wCfg cy (cs 0) (bs 0) (RG 0) (nI (rn 0)) (RS 0) ++ (wCfg cy (cs 1) (bs 1) (RG 1) (nI (rn 1)) (RS 1) ++ (wCfg cy (cs 2) (bs 2) (RG 2) (nI (rn 2)) (RS 2) ++ (wCfg cy (cs 3) (bs 3) (RG 3) (nI (rn 3)) (RS 3) ++ (wCfg cy (cs 4) (bs 4) (RG 4) (nI (rn 4)) (RS 4) ++ (wCfg cy (cs 5) (bs 5) (RG 5) (nI (rn 5)) (RS 5) ++ (wCfg cy c1 b1 G1 (nI n1) sc1)))))))) sz) (wHis cy h0 rg 1 kk cs bs RG rn RS ++ wCfg cy c1 b1 (cpG G1 (RG 1) (rn 1)) (nI (rn 1)) (RS 1))) (va_A ([(h0, .inr (1, [.ref rg, .int (nI 2), .int (nI (kk + 1))])), (rg, .inl ((cy 1), 6, .inr (.inr (.inr (.inr (fun j => some (cs j)))))))] ++ (wCfg cy (cs 0) (bs 0) (RG 0) (nI (rn 0)) (RS 0) ++ (wCfg cy (cs 1) (bs 1) (RG 1) (nI (rn 1)) (RS 1) ++ (wCfg cy (cs 2) (bs 2) (RG 2) (nI (rn 2)) (RS 2) ++ (wCfg cy (cs 3) (bs 3) (RG 3) (nI (rn 3)) (RS 3) ++ (wCfg cy (cs 4) (bs 4) (RG 4) (nI (rn 4)) (RS 4) ++ (wCfg cy (cs 5) (bs 5) (RG 5) (nI (rn 5)) (RS 5) ++ (wCfg cy c1 b1 G1 (nI n1) sc1)))))))) sz)) 0 0 (va_A ([(h0, .inr (1, [.ref rg, .int (nI 2), .int (nI (kk + 1))])), (rg, .inl ((cy 1), 6, .inr (.inr (.inr (.inr (fun j => some (cs j)))))))] ++ (wCfg cy (cs 0) (bs 0) (RG 0) (nI (rn 0)) (RS 0) ++ (wCfg cy (cs 1) (bs 1) (RG 1) (nI (rn 1)) (RS 1) ++ (wCfg cy (cs 2) (bs 2) (RG 2) (nI (rn 2)) (RS 2) ++ (wCfg cy (cs 3) (bs 3) (RG 3) (nI (rn 3)) (RS 3) ++ (wCfg cy (cs 4) (bs 4) (RG 4) (nI (rn 4)) (RS 4) ++ (wCfg cy (cs 5) (bs 5) (RG 5) (nI (rn 5)) (RS 5) ++ (wCfg cy c1 b1 G1 (nI n1) sc1)))))))) sz) := by
  refine Met.ofW (cc := cX1_takeBackInto) (maxL := 2) (ret := none) (by decide) rfl ?_
  intro p e s m args below meth c s₁ B hml hv
  obtain ⟨rfl, hsz, hP, hE, hD0⟩ := hv
  have hK := hE.1
  subst hsz
  have hD := hD0.self (sz := s.heap.size)
  generalize hAe : va_A ([(h0, .inr (1, [.ref rg, .int (nI 2), .int (nI (kk + 1))])), (rg, .inl ((cy 1), 6, .inr (.inr (.inr (.inr (fun j => some (cs j)))))))] ++ (wCfg cy (cs 0) (bs 0) (RG 0) (nI (rn 0)) (RS 0) ++ (wCfg cy (cs 1) (bs 1) (RG 1) (nI (rn 1)) (RS 1) ++ (wCfg cy (cs 2) (bs 2) (RG 2) (nI (rn 2)) (RS 2) ++ (wCfg cy (cs 3) (bs 3) (RG 3) (nI (rn 3)) (RS 3) ++ (wCfg cy (cs 4) (bs 4) (RG 4) (nI (rn 4)) (RS 4) ++ (wCfg cy (cs 5) (bs 5) (RG 5) (nI (rn 5)) (RS 5) ++ (wCfg cy c1 b1 G1 (nI n1) sc1)))))))) s.heap.size = A at hD ⊢
  have hA : ∀ q : Nat, s.heap.size ≤ q → A q := fun q h => by rw [← hAe]; exact Or.inr h
  have hS : va_S A s.heap s.heap [] := va_S.rf
  have hP : va_P (dC, dI) vwCl ([(h0, .inr (1, [.ref rg, .int (nI 2), .int (nI (kk + 1))])), (rg, .inl ((cy 1), 6, .inr (.inr (.inr (.inr (fun j => some (cs j)))))))] ++ (wCfg cy (cs 0) (bs 0) (RG 0) (nI (rn 0)) (RS 0) ++ (wCfg cy (cs 1) (bs 1) (RG 1) (nI (rn 1)) (RS 1) ++ (wCfg cy (cs 2) (bs 2) (RG 2) (nI (rn 2)) (RS 2) ++ (wCfg cy (cs 3) (bs 3) (RG 3) (nI (rn 3)) (RS 3) ++ (wCfg cy (cs 4) (bs 4) (RG 4) (nI (rn 4)) (RS 4) ++ (wCfg cy (cs 5) (bs 5) (RG 5) (nI (rn 5)) (RS 5) ++ (wCfg cy c1 b1 G1 (nI n1) sc1)))))))) s.heap := hP
  have hx := B.exec
  have hb := B.bytes
  have hr := B.returns
  have hts := atoms_spec (ws := wsX1_takeBackInto) B.pre
  have hown : s.vm.findClass RX1 = some m.cls := findClass_of_methodNamed B.named
  have hlocks := B.notSynchronized
  have hin1 : ∀ w ∈ u_ws RX1 TX1 3, w ∈ wsX1_takeBackInto := by decide +kernel
  have f_11 := hts (.fieldLink RX1 11 "DeadlineAdmission$History" "ring" "[LDeadlineAdmission$Configuration;") (by decide +kernel)
  have f_18 := hts (.fieldLink RX1 18 "DeadlineAdmission$History" "next" "I") (by decide +kernel)
  have f_26 := hts (.fieldLink RX1 26 "DeadlineAdmission$History" "kept" "I") (by decide +kernel)
  have hl := lv_entry ([.ref h0, .ref c1]) (n := 2) (Nat.le_of_ble_eq_true rfl)
  rw [lg_entry_eq]
  generalize (lg_sl ([.ref h0, .ref c1]) ++ List.replicate (2 - (lg_sl ([.ref h0, .ref c1])).length) Slot.unset).toArray = ls at hl ⊢
  have hl : lv_has ls 2 [(0, .ref h0), (1, .ref c1)] := hl
  refine lv_aload_n hx hb dX1_takeBackInto_0 rfl (lv_at hl 0 rfl) ?_
  refine lv_aload_n hx hb dX1_takeBackInto_1 rfl (lv_at hl 0 rfl) ?_
  refine va_get (D := (dC, dI)) (ci := 1) (v := .int (nI 2)) (C := RX1) (T := TX1) (N := 3) hx hb hts hin1 hown hK hP 0 rfl rfl 1 (by decide) f_18 (fun _ h9 => h9) rfl dX1_takeBackInto_2 ?_
  refine lv_bipush (v := 6) hx hb dX1_takeBackInto_5 (by decide) ?_
  refine lv_iadd hx hb dX1_takeBackInto_7 ?_
  refine lv_iconst (v := 1) hx hb dX1_takeBackInto_8 (by decide) ?_
  refine lv_isub hx hb dX1_takeBackInto_9 ?_
  refine lv_bipush (v := 6) hx hb dX1_takeBackInto_10 (by decide) ?_
  refine lv_irem hx hb dX1_takeBackInto_12 (by decide) ?_
  refine lv_topi (fun y_ ey_ => ?_)
  obtain rfl : y_ = nI 1 := ey_.trans (by decide)
  refine va_put (D := (dC, dI)) (ci := 1) (v := .int (nI 1)) (ty := .int) (C := RX1) (T := TX1) (N := 3) hx hb hts hin1 tyX1 tyX1_ok nmX1 hown hK hP hD hS 0 rfl rfl 1 (by decide) f_18 (fun _ h9 => h9) rfl (by decide +kernel) rfl rfl (Nat.le_of_ble_eq_true rfl) dX1_takeBackInto_13 (fun H locs hP hD hS => ?_)
  have hP : va_P (dC, dI) vwCl ([(h0, .inr (1, [.ref rg, .int (nI 1), .int (nI (kk + 1))])), (rg, .inl ((cy 1), 6, .inr (.inr (.inr (.inr (fun j => some (cs j)))))))] ++ (wCfg cy (cs 0) (bs 0) (RG 0) (nI (rn 0)) (RS 0) ++ (wCfg cy (cs 1) (bs 1) (RG 1) (nI (rn 1)) (RS 1) ++ (wCfg cy (cs 2) (bs 2) (RG 2) (nI (rn 2)) (RS 2) ++ (wCfg cy (cs 3) (bs 3) (RG 3) (nI (rn 3)) (RS 3) ++ (wCfg cy (cs 4) (bs 4) (RG 4) (nI (rn 4)) (RS 4) ++ (wCfg cy (cs 5) (bs 5) (RG 5) (nI (rn 5)) (RS 5) ++ (wCfg cy c1 b1 G1 (nI n1) sc1)))))))) H := hP
  have hD : va_D A ([(h0, .inr (1, [.ref rg, .int (nI 1), .int (nI (kk + 1))])), (rg, .inl ((cy 1), 6, .inr (.inr (.inr (.inr (fun j => some (cs j)))))))] ++ (wCfg cy (cs 0) (bs 0) (RG 0) (nI (rn 0)) (RS 0) ++ (wCfg cy (cs 1) (bs 1) (RG 1) (nI (rn 1)) (RS 1) ++ (wCfg cy (cs 2) (bs 2) (RG 2) (nI (rn 2)) (RS 2) ++ (wCfg cy (cs 3) (bs 3) (RG 3) (nI (rn 3)) (RS 3) ++ (wCfg cy (cs 4) (bs 4) (RG 4) (nI (rn 4)) (RS 4) ++ (wCfg cy (cs 5) (bs 5) (RG 5) (nI (rn 5)) (RS 5) ++ (wCfg cy c1 b1 G1 (nI n1) sc1)))))))) := hD
  refine lv_aload_n hx hb dX1_takeBackInto_16 rfl (lv_at hl 0 rfl) ?_
  refine lv_dup hx hb dX1_takeBackInto_17 rfl ?_
  refine va_get (D := (dC, dI)) (ci := 1) (v := .int (nI (kk + 1))) (C := RX1) (T := TX1) (N := 3) hx hb hts hin1 hown hK hP 0 rfl rfl 2 (by decide) f_26 (fun _ h9 => h9) rfl dX1_takeBackInto_18 ?_
  refine lv_iconst (v := 1) hx hb dX1_takeBackInto_21 (by decide) ?_
  refine lv_isub hx hb dX1_takeBackInto_22 ?_
  refine lv_topi (fun y_ ey_ => ?_)
  obtain rfl : y_ = nI kk := ey_.trans (nI_pred kk)
  refine va_put (D := (dC, dI)) (ci := 1) (v := .int (nI kk)) (ty := .int) (C := RX1) (T := TX1) (N := 3) hx hb hts hin1 tyX1 tyX1_ok nmX1 hown hK hP hD hS 0 rfl rfl 2 (by decide) f_26 (fun _ h9 => h9) rfl (by decide +kernel) rfl rfl (Nat.le_of_ble_eq_true rfl) dX1_takeBackInto_23 (fun H locs hP hD hS => ?_)
  have hP : va_P (dC, dI) vwCl ([(h0, .inr (1, [.ref rg, .int (nI 1), .int (nI kk)])), (rg, .inl ((cy 1), 6, .inr (.inr (.inr (.inr (fun j => some (cs j)))))))] ++ (wCfg cy (cs 0) (bs 0) (RG 0) (nI (rn 0)) (RS 0) ++ (wCfg cy (cs 1) (bs 1) (RG 1) (nI (rn 1)) (RS 1) ++ (wCfg cy (cs 2) (bs 2) (RG 2) (nI (rn 2)) (RS 2) ++ (wCfg cy (cs 3) (bs 3) (RG 3) (nI (rn 3)) (RS 3) ++ (wCfg cy (cs 4) (bs 4) (RG 4) (nI (rn 4)) (RS 4) ++ (wCfg cy (cs 5) (bs 5) (RG 5) (nI (rn 5)) (RS 5) ++ (wCfg cy c1 b1 G1 (nI n1) sc1)))))))) H := hP
  have hD : va_D A ([(h0, .inr (1, [.ref rg, .int (nI 1), .int (nI kk)])), (rg, .inl ((cy 1), 6, .inr (.inr (.inr (.inr (fun j => some (cs j)))))))] ++ (wCfg cy (cs 0) (bs 0) (RG 0) (nI (rn 0)) (RS 0) ++ (wCfg cy (cs 1) (bs 1) (RG 1) (nI (rn 1)) (RS 1) ++ (wCfg cy (cs 2) (bs 2) (RG 2) (nI (rn 2)) (RS 2) ++ (wCfg cy (cs 3) (bs 3) (RG 3) (nI (rn 3)) (RS 3) ++ (wCfg cy (cs 4) (bs 4) (RG 4) (nI (rn 4)) (RS 4) ++ (wCfg cy (cs 5) (bs 5) (RG 5) (nI (rn 5)) (RS 5) ++ (wCfg cy c1 b1 G1 (nI n1) sc1)))))))) := hD
  refine lv_aload_n hx hb dX1_takeBackInto_26 rfl (lv_at hl 1 rfl) ?_
  refine lv_aload_n hx hb dX1_takeBackInto_27 rfl (lv_at hl 0 rfl) ?_
  refine va_get (D := (dC, dI)) (ci := 1) (v := .ref rg) (C := RX1) (T := TX1) (N := 3) hx hb hts hin1 hown hK hP 0 rfl rfl 0 (by decide) f_11 (fun _ h9 => h9) rfl dX1_takeBackInto_28 ?_
  refine lv_aload_n hx hb dX1_takeBackInto_31 rfl (lv_at hl 0 rfl) ?_
  refine va_get (D := (dC, dI)) (ci := 1) (v := .int (nI 1)) (C := RX1) (T := TX1) (N := 3) hx hb hts hin1 hown hK hP 0 rfl rfl 1 (by decide) f_18 (fun _ h9 => h9) rfl dX1_takeBackInto_32 ?_
  refine wA_ald (q := (cs 1)) hx hb hK hP 1 1 rfl rfl 1 rfl (by omega) (by decide) rfl dX1_takeBackInto_35 ?_
  have hPc := hP.sub (ws' := wCfg cy c1 b1 G1 (nI n1) sc1 ++ (wCfg cy (cs 1) (bs 1) (RG 1) (nI (rn 1)) (RS 1))) [50, 51, 52, 53, 54, 55, 56, 57, 10, 11, 12, 13, 14, 15, 16, 17] rfl
  have hDc := hD.sub (ws' := wCfg cy c1 b1 G1 (nI n1) sc1 ++ (wCfg cy (cs 1) (bs 1) (RG 1) (nI (rn 1)) (RS 1))) [50, 51, 52, 53, 54, 55, 56, 57, 10, 11, 12, 13, 14, 15, 16, 17] (by decide) rfl
  have hFc := va_free (wc := wCfg cy c1 b1 G1 (nI n1) sc1 ++ (wCfg cy (cs 1) (bs 1) (RG 1) (nI (rn 1)) (RS 1))) hD hS hA [50, 51, 52, 53, 54, 55, 56, 57, 10, 11, 12, 13, 14, 15, 16, 17] rfl
  refine va_callv (va_runV (As := [.ref (cs 1)]) (rest := []) ⟨hx, hb, hml, hown, hts⟩ (c_X0_copyFrom l dC dI cy H.size c1 b1 G1 (nI n1) sc1 (cs 1) (bs 1) (RG 1) (rn 1) hn1 (RS 1)) (cwV 1 hts gX1_takeBackInto_X0_copyFrom rfl rfl rfl (by decide +kernel) ⟨Nat.le_of_ble_eq_true rfl, Nat.le_of_ble_eq_true rfl⟩) ⟨bl_in, va_recv hK hPc (ci := 0) (q0 := 0) rfl rfl, pr_in hPc hE hDc⟩ rfl rfl hl.1 rfl (lv_room (Nat.le_of_ble_eq_true rfl)) dX1_takeBackInto_36 ⟨Nat.le_of_ble_eq_true rfl, Nat.le_of_ble_eq_true rfl⟩) hS (fun q _ h => hFc q h) hFc (fun u t H1 locs ht hvm hw hB hz1 hk1 hS => ?_)
  obtain ⟨hP1, hD1⟩ := hB
  rw [ht] at hP1
  obtain ⟨hP, hD⟩ := va_join (wr := [(h0, .inr (1, [.ref rg, .int (nI 1), .int (nI kk)])), (rg, .inl ((cy 1), 6, .inr (.inr (.inr (.inr (fun j => some (cs j)))))))] ++ (wCfg cy (cs 0) (bs 0) (RG 0) (nI (rn 0)) (RS 0) ++ (wCfg cy (cs 2) (bs 2) (RG 2) (nI (rn 2)) (RS 2) ++ (wCfg cy (cs 3) (bs 3) (RG 3) (nI (rn 3)) (RS 3) ++ (wCfg cy (cs 4) (bs 4) (RG 4) (nI (rn 4)) (RS 4) ++ (wCfg cy (cs 5) (bs 5) (RG 5) (nI (rn 5)) (RS 5))))))) (w1 := wCfg cy c1 b1 (cpG G1 (RG 1) (rn 1)) (nI (rn 1)) (RS 1) ++ (wCfg cy (cs 1) (bs 1) (RG 1) (nI (rn 1)) (RS 1))) hP hD [50, 51, 52, 53, 54, 55, 56, 57, 10, 11, 12, 13, 14, 15, 16, 17] [0, 1, 2, 3, 4, 5, 6, 7, 8, 9, 18, 19, 20, 21, 22, 23, 24, 25, 26, 27, 28, 29, 30, 31, 32, 33, 34, 35, 36, 37, 38, 39, 40, 41, 42, 43, 44, 45, 46, 47, 48, 49] rfl rfl (by decide) (by decide) hk1 hFc hP1 hD1
  have hP : va_P (dC, dI) vwCl ([(h0, .inr (1, [.ref rg, .int (nI 1), .int (nI kk)])), (rg, .inl ((cy 1), 6, .inr (.inr (.inr (.inr (fun j => some (cs j)))))))] ++ (wCfg cy (cs 0) (bs 0) (RG 0) (nI (rn 0)) (RS 0) ++ (wCfg cy (cs 1) (bs 1) (RG 1) (nI (rn 1)) (RS 1) ++ (wCfg cy (cs 2) (bs 2) (RG 2) (nI (rn 2)) (RS 2) ++ (wCfg cy (cs 3) (bs 3) (RG 3) (nI (rn 3)) (RS 3) ++ (wCfg cy (cs 4) (bs 4) (RG 4) (nI (rn 4)) (RS 4) ++ (wCfg cy (cs 5) (bs 5) (RG 5) (nI (rn 5)) (RS 5) ++ (wCfg cy c1 b1 (cpG G1 (RG 1) (rn 1)) (nI (rn 1)) (RS 1))))))))) H1 := hP.sub [0, 1, 2, 3, 4, 5, 6, 7, 8, 9, 50, 51, 52, 53, 54, 55, 56, 57, 10, 11, 12, 13, 14, 15, 16, 17, 18, 19, 20, 21, 22, 23, 24, 25, 26, 27, 28, 29, 30, 31, 32, 33, 34, 35, 36, 37, 38, 39, 40, 41, 42, 43, 44, 45, 46, 47, 48, 49] rfl
  have hD : va_D A ([(h0, .inr (1, [.ref rg, .int (nI 1), .int (nI kk)])), (rg, .inl ((cy 1), 6, .inr (.inr (.inr (.inr (fun j => some (cs j)))))))] ++ (wCfg cy (cs 0) (bs 0) (RG 0) (nI (rn 0)) (RS 0) ++ (wCfg cy (cs 1) (bs 1) (RG 1) (nI (rn 1)) (RS 1) ++ (wCfg cy (cs 2) (bs 2) (RG 2) (nI (rn 2)) (RS 2) ++ (wCfg cy (cs 3) (bs 3) (RG 3) (nI (rn 3)) (RS 3) ++ (wCfg cy (cs 4) (bs 4) (RG 4) (nI (rn 4)) (RS 4) ++ (wCfg cy (cs 5) (bs 5) (RG 5) (nI (rn 5)) (RS 5) ++ (wCfg cy c1 b1 (cpG G1 (RG 1) (rn 1)) (nI (rn 1)) (RS 1))))))))) := hD.sub [0, 1, 2, 3, 4, 5, 6, 7, 8, 9, 50, 51, 52, 53, 54, 55, 56, 57, 10, 11, 12, 13, 14, 15, 16, 17, 18, 19, 20, 21, 22, 23, 24, 25, 26, 27, 28, 29, 30, 31, 32, 33, 34, 35, 36, 37, 38, 39, 40, 41, 42, 43, 44, 45, 46, 47, 48, 49] (by decide) rfl
  clear hz1 hk1 hPc hDc hFc hP1 hD1
  generalize H1 = H at hP hS ⊢
  have hP9 : va_P (dC, dI) vwCl (wHis cy h0 rg 1 kk cs bs RG rn RS ++ wCfg cy c1 b1 (cpG G1 (RG 1) (rn 1)) (nI (rn 1)) (RS 1)) H := hP
  have hD9 : va_D A (wHis cy h0 rg 1 kk cs bs RG rn RS ++ wCfg cy c1 b1 (cpG G1 (RG 1) (rn 1)) (nI (rn 1)) (RS 1)) := hD
  exact W.vret hx hb hr (fun t ht hW => ⟨⟨(), rfl, trivial, by rw [ht]; exact hP9, hD9⟩, hS.F ht⟩) hS.2.2 dX1_takeBackInto_39
set_option maxHeartbeats 1000000 in
set_option maxRecDepth 100000 in
/-- the latest of the ring, from place 3 -/
theorem c_X1_takeBackInto_3 (l : Launch) (dC : Nat → ClassId) (dI : Nat → Nat → Nat) (cy : Nat → ClassId) (sz : Nat) (h0 rg : Nat) (kk : Nat) (cs : Nat → Nat) (bs : Nat → Nat → Nat) (RG : Nat → vG) (rn : Nat → Nat) (RS : Nat → Int32) (c1 : Nat) (b1 : Nat → Nat) (G1 : vG) (n1 : Nat) (sc1 : Int32) (hn1 : rn 2 ≤ 8) : Met l yX1_takeBackInto wsX1_takeBackInto ({ frames := 2, cells := 0, slots := 0, locals := 45 }) (va_Pc [.ref h0, .ref c1] (pIn dC dI cy ([(h0, .inr (1, [.ref rg, .int (nI 3), .int (nI (kk + 1))])), (rg, .inl ((cy 1), 6, .inr (.inr (.inr (.inr (fun j => some (cs j)))))))] ++ (wCfg cy (cs 0) (bs 0) (RG 0) (nI (rn 0)) (RS 0) ++ (wCfg cy (cs 1) (bs 1) (RG 1) (nI (rn 1)) (RS 1) ++ (wCfg cy (cs 2) (bs 2) (RG 2) (nI (rn 2)) (RS 2) ++ (wCfg cy (cs 3) (bs 3) (RG 3) (nI (rn 3)) (RS 3) ++ (wCfg cy (cs 4) (bs 4) (RG 4) (nI (rn 4)) (RS 4) ++ (wCfg cy (cs 5) (bs 5) (RG 5) (nI (rn 5)) (RS 5) ++ (wCfg cy c1 b1 G1 (nI n1) sc1)))))))) sz)) (va_Qv (fun _ => True) (fun (u : Unit) t => va_P (dC, dI) vwCl (wHis cy h0 rg 2 kk cs bs RG rn RS ++ wCfg cy c1 b1 (cpG G1 (RG 2) (rn 2)) (nI (rn 2)) (RS 2)) t.heap ∧ va_D (va_A ([(h0, .inr (1, [.ref rg, .int (nI 3), .int (nI (kk + 1))])), (rg, .inl ((cy 1), 6, .inr (.inr (.inr (.inr (fun j => some (cs j)))))))] ++ (wCfg cy (cs 0) (bs 0) (RG 0) (nI (rn 0)) (RS 0) ++ (wCfg cy (cs 1) (bs 1) (RG 1) (nI (rn 1)) (RS 1) ++ (wCfg cy (cs 2) (bs 2) (RG 2) (nI (rn 2)) (RS 2) ++ (wCfg cy (cs 3) (bs 3) (RG 3) (nI (rn 3)) (RS 3) ++ (wCfg cy (cs 4) (bs 4) (RG 4) (nI (rn 4)) (RS 4) ++ (wCfg cy (cs 5) (bs 5) (RG 5) (nI (rn 5)) (RS 5) ++ (wCfg cy c1 b1 G1 (nI n1) sc1)))))))) sz) (wHis cy h0 rg 2 kk cs bs RG rn RS ++ wCfg cy c1 b1 (cpG G1 (RG 2) (rn 2)) (nI (rn 2)) (RS 2))) (va_A ([(h0, .inr (1, [.ref rg, .int (nI 3), .int (nI (kk + 1))])), (rg, .inl ((cy 1), 6, .inr (.inr (.inr (.inr (fun j => some (cs j)))))))] ++ (wCfg cy (cs 0) (bs 0) (RG 0) (nI (rn 0)) (RS 0) ++ (wCfg cy (cs 1) (bs 1) (RG 1) (nI (rn 1)) (RS 1) ++ (wCfg cy (cs 2) (bs 2) (RG 2) (nI (rn 2)) (RS 2) ++ (wCfg cy (cs 3) (bs 3) (RG 3) (nI (rn 3)) (RS 3) ++ (wCfg cy (cs 4) (bs 4) (RG 4) (nI (rn 4)) (RS 4) ++ (wCfg cy (cs 5) (bs 5) (RG 5) (nI (rn 5)) (RS 5) ++ (wCfg cy c1 b1 G1 (nI n1) sc1)))))))) sz)) 0 0 (va_A ([(h0, .inr (1, [.ref rg, .int (nI 3), .int (nI (kk + 1))])), (rg, .inl ((cy 1), 6, .inr (.inr (.inr (.inr (fun j => some (cs j)))))))] ++ (wCfg cy (cs 0) (bs 0) (RG 0) (nI (rn 0)) (RS 0) ++ (wCfg cy (cs 1) (bs 1) (RG 1) (nI (rn 1)) (RS 1) ++ (wCfg cy (cs 2) (bs 2) (RG 2) (nI (rn 2)) (RS 2) ++ (wCfg cy (cs 3) (bs 3) (RG 3) (nI (rn 3)) (RS 3) ++ (wCfg cy (cs 4) (bs 4) (RG 4) (nI (rn 4)) (RS 4) ++ (wCfg cy (cs 5) (bs 5) (RG 5) (nI (rn 5)) (RS 5) ++ (wCfg cy c1 b1 G1 (nI n1) sc1)))))))) sz) := by
  refine Met.ofW (cc := cX1_takeBackInto) (maxL := 2) (ret := none) (by decide) rfl ?_
  intro p e s m args below meth c s₁ B hml hv
  obtain ⟨rfl, hsz, hP, hE, hD0⟩ := hv
  have hK := hE.1
  subst hsz
  have hD := hD0.self (sz := s.heap.size)
  generalize hAe : va_A ([(h0, .inr (1, [.ref rg, .int (nI 3), .int (nI (kk + 1))])), (rg, .inl ((cy 1), 6, .inr (.inr (.inr (.inr (fun j => some (cs j)))))))] ++ (wCfg cy (cs 0) (bs 0) (RG 0) (nI (rn 0)) (RS 0) ++ (wCfg cy (cs 1) (bs 1) (RG 1) (nI (rn 1)) (RS 1) ++ (wCfg cy (cs 2) (bs 2) (RG 2) (nI (rn 2)) (RS 2) ++ (wCfg cy (cs 3) (bs 3) (RG 3) (nI (rn 3)) (RS 3) ++ (wCfg cy (cs 4) (bs 4) (RG 4) (nI (rn 4)) (RS 4) ++ (wCfg cy (cs 5) (bs 5) (RG 5) (nI (rn 5)) (RS 5) ++ (wCfg cy c1 b1 G1 (nI n1) sc1)))))))) s.heap.size = A at hD ⊢
  have hA : ∀ q : Nat, s.heap.size ≤ q → A q := fun q h => by rw [← hAe]; exact Or.inr h
  have hS : va_S A s.heap s.heap [] := va_S.rf
  have hP : va_P (dC, dI) vwCl ([(h0, .inr (1, [.ref rg, .int (nI 3), .int (nI (kk + 1))])), (rg, .inl ((cy 1), 6, .inr (.inr (.inr (.inr (fun j => some (cs j)))))))] ++ (wCfg cy (cs 0) (bs 0) (RG 0) (nI (rn 0)) (RS 0) ++ (wCfg cy (cs 1) (bs 1) (RG 1) (nI (rn 1)) (RS 1) ++ (wCfg cy (cs 2) (bs 2) (RG 2) (nI (rn 2)) (RS 2) ++ (wCfg cy (cs 3) (bs 3) (RG 3) (nI (rn 3)) (RS 3) ++ (wCfg cy (cs 4) (bs 4) (RG 4) (nI (rn 4)) (RS 4) ++ (wCfg cy (cs 5) (bs 5) (RG 5) (nI (rn 5)) (RS 5) ++ (wCfg cy c1 b1 G1 (nI n1) sc1)))))))) s.heap := hP
  have hx := B.exec
  have hb := B.bytes
  have hr := B.returns
  have hts := atoms_spec (ws := wsX1_takeBackInto) B.pre
  have hown : s.vm.findClass RX1 = some m.cls := findClass_of_methodNamed B.named
  have hlocks := B.notSynchronized
  have hin1 : ∀ w ∈ u_ws RX1 TX1 3, w ∈ wsX1_takeBackInto := by decide +kernel
  have f_11 := hts (.fieldLink RX1 11 "DeadlineAdmission$History" "ring" "[LDeadlineAdmission$Configuration;") (by decide +kernel)
  have f_18 := hts (.fieldLink RX1 18 "DeadlineAdmission$History" "next" "I") (by decide +kernel)
  have f_26 := hts (.fieldLink RX1 26 "DeadlineAdmission$History" "kept" "I") (by decide +kernel)
  have hl := lv_entry ([.ref h0, .ref c1]) (n := 2) (Nat.le_of_ble_eq_true rfl)
  rw [lg_entry_eq]
  generalize (lg_sl ([.ref h0, .ref c1]) ++ List.replicate (2 - (lg_sl ([.ref h0, .ref c1])).length) Slot.unset).toArray = ls at hl ⊢
  have hl : lv_has ls 2 [(0, .ref h0), (1, .ref c1)] := hl
  refine lv_aload_n hx hb dX1_takeBackInto_0 rfl (lv_at hl 0 rfl) ?_
  refine lv_aload_n hx hb dX1_takeBackInto_1 rfl (lv_at hl 0 rfl) ?_
  refine va_get (D := (dC, dI)) (ci := 1) (v := .int (nI 3)) (C := RX1) (T := TX1) (N := 3) hx hb hts hin1 hown hK hP 0 rfl rfl 1 (by decide) f_18 (fun _ h9 => h9) rfl dX1_takeBackInto_2 ?_
  refine lv_bipush (v := 6) hx hb dX1_takeBackInto_5 (by decide) ?_
  refine lv_iadd hx hb dX1_takeBackInto_7 ?_
  refine lv_iconst (v := 1) hx hb dX1_takeBackInto_8 (by decide) ?_
  refine lv_isub hx hb dX1_takeBackInto_9 ?_
  refine lv_bipush (v := 6) hx hb dX1_takeBackInto_10 (by decide) ?_
  refine lv_irem hx hb dX1_takeBackInto_12 (by decide) ?_
  refine lv_topi (fun y_ ey_ => ?_)
  obtain rfl : y_ = nI 2 := ey_.trans (by decide)
  refine va_put (D := (dC, dI)) (ci := 1) (v := .int (nI 2)) (ty := .int) (C := RX1) (T := TX1) (N := 3) hx hb hts hin1 tyX1 tyX1_ok nmX1 hown hK hP hD hS 0 rfl rfl 1 (by decide) f_18 (fun _ h9 => h9) rfl (by decide +kernel) rfl rfl (Nat.le_of_ble_eq_true rfl) dX1_takeBackInto_13 (fun H locs hP hD hS => ?_)
  have hP : va_P (dC, dI) vwCl ([(h0, .inr (1, [.ref rg, .int (nI 2), .int (nI (kk + 1))])), (rg, .inl ((cy 1), 6, .inr (.inr (.inr (.inr (fun j => some (cs j)))))))] ++ (wCfg cy (cs 0) (bs 0) (RG 0) (nI (rn 0)) (RS 0) ++ (wCfg cy (cs 1) (bs 1) (RG 1) (nI (rn 1)) (RS 1) ++ (wCfg cy (cs 2) (bs 2) (RG 2) (nI (rn 2)) (RS 2) ++ (wCfg cy (cs 3) (bs 3) (RG 3) (nI (rn 3)) (RS 3) ++ (wCfg cy (cs 4) (bs 4) (RG 4) (nI (rn 4)) (RS 4) ++ (wCfg cy (cs 5) (bs 5) (RG 5) (nI (rn 5)) (RS 5) ++ (wCfg cy c1 b1 G1 (nI n1) sc1)))))))) H := hP
  have hD : va_D A ([(h0, .inr (1, [.ref rg, .int (nI 2), .int (nI (kk + 1))])), (rg, .inl ((cy 1), 6, .inr (.inr (.inr (.inr (fun j => some (cs j)))))))] ++ (wCfg cy (cs 0) (bs 0) (RG 0) (nI (rn 0)) (RS 0) ++ (wCfg cy (cs 1) (bs 1) (RG 1) (nI (rn 1)) (RS 1) ++ (wCfg cy (cs 2) (bs 2) (RG 2) (nI (rn 2)) (RS 2) ++ (wCfg cy (cs 3) (bs 3) (RG 3) (nI (rn 3)) (RS 3) ++ (wCfg cy (cs 4) (bs 4) (RG 4) (nI (rn 4)) (RS 4) ++ (wCfg cy (cs 5) (bs 5) (RG 5) (nI (rn 5)) (RS 5) ++ (wCfg cy c1 b1 G1 (nI n1) sc1)))))))) := hD
  refine lv_aload_n hx hb dX1_takeBackInto_16 rfl (lv_at hl 0 rfl) ?_
  refine lv_dup hx hb dX1_takeBackInto_17 rfl ?_
  refine va_get (D := (dC, dI)) (ci := 1) (v := .int (nI (kk + 1))) (C := RX1) (T := TX1) (N := 3) hx hb hts hin1 hown hK hP 0 rfl rfl 2 (by decide) f_26 (fun _ h9 => h9) rfl dX1_takeBackInto_18 ?_
  refine lv_iconst (v := 1) hx hb dX1_takeBackInto_21 (by decide) ?_
  refine lv_isub hx hb dX1_takeBackInto_22 ?_
  refine lv_topi (fun y_ ey_ => ?_)
  obtain rfl : y_ = nI kk := ey_.trans (nI_pred kk)
  refine va_put (D := (dC, dI)) (ci := 1) (v := .int (nI kk)) (ty := .int) (C := RX1) (T := TX1) (N := 3) hx hb hts hin1 tyX1 tyX1_ok nmX1 hown hK hP hD hS 0 rfl rfl 2 (by decide) f_26 (fun _ h9 => h9) rfl (by decide +kernel) rfl rfl (Nat.le_of_ble_eq_true rfl) dX1_takeBackInto_23 (fun H locs hP hD hS => ?_)
  have hP : va_P (dC, dI) vwCl ([(h0, .inr (1, [.ref rg, .int (nI 2), .int (nI kk)])), (rg, .inl ((cy 1), 6, .inr (.inr (.inr (.inr (fun j => some (cs j)))))))] ++ (wCfg cy (cs 0) (bs 0) (RG 0) (nI (rn 0)) (RS 0) ++ (wCfg cy (cs 1) (bs 1) (RG 1) (nI (rn 1)) (RS 1) ++ (wCfg cy (cs 2) (bs 2) (RG 2) (nI (rn 2)) (RS 2) ++ (wCfg cy (cs 3) (bs 3) (RG 3) (nI (rn 3)) (RS 3) ++ (wCfg cy (cs 4) (bs 4) (RG 4) (nI (rn 4)) (RS 4) ++ (wCfg cy (cs 5) (bs 5) (RG 5) (nI (rn 5)) (RS 5) ++ (wCfg cy c1 b1 G1 (nI n1) sc1)))))))) H := hP
  have hD : va_D A ([(h0, .inr (1, [.ref rg, .int (nI 2), .int (nI kk)])), (rg, .inl ((cy 1), 6, .inr (.inr (.inr (.inr (fun j => some (cs j)))))))] ++ (wCfg cy (cs 0) (bs 0) (RG 0) (nI (rn 0)) (RS 0) ++ (wCfg cy (cs 1) (bs 1) (RG 1) (nI (rn 1)) (RS 1) ++ (wCfg cy (cs 2) (bs 2) (RG 2) (nI (rn 2)) (RS 2) ++ (wCfg cy (cs 3) (bs 3) (RG 3) (nI (rn 3)) (RS 3) ++ (wCfg cy (cs 4) (bs 4) (RG 4) (nI (rn 4)) (RS 4) ++ (wCfg cy (cs 5) (bs 5) (RG 5) (nI (rn 5)) (RS 5) ++ (wCfg cy c1 b1 G1 (nI n1) sc1)))))))) := hD
  refine lv_aload_n hx hb dX1_takeBackInto_26 rfl (lv_at hl 1 rfl) ?_
  refine lv_aload_n hx hb dX1_takeBackInto_27 rfl (lv_at hl 0 rfl) ?_
  refine va_get (D := (dC, dI)) (ci := 1) (v := .ref rg) (C := RX1) (T := TX1) (N := 3) hx hb hts hin1 hown hK hP 0 rfl rfl 0 (by decide) f_11 (fun _ h9 => h9) rfl dX1_takeBackInto_28 ?_
  refine lv_aload_n hx hb dX1_takeBackInto_31 rfl (lv_at hl 0 rfl) ?_
  refine va_get (D := (dC, dI)) (ci := 1) (v := .int (nI 2)) (C := RX1) (T := TX1) (N := 3) hx hb hts hin1 hown hK hP 0 rfl rfl 1 (by decide) f_18 (fun _ h9 => h9) rfl dX1_takeBackInto_32 ?_
  refine wA_ald (q := (cs 2)) hx hb hK hP 1 1 rfl rfl 2 rfl (by omega) (by decide) rfl dX1_takeBackInto_35 ?_
  have hPc := hP.sub (ws' := wCfg cy c1 b1 G1 (nI n1) sc1 ++ (wCfg cy (cs 2) (bs 2) (RG 2) (nI (rn 2)) (RS 2))) [50, 51, 52, 53, 54, 55, 56, 57, 18, 19, 20, 21, 22, 23, 24, 25] rfl
  have hDc := hD.sub (ws' := wCfg cy c1 b1 G1 (nI n1) sc1 ++ (wCfg cy (cs 2) (bs 2) (RG 2) (nI (rn 2)) (RS 2))) [50, 51, 52, 53, 54, 55, 56, 57, 18, 19, 20, 21, 22, 23, 24, 25] (by decide) rfl
  have hFc := va_free (wc := wCfg cy c1 b1 G1 (nI n1) sc1 ++ (wCfg cy (cs 2) (bs 2) (RG 2) (nI (rn 2)) (RS 2))) hD hS hA [50, 51, 52, 53, 54, 55, 56, 57, 18, 19, 20, 21, 22, 23, 24, 25] rfl
  refine va_callv (va_runV (As := [.ref (cs 2)]) (rest := []) ⟨hx, hb, hml, hown, hts⟩ (c_X0_copyFrom l dC dI cy H.size c1 b1 G1 (nI n1) sc1 (cs 2) (bs 2) (RG 2) (rn 2) hn1 (RS 2)) (cwV 1 hts gX1_takeBackInto_X0_copyFrom rfl rfl rfl (by decide +kernel) ⟨Nat.le_of_ble_eq_true rfl, Nat.le_of_ble_eq_true rfl⟩) ⟨bl_in, va_recv hK hPc (ci := 0) (q0 := 0) rfl rfl, pr_in hPc hE hDc⟩ rfl rfl hl.1 rfl (lv_room (Nat.le_of_ble_eq_true rfl)) dX1_takeBackInto_36 ⟨Nat.le_of_ble_eq_true rfl, Nat.le_of_ble_eq_true rfl⟩) hS (fun q _ h => hFc q h) hFc (fun u t H1 locs ht hvm hw hB hz1 hk1 hS => ?_)
  obtain ⟨hP1, hD1⟩ := hB
  rw [ht] at hP1
  obtain ⟨hP, hD⟩ := va_join (wr := [(h0, .inr (1, [.ref rg, .int (nI 2), .int (nI kk)])), (rg, .inl ((cy 1), 6, .inr (.inr (.inr (.inr (fun j => some (cs j)))))))] ++ (wCfg cy (cs 0) (bs 0) (RG 0) (nI (rn 0)) (RS 0) ++ (wCfg cy (cs 1) (bs 1) (RG 1) (nI (rn 1)) (RS 1) ++ (wCfg cy (cs 3) (bs 3) (RG 3) (nI (rn 3)) (RS 3) ++ (wCfg cy (cs 4) (bs 4) (RG 4) (nI (rn 4)) (RS 4) ++ (wCfg cy (cs 5) (bs 5) (RG 5) (nI (rn 5)) (RS 5))))))) (w1 := wCfg cy c1 b1 (cpG G1 (RG 2) (rn 2)) (nI (rn 2)) (RS 2) ++ (wCfg cy (cs 2) (bs 2) (RG 2) (nI (rn 2)) (RS 2))) hP hD [50, 51, 52, 53, 54, 55, 56, 57, 18, 19, 20, 21, 22, 23, 24, 25] [0, 1, 2, 3, 4, 5, 6, 7, 8, 9, 10, 11, 12, 13, 14, 15, 16, 17, 26, 27, 28, 29, 30, 31, 32, 33, 34, 35, 36, 37, 38, 39, 40, 41, 42, 43, 44, 45, 46, 47, 48, 49] rfl rfl (by decide) (by decide) hk1 hFc hP1 hD1
  have hP : va_P (dC, dI) vwCl ([(h0, .inr (1, [.ref rg, .int (nI 2), .int (nI kk)])), (rg, .inl ((cy 1), 6, .inr (.inr (.inr (.inr (fun j => some (cs j)))))))] ++ (wCfg cy (cs 0) (bs 0) (RG 0) (nI (rn 0)) (RS 0) ++ (wCfg cy (cs 1) (bs 1) (RG 1) (nI (rn 1)) (RS 1) ++ (wCfg cy (cs 2) (bs 2) (RG 2) (nI (rn 2)) (RS 2) ++ (wCfg cy (cs 3) (bs 3) (RG 3) (nI (rn 3)) (RS 3) ++ (wCfg cy (cs 4) (bs 4) (RG 4) (nI (rn 4)) (RS 4) ++ (wCfg cy (cs 5) (bs 5) (RG 5) (nI (rn 5)) (RS 5) ++ (wCfg cy c1 b1 (cpG G1 (RG 2) (rn 2)) (nI (rn 2)) (RS 2))))))))) H1 := hP.sub [0, 1, 2, 3, 4, 5, 6, 7, 8, 9, 10, 11, 12, 13, 14, 15, 16, 17, 50, 51, 52, 53, 54, 55, 56, 57, 18, 19, 20, 21, 22, 23, 24, 25, 26, 27, 28, 29, 30, 31, 32, 33, 34, 35, 36, 37, 38, 39, 40, 41, 42, 43, 44, 45, 46, 47, 48, 49] rfl
  have hD : va_D A ([(h0, .inr (1, [.ref rg, .int (nI 2), .int (nI kk)])), (rg, .inl ((cy 1), 6, .inr (.inr (.inr (.inr (fun j => some (cs j)))))))] ++ (wCfg cy (cs 0) (bs 0) (RG 0) (nI (rn 0)) (RS 0) ++ (wCfg cy (cs 1) (bs 1) (RG 1) (nI (rn 1)) (RS 1) ++ (wCfg cy (cs 2) (bs 2) (RG 2) (nI (rn 2)) (RS 2) ++ (wCfg cy (cs 3) (bs 3) (RG 3) (nI (rn 3)) (RS 3) ++ (wCfg cy (cs 4) (bs 4) (RG 4) (nI (rn 4)) (RS 4) ++ (wCfg cy (cs 5) (bs 5) (RG 5) (nI (rn 5)) (RS 5) ++ (wCfg cy c1 b1 (cpG G1 (RG 2) (rn 2)) (nI (rn 2)) (RS 2))))))))) := hD.sub [0, 1, 2, 3, 4, 5, 6, 7, 8, 9, 10, 11, 12, 13, 14, 15, 16, 17, 50, 51, 52, 53, 54, 55, 56, 57, 18, 19, 20, 21, 22, 23, 24, 25, 26, 27, 28, 29, 30, 31, 32, 33, 34, 35, 36, 37, 38, 39, 40, 41, 42, 43, 44, 45, 46, 47, 48, 49] (by decide) rfl
  clear hz1 hk1 hPc hDc hFc hP1 hD1
  generalize H1 = H at hP hS ⊢
  have hP9 : va_P (dC, dI) vwCl (wHis cy h0 rg 2 kk cs bs RG rn RS ++ wCfg cy c1 b1 (cpG G1 (RG 2) (rn 2)) (nI (rn 2)) (RS 2)) H := hP
  have hD9 : va_D A (wHis cy h0 rg 2 kk cs bs RG rn RS ++ wCfg cy c1 b1 (cpG G1 (RG 2) (rn 2)) (nI (rn 2)) (RS 2)) := hD
  exact W.vret hx hb hr (fun t ht hW => ⟨⟨(), rfl, trivial, by rw [ht]; exact hP9, hD9⟩, hS.F ht⟩) hS.2.2 dX1_takeBackInto_39
set_option maxHeartbeats 1000000 in
set_option maxRecDepth 100000 in
/-- the latest of the ring, from place 4 -/
theorem c_X1_takeBackInto_4 (l : Launch) (dC : Nat → ClassId) (dI : Nat → Nat → Nat) (cy : Nat → ClassId) (sz : Nat) (h0 rg : Nat) (kk : Nat) (cs : Nat → Nat) (bs : Nat → Nat → Nat) (RG : Nat → vG) (rn : Nat → Nat) (RS : Nat → Int32) (c1 : Nat) (b1 : Nat → Nat) (G1 : vG) (n1 : Nat) (sc1 : Int32) (hn1 : rn 3 ≤ 8) : Met l yX1_takeBackInto wsX1_takeBackInto ({ frames := 2, cells := 0, slots := 0, locals := 45 }) (va_Pc [.ref h0, .ref c1] (pIn dC dI cy ([(h0, .inr (1, [.ref rg, .int (nI 4), .int (nI (kk + 1))])), (rg, .inl ((cy 1), 6, .inr (.inr (.inr (.inr (fun j => some (cs j)))))))] ++ (wCfg cy (cs 0) (bs 0) (RG 0) (nI (rn 0)) (RS 0) ++ (wCfg cy (cs 1) (bs 1) (RG 1) (nI (rn 1)) (RS 1) ++ (wCfg cy (cs 2) (bs 2) (RG 2) (nI (rn 2)) (RS 2) ++ (wCfg cy (cs 3) (bs 3) (RG 3) (nI (rn 3)) (RS 3) ++ (wCfg cy (cs 4) (bs 4) (RG 4) (nI (rn 4)) (RS 4) ++ (wCfg cy (cs 5) (bs 5) (RG 5) (nI (rn 5)) (RS 5) ++ (wCfg cy c1 b1 G1 (nI n1) sc1)))))))) sz)) (va_Qv (fun _ => True) (fun (u : Unit) t => va_P (dC, dI) vwCl (wHis cy h0 rg 3 kk cs bs RG rn RS ++ wCfg cy c1 b1 (cpG G1 (RG 3) (rn 3)) (nI (rn 3)) (RS 3)) t.heap ∧ va_D (va_A ([(h0, .inr (1, [.ref rg, .int (nI 4), .int (nI (kk + 1))])), (rg, .inl ((cy 1), 6, .inr (.inr (.inr (.inr (fun j => some (cs j)))))))] ++ (wCfg cy (cs 0) (bs 0) (RG 0) (nI (rn 0)) (RS 0) ++ (wCfg cy (cs 1) (bs 1) (RG 1) (nI (rn 1)) (RS 1) ++ (wCfg cy (cs 2) (bs 2) (RG 2) (nI (rn 2)) (RS 2) ++ (wCfg cy (cs 3) (bs 3) (RG 3) (nI (rn 3)) (RS 3) ++ (wCfg cy (cs 4) (bs 4) (RG 4) (nI (rn 4)) (RS 4) ++ (wCfg cy (cs 5) (bs 5) (RG 5) (nI (rn 5)) (RS 5) ++ (wCfg cy c1 b1 G1 (nI n1) sc1)))))))) sz) (wHis cy h0 rg 3 kk cs bs RG rn RS ++ wCfg cy c1 b1 (cpG G1 (RG 3) (rn 3)) (nI (rn 3)) (RS 3))) (va_A ([(h0, .inr (1, [.ref rg, .int (nI 4), .int (nI (kk + 1))])), (rg, .inl ((cy 1), 6, .inr (.inr (.inr (.inr (fun j => some (cs j)))))))] ++ (wCfg cy (cs 0) (bs 0) (RG 0) (nI (rn 0)) (RS 0) ++ (wCfg cy (cs 1) (bs 1) (RG 1) (nI (rn 1)) (RS 1) ++ (wCfg cy (cs 2) (bs 2) (RG 2) (nI (rn 2)) (RS 2) ++ (wCfg cy (cs 3) (bs 3) (RG 3) (nI (rn 3)) (RS 3) ++ (wCfg cy (cs 4) (bs 4) (RG 4) (nI (rn 4)) (RS 4) ++ (wCfg cy (cs 5) (bs 5) (RG 5) (nI (rn 5)) (RS 5) ++ (wCfg cy c1 b1 G1 (nI n1) sc1)))))))) sz)) 0 0 (va_A ([(h0, .inr (1, [.ref rg, .int (nI 4), .int (nI (kk + 1))])), (rg, .inl ((cy 1), 6, .inr (.inr (.inr (.inr (fun j => some (cs j)))))))] ++ (wCfg cy (cs 0) (bs 0) (RG 0) (nI (rn 0)) (RS 0) ++ (wCfg cy (cs 1) (bs 1) (RG 1) (nI (rn 1)) (RS 1) ++ (wCfg cy (cs 2) (bs 2) (RG 2) (nI (rn 2)) (RS 2) ++ (wCfg cy (cs 3) (bs 3) (RG 3) (nI (rn 3)) (RS 3) ++ (wCfg cy (cs 4) (bs 4) (RG 4) (nI (rn 4)) (RS 4) ++ (wCfg cy (cs 5) (bs 5) (RG 5) (nI (rn 5)) (RS 5) ++ (wCfg cy c1 b1 G1 (nI n1) sc1)))))))) sz) := by
  refine Met.ofW (cc := cX1_takeBackInto) (maxL := 2) (ret := none) (by decide) rfl ?_
  intro p e s m args below meth c s₁ B hml hv
  obtain ⟨rfl, hsz, hP, hE, hD0⟩ := hv
  have hK := hE.1
  subst hsz
  have hD := hD0.self (sz := s.heap.size)
  generalize hAe : va_A ([(h0, .inr (1, [.ref rg, .int (nI 4), .int (nI (kk + 1))])), (rg, .inl ((cy 1), 6, .inr (.inr (.inr (.inr (fun j => some (cs j)))))))] ++ (wCfg cy (cs 0) (bs 0) (RG 0) (nI (rn 0)) (RS 0) ++ (wCfg cy (cs 1) (bs 1) (RG 1) (nI (rn 1)) (RS 1) ++ (wCfg cy (cs 2) (bs 2) (RG 2) (nI (rn 2)) (RS 2) ++ (wCfg cy (cs 3) (bs 3) (RG 3) (nI (rn 3)) (RS 3) ++ (wCfg cy (cs 4) (bs 4) (RG 4) (nI (rn 4)) (RS 4) ++ (wCfg cy (cs 5) (bs 5) (RG 5) (nI (rn 5)) (RS 5) ++ (wCfg cy c1 b1 G1 (nI n1) sc1)))))))) s.heap.size = A at hD ⊢
  have hA : ∀ q : Nat, s.heap.size ≤ q → A q := fun q h => by rw [← hAe]; exact Or.inr h
  have hS : va_S A s.heap s.heap [] := va_S.rf
  have hP : va_P (dC, dI) vwCl ([(h0, .inr (1, [.ref rg, .int (nI 4), .int (nI (kk + 1))])), (rg, .inl ((cy 1), 6, .inr (.inr (.inr (.inr (fun j => some (cs j)))))))] ++ (wCfg cy (cs 0) (bs 0) (RG 0) (nI (rn 0)) (RS 0) ++ (wCfg cy (cs 1) (bs 1) (RG 1) (nI (rn 1)) (RS 1) ++ (wCfg cy (cs 2) (bs 2) (RG 2) (nI (rn 2)) (RS 2) ++ (wCfg cy (cs 3) (bs 3) (RG 3) (nI (rn 3)) (RS 3) ++ (wCfg cy (cs 4) (bs 4) (RG 4) (nI (rn 4)) (RS 4) ++ (wCfg cy (cs 5) (bs 5) (RG 5) (nI (rn 5)) (RS 5) ++ (wCfg cy c1 b1 G1 (nI n1) sc1)))))))) s.heap := hP
  have hx := B.exec
  have hb := B.bytes
  have hr := B.returns
  have hts := atoms_spec (ws := wsX1_takeBackInto) B.pre
  have hown : s.vm.findClass RX1 = some m.cls := findClass_of_methodNamed B.named
  have hlocks := B.notSynchronized
  have hin1 : ∀ w ∈ u_ws RX1 TX1 3, w ∈ wsX1_takeBackInto := by decide +kernel
  have f_11 := hts (.fieldLink RX1 11 "DeadlineAdmission$History" "ring" "[LDeadlineAdmission$Configuration;") (by decide +kernel)
  have f_18 := hts (.fieldLink RX1 18 "DeadlineAdmission$History" "next" "I") (by decide +kernel)
  have f_26 := hts (.fieldLink RX1 26 "DeadlineAdmission$History" "kept" "I") (by decide +kernel)
  have hl := lv_entry ([.ref h0, .ref c1]) (n := 2) (Nat.le_of_ble_eq_true rfl)
  rw [lg_entry_eq]
  generalize (lg_sl ([.ref h0, .ref c1]) ++ List.replicate (2 - (lg_sl ([.ref h0, .ref c1])).length) Slot.unset).toArray = ls at hl ⊢
  have hl : lv_has ls 2 [(0, .ref h0), (1, .ref c1)] := hl
  refine lv_aload_n hx hb dX1_takeBackInto_0 rfl (lv_at hl 0 rfl) ?_
  refine lv_aload_n hx hb dX1_takeBackInto_1 rfl (lv_at hl 0 rfl) ?_
  refine va_get (D := (dC, dI)) (ci := 1) (v := .int (nI 4)) (C := RX1) (T := TX1) (N := 3) hx hb hts hin1 hown hK hP 0 rfl rfl 1 (by decide) f_18 (fun _ h9 => h9) rfl dX1_takeBackInto_2 ?_
  refine lv_bipush (v := 6) hx hb dX1_takeBackInto_5 (by decide) ?_
  refine lv_iadd hx hb dX1_takeBackInto_7 ?_
  refine lv_iconst (v := 1) hx hb dX1_takeBackInto_8 (by decide) ?_
  refine lv_isub hx hb dX1_takeBackInto_9 ?_
  refine lv_bipush (v := 6) hx hb dX1_takeBackInto_10 (by decide) ?_
  refine lv_irem hx hb dX1_takeBackInto_12 (by decide) ?_
  refine lv_topi (fun y_ ey_ => ?_)
  obtain rfl : y_ = nI 3 := ey_.trans (by decide)
  refine va_put (D := (dC, dI)) (ci := 1) (v := .int (nI 3)) (ty := .int) (C := RX1) (T := TX1) (N := 3) hx hb hts hin1 tyX1 tyX1_ok nmX1 hown hK hP hD hS 0 rfl rfl 1 (by decide) f_18 (fun _ h9 => h9) rfl (by decide +kernel) rfl rfl (Nat.le_of_ble_eq_true rfl) dX1_takeBackInto_13 (fun H locs hP hD hS => ?_)
  have hP : va_P (dC, dI) vwCl ([(h0, .inr (1, [.ref rg, .int (nI 3), .int (nI (kk + 1))])), (rg, .inl ((cy 1), 6, .inr (.inr (.inr (.inr (fun j => some (cs j)))))))] ++ (wCfg cy (cs 0) (bs 0) (RG 0) (nI (rn 0)) (RS 0) ++ (wCfg cy (cs 1) (bs 1) (RG 1) (nI (rn 1)) (RS 1) ++ (wCfg cy (cs 2) (bs 2) (RG 2) (nI (rn 2)) (RS 2) ++ (wCfg cy (cs 3) (bs 3) (RG 3) (nI (rn 3)) (RS 3) ++ (wCfg cy (cs 4) (bs 4) (RG 4) (nI (rn 4)) (RS 4) ++ (wCfg cy (cs 5) (bs 5) (RG 5) (nI (rn 5)) (RS 5) ++ (wCfg cy c1 b1 G1 (nI n1) sc1)))))))) H := hP
  have hD : va_D A ([(h0, .inr (1, [.ref rg, .int (nI 3), .int (nI (kk + 1))])), (rg, .inl ((cy 1), 6, .inr (.inr (.inr (.inr (fun j => some (cs j)))))))] ++ (wCfg cy (cs 0) (bs 0) (RG 0) (nI (rn 0)) (RS 0) ++ (wCfg cy (cs 1) (bs 1) (RG 1) (nI (rn 1)) (RS 1) ++ (wCfg cy (cs 2) (bs 2) (RG 2) (nI (rn 2)) (RS 2) ++ (wCfg cy (cs 3) (bs 3) (RG 3) (nI (rn 3)) (RS 3) ++ (wCfg cy (cs 4) (bs 4) (RG 4) (nI (rn 4)) (RS 4) ++ (wCfg cy (cs 5) (bs 5) (RG 5) (nI (rn 5)) (RS 5) ++ (wCfg cy c1 b1 G1 (nI n1) sc1)))))))) := hD
  refine lv_aload_n hx hb dX1_takeBackInto_16 rfl (lv_at hl 0 rfl) ?_
  refine lv_dup hx hb dX1_takeBackInto_17 rfl ?_
  refine va_get (D := (dC, dI)) (ci := 1) (v := .int (nI (kk + 1))) (C := RX1) (T := TX1) (N := 3) hx hb hts hin1 hown hK hP 0 rfl rfl 2 (by decide) f_26 (fun _ h9 => h9) rfl dX1_takeBackInto_18 ?_
  refine lv_iconst (v := 1) hx hb dX1_takeBackInto_21 (by decide) ?_
  refine lv_isub hx hb dX1_takeBackInto_22 ?_
  refine lv_topi (fun y_ ey_ => ?_)
  obtain rfl : y_ = nI kk := ey_.trans (nI_pred kk)
  refine va_put (D := (dC, dI)) (ci := 1) (v := .int (nI kk)) (ty := .int) (C := RX1) (T := TX1) (N := 3) hx hb hts hin1 tyX1 tyX1_ok nmX1 hown hK hP hD hS 0 rfl rfl 2 (by decide) f_26 (fun _ h9 => h9) rfl (by decide +kernel) rfl rfl (Nat.le_of_ble_eq_true rfl) dX1_takeBackInto_23 (fun H locs hP hD hS => ?_)
  have hP : va_P (dC, dI) vwCl ([(h0, .inr (1, [.ref rg, .int (nI 3), .int (nI kk)])), (rg, .inl ((cy 1), 6, .inr (.inr (.inr (.inr (fun j => some (cs j)))))))] ++ (wCfg cy (cs 0) (bs 0) (RG 0) (nI (rn 0)) (RS 0) ++ (wCfg cy (cs 1) (bs 1) (RG 1) (nI (rn 1)) (RS 1) ++ (wCfg cy (cs 2) (bs 2) (RG 2) (nI (rn 2)) (RS 2) ++ (wCfg cy (cs 3) (bs 3) (RG 3) (nI (rn 3)) (RS 3) ++ (wCfg cy (cs 4) (bs 4) (RG 4) (nI (rn 4)) (RS 4) ++ (wCfg cy (cs 5) (bs 5) (RG 5) (nI (rn 5)) (RS 5) ++ (wCfg cy c1 b1 G1 (nI n1) sc1)))))))) H := hP
  have hD : va_D A ([(h0, .inr (1, [.ref rg, .int (nI 3), .int (nI kk)])), (rg, .inl ((cy 1), 6, .inr (.inr (.inr (.inr (fun j => some (cs j)))))))] ++ (wCfg cy (cs 0) (bs 0) (RG 0) (nI (rn 0)) (RS 0) ++ (wCfg cy (cs 1) (bs 1) (RG 1) (nI (rn 1)) (RS 1) ++ (wCfg cy (cs 2) (bs 2) (RG 2) (nI (rn 2)) (RS 2) ++ (wCfg cy (cs 3) (bs 3) (RG 3) (nI (rn 3)) (RS 3) ++ (wCfg cy (cs 4) (bs 4) (RG 4) (nI (rn 4)) (RS 4) ++ (wCfg cy (cs 5) (bs 5) (RG 5) (nI (rn 5)) (RS 5) ++ (wCfg cy c1 b1 G1 (nI n1) sc1)))))))) := hD
  refine lv_aload_n hx hb dX1_takeBackInto_26 rfl (lv_at hl 1 rfl) ?_
  refine lv_aload_n hx hb dX1_takeBackInto_27 rfl (lv_at hl 0 rfl) ?_
  refine va_get (D := (dC, dI)) (ci := 1) (v := .ref rg) (C := RX1) (T := TX1) (N := 3) hx hb hts hin1 hown hK hP 0 rfl rfl 0 (by decide) f_11 (fun _ h9 => h9) rfl dX1_takeBackInto_28 ?_
  refine lv_aload_n hx hb dX1_takeBackInto_31 rfl (lv_at hl 0 rfl) ?_
  refine va_get (D := (dC, dI)) (ci := 1) (v := .int (nI 3)) (C := RX1) (T := TX1) (N := 3) hx hb hts hin1 hown hK hP 0 rfl rfl 1 (by decide) f_18 (fun _ h9 => h9) rfl dX1_takeBackInto_32 ?_
  refine wA_ald (q := (cs 3)) hx hb hK hP 1 1 rfl rfl 3 rfl (by omega) (by decide) rfl dX1_takeBackInto_35 ?_
  have hPc := hP.sub (ws' := wCfg cy c1 b1 G1 (nI n1) sc1 ++ (wCfg cy (cs 3) (bs 3) (RG 3) (nI (rn 3)) (RS 3))) [50, 51, 52, 53, 54, 55, 56, 57, 26, 27, 28, 29, 30, 31, 32, 33] rfl
  have hDc := hD.sub (ws' := wCfg cy c1 b1 G1 (nI n1) sc1 ++ (wCfg cy (cs 3) (bs 3) (RG 3) (nI (rn 3)) (RS 3))) [50, 51, 52, 53, 54, 55, 56, 57, 26, 27, 28, 29, 30, 31, 32, 33] (by decide) rfl
  have hFc := va_free (wc := wCfg cy c1 b1 G1 (nI n1) sc1 ++ (wCfg cy (cs 3) (bs 3) (RG 3) (nI (rn 3)) (RS 3))) hD hS hA [50, 51, 52, 53, 54, 55, 56, 57, 26, 27, 28, 29, 30, 31, 32, 33] rfl
  refine va_callv (va_runV (As := [.ref (cs 3)]) (rest := []) ⟨hx, hb, hml, hown, hts⟩ (c_X0_copyFrom l dC dI cy H.size c1 b1 G1 (nI n1) sc1 (cs 3) (bs 3) (RG 3) (rn 3) hn1 (RS 3)) (cwV 1 hts gX1_takeBackInto_X0_copyFrom rfl rfl rfl (by decide +kernel) ⟨Nat.le_of_ble_eq_true rfl, Nat.le_of_ble_eq_true rfl⟩) ⟨bl_in, va_recv hK hPc (ci := 0) (q0 := 0) rfl rfl, pr_in hPc hE hDc⟩ rfl rfl hl.1 rfl (lv_room (Nat.le_of_ble_eq_true rfl)) dX1_takeBackInto_36 ⟨Nat.le_of_ble_eq_true rfl, Nat.le_of_ble_eq_true rfl⟩) hS (fun q _ h => hFc q h) hFc (fun u t H1 locs ht hvm hw hB hz1 hk1 hS => ?_)
  obtain ⟨hP1, hD1⟩ := hB
  rw [ht] at hP1
  obtain ⟨hP, hD⟩ := va_join (wr := [(h0, .inr (1, [.ref rg, .int (nI 3), .int (nI kk)])), (rg, .inl ((cy 1), 6, .inr (.inr (.inr (.inr (fun j => some (cs j)))))))] ++ (wCfg cy (cs 0) (bs 0) (RG 0) (nI (rn 0)) (RS 0) ++ (wCfg cy (cs 1) (bs 1) (RG 1) (nI (rn 1)) (RS 1) ++ (wCfg cy (cs 2) (bs 2) (RG 2) (nI (rn 2)) (RS 2) ++ (wCfg cy (cs 4) (bs 4) (RG 4) (nI (rn 4)) (RS 4) ++ (wCfg cy (cs 5) (bs 5) (RG 5) (nI (rn 5)) (RS 5))))))) (w1 := wCfg cy c1 b1 (cpG G1 (RG 3) (rn 3)) (nI (rn 3)) (RS 3) ++ (wCfg cy (cs 3) (bs 3) (RG 3) (nI (rn 3)) (RS 3))) hP hD [50, 51, 52, 53, 54, 55, 56, 57, 26, 27, 28, 29, 30, 31, 32, 33] [0, 1, 2, 3, 4, 5, 6, 7, 8, 9, 10, 11, 12, 13, 14, 15, 16, 17, 18, 19, 20, 21, 22, 23, 24, 25, 34, 35, 36, 37, 38, 39, 40, 41, 42, 43, 44, 45, 46, 47, 48, 49] rfl rfl (by decide) (by decide) hk1 hFc hP1 hD1
  have hP : va_P (dC, dI) vwCl ([(h0, .inr (1, [.ref rg, .int (nI 3), .int (nI kk)])), (rg, .inl ((cy 1), 6, .inr (.inr (.inr (.inr (fun j => some (cs j)))))))] ++ (wCfg cy (cs 0) (bs 0) (RG 0) (nI (rn 0)) (RS 0) ++ (wCfg cy (cs 1) (bs 1) (RG 1) (nI (rn 1)) (RS 1) ++ (wCfg cy (cs 2) (bs 2) (RG 2) (nI (rn 2)) (RS 2) ++ (wCfg cy (cs 3) (bs 3) (RG 3) (nI (rn 3)) (RS 3) ++ (wCfg cy (cs 4) (bs 4) (RG 4) (nI (rn 4)) (RS 4) ++ (wCfg cy (cs 5) (bs 5) (RG 5) (nI (rn 5)) (RS 5) ++ (wCfg cy c1 b1 (cpG G1 (RG 3) (rn 3)) (nI (rn 3)) (RS 3))))))))) H1 := hP.sub [0, 1, 2, 3, 4, 5, 6, 7, 8, 9, 10, 11, 12, 13, 14, 15, 16, 17, 18, 19, 20, 21, 22, 23, 24, 25, 50, 51, 52, 53, 54, 55, 56, 57, 26, 27, 28, 29, 30, 31, 32, 33, 34, 35, 36, 37, 38, 39, 40, 41, 42, 43, 44, 45, 46, 47, 48, 49] rfl
  have hD : va_D A ([(h0, .inr (1, [.ref rg, .int (nI 3), .int (nI kk)])), (rg, .inl ((cy 1), 6, .inr (.inr (.inr (.inr (fun j => some (cs j)))))))] ++ (wCfg cy (cs 0) (bs 0) (RG 0) (nI (rn 0)) (RS 0) ++ (wCfg cy (cs 1) (bs 1) (RG 1) (nI (rn 1)) (RS 1) ++ (wCfg cy (cs 2) (bs 2) (RG 2) (nI (rn 2)) (RS 2) ++ (wCfg cy (cs 3) (bs 3) (RG 3) (nI (rn 3)) (RS 3) ++ (wCfg cy (cs 4) (bs 4) (RG 4) (nI (rn 4)) (RS 4) ++ (wCfg cy (cs 5) (bs 5) (RG 5) (nI (rn 5)) (RS 5) ++ (wCfg cy c1 b1 (cpG G1 (RG 3) (rn 3)) (nI (rn 3)) (RS 3))))))))) := hD.sub [0, 1, 2, 3, 4, 5, 6, 7, 8, 9, 10, 11, 12, 13, 14, 15, 16, 17, 18, 19, 20, 21, 22, 23, 24, 25, 50, 51, 52, 53, 54, 55, 56, 57, 26, 27, 28, 29, 30, 31, 32, 33, 34, 35, 36, 37, 38, 39, 40, 41, 42, 43, 44, 45, 46, 47, 48, 49] (by decide) rfl
  clear hz1 hk1 hPc hDc hFc hP1 hD1
  generalize H1 = H at hP hS ⊢
  have hP9 : va_P (dC, dI) vwCl (wHis cy h0 rg 3 kk cs bs RG rn RS ++ wCfg cy c1 b1 (cpG G1 (RG 3) (rn 3)) (nI (rn 3)) (RS 3)) H := hP
  have hD9 : va_D A (wHis cy h0 rg 3 kk cs bs RG rn RS ++ wCfg cy c1 b1 (cpG G1 (RG 3) (rn 3)) (nI (rn 3)) (RS 3)) := hD
  exact W.vret hx hb hr (fun t ht hW => ⟨⟨(), rfl, trivial, by rw [ht]; exact hP9, hD9⟩, hS.F ht⟩) hS.2.2 dX1_takeBackInto_39
set_option maxHeartbeats 1000000 in
set_option maxRecDepth 100000 in
/-- the latest of the ring, from place 5 -/
theorem c_X1_takeBackInto_5 (l : Launch) (dC : Nat → ClassId) (dI : Nat → Nat → Nat) (cy : Nat → ClassId) (sz : Nat) (h0 rg : Nat) (kk : Nat) (cs : Nat → Nat) (bs : Nat → Nat → Nat) (RG : Nat → vG) (rn : Nat → Nat) (RS : Nat → Int32) (c1 : Nat) (b1 : Nat → Nat) (G1 : vG) (n1 : Nat) (sc1 : Int32) (hn1 : rn 4 ≤ 8) : Met l yX1_takeBackInto wsX1_takeBackInto ({ frames := 2, cells := 0, slots := 0, locals := 45 }) (va_Pc [.ref h0, .ref c1] (pIn dC dI cy ([(h0, .inr (1, [.ref rg, .int (nI 5), .int (nI (kk + 1))])), (rg, .inl ((cy 1), 6, .inr (.inr (.inr (.inr (fun j => some (cs j)))))))] ++ (wCfg cy (cs 0) (bs 0) (RG 0) (nI (rn 0)) (RS 0) ++ (wCfg cy (cs 1) (bs 1) (RG 1) (nI (rn 1)) (RS 1) ++ (wCfg cy (cs 2) (bs 2) (RG 2) (nI (rn 2)) (RS 2) ++ (wCfg cy (cs 3) (bs 3) (RG 3) (nI (rn 3)) (RS 3) ++ (wCfg cy (cs 4) (bs 4) (RG 4) (nI (rn 4)) (RS 4) ++ (wCfg cy (cs 5) (bs 5) (RG 5) (nI (rn 5)) (RS 5) ++ (wCfg cy c1 b1 G1 (nI n1) sc1)))))))) sz)) (va_Qv (fun _ => True) (fun (u : Unit) t => va_P (dC, dI) vwCl (wHis cy h0 rg 4 kk cs bs RG rn RS ++ wCfg cy c1 b1 (cpG G1 (RG 4) (rn 4)) (nI (rn 4)) (RS 4)) t.heap ∧ va_D (va_A ([(h0, .inr (1, [.ref rg, .int (nI 5), .int (nI (kk + 1))])), (rg, .inl ((cy 1), 6, .inr (.inr (.inr (.inr (fun j => some (cs j)))))))] ++ (wCfg cy (cs 0) (bs 0) (RG 0) (nI (rn 0)) (RS 0) ++ (wCfg cy (cs 1) (bs 1) (RG 1) (nI (rn 1)) (RS 1) ++ (wCfg cy (cs 2) (bs 2) (RG 2) (nI (rn 2)) (RS 2) ++ (wCfg cy (cs 3) (bs 3) (RG 3) (nI (rn 3)) (RS 3) ++ (wCfg cy (cs 4) (bs 4) (RG 4) (nI (rn 4)) (RS 4) ++ (wCfg cy (cs 5) (bs 5) (RG 5) (nI (rn 5)) (RS 5) ++ (wCfg cy c1 b1 G1 (nI n1) sc1)))))))) sz) (wHis cy h0 rg 4 kk cs bs RG rn RS ++ wCfg cy c1 b1 (cpG G1 (RG 4) (rn 4)) (nI (rn 4)) (RS 4))) (va_A ([(h0, .inr (1, [.ref rg, .int (nI 5), .int (nI (kk + 1))])), (rg, .inl ((cy 1), 6, .inr (.inr (.inr (.inr (fun j => some (cs j)))))))] ++ (wCfg cy (cs 0) (bs 0) (RG 0) (nI (rn 0)) (RS 0) ++ (wCfg cy (cs 1) (bs 1) (RG 1) (nI (rn 1)) (RS 1) ++ (wCfg cy (cs 2) (bs 2) (RG 2) (nI (rn 2)) (RS 2) ++ (wCfg cy (cs 3) (bs 3) (RG 3) (nI (rn 3)) (RS 3) ++ (wCfg cy (cs 4) (bs 4) (RG 4) (nI (rn 4)) (RS 4) ++ (wCfg cy (cs 5) (bs 5) (RG 5) (nI (rn 5)) (RS 5) ++ (wCfg cy c1 b1 G1 (nI n1) sc1)))))))) sz)) 0 0 (va_A ([(h0, .inr (1, [.ref rg, .int (nI 5), .int (nI (kk + 1))])), (rg, .inl ((cy 1), 6, .inr (.inr (.inr (.inr (fun j => some (cs j)))))))] ++ (wCfg cy (cs 0) (bs 0) (RG 0) (nI (rn 0)) (RS 0) ++ (wCfg cy (cs 1) (bs 1) (RG 1) (nI (rn 1)) (RS 1) ++ (wCfg cy (cs 2) (bs 2) (RG 2) (nI (rn 2)) (RS 2) ++ (wCfg cy (cs 3) (bs 3) (RG 3) (nI (rn 3)) (RS 3) ++ (wCfg cy (cs 4) (bs 4) (RG 4) (nI (rn 4)) (RS 4) ++ (wCfg cy (cs 5) (bs 5) (RG 5) (nI (rn 5)) (RS 5) ++ (wCfg cy c1 b1 G1 (nI n1) sc1)))))))) sz) := by
  refine Met.ofW (cc := cX1_takeBackInto) (maxL := 2) (ret := none) (by decide) rfl ?_
  intro p e s m args below meth c s₁ B hml hv
  obtain ⟨rfl, hsz, hP, hE, hD0⟩ := hv
  have hK := hE.1
  subst hsz
  have hD := hD0.self (sz := s.heap.size)
  generalize hAe : va_A ([(h0, .inr (1, [.ref rg, .int (nI 5), .int (nI (kk + 1))])), (rg, .inl ((cy 1), 6, .inr (.inr (.inr (.inr (fun j => some (cs j)))))))] ++ (wCfg cy (cs 0) (bs 0) (RG 0) (nI (rn 0)) (RS 0) ++ (wCfg cy (cs 1) (bs 1) (RG 1) (nI (rn 1)) (RS 1) ++ (wCfg cy (cs 2) (bs 2) (RG 2) (nI (rn 2)) (RS 2) ++ (wCfg cy (cs 3) (bs 3) (RG 3) (nI (rn 3)) (RS 3) ++ (wCfg cy (cs 4) (bs 4) (RG 4) (nI (rn 4)) (RS 4) ++ (wCfg cy (cs 5) (bs 5) (RG 5) (nI (rn 5)) (RS 5) ++ (wCfg cy c1 b1 G1 (nI n1) sc1)))))))) s.heap.size = A at hD ⊢
  have hA : ∀ q : Nat, s.heap.size ≤ q → A q := fun q h => by rw [← hAe]; exact Or.inr h
  have hS : va_S A s.heap s.heap [] := va_S.rf
  have hP : va_P (dC, dI) vwCl ([(h0, .inr (1, [.ref rg, .int (nI 5), .int (nI (kk + 1))])), (rg, .inl ((cy 1), 6, .inr (.inr (.inr (.inr (fun j => some (cs j)))))))] ++ (wCfg cy (cs 0) (bs 0) (RG 0) (nI (rn 0)) (RS 0) ++ (wCfg cy (cs 1) (bs 1) (RG 1) (nI (rn 1)) (RS 1) ++ (wCfg cy (cs 2) (bs 2) (RG 2) (nI (rn 2)) (RS 2) ++ (wCfg cy (cs 3) (bs 3) (RG 3) (nI (rn 3)) (RS 3) ++ (wCfg cy (cs 4) (bs 4) (RG 4) (nI (rn 4)) (RS 4) ++ (wCfg cy (cs 5) (bs 5) (RG 5) (nI (rn 5)) (RS 5) ++ (wCfg cy c1 b1 G1 (nI n1) sc1)))))))) s.heap := hP
  have hx := B.exec
  have hb := B.bytes
  have hr := B.returns
  have hts := atoms_spec (ws := wsX1_takeBackInto) B.pre
  have hown : s.vm.findClass RX1 = some m.cls := findClass_of_methodNamed B.named
  have hlocks := B.notSynchronized
  have hin1 : ∀ w ∈ u_ws RX1 TX1 3, w ∈ wsX1_takeBackInto := by decide +kernel
  have f_11 := hts (.fieldLink RX1 11 "DeadlineAdmission$History" "ring" "[LDeadlineAdmission$Configuration;") (by decide +kernel)
  have f_18 := hts (.fieldLink RX1 18 "DeadlineAdmission$History" "next" "I") (by decide +kernel)
  have f_26 := hts (.fieldLink RX1 26 "DeadlineAdmission$History" "kept" "I") (by decide +kernel)
  have hl := lv_entry ([.ref h0, .ref c1]) (n := 2) (Nat.le_of_ble_eq_true rfl)
  rw [lg_entry_eq]
  generalize (lg_sl ([.ref h0, .ref c1]) ++ List.replicate (2 - (lg_sl ([.ref h0, .ref c1])).length) Slot.unset).toArray = ls at hl ⊢
  have hl : lv_has ls 2 [(0, .ref h0), (1, .ref c1)] := hl
  refine lv_aload_n hx hb dX1_takeBackInto_0 rfl (lv_at hl 0 rfl) ?_
  refine lv_aload_n hx hb dX1_takeBackInto_1 rfl (lv_at hl 0 rfl) ?_
  refine va_get (D := (dC, dI)) (ci := 1) (v := .int (nI 5)) (C := RX1) (T := TX1) (N := 3) hx hb hts hin1 hown hK hP 0 rfl rfl 1 (by decide) f_18 (fun _ h9 => h9) rfl dX1_takeBackInto_2 ?_
  refine lv_bipush (v := 6) hx hb dX1_takeBackInto_5 (by decide) ?_
  refine lv_iadd hx hb dX1_takeBackInto_7 ?_
  refine lv_iconst (v := 1) hx hb dX1_takeBackInto_8 (by decide) ?_
  refine lv_isub hx hb dX1_takeBackInto_9 ?_
  refine lv_bipush (v := 6) hx hb dX1_takeBackInto_10 (by decide) ?_
  refine lv_irem hx hb dX1_takeBackInto_12 (by decide) ?_
  refine lv_topi (fun y_ ey_ => ?_)
  obtain rfl : y_ = nI 4 := ey_.trans (by decide)
  refine va_put (D := (dC, dI)) (ci := 1) (v := .int (nI 4)) (ty := .int) (C := RX1) (T := TX1) (N := 3) hx hb hts hin1 tyX1 tyX1_ok nmX1 hown hK hP hD hS 0 rfl rfl 1 (by decide) f_18 (fun _ h9 => h9) rfl (by decide +kernel) rfl rfl (Nat.le_of_ble_eq_true rfl) dX1_takeBackInto_13 (fun H locs hP hD hS => ?_)
  have hP : va_P (dC, dI) vwCl ([(h0, .inr (1, [.ref rg, .int (nI 4), .int (nI (kk + 1))])), (rg, .inl ((cy 1), 6, .inr (.inr (.inr (.inr (fun j => some (cs j)))))))] ++ (wCfg cy (cs 0) (bs 0) (RG 0) (nI (rn 0)) (RS 0) ++ (wCfg cy (cs 1) (bs 1) (RG 1) (nI (rn 1)) (RS 1) ++ (wCfg cy (cs 2) (bs 2) (RG 2) (nI (rn 2)) (RS 2) ++ (wCfg cy (cs 3) (bs 3) (RG 3) (nI (rn 3)) (RS 3) ++ (wCfg cy (cs 4) (bs 4) (RG 4) (nI (rn 4)) (RS 4) ++ (wCfg cy (cs 5) (bs 5) (RG 5) (nI (rn 5)) (RS 5) ++ (wCfg cy c1 b1 G1 (nI n1) sc1)))))))) H := hP
  have hD : va_D A ([(h0, .inr (1, [.ref rg, .int (nI 4), .int (nI (kk + 1))])), (rg, .inl ((cy 1), 6, .inr (.inr (.inr (.inr (fun j => some (cs j)))))))] ++ (wCfg cy (cs 0) (bs 0) (RG 0) (nI (rn 0)) (RS 0) ++ (wCfg cy (cs 1) (bs 1) (RG 1) (nI (rn 1)) (RS 1) ++ (wCfg cy (cs 2) (bs 2) (RG 2) (nI (rn 2)) (RS 2) ++ (wCfg cy (cs 3) (bs 3) (RG 3) (nI (rn 3)) (RS 3) ++ (wCfg cy (cs 4) (bs 4) (RG 4) (nI (rn 4)) (RS 4) ++ (wCfg cy (cs 5) (bs 5) (RG 5) (nI (rn 5)) (RS 5) ++ (wCfg cy c1 b1 G1 (nI n1) sc1)))))))) := hD
  refine lv_aload_n hx hb dX1_takeBackInto_16 rfl (lv_at hl 0 rfl) ?_
  refine lv_dup hx hb dX1_takeBackInto_17 rfl ?_
  refine va_get (D := (dC, dI)) (ci := 1) (v := .int (nI (kk + 1))) (C := RX1) (T := TX1) (N := 3) hx hb hts hin1 hown hK hP 0 rfl rfl 2 (by decide) f_26 (fun _ h9 => h9) rfl dX1_takeBackInto_18 ?_
  refine lv_iconst (v := 1) hx hb dX1_takeBackInto_21 (by decide) ?_
  refine lv_isub hx hb dX1_takeBackInto_22 ?_
  refine lv_topi (fun y_ ey_ => ?_)
  obtain rfl : y_ = nI kk := ey_.trans (nI_pred kk)
  refine va_put (D := (dC, dI)) (ci := 1) (v := .int (nI kk)) (ty := .int) (C := RX1) (T := TX1) (N := 3) hx hb hts hin1 tyX1 tyX1_ok nmX1 hown hK hP hD hS 0 rfl rfl 2 (by decide) f_26 (fun _ h9 => h9) rfl (by decide +kernel) rfl rfl (Nat.le_of_ble_eq_true rfl) dX1_takeBackInto_23 (fun H locs hP hD hS => ?_)
  have hP : va_P (dC, dI) vwCl ([(h0, .inr (1, [.ref rg, .int (nI 4), .int (nI kk)])), (rg, .inl ((cy 1), 6, .inr (.inr (.inr (.inr (fun j => some (cs j)))))))] ++ (wCfg cy (cs 0) (bs 0) (RG 0) (nI (rn 0)) (RS 0) ++ (wCfg cy (cs 1) (bs 1) (RG 1) (nI (rn 1)) (RS 1) ++ (wCfg cy (cs 2) (bs 2) (RG 2) (nI (rn 2)) (RS 2) ++ (wCfg cy (cs 3) (bs 3) (RG 3) (nI (rn 3)) (RS 3) ++ (wCfg cy (cs 4) (bs 4) (RG 4) (nI (rn 4)) (RS 4) ++ (wCfg cy (cs 5) (bs 5) (RG 5) (nI (rn 5)) (RS 5) ++ (wCfg cy c1 b1 G1 (nI n1) sc1)))))))) H := hP
  have hD : va_D A ([(h0, .inr (1, [.ref rg, .int (nI 4), .int (nI kk)])), (rg, .inl ((cy 1), 6, .inr (.inr (.inr (.inr (fun j => some (cs j)))))))] ++ (wCfg cy (cs 0) (bs 0) (RG 0) (nI (rn 0)) (RS 0) ++ (wCfg cy (cs 1) (bs 1) (RG 1) (nI (rn 1)) (RS 1) ++ (wCfg cy (cs 2) (bs 2) (RG 2) (nI (rn 2)) (RS 2) ++ (wCfg cy (cs 3) (bs 3) (RG 3) (nI (rn 3)) (RS 3) ++ (wCfg cy (cs 4) (bs 4) (RG 4) (nI (rn 4)) (RS 4) ++ (wCfg cy (cs 5) (bs 5) (RG 5) (nI (rn 5)) (RS 5) ++ (wCfg cy c1 b1 G1 (nI n1) sc1)))))))) := hD
  refine lv_aload_n hx hb dX1_takeBackInto_26 rfl (lv_at hl 1 rfl) ?_
  refine lv_aload_n hx hb dX1_takeBackInto_27 rfl (lv_at hl 0 rfl) ?_
  refine va_get (D := (dC, dI)) (ci := 1) (v := .ref rg) (C := RX1) (T := TX1) (N := 3) hx hb hts hin1 hown hK hP 0 rfl rfl 0 (by decide) f_11 (fun _ h9 => h9) rfl dX1_takeBackInto_28 ?_
  refine lv_aload_n hx hb dX1_takeBackInto_31 rfl (lv_at hl 0 rfl) ?_
  refine va_get (D := (dC, dI)) (ci := 1) (v := .int (nI 4)) (C := RX1) (T := TX1) (N := 3) hx hb hts hin1 hown hK hP 0 rfl rfl 1 (by decide) f_18 (fun _ h9 => h9) rfl dX1_takeBackInto_32 ?_
  refine wA_ald (q := (cs 4)) hx hb hK hP 1 1 rfl rfl 4 rfl (by omega) (by decide) rfl dX1_takeBackInto_35 ?_
  have hPc := hP.sub (ws' := wCfg cy c1 b1 G1 (nI n1) sc1 ++ (wCfg cy (cs 4) (bs 4) (RG 4) (nI (rn 4)) (RS 4))) [50, 51, 52, 53, 54, 55, 56, 57, 34, 35, 36, 37, 38, 39, 40, 41] rfl
  have hDc := hD.sub (ws' := wCfg cy c1 b1 G1 (nI n1) sc1 ++ (wCfg cy (cs 4) (bs 4) (RG 4) (nI (rn 4)) (RS 4))) [50, 51, 52, 53, 54, 55, 56, 57, 34, 35, 36, 37, 38, 39, 40, 41] (by decide) rfl
  have hFc := va_free (wc := wCfg cy c1 b1 G1 (nI n1) sc1 ++ (wCfg cy (cs 4) (bs 4) (RG 4) (nI (rn 4)) (RS 4))) hD hS hA [50, 51, 52, 53, 54, 55, 56, 57, 34, 35, 36, 37, 38, 39, 40, 41] rfl
  refine va_callv (va_runV (As := [.ref (cs 4)]) (rest := []) ⟨hx, hb, hml, hown, hts⟩ (c_X0_copyFrom l dC dI cy H.size c1 b1 G1 (nI n1) sc1 (cs 4) (bs 4) (RG 4) (rn 4) hn1 (RS 4)) (cwV 1 hts gX1_takeBackInto_X0_copyFrom rfl rfl rfl (by decide +kernel) ⟨Nat.le_of_ble_eq_true rfl, Nat.le_of_ble_eq_true rfl⟩) ⟨bl_in, va_recv hK hPc (ci := 0) (q0 := 0) rfl rfl, pr_in hPc hE hDc⟩ rfl rfl hl.1 rfl (lv_room (Nat.le_of_ble_eq_true rfl)) dX1_takeBackInto_36 ⟨Nat.le_of_ble_eq_true rfl, Nat.le_of_ble_eq_true rfl⟩) hS (fun q _ h => hFc q h) hFc (fun u t H1 locs ht hvm hw hB hz1 hk1 hS => ?_)
  obtain ⟨hP1, hD1⟩ := hB
  rw [ht] at hP1
  obtain ⟨hP, hD⟩ := va_join (wr := [(h0, .inr (1, [.ref rg, .int (nI 4), .int (nI kk)])), (rg, .inl ((cy 1), 6, .inr (.inr (.inr (.inr (fun j => some (cs j)))))))] ++ (wCfg cy (cs 0) (bs 0) (RG 0) (nI (rn 0)) (RS 0) ++ (wCfg cy (cs 1) (bs 1) (RG 1) (nI (rn 1)) (RS 1) ++ (wCfg cy (cs 2) (bs 2) (RG 2) (nI (rn 2)) (RS 2) ++ (wCfg cy (cs 3) (bs 3) (RG 3) (nI (rn 3)) (RS 3) ++ (wCfg cy (cs 5) (bs 5) (RG 5) (nI (rn 5)) (RS 5))))))) (w1 := wCfg cy c1 b1 (cpG G1 (RG 4) (rn 4)) (nI (rn 4)) (RS 4) ++ (wCfg cy (cs 4) (bs 4) (RG 4) (nI (rn 4)) (RS 4))) hP hD [50, 51, 52, 53, 54, 55, 56, 57, 34, 35, 36, 37, 38, 39, 40, 41] [0, 1, 2, 3, 4, 5, 6, 7, 8, 9, 10, 11, 12, 13, 14, 15, 16, 17, 18, 19, 20, 21, 22, 23, 24, 25, 26, 27, 28, 29, 30, 31, 32, 33, 42, 43, 44, 45, 46, 47, 48, 49] rfl rfl (by decide) (by decide) hk1 hFc hP1 hD1
  have hP : va_P (dC, dI) vwCl ([(h0, .inr (1, [.ref rg, .int (nI 4), .int (nI kk)])), (rg, .inl ((cy 1), 6, .inr (.inr (.inr (.inr (fun j => some (cs j)))))))] ++ (wCfg cy (cs 0) (bs 0) (RG 0) (nI (rn 0)) (RS 0) ++ (wCfg cy (cs 1) (bs 1) (RG 1) (nI (rn 1)) (RS 1) ++ (wCfg cy (cs 2) (bs 2) (RG 2) (nI (rn 2)) (RS 2) ++ (wCfg cy (cs 3) (bs 3) (RG 3) (nI (rn 3)) (RS 3) ++ (wCfg cy (cs 4) (bs 4) (RG 4) (nI (rn 4)) (RS 4) ++ (wCfg cy (cs 5) (bs 5) (RG 5) (nI (rn 5)) (RS 5) ++ (wCfg cy c1 b1 (cpG G1 (RG 4) (rn 4)) (nI (rn 4)) (RS 4))))))))) H1 := hP.sub [0, 1, 2, 3, 4, 5, 6, 7, 8, 9, 10, 11, 12, 13, 14, 15, 16, 17, 18, 19, 20, 21, 22, 23, 24, 25, 26, 27, 28, 29, 30, 31, 32, 33, 50, 51, 52, 53, 54, 55, 56, 57, 34, 35, 36, 37, 38, 39, 40, 41, 42, 43, 44, 45, 46, 47, 48, 49] rfl
  have hD : va_D A ([(h0, .inr (1, [.ref rg, .int (nI 4), .int (nI kk)])), (rg, .inl ((cy 1), 6, .inr (.inr (.inr (.inr (fun j => some (cs j)))))))] ++ (wCfg cy (cs 0) (bs 0) (RG 0) (nI (rn 0)) (RS 0) ++ (wCfg cy (cs 1) (bs 1) (RG 1) (nI (rn 1)) (RS 1) ++ (wCfg cy (cs 2) (bs 2) (RG 2) (nI (rn 2)) (RS 2) ++ (wCfg cy (cs 3) (bs 3) (RG 3) (nI (rn 3)) (RS 3) ++ (wCfg cy (cs 4) (bs 4) (RG 4) (nI (rn 4)) (RS 4) ++ (wCfg cy (cs 5) (bs 5) (RG 5) (nI (rn 5)) (RS 5) ++ (wCfg cy c1 b1 (cpG G1 (RG 4) (rn 4)) (nI (rn 4)) (RS 4))))))))) := hD.sub [0, 1, 2, 3, 4, 5, 6, 7, 8, 9, 10, 11, 12, 13, 14, 15, 16, 17, 18, 19, 20, 21, 22, 23, 24, 25, 26, 27, 28, 29, 30, 31, 32, 33, 50, 51, 52, 53, 54, 55, 56, 57, 34, 35, 36, 37, 38, 39, 40, 41, 42, 43, 44, 45, 46, 47, 48, 49] (by decide) rfl
  clear hz1 hk1 hPc hDc hFc hP1 hD1
  generalize H1 = H at hP hS ⊢
  have hP9 : va_P (dC, dI) vwCl (wHis cy h0 rg 4 kk cs bs RG rn RS ++ wCfg cy c1 b1 (cpG G1 (RG 4) (rn 4)) (nI (rn 4)) (RS 4)) H := hP
  have hD9 : va_D A (wHis cy h0 rg 4 kk cs bs RG rn RS ++ wCfg cy c1 b1 (cpG G1 (RG 4) (rn 4)) (nI (rn 4)) (RS 4)) := hD
  exact W.vret hx hb hr (fun t ht hW => ⟨⟨(), rfl, trivial, by rw [ht]; exact hP9, hD9⟩, hS.F ht⟩) hS.2.2 dX1_takeBackInto_39

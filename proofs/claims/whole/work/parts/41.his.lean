/-! PART 41: History -/
section WA
variable {p : Program} {l : Launch} {e : Env} {R : Room} {s : State} {m : MethodId} {args : Array Value} {below : List Frame} {meth : Method} {c : Code} {H : Heap} {locs : List Loc} {cells slots : Nat} {Q : State → Prop}
variable {D : va_G} {cl : List vw_C} {ws : va_W} {tys : List (ClassId × FieldType)} {cc : ByteArray} {pc a : Nat} {ls : Array Slot} {rest : List Value}
/-- a row of references is read at a natural place -/
theorem wA_ald {q : Nat} (hexec : p.tables.exec = Jvm.exec) (hb : c.code = cc) (hK : va_K D cl tys s) (hP : va_P D cl ws H) (q0 t0 : Nat) {cA : ClassId} {C : String} {n : Nat} {f : Nat → Option Nat} (ha : ws[q0]? = some (a, .inl (cA, n, .inr (.inr (.inr (.inr f)))))) (ht : tys[t0]? = some (cA, .object C)) {i : Int32} (j : Nat) (hi : i = nI j) (hj : j < n) (hn : n < 2147483648) (hv : f j = some q) (hdg : decode cc pc = .ok (.aaload, 1))
    (kk : W p l e R s m args below meth c H locs cells slots Q (F0 m (pc + 1) ls (.ref q :: rest))) : W p l e R s m args below meth c H locs cells slots Q (F0 m pc ls (.int i :: .ref a :: rest)) := by
  subst hi
  refine va_aldq hexec hb hK hP q0 t0 ha ht (vp_in_nI hj hn) hdg ?_
  rw [nI_clamp (Nat.lt_trans hj hn), hv]
  exact kk
end WA
abbrev wRing (cy : Nat → ClassId) (cs : Nat → Nat) (bs : Nat → Nat → Nat) (RG : Nat → vG) (rn : Nat → Nat) (RS : Nat → Int32) : va_W := wCfg cy (cs 0) (bs 0) (RG 0) (nI (rn 0)) (RS 0) ++ (wCfg cy (cs 1) (bs 1) (RG 1) (nI (rn 1)) (RS 1) ++ (wCfg cy (cs 2) (bs 2) (RG 2) (nI (rn 2)) (RS 2) ++ (wCfg cy (cs 3) (bs 3) (RG 3) (nI (rn 3)) (RS 3) ++ (wCfg cy (cs 4) (bs 4) (RG 4) (nI (rn 4)) (RS 4) ++ (wCfg cy (cs 5) (bs 5) (RG 5) (nI (rn 5)) (RS 5))))))
abbrev wHis (cy : Nat → ClassId) (h0 rg : Nat) (x kk : Nat) (cs : Nat → Nat) (bs : Nat → Nat → Nat) (RG : Nat → vG) (rn : Nat → Nat) (RS : Nat → Int32) : va_W := [(h0, .inr (1, [.ref rg, .int (nI x), .int (nI kk)])), (rg, .inl (cy 1, 6, .inr (.inr (.inr (.inr (fun j => some (cs j)))))))] ++ wRing cy cs bs RG rn RS
theorem min_cnt {k : Nat} (h : k ≤ 6) : (if (6 : Int32) < nI k + 1 then 6 else nI k + 1) = nI (hcnt k) := by
  rw [nI_1, hcnt]
  by_cases e : k = 6
  · subst e; decide
  · rw [if_neg e]
    exact if_neg (fun q : (6 : Int32) < nI (k + 1) => absurd ((nI_ltI (a := 6) (b := k + 1) (by omega) (by omega)).mp q) (by omega))
set_option maxHeartbeats 1000000 in
set_option maxRecDepth 100000 in
/-- the ring remembers, at place 0 -/
theorem c_X1_remember_0 (l : Launch) (dC : Nat → ClassId) (dI : Nat → Nat → Nat) (cy : Nat → ClassId) (sz : Nat) (h0 rg : Nat) (kk : Nat) (cs : Nat → Nat) (bs : Nat → Nat → Nat) (RG : Nat → vG) (rn : Nat → Nat) (RS : Nat → Int32) (c1 : Nat) (b1 : Nat → Nat) (G1 : vG) (n1 : Nat) (sc1 : Int32) (hkk : kk ≤ 6) (hn1 : n1 ≤ 8) : Met l yX1_remember wsX1_remember ({ frames := 2, cells := 0, slots := 0, locals := 45 }) (va_Pc [.ref h0, .ref c1] (pIn dC dI cy ([(h0, .inr (1, [.ref rg, .int (nI 0), .int (nI kk)])), (rg, .inl ((cy 1), 6, .inr (.inr (.inr (.inr (fun j => some (cs j)))))))] ++ (wCfg cy (cs 0) (bs 0) (RG 0) (nI (rn 0)) (RS 0) ++ (wCfg cy (cs 1) (bs 1) (RG 1) (nI (rn 1)) (RS 1) ++ (wCfg cy (cs 2) (bs 2) (RG 2) (nI (rn 2)) (RS 2) ++ (wCfg cy (cs 3) (bs 3) (RG 3) (nI (rn 3)) (RS 3) ++ (wCfg cy (cs 4) (bs 4) (RG 4) (nI (rn 4)) (RS 4) ++ (wCfg cy (cs 5) (bs 5) (RG 5) (nI (rn 5)) (RS 5) ++ (wCfg cy c1 b1 G1 (nI n1) sc1)))))))) sz)) (va_Qv (fun _ => True) (fun (u : Unit) t => va_P (dC, dI) vwCl (wHis cy h0 rg 1 (hcnt kk) cs bs (va_up RG 0 (cpG (RG 0) G1 n1)) (va_up rn 0 n1) (va_up RS 0 sc1) ++ wCfg cy c1 b1 G1 (nI n1) sc1) t.heap ∧ va_D (va_A ([(h0, .inr (1, [.ref rg, .int (nI 0), .int (nI kk)])), (rg, .inl ((cy 1), 6, .inr (.inr (.inr (.inr (fun j => some (cs j)))))))] ++ (wCfg cy (cs 0) (bs 0) (RG 0) (nI (rn 0)) (RS 0) ++ (wCfg cy (cs 1) (bs 1) (RG 1) (nI (rn 1)) (RS 1) ++ (wCfg cy (cs 2) (bs 2) (RG 2) (nI (rn 2)) (RS 2) ++ (wCfg cy (cs 3) (bs 3) (RG 3) (nI (rn 3)) (RS 3) ++ (wCfg cy (cs 4) (bs 4) (RG 4) (nI (rn 4)) (RS 4) ++ (wCfg cy (cs 5) (bs 5) (RG 5) (nI (rn 5)) (RS 5) ++ (wCfg cy c1 b1 G1 (nI n1) sc1)))))))) sz) (wHis cy h0 rg 1 (hcnt kk) cs bs (va_up RG 0 (cpG (RG 0) G1 n1)) (va_up rn 0 n1) (va_up RS 0 sc1) ++ wCfg cy c1 b1 G1 (nI n1) sc1)) (va_A ([(h0, .inr (1, [.ref rg, .int (nI 0), .int (nI kk)])), (rg, .inl ((cy 1), 6, .inr (.inr (.inr (.inr (fun j => some (cs j)))))))] ++ (wCfg cy (cs 0) (bs 0) (RG 0) (nI (rn 0)) (RS 0) ++ (wCfg cy (cs 1) (bs 1) (RG 1) (nI (rn 1)) (RS 1) ++ (wCfg cy (cs 2) (bs 2) (RG 2) (nI (rn 2)) (RS 2) ++ (wCfg cy (cs 3) (bs 3) (RG 3) (nI (rn 3)) (RS 3) ++ (wCfg cy (cs 4) (bs 4) (RG 4) (nI (rn 4)) (RS 4) ++ (wCfg cy (cs 5) (bs 5) (RG 5) (nI (rn 5)) (RS 5) ++ (wCfg cy c1 b1 G1 (nI n1) sc1)))))))) sz)) 0 0 (va_A ([(h0, .inr (1, [.ref rg, .int (nI 0), .int (nI kk)])), (rg, .inl ((cy 1), 6, .inr (.inr (.inr (.inr (fun j => some (cs j)))))))] ++ (wCfg cy (cs 0) (bs 0) (RG 0) (nI (rn 0)) (RS 0) ++ (wCfg cy (cs 1) (bs 1) (RG 1) (nI (rn 1)) (RS 1) ++ (wCfg cy (cs 2) (bs 2) (RG 2) (nI (rn 2)) (RS 2) ++ (wCfg cy (cs 3) (bs 3) (RG 3) (nI (rn 3)) (RS 3) ++ (wCfg cy (cs 4) (bs 4) (RG 4) (nI (rn 4)) (RS 4) ++ (wCfg cy (cs 5) (bs 5) (RG 5) (nI (rn 5)) (RS 5) ++ (wCfg cy c1 b1 G1 (nI n1) sc1)))))))) sz) := by
  refine Met.ofW (cc := cX1_remember) (maxL := 2) (ret := none) (by decide) rfl ?_
  intro p e s m args below meth c s₁ B hml hv
  obtain ⟨rfl, hsz, hP, hE, hD0⟩ := hv
  have hK := hE.1
  subst hsz
  have hD := hD0.self (sz := s.heap.size)
  generalize hAe : va_A ([(h0, .inr (1, [.ref rg, .int (nI 0), .int (nI kk)])), (rg, .inl ((cy 1), 6, .inr (.inr (.inr (.inr (fun j => some (cs j)))))))] ++ (wCfg cy (cs 0) (bs 0) (RG 0) (nI (rn 0)) (RS 0) ++ (wCfg cy (cs 1) (bs 1) (RG 1) (nI (rn 1)) (RS 1) ++ (wCfg cy (cs 2) (bs 2) (RG 2) (nI (rn 2)) (RS 2) ++ (wCfg cy (cs 3) (bs 3) (RG 3) (nI (rn 3)) (RS 3) ++ (wCfg cy (cs 4) (bs 4) (RG 4) (nI (rn 4)) (RS 4) ++ (wCfg cy (cs 5) (bs 5) (RG 5) (nI (rn 5)) (RS 5) ++ (wCfg cy c1 b1 G1 (nI n1) sc1)))))))) s.heap.size = A at hD ⊢
  have hA : ∀ q : Nat, s.heap.size ≤ q → A q := fun q h => by rw [← hAe]; exact Or.inr h
  have hS : va_S A s.heap s.heap [] := va_S.rf
  have hP : va_P (dC, dI) vwCl ([(h0, .inr (1, [.ref rg, .int (nI 0), .int (nI kk)])), (rg, .inl ((cy 1), 6, .inr (.inr (.inr (.inr (fun j => some (cs j)))))))] ++ (wCfg cy (cs 0) (bs 0) (RG 0) (nI (rn 0)) (RS 0) ++ (wCfg cy (cs 1) (bs 1) (RG 1) (nI (rn 1)) (RS 1) ++ (wCfg cy (cs 2) (bs 2) (RG 2) (nI (rn 2)) (RS 2) ++ (wCfg cy (cs 3) (bs 3) (RG 3) (nI (rn 3)) (RS 3) ++ (wCfg cy (cs 4) (bs 4) (RG 4) (nI (rn 4)) (RS 4) ++ (wCfg cy (cs 5) (bs 5) (RG 5) (nI (rn 5)) (RS 5) ++ (wCfg cy c1 b1 G1 (nI n1) sc1)))))))) s.heap := hP
  have hx := B.exec
  have hb := B.bytes
  have hr := B.returns
  have hts := atoms_spec (ws := wsX1_remember) B.pre
  have hown : s.vm.findClass RX1 = some m.cls := findClass_of_methodNamed B.named
  have hlocks := B.notSynchronized
  have hin1 : ∀ w ∈ u_ws RX1 TX1 3, w ∈ wsX1_remember := by decide +kernel
  have f_11 := hts (.fieldLink RX1 11 "DeadlineAdmission$History" "ring" "[LDeadlineAdmission$Configuration;") (by decide +kernel)
  have f_18 := hts (.fieldLink RX1 18 "DeadlineAdmission$History" "next" "I") (by decide +kernel)
  have f_26 := hts (.fieldLink RX1 26 "DeadlineAdmission$History" "kept" "I") (by decide +kernel)
  have hl := lv_entry ([.ref h0, .ref c1]) (n := 2) (Nat.le_of_ble_eq_true rfl)
  rw [lg_entry_eq]
  generalize (lg_sl ([.ref h0, .ref c1]) ++ List.replicate (2 - (lg_sl ([.ref h0, .ref c1])).length) Slot.unset).toArray = ls at hl ⊢
  have hl : lv_has ls 2 [(0, .ref h0), (1, .ref c1)] := hl
  refine lv_aload_n hx hb dX1_remember_0 rfl (lv_at hl 0 rfl) ?_
  refine va_get (D := (dC, dI)) (ci := 1) (v := .ref rg) (C := RX1) (T := TX1) (N := 3) hx hb hts hin1 hown hK hP 0 rfl rfl 0 (by decide) f_11 (fun _ h9 => h9) rfl dX1_remember_1 ?_
  refine lv_aload_n hx hb dX1_remember_4 rfl (lv_at hl 0 rfl) ?_
  refine va_get (D := (dC, dI)) (ci := 1) (v := .int (nI 0)) (C := RX1) (T := TX1) (N := 3) hx hb hts hin1 hown hK hP 0 rfl rfl 1 (by decide) f_18 (fun _ h9 => h9) rfl dX1_remember_5 ?_
  refine wA_ald (q := (cs 0)) hx hb hK hP 1 1 rfl rfl 0 rfl (by omega) (by decide) rfl dX1_remember_8 ?_
  refine lv_aload_n hx hb dX1_remember_9 rfl (lv_at hl 1 rfl) ?_
  have hPc := hP.sub (ws' := wCfg cy (cs 0) (bs 0) (RG 0) (nI (rn 0)) (RS 0) ++ (wCfg cy c1 b1 G1 (nI n1) sc1)) [2, 3, 4, 5, 6, 7, 8, 9, 50, 51, 52, 53, 54, 55, 56, 57] rfl
  have hDc := hD.sub (ws' := wCfg cy (cs 0) (bs 0) (RG 0) (nI (rn 0)) (RS 0) ++ (wCfg cy c1 b1 G1 (nI n1) sc1)) [2, 3, 4, 5, 6, 7, 8, 9, 50, 51, 52, 53, 54, 55, 56, 57] (by decide) rfl
  have hFc := va_free (wc := wCfg cy (cs 0) (bs 0) (RG 0) (nI (rn 0)) (RS 0) ++ (wCfg cy c1 b1 G1 (nI n1) sc1)) hD hS hA [2, 3, 4, 5, 6, 7, 8, 9, 50, 51, 52, 53, 54, 55, 56, 57] rfl
  refine va_callv (va_runV (As := [.ref c1]) (rest := []) ⟨hx, hb, hml, hown, hts⟩ (c_X0_copyFrom l dC dI cy s.heap.size (cs 0) (bs 0) (RG 0) (nI (rn 0)) (RS 0) c1 b1 G1 n1 hn1 sc1) (cwV 1 hts gX1_remember_X0_copyFrom rfl rfl rfl (by decide +kernel) ⟨Nat.le_of_ble_eq_true rfl, Nat.le_of_ble_eq_true rfl⟩) ⟨bl_in, va_recv hK hPc (ci := 0) (q0 := 0) rfl rfl, pr_in hPc hE hDc⟩ rfl rfl hl.1 rfl (lv_room (Nat.le_of_ble_eq_true rfl)) dX1_remember_10 ⟨Nat.le_of_ble_eq_true rfl, Nat.le_of_ble_eq_true rfl⟩) hS (fun q _ h => hFc q h) hFc (fun u t H1 locs ht hvm hw hB hz1 hk1 hS => ?_)
  obtain ⟨hP1, hD1⟩ := hB
  rw [ht] at hP1
  obtain ⟨hP, hD⟩ := va_join (wr := [(h0, .inr (1, [.ref rg, .int (nI 0), .int (nI kk)])), (rg, .inl ((cy 1), 6, .inr (.inr (.inr (.inr (fun j => some (cs j)))))))] ++ (wCfg cy (cs 1) (bs 1) (RG 1) (nI (rn 1)) (RS 1) ++ (wCfg cy (cs 2) (bs 2) (RG 2) (nI (rn 2)) (RS 2) ++ (wCfg cy (cs 3) (bs 3) (RG 3) (nI (rn 3)) (RS 3) ++ (wCfg cy (cs 4) (bs 4) (RG 4) (nI (rn 4)) (RS 4) ++ (wCfg cy (cs 5) (bs 5) (RG 5) (nI (rn 5)) (RS 5))))))) (w1 := wCfg cy (cs 0) (bs 0) (cpG (RG 0) G1 n1) (nI n1) sc1 ++ (wCfg cy c1 b1 G1 (nI n1) sc1)) hP hD [2, 3, 4, 5, 6, 7, 8, 9, 50, 51, 52, 53, 54, 55, 56, 57] [0, 1, 10, 11, 12, 13, 14, 15, 16, 17, 18, 19, 20, 21, 22, 23, 24, 25, 26, 27, 28, 29, 30, 31, 32, 33, 34, 35, 36, 37, 38, 39, 40, 41, 42, 43, 44, 45, 46, 47, 48, 49] rfl rfl (by decide) (by decide) hk1 hFc hP1 hD1
  have hP : va_P (dC, dI) vwCl ([(h0, .inr (1, [.ref rg, .int (nI 0), .int (nI kk)])), (rg, .inl ((cy 1), 6, .inr (.inr (.inr (.inr (fun j => some (cs j)))))))] ++ (wCfg cy (cs 0) (bs 0) (cpG (RG 0) G1 n1) (nI n1) sc1 ++ (wCfg cy (cs 1) (bs 1) (RG 1) (nI (rn 1)) (RS 1) ++ (wCfg cy (cs 2) (bs 2) (RG 2) (nI (rn 2)) (RS 2) ++ (wCfg cy (cs 3) (bs 3) (RG 3) (nI (rn 3)) (RS 3) ++ (wCfg cy (cs 4) (bs 4) (RG 4) (nI (rn 4)) (RS 4) ++ (wCfg cy (cs 5) (bs 5) (RG 5) (nI (rn 5)) (RS 5) ++ (wCfg cy c1 b1 G1 (nI n1) sc1)))))))) H1 := hP.sub [0, 1, 42, 43, 44, 45, 46, 47, 48, 49, 2, 3, 4, 5, 6, 7, 8, 9, 10, 11, 12, 13, 14, 15, 16, 17, 18, 19, 20, 21, 22, 23, 24, 25, 26, 27, 28, 29, 30, 31, 32, 33, 34, 35, 36, 37, 38, 39, 40, 41, 50, 51, 52, 53, 54, 55, 56, 57] rfl
  have hD : va_D A ([(h0, .inr (1, [.ref rg, .int (nI 0), .int (nI kk)])), (rg, .inl ((cy 1), 6, .inr (.inr (.inr (.inr (fun j => some (cs j)))))))] ++ (wCfg cy (cs 0) (bs 0) (cpG (RG 0) G1 n1) (nI n1) sc1 ++ (wCfg cy (cs 1) (bs 1) (RG 1) (nI (rn 1)) (RS 1) ++ (wCfg cy (cs 2) (bs 2) (RG 2) (nI (rn 2)) (RS 2) ++ (wCfg cy (cs 3) (bs 3) (RG 3) (nI (rn 3)) (RS 3) ++ (wCfg cy (cs 4) (bs 4) (RG 4) (nI (rn 4)) (RS 4) ++ (wCfg cy (cs 5) (bs 5) (RG 5) (nI (rn 5)) (RS 5) ++ (wCfg cy c1 b1 G1 (nI n1) sc1)))))))) := hD.sub [0, 1, 42, 43, 44, 45, 46, 47, 48, 49, 2, 3, 4, 5, 6, 7, 8, 9, 10, 11, 12, 13, 14, 15, 16, 17, 18, 19, 20, 21, 22, 23, 24, 25, 26, 27, 28, 29, 30, 31, 32, 33, 34, 35, 36, 37, 38, 39, 40, 41, 50, 51, 52, 53, 54, 55, 56, 57] (by decide) rfl
  clear hz1 hk1 hPc hDc hFc hP1 hD1
  generalize H1 = H at hP hS ⊢
  refine lv_aload_n hx hb dX1_remember_13 rfl (lv_at hl 0 rfl) ?_
  refine lv_aload_n hx hb dX1_remember_14 rfl (lv_at hl 0 rfl) ?_
  refine va_get (D := (dC, dI)) (ci := 1) (v := .int (nI 0)) (C := RX1) (T := TX1) (N := 3) hx hb hts hin1 hown hK hP 0 rfl rfl 1 (by decide) f_18 (fun _ h9 => h9) rfl dX1_remember_15 ?_
  refine lv_iconst (v := 1) hx hb dX1_remember_18 (by decide) ?_
  refine lv_iadd hx hb dX1_remember_19 ?_
  refine lv_bipush (v := 6) hx hb dX1_remember_20 (by decide) ?_
  refine lv_irem hx hb dX1_remember_22 (by decide) ?_
  refine lv_topi (fun y_ ey_ => ?_)
  obtain rfl : y_ = nI 1 := ey_.trans (by decide)
  refine va_put (D := (dC, dI)) (ci := 1) (v := .int (nI 1)) (ty := .int) (C := RX1) (T := TX1) (N := 3) hx hb hts hin1 tyX1 tyX1_ok nmX1 hown hK hP hD hS 0 rfl rfl 1 (by decide) f_18 (fun _ h9 => h9) rfl (by decide +kernel) rfl rfl (Nat.le_of_ble_eq_true rfl) dX1_remember_23 (fun H locs hP hD hS => ?_)
  have hP : va_P (dC, dI) vwCl ([(h0, .inr (1, [.ref rg, .int (nI 1), .int (nI kk)])), (rg, .inl ((cy 1), 6, .inr (.inr (.inr (.inr (fun j => some (cs j)))))))] ++ (wCfg cy (cs 0) (bs 0) (cpG (RG 0) G1 n1) (nI n1) sc1 ++ (wCfg cy (cs 1) (bs 1) (RG 1) (nI (rn 1)) (RS 1) ++ (wCfg cy (cs 2) (bs 2) (RG 2) (nI (rn 2)) (RS 2) ++ (wCfg cy (cs 3) (bs 3) (RG 3) (nI (rn 3)) (RS 3) ++ (wCfg cy (cs 4) (bs 4) (RG 4) (nI (rn 4)) (RS 4) ++ (wCfg cy (cs 5) (bs 5) (RG 5) (nI (rn 5)) (RS 5) ++ (wCfg cy c1 b1 G1 (nI n1) sc1)))))))) H := hP
  have hD : va_D A ([(h0, .inr (1, [.ref rg, .int (nI 1), .int (nI kk)])), (rg, .inl ((cy 1), 6, .inr (.inr (.inr (.inr (fun j => some (cs j)))))))] ++ (wCfg cy (cs 0) (bs 0) (cpG (RG 0) G1 n1) (nI n1) sc1 ++ (wCfg cy (cs 1) (bs 1) (RG 1) (nI (rn 1)) (RS 1) ++ (wCfg cy (cs 2) (bs 2) (RG 2) (nI (rn 2)) (RS 2) ++ (wCfg cy (cs 3) (bs 3) (RG 3) (nI (rn 3)) (RS 3) ++ (wCfg cy (cs 4) (bs 4) (RG 4) (nI (rn 4)) (RS 4) ++ (wCfg cy (cs 5) (bs 5) (RG 5) (nI (rn 5)) (RS 5) ++ (wCfg cy c1 b1 G1 (nI n1) sc1)))))))) := hD
  refine lv_aload_n hx hb dX1_remember_26 rfl (lv_at hl 0 rfl) ?_
  refine lv_aload_n hx hb dX1_remember_27 rfl (lv_at hl 0 rfl) ?_
  refine va_get (D := (dC, dI)) (ci := 1) (v := .int (nI kk)) (C := RX1) (T := TX1) (N := 3) hx hb hts hin1 hown hK hP 0 rfl rfl 2 (by decide) f_26 (fun _ h9 => h9) rfl dX1_remember_28 ?_
  refine lv_iconst (v := 1) hx hb dX1_remember_31 (by decide) ?_
  refine lv_iadd hx hb dX1_remember_32 ?_
  refine lv_bipush (v := 6) hx hb dX1_remember_33 (by decide) ?_
  refine va_mmin hx hb (by rw [hml]; exact hl.1.symm) hown (hts (.methodLink RX1 29 Lib.Math.min.name) (by decide +kernel)) (hts (.static Lib.Math.min.name) (by decide +kernel)) (hts (.initialized "java/lang/Math") (by decide +kernel)) (hts (.code Lib.Math.min.name Lib.Math.min.code 2 (some .int)) (by decide +kernel)) (Nat.le_of_ble_eq_true rfl) (Nat.le_of_ble_eq_true rfl) (Nat.le_of_ble_eq_true rfl) (Nat.le_of_ble_eq_true rfl) dX1_remember_35 ?_
  refine lv_topi (fun y_ ey_ => ?_)
  obtain rfl : y_ = nI (hcnt kk) := ey_.trans (min_cnt hkk)
  refine va_put (D := (dC, dI)) (ci := 1) (v := .int (nI (hcnt kk))) (ty := .int) (C := RX1) (T := TX1) (N := 3) hx hb hts hin1 tyX1 tyX1_ok nmX1 hown hK hP hD hS 0 rfl rfl 2 (by decide) f_26 (fun _ h9 => h9) rfl (by decide +kernel) rfl rfl (Nat.le_of_ble_eq_true rfl) dX1_remember_38 (fun H locs hP hD hS => ?_)
  have hP : va_P (dC, dI) vwCl ([(h0, .inr (1, [.ref rg, .int (nI 1), .int (nI (hcnt kk))])), (rg, .inl ((cy 1), 6, .inr (.inr (.inr (.inr (fun j => some (cs j)))))))] ++ (wCfg cy (cs 0) (bs 0) (cpG (RG 0) G1 n1) (nI n1) sc1 ++ (wCfg cy (cs 1) (bs 1) (RG 1) (nI (rn 1)) (RS 1) ++ (wCfg cy (cs 2) (bs 2) (RG 2) (nI (rn 2)) (RS 2) ++ (wCfg cy (cs 3) (bs 3) (RG 3) (nI (rn 3)) (RS 3) ++ (wCfg cy (cs 4) (bs 4) (RG 4) (nI (rn 4)) (RS 4) ++ (wCfg cy (cs 5) (bs 5) (RG 5) (nI (rn 5)) (RS 5) ++ (wCfg cy c1 b1 G1 (nI n1) sc1)))))))) H := hP
  have hD : va_D A ([(h0, .inr (1, [.ref rg, .int (nI 1), .int (nI (hcnt kk))])), (rg, .inl ((cy 1), 6, .inr (.inr (.inr (.inr (fun j => some (cs j)))))))] ++ (wCfg cy (cs 0) (bs 0) (cpG (RG 0) G1 n1) (nI n1) sc1 ++ (wCfg cy (cs 1) (bs 1) (RG 1) (nI (rn 1)) (RS 1) ++ (wCfg cy (cs 2) (bs 2) (RG 2) (nI (rn 2)) (RS 2) ++ (wCfg cy (cs 3) (bs 3) (RG 3) (nI (rn 3)) (RS 3) ++ (wCfg cy (cs 4) (bs 4) (RG 4) (nI (rn 4)) (RS 4) ++ (wCfg cy (cs 5) (bs 5) (RG 5) (nI (rn 5)) (RS 5) ++ (wCfg cy c1 b1 G1 (nI n1) sc1)))))))) := hD
  have hP9 : va_P (dC, dI) vwCl (wHis cy h0 rg 1 (hcnt kk) cs bs (va_up RG 0 (cpG (RG 0) G1 n1)) (va_up rn 0 n1) (va_up RS 0 sc1) ++ wCfg cy c1 b1 G1 (nI n1) sc1) H := hP
  have hD9 : va_D A (wHis cy h0 rg 1 (hcnt kk) cs bs (va_up RG 0 (cpG (RG 0) G1 n1)) (va_up rn 0 n1) (va_up RS 0 sc1) ++ wCfg cy c1 b1 G1 (nI n1) sc1) := hD
  exact W.vret hx hb hr (fun t ht hW => ⟨⟨(), rfl, trivial, by rw [ht]; exact hP9, hD9⟩, hS.F ht⟩) hS.2.2 dX1_remember_41
set_option maxHeartbeats 1000000 in
set_option maxRecDepth 100000 in
/-- the ring remembers, at place 1 -/
theorem c_X1_remember_1 (l : Launch) (dC : Nat → ClassId) (dI : Nat → Nat → Nat) (cy : Nat → ClassId) (sz : Nat) (h0 rg : Nat) (kk : Nat) (cs : Nat → Nat) (bs : Nat → Nat → Nat) (RG : Nat → vG) (rn : Nat → Nat) (RS : Nat → Int32) (c1 : Nat) (b1 : Nat → Nat) (G1 : vG) (n1 : Nat) (sc1 : Int32) (hkk : kk ≤ 6) (hn1 : n1 ≤ 8) : Met l yX1_remember wsX1_remember ({ frames := 2, cells := 0, slots := 0, locals := 45 }) (va_Pc [.ref h0, .ref c1] (pIn dC dI cy ([(h0, .inr (1, [.ref rg, .int (nI 1), .int (nI kk)])), (rg, .inl ((cy 1), 6, .inr (.inr (.inr (.inr (fun j => some (cs j)))))))] ++ (wCfg cy (cs 0) (bs 0) (RG 0) (nI (rn 0)) (RS 0) ++ (wCfg cy (cs 1) (bs 1) (RG 1) (nI (rn 1)) (RS 1) ++ (wCfg cy (cs 2) (bs 2) (RG 2) (nI (rn 2)) (RS 2) ++ (wCfg cy (cs 3) (bs 3) (RG 3) (nI (rn 3)) (RS 3) ++ (wCfg cy (cs 4) (bs 4) (RG 4) (nI (rn 4)) (RS 4) ++ (wCfg cy (cs 5) (bs 5) (RG 5) (nI (rn 5)) (RS 5) ++ (wCfg cy c1 b1 G1 (nI n1) sc1)))))))) sz)) (va_Qv (fun _ => True) (fun (u : Unit) t => va_P (dC, dI) vwCl (wHis cy h0 rg 2 (hcnt kk) cs bs (va_up RG 1 (cpG (RG 1) G1 n1)) (va_up rn 1 n1) (va_up RS 1 sc1) ++ wCfg cy c1 b1 G1 (nI n1) sc1) t.heap ∧ va_D (va_A ([(h0, .inr (1, [.ref rg, .int (nI 1), .int (nI kk)])), (rg, .inl ((cy 1), 6, .inr (.inr (.inr (.inr (fun j => some (cs j)))))))] ++ (wCfg cy (cs 0) (bs 0) (RG 0) (nI (rn 0)) (RS 0) ++ (wCfg cy (cs 1) (bs 1) (RG 1) (nI (rn 1)) (RS 1) ++ (wCfg cy (cs 2) (bs 2) (RG 2) (nI (rn 2)) (RS 2) ++ (wCfg cy (cs 3) (bs 3) (RG 3) (nI (rn 3)) (RS 3) ++ (wCfg cy (cs 4) (bs 4) (RG 4) (nI (rn 4)) (RS 4) ++ (wCfg cy (cs 5) (bs 5) (RG 5) (nI (rn 5)) (RS 5) ++ (wCfg cy c1 b1 G1 (nI n1) sc1)))))))) sz) (wHis cy h0 rg 2 (hcnt kk) cs bs (va_up RG 1 (cpG (RG 1) G1 n1)) (va_up rn 1 n1) (va_up RS 1 sc1) ++ wCfg cy c1 b1 G1 (nI n1) sc1)) (va_A ([(h0, .inr (1, [.ref rg, .int (nI 1), .int (nI kk)])), (rg, .inl ((cy 1), 6, .inr (.inr (.inr (.inr (fun j => some (cs j)))))))] ++ (wCfg cy (cs 0) (bs 0) (RG 0) (nI (rn 0)) (RS 0) ++ (wCfg cy (cs 1) (bs 1) (RG 1) (nI (rn 1)) (RS 1) ++ (wCfg cy (cs 2) (bs 2) (RG 2) (nI (rn 2)) (RS 2) ++ (wCfg cy (cs 3) (bs 3) (RG 3) (nI (rn 3)) (RS 3) ++ (wCfg cy (cs 4) (bs 4) (RG 4) (nI (rn 4)) (RS 4) ++ (wCfg cy (cs 5) (bs 5) (RG 5) (nI (rn 5)) (RS 5) ++ (wCfg cy c1 b1 G1 (nI n1) sc1)))))))) sz)) 0 0 (va_A ([(h0, .inr (1, [.ref rg, .int (nI 1), .int (nI kk)])), (rg, .inl ((cy 1), 6, .inr (.inr (.inr (.inr (fun j => some (cs j)))))))] ++ (wCfg cy (cs 0) (bs 0) (RG 0) (nI (rn 0)) (RS 0) ++ (wCfg cy (cs 1) (bs 1) (RG 1) (nI (rn 1)) (RS 1) ++ (wCfg cy (cs 2) (bs 2) (RG 2) (nI (rn 2)) (RS 2) ++ (wCfg cy (cs 3) (bs 3) (RG 3) (nI (rn 3)) (RS 3) ++ (wCfg cy (cs 4) (bs 4) (RG 4) (nI (rn 4)) (RS 4) ++ (wCfg cy (cs 5) (bs 5) (RG 5) (nI (rn 5)) (RS 5) ++ (wCfg cy c1 b1 G1 (nI n1) sc1)))))))) sz) := by
  refine Met.ofW (cc := cX1_remember) (maxL := 2) (ret := none) (by decide) rfl ?_
  intro p e s m args below meth c s₁ B hml hv
  obtain ⟨rfl, hsz, hP, hE, hD0⟩ := hv
  have hK := hE.1
  subst hsz
  have hD := hD0.self (sz := s.heap.size)
  generalize hAe : va_A ([(h0, .inr (1, [.ref rg, .int (nI 1), .int (nI kk)])), (rg, .inl ((cy 1), 6, .inr (.inr (.inr (.inr (fun j => some (cs j)))))))] ++ (wCfg cy (cs 0) (bs 0) (RG 0) (nI (rn 0)) (RS 0) ++ (wCfg cy (cs 1) (bs 1) (RG 1) (nI (rn 1)) (RS 1) ++ (wCfg cy (cs 2) (bs 2) (RG 2) (nI (rn 2)) (RS 2) ++ (wCfg cy (cs 3) (bs 3) (RG 3) (nI (rn 3)) (RS 3) ++ (wCfg cy (cs 4) (bs 4) (RG 4) (nI (rn 4)) (RS 4) ++ (wCfg cy (cs 5) (bs 5) (RG 5) (nI (rn 5)) (RS 5) ++ (wCfg cy c1 b1 G1 (nI n1) sc1)))))))) s.heap.size = A at hD ⊢
  have hA : ∀ q : Nat, s.heap.size ≤ q → A q := fun q h => by rw [← hAe]; exact Or.inr h
  have hS : va_S A s.heap s.heap [] := va_S.rf
  have hP : va_P (dC, dI) vwCl ([(h0, .inr (1, [.ref rg, .int (nI 1), .int (nI kk)])), (rg, .inl ((cy 1), 6, .inr (.inr (.inr (.inr (fun j => some (cs j)))))))] ++ (wCfg cy (cs 0) (bs 0) (RG 0) (nI (rn 0)) (RS 0) ++ (wCfg cy (cs 1) (bs 1) (RG 1) (nI (rn 1)) (RS 1) ++ (wCfg cy (cs 2) (bs 2) (RG 2) (nI (rn 2)) (RS 2) ++ (wCfg cy (cs 3) (bs 3) (RG 3) (nI (rn 3)) (RS 3) ++ (wCfg cy (cs 4) (bs 4) (RG 4) (nI (rn 4)) (RS 4) ++ (wCfg cy (cs 5) (bs 5) (RG 5) (nI (rn 5)) (RS 5) ++ (wCfg cy c1 b1 G1 (nI n1) sc1)))))))) s.heap := hP
  have hx := B.exec
  have hb := B.bytes
  have hr := B.returns
  have hts := atoms_spec (ws := wsX1_remember) B.pre
  have hown : s.vm.findClass RX1 = some m.cls := findClass_of_methodNamed B.named
  have hlocks := B.notSynchronized
  have hin1 : ∀ w ∈ u_ws RX1 TX1 3, w ∈ wsX1_remember := by decide +kernel
  have f_11 := hts (.fieldLink RX1 11 "DeadlineAdmission$History" "ring" "[LDeadlineAdmission$Configuration;") (by decide +kernel)
  have f_18 := hts (.fieldLink RX1 18 "DeadlineAdmission$History" "next" "I") (by decide +kernel)
  have f_26 := hts (.fieldLink RX1 26 "DeadlineAdmission$History" "kept" "I") (by decide +kernel)
  have hl := lv_entry ([.ref h0, .ref c1]) (n := 2) (Nat.le_of_ble_eq_true rfl)
  rw [lg_entry_eq]
  generalize (lg_sl ([.ref h0, .ref c1]) ++ List.replicate (2 - (lg_sl ([.ref h0, .ref c1])).length) Slot.unset).toArray = ls at hl ⊢
  have hl : lv_has ls 2 [(0, .ref h0), (1, .ref c1)] := hl
  refine lv_aload_n hx hb dX1_remember_0 rfl (lv_at hl 0 rfl) ?_
  refine va_get (D := (dC, dI)) (ci := 1) (v := .ref rg) (C := RX1) (T := TX1) (N := 3) hx hb hts hin1 hown hK hP 0 rfl rfl 0 (by decide) f_11 (fun _ h9 => h9) rfl dX1_remember_1 ?_
  refine lv_aload_n hx hb dX1_remember_4 rfl (lv_at hl 0 rfl) ?_
  refine va_get (D := (dC, dI)) (ci := 1) (v := .int (nI 1)) (C := RX1) (T := TX1) (N := 3) hx hb hts hin1 hown hK hP 0 rfl rfl 1 (by decide) f_18 (fun _ h9 => h9) rfl dX1_remember_5 ?_
  refine wA_ald (q := (cs 1)) hx hb hK hP 1 1 rfl rfl 1 rfl (by omega) (by decide) rfl dX1_remember_8 ?_
  refine lv_aload_n hx hb dX1_remember_9 rfl (lv_at hl 1 rfl) ?_
  have hPc := hP.sub (ws' := wCfg cy (cs 1) (bs 1) (RG 1) (nI (rn 1)) (RS 1) ++ (wCfg cy c1 b1 G1 (nI n1) sc1)) [10, 11, 12, 13, 14, 15, 16, 17, 50, 51, 52, 53, 54, 55, 56, 57] rfl
  have hDc := hD.sub (ws' := wCfg cy (cs 1) (bs 1) (RG 1) (nI (rn 1)) (RS 1) ++ (wCfg cy c1 b1 G1 (nI n1) sc1)) [10, 11, 12, 13, 14, 15, 16, 17, 50, 51, 52, 53, 54, 55, 56, 57] (by decide) rfl
  have hFc := va_free (wc := wCfg cy (cs 1) (bs 1) (RG 1) (nI (rn 1)) (RS 1) ++ (wCfg cy c1 b1 G1 (nI n1) sc1)) hD hS hA [10, 11, 12, 13, 14, 15, 16, 17, 50, 51, 52, 53, 54, 55, 56, 57] rfl
  refine va_callv (va_runV (As := [.ref c1]) (rest := []) ⟨hx, hb, hml, hown, hts⟩ (c_X0_copyFrom l dC dI cy s.heap.size (cs 1) (bs 1) (RG 1) (nI (rn 1)) (RS 1) c1 b1 G1 n1 hn1 sc1) (cwV 1 hts gX1_remember_X0_copyFrom rfl rfl rfl (by decide +kernel) ⟨Nat.le_of_ble_eq_true rfl, Nat.le_of_ble_eq_true rfl⟩) ⟨bl_in, va_recv hK hPc (ci := 0) (q0 := 0) rfl rfl, pr_in hPc hE hDc⟩ rfl rfl hl.1 rfl (lv_room (Nat.le_of_ble_eq_true rfl)) dX1_remember_10 ⟨Nat.le_of_ble_eq_true rfl, Nat.le_of_ble_eq_true rfl⟩) hS (fun q _ h => hFc q h) hFc (fun u t H1 locs ht hvm hw hB hz1 hk1 hS => ?_)
  obtain ⟨hP1, hD1⟩ := hB
  rw [ht] at hP1
  obtain ⟨hP, hD⟩ := va_join (wr := [(h0, .inr (1, [.ref rg, .int (nI 1), .int (nI kk)])), (rg, .inl ((cy 1), 6, .inr (.inr (.inr (.inr (fun j => some (cs j)))))))] ++ (wCfg cy (cs 0) (bs 0) (RG 0) (nI (rn 0)) (RS 0) ++ (wCfg cy (cs 2) (bs 2) (RG 2) (nI (rn 2)) (RS 2) ++ (wCfg cy (cs 3) (bs 3) (RG 3) (nI (rn 3)) (RS 3) ++ (wCfg cy (cs 4) (bs 4) (RG 4) (nI (rn 4)) (RS 4) ++ (wCfg cy (cs 5) (bs 5) (RG 5) (nI (rn 5)) (RS 5))))))) (w1 := wCfg cy (cs 1) (bs 1) (cpG (RG 1) G1 n1) (nI n1) sc1 ++ (wCfg cy c1 b1 G1 (nI n1) sc1)) hP hD [10, 11, 12, 13, 14, 15, 16, 17, 50, 51, 52, 53, 54, 55, 56, 57] [0, 1, 2, 3, 4, 5, 6, 7, 8, 9, 18, 19, 20, 21, 22, 23, 24, 25, 26, 27, 28, 29, 30, 31, 32, 33, 34, 35, 36, 37, 38, 39, 40, 41, 42, 43, 44, 45, 46, 47, 48, 49] rfl rfl (by decide) (by decide) hk1 hFc hP1 hD1
  have hP : va_P (dC, dI) vwCl ([(h0, .inr (1, [.ref rg, .int (nI 1), .int (nI kk)])), (rg, .inl ((cy 1), 6, .inr (.inr (.inr (.inr (fun j => some (cs j)))))))] ++ (wCfg cy (cs 0) (bs 0) (RG 0) (nI (rn 0)) (RS 0) ++ (wCfg cy (cs 1) (bs 1) (cpG (RG 1) G1 n1) (nI n1) sc1 ++ (wCfg cy (cs 2) (bs 2) (RG 2) (nI (rn 2)) (RS 2) ++ (wCfg cy (cs 3) (bs 3) (RG 3) (nI (rn 3)) (RS 3) ++ (wCfg cy (cs 4) (bs 4) (RG 4) (nI (rn 4)) (RS 4) ++ (wCfg cy (cs 5) (bs 5) (RG 5) (nI (rn 5)) (RS 5) ++ (wCfg cy c1 b1 G1 (nI n1) sc1)))))))) H1 := hP.sub [0, 1, 2, 3, 4, 5, 6, 7, 8, 9, 42, 43, 44, 45, 46, 47, 48, 49, 10, 11, 12, 13, 14, 15, 16, 17, 18, 19, 20, 21, 22, 23, 24, 25, 26, 27, 28, 29, 30, 31, 32, 33, 34, 35, 36, 37, 38, 39, 40, 41, 50, 51, 52, 53, 54, 55, 56, 57] rfl
  have hD : va_D A ([(h0, .inr (1, [.ref rg, .int (nI 1), .int (nI kk)])), (rg, .inl ((cy 1), 6, .inr (.inr (.inr (.inr (fun j => some (cs j)))))))] ++ (wCfg cy (cs 0) (bs 0) (RG 0) (nI (rn 0)) (RS 0) ++ (wCfg cy (cs 1) (bs 1) (cpG (RG 1) G1 n1) (nI n1) sc1 ++ (wCfg cy (cs 2) (bs 2) (RG 2) (nI (rn 2)) (RS 2) ++ (wCfg cy (cs 3) (bs 3) (RG 3) (nI (rn 3)) (RS 3) ++ (wCfg cy (cs 4) (bs 4) (RG 4) (nI (rn 4)) (RS 4) ++ (wCfg cy (cs 5) (bs 5) (RG 5) (nI (rn 5)) (RS 5) ++ (wCfg cy c1 b1 G1 (nI n1) sc1)))))))) := hD.sub [0, 1, 2, 3, 4, 5, 6, 7, 8, 9, 42, 43, 44, 45, 46, 47, 48, 49, 10, 11, 12, 13, 14, 15, 16, 17, 18, 19, 20, 21, 22, 23, 24, 25, 26, 27, 28, 29, 30, 31, 32, 33, 34, 35, 36, 37, 38, 39, 40, 41, 50, 51, 52, 53, 54, 55, 56, 57] (by decide) rfl
  clear hz1 hk1 hPc hDc hFc hP1 hD1
  generalize H1 = H at hP hS ⊢
  refine lv_aload_n hx hb dX1_remember_13 rfl (lv_at hl 0 rfl) ?_
  refine lv_aload_n hx hb dX1_remember_14 rfl (lv_at hl 0 rfl) ?_
  refine va_get (D := (dC, dI)) (ci := 1) (v := .int (nI 1)) (C := RX1) (T := TX1) (N := 3) hx hb hts hin1 hown hK hP 0 rfl rfl 1 (by decide) f_18 (fun _ h9 => h9) rfl dX1_remember_15 ?_
  refine lv_iconst (v := 1) hx hb dX1_remember_18 (by decide) ?_
  refine lv_iadd hx hb dX1_remember_19 ?_
  refine lv_bipush (v := 6) hx hb dX1_remember_20 (by decide) ?_
  refine lv_irem hx hb dX1_remember_22 (by decide) ?_
  refine lv_topi (fun y_ ey_ => ?_)
  obtain rfl : y_ = nI 2 := ey_.trans (by decide)
  refine va_put (D := (dC, dI)) (ci := 1) (v := .int (nI 2)) (ty := .int) (C := RX1) (T := TX1) (N := 3) hx hb hts hin1 tyX1 tyX1_ok nmX1 hown hK hP hD hS 0 rfl rfl 1 (by decide) f_18 (fun _ h9 => h9) rfl (by decide +kernel) rfl rfl (Nat.le_of_ble_eq_true rfl) dX1_remember_23 (fun H locs hP hD hS => ?_)
  have hP : va_P (dC, dI) vwCl ([(h0, .inr (1, [.ref rg, .int (nI 2), .int (nI kk)])), (rg, .inl ((cy 1), 6, .inr (.inr (.inr (.inr (fun j => some (cs j)))))))] ++ (wCfg cy (cs 0) (bs 0) (RG 0) (nI (rn 0)) (RS 0) ++ (wCfg cy (cs 1) (bs 1) (cpG (RG 1) G1 n1) (nI n1) sc1 ++ (wCfg cy (cs 2) (bs 2) (RG 2) (nI (rn 2)) (RS 2) ++ (wCfg cy (cs 3) (bs 3) (RG 3) (nI (rn 3)) (RS 3) ++ (wCfg cy (cs 4) (bs 4) (RG 4) (nI (rn 4)) (RS 4) ++ (wCfg cy (cs 5) (bs 5) (RG 5) (nI (rn 5)) (RS 5) ++ (wCfg cy c1 b1 G1 (nI n1) sc1)))))))) H := hP
  have hD : va_D A ([(h0, .inr (1, [.ref rg, .int (nI 2), .int (nI kk)])), (rg, .inl ((cy 1), 6, .inr (.inr (.inr (.inr (fun j => some (cs j)))))))] ++ (wCfg cy (cs 0) (bs 0) (RG 0) (nI (rn 0)) (RS 0) ++ (wCfg cy (cs 1) (bs 1) (cpG (RG 1) G1 n1) (nI n1) sc1 ++ (wCfg cy (cs 2) (bs 2) (RG 2) (nI (rn 2)) (RS 2) ++ (wCfg cy (cs 3) (bs 3) (RG 3) (nI (rn 3)) (RS 3) ++ (wCfg cy (cs 4) (bs 4) (RG 4) (nI (rn 4)) (RS 4) ++ (wCfg cy (cs 5) (bs 5) (RG 5) (nI (rn 5)) (RS 5) ++ (wCfg cy c1 b1 G1 (nI n1) sc1)))))))) := hD
  refine lv_aload_n hx hb dX1_remember_26 rfl (lv_at hl 0 rfl) ?_
  refine lv_aload_n hx hb dX1_remember_27 rfl (lv_at hl 0 rfl) ?_
  refine va_get (D := (dC, dI)) (ci := 1) (v := .int (nI kk)) (C := RX1) (T := TX1) (N := 3) hx hb hts hin1 hown hK hP 0 rfl rfl 2 (by decide) f_26 (fun _ h9 => h9) rfl dX1_remember_28 ?_
  refine lv_iconst (v := 1) hx hb dX1_remember_31 (by decide) ?_
  refine lv_iadd hx hb dX1_remember_32 ?_
  refine lv_bipush (v := 6) hx hb dX1_remember_33 (by decide) ?_
  refine va_mmin hx hb (by rw [hml]; exact hl.1.symm) hown (hts (.methodLink RX1 29 Lib.Math.min.name) (by decide +kernel)) (hts (.static Lib.Math.min.name) (by decide +kernel)) (hts (.initialized "java/lang/Math") (by decide +kernel)) (hts (.code Lib.Math.min.name Lib.Math.min.code 2 (some .int)) (by decide +kernel)) (Nat.le_of_ble_eq_true rfl) (Nat.le_of_ble_eq_true rfl) (Nat.le_of_ble_eq_true rfl) (Nat.le_of_ble_eq_true rfl) dX1_remember_35 ?_
  refine lv_topi (fun y_ ey_ => ?_)
  obtain rfl : y_ = nI (hcnt kk) := ey_.trans (min_cnt hkk)
  refine va_put (D := (dC, dI)) (ci := 1) (v := .int (nI (hcnt kk))) (ty := .int) (C := RX1) (T := TX1) (N := 3) hx hb hts hin1 tyX1 tyX1_ok nmX1 hown hK hP hD hS 0 rfl rfl 2 (by decide) f_26 (fun _ h9 => h9) rfl (by decide +kernel) rfl rfl (Nat.le_of_ble_eq_true rfl) dX1_remember_38 (fun H locs hP hD hS => ?_)
  have hP : va_P (dC, dI) vwCl ([(h0, .inr (1, [.ref rg, .int (nI 2), .int (nI (hcnt kk))])), (rg, .inl ((cy 1), 6, .inr (.inr (.inr (.inr (fun j => some (cs j)))))))] ++ (wCfg cy (cs 0) (bs 0) (RG 0) (nI (rn 0)) (RS 0) ++ (wCfg cy (cs 1) (bs 1) (cpG (RG 1) G1 n1) (nI n1) sc1 ++ (wCfg cy (cs 2) (bs 2) (RG 2) (nI (rn 2)) (RS 2) ++ (wCfg cy (cs 3) (bs 3) (RG 3) (nI (rn 3)) (RS 3) ++ (wCfg cy (cs 4) (bs 4) (RG 4) (nI (rn 4)) (RS 4) ++ (wCfg cy (cs 5) (bs 5) (RG 5) (nI (rn 5)) (RS 5) ++ (wCfg cy c1 b1 G1 (nI n1) sc1)))))))) H := hP
  have hD : va_D A ([(h0, .inr (1, [.ref rg, .int (nI 2), .int (nI (hcnt kk))])), (rg, .inl ((cy 1), 6, .inr (.inr (.inr (.inr (fun j => some (cs j)))))))] ++ (wCfg cy (cs 0) (bs 0) (RG 0) (nI (rn 0)) (RS 0) ++ (wCfg cy (cs 1) (bs 1) (cpG (RG 1) G1 n1) (nI n1) sc1 ++ (wCfg cy (cs 2) (bs 2) (RG 2) (nI (rn 2)) (RS 2) ++ (wCfg cy (cs 3) (bs 3) (RG 3) (nI (rn 3)) (RS 3) ++ (wCfg cy (cs 4) (bs 4) (RG 4) (nI (rn 4)) (RS 4) ++ (wCfg cy (cs 5) (bs 5) (RG 5) (nI (rn 5)) (RS 5) ++ (wCfg cy c1 b1 G1 (nI n1) sc1)))))))) := hD
  have hP9 : va_P (dC, dI) vwCl (wHis cy h0 rg 2 (hcnt kk) cs bs (va_up RG 1 (cpG (RG 1) G1 n1)) (va_up rn 1 n1) (va_up RS 1 sc1) ++ wCfg cy c1 b1 G1 (nI n1) sc1) H := hP
  have hD9 : va_D A (wHis cy h0 rg 2 (hcnt kk) cs bs (va_up RG 1 (cpG (RG 1) G1 n1)) (va_up rn 1 n1) (va_up RS 1 sc1) ++ wCfg cy c1 b1 G1 (nI n1) sc1) := hD
  exact W.vret hx hb hr (fun t ht hW => ⟨⟨(), rfl, trivial, by rw [ht]; exact hP9, hD9⟩, hS.F ht⟩) hS.2.2 dX1_remember_41
set_option maxHeartbeats 1000000 in
set_option maxRecDepth 100000 in
/-- the ring remembers, at place 2 -/
theorem c_X1_remember_2 (l : Launch) (dC : Nat → ClassId) (dI : Nat → Nat → Nat) (cy : Nat → ClassId) (sz : Nat) (h0 rg : Nat) (kk : Nat) (cs : Nat → Nat) (bs : Nat → Nat → Nat) (RG : Nat → vG) (rn : Nat → Nat) (RS : Nat → Int32) (c1 : Nat) (b1 : Nat → Nat) (G1 : vG) (n1 : Nat) (sc1 : Int32) (hkk : kk ≤ 6) (hn1 : n1 ≤ 8) : Met l yX1_remember wsX1_remember ({ frames := 2, cells := 0, slots := 0, locals := 45 }) (va_Pc [.ref h0, .ref c1] (pIn dC dI cy ([(h0, .inr (1, [.ref rg, .int (nI 2), .int (nI kk)])), (rg, .inl ((cy 1), 6, .inr (.inr (.inr (.inr (fun j => some (cs j)))))))] ++ (wCfg cy (cs 0) (bs 0) (RG 0) (nI (rn 0)) (RS 0) ++ (wCfg cy (cs 1) (bs 1) (RG 1) (nI (rn 1)) (RS 1) ++ (wCfg cy (cs 2) (bs 2) (RG 2) (nI (rn 2)) (RS 2) ++ (wCfg cy (cs 3) (bs 3) (RG 3) (nI (rn 3)) (RS 3) ++ (wCfg cy (cs 4) (bs 4) (RG 4) (nI (rn 4)) (RS 4) ++ (wCfg cy (cs 5) (bs 5) (RG 5) (nI (rn 5)) (RS 5) ++ (wCfg cy c1 b1 G1 (nI n1) sc1)))))))) sz)) (va_Qv (fun _ => True) (fun (u : Unit) t => va_P (dC, dI) vwCl (wHis cy h0 rg 3 (hcnt kk) cs bs (va_up RG 2 (cpG (RG 2) G1 n1)) (va_up rn 2 n1) (va_up RS 2 sc1) ++ wCfg cy c1 b1 G1 (nI n1) sc1) t.heap ∧ va_D (va_A ([(h0, .inr (1, [.ref rg, .int (nI 2), .int (nI kk)])), (rg, .inl ((cy 1), 6, .inr (.inr (.inr (.inr (fun j => some (cs j)))))))] ++ (wCfg cy (cs 0) (bs 0) (RG 0) (nI (rn 0)) (RS 0) ++ (wCfg cy (cs 1) (bs 1) (RG 1) (nI (rn 1)) (RS 1) ++ (wCfg cy (cs 2) (bs 2) (RG 2) (nI (rn 2)) (RS 2) ++ (wCfg cy (cs 3) (bs 3) (RG 3) (nI (rn 3)) (RS 3) ++ (wCfg cy (cs 4) (bs 4) (RG 4) (nI (rn 4)) (RS 4) ++ (wCfg cy (cs 5) (bs 5) (RG 5) (nI (rn 5)) (RS 5) ++ (wCfg cy c1 b1 G1 (nI n1) sc1)))))))) sz) (wHis cy h0 rg 3 (hcnt kk) cs bs (va_up RG 2 (cpG (RG 2) G1 n1)) (va_up rn 2 n1) (va_up RS 2 sc1) ++ wCfg cy c1 b1 G1 (nI n1) sc1)) (va_A ([(h0, .inr (1, [.ref rg, .int (nI 2), .int (nI kk)])), (rg, .inl ((cy 1), 6, .inr (.inr (.inr (.inr (fun j => some (cs j)))))))] ++ (wCfg cy (cs 0) (bs 0) (RG 0) (nI (rn 0)) (RS 0) ++ (wCfg cy (cs 1) (bs 1) (RG 1) (nI (rn 1)) (RS 1) ++ (wCfg cy (cs 2) (bs 2) (RG 2) (nI (rn 2)) (RS 2) ++ (wCfg cy (cs 3) (bs 3) (RG 3) (nI (rn 3)) (RS 3) ++ (wCfg cy (cs 4) (bs 4) (RG 4) (nI (rn 4)) (RS 4) ++ (wCfg cy (cs 5) (bs 5) (RG 5) (nI (rn 5)) (RS 5) ++ (wCfg cy c1 b1 G1 (nI n1) sc1)))))))) sz)) 0 0 (va_A ([(h0, .inr (1, [.ref rg, .int (nI 2), .int (nI kk)])), (rg, .inl ((cy 1), 6, .inr (.inr (.inr (.inr (fun j => some (cs j)))))))] ++ (wCfg cy (cs 0) (bs 0) (RG 0) (nI (rn 0)) (RS 0) ++ (wCfg cy (cs 1) (bs 1) (RG 1) (nI (rn 1)) (RS 1) ++ (wCfg cy (cs 2) (bs 2) (RG 2) (nI (rn 2)) (RS 2) ++ (wCfg cy (cs 3) (bs 3) (RG 3) (nI (rn 3)) (RS 3) ++ (wCfg cy (cs 4) (bs 4) (RG 4) (nI (rn 4)) (RS 4) ++ (wCfg cy (cs 5) (bs 5) (RG 5) (nI (rn 5)) (RS 5) ++ (wCfg cy c1 b1 G1 (nI n1) sc1)))))))) sz) := by
  refine Met.ofW (cc := cX1_remember) (maxL := 2) (ret := none) (by decide) rfl ?_
  intro p e s m args below meth c s₁ B hml hv
  obtain ⟨rfl, hsz, hP, hE, hD0⟩ := hv
  have hK := hE.1
  subst hsz
  have hD := hD0.self (sz := s.heap.size)
  generalize hAe : va_A ([(h0, .inr (1, [.ref rg, .int (nI 2), .int (nI kk)])), (rg, .inl ((cy 1), 6, .inr (.inr (.inr (.inr (fun j => some (cs j)))))))] ++ (wCfg cy (cs 0) (bs 0) (RG 0) (nI (rn 0)) (RS 0) ++ (wCfg cy (cs 1) (bs 1) (RG 1) (nI (rn 1)) (RS 1) ++ (wCfg cy (cs 2) (bs 2) (RG 2) (nI (rn 2)) (RS 2) ++ (wCfg cy (cs 3) (bs 3) (RG 3) (nI (rn 3)) (RS 3) ++ (wCfg cy (cs 4) (bs 4) (RG 4) (nI (rn 4)) (RS 4) ++ (wCfg cy (cs 5) (bs 5) (RG 5) (nI (rn 5)) (RS 5) ++ (wCfg cy c1 b1 G1 (nI n1) sc1)))))))) s.heap.size = A at hD ⊢
  have hA : ∀ q : Nat, s.heap.size ≤ q → A q := fun q h => by rw [← hAe]; exact Or.inr h
  have hS : va_S A s.heap s.heap [] := va_S.rf
  have hP : va_P (dC, dI) vwCl ([(h0, .inr (1, [.ref rg, .int (nI 2), .int (nI kk)])), (rg, .inl ((cy 1), 6, .inr (.inr (.inr (.inr (fun j => some (cs j)))))))] ++ (wCfg cy (cs 0) (bs 0) (RG 0) (nI (rn 0)) (RS 0) ++ (wCfg cy (cs 1) (bs 1) (RG 1) (nI (rn 1)) (RS 1) ++ (wCfg cy (cs 2) (bs 2) (RG 2) (nI (rn 2)) (RS 2) ++ (wCfg cy (cs 3) (bs 3) (RG 3) (nI (rn 3)) (RS 3) ++ (wCfg cy (cs 4) (bs 4) (RG 4) (nI (rn 4)) (RS 4) ++ (wCfg cy (cs 5) (bs 5) (RG 5) (nI (rn 5)) (RS 5) ++ (wCfg cy c1 b1 G1 (nI n1) sc1)))))))) s.heap := hP
  have hx := B.exec
  have hb := B.bytes
  have hr := B.returns
  have hts := atoms_spec (ws := wsX1_remember) B.pre
  have hown : s.vm.findClass RX1 = some m.cls := findClass_of_methodNamed B.named
  have hlocks := B.notSynchronized
  have hin1 : ∀ w ∈ u_ws RX1 TX1 3, w ∈ wsX1_remember := by decide +kernel
  have f_11 := hts (.fieldLink RX1 11 "DeadlineAdmission$History" "ring" "[LDeadlineAdmission$Configuration;") (by decide +kernel)
  have f_18 := hts (.fieldLink RX1 18 "DeadlineAdmission$History" "next" "I") (by decide +kernel)
  have f_26 := hts (.fieldLink RX1 26 "DeadlineAdmission$History" "kept" "I") (by decide +kernel)
  have hl := lv_entry ([.ref h0, .ref c1]) (n := 2) (Nat.le_of_ble_eq_true rfl)
  rw [lg_entry_eq]
  generalize (lg_sl ([.ref h0, .ref c1]) ++ List.replicate (2 - (lg_sl ([.ref h0, .ref c1])).length) Slot.unset).toArray = ls at hl ⊢
  have hl : lv_has ls 2 [(0, .ref h0), (1, .ref c1)] := hl
  refine lv_aload_n hx hb dX1_remember_0 rfl (lv_at hl 0 rfl) ?_
  refine va_get (D := (dC, dI)) (ci := 1) (v := .ref rg) (C := RX1) (T := TX1) (N := 3) hx hb hts hin1 hown hK hP 0 rfl rfl 0 (by decide) f_11 (fun _ h9 => h9) rfl dX1_remember_1 ?_
  refine lv_aload_n hx hb dX1_remember_4 rfl (lv_at hl 0 rfl) ?_
  refine va_get (D := (dC, dI)) (ci := 1) (v := .int (nI 2)) (C := RX1) (T := TX1) (N := 3) hx hb hts hin1 hown hK hP 0 rfl rfl 1 (by decide) f_18 (fun _ h9 => h9) rfl dX1_remember_5 ?_
  refine wA_ald (q := (cs 2)) hx hb hK hP 1 1 rfl rfl 2 rfl (by omega) (by decide) rfl dX1_remember_8 ?_
  refine lv_aload_n hx hb dX1_remember_9 rfl (lv_at hl 1 rfl) ?_
  have hPc := hP.sub (ws' := wCfg cy (cs 2) (bs 2) (RG 2) (nI (rn 2)) (RS 2) ++ (wCfg cy c1 b1 G1 (nI n1) sc1)) [18, 19, 20, 21, 22, 23, 24, 25, 50, 51, 52, 53, 54, 55, 56, 57] rfl
  have hDc := hD.sub (ws' := wCfg cy (cs 2) (bs 2) (RG 2) (nI (rn 2)) (RS 2) ++ (wCfg cy c1 b1 G1 (nI n1) sc1)) [18, 19, 20, 21, 22, 23, 24, 25, 50, 51, 52, 53, 54, 55, 56, 57] (by decide) rfl
  have hFc := va_free (wc := wCfg cy (cs 2) (bs 2) (RG 2) (nI (rn 2)) (RS 2) ++ (wCfg cy c1 b1 G1 (nI n1) sc1)) hD hS hA [18, 19, 20, 21, 22, 23, 24, 25, 50, 51, 52, 53, 54, 55, 56, 57] rfl
  refine va_callv (va_runV (As := [.ref c1]) (rest := []) ⟨hx, hb, hml, hown, hts⟩ (c_X0_copyFrom l dC dI cy s.heap.size (cs 2) (bs 2) (RG 2) (nI (rn 2)) (RS 2) c1 b1 G1 n1 hn1 sc1) (cwV 1 hts gX1_remember_X0_copyFrom rfl rfl rfl (by decide +kernel) ⟨Nat.le_of_ble_eq_true rfl, Nat.le_of_ble_eq_true rfl⟩) ⟨bl_in, va_recv hK hPc (ci := 0) (q0 := 0) rfl rfl, pr_in hPc hE hDc⟩ rfl rfl hl.1 rfl (lv_room (Nat.le_of_ble_eq_true rfl)) dX1_remember_10 ⟨Nat.le_of_ble_eq_true rfl, Nat.le_of_ble_eq_true rfl⟩) hS (fun q _ h => hFc q h) hFc (fun u t H1 locs ht hvm hw hB hz1 hk1 hS => ?_)
  obtain ⟨hP1, hD1⟩ := hB
  rw [ht] at hP1
  obtain ⟨hP, hD⟩ := va_join (wr := [(h0, .inr (1, [.ref rg, .int (nI 2), .int (nI kk)])), (rg, .inl ((cy 1), 6, .inr (.inr (.inr (.inr (fun j => some (cs j)))))))] ++ (wCfg cy (cs 0) (bs 0) (RG 0) (nI (rn 0)) (RS 0) ++ (wCfg cy (cs 1) (bs 1) (RG 1) (nI (rn 1)) (RS 1) ++ (wCfg cy (cs 3) (bs 3) (RG 3) (nI (rn 3)) (RS 3) ++ (wCfg cy (cs 4) (bs 4) (RG 4) (nI (rn 4)) (RS 4) ++ (wCfg cy (cs 5) (bs 5) (RG 5) (nI (rn 5)) (RS 5))))))) (w1 := wCfg cy (cs 2) (bs 2) (cpG (RG 2) G1 n1) (nI n1) sc1 ++ (wCfg cy c1 b1 G1 (nI n1) sc1)) hP hD [18, 19, 20, 21, 22, 23, 24, 25, 50, 51, 52, 53, 54, 55, 56, 57] [0, 1, 2, 3, 4, 5, 6, 7, 8, 9, 10, 11, 12, 13, 14, 15, 16, 17, 26, 27, 28, 29, 30, 31, 32, 33, 34, 35, 36, 37, 38, 39, 40, 41, 42, 43, 44, 45, 46, 47, 48, 49] rfl rfl (by decide) (by decide) hk1 hFc hP1 hD1
  have hP : va_P (dC, dI) vwCl ([(h0, .inr (1, [.ref rg, .int (nI 2), .int (nI kk)])), (rg, .inl ((cy 1), 6, .inr (.inr (.inr (.inr (fun j => some (cs j)))))))] ++ (wCfg cy (cs 0) (bs 0) (RG 0) (nI (rn 0)) (RS 0) ++ (wCfg cy (cs 1) (bs 1) (RG 1) (nI (rn 1)) (RS 1) ++ (wCfg cy (cs 2) (bs 2) (cpG (RG 2) G1 n1) (nI n1) sc1 ++ (wCfg cy (cs 3) (bs 3) (RG 3) (nI (rn 3)) (RS 3) ++ (wCfg cy (cs 4) (bs 4) (RG 4) (nI (rn 4)) (RS 4) ++ (wCfg cy (cs 5) (bs 5) (RG 5) (nI (rn 5)) (RS 5) ++ (wCfg cy c1 b1 G1 (nI n1) sc1)))))))) H1 := hP.sub [0, 1, 2, 3, 4, 5, 6, 7, 8, 9, 10, 11, 12, 13, 14, 15, 16, 17, 42, 43, 44, 45, 46, 47, 48, 49, 18, 19, 20, 21, 22, 23, 24, 25, 26, 27, 28, 29, 30, 31, 32, 33, 34, 35, 36, 37, 38, 39, 40, 41, 50, 51, 52, 53, 54, 55, 56, 57] rfl
  have hD : va_D A ([(h0, .inr (1, [.ref rg, .int (nI 2), .int (nI kk)])), (rg, .inl ((cy 1), 6, .inr (.inr (.inr (.inr (fun j => some (cs j)))))))] ++ (wCfg cy (cs 0) (bs 0) (RG 0) (nI (rn 0)) (RS 0) ++ (wCfg cy (cs 1) (bs 1) (RG 1) (nI (rn 1)) (RS 1) ++ (wCfg cy (cs 2) (bs 2) (cpG (RG 2) G1 n1) (nI n1) sc1 ++ (wCfg cy (cs 3) (bs 3) (RG 3) (nI (rn 3)) (RS 3) ++ (wCfg cy (cs 4) (bs 4) (RG 4) (nI (rn 4)) (RS 4) ++ (wCfg cy (cs 5) (bs 5) (RG 5) (nI (rn 5)) (RS 5) ++ (wCfg cy c1 b1 G1 (nI n1) sc1)))))))) := hD.sub [0, 1, 2, 3, 4, 5, 6, 7, 8, 9, 10, 11, 12, 13, 14, 15, 16, 17, 42, 43, 44, 45, 46, 47, 48, 49, 18, 19, 20, 21, 22, 23, 24, 25, 26, 27, 28, 29, 30, 31, 32, 33, 34, 35, 36, 37, 38, 39, 40, 41, 50, 51, 52, 53, 54, 55, 56, 57] (by decide) rfl
  clear hz1 hk1 hPc hDc hFc hP1 hD1
  generalize H1 = H at hP hS ⊢
  refine lv_aload_n hx hb dX1_remember_13 rfl (lv_at hl 0 rfl) ?_
  refine lv_aload_n hx hb dX1_remember_14 rfl (lv_at hl 0 rfl) ?_
  refine va_get (D := (dC, dI)) (ci := 1) (v := .int (nI 2)) (C := RX1) (T := TX1) (N := 3) hx hb hts hin1 hown hK hP 0 rfl rfl 1 (by decide) f_18 (fun _ h9 => h9) rfl dX1_remember_15 ?_
  refine lv_iconst (v := 1) hx hb dX1_remember_18 (by decide) ?_
  refine lv_iadd hx hb dX1_remember_19 ?_
  refine lv_bipush (v := 6) hx hb dX1_remember_20 (by decide) ?_
  refine lv_irem hx hb dX1_remember_22 (by decide) ?_
  refine lv_topi (fun y_ ey_ => ?_)
  obtain rfl : y_ = nI 3 := ey_.trans (by decide)
  refine va_put (D := (dC, dI)) (ci := 1) (v := .int (nI 3)) (ty := .int) (C := RX1) (T := TX1) (N := 3) hx hb hts hin1 tyX1 tyX1_ok nmX1 hown hK hP hD hS 0 rfl rfl 1 (by decide) f_18 (fun _ h9 => h9) rfl (by decide +kernel) rfl rfl (Nat.le_of_ble_eq_true rfl) dX1_remember_23 (fun H locs hP hD hS => ?_)
  have hP : va_P (dC, dI) vwCl ([(h0, .inr (1, [.ref rg, .int (nI 3), .int (nI kk)])), (rg, .inl ((cy 1), 6, .inr (.inr (.inr (.inr (fun j => some (cs j)))))))] ++ (wCfg cy (cs 0) (bs 0) (RG 0) (nI (rn 0)) (RS 0) ++ (wCfg cy (cs 1) (bs 1) (RG 1) (nI (rn 1)) (RS 1) ++ (wCfg cy (cs 2) (bs 2) (cpG (RG 2) G1 n1) (nI n1) sc1 ++ (wCfg cy (cs 3) (bs 3) (RG 3) (nI (rn 3)) (RS 3) ++ (wCfg cy (cs 4) (bs 4) (RG 4) (nI (rn 4)) (RS 4) ++ (wCfg cy (cs 5) (bs 5) (RG 5) (nI (rn 5)) (RS 5) ++ (wCfg cy c1 b1 G1 (nI n1) sc1)))))))) H := hP
  have hD : va_D A ([(h0, .inr (1, [.ref rg, .int (nI 3), .int (nI kk)])), (rg, .inl ((cy 1), 6, .inr (.inr (.inr (.inr (fun j => some (cs j)))))))] ++ (wCfg cy (cs 0) (bs 0) (RG 0) (nI (rn 0)) (RS 0) ++ (wCfg cy (cs 1) (bs 1) (RG 1) (nI (rn 1)) (RS 1) ++ (wCfg cy (cs 2) (bs 2) (cpG (RG 2) G1 n1) (nI n1) sc1 ++ (wCfg cy (cs 3) (bs 3) (RG 3) (nI (rn 3)) (RS 3) ++ (wCfg cy (cs 4) (bs 4) (RG 4) (nI (rn 4)) (RS 4) ++ (wCfg cy (cs 5) (bs 5) (RG 5) (nI (rn 5)) (RS 5) ++ (wCfg cy c1 b1 G1 (nI n1) sc1)))))))) := hD
  refine lv_aload_n hx hb dX1_remember_26 rfl (lv_at hl 0 rfl) ?_
  refine lv_aload_n hx hb dX1_remember_27 rfl (lv_at hl 0 rfl) ?_
  refine va_get (D := (dC, dI)) (ci := 1) (v := .int (nI kk)) (C := RX1) (T := TX1) (N := 3) hx hb hts hin1 hown hK hP 0 rfl rfl 2 (by decide) f_26 (fun _ h9 => h9) rfl dX1_remember_28 ?_
  refine lv_iconst (v := 1) hx hb dX1_remember_31 (by decide) ?_
  refine lv_iadd hx hb dX1_remember_32 ?_
  refine lv_bipush (v := 6) hx hb dX1_remember_33 (by decide) ?_
  refine va_mmin hx hb (by rw [hml]; exact hl.1.symm) hown (hts (.methodLink RX1 29 Lib.Math.min.name) (by decide +kernel)) (hts (.static Lib.Math.min.name) (by decide +kernel)) (hts (.initialized "java/lang/Math") (by decide +kernel)) (hts (.code Lib.Math.min.name Lib.Math.min.code 2 (some .int)) (by decide +kernel)) (Nat.le_of_ble_eq_true rfl) (Nat.le_of_ble_eq_true rfl) (Nat.le_of_ble_eq_true rfl) (Nat.le_of_ble_eq_true rfl) dX1_remember_35 ?_
  refine lv_topi (fun y_ ey_ => ?_)
  obtain rfl : y_ = nI (hcnt kk) := ey_.trans (min_cnt hkk)
  refine va_put (D := (dC, dI)) (ci := 1) (v := .int (nI (hcnt kk))) (ty := .int) (C := RX1) (T := TX1) (N := 3) hx hb hts hin1 tyX1 tyX1_ok nmX1 hown hK hP hD hS 0 rfl rfl 2 (by decide) f_26 (fun _ h9 => h9) rfl (by decide +kernel) rfl rfl (Nat.le_of_ble_eq_true rfl) dX1_remember_38 (fun H locs hP hD hS => ?_)
  have hP : va_P (dC, dI) vwCl ([(h0, .inr (1, [.ref rg, .int (nI 3), .int (nI (hcnt kk))])), (rg, .inl ((cy 1), 6, .inr (.inr (.inr (.inr (fun j => some (cs j)))))))] ++ (wCfg cy (cs 0) (bs 0) (RG 0) (nI (rn 0)) (RS 0) ++ (wCfg cy (cs 1) (bs 1) (RG 1) (nI (rn 1)) (RS 1) ++ (wCfg cy (cs 2) (bs 2) (cpG (RG 2) G1 n1) (nI n1) sc1 ++ (wCfg cy (cs 3) (bs 3) (RG 3) (nI (rn 3)) (RS 3) ++ (wCfg cy (cs 4) (bs 4) (RG 4) (nI (rn 4)) (RS 4) ++ (wCfg cy (cs 5) (bs 5) (RG 5) (nI (rn 5)) (RS 5) ++ (wCfg cy c1 b1 G1 (nI n1) sc1)))))))) H := hP
  have hD : va_D A ([(h0, .inr (1, [.ref rg, .int (nI 3), .int (nI (hcnt kk))])), (rg, .inl ((cy 1), 6, .inr (.inr (.inr (.inr (fun j => some (cs j)))))))] ++ (wCfg cy (cs 0) (bs 0) (RG 0) (nI (rn 0)) (RS 0) ++ (wCfg cy (cs 1) (bs 1) (RG 1) (nI (rn 1)) (RS 1) ++ (wCfg cy (cs 2) (bs 2) (cpG (RG 2) G1 n1) (nI n1) sc1 ++ (wCfg cy (cs 3) (bs 3) (RG 3) (nI (rn 3)) (RS 3) ++ (wCfg cy (cs 4) (bs 4) (RG 4) (nI (rn 4)) (RS 4) ++ (wCfg cy (cs 5) (bs 5) (RG 5) (nI (rn 5)) (RS 5) ++ (wCfg cy c1 b1 G1 (nI n1) sc1)))))))) := hD
  have hP9 : va_P (dC, dI) vwCl (wHis cy h0 rg 3 (hcnt kk) cs bs (va_up RG 2 (cpG (RG 2) G1 n1)) (va_up rn 2 n1) (va_up RS 2 sc1) ++ wCfg cy c1 b1 G1 (nI n1) sc1) H := hP
  have hD9 : va_D A (wHis cy h0 rg 3 (hcnt kk) cs bs (va_up RG 2 (cpG (RG 2) G1 n1)) (va_up rn 2 n1) (va_up RS 2 sc1) ++ wCfg cy c1 b1 G1 (nI n1) sc1) := hD
  exact W.vret hx hb hr (fun t ht hW => ⟨⟨(), rfl, trivial, by rw [ht]; exact hP9, hD9⟩, hS.F ht⟩) hS.2.2 dX1_remember_41
set_option maxHeartbeats 1000000 in
set_option maxRecDepth 100000 in
/-- the ring remembers, at place 3 -/
theorem c_X1_remember_3 (l : Launch) (dC : Nat → ClassId) (dI : Nat → Nat → Nat) (cy : Nat → ClassId) (sz : Nat) (h0 rg : Nat) (kk : Nat) (cs : Nat → Nat) (bs : Nat → Nat → Nat) (RG : Nat → vG) (rn : Nat → Nat) (RS : Nat → Int32) (c1 : Nat) (b1 : Nat → Nat) (G1 : vG) (n1 : Nat) (sc1 : Int32) (hkk : kk ≤ 6) (hn1 : n1 ≤ 8) : Met l yX1_remember wsX1_remember ({ frames := 2, cells := 0, slots := 0, locals := 45 }) (va_Pc [.ref h0, .ref c1] (pIn dC dI cy ([(h0, .inr (1, [.ref rg, .int (nI 3), .int (nI kk)])), (rg, .inl ((cy 1), 6, .inr (.inr (.inr (.inr (fun j => some (cs j)))))))] ++ (wCfg cy (cs 0) (bs 0) (RG 0) (nI (rn 0)) (RS 0) ++ (wCfg cy (cs 1) (bs 1) (RG 1) (nI (rn 1)) (RS 1) ++ (wCfg cy (cs 2) (bs 2) (RG 2) (nI (rn 2)) (RS 2) ++ (wCfg cy (cs 3) (bs 3) (RG 3) (nI (rn 3)) (RS 3) ++ (wCfg cy (cs 4) (bs 4) (RG 4) (nI (rn 4)) (RS 4) ++ (wCfg cy (cs 5) (bs 5) (RG 5) (nI (rn 5)) (RS 5) ++ (wCfg cy c1 b1 G1 (nI n1) sc1)))))))) sz)) (va_Qv (fun _ => True) (fun (u : Unit) t => va_P (dC, dI) vwCl (wHis cy h0 rg 4 (hcnt kk) cs bs (va_up RG 3 (cpG (RG 3) G1 n1)) (va_up rn 3 n1) (va_up RS 3 sc1) ++ wCfg cy c1 b1 G1 (nI n1) sc1) t.heap ∧ va_D (va_A ([(h0, .inr (1, [.ref rg, .int (nI 3), .int (nI kk)])), (rg, .inl ((cy 1), 6, .inr (.inr (.inr (.inr (fun j => some (cs j)))))))] ++ (wCfg cy (cs 0) (bs 0) (RG 0) (nI (rn 0)) (RS 0) ++ (wCfg cy (cs 1) (bs 1) (RG 1) (nI (rn 1)) (RS 1) ++ (wCfg cy (cs 2) (bs 2) (RG 2) (nI (rn 2)) (RS 2) ++ (wCfg cy (cs 3) (bs 3) (RG 3) (nI (rn 3)) (RS 3) ++ (wCfg cy (cs 4) (bs 4) (RG 4) (nI (rn 4)) (RS 4) ++ (wCfg cy (cs 5) (bs 5) (RG 5) (nI (rn 5)) (RS 5) ++ (wCfg cy c1 b1 G1 (nI n1) sc1)))))))) sz) (wHis cy h0 rg 4 (hcnt kk) cs bs (va_up RG 3 (cpG (RG 3) G1 n1)) (va_up rn 3 n1) (va_up RS 3 sc1) ++ wCfg cy c1 b1 G1 (nI n1) sc1)) (va_A ([(h0, .inr (1, [.ref rg, .int (nI 3), .int (nI kk)])), (rg, .inl ((cy 1), 6, .inr (.inr (.inr (.inr (fun j => some (cs j)))))))] ++ (wCfg cy (cs 0) (bs 0) (RG 0) (nI (rn 0)) (RS 0) ++ (wCfg cy (cs 1) (bs 1) (RG 1) (nI (rn 1)) (RS 1) ++ (wCfg cy (cs 2) (bs 2) (RG 2) (nI (rn 2)) (RS 2) ++ (wCfg cy (cs 3) (bs 3) (RG 3) (nI (rn 3)) (RS 3) ++ (wCfg cy (cs 4) (bs 4) (RG 4) (nI (rn 4)) (RS 4) ++ (wCfg cy (cs 5) (bs 5) (RG 5) (nI (rn 5)) (RS 5) ++ (wCfg cy c1 b1 G1 (nI n1) sc1)))))))) sz)) 0 0 (va_A ([(h0, .inr (1, [.ref rg, .int (nI 3), .int (nI kk)])), (rg, .inl ((cy 1), 6, .inr (.inr (.inr (.inr (fun j => some (cs j)))))))] ++ (wCfg cy (cs 0) (bs 0) (RG 0) (nI (rn 0)) (RS 0) ++ (wCfg cy (cs 1) (bs 1) (RG 1) (nI (rn 1)) (RS 1) ++ (wCfg cy (cs 2) (bs 2) (RG 2) (nI (rn 2)) (RS 2) ++ (wCfg cy (cs 3) (bs 3) (RG 3) (nI (rn 3)) (RS 3) ++ (wCfg cy (cs 4) (bs 4) (RG 4) (nI (rn 4)) (RS 4) ++ (wCfg cy (cs 5) (bs 5) (RG 5) (nI (rn 5)) (RS 5) ++ (wCfg cy c1 b1 G1 (nI n1) sc1)))))))) sz) := by
  refine Met.ofW (cc := cX1_remember) (maxL := 2) (ret := none) (by decide) rfl ?_
  intro p e s m args below meth c s₁ B hml hv
  obtain ⟨rfl, hsz, hP, hE, hD0⟩ := hv
  have hK := hE.1
  subst hsz
  have hD := hD0.self (sz := s.heap.size)
  generalize hAe : va_A ([(h0, .inr (1, [.ref rg, .int (nI 3), .int (nI kk)])), (rg, .inl ((cy 1), 6, .inr (.inr (.inr (.inr (fun j => some (cs j)))))))] ++ (wCfg cy (cs 0) (bs 0) (RG 0) (nI (rn 0)) (RS 0) ++ (wCfg cy (cs 1) (bs 1) (RG 1) (nI (rn 1)) (RS 1) ++ (wCfg cy (cs 2) (bs 2) (RG 2) (nI (rn 2)) (RS 2) ++ (wCfg cy (cs 3) (bs 3) (RG 3) (nI (rn 3)) (RS 3) ++ (wCfg cy (cs 4) (bs 4) (RG 4) (nI (rn 4)) (RS 4) ++ (wCfg cy (cs 5) (bs 5) (RG 5) (nI (rn 5)) (RS 5) ++ (wCfg cy c1 b1 G1 (nI n1) sc1)))))))) s.heap.size = A at hD ⊢
  have hA : ∀ q : Nat, s.heap.size ≤ q → A q := fun q h => by rw [← hAe]; exact Or.inr h
  have hS : va_S A s.heap s.heap [] := va_S.rf
  have hP : va_P (dC, dI) vwCl ([(h0, .inr (1, [.ref rg, .int (nI 3), .int (nI kk)])), (rg, .inl ((cy 1), 6, .inr (.inr (.inr (.inr (fun j => some (cs j)))))))] ++ (wCfg cy (cs 0) (bs 0) (RG 0) (nI (rn 0)) (RS 0) ++ (wCfg cy (cs 1) (bs 1) (RG 1) (nI (rn 1)) (RS 1) ++ (wCfg cy (cs 2) (bs 2) (RG 2) (nI (rn 2)) (RS 2) ++ (wCfg cy (cs 3) (bs 3) (RG 3) (nI (rn 3)) (RS 3) ++ (wCfg cy (cs 4) (bs 4) (RG 4) (nI (rn 4)) (RS 4) ++ (wCfg cy (cs 5) (bs 5) (RG 5) (nI (rn 5)) (RS 5) ++ (wCfg cy c1 b1 G1 (nI n1) sc1)))))))) s.heap := hP
  have hx := B.exec
  have hb := B.bytes
  have hr := B.returns
  have hts := atoms_spec (ws := wsX1_remember) B.pre
  have hown : s.vm.findClass RX1 = some m.cls := findClass_of_methodNamed B.named
  have hlocks := B.notSynchronized
  have hin1 : ∀ w ∈ u_ws RX1 TX1 3, w ∈ wsX1_remember := by decide +kernel
  have f_11 := hts (.fieldLink RX1 11 "DeadlineAdmission$History" "ring" "[LDeadlineAdmission$Configuration;") (by decide +kernel)
  have f_18 := hts (.fieldLink RX1 18 "DeadlineAdmission$History" "next" "I") (by decide +kernel)
  have f_26 := hts (.fieldLink RX1 26 "DeadlineAdmission$History" "kept" "I") (by decide +kernel)
  have hl := lv_entry ([.ref h0, .ref c1]) (n := 2) (Nat.le_of_ble_eq_true rfl)
  rw [lg_entry_eq]
  generalize (lg_sl ([.ref h0, .ref c1]) ++ List.replicate (2 - (lg_sl ([.ref h0, .ref c1])).length) Slot.unset).toArray = ls at hl ⊢
  have hl : lv_has ls 2 [(0, .ref h0), (1, .ref c1)] := hl
  refine lv_aload_n hx hb dX1_remember_0 rfl (lv_at hl 0 rfl) ?_
  refine va_get (D := (dC, dI)) (ci := 1) (v := .ref rg) (C := RX1) (T := TX1) (N := 3) hx hb hts hin1 hown hK hP 0 rfl rfl 0 (by decide) f_11 (fun _ h9 => h9) rfl dX1_remember_1 ?_
  refine lv_aload_n hx hb dX1_remember_4 rfl (lv_at hl 0 rfl) ?_
  refine va_get (D := (dC, dI)) (ci := 1) (v := .int (nI 3)) (C := RX1) (T := TX1) (N := 3) hx hb hts hin1 hown hK hP 0 rfl rfl 1 (by decide) f_18 (fun _ h9 => h9) rfl dX1_remember_5 ?_
  refine wA_ald (q := (cs 3)) hx hb hK hP 1 1 rfl rfl 3 rfl (by omega) (by decide) rfl dX1_remember_8 ?_
  refine lv_aload_n hx hb dX1_remember_9 rfl (lv_at hl 1 rfl) ?_
  have hPc := hP.sub (ws' := wCfg cy (cs 3) (bs 3) (RG 3) (nI (rn 3)) (RS 3) ++ (wCfg cy c1 b1 G1 (nI n1) sc1)) [26, 27, 28, 29, 30, 31, 32, 33, 50, 51, 52, 53, 54, 55, 56, 57] rfl
  have hDc := hD.sub (ws' := wCfg cy (cs 3) (bs 3) (RG 3) (nI (rn 3)) (RS 3) ++ (wCfg cy c1 b1 G1 (nI n1) sc1)) [26, 27, 28, 29, 30, 31, 32, 33, 50, 51, 52, 53, 54, 55, 56, 57] (by decide) rfl
  have hFc := va_free (wc := wCfg cy (cs 3) (bs 3) (RG 3) (nI (rn 3)) (RS 3) ++ (wCfg cy c1 b1 G1 (nI n1) sc1)) hD hS hA [26, 27, 28, 29, 30, 31, 32, 33, 50, 51, 52, 53, 54, 55, 56, 57] rfl
  refine va_callv (va_runV (As := [.ref c1]) (rest := []) ⟨hx, hb, hml, hown, hts⟩ (c_X0_copyFrom l dC dI cy s.heap.size (cs 3) (bs 3) (RG 3) (nI (rn 3)) (RS 3) c1 b1 G1 n1 hn1 sc1) (cwV 1 hts gX1_remember_X0_copyFrom rfl rfl rfl (by decide +kernel) ⟨Nat.le_of_ble_eq_true rfl, Nat.le_of_ble_eq_true rfl⟩) ⟨bl_in, va_recv hK hPc (ci := 0) (q0 := 0) rfl rfl, pr_in hPc hE hDc⟩ rfl rfl hl.1 rfl (lv_room (Nat.le_of_ble_eq_true rfl)) dX1_remember_10 ⟨Nat.le_of_ble_eq_true rfl, Nat.le_of_ble_eq_true rfl⟩) hS (fun q _ h => hFc q h) hFc (fun u t H1 locs ht hvm hw hB hz1 hk1 hS => ?_)
  obtain ⟨hP1, hD1⟩ := hB
  rw [ht] at hP1
  obtain ⟨hP, hD⟩ := va_join (wr := [(h0, .inr (1, [.ref rg, .int (nI 3), .int (nI kk)])), (rg, .inl ((cy 1), 6, .inr (.inr (.inr (.inr (fun j => some (cs j)))))))] ++ (wCfg cy (cs 0) (bs 0) (RG 0) (nI (rn 0)) (RS 0) ++ (wCfg cy (cs 1) (bs 1) (RG 1) (nI (rn 1)) (RS 1) ++ (wCfg cy (cs 2) (bs 2) (RG 2) (nI (rn 2)) (RS 2) ++ (wCfg cy (cs 4) (bs 4) (RG 4) (nI (rn 4)) (RS 4) ++ (wCfg cy (cs 5) (bs 5) (RG 5) (nI (rn 5)) (RS 5))))))) (w1 := wCfg cy (cs 3) (bs 3) (cpG (RG 3) G1 n1) (nI n1) sc1 ++ (wCfg cy c1 b1 G1 (nI n1) sc1)) hP hD [26, 27, 28, 29, 30, 31, 32, 33, 50, 51, 52, 53, 54, 55, 56, 57] [0, 1, 2, 3, 4, 5, 6, 7, 8, 9, 10, 11, 12, 13, 14, 15, 16, 17, 18, 19, 20, 21, 22, 23, 24, 25, 34, 35, 36, 37, 38, 39, 40, 41, 42, 43, 44, 45, 46, 47, 48, 49] rfl rfl (by decide) (by decide) hk1 hFc hP1 hD1
  have hP : va_P (dC, dI) vwCl ([(h0, .inr (1, [.ref rg, .int (nI 3), .int (nI kk)])), (rg, .inl ((cy 1), 6, .inr (.inr (.inr (.inr (fun j => some (cs j)))))))] ++ (wCfg cy (cs 0) (bs 0) (RG 0) (nI (rn 0)) (RS 0) ++ (wCfg cy (cs 1) (bs 1) (RG 1) (nI (rn 1)) (RS 1) ++ (wCfg cy (cs 2) (bs 2) (RG 2) (nI (rn 2)) (RS 2) ++ (wCfg cy (cs 3) (bs 3) (cpG (RG 3) G1 n1) (nI n1) sc1 ++ (wCfg cy (cs 4) (bs 4) (RG 4) (nI (rn 4)) (RS 4) ++ (wCfg cy (cs 5) (bs 5) (RG 5) (nI (rn 5)) (RS 5) ++ (wCfg cy c1 b1 G1 (nI n1) sc1)))))))) H1 := hP.sub [0, 1, 2, 3, 4, 5, 6, 7, 8, 9, 10, 11, 12, 13, 14, 15, 16, 17, 18, 19, 20, 21, 22, 23, 24, 25, 42, 43, 44, 45, 46, 47, 48, 49, 26, 27, 28, 29, 30, 31, 32, 33, 34, 35, 36, 37, 38, 39, 40, 41, 50, 51, 52, 53, 54, 55, 56, 57] rfl
  have hD : va_D A ([(h0, .inr (1, [.ref rg, .int (nI 3), .int (nI kk)])), (rg, .inl ((cy 1), 6, .inr (.inr (.inr (.inr (fun j => some (cs j)))))))] ++ (wCfg cy (cs 0) (bs 0) (RG 0) (nI (rn 0)) (RS 0) ++ (wCfg cy (cs 1) (bs 1) (RG 1) (nI (rn 1)) (RS 1) ++ (wCfg cy (cs 2) (bs 2) (RG 2) (nI (rn 2)) (RS 2) ++ (wCfg cy (cs 3) (bs 3) (cpG (RG 3) G1 n1) (nI n1) sc1 ++ (wCfg cy (cs 4) (bs 4) (RG 4) (nI (rn 4)) (RS 4) ++ (wCfg cy (cs 5) (bs 5) (RG 5) (nI (rn 5)) (RS 5) ++ (wCfg cy c1 b1 G1 (nI n1) sc1)))))))) := hD.sub [0, 1, 2, 3, 4, 5, 6, 7, 8, 9, 10, 11, 12, 13, 14, 15, 16, 17, 18, 19, 20, 21, 22, 23, 24, 25, 42, 43, 44, 45, 46, 47, 48, 49, 26, 27, 28, 29, 30, 31, 32, 33, 34, 35, 36, 37, 38, 39, 40, 41, 50, 51, 52, 53, 54, 55, 56, 57] (by decide) rfl
  clear hz1 hk1 hPc hDc hFc hP1 hD1
  generalize H1 = H at hP hS ⊢
  refine lv_aload_n hx hb dX1_remember_13 rfl (lv_at hl 0 rfl) ?_
  refine lv_aload_n hx hb dX1_remember_14 rfl (lv_at hl 0 rfl) ?_
  refine va_get (D := (dC, dI)) (ci := 1) (v := .int (nI 3)) (C := RX1) (T := TX1) (N := 3) hx hb hts hin1 hown hK hP 0 rfl rfl 1 (by decide) f_18 (fun _ h9 => h9) rfl dX1_remember_15 ?_
  refine lv_iconst (v := 1) hx hb dX1_remember_18 (by decide) ?_
  refine lv_iadd hx hb dX1_remember_19 ?_
  refine lv_bipush (v := 6) hx hb dX1_remember_20 (by decide) ?_
  refine lv_irem hx hb dX1_remember_22 (by decide) ?_
  refine lv_topi (fun y_ ey_ => ?_)
  obtain rfl : y_ = nI 4 := ey_.trans (by decide)
  refine va_put (D := (dC, dI)) (ci := 1) (v := .int (nI 4)) (ty := .int) (C := RX1) (T := TX1) (N := 3) hx hb hts hin1 tyX1 tyX1_ok nmX1 hown hK hP hD hS 0 rfl rfl 1 (by decide) f_18 (fun _ h9 => h9) rfl (by decide +kernel) rfl rfl (Nat.le_of_ble_eq_true rfl) dX1_remember_23 (fun H locs hP hD hS => ?_)
  have hP : va_P (dC, dI) vwCl ([(h0, .inr (1, [.ref rg, .int (nI 4), .int (nI kk)])), (rg, .inl ((cy 1), 6, .inr (.inr (.inr (.inr (fun j => some (cs j)))))))] ++ (wCfg cy (cs 0) (bs 0) (RG 0) (nI (rn 0)) (RS 0) ++ (wCfg cy (cs 1) (bs 1) (RG 1) (nI (rn 1)) (RS 1) ++ (wCfg cy (cs 2) (bs 2) (RG 2) (nI (rn 2)) (RS 2) ++ (wCfg cy (cs 3) (bs 3) (cpG (RG 3) G1 n1) (nI n1) sc1 ++ (wCfg cy (cs 4) (bs 4) (RG 4) (nI (rn 4)) (RS 4) ++ (wCfg cy (cs 5) (bs 5) (RG 5) (nI (rn 5)) (RS 5) ++ (wCfg cy c1 b1 G1 (nI n1) sc1)))))))) H := hP
  have hD : va_D A ([(h0, .inr (1, [.ref rg, .int (nI 4), .int (nI kk)])), (rg, .inl ((cy 1), 6, .inr (.inr (.inr (.inr (fun j => some (cs j)))))))] ++ (wCfg cy (cs 0) (bs 0) (RG 0) (nI (rn 0)) (RS 0) ++ (wCfg cy (cs 1) (bs 1) (RG 1) (nI (rn 1)) (RS 1) ++ (wCfg cy (cs 2) (bs 2) (RG 2) (nI (rn 2)) (RS 2) ++ (wCfg cy (cs 3) (bs 3) (cpG (RG 3) G1 n1) (nI n1) sc1 ++ (wCfg cy (cs 4) (bs 4) (RG 4) (nI (rn 4)) (RS 4) ++ (wCfg cy (cs 5) (bs 5) (RG 5) (nI (rn 5)) (RS 5) ++ (wCfg cy c1 b1 G1 (nI n1) sc1)))))))) := hD
  refine lv_aload_n hx hb dX1_remember_26 rfl (lv_at hl 0 rfl) ?_
  refine lv_aload_n hx hb dX1_remember_27 rfl (lv_at hl 0 rfl) ?_
  refine va_get (D := (dC, dI)) (ci := 1) (v := .int (nI kk)) (C := RX1) (T := TX1) (N := 3) hx hb hts hin1 hown hK hP 0 rfl rfl 2 (by decide) f_26 (fun _ h9 => h9) rfl dX1_remember_28 ?_
  refine lv_iconst (v := 1) hx hb dX1_remember_31 (by decide) ?_
  refine lv_iadd hx hb dX1_remember_32 ?_
  refine lv_bipush (v := 6) hx hb dX1_remember_33 (by decide) ?_
  refine va_mmin hx hb (by rw [hml]; exact hl.1.symm) hown (hts (.methodLink RX1 29 Lib.Math.min.name) (by decide +kernel)) (hts (.static Lib.Math.min.name) (by decide +kernel)) (hts (.initialized "java/lang/Math") (by decide +kernel)) (hts (.code Lib.Math.min.name Lib.Math.min.code 2 (some .int)) (by decide +kernel)) (Nat.le_of_ble_eq_true rfl) (Nat.le_of_ble_eq_true rfl) (Nat.le_of_ble_eq_true rfl) (Nat.le_of_ble_eq_true rfl) dX1_remember_35 ?_
  refine lv_topi (fun y_ ey_ => ?_)
  obtain rfl : y_ = nI (hcnt kk) := ey_.trans (min_cnt hkk)
  refine va_put (D := (dC, dI)) (ci := 1) (v := .int (nI (hcnt kk))) (ty := .int) (C := RX1) (T := TX1) (N := 3) hx hb hts hin1 tyX1 tyX1_ok nmX1 hown hK hP hD hS 0 rfl rfl 2 (by decide) f_26 (fun _ h9 => h9) rfl (by decide +kernel) rfl rfl (Nat.le_of_ble_eq_true rfl) dX1_remember_38 (fun H locs hP hD hS => ?_)
  have hP : va_P (dC, dI) vwCl ([(h0, .inr (1, [.ref rg, .int (nI 4), .int (nI (hcnt kk))])), (rg, .inl ((cy 1), 6, .inr (.inr (.inr (.inr (fun j => some (cs j)))))))] ++ (wCfg cy (cs 0) (bs 0) (RG 0) (nI (rn 0)) (RS 0) ++ (wCfg cy (cs 1) (bs 1) (RG 1) (nI (rn 1)) (RS 1) ++ (wCfg cy (cs 2) (bs 2) (RG 2) (nI (rn 2)) (RS 2) ++ (wCfg cy (cs 3) (bs 3) (cpG (RG 3) G1 n1) (nI n1) sc1 ++ (wCfg cy (cs 4) (bs 4) (RG 4) (nI (rn 4)) (RS 4) ++ (wCfg cy (cs 5) (bs 5) (RG 5) (nI (rn 5)) (RS 5) ++ (wCfg cy c1 b1 G1 (nI n1) sc1)))))))) H := hP
  have hD : va_D A ([(h0, .inr (1, [.ref rg, .int (nI 4), .int (nI (hcnt kk))])), (rg, .inl ((cy 1), 6, .inr (.inr (.inr (.inr (fun j => some (cs j)))))))] ++ (wCfg cy (cs 0) (bs 0) (RG 0) (nI (rn 0)) (RS 0) ++ (wCfg cy (cs 1) (bs 1) (RG 1) (nI (rn 1)) (RS 1) ++ (wCfg cy (cs 2) (bs 2) (RG 2) (nI (rn 2)) (RS 2) ++ (wCfg cy (cs 3) (bs 3) (cpG (RG 3) G1 n1) (nI n1) sc1 ++ (wCfg cy (cs 4) (bs 4) (RG 4) (nI (rn 4)) (RS 4) ++ (wCfg cy (cs 5) (bs 5) (RG 5) (nI (rn 5)) (RS 5) ++ (wCfg cy c1 b1 G1 (nI n1) sc1)))))))) := hD
  have hP9 : va_P (dC, dI) vwCl (wHis cy h0 rg 4 (hcnt kk) cs bs (va_up RG 3 (cpG (RG 3) G1 n1)) (va_up rn 3 n1) (va_up RS 3 sc1) ++ wCfg cy c1 b1 G1 (nI n1) sc1) H := hP
  have hD9 : va_D A (wHis cy h0 rg 4 (hcnt kk) cs bs (va_up RG 3 (cpG (RG 3) G1 n1)) (va_up rn 3 n1) (va_up RS 3 sc1) ++ wCfg cy c1 b1 G1 (nI n1) sc1) := hD
  exact W.vret hx hb hr (fun t ht hW => ⟨⟨(), rfl, trivial, by rw [ht]; exact hP9, hD9⟩, hS.F ht⟩) hS.2.2 dX1_remember_41
set_option maxHeartbeats 1000000 in
set_option maxRecDepth 100000 in
/-- the ring remembers, at place 4 -/
theorem c_X1_remember_4 (l : Launch) (dC : Nat → ClassId) (dI : Nat → Nat → Nat) (cy : Nat → ClassId) (sz : Nat) (h0 rg : Nat) (kk : Nat) (cs : Nat → Nat) (bs : Nat → Nat → Nat) (RG : Nat → vG) (rn : Nat → Nat) (RS : Nat → Int32) (c1 : Nat) (b1 : Nat → Nat) (G1 : vG) (n1 : Nat) (sc1 : Int32) (hkk : kk ≤ 6) (hn1 : n1 ≤ 8) : Met l yX1_remember wsX1_remember ({ frames := 2, cells := 0, slots := 0, locals := 45 }) (va_Pc [.ref h0, .ref c1] (pIn dC dI cy ([(h0, .inr (1, [.ref rg, .int (nI 4), .int (nI kk)])), (rg, .inl ((cy 1), 6, .inr (.inr (.inr (.inr (fun j => some (cs j)))))))] ++ (wCfg cy (cs 0) (bs 0) (RG 0) (nI (rn 0)) (RS 0) ++ (wCfg cy (cs 1) (bs 1) (RG 1) (nI (rn 1)) (RS 1) ++ (wCfg cy (cs 2) (bs 2) (RG 2) (nI (rn 2)) (RS 2) ++ (wCfg cy (cs 3) (bs 3) (RG 3) (nI (rn 3)) (RS 3) ++ (wCfg cy (cs 4) (bs 4) (RG 4) (nI (rn 4)) (RS 4) ++ (wCfg cy (cs 5) (bs 5) (RG 5) (nI (rn 5)) (RS 5) ++ (wCfg cy c1 b1 G1 (nI n1) sc1)))))))) sz)) (va_Qv (fun _ => True) (fun (u : Unit) t => va_P (dC, dI) vwCl (wHis cy h0 rg 5 (hcnt kk) cs bs (va_up RG 4 (cpG (RG 4) G1 n1)) (va_up rn 4 n1) (va_up RS 4 sc1) ++ wCfg cy c1 b1 G1 (nI n1) sc1) t.heap ∧ va_D (va_A ([(h0, .inr (1, [.ref rg, .int (nI 4), .int (nI kk)])), (rg, .inl ((cy 1), 6, .inr (.inr (.inr (.inr (fun j => some (cs j)))))))] ++ (wCfg cy (cs 0) (bs 0) (RG 0) (nI (rn 0)) (RS 0) ++ (wCfg cy (cs 1) (bs 1) (RG 1) (nI (rn 1)) (RS 1) ++ (wCfg cy (cs 2) (bs 2) (RG 2) (nI (rn 2)) (RS 2) ++ (wCfg cy (cs 3) (bs 3) (RG 3) (nI (rn 3)) (RS 3) ++ (wCfg cy (cs 4) (bs 4) (RG 4) (nI (rn 4)) (RS 4) ++ (wCfg cy (cs 5) (bs 5) (RG 5) (nI (rn 5)) (RS 5) ++ (wCfg cy c1 b1 G1 (nI n1) sc1)))))))) sz) (wHis cy h0 rg 5 (hcnt kk) cs bs (va_up RG 4 (cpG (RG 4) G1 n1)) (va_up rn 4 n1) (va_up RS 4 sc1) ++ wCfg cy c1 b1 G1 (nI n1) sc1)) (va_A ([(h0, .inr (1, [.ref rg, .int (nI 4), .int (nI kk)])), (rg, .inl ((cy 1), 6, .inr (.inr (.inr (.inr (fun j => some (cs j)))))))] ++ (wCfg cy (cs 0) (bs 0) (RG 0) (nI (rn 0)) (RS 0) ++ (wCfg cy (cs 1) (bs 1) (RG 1) (nI (rn 1)) (RS 1) ++ (wCfg cy (cs 2) (bs 2) (RG 2) (nI (rn 2)) (RS 2) ++ (wCfg cy (cs 3) (bs 3) (RG 3) (nI (rn 3)) (RS 3) ++ (wCfg cy (cs 4) (bs 4) (RG 4) (nI (rn 4)) (RS 4) ++ (wCfg cy (cs 5) (bs 5) (RG 5) (nI (rn 5)) (RS 5) ++ (wCfg cy c1 b1 G1 (nI n1) sc1)))))))) sz)) 0 0 (va_A ([(h0, .inr (1, [.ref rg, .int (nI 4), .int (nI kk)])), (rg, .inl ((cy 1), 6, .inr (.inr (.inr (.inr (fun j => some (cs j)))))))] ++ (wCfg cy (cs 0) (bs 0) (RG 0) (nI (rn 0)) (RS 0) ++ (wCfg cy (cs 1) (bs 1) (RG 1) (nI (rn 1)) (RS 1) ++ (wCfg cy (cs 2) (bs 2) (RG 2) (nI (rn 2)) (RS 2) ++ (wCfg cy (cs 3) (bs 3) (RG 3) (nI (rn 3)) (RS 3) ++ (wCfg cy (cs 4) (bs 4) (RG 4) (nI (rn 4)) (RS 4) ++ (wCfg cy (cs 5) (bs 5) (RG 5) (nI (rn 5)) (RS 5) ++ (wCfg cy c1 b1 G1 (nI n1) sc1)))))))) sz) := by
  refine Met.ofW (cc := cX1_remember) (maxL := 2) (ret := none) (by decide) rfl ?_
  intro p e s m args below meth c s₁ B hml hv
  obtain ⟨rfl, hsz, hP, hE, hD0⟩ := hv
  have hK := hE.1
  subst hsz
  have hD := hD0.self (sz := s.heap.size)
  generalize hAe : va_A ([(h0, .inr (1, [.ref rg, .int (nI 4), .int (nI kk)])), (rg, .inl ((cy 1), 6, .inr (.inr (.inr (.inr (fun j => some (cs j)))))))] ++ (wCfg cy (cs 0) (bs 0) (RG 0) (nI (rn 0)) (RS 0) ++ (wCfg cy (cs 1) (bs 1) (RG 1) (nI (rn 1)) (RS 1) ++ (wCfg cy (cs 2) (bs 2) (RG 2) (nI (rn 2)) (RS 2) ++ (wCfg cy (cs 3) (bs 3) (RG 3) (nI (rn 3)) (RS 3) ++ (wCfg cy (cs 4) (bs 4) (RG 4) (nI (rn 4)) (RS 4) ++ (wCfg cy (cs 5) (bs 5) (RG 5) (nI (rn 5)) (RS 5) ++ (wCfg cy c1 b1 G1 (nI n1) sc1)))))))) s.heap.size = A at hD ⊢
  have hA : ∀ q : Nat, s.heap.size ≤ q → A q := fun q h => by rw [← hAe]; exact Or.inr h
  have hS : va_S A s.heap s.heap [] := va_S.rf
  have hP : va_P (dC, dI) vwCl ([(h0, .inr (1, [.ref rg, .int (nI 4), .int (nI kk)])), (rg, .inl ((cy 1), 6, .inr (.inr (.inr (.inr (fun j => some (cs j)))))))] ++ (wCfg cy (cs 0) (bs 0) (RG 0) (nI (rn 0)) (RS 0) ++ (wCfg cy (cs 1) (bs 1) (RG 1) (nI (rn 1)) (RS 1) ++ (wCfg cy (cs 2) (bs 2) (RG 2) (nI (rn 2)) (RS 2) ++ (wCfg cy (cs 3) (bs 3) (RG 3) (nI (rn 3)) (RS 3) ++ (wCfg cy (cs 4) (bs 4) (RG 4) (nI (rn 4)) (RS 4) ++ (wCfg cy (cs 5) (bs 5) (RG 5) (nI (rn 5)) (RS 5) ++ (wCfg cy c1 b1 G1 (nI n1) sc1)))))))) s.heap := hP
  have hx := B.exec
  have hb := B.bytes
  have hr := B.returns
  have hts := atoms_spec (ws := wsX1_remember) B.pre
  have hown : s.vm.findClass RX1 = some m.cls := findClass_of_methodNamed B.named
  have hlocks := B.notSynchronized
  have hin1 : ∀ w ∈ u_ws RX1 TX1 3, w ∈ wsX1_remember := by decide +kernel
  have f_11 := hts (.fieldLink RX1 11 "DeadlineAdmission$History" "ring" "[LDeadlineAdmission$Configuration;") (by decide +kernel)
  have f_18 := hts (.fieldLink RX1 18 "DeadlineAdmission$History" "next" "I") (by decide +kernel)
  have f_26 := hts (.fieldLink RX1 26 "DeadlineAdmission$History" "kept" "I") (by decide +kernel)
  have hl := lv_entry ([.ref h0, .ref c1]) (n := 2) (Nat.le_of_ble_eq_true rfl)
  rw [lg_entry_eq]
  generalize (lg_sl ([.ref h0, .ref c1]) ++ List.replicate (2 - (lg_sl ([.ref h0, .ref c1])).length) Slot.unset).toArray = ls at hl ⊢
  have hl : lv_has ls 2 [(0, .ref h0), (1, .ref c1)] := hl
  refine lv_aload_n hx hb dX1_remember_0 rfl (lv_at hl 0 rfl) ?_
  refine va_get (D := (dC, dI)) (ci := 1) (v := .ref rg) (C := RX1) (T := TX1) (N := 3) hx hb hts hin1 hown hK hP 0 rfl rfl 0 (by decide) f_11 (fun _ h9 => h9) rfl dX1_remember_1 ?_
  refine lv_aload_n hx hb dX1_remember_4 rfl (lv_at hl 0 rfl) ?_
  refine va_get (D := (dC, dI)) (ci := 1) (v := .int (nI 4)) (C := RX1) (T := TX1) (N := 3) hx hb hts hin1 hown hK hP 0 rfl rfl 1 (by decide) f_18 (fun _ h9 => h9) rfl dX1_remember_5 ?_
  refine wA_ald (q := (cs 4)) hx hb hK hP 1 1 rfl rfl 4 rfl (by omega) (by decide) rfl dX1_remember_8 ?_
  refine lv_aload_n hx hb dX1_remember_9 rfl (lv_at hl 1 rfl) ?_
  have hPc := hP.sub (ws' := wCfg cy (cs 4) (bs 4) (RG 4) (nI (rn 4)) (RS 4) ++ (wCfg cy c1 b1 G1 (nI n1) sc1)) [34, 35, 36, 37, 38, 39, 40, 41, 50, 51, 52, 53, 54, 55, 56, 57] rfl
  have hDc := hD.sub (ws' := wCfg cy (cs 4) (bs 4) (RG 4) (nI (rn 4)) (RS 4) ++ (wCfg cy c1 b1 G1 (nI n1) sc1)) [34, 35, 36, 37, 38, 39, 40, 41, 50, 51, 52, 53, 54, 55, 56, 57] (by decide) rfl
  have hFc := va_free (wc := wCfg cy (cs 4) (bs 4) (RG 4) (nI (rn 4)) (RS 4) ++ (wCfg cy c1 b1 G1 (nI n1) sc1)) hD hS hA [34, 35, 36, 37, 38, 39, 40, 41, 50, 51, 52, 53, 54, 55, 56, 57] rfl
  refine va_callv (va_runV (As := [.ref c1]) (rest := []) ⟨hx, hb, hml, hown, hts⟩ (c_X0_copyFrom l dC dI cy s.heap.size (cs 4) (bs 4) (RG 4) (nI (rn 4)) (RS 4) c1 b1 G1 n1 hn1 sc1) (cwV 1 hts gX1_remember_X0_copyFrom rfl rfl rfl (by decide +kernel) ⟨Nat.le_of_ble_eq_true rfl, Nat.le_of_ble_eq_true rfl⟩) ⟨bl_in, va_recv hK hPc (ci := 0) (q0 := 0) rfl rfl, pr_in hPc hE hDc⟩ rfl rfl hl.1 rfl (lv_room (Nat.le_of_ble_eq_true rfl)) dX1_remember_10 ⟨Nat.le_of_ble_eq_true rfl, Nat.le_of_ble_eq_true rfl⟩) hS (fun q _ h => hFc q h) hFc (fun u t H1 locs ht hvm hw hB hz1 hk1 hS => ?_)
  obtain ⟨hP1, hD1⟩ := hB
  rw [ht] at hP1
  obtain ⟨hP, hD⟩ := va_join (wr := [(h0, .inr (1, [.ref rg, .int (nI 4), .int (nI kk)])), (rg, .inl ((cy 1), 6, .inr (.inr (.inr (.inr (fun j => some (cs j)))))))] ++ (wCfg cy (cs 0) (bs 0) (RG 0) (nI (rn 0)) (RS 0) ++ (wCfg cy (cs 1) (bs 1) (RG 1) (nI (rn 1)) (RS 1) ++ (wCfg cy (cs 2) (bs 2) (RG 2) (nI (rn 2)) (RS 2) ++ (wCfg cy (cs 3) (bs 3) (RG 3) (nI (rn 3)) (RS 3) ++ (wCfg cy (cs 5) (bs 5) (RG 5) (nI (rn 5)) (RS 5))))))) (w1 := wCfg cy (cs 4) (bs 4) (cpG (RG 4) G1 n1) (nI n1) sc1 ++ (wCfg cy c1 b1 G1 (nI n1) sc1)) hP hD [34, 35, 36, 37, 38, 39, 40, 41, 50, 51, 52, 53, 54, 55, 56, 57] [0, 1, 2, 3, 4, 5, 6, 7, 8, 9, 10, 11, 12, 13, 14, 15, 16, 17, 18, 19, 20, 21, 22, 23, 24, 25, 26, 27, 28, 29, 30, 31, 32, 33, 42, 43, 44, 45, 46, 47, 48, 49] rfl rfl (by decide) (by decide) hk1 hFc hP1 hD1
  have hP : va_P (dC, dI) vwCl ([(h0, .inr (1, [.ref rg, .int (nI 4), .int (nI kk)])), (rg, .inl ((cy 1), 6, .inr (.inr (.inr (.inr (fun j => some (cs j)))))))] ++ (wCfg cy (cs 0) (bs 0) (RG 0) (nI (rn 0)) (RS 0) ++ (wCfg cy (cs 1) (bs 1) (RG 1) (nI (rn 1)) (RS 1) ++ (wCfg cy (cs 2) (bs 2) (RG 2) (nI (rn 2)) (RS 2) ++ (wCfg cy (cs 3) (bs 3) (RG 3) (nI (rn 3)) (RS 3) ++ (wCfg cy (cs 4) (bs 4) (cpG (RG 4) G1 n1) (nI n1) sc1 ++ (wCfg cy (cs 5) (bs 5) (RG 5) (nI (rn 5)) (RS 5) ++ (wCfg cy c1 b1 G1 (nI n1) sc1)))))))) H1 := hP.sub [0, 1, 2, 3, 4, 5, 6, 7, 8, 9, 10, 11, 12, 13, 14, 15, 16, 17, 18, 19, 20, 21, 22, 23, 24, 25, 26, 27, 28, 29, 30, 31, 32, 33, 42, 43, 44, 45, 46, 47, 48, 49, 34, 35, 36, 37, 38, 39, 40, 41, 50, 51, 52, 53, 54, 55, 56, 57] rfl
  have hD : va_D A ([(h0, .inr (1, [.ref rg, .int (nI 4), .int (nI kk)])), (rg, .inl ((cy 1), 6, .inr (.inr (.inr (.inr (fun j => some (cs j)))))))] ++ (wCfg cy (cs 0) (bs 0) (RG 0) (nI (rn 0)) (RS 0) ++ (wCfg cy (cs 1) (bs 1) (RG 1) (nI (rn 1)) (RS 1) ++ (wCfg cy (cs 2) (bs 2) (RG 2) (nI (rn 2)) (RS 2) ++ (wCfg cy (cs 3) (bs 3) (RG 3) (nI (rn 3)) (RS 3) ++ (wCfg cy (cs 4) (bs 4) (cpG (RG 4) G1 n1) (nI n1) sc1 ++ (wCfg cy (cs 5) (bs 5) (RG 5) (nI (rn 5)) (RS 5) ++ (wCfg cy c1 b1 G1 (nI n1) sc1)))))))) := hD.sub [0, 1, 2, 3, 4, 5, 6, 7, 8, 9, 10, 11, 12, 13, 14, 15, 16, 17, 18, 19, 20, 21, 22, 23, 24, 25, 26, 27, 28, 29, 30, 31, 32, 33, 42, 43, 44, 45, 46, 47, 48, 49, 34, 35, 36, 37, 38, 39, 40, 41, 50, 51, 52, 53, 54, 55, 56, 57] (by decide) rfl
  clear hz1 hk1 hPc hDc hFc hP1 hD1
  generalize H1 = H at hP hS ⊢
  refine lv_aload_n hx hb dX1_remember_13 rfl (lv_at hl 0 rfl) ?_
  refine lv_aload_n hx hb dX1_remember_14 rfl (lv_at hl 0 rfl) ?_
  refine va_get (D := (dC, dI)) (ci := 1) (v := .int (nI 4)) (C := RX1) (T := TX1) (N := 3) hx hb hts hin1 hown hK hP 0 rfl rfl 1 (by decide) f_18 (fun _ h9 => h9) rfl dX1_remember_15 ?_
  refine lv_iconst (v := 1) hx hb dX1_remember_18 (by decide) ?_
  refine lv_iadd hx hb dX1_remember_19 ?_
  refine lv_bipush (v := 6) hx hb dX1_remember_20 (by decide) ?_
  refine lv_irem hx hb dX1_remember_22 (by decide) ?_
  refine lv_topi (fun y_ ey_ => ?_)
  obtain rfl : y_ = nI 5 := ey_.trans (by decide)
  refine va_put (D := (dC, dI)) (ci := 1) (v := .int (nI 5)) (ty := .int) (C := RX1) (T := TX1) (N := 3) hx hb hts hin1 tyX1 tyX1_ok nmX1 hown hK hP hD hS 0 rfl rfl 1 (by decide) f_18 (fun _ h9 => h9) rfl (by decide +kernel) rfl rfl (Nat.le_of_ble_eq_true rfl) dX1_remember_23 (fun H locs hP hD hS => ?_)
  have hP : va_P (dC, dI) vwCl ([(h0, .inr (1, [.ref rg, .int (nI 5), .int (nI kk)])), (rg, .inl ((cy 1), 6, .inr (.inr (.inr (.inr (fun j => some (cs j)))))))] ++ (wCfg cy (cs 0) (bs 0) (RG 0) (nI (rn 0)) (RS 0) ++ (wCfg cy (cs 1) (bs 1) (RG 1) (nI (rn 1)) (RS 1) ++ (wCfg cy (cs 2) (bs 2) (RG 2) (nI (rn 2)) (RS 2) ++ (wCfg cy (cs 3) (bs 3) (RG 3) (nI (rn 3)) (RS 3) ++ (wCfg cy (cs 4) (bs 4) (cpG (RG 4) G1 n1) (nI n1) sc1 ++ (wCfg cy (cs 5) (bs 5) (RG 5) (nI (rn 5)) (RS 5) ++ (wCfg cy c1 b1 G1 (nI n1) sc1)))))))) H := hP
  have hD : va_D A ([(h0, .inr (1, [.ref rg, .int (nI 5), .int (nI kk)])), (rg, .inl ((cy 1), 6, .inr (.inr (.inr (.inr (fun j => some (cs j)))))))] ++ (wCfg cy (cs 0) (bs 0) (RG 0) (nI (rn 0)) (RS 0) ++ (wCfg cy (cs 1) (bs 1) (RG 1) (nI (rn 1)) (RS 1) ++ (wCfg cy (cs 2) (bs 2) (RG 2) (nI (rn 2)) (RS 2) ++ (wCfg cy (cs 3) (bs 3) (RG 3) (nI (rn 3)) (RS 3) ++ (wCfg cy (cs 4) (bs 4) (cpG (RG 4) G1 n1) (nI n1) sc1 ++ (wCfg cy (cs 5) (bs 5) (RG 5) (nI (rn 5)) (RS 5) ++ (wCfg cy c1 b1 G1 (nI n1) sc1)))))))) := hD
  refine lv_aload_n hx hb dX1_remember_26 rfl (lv_at hl 0 rfl) ?_
  refine lv_aload_n hx hb dX1_remember_27 rfl (lv_at hl 0 rfl) ?_
  refine va_get (D := (dC, dI)) (ci := 1) (v := .int (nI kk)) (C := RX1) (T := TX1) (N := 3) hx hb hts hin1 hown hK hP 0 rfl rfl 2 (by decide) f_26 (fun _ h9 => h9) rfl dX1_remember_28 ?_
  refine lv_iconst (v := 1) hx hb dX1_remember_31 (by decide) ?_
  refine lv_iadd hx hb dX1_remember_32 ?_
  refine lv_bipush (v := 6) hx hb dX1_remember_33 (by decide) ?_
  refine va_mmin hx hb (by rw [hml]; exact hl.1.symm) hown (hts (.methodLink RX1 29 Lib.Math.min.name) (by decide +kernel)) (hts (.static Lib.Math.min.name) (by decide +kernel)) (hts (.initialized "java/lang/Math") (by decide +kernel)) (hts (.code Lib.Math.min.name Lib.Math.min.code 2 (some .int)) (by decide +kernel)) (Nat.le_of_ble_eq_true rfl) (Nat.le_of_ble_eq_true rfl) (Nat.le_of_ble_eq_true rfl) (Nat.le_of_ble_eq_true rfl) dX1_remember_35 ?_
  refine lv_topi (fun y_ ey_ => ?_)
  obtain rfl : y_ = nI (hcnt kk) := ey_.trans (min_cnt hkk)
  refine va_put (D := (dC, dI)) (ci := 1) (v := .int (nI (hcnt kk))) (ty := .int) (C := RX1) (T := TX1) (N := 3) hx hb hts hin1 tyX1 tyX1_ok nmX1 hown hK hP hD hS 0 rfl rfl 2 (by decide) f_26 (fun _ h9 => h9) rfl (by decide +kernel) rfl rfl (Nat.le_of_ble_eq_true rfl) dX1_remember_38 (fun H locs hP hD hS => ?_)
  have hP : va_P (dC, dI) vwCl ([(h0, .inr (1, [.ref rg, .int (nI 5), .int (nI (hcnt kk))])), (rg, .inl ((cy 1), 6, .inr (.inr (.inr (.inr (fun j => some (cs j)))))))] ++ (wCfg cy (cs 0) (bs 0) (RG 0) (nI (rn 0)) (RS 0) ++ (wCfg cy (cs 1) (bs 1) (RG 1) (nI (rn 1)) (RS 1) ++ (wCfg cy (cs 2) (bs 2) (RG 2) (nI (rn 2)) (RS 2) ++ (wCfg cy (cs 3) (bs 3) (RG 3) (nI (rn 3)) (RS 3) ++ (wCfg cy (cs 4) (bs 4) (cpG (RG 4) G1 n1) (nI n1) sc1 ++ (wCfg cy (cs 5) (bs 5) (RG 5) (nI (rn 5)) (RS 5) ++ (wCfg cy c1 b1 G1 (nI n1) sc1)))))))) H := hP
  have hD : va_D A ([(h0, .inr (1, [.ref rg, .int (nI 5), .int (nI (hcnt kk))])), (rg, .inl ((cy 1), 6, .inr (.inr (.inr (.inr (fun j => some (cs j)))))))] ++ (wCfg cy (cs 0) (bs 0) (RG 0) (nI (rn 0)) (RS 0) ++ (wCfg cy (cs 1) (bs 1) (RG 1) (nI (rn 1)) (RS 1) ++ (wCfg cy (cs 2) (bs 2) (RG 2) (nI (rn 2)) (RS 2) ++ (wCfg cy (cs 3) (bs 3) (RG 3) (nI (rn 3)) (RS 3) ++ (wCfg cy (cs 4) (bs 4) (cpG (RG 4) G1 n1) (nI n1) sc1 ++ (wCfg cy (cs 5) (bs 5) (RG 5) (nI (rn 5)) (RS 5) ++ (wCfg cy c1 b1 G1 (nI n1) sc1)))))))) := hD
  have hP9 : va_P (dC, dI) vwCl (wHis cy h0 rg 5 (hcnt kk) cs bs (va_up RG 4 (cpG (RG 4) G1 n1)) (va_up rn 4 n1) (va_up RS 4 sc1) ++ wCfg cy c1 b1 G1 (nI n1) sc1) H := hP
  have hD9 : va_D A (wHis cy h0 rg 5 (hcnt kk) cs bs (va_up RG 4 (cpG (RG 4) G1 n1)) (va_up rn 4 n1) (va_up RS 4 sc1) ++ wCfg cy c1 b1 G1 (nI n1) sc1) := hD
  exact W.vret hx hb hr (fun t ht hW => ⟨⟨(), rfl, trivial, by rw [ht]; exact hP9, hD9⟩, hS.F ht⟩) hS.2.2 dX1_remember_41
set_option maxHeartbeats 1000000 in
set_option maxRecDepth 100000 in
/-- the ring remembers, at place 5 -/
theorem c_X1_remember_5 (l : Launch) (dC : Nat → ClassId) (dI : Nat → Nat → Nat) (cy : Nat → ClassId) (sz : Nat) (h0 rg : Nat) (kk : Nat) (cs : Nat → Nat) (bs : Nat → Nat → Nat) (RG : Nat → vG) (rn : Nat → Nat) (RS : Nat → Int32) (c1 : Nat) (b1 : Nat → Nat) (G1 : vG) (n1 : Nat) (sc1 : Int32) (hkk : kk ≤ 6) (hn1 : n1 ≤ 8) : Met l yX1_remember wsX1_remember ({ frames := 2, cells := 0, slots := 0, locals := 45 }) (va_Pc [.ref h0, .ref c1] (pIn dC dI cy ([(h0, .inr (1, [.ref rg, .int (nI 5), .int (nI kk)])), (rg, .inl ((cy 1), 6, .inr (.inr (.inr (.inr (fun j => some (cs j)))))))] ++ (wCfg cy (cs 0) (bs 0) (RG 0) (nI (rn 0)) (RS 0) ++ (wCfg cy (cs 1) (bs 1) (RG 1) (nI (rn 1)) (RS 1) ++ (wCfg cy (cs 2) (bs 2) (RG 2) (nI (rn 2)) (RS 2) ++ (wCfg cy (cs 3) (bs 3) (RG 3) (nI (rn 3)) (RS 3) ++ (wCfg cy (cs 4) (bs 4) (RG 4) (nI (rn 4)) (RS 4) ++ (wCfg cy (cs 5) (bs 5) (RG 5) (nI (rn 5)) (RS 5) ++ (wCfg cy c1 b1 G1 (nI n1) sc1)))))))) sz)) (va_Qv (fun _ => True) (fun (u : Unit) t => va_P (dC, dI) vwCl (wHis cy h0 rg 0 (hcnt kk) cs bs (va_up RG 5 (cpG (RG 5) G1 n1)) (va_up rn 5 n1) (va_up RS 5 sc1) ++ wCfg cy c1 b1 G1 (nI n1) sc1) t.heap ∧ va_D (va_A ([(h0, .inr (1, [.ref rg, .int (nI 5), .int (nI kk)])), (rg, .inl ((cy 1), 6, .inr (.inr (.inr (.inr (fun j => some (cs j)))))))] ++ (wCfg cy (cs 0) (bs 0) (RG 0) (nI (rn 0)) (RS 0) ++ (wCfg cy (cs 1) (bs 1) (RG 1) (nI (rn 1)) (RS 1) ++ (wCfg cy (cs 2) (bs 2) (RG 2) (nI (rn 2)) (RS 2) ++ (wCfg cy (cs 3) (bs 3) (RG 3) (nI (rn 3)) (RS 3) ++ (wCfg cy (cs 4) (bs 4) (RG 4) (nI (rn 4)) (RS 4) ++ (wCfg cy (cs 5) (bs 5) (RG 5) (nI (rn 5)) (RS 5) ++ (wCfg cy c1 b1 G1 (nI n1) sc1)))))))) sz) (wHis cy h0 rg 0 (hcnt kk) cs bs (va_up RG 5 (cpG (RG 5) G1 n1)) (va_up rn 5 n1) (va_up RS 5 sc1) ++ wCfg cy c1 b1 G1 (nI n1) sc1)) (va_A ([(h0, .inr (1, [.ref rg, .int (nI 5), .int (nI kk)])), (rg, .inl ((cy 1), 6, .inr (.inr (.inr (.inr (fun j => some (cs j)))))))] ++ (wCfg cy (cs 0) (bs 0) (RG 0) (nI (rn 0)) (RS 0) ++ (wCfg cy (cs 1) (bs 1) (RG 1) (nI (rn 1)) (RS 1) ++ (wCfg cy (cs 2) (bs 2) (RG 2) (nI (rn 2)) (RS 2) ++ (wCfg cy (cs 3) (bs 3) (RG 3) (nI (rn 3)) (RS 3) ++ (wCfg cy (cs 4) (bs 4) (RG 4) (nI (rn 4)) (RS 4) ++ (wCfg cy (cs 5) (bs 5) (RG 5) (nI (rn 5)) (RS 5) ++ (wCfg cy c1 b1 G1 (nI n1) sc1)))))))) sz)) 0 0 (va_A ([(h0, .inr (1, [.ref rg, .int (nI 5), .int (nI kk)])), (rg, .inl ((cy 1), 6, .inr (.inr (.inr (.inr (fun j => some (cs j)))))))] ++ (wCfg cy (cs 0) (bs 0) (RG 0) (nI (rn 0)) (RS 0) ++ (wCfg cy (cs 1) (bs 1) (RG 1) (nI (rn 1)) (RS 1) ++ (wCfg cy (cs 2) (bs 2) (RG 2) (nI (rn 2)) (RS 2) ++ (wCfg cy (cs 3) (bs 3) (RG 3) (nI (rn 3)) (RS 3) ++ (wCfg cy (cs 4) (bs 4) (RG 4) (nI (rn 4)) (RS 4) ++ (wCfg cy (cs 5) (bs 5) (RG 5) (nI (rn 5)) (RS 5) ++ (wCfg cy c1 b1 G1 (nI n1) sc1)))))))) sz) := by
  refine Met.ofW (cc := cX1_remember) (maxL := 2) (ret := none) (by decide) rfl ?_
  intro p e s m args below meth c s₁ B hml hv
  obtain ⟨rfl, hsz, hP, hE, hD0⟩ := hv
  have hK := hE.1
  subst hsz
  have hD := hD0.self (sz := s.heap.size)
  generalize hAe : va_A ([(h0, .inr (1, [.ref rg, .int (nI 5), .int (nI kk)])), (rg, .inl ((cy 1), 6, .inr (.inr (.inr (.inr (fun j => some (cs j)))))))] ++ (wCfg cy (cs 0) (bs 0) (RG 0) (nI (rn 0)) (RS 0) ++ (wCfg cy (cs 1) (bs 1) (RG 1) (nI (rn 1)) (RS 1) ++ (wCfg cy (cs 2) (bs 2) (RG 2) (nI (rn 2)) (RS 2) ++ (wCfg cy (cs 3) (bs 3) (RG 3) (nI (rn 3)) (RS 3) ++ (wCfg cy (cs 4) (bs 4) (RG 4) (nI (rn 4)) (RS 4) ++ (wCfg cy (cs 5) (bs 5) (RG 5) (nI (rn 5)) (RS 5) ++ (wCfg cy c1 b1 G1 (nI n1) sc1)))))))) s.heap.size = A at hD ⊢
  have hA : ∀ q : Nat, s.heap.size ≤ q → A q := fun q h => by rw [← hAe]; exact Or.inr h
  have hS : va_S A s.heap s.heap [] := va_S.rf
  have hP : va_P (dC, dI) vwCl ([(h0, .inr (1, [.ref rg, .int (nI 5), .int (nI kk)])), (rg, .inl ((cy 1), 6, .inr (.inr (.inr (.inr (fun j => some (cs j)))))))] ++ (wCfg cy (cs 0) (bs 0) (RG 0) (nI (rn 0)) (RS 0) ++ (wCfg cy (cs 1) (bs 1) (RG 1) (nI (rn 1)) (RS 1) ++ (wCfg cy (cs 2) (bs 2) (RG 2) (nI (rn 2)) (RS 2) ++ (wCfg cy (cs 3) (bs 3) (RG 3) (nI (rn 3)) (RS 3) ++ (wCfg cy (cs 4) (bs 4) (RG 4) (nI (rn 4)) (RS 4) ++ (wCfg cy (cs 5) (bs 5) (RG 5) (nI (rn 5)) (RS 5) ++ (wCfg cy c1 b1 G1 (nI n1) sc1)))))))) s.heap := hP
  have hx := B.exec
  have hb := B.bytes
  have hr := B.returns
  have hts := atoms_spec (ws := wsX1_remember) B.pre
  have hown : s.vm.findClass RX1 = some m.cls := findClass_of_methodNamed B.named
  have hlocks := B.notSynchronized
  have hin1 : ∀ w ∈ u_ws RX1 TX1 3, w ∈ wsX1_remember := by decide +kernel
  have f_11 := hts (.fieldLink RX1 11 "DeadlineAdmission$History" "ring" "[LDeadlineAdmission$Configuration;") (by decide +kernel)
  have f_18 := hts (.fieldLink RX1 18 "DeadlineAdmission$History" "next" "I") (by decide +kernel)
  have f_26 := hts (.fieldLink RX1 26 "DeadlineAdmission$History" "kept" "I") (by decide +kernel)
  have hl := lv_entry ([.ref h0, .ref c1]) (n := 2) (Nat.le_of_ble_eq_true rfl)
  rw [lg_entry_eq]
  generalize (lg_sl ([.ref h0, .ref c1]) ++ List.replicate (2 - (lg_sl ([.ref h0, .ref c1])).length) Slot.unset).toArray = ls at hl ⊢
  have hl : lv_has ls 2 [(0, .ref h0), (1, .ref c1)] := hl
  refine lv_aload_n hx hb dX1_remember_0 rfl (lv_at hl 0 rfl) ?_
  refine va_get (D := (dC, dI)) (ci := 1) (v := .ref rg) (C := RX1) (T := TX1) (N := 3) hx hb hts hin1 hown hK hP 0 rfl rfl 0 (by decide) f_11 (fun _ h9 => h9) rfl dX1_remember_1 ?_
  refine lv_aload_n hx hb dX1_remember_4 rfl (lv_at hl 0 rfl) ?_
  refine va_get (D := (dC, dI)) (ci := 1) (v := .int (nI 5)) (C := RX1) (T := TX1) (N := 3) hx hb hts hin1 hown hK hP 0 rfl rfl 1 (by decide) f_18 (fun _ h9 => h9) rfl dX1_remember_5 ?_
  refine wA_ald (q := (cs 5)) hx hb hK hP 1 1 rfl rfl 5 rfl (by omega) (by decide) rfl dX1_remember_8 ?_
  refine lv_aload_n hx hb dX1_remember_9 rfl (lv_at hl 1 rfl) ?_
  have hPc := hP.sub (ws' := wCfg cy (cs 5) (bs 5) (RG 5) (nI (rn 5)) (RS 5) ++ (wCfg cy c1 b1 G1 (nI n1) sc1)) [42, 43, 44, 45, 46, 47, 48, 49, 50, 51, 52, 53, 54, 55, 56, 57] rfl
  have hDc := hD.sub (ws' := wCfg cy (cs 5) (bs 5) (RG 5) (nI (rn 5)) (RS 5) ++ (wCfg cy c1 b1 G1 (nI n1) sc1)) [42, 43, 44, 45, 46, 47, 48, 49, 50, 51, 52, 53, 54, 55, 56, 57] (by decide) rfl
  have hFc := va_free (wc := wCfg cy (cs 5) (bs 5) (RG 5) (nI (rn 5)) (RS 5) ++ (wCfg cy c1 b1 G1 (nI n1) sc1)) hD hS hA [42, 43, 44, 45, 46, 47, 48, 49, 50, 51, 52, 53, 54, 55, 56, 57] rfl
  refine va_callv (va_runV (As := [.ref c1]) (rest := []) ⟨hx, hb, hml, hown, hts⟩ (c_X0_copyFrom l dC dI cy s.heap.size (cs 5) (bs 5) (RG 5) (nI (rn 5)) (RS 5) c1 b1 G1 n1 hn1 sc1) (cwV 1 hts gX1_remember_X0_copyFrom rfl rfl rfl (by decide +kernel) ⟨Nat.le_of_ble_eq_true rfl, Nat.le_of_ble_eq_true rfl⟩) ⟨bl_in, va_recv hK hPc (ci := 0) (q0 := 0) rfl rfl, pr_in hPc hE hDc⟩ rfl rfl hl.1 rfl (lv_room (Nat.le_of_ble_eq_true rfl)) dX1_remember_10 ⟨Nat.le_of_ble_eq_true rfl, Nat.le_of_ble_eq_true rfl⟩) hS (fun q _ h => hFc q h) hFc (fun u t H1 locs ht hvm hw hB hz1 hk1 hS => ?_)
  obtain ⟨hP1, hD1⟩ := hB
  rw [ht] at hP1
  obtain ⟨hP, hD⟩ := va_join (wr := [(h0, .inr (1, [.ref rg, .int (nI 5), .int (nI kk)])), (rg, .inl ((cy 1), 6, .inr (.inr (.inr (.inr (fun j => some (cs j)))))))] ++ (wCfg cy (cs 0) (bs 0) (RG 0) (nI (rn 0)) (RS 0) ++ (wCfg cy (cs 1) (bs 1) (RG 1) (nI (rn 1)) (RS 1) ++ (wCfg cy (cs 2) (bs 2) (RG 2) (nI (rn 2)) (RS 2) ++ (wCfg cy (cs 3) (bs 3) (RG 3) (nI (rn 3)) (RS 3) ++ (wCfg cy (cs 4) (bs 4) (RG 4) (nI (rn 4)) (RS 4))))))) (w1 := wCfg cy (cs 5) (bs 5) (cpG (RG 5) G1 n1) (nI n1) sc1 ++ (wCfg cy c1 b1 G1 (nI n1) sc1)) hP hD [42, 43, 44, 45, 46, 47, 48, 49, 50, 51, 52, 53, 54, 55, 56, 57] [0, 1, 2, 3, 4, 5, 6, 7, 8, 9, 10, 11, 12, 13, 14, 15, 16, 17, 18, 19, 20, 21, 22, 23, 24, 25, 26, 27, 28, 29, 30, 31, 32, 33, 34, 35, 36, 37, 38, 39, 40, 41] rfl rfl (by decide) (by decide) hk1 hFc hP1 hD1
  have hP : va_P (dC, dI) vwCl ([(h0, .inr (1, [.ref rg, .int (nI 5), .int (nI kk)])), (rg, .inl ((cy 1), 6, .inr (.inr (.inr (.inr (fun j => some (cs j)))))))] ++ (wCfg cy (cs 0) (bs 0) (RG 0) (nI (rn 0)) (RS 0) ++ (wCfg cy (cs 1) (bs 1) (RG 1) (nI (rn 1)) (RS 1) ++ (wCfg cy (cs 2) (bs 2) (RG 2) (nI (rn 2)) (RS 2) ++ (wCfg cy (cs 3) (bs 3) (RG 3) (nI (rn 3)) (RS 3) ++ (wCfg cy (cs 4) (bs 4) (RG 4) (nI (rn 4)) (RS 4) ++ (wCfg cy (cs 5) (bs 5) (cpG (RG 5) G1 n1) (nI n1) sc1 ++ (wCfg cy c1 b1 G1 (nI n1) sc1)))))))) H1 := hP.sub [0, 1, 2, 3, 4, 5, 6, 7, 8, 9, 10, 11, 12, 13, 14, 15, 16, 17, 18, 19, 20, 21, 22, 23, 24, 25, 26, 27, 28, 29, 30, 31, 32, 33, 34, 35, 36, 37, 38, 39, 40, 41, 42, 43, 44, 45, 46, 47, 48, 49, 50, 51, 52, 53, 54, 55, 56, 57] rfl
  have hD : va_D A ([(h0, .inr (1, [.ref rg, .int (nI 5), .int (nI kk)])), (rg, .inl ((cy 1), 6, .inr (.inr (.inr (.inr (fun j => some (cs j)))))))] ++ (wCfg cy (cs 0) (bs 0) (RG 0) (nI (rn 0)) (RS 0) ++ (wCfg cy (cs 1) (bs 1) (RG 1) (nI (rn 1)) (RS 1) ++ (wCfg cy (cs 2) (bs 2) (RG 2) (nI (rn 2)) (RS 2) ++ (wCfg cy (cs 3) (bs 3) (RG 3) (nI (rn 3)) (RS 3) ++ (wCfg cy (cs 4) (bs 4) (RG 4) (nI (rn 4)) (RS 4) ++ (wCfg cy (cs 5) (bs 5) (cpG (RG 5) G1 n1) (nI n1) sc1 ++ (wCfg cy c1 b1 G1 (nI n1) sc1)))))))) := hD.sub [0, 1, 2, 3, 4, 5, 6, 7, 8, 9, 10, 11, 12, 13, 14, 15, 16, 17, 18, 19, 20, 21, 22, 23, 24, 25, 26, 27, 28, 29, 30, 31, 32, 33, 34, 35, 36, 37, 38, 39, 40, 41, 42, 43, 44, 45, 46, 47, 48, 49, 50, 51, 52, 53, 54, 55, 56, 57] (by decide) rfl
  clear hz1 hk1 hPc hDc hFc hP1 hD1
  generalize H1 = H at hP hS ⊢
  refine lv_aload_n hx hb dX1_remember_13 rfl (lv_at hl 0 rfl) ?_
  refine lv_aload_n hx hb dX1_remember_14 rfl (lv_at hl 0 rfl) ?_
  refine va_get (D := (dC, dI)) (ci := 1) (v := .int (nI 5)) (C := RX1) (T := TX1) (N := 3) hx hb hts hin1 hown hK hP 0 rfl rfl 1 (by decide) f_18 (fun _ h9 => h9) rfl dX1_remember_15 ?_
  refine lv_iconst (v := 1) hx hb dX1_remember_18 (by decide) ?_
  refine lv_iadd hx hb dX1_remember_19 ?_
  refine lv_bipush (v := 6) hx hb dX1_remember_20 (by decide) ?_
  refine lv_irem hx hb dX1_remember_22 (by decide) ?_
  refine lv_topi (fun y_ ey_ => ?_)
  obtain rfl : y_ = nI 0 := ey_.trans (by decide)
  refine va_put (D := (dC, dI)) (ci := 1) (v := .int (nI 0)) (ty := .int) (C := RX1) (T := TX1) (N := 3) hx hb hts hin1 tyX1 tyX1_ok nmX1 hown hK hP hD hS 0 rfl rfl 1 (by decide) f_18 (fun _ h9 => h9) rfl (by decide +kernel) rfl rfl (Nat.le_of_ble_eq_true rfl) dX1_remember_23 (fun H locs hP hD hS => ?_)
  have hP : va_P (dC, dI) vwCl ([(h0, .inr (1, [.ref rg, .int (nI 0), .int (nI kk)])), (rg, .inl ((cy 1), 6, .inr (.inr (.inr (.inr (fun j => some (cs j)))))))] ++ (wCfg cy (cs 0) (bs 0) (RG 0) (nI (rn 0)) (RS 0) ++ (wCfg cy (cs 1) (bs 1) (RG 1) (nI (rn 1)) (RS 1) ++ (wCfg cy (cs 2) (bs 2) (RG 2) (nI (rn 2)) (RS 2) ++ (wCfg cy (cs 3) (bs 3) (RG 3) (nI (rn 3)) (RS 3) ++ (wCfg cy (cs 4) (bs 4) (RG 4) (nI (rn 4)) (RS 4) ++ (wCfg cy (cs 5) (bs 5) (cpG (RG 5) G1 n1) (nI n1) sc1 ++ (wCfg cy c1 b1 G1 (nI n1) sc1)))))))) H := hP
  have hD : va_D A ([(h0, .inr (1, [.ref rg, .int (nI 0), .int (nI kk)])), (rg, .inl ((cy 1), 6, .inr (.inr (.inr (.inr (fun j => some (cs j)))))))] ++ (wCfg cy (cs 0) (bs 0) (RG 0) (nI (rn 0)) (RS 0) ++ (wCfg cy (cs 1) (bs 1) (RG 1) (nI (rn 1)) (RS 1) ++ (wCfg cy (cs 2) (bs 2) (RG 2) (nI (rn 2)) (RS 2) ++ (wCfg cy (cs 3) (bs 3) (RG 3) (nI (rn 3)) (RS 3) ++ (wCfg cy (cs 4) (bs 4) (RG 4) (nI (rn 4)) (RS 4) ++ (wCfg cy (cs 5) (bs 5) (cpG (RG 5) G1 n1) (nI n1) sc1 ++ (wCfg cy c1 b1 G1 (nI n1) sc1)))))))) := hD
  refine lv_aload_n hx hb dX1_remember_26 rfl (lv_at hl 0 rfl) ?_
  refine lv_aload_n hx hb dX1_remember_27 rfl (lv_at hl 0 rfl) ?_
  refine va_get (D := (dC, dI)) (ci := 1) (v := .int (nI kk)) (C := RX1) (T := TX1) (N := 3) hx hb hts hin1 hown hK hP 0 rfl rfl 2 (by decide) f_26 (fun _ h9 => h9) rfl dX1_remember_28 ?_
  refine lv_iconst (v := 1) hx hb dX1_remember_31 (by decide) ?_
  refine lv_iadd hx hb dX1_remember_32 ?_
  refine lv_bipush (v := 6) hx hb dX1_remember_33 (by decide) ?_
  refine va_mmin hx hb (by rw [hml]; exact hl.1.symm) hown (hts (.methodLink RX1 29 Lib.Math.min.name) (by decide +kernel)) (hts (.static Lib.Math.min.name) (by decide +kernel)) (hts (.initialized "java/lang/Math") (by decide +kernel)) (hts (.code Lib.Math.min.name Lib.Math.min.code 2 (some .int)) (by decide +kernel)) (Nat.le_of_ble_eq_true rfl) (Nat.le_of_ble_eq_true rfl) (Nat.le_of_ble_eq_true rfl) (Nat.le_of_ble_eq_true rfl) dX1_remember_35 ?_
  refine lv_topi (fun y_ ey_ => ?_)
  obtain rfl : y_ = nI (hcnt kk) := ey_.trans (min_cnt hkk)
  refine va_put (D := (dC, dI)) (ci := 1) (v := .int (nI (hcnt kk))) (ty := .int) (C := RX1) (T := TX1) (N := 3) hx hb hts hin1 tyX1 tyX1_ok nmX1 hown hK hP hD hS 0 rfl rfl 2 (by decide) f_26 (fun _ h9 => h9) rfl (by decide +kernel) rfl rfl (Nat.le_of_ble_eq_true rfl) dX1_remember_38 (fun H locs hP hD hS => ?_)
  have hP : va_P (dC, dI) vwCl ([(h0, .inr (1, [.ref rg, .int (nI 0), .int (nI (hcnt kk))])), (rg, .inl ((cy 1), 6, .inr (.inr (.inr (.inr (fun j => some (cs j)))))))] ++ (wCfg cy (cs 0) (bs 0) (RG 0) (nI (rn 0)) (RS 0) ++ (wCfg cy (cs 1) (bs 1) (RG 1) (nI (rn 1)) (RS 1) ++ (wCfg cy (cs 2) (bs 2) (RG 2) (nI (rn 2)) (RS 2) ++ (wCfg cy (cs 3) (bs 3) (RG 3) (nI (rn 3)) (RS 3) ++ (wCfg cy (cs 4) (bs 4) (RG 4) (nI (rn 4)) (RS 4) ++ (wCfg cy (cs 5) (bs 5) (cpG (RG 5) G1 n1) (nI n1) sc1 ++ (wCfg cy c1 b1 G1 (nI n1) sc1)))))))) H := hP
  have hD : va_D A ([(h0, .inr (1, [.ref rg, .int (nI 0), .int (nI (hcnt kk))])), (rg, .inl ((cy 1), 6, .inr (.inr (.inr (.inr (fun j => some (cs j)))))))] ++ (wCfg cy (cs 0) (bs 0) (RG 0) (nI (rn 0)) (RS 0) ++ (wCfg cy (cs 1) (bs 1) (RG 1) (nI (rn 1)) (RS 1) ++ (wCfg cy (cs 2) (bs 2) (RG 2) (nI (rn 2)) (RS 2) ++ (wCfg cy (cs 3) (bs 3) (RG 3) (nI (rn 3)) (RS 3) ++ (wCfg cy (cs 4) (bs 4) (RG 4) (nI (rn 4)) (RS 4) ++ (wCfg cy (cs 5) (bs 5) (cpG (RG 5) G1 n1) (nI n1) sc1 ++ (wCfg cy c1 b1 G1 (nI n1) sc1)))))))) := hD
  have hP9 : va_P (dC, dI) vwCl (wHis cy h0 rg 0 (hcnt kk) cs bs (va_up RG 5 (cpG (RG 5) G1 n1)) (va_up rn 5 n1) (va_up RS 5 sc1) ++ wCfg cy c1 b1 G1 (nI n1) sc1) H := hP
  have hD9 : va_D A (wHis cy h0 rg 0 (hcnt kk) cs bs (va_up RG 5 (cpG (RG 5) G1 n1)) (va_up rn 5 n1) (va_up RS 5 sc1) ++ wCfg cy c1 b1 G1 (nI n1) sc1) := hD
  exact W.vret hx hb hr (fun t ht hW => ⟨⟨(), rfl, trivial, by rw [ht]; exact hP9, hD9⟩, hS.F ht⟩) hS.2.2 dX1_remember_41

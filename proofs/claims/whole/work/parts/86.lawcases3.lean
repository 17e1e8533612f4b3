/-! PART 86: the law: calls of the class's own methods -/
theorem st_dln {σ : CS} {I : Nat → Int32} {R : vG} (h : Rel σ I R) {z : Int32} {v : (Nat → Int32) × vG} (hm : ∃ N9 : Nat → Int32, v = (upd (upd I 0 0) 23 z, upr R 22 N9)) : Rel σ v.1 v.2 := by
  obtain ⟨N9, m1⟩ := hm
  rw [m1]
  refine h.cg (fun k a c => ?_) (fun k a c => ?_)
  · show upd (upd I 0 _) 23 _ k = I k
    rw [pk_un (by omega), pk_un c]
  · show upr R 22 N9 k = R k
    exact if_neg (by omega)
set_option maxHeartbeats 1000000 in
set_option maxRecDepth 100000 in
/-- call 3 of the script -/
theorem case_3 {p : Program} {l : Launch} {e : Env} {s : State} {m : MethodId} {below : List Frame} {meth : Method} {c : Code} {Q : State → Prop} {b Lx : Nat} {xs : Nat → Int32} {dC : Nat → ClassId} {dI : Nat → Nat → Nat} {cy : Nat → ClassId} (C : LCx p l s m meth c b Lx xs dC dI cy) {κ : KA} {ol od m0 : Nat} {a : Nat → Nat} {j : Nat} (hj : 7 * j + 7 ≤ Lx) (hLx : Lx ≤ 3584) {cells slots : Nat} (hce : cells + 3 ≤ 601024) (hsl : slots + 18 ≤ 7293034) (kk9 : KON p l e s m below meth c Q b dC dI cy κ ol od m0 a j (cells + 3) (slots + 18)) {σ : CS} {I : Nat → Int32} {R : vG} {y : Int64} {yd : UInt64} {H : Heap} {locs : List Loc} {ls : Array Slot} (hR : Rel σ I R) (hLB : LB dC dI cy κ ol od m0 a s σ I R y yd H locs) (hl : lv_has ls 9 (LV κ ol od m0 b j)) : W p l e room_1 s m #[Value.ref b] below meth c H locs cells slots Q (F0 m 430 ls []) := by
  obtain ⟨hx, hb, hml, hown, hts, hX0, hbl, hE, hXV, hZ, hV, hst⟩ := C
  have hK := hE.1
  obtain ⟨hB, hBD, hS⟩ := hLB
  have hA : ∀ q, s.heap.size ≤ q → AL s q := fun _ h => h
  have hbA : ¬ AL s b := Nat.not_le.mpr hbl
  have hok := hR.ok
  obtain ⟨d0, o, bc, bt, bv, rg, cs, bs, ta, tb, z, bq, rt⟩ := κ
  obtain ⟨⟨F, ⟨G, n, sc⟩, ⟨Gt, nt, sct⟩, x, kk, RG, rn, RS⟩, ⟨Gv, nv9, scv⟩, ⟨C, N, L, fl⟩, M, ⟨Gz, nz, scz⟩, Q9, T⟩ := σ
  have hRc := hR
  obtain ⟨⟨hn, hG, hgs, esc, hS0, hS1, hag⟩, hnt, hx6, hkk, hI5, hrn, hh, hnv, hI6, hsv, hL, hI8, htx, hI9, hnz, hI10, hI11, hI12, hI13, hI14, hnn, hsm⟩ := hRc
  have hGR := okG_agr hag.symm hG
  have hl : lv_has ls 9 [(5, .int (nI (7 * j))), (4, .ref od), (3, .ref ol), (2, .ref m0), (1, .ref d0), (0, .ref b)] := hl
  refine lv_aload_n hx hb dL_law_430 rfl (lv_at hl 4 rfl) ?_
  have hKb : BP (dC, dI) vwCl [wObj d0 o F, wCfg cy (o 0) bc G (nI n) sc, wCfg cy (o 1) bt Gt (nI nt) sct, wHis cy (o 3) rg x kk cs bs RG rn RS, wCfg cy (o 2) bv Gv (nI nv9) scv, wTxt cy (o 4) ta tb C N (nI L) fl, wSim (o 5) z M, wCfg cy (z 0) bq Gz (nI nz) scz, wArr cy z rt Q9 T] H := gl_P.mp (show va_P (dC, dI) vwCl (glue [wObj d0 o F, wCfg cy (o 0) bc G (nI n) sc, wCfg cy (o 1) bt Gt (nI nt) sct, wHis cy (o 3) rg x kk cs bs RG rn RS, wCfg cy (o 2) bv Gv (nI nv9) scv, wTxt cy (o 4) ta tb C N (nI L) fl, wSim (o 5) z M, wCfg cy (z 0) bq Gz (nI nz) scz, wArr cy z rt Q9 T]) H from hB _ (List.mem_of_getElem? (i := 0) rfl))
  have hPc : va_P (dC, dI) vwCl (wObj d0 o F ++ (wTxt cy (o 4) ta tb C N (nI L) fl)) H := gl_P.mpr (hKb.sub (bs' := [wObj d0 o F, wTxt cy (o 4) ta tb C N (nI L) fl]) [0, 5] rfl)
  refine vp_callSi (va_runV (As := []) (rest := []) ⟨hx, hb, hml, hown, hts⟩ (c_X4_faultPosition l dC dI cy d0 o F ta tb C N fl L) (cwV 0 hts gL_law_X4_faultPosition rfl rfl rfl (by decide +kernel) ⟨Nat.le_of_ble_eq_true rfl, Nat.le_of_ble_eq_true rfl⟩) ⟨bl_ro, va_recv hK hPc (ci := 4) (q0 := 0) rfl rfl, pr_ro hPc hE⟩ rfl rfl hl.1 rfl (lv_room (Nat.le_of_ble_eq_true rfl)) dL_law_431 ⟨by show cells + 0 ≤ 601024; omega, by show slots + 0 ≤ 7293034; omega⟩).run (fun r e_r => ?_)
  clear hKb hPc
  refine lv_aload_n hx hb dL_law_434 rfl (lv_at hl 3 rfl) ?_
  have hPm : va_P (dC, dI) vwCl (wMdl cy m0 a I R) H := hB _ (List.mem_of_getElem? (i := 3) rfl)
  have hDm : va_D (AL s) (wMdl cy m0 a I R) := hBD.2 _ (List.mem_of_getElem? (i := 3) rfl)
  refine lc_Mi (fun u : Nat → Int32 => u) (fun _ : Nat → Int32 => R) (va_runV (As := []) (rest := [.int r]) ⟨hx, hb, hml, hown, hts⟩ (c_X5_faultPosition l dC dI cy H.size m0 a I R ) (cwV 0 hts gL_law_X5_faultPosition rfl rfl rfl (by decide +kernel) ⟨Nat.le_of_ble_eq_true rfl, Nat.le_of_ble_eq_true rfl⟩) ⟨bl_in, va_recv hK hPm (ci := 5) (q0 := 0) rfl rfl, pr_in hPm hE hDm⟩ rfl rfl hl.1 rfl (lv_room (Nat.le_of_ble_eq_true rfl)) dL_law_435 ⟨by show cells + 0 ≤ 601024; omega, by show slots + 0 ≤ 7293034; omega⟩) hB hBD hS (fun b9 v H locs hm hB hBD hS => ?_)
  clear hPm hDm
  refine lv_icmp_eq (tgt := 2107) hx hb dL_law_438 (by decide) (fun _ => ?_) (fun h0 => absurd (e_r.trans (hm.2.trans hI9).symm) h0)
  refine W.widen (k := cells + 3) (n := slots + 18) (by omega) (by omega) ?_
  exact kk9 _ _ _ _ _ _ _ _ (by rw [hm.1]; exact hR.th _) ⟨hB, hBD, hS⟩ (lv_sub hl [0, 1, 2, 3, 4, 5] rfl)
set_option maxHeartbeats 1000000 in
set_option maxRecDepth 100000 in
/-- call 5 of the script -/
theorem case_5 {p : Program} {l : Launch} {e : Env} {s : State} {m : MethodId} {below : List Frame} {meth : Method} {c : Code} {Q : State → Prop} {b Lx : Nat} {xs : Nat → Int32} {dC : Nat → ClassId} {dI : Nat → Nat → Nat} {cy : Nat → ClassId} (C : LCx p l s m meth c b Lx xs dC dI cy) {κ : KA} {ol od m0 : Nat} {a : Nat → Nat} {j : Nat} (hj : 7 * j + 7 ≤ Lx) (hLx : Lx ≤ 3584) {cells slots : Nat} (hce : cells + 3 ≤ 601024) (hsl : slots + 18 ≤ 7293034) (kk9 : KON p l e s m below meth c Q b dC dI cy κ ol od m0 a j (cells + 3) (slots + 18)) {σ : CS} {I : Nat → Int32} {R : vG} {y : Int64} {yd : UInt64} {H : Heap} {locs : List Loc} {ls : Array Slot} (hR : Rel σ I R) (hLB : LB dC dI cy κ ol od m0 a s σ I R y yd H locs) (hl : lv_has ls 9 (LV κ ol od m0 b j)) : W p l e room_1 s m #[Value.ref b] below meth c H locs cells slots Q (F0 m 499 ls []) := by
  obtain ⟨hx, hb, hml, hown, hts, hX0, hbl, hE, hXV, hZ, hV, hst⟩ := C
  have hK := hE.1
  obtain ⟨hB, hBD, hS⟩ := hLB
  have hA : ∀ q, s.heap.size ≤ q → AL s q := fun _ h => h
  have hbA : ¬ AL s b := Nat.not_le.mpr hbl
  have hok := hR.ok
  obtain ⟨d0, o, bc, bt, bv, rg, cs, bs, ta, tb, z, bq, rt⟩ := κ
  obtain ⟨⟨F, ⟨G, n, sc⟩, ⟨Gt, nt, sct⟩, x, kk, RG, rn, RS⟩, ⟨Gv, nv9, scv⟩, ⟨C, N, L, fl⟩, M, ⟨Gz, nz, scz⟩, Q9, T⟩ := σ
  have hRc := hR
  obtain ⟨⟨hn, hG, hgs, esc, hS0, hS1, hag⟩, hnt, hx6, hkk, hI5, hrn, hh, hnv, hI6, hsv, hL, hI8, htx, hI9, hnz, hI10, hI11, hI12, hI13, hI14, hnn, hsm⟩ := hRc
  have hGR := okG_agr hag.symm hG
  have hl : lv_has ls 9 [(5, .int (nI (7 * j))), (4, .ref od), (3, .ref ol), (2, .ref m0), (1, .ref d0), (0, .ref b)] := hl
  refine lv_aload_n hx hb dL_law_499 rfl (lv_at hl 4 rfl) ?_
  have hB9 : BP (dC, dI) vwCl [wObj d0 o F, wCfg cy (o 0) bc G (nI n) sc, wCfg cy (o 1) bt Gt (nI nt) sct, wHis cy (o 3) rg x kk cs bs RG rn RS, wCfg cy (o 2) bv Gv (nI nv9) scv, wTxt cy (o 4) ta tb C N (nI L) fl, wSim (o 5) z M, wCfg cy (z 0) bq Gz (nI nz) scz, wArr cy z rt Q9 T, oL cy ol y, oD cy od yd, wMdl cy m0 a I R] H := exp_P.mp hB
  have hD9 : BD (AL s) [wObj d0 o F, wCfg cy (o 0) bc G (nI n) sc, wCfg cy (o 1) bt Gt (nI nt) sct, wHis cy (o 3) rg x kk cs bs RG rn RS, wCfg cy (o 2) bv Gv (nI nv9) scv, wTxt cy (o 4) ta tb C N (nI L) fl, wSim (o 5) z M, wCfg cy (z 0) bq Gz (nI nz) scz, wArr cy z rt Q9 T, oL cy ol y, oD cy od yd, wMdl cy m0 a I R] := exp_D.mp hBD
  have hPc : va_P (dC, dI) vwCl (wObj d0 o F ++ (wCfg cy (o 0) bc G (nI n) sc ++ (wCfg cy (o 1) bt Gt (nI nt) sct ++ (wHis cy (o 3) rg x kk cs bs RG rn RS)))) H := gl_P.mpr (hB9.sub (bs' := [wObj d0 o F, wCfg cy (o 0) bc G (nI n) sc, wCfg cy (o 1) bt Gt (nI nt) sct, wHis cy (o 3) rg x kk cs bs RG rn RS]) [0, 1, 2, 3] rfl)
  have hDc : va_D (AL s) (wObj d0 o F ++ (wCfg cy (o 0) bc G (nI n) sc ++ (wCfg cy (o 1) bt Gt (nI nt) sct ++ (wHis cy (o 3) rg x kk cs bs RG rn RS)))) := gl_D.mpr (hD9.sub (bs' := [wObj d0 o F, wCfg cy (o 0) bc G (nI n) sc, wCfg cy (o 1) bt Gt (nI nt) sct, wHis cy (o 3) rg x kk cs bs RG rn RS]) [0, 1, 2, 3] (by decide) rfl)
  have hFc : ∀ q, va_A (wObj d0 o F ++ (wCfg cy (o 0) bc G (nI n) sc ++ (wCfg cy (o 1) bt Gt (nI nt) sct ++ (wHis cy (o 3) rg x kk cs bs RG rn RS)))) H.size q → AL s q := BF (cb := [wObj d0 o F, wCfg cy (o 0) bc G (nI n) sc, wCfg cy (o 1) bt Gt (nI nt) sct, wHis cy (o 3) rg x kk cs bs RG rn RS]) hD9 hS hA [0, 1, 2, 3] rfl
  refine va_calli (va_runV (As := []) (rest := []) ⟨hx, hb, hml, hown, hts⟩ (c_X4_upgrade l dC dI cy H.size d0 o F bc G n hn sc bt Gt nt hnt sct hG rg x kk hx6 hkk cs bs RG rn RS) (cwV 0 hts gL_law_X4_upgrade rfl rfl rfl (by decide +kernel) ⟨Nat.le_of_ble_eq_true rfl, Nat.le_of_ble_eq_true rfl⟩) ⟨bl_in, va_recv hK hPc (ci := 4) (q0 := 0) rfl rfl, pr_in hPc hE hDc⟩ rfl rfl hl.1 rfl (lv_room (Nat.le_of_ble_eq_true rfl)) dL_law_500 ⟨by show cells + 0 ≤ 601024; omega, by show slots + 0 ≤ 7293034; omega⟩) hS (fun q _ h => hFc q h) hFc (fun r u t H1 locs ht hvm hw hB1 hz1 hk1 hS => ?_)
  obtain ⟨F1, ⟨G1, n1, sc1⟩, ⟨Gt1, nt1, sct1⟩, x1, kk1, RG1, rn1, RS1⟩ := u
  obtain ⟨hP1, hD1⟩ := hB1
  rw [ht] at hP1
  obtain ⟨hBn, hDn⟩ := BJ (cb := [wObj d0 o F, wCfg cy (o 0) bc G (nI n) sc, wCfg cy (o 1) bt Gt (nI nt) sct, wHis cy (o 3) rg x kk cs bs RG rn RS]) (rb := [wCfg cy (o 2) bv Gv (nI nv9) scv, wTxt cy (o 4) ta tb C N (nI L) fl, wSim (o 5) z M, wCfg cy (z 0) bq Gz (nI nz) scz, wArr cy z rt Q9 T, oL cy ol y, oD cy od yd, wMdl cy m0 a I R]) (nb := [wObj d0 o F1, wCfg cy (o 0) bc G1 (nI n1) sc1, wCfg cy (o 1) bt Gt1 (nI nt1) sct1, wHis cy (o 3) rg x1 kk1 cs bs RG1 rn1 RS1]) hB9 hD9 [0, 1, 2, 3] [4, 5, 6, 7, 8, 9, 10, 11] rfl rfl (by decide) (by decide) hk1 hFc hP1 hD1
  have hB : BP (dC, dI) vwCl [wK cy (d0, o, bc, bt, bv, rg, cs, bs, ta, tb, z, bq, rt) ((F1, (G1, n1, sc1), (Gt1, nt1, sct1), (x1, kk1, RG1, rn1, RS1)), (Gv, nv9, scv), (C, N, L, fl), (M, (Gz, nz, scz), Q9, T)), oL cy ol y, oD cy od yd, wMdl cy m0 a I R] H1 := exp_P.mpr (hBn.sub (bs' := [wObj d0 o F1, wCfg cy (o 0) bc G1 (nI n1) sc1, wCfg cy (o 1) bt Gt1 (nI nt1) sct1, wHis cy (o 3) rg x1 kk1 cs bs RG1 rn1 RS1, wCfg cy (o 2) bv Gv (nI nv9) scv, wTxt cy (o 4) ta tb C N (nI L) fl, wSim (o 5) z M, wCfg cy (z 0) bq Gz (nI nz) scz, wArr cy z rt Q9 T, oL cy ol y, oD cy od yd, wMdl cy m0 a I R]) [8, 9, 10, 11, 0, 1, 2, 3, 4, 5, 6, 7] rfl)
  have hBD : BD (AL s) [wK cy (d0, o, bc, bt, bv, rg, cs, bs, ta, tb, z, bq, rt) ((F1, (G1, n1, sc1), (Gt1, nt1, sct1), (x1, kk1, RG1, rn1, RS1)), (Gv, nv9, scv), (C, N, L, fl), (M, (Gz, nz, scz), Q9, T)), oL cy ol y, oD cy od yd, wMdl cy m0 a I R] := exp_D.mpr (hDn.sub (bs' := [wObj d0 o F1, wCfg cy (o 0) bc G1 (nI n1) sc1, wCfg cy (o 1) bt Gt1 (nI nt1) sct1, wHis cy (o 3) rg x1 kk1 cs bs RG1 rn1 RS1, wCfg cy (o 2) bv Gv (nI nv9) scv, wTxt cy (o 4) ta tb C N (nI L) fl, wSim (o 5) z M, wCfg cy (z 0) bq Gz (nI nz) scz, wArr cy z rt Q9 T, oL cy ol y, oD cy od yd, wMdl cy m0 a I R]) [8, 9, 10, 11, 0, 1, 2, 3, 4, 5, 6, 7] (by decide) rfl)
  clear hz1 hk1 hB9 hD9 hPc hDc hFc hP1 hD1 hBn hDn
  generalize H1 = H at hB hS ⊢
  refine lv_aload_n hx hb dL_law_503 rfl (lv_at hl 3 rfl) ?_
  have hPm : va_P (dC, dI) vwCl (wMdl cy m0 a I R) H := hB _ (List.mem_of_getElem? (i := 3) rfl)
  have hDm : va_D (AL s) (wMdl cy m0 a I R) := hBD.2 _ (List.mem_of_getElem? (i := 3) rfl)
  refine lc_Mi (fun u : (Nat → Int32) × vG => u.1) (fun u : (Nat → Int32) × vG => u.2) (va_runV (As := []) (rest := [.int r]) ⟨hx, hb, hml, hown, hts⟩ (c_X5_upgrade l dC dI cy H.size m0 a I R n hn hS0 G hag hG kk hkk hI5) (cwV 0 hts gL_law_X5_upgrade rfl rfl rfl (by decide +kernel) ⟨Nat.le_of_ble_eq_true rfl, Nat.le_of_ble_eq_true rfl⟩) ⟨bl_in, va_recv hK hPm (ci := 5) (q0 := 0) rfl rfl, pr_in hPm hE hDm⟩ rfl rfl hl.1 rfl (lv_room (Nat.le_of_ble_eq_true rfl)) dL_law_504 ⟨by show cells + 0 + 0 ≤ 601024; omega, by show slots + 0 + 0 ≤ 7293034; omega⟩) hB hBD hS (fun b9 v H locs hm hB hBD hS => ?_)
  clear hPm hDm
  obtain ⟨t1, t3⟩ := st_upg hR hw hm
  refine lv_icmp_eq (tgt := 2107) hx hb dL_law_507 (by decide) (fun _ => ?_) (fun h0 => absurd t1 h0)
  refine W.widen (k := cells + 3) (n := slots + 18) (by omega) (by omega) ?_
  exact kk9 _ _ _ _ _ _ _ _ t3 ⟨hB, hBD, hS⟩ (lv_sub hl [0, 1, 2, 3, 4, 5] rfl)
set_option maxHeartbeats 1000000 in
set_option maxRecDepth 100000 in
/-- call 8 of the script -/
theorem case_8 {p : Program} {l : Launch} {e : Env} {s : State} {m : MethodId} {below : List Frame} {meth : Method} {c : Code} {Q : State → Prop} {b Lx : Nat} {xs : Nat → Int32} {dC : Nat → ClassId} {dI : Nat → Nat → Nat} {cy : Nat → ClassId} (C : LCx p l s m meth c b Lx xs dC dI cy) {κ : KA} {ol od m0 : Nat} {a : Nat → Nat} {j : Nat} (hj : 7 * j + 7 ≤ Lx) (hLx : Lx ≤ 3584) {cells slots : Nat} (hce : cells + 3 ≤ 601024) (hsl : slots + 18 ≤ 7293034) (kk9 : KON p l e s m below meth c Q b dC dI cy κ ol od m0 a j (cells + 3) (slots + 18)) {σ : CS} {I : Nat → Int32} {R : vG} {y : Int64} {yd : UInt64} {H : Heap} {locs : List Loc} {ls : Array Slot} (hR : Rel σ I R) (hLB : LB dC dI cy κ ol od m0 a s σ I R y yd H locs) (hl : lv_has ls 9 (LV κ ol od m0 b j)) : W p l e room_1 s m #[Value.ref b] below meth c H locs cells slots Q (F0 m 624 ls []) := by
  obtain ⟨hx, hb, hml, hown, hts, hX0, hbl, hE, hXV, hZ, hV, hst⟩ := C
  have hK := hE.1
  obtain ⟨hB, hBD, hS⟩ := hLB
  have hA : ∀ q, s.heap.size ≤ q → AL s q := fun _ h => h
  have hbA : ¬ AL s b := Nat.not_le.mpr hbl
  have hok := hR.ok
  obtain ⟨d0, o, bc, bt, bv, rg, cs, bs, ta, tb, z, bq, rt⟩ := κ
  obtain ⟨⟨F, ⟨G, n, sc⟩, ⟨Gt, nt, sct⟩, x, kk, RG, rn, RS⟩, ⟨Gv, nv9, scv⟩, ⟨C, N, L, fl⟩, M, ⟨Gz, nz, scz⟩, Q9, T⟩ := σ
  have hRc := hR
  obtain ⟨⟨hn, hG, hgs, esc, hS0, hS1, hag⟩, hnt, hx6, hkk, hI5, hrn, hh, hnv, hI6, hsv, hL, hI8, htx, hI9, hnz, hI10, hI11, hI12, hI13, hI14, hnn, hsm⟩ := hRc
  have hGR := okG_agr hag.symm hG
  have hl : lv_has ls 9 [(5, .int (nI (7 * j))), (4, .ref od), (3, .ref ol), (2, .ref m0), (1, .ref d0), (0, .ref b)] := hl
  refine lv_aload_n hx hb dL_law_624 rfl (lv_at hl 4 rfl) ?_
  have hKb : BP (dC, dI) vwCl [wObj d0 o F, wCfg cy (o 0) bc G (nI n) sc, wCfg cy (o 1) bt Gt (nI nt) sct, wHis cy (o 3) rg x kk cs bs RG rn RS, wCfg cy (o 2) bv Gv (nI nv9) scv, wTxt cy (o 4) ta tb C N (nI L) fl, wSim (o 5) z M, wCfg cy (z 0) bq Gz (nI nz) scz, wArr cy z rt Q9 T] H := gl_P.mp (show va_P (dC, dI) vwCl (glue [wObj d0 o F, wCfg cy (o 0) bc G (nI n) sc, wCfg cy (o 1) bt Gt (nI nt) sct, wHis cy (o 3) rg x kk cs bs RG rn RS, wCfg cy (o 2) bv Gv (nI nv9) scv, wTxt cy (o 4) ta tb C N (nI L) fl, wSim (o 5) z M, wCfg cy (z 0) bq Gz (nI nz) scz, wArr cy z rt Q9 T]) H from hB _ (List.mem_of_getElem? (i := 0) rfl))
  have hPc : va_P (dC, dI) vwCl (wObj d0 o F ++ (wCfg cy (o 0) bc G (nI n) sc)) H := gl_P.mpr (hKb.sub (bs' := [wObj d0 o F, wCfg cy (o 0) bc G (nI n) sc]) [0, 1] rfl)
  refine vp_callSi (va_runV (As := []) (rest := []) ⟨hx, hb, hml, hown, hts⟩ (c_X4_taskCount l dC dI cy d0 o F bc G n hn sc) (cwV 0 hts gL_law_X4_taskCount rfl rfl rfl (by decide +kernel) ⟨Nat.le_of_ble_eq_true rfl, Nat.le_of_ble_eq_true rfl⟩) ⟨bl_ro, va_recv hK hPc (ci := 4) (q0 := 0) rfl rfl, pr_ro hPc hE⟩ rfl rfl hl.1 rfl (lv_room (Nat.le_of_ble_eq_true rfl)) dL_law_625 ⟨by show cells + 0 ≤ 601024; omega, by show slots + 0 ≤ 7293034; omega⟩).run (fun r e_r => ?_)
  clear hKb hPc
  refine lv_aload_n hx hb dL_law_628 rfl (lv_at hl 3 rfl) ?_
  have hPm : va_P (dC, dI) vwCl (wMdl cy m0 a I R) H := hB _ (List.mem_of_getElem? (i := 3) rfl)
  have hDm : va_D (AL s) (wMdl cy m0 a I R) := hBD.2 _ (List.mem_of_getElem? (i := 3) rfl)
  refine lc_Mi (fun u : Nat → Int32 => u) (fun _ : Nat → Int32 => R) (va_runV (As := []) (rest := [.int r]) ⟨hx, hb, hml, hown, hts⟩ (c_X5_taskCount l dC dI cy H.size m0 a I R n hn hS0 hGR) (cwV 0 hts gL_law_X5_taskCount rfl rfl rfl (by decide +kernel) ⟨Nat.le_of_ble_eq_true rfl, Nat.le_of_ble_eq_true rfl⟩) ⟨bl_in, va_recv hK hPm (ci := 5) (q0 := 0) rfl rfl, pr_in hPm hE hDm⟩ rfl rfl hl.1 rfl (lv_room (Nat.le_of_ble_eq_true rfl)) dL_law_629 ⟨by show cells + 0 ≤ 601024; omega, by show slots + 0 ≤ 7293034; omega⟩) hB hBD hS (fun b9 v H locs hm hB hBD hS => ?_)
  clear hPm hDm
  refine lv_icmp_eq (tgt := 2107) hx hb dL_law_632 (by decide) (fun _ => ?_) (fun h0 => absurd (e_r.trans hm.2.symm) h0)
  refine W.widen (k := cells + 3) (n := slots + 18) (by omega) (by omega) ?_
  exact kk9 _ _ _ _ _ _ _ _ (by rw [hm.1]; exact hR.th _) ⟨hB, hBD, hS⟩ (lv_sub hl [0, 1, 2, 3, 4, 5] rfl)
set_option maxHeartbeats 1000000 in
set_option maxRecDepth 100000 in
/-- call 9 of the script -/
theorem case_9 {p : Program} {l : Launch} {e : Env} {s : State} {m : MethodId} {below : List Frame} {meth : Method} {c : Code} {Q : State → Prop} {b Lx : Nat} {xs : Nat → Int32} {dC : Nat → ClassId} {dI : Nat → Nat → Nat} {cy : Nat → ClassId} (C : LCx p l s m meth c b Lx xs dC dI cy) {κ : KA} {ol od m0 : Nat} {a : Nat → Nat} {j : Nat} (hj : 7 * j + 7 ≤ Lx) (hLx : Lx ≤ 3584) {cells slots : Nat} (hce : cells + 3 ≤ 601024) (hsl : slots + 18 ≤ 7293034) (kk9 : KON p l e s m below meth c Q b dC dI cy κ ol od m0 a j (cells + 3) (slots + 18)) {σ : CS} {I : Nat → Int32} {R : vG} {y : Int64} {yd : UInt64} {H : Heap} {locs : List Loc} {ls : Array Slot} (hR : Rel σ I R) (hLB : LB dC dI cy κ ol od m0 a s σ I R y yd H locs) (hl : lv_has ls 9 (LV κ ol od m0 b j)) : W p l e room_1 s m #[Value.ref b] below meth c H locs cells slots Q (F0 m 637 ls []) := by
  obtain ⟨hx, hb, hml, hown, hts, hX0, hbl, hE, hXV, hZ, hV, hst⟩ := C
  have hK := hE.1
  obtain ⟨hB, hBD, hS⟩ := hLB
  have hA : ∀ q, s.heap.size ≤ q → AL s q := fun _ h => h
  have hbA : ¬ AL s b := Nat.not_le.mpr hbl
  have hok := hR.ok
  obtain ⟨d0, o, bc, bt, bv, rg, cs, bs, ta, tb, z, bq, rt⟩ := κ
  obtain ⟨⟨F, ⟨G, n, sc⟩, ⟨Gt, nt, sct⟩, x, kk, RG, rn, RS⟩, ⟨Gv, nv9, scv⟩, ⟨C, N, L, fl⟩, M, ⟨Gz, nz, scz⟩, Q9, T⟩ := σ
  have hRc := hR
  obtain ⟨⟨hn, hG, hgs, esc, hS0, hS1, hag⟩, hnt, hx6, hkk, hI5, hrn, hh, hnv, hI6, hsv, hL, hI8, htx, hI9, hnz, hI10, hI11, hI12, hI13, hI14, hnn, hsm⟩ := hRc
  have hGR := okG_agr hag.symm hG
  have hl : lv_has ls 9 [(5, .int (nI (7 * j))), (4, .ref od), (3, .ref ol), (2, .ref m0), (1, .ref d0), (0, .ref b)] := hl
  refine lv_aload_n hx hb dL_law_637 rfl (lv_at hl 4 rfl) ?_
  have hKb : BP (dC, dI) vwCl [wObj d0 o F, wCfg cy (o 0) bc G (nI n) sc, wCfg cy (o 1) bt Gt (nI nt) sct, wHis cy (o 3) rg x kk cs bs RG rn RS, wCfg cy (o 2) bv Gv (nI nv9) scv, wTxt cy (o 4) ta tb C N (nI L) fl, wSim (o 5) z M, wCfg cy (z 0) bq Gz (nI nz) scz, wArr cy z rt Q9 T] H := gl_P.mp (show va_P (dC, dI) vwCl (glue [wObj d0 o F, wCfg cy (o 0) bc G (nI n) sc, wCfg cy (o 1) bt Gt (nI nt) sct, wHis cy (o 3) rg x kk cs bs RG rn RS, wCfg cy (o 2) bv Gv (nI nv9) scv, wTxt cy (o 4) ta tb C N (nI L) fl, wSim (o 5) z M, wCfg cy (z 0) bq Gz (nI nz) scz, wArr cy z rt Q9 T]) H from hB _ (List.mem_of_getElem? (i := 0) rfl))
  have hPc : va_P (dC, dI) vwCl (wObj d0 o F ++ (wCfg cy (o 0) bc G (nI n) sc)) H := gl_P.mpr (hKb.sub (bs' := [wObj d0 o F, wCfg cy (o 0) bc G (nI n) sc]) [0, 1] rfl)
  refine vp_callSi (va_runV (As := []) (rest := []) ⟨hx, hb, hml, hown, hts⟩ (c_X4_scale l dC dI cy d0 o F bc G n hn sc) (cwV 0 hts gL_law_X4_scale rfl rfl rfl (by decide +kernel) ⟨Nat.le_of_ble_eq_true rfl, Nat.le_of_ble_eq_true rfl⟩) ⟨bl_ro, va_recv hK hPc (ci := 4) (q0 := 0) rfl rfl, pr_ro hPc hE⟩ rfl rfl hl.1 rfl (lv_room (Nat.le_of_ble_eq_true rfl)) dL_law_638 ⟨by show cells + 0 ≤ 601024; omega, by show slots + 0 ≤ 7293034; omega⟩).run (fun r e_r => ?_)
  clear hKb hPc
  refine lv_aload_n hx hb dL_law_641 rfl (lv_at hl 3 rfl) ?_
  have hPm : va_P (dC, dI) vwCl (wMdl cy m0 a I R) H := hB _ (List.mem_of_getElem? (i := 3) rfl)
  have hDm : va_D (AL s) (wMdl cy m0 a I R) := hBD.2 _ (List.mem_of_getElem? (i := 3) rfl)
  refine lc_Mi (fun u : Nat → Int32 => u) (fun _ : Nat → Int32 => R) (va_runV (As := []) (rest := [.int r]) ⟨hx, hb, hml, hown, hts⟩ (c_X5_scale l dC dI cy H.size m0 a I R ) (cwV 0 hts gL_law_X5_scale rfl rfl rfl (by decide +kernel) ⟨Nat.le_of_ble_eq_true rfl, Nat.le_of_ble_eq_true rfl⟩) ⟨bl_in, va_recv hK hPm (ci := 5) (q0 := 0) rfl rfl, pr_in hPm hE hDm⟩ rfl rfl hl.1 rfl (lv_room (Nat.le_of_ble_eq_true rfl)) dL_law_642 ⟨by show cells + 0 ≤ 601024; omega, by show slots + 0 ≤ 7293034; omega⟩) hB hBD hS (fun b9 v H locs hm hB hBD hS => ?_)
  clear hPm hDm
  refine lv_icmp_eq (tgt := 2107) hx hb dL_law_645 (by decide) (fun _ => ?_) (fun h0 => absurd (e_r.trans (hm.2.trans hS1).symm) h0)
  refine W.widen (k := cells + 3) (n := slots + 18) (by omega) (by omega) ?_
  exact kk9 _ _ _ _ _ _ _ _ (by rw [hm.1]; exact hR.th _) ⟨hB, hBD, hS⟩ (lv_sub hl [0, 1, 2, 3, 4, 5] rfl)
set_option maxHeartbeats 1000000 in
set_option maxRecDepth 100000 in
/-- call 20 of the script -/
theorem case_20 {p : Program} {l : Launch} {e : Env} {s : State} {m : MethodId} {below : List Frame} {meth : Method} {c : Code} {Q : State → Prop} {b Lx : Nat} {xs : Nat → Int32} {dC : Nat → ClassId} {dI : Nat → Nat → Nat} {cy : Nat → ClassId} (C : LCx p l s m meth c b Lx xs dC dI cy) {κ : KA} {ol od m0 : Nat} {a : Nat → Nat} {j : Nat} (hj : 7 * j + 7 ≤ Lx) (hLx : Lx ≤ 3584) {cells slots : Nat} (hce : cells + 3 ≤ 601024) (hsl : slots + 18 ≤ 7293034) (kk9 : KON p l e s m below meth c Q b dC dI cy κ ol od m0 a j (cells + 3) (slots + 18)) {σ : CS} {I : Nat → Int32} {R : vG} {y : Int64} {yd : UInt64} {H : Heap} {locs : List Loc} {ls : Array Slot} (hR : Rel σ I R) (hLB : LB dC dI cy κ ol od m0 a s σ I R y yd H locs) (hl : lv_has ls 9 (LV κ ol od m0 b j)) : W p l e room_1 s m #[Value.ref b] below meth c H locs cells slots Q (F0 m 1260 ls []) := by
  obtain ⟨hx, hb, hml, hown, hts, hX0, hbl, hE, hXV, hZ, hV, hst⟩ := C
  have hK := hE.1
  obtain ⟨hB, hBD, hS⟩ := hLB
  have hA : ∀ q, s.heap.size ≤ q → AL s q := fun _ h => h
  have hbA : ¬ AL s b := Nat.not_le.mpr hbl
  have hok := hR.ok
  obtain ⟨d0, o, bc, bt, bv, rg, cs, bs, ta, tb, z, bq, rt⟩ := κ
  obtain ⟨⟨F, ⟨G, n, sc⟩, ⟨Gt, nt, sct⟩, x, kk, RG, rn, RS⟩, ⟨Gv, nv9, scv⟩, ⟨C, N, L, fl⟩, M, ⟨Gz, nz, scz⟩, Q9, T⟩ := σ
  have hRc := hR
  obtain ⟨⟨hn, hG, hgs, esc, hS0, hS1, hag⟩, hnt, hx6, hkk, hI5, hrn, hh, hnv, hI6, hsv, hL, hI8, htx, hI9, hnz, hI10, hI11, hI12, hI13, hI14, hnn, hsm⟩ := hRc
  have hGR := okG_agr hag.symm hG
  have hl : lv_has ls 9 [(5, .int (nI (7 * j))), (4, .ref od), (3, .ref ol), (2, .ref m0), (1, .ref d0), (0, .ref b)] := hl
  refine lv_aload_n hx hb dL_law_1260 rfl (lv_at hl 4 rfl) ?_
  have hKb : BP (dC, dI) vwCl [wObj d0 o F, wCfg cy (o 0) bc G (nI n) sc, wCfg cy (o 1) bt Gt (nI nt) sct, wHis cy (o 3) rg x kk cs bs RG rn RS, wCfg cy (o 2) bv Gv (nI nv9) scv, wTxt cy (o 4) ta tb C N (nI L) fl, wSim (o 5) z M, wCfg cy (z 0) bq Gz (nI nz) scz, wArr cy z rt Q9 T] H := gl_P.mp (show va_P (dC, dI) vwCl (glue [wObj d0 o F, wCfg cy (o 0) bc G (nI n) sc, wCfg cy (o 1) bt Gt (nI nt) sct, wHis cy (o 3) rg x kk cs bs RG rn RS, wCfg cy (o 2) bv Gv (nI nv9) scv, wTxt cy (o 4) ta tb C N (nI L) fl, wSim (o 5) z M, wCfg cy (z 0) bq Gz (nI nz) scz, wArr cy z rt Q9 T]) H from hB _ (List.mem_of_getElem? (i := 0) rfl))
  have hPc : va_P (dC, dI) vwCl (wObj d0 o F ++ (wCfg cy (o 0) bc G (nI n) sc)) H := gl_P.mpr (hKb.sub (bs' := [wObj d0 o F, wCfg cy (o 0) bc G (nI n) sc]) [0, 1] rfl)
  refine vp_callSi (va_runV (As := []) (rest := []) ⟨hx, hb, hml, hown, hts⟩ (c_X4_feasibleScales l dC dI cy d0 o F bc G n hn sc) (cwV 0 hts gL_law_X4_feasibleScales rfl rfl rfl (by decide +kernel) ⟨Nat.le_of_ble_eq_true rfl, Nat.le_of_ble_eq_true rfl⟩) ⟨bl_ro, va_recv hK hPc (ci := 4) (q0 := 0) rfl rfl, pr_ro hPc hE⟩ rfl rfl hl.1 rfl (lv_room (Nat.le_of_ble_eq_true rfl)) dL_law_1261 ⟨by show cells + 0 ≤ 601024; omega, by show slots + 0 ≤ 7293034; omega⟩).run (fun r e_r => ?_)
  clear hKb hPc
  refine lv_aload_n hx hb dL_law_1264 rfl (lv_at hl 3 rfl) ?_
  have hPm : va_P (dC, dI) vwCl (wMdl cy m0 a I R) H := hB _ (List.mem_of_getElem? (i := 3) rfl)
  have hDm : va_D (AL s) (wMdl cy m0 a I R) := hBD.2 _ (List.mem_of_getElem? (i := 3) rfl)
  refine lc_Mi (fun u : Nat → Int32 => u) (fun _ : Nat → Int32 => R) (va_runV (As := []) (rest := [.int r]) ⟨hx, hb, hml, hown, hts⟩ (c_X5_feasibleScales l dC dI cy H.size m0 a I R n hn hS0 hGR) (cwV 0 hts gL_law_X5_feasibleScales rfl rfl rfl (by decide +kernel) ⟨Nat.le_of_ble_eq_true rfl, Nat.le_of_ble_eq_true rfl⟩) ⟨bl_in, va_recv hK hPm (ci := 5) (q0 := 0) rfl rfl, pr_in hPm hE hDm⟩ rfl rfl hl.1 rfl (lv_room (Nat.le_of_ble_eq_true rfl)) dL_law_1265 ⟨by show cells + 0 ≤ 601024; omega, by show slots + 0 ≤ 7293034; omega⟩) hB hBD hS (fun b9 v H locs hm hB hBD hS => ?_)
  clear hPm hDm
  refine lv_icmp_eq (tgt := 2107) hx hb dL_law_1268 (by decide) (fun _ => ?_) (fun h0 => absurd (e_r.trans (hm.2.trans (fsc_agr hag)).symm) h0)
  refine W.widen (k := cells + 3) (n := slots + 18) (by omega) (by omega) ?_
  exact kk9 _ _ _ _ _ _ _ _ (by rw [hm.1]; exact hR.th _) ⟨hB, hBD, hS⟩ (lv_sub hl [0, 1, 2, 3, 4, 5] rfl)
set_option maxHeartbeats 1000000 in
set_option maxRecDepth 100000 in
/-- call 25 of the script -/
theorem case_25 {p : Program} {l : Launch} {e : Env} {s : State} {m : MethodId} {below : List Frame} {meth : Method} {c : Code} {Q : State → Prop} {b Lx : Nat} {xs : Nat → Int32} {dC : Nat → ClassId} {dI : Nat → Nat → Nat} {cy : Nat → ClassId} (C : LCx p l s m meth c b Lx xs dC dI cy) {κ : KA} {ol od m0 : Nat} {a : Nat → Nat} {j : Nat} (hj : 7 * j + 7 ≤ Lx) (hLx : Lx ≤ 3584) {cells slots : Nat} (hce : cells + 3 ≤ 601024) (hsl : slots + 18 ≤ 7293034) (kk9 : KON p l e s m below meth c Q b dC dI cy κ ol od m0 a j (cells + 3) (slots + 18)) {σ : CS} {I : Nat → Int32} {R : vG} {y : Int64} {yd : UInt64} {H : Heap} {locs : List Loc} {ls : Array Slot} (hR : Rel σ I R) (hLB : LB dC dI cy κ ol od m0 a s σ I R y yd H locs) (hl : lv_has ls 9 (LV κ ol od m0 b j)) : W p l e room_1 s m #[Value.ref b] below meth c H locs cells slots Q (F0 m 1539 ls []) := by
  obtain ⟨hx, hb, hml, hown, hts, hX0, hbl, hE, hXV, hZ, hV, hst⟩ := C
  have hK := hE.1
  obtain ⟨hB, hBD, hS⟩ := hLB
  have hA : ∀ q, s.heap.size ≤ q → AL s q := fun _ h => h
  have hbA : ¬ AL s b := Nat.not_le.mpr hbl
  have hok := hR.ok
  obtain ⟨d0, o, bc, bt, bv, rg, cs, bs, ta, tb, z, bq, rt⟩ := κ
  obtain ⟨⟨F, ⟨G, n, sc⟩, ⟨Gt, nt, sct⟩, x, kk, RG, rn, RS⟩, ⟨Gv, nv9, scv⟩, ⟨C, N, L, fl⟩, M, ⟨Gz, nz, scz⟩, Q9, T⟩ := σ
  have hRc := hR
  obtain ⟨⟨hn, hG, hgs, esc, hS0, hS1, hag⟩, hnt, hx6, hkk, hI5, hrn, hh, hnv, hI6, hsv, hL, hI8, htx, hI9, hnz, hI10, hI11, hI12, hI13, hI14, hnn, hsm⟩ := hRc
  have hGR := okG_agr hag.symm hG
  have hl : lv_has ls 9 [(5, .int (nI (7 * j))), (4, .ref od), (3, .ref ol), (2, .ref m0), (1, .ref d0), (0, .ref b)] := hl
  obtain ⟨-, -, -, -, -, -, -, -, -, hsc9, hdk0, hdk1, -⟩ := id hok
  refine lv_aload_n hx hb dL_law_1539 rfl (lv_at hl 4 rfl) ?_
  have hKb : BP (dC, dI) vwCl [wObj d0 o F, wCfg cy (o 0) bc G (nI n) sc, wCfg cy (o 1) bt Gt (nI nt) sct, wHis cy (o 3) rg x kk cs bs RG rn RS, wCfg cy (o 2) bv Gv (nI nv9) scv, wTxt cy (o 4) ta tb C N (nI L) fl, wSim (o 5) z M, wCfg cy (z 0) bq Gz (nI nz) scz, wArr cy z rt Q9 T] H := gl_P.mp (show va_P (dC, dI) vwCl (glue [wObj d0 o F, wCfg cy (o 0) bc G (nI n) sc, wCfg cy (o 1) bt Gt (nI nt) sct, wHis cy (o 3) rg x kk cs bs RG rn RS, wCfg cy (o 2) bv Gv (nI nv9) scv, wTxt cy (o 4) ta tb C N (nI L) fl, wSim (o 5) z M, wCfg cy (z 0) bq Gz (nI nz) scz, wArr cy z rt Q9 T]) H from hB _ (List.mem_of_getElem? (i := 0) rfl))
  have hPc : va_P (dC, dI) vwCl (wObj d0 o F ++ (wCfg cy (o 0) bc G (nI n) sc)) H := gl_P.mpr (hKb.sub (bs' := [wObj d0 o F, wCfg cy (o 0) bc G (nI n) sc]) [0, 1] rfl)
  refine vp_callSi (va_runV (As := []) (rest := []) ⟨hx, hb, hml, hown, hts⟩ (c_X4_descentLength l dC dI cy d0 o F bc G n hn sc) (cwV 0 hts gL_law_X4_descentLength rfl rfl rfl (by decide +kernel) ⟨Nat.le_of_ble_eq_true rfl, Nat.le_of_ble_eq_true rfl⟩) ⟨bl_ro, va_recv hK hPc (ci := 4) (q0 := 0) rfl rfl, pr_ro hPc hE⟩ rfl rfl hl.1 rfl (lv_room (Nat.le_of_ble_eq_true rfl)) dL_law_1540 ⟨by show cells + 0 ≤ 601024; omega, by show slots + 0 ≤ 7293034; omega⟩).run (fun r e_r => ?_)
  clear hKb hPc
  refine lv_aload_n hx hb dL_law_1543 rfl (lv_at hl 3 rfl) ?_
  have hPm : va_P (dC, dI) vwCl (wMdl cy m0 a I R) H := hB _ (List.mem_of_getElem? (i := 3) rfl)
  have hDm : va_D (AL s) (wMdl cy m0 a I R) := hBD.2 _ (List.mem_of_getElem? (i := 3) rfl)
  refine lc_Mi (fun u : (Nat → Int32) × vG => u.1) (fun u : (Nat → Int32) × vG => u.2) (va_runV (As := []) (rest := [.int r]) ⟨hx, hb, hml, hown, hts⟩ (c_X5_descentLength l dC dI cy H.size m0 a I R n hn hS0 hGR (by rw [hS1]; exact hsc9)) (cwV 0 hts gL_law_X5_descentLength rfl rfl rfl (by decide +kernel) ⟨Nat.le_of_ble_eq_true rfl, Nat.le_of_ble_eq_true rfl⟩) ⟨bl_in, va_recv hK hPm (ci := 5) (q0 := 0) rfl rfl, pr_in hPm hE hDm⟩ rfl rfl hl.1 rfl (lv_room (Nat.le_of_ble_eq_true rfl)) dL_law_1544 ⟨by show cells + 0 ≤ 601024; omega, by show slots + 0 ≤ 7293034; omega⟩) hB hBD hS (fun b9 v H locs hm hB hBD hS => ?_)
  clear hPm hDm
  refine lv_icmp_eq (tgt := 2107) hx hb dL_law_1547 (by decide) (fun _ => ?_) (fun h0 => absurd (e_r.trans (hm.1.trans (by rw [hS1, dlen_agr hag])).symm) h0)
  refine W.widen (k := cells + 3) (n := slots + 18) (by omega) (by omega) ?_
  exact kk9 _ _ _ _ _ _ _ _ (st_dln hR hm.2) ⟨hB, hBD, hS⟩ (lv_sub hl [0, 1, 2, 3, 4, 5] rfl)
set_option maxHeartbeats 1000000 in
set_option maxRecDepth 100000 in
/-- call 36 of the script -/
theorem case_36 {p : Program} {l : Launch} {e : Env} {s : State} {m : MethodId} {below : List Frame} {meth : Method} {c : Code} {Q : State → Prop} {b Lx : Nat} {xs : Nat → Int32} {dC : Nat → ClassId} {dI : Nat → Nat → Nat} {cy : Nat → ClassId} (C : LCx p l s m meth c b Lx xs dC dI cy) {κ : KA} {ol od m0 : Nat} {a : Nat → Nat} {j : Nat} (hj : 7 * j + 7 ≤ Lx) (hLx : Lx ≤ 3584) {cells slots : Nat} (hce : cells + 3 ≤ 601024) (hsl : slots + 18 ≤ 7293034) (kk9 : KON p l e s m below meth c Q b dC dI cy κ ol od m0 a j (cells + 3) (slots + 18)) {σ : CS} {I : Nat → Int32} {R : vG} {y : Int64} {yd : UInt64} {H : Heap} {locs : List Loc} {ls : Array Slot} (hR : Rel σ I R) (hLB : LB dC dI cy κ ol od m0 a s σ I R y yd H locs) (hl : lv_has ls 9 (LV κ ol od m0 b j)) : W p l e room_1 s m #[Value.ref b] below meth c H locs cells slots Q (F0 m 2052 ls []) := by
  obtain ⟨hx, hb, hml, hown, hts, hX0, hbl, hE, hXV, hZ, hV, hst⟩ := C
  have hK := hE.1
  obtain ⟨hB, hBD, hS⟩ := hLB
  have hA : ∀ q, s.heap.size ≤ q → AL s q := fun _ h => h
  have hbA : ¬ AL s b := Nat.not_le.mpr hbl
  have hok := hR.ok
  obtain ⟨d0, o, bc, bt, bv, rg, cs, bs, ta, tb, z, bq, rt⟩ := κ
  obtain ⟨⟨F, ⟨G, n, sc⟩, ⟨Gt, nt, sct⟩, x, kk, RG, rn, RS⟩, ⟨Gv, nv9, scv⟩, ⟨C, N, L, fl⟩, M, ⟨Gz, nz, scz⟩, Q9, T⟩ := σ
  have hRc := hR
  obtain ⟨⟨hn, hG, hgs, esc, hS0, hS1, hag⟩, hnt, hx6, hkk, hI5, hrn, hh, hnv, hI6, hsv, hL, hI8, htx, hI9, hnz, hI10, hI11, hI12, hI13, hI14, hnn, hsm⟩ := hRc
  have hGR := okG_agr hag.symm hG
  have hl : lv_has ls 9 [(5, .int (nI (7 * j))), (4, .ref od), (3, .ref ol), (2, .ref m0), (1, .ref d0), (0, .ref b)] := hl
  refine lv_aload_n hx hb dL_law_2052 rfl (lv_at hl 4 rfl) ?_
  have hB9 : BP (dC, dI) vwCl [wObj d0 o F, wCfg cy (o 0) bc G (nI n) sc, wCfg cy (o 1) bt Gt (nI nt) sct, wHis cy (o 3) rg x kk cs bs RG rn RS, wCfg cy (o 2) bv Gv (nI nv9) scv, wTxt cy (o 4) ta tb C N (nI L) fl, wSim (o 5) z M, wCfg cy (z 0) bq Gz (nI nz) scz, wArr cy z rt Q9 T, oL cy ol y, oD cy od yd, wMdl cy m0 a I R] H := exp_P.mp hB
  have hD9 : BD (AL s) [wObj d0 o F, wCfg cy (o 0) bc G (nI n) sc, wCfg cy (o 1) bt Gt (nI nt) sct, wHis cy (o 3) rg x kk cs bs RG rn RS, wCfg cy (o 2) bv Gv (nI nv9) scv, wTxt cy (o 4) ta tb C N (nI L) fl, wSim (o 5) z M, wCfg cy (z 0) bq Gz (nI nz) scz, wArr cy z rt Q9 T, oL cy ol y, oD cy od yd, wMdl cy m0 a I R] := exp_D.mp hBD
  have hPc : va_P (dC, dI) vwCl (wObj d0 o F ++ (wCfg cy (o 0) bc G (nI n) sc ++ (wCfg cy (o 2) bv Gv (nI nv9) scv))) H := gl_P.mpr (hB9.sub (bs' := [wObj d0 o F, wCfg cy (o 0) bc G (nI n) sc, wCfg cy (o 2) bv Gv (nI nv9) scv]) [0, 1, 4] rfl)
  have hDc : va_D (AL s) (wObj d0 o F ++ (wCfg cy (o 0) bc G (nI n) sc ++ (wCfg cy (o 2) bv Gv (nI nv9) scv))) := gl_D.mpr (hD9.sub (bs' := [wObj d0 o F, wCfg cy (o 0) bc G (nI n) sc, wCfg cy (o 2) bv Gv (nI nv9) scv]) [0, 1, 4] (by decide) rfl)
  have hFc : ∀ q, va_A (wObj d0 o F ++ (wCfg cy (o 0) bc G (nI n) sc ++ (wCfg cy (o 2) bv Gv (nI nv9) scv))) H.size q → AL s q := BF (cb := [wObj d0 o F, wCfg cy (o 0) bc G (nI n) sc, wCfg cy (o 2) bv Gv (nI nv9) scv]) hD9 hS hA [0, 1, 4] rfl
  refine va_callv (va_runV (As := []) (rest := []) ⟨hx, hb, hml, hown, hts⟩ (c_X4_save l dC dI cy H.size d0 o F bc G n hn sc bv Gv nv9 hnv scv) (cwV 0 hts gL_law_X4_save rfl rfl rfl (by decide +kernel) ⟨Nat.le_of_ble_eq_true rfl, Nat.le_of_ble_eq_true rfl⟩) ⟨bl_in, va_recv hK hPc (ci := 4) (q0 := 0) rfl rfl, pr_in hPc hE hDc⟩ rfl rfl hl.1 rfl (lv_room (Nat.le_of_ble_eq_true rfl)) dL_law_2053 ⟨by show cells + 0 ≤ 601024; omega, by show slots + 0 ≤ 7293034; omega⟩) hS (fun q _ h => hFc q h) hFc (fun u t H1 locs ht hvm hw hB1 hz1 hk1 hS => ?_)
  obtain ⟨hP1, hD1⟩ := hB1
  rw [ht] at hP1
  obtain ⟨hBn, hDn⟩ := BJ (cb := [wObj d0 o F, wCfg cy (o 0) bc G (nI n) sc, wCfg cy (o 2) bv Gv (nI nv9) scv]) (rb := [wCfg cy (o 1) bt Gt (nI nt) sct, wHis cy (o 3) rg x kk cs bs RG rn RS, wTxt cy (o 4) ta tb C N (nI L) fl, wSim (o 5) z M, wCfg cy (z 0) bq Gz (nI nz) scz, wArr cy z rt Q9 T, oL cy ol y, oD cy od yd, wMdl cy m0 a I R]) (nb := [wObj d0 o (upd F 6 1), wCfg cy (o 0) bc G (nI n) sc, wCfg cy (o 2) bv (cpG Gv G n) (nI n) sc]) hB9 hD9 [0, 1, 4] [2, 3, 5, 6, 7, 8, 9, 10, 11] rfl rfl (by decide) (by decide) hk1 hFc hP1 hD1
  have hB : BP (dC, dI) vwCl [wK cy (d0, o, bc, bt, bv, rg, cs, bs, ta, tb, z, bq, rt) ((upd F 6 1, (G, n, sc), (Gt, nt, sct), (x, kk, RG, rn, RS)), (cpG Gv G n, n, sc), (C, N, L, fl), (M, (Gz, nz, scz), Q9, T)), oL cy ol y, oD cy od yd, wMdl cy m0 a I R] H1 := exp_P.mpr (hBn.sub (bs' := [wObj d0 o (upd F 6 1), wCfg cy (o 0) bc G (nI n) sc, wCfg cy (o 1) bt Gt (nI nt) sct, wHis cy (o 3) rg x kk cs bs RG rn RS, wCfg cy (o 2) bv (cpG Gv G n) (nI n) sc, wTxt cy (o 4) ta tb C N (nI L) fl, wSim (o 5) z M, wCfg cy (z 0) bq Gz (nI nz) scz, wArr cy z rt Q9 T, oL cy ol y, oD cy od yd, wMdl cy m0 a I R]) [9, 10, 0, 1, 11, 2, 3, 4, 5, 6, 7, 8] rfl)
  have hBD : BD (AL s) [wK cy (d0, o, bc, bt, bv, rg, cs, bs, ta, tb, z, bq, rt) ((upd F 6 1, (G, n, sc), (Gt, nt, sct), (x, kk, RG, rn, RS)), (cpG Gv G n, n, sc), (C, N, L, fl), (M, (Gz, nz, scz), Q9, T)), oL cy ol y, oD cy od yd, wMdl cy m0 a I R] := exp_D.mpr (hDn.sub (bs' := [wObj d0 o (upd F 6 1), wCfg cy (o 0) bc G (nI n) sc, wCfg cy (o 1) bt Gt (nI nt) sct, wHis cy (o 3) rg x kk cs bs RG rn RS, wCfg cy (o 2) bv (cpG Gv G n) (nI n) sc, wTxt cy (o 4) ta tb C N (nI L) fl, wSim (o 5) z M, wCfg cy (z 0) bq Gz (nI nz) scz, wArr cy z rt Q9 T, oL cy ol y, oD cy od yd, wMdl cy m0 a I R]) [9, 10, 0, 1, 11, 2, 3, 4, 5, 6, 7, 8] (by decide) rfl)
  clear hz1 hk1 hB9 hD9 hPc hDc hFc hP1 hD1 hBn hDn
  generalize H1 = H at hB hS ⊢
  refine lv_aload_n hx hb dL_law_2056 rfl (lv_at hl 3 rfl) ?_
  have hPm : va_P (dC, dI) vwCl (wMdl cy m0 a I R) H := hB _ (List.mem_of_getElem? (i := 3) rfl)
  have hDm : va_D (AL s) (wMdl cy m0 a I R) := hBD.2 _ (List.mem_of_getElem? (i := 3) rfl)
  refine lc_Mv (fun _ : Unit => upd (upd I 0 0) 6 1) (fun _ : Unit => upr R 3 (cpR (R 1) (R 3) 58)) (va_runV (As := []) (rest := []) ⟨hx, hb, hml, hown, hts⟩ (c_X5_save l dC dI cy H.size m0 a I R ) (cwV 0 hts gL_law_X5_save rfl rfl rfl (by decide +kernel) ⟨Nat.le_of_ble_eq_true rfl, Nat.le_of_ble_eq_true rfl⟩) ⟨bl_in, va_recv hK hPm (ci := 5) (q0 := 0) rfl rfl, pr_in hPm hE hDm⟩ rfl rfl hl.1 rfl (lv_room (Nat.le_of_ble_eq_true rfl)) dL_law_2057 ⟨by show cells + 0 + 0 ≤ 601024; omega, by show slots + 0 + 0 ≤ 7293034; omega⟩) hB hBD hS (fun v H locs hm hB hBD hS => ?_)
  clear hPm hDm
  refine lv_goto (tgt := 2107) hx hb dL_law_2060 (by decide) ?_
  refine W.widen (k := cells + 3) (n := slots + 18) (by omega) (by omega) ?_
  exact kk9 _ _ _ _ _ _ _ _ (st_save hR) ⟨hB, hBD, hS⟩ (lv_sub hl [0, 1, 2, 3, 4, 5] rfl)

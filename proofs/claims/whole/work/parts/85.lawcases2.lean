/-! PART 85: the law: calls through its own methods, on -/
set_option maxHeartbeats 1000000 in
set_option maxRecDepth 100000 in
/-- call 21 of the script -/
theorem case_21 {p : Program} {l : Launch} {e : Env} {s : State} {m : MethodId} {below : List Frame} {meth : Method} {c : Code} {Q : State → Prop} {b Lx : Nat} {xs : Nat → Int32} {dC : Nat → ClassId} {dI : Nat → Nat → Nat} {cy : Nat → ClassId} (C : LCx p l s m meth c b Lx xs dC dI cy) {κ : KA} {ol od m0 : Nat} {a : Nat → Nat} {j : Nat} (hj : 7 * j + 7 ≤ Lx) (hLx : Lx ≤ 3584) {cells slots : Nat} (hce : cells + 3 ≤ 601024) (hsl : slots + 18 ≤ 7293034) (kk9 : KON p l e s m below meth c Q b dC dI cy κ ol od m0 a j (cells + 3) (slots + 18)) {σ : CS} {I : Nat → Int32} {R : vG} {y : Int64} {yd : UInt64} {H : Heap} {locs : List Loc} {ls : Array Slot} (hR : Rel σ I R) (hLB : LB dC dI cy κ ol od m0 a s σ I R y yd H locs) (hl : lv_has ls 9 (LV κ ol od m0 b j)) : W p l e room_1 s m #[Value.ref b] below meth c H locs cells slots Q (F0 m 1273 ls []) := by
  obtain ⟨hx, hb, hml, hown, hts, hX0, hbl, hE, hXV, hZ, hV, hst⟩ := C
  have hK := hE.1
  obtain ⟨hB, hBD, hS⟩ := hLB
  have hA : ∀ q, s.heap.size ≤ q → AL s q := fun _ h => h
  have hbA : ¬ AL s b := Nat.not_le.mpr hbl
  have hok := hR.ok
  obtain ⟨d0, o, bc, bt, bv, rg, cs, bs, ta, tb, z, bq, rt⟩ := κ
  obtain ⟨⟨F, ⟨G, n, sc⟩, ⟨Gt, nt, sct⟩, x, kk, RG, rn, RS⟩, ⟨Gv, nv9, scv⟩, ⟨C, N, L, fl⟩, M, ⟨Gz, nz, scz⟩, Q9, T⟩ := σ
  have hRc := hR
  obtain ⟨⟨hn, hG, hgs, esc, hS0, hS1, hag⟩, hnt, hx6, hkk, hI5, hrn, hh, hnv, hI6, hsv, hL, hI8, htx, hI9, hnz, hI10, hI11, hI12, hI13, hI14, hnn, hsm⟩ := hRc
  have hGR := okG_agr hag.symm hG
  have hl : lv_has ls 9 [(5, .int (nI (7 * j))), (4, .ref od), (3, .ref ol), (2, .ref m0), (1, .ref d0), (0, .ref b)] := hl
  refine lv_aload_n hx hb dL_law_1273 rfl (lv_at hl 4 rfl) ?_
  refine lv_aload_n hx hb dL_law_1274 rfl (lv_at hl 5 rfl) ?_
  refine lv_iload hx hb dL_law_1275 (lv_at hl 0 rfl) ?_
  refine lv_iconst (v := 1) hx hb dL_law_1277 (by decide) ?_
  refine lv_iadd hx hb dL_law_1278 ?_
  refine vn_sld hx hb hX0 hbl hbA hS (7 * j + 1) (nI_add (7 * j) 1) (by omega) (by omega) dL_law_1279 ?_
  refine lv_aload hx hb dL_law_1280 (lv_at hl 1 rfl) ?_
  have hPc : va_P (dC, dI) vwCl (wK cy (d0, o, bc, bt, bv, rg, cs, bs, ta, tb, z, bq, rt) ((F, (G, n, sc), (Gt, nt, sct), (x, kk, RG, rn, RS)), (Gv, nv9, scv), (C, N, L, fl), (M, (Gz, nz, scz), Q9, T)) ++ oD cy od yd) H := gl_P.mpr (hB.sub (bs' := [wK cy (d0, o, bc, bt, bv, rg, cs, bs, ta, tb, z, bq, rt) ((F, (G, n, sc), (Gt, nt, sct), (x, kk, RG, rn, RS)), (Gv, nv9, scv), (C, N, L, fl), (M, (Gz, nz, scz), Q9, T)), oD cy od yd]) [0, 2] rfl)
  have hDc : va_D (AL s) (wK cy (d0, o, bc, bt, bv, rg, cs, bs, ta, tb, z, bq, rt) ((F, (G, n, sc), (Gt, nt, sct), (x, kk, RG, rn, RS)), (Gv, nv9, scv), (C, N, L, fl), (M, (Gz, nz, scz), Q9, T)) ++ oD cy od yd) := gl_D.mpr (hBD.sub (bs' := [wK cy (d0, o, bc, bt, bv, rg, cs, bs, ta, tb, z, bq, rt) ((F, (G, n, sc), (Gt, nt, sct), (x, kk, RG, rn, RS)), (Gv, nv9, scv), (C, N, L, fl), (M, (Gz, nz, scz), Q9, T)), oD cy od yd]) [0, 2] (by decide) rfl)
  have hFc : ∀ q, va_A (wK cy (d0, o, bc, bt, bv, rg, cs, bs, ta, tb, z, bq, rt) ((F, (G, n, sc), (Gt, nt, sct), (x, kk, RG, rn, RS)), (Gv, nv9, scv), (C, N, L, fl), (M, (Gz, nz, scz), Q9, T)) ++ oD cy od yd) H.size q → AL s q := BF (cb := [wK cy (d0, o, bc, bt, bv, rg, cs, bs, ta, tb, z, bq, rt) ((F, (G, n, sc), (Gt, nt, sct), (x, kk, RG, rn, RS)), (Gv, nv9, scv), (C, N, L, fl), (M, (Gz, nz, scz), Q9, T)), oD cy od yd]) hBD hS hA [0, 2] rfl
  refine lc_D (vx_runSW (As := [.ref d0, .int (xs (7 * j + 1)), .ref od]) (rest := []) ⟨hx, hb, hml, hown, hts⟩ (c_L_utilization l hst dC dI cy H.size d0 o bc bt bv rg cs bs ta tb z bq rt F G n sc Gt nt sct x kk RG rn RS Gv nv9 scv C N L fl M Gz nz scz Q9 T hok od yd (xs (7 * j + 1))) (vx_cwSW 3 hts gL_law_L_utilization rfl rfl rfl (by decide +kernel) ⟨Nat.le_of_ble_eq_true rfl, Nat.le_of_ble_eq_true rfl⟩) ⟨bl_L, pr_L hPc hE hDc hXV hZ hS hFc hV⟩ rfl rfl hl.1 rfl (lv_room (Nat.le_of_ble_eq_true rfl)) dL_law_1282 ⟨by show cells + 1 ≤ 601024; omega, by show slots + 6 ≤ 7293034; omega⟩) hB hBD hS (fun k u H locs hk hB hBD hS => ?_)
  clear hPc hDc hFc
  refine lv_istore (lv' := [(6, .int k), (5, .int (nI (7 * j))), (4, .ref od), (3, .ref ol), (2, .ref m0), (1, .ref d0), (0, .ref b)]) hx hb dL_law_1285 hl (by decide) rfl (fun ls hl => ?_)
  refine lv_aload_n hx hb dL_law_1287 rfl (lv_at hl 4 rfl) ?_
  refine lv_aload_n hx hb dL_law_1288 rfl (lv_at hl 6 rfl) ?_
  refine lv_iload hx hb dL_law_1289 (lv_at hl 1 rfl) ?_
  refine lv_iconst (v := 1) hx hb dL_law_1291 (by decide) ?_
  refine lv_iadd hx hb dL_law_1292 ?_
  refine vn_sld hx hb hX0 hbl hbA hS (7 * j + 1) (nI_add (7 * j) 1) (by omega) (by omega) dL_law_1293 ?_
  have hPm : va_P (dC, dI) vwCl (wMdl cy m0 a I R) H := hB _ (List.mem_of_getElem? (i := 3) rfl)
  have hDm : va_D (AL s) (wMdl cy m0 a I R) := hBD.2 _ (List.mem_of_getElem? (i := 3) rfl)
  refine lc_Md (fun u : Nat → Int32 => u) (fun _ : Nat → Int32 => R) (va_runV (As := [.int (xs (7 * j + 1))]) (rest := []) ⟨hx, hb, hml, hown, hts⟩ (c_X5_utilization l dC dI cy H.size m0 a I R n hn hS0 hGR (xs (7 * j + 1))) (cwV 1 hts gL_law_X5_utilization rfl rfl rfl (by decide +kernel) ⟨Nat.le_of_ble_eq_true rfl, Nat.le_of_ble_eq_true rfl⟩) ⟨bl_in, va_recv hK hPm (ci := 5) (q0 := 0) rfl rfl, pr_in hPm hE hDm⟩ rfl rfl hl.1 rfl (lv_room (Nat.le_of_ble_eq_true rfl)) dL_law_1294 ⟨by show cells + 1 + 0 ≤ 601024; omega, by show slots + 6 + 0 ≤ 7293034; omega⟩) hB hBD hS (fun b9 v H locs hm hB hBD hS => ?_)
  clear hPm hDm
  have h9 : k = 0 → pn64 b9 := fun g => by
    rw [hm.2 (hk.2.1.symm.trans g)]; exact utl_pn hGR hn (Nat.le_refl n)
  obtain ⟨t1, t2, t3⟩ := st_rD (z := b9) hR hk hm.1 rfl (fun g => by rw [hm.2 g]; exact (utl_agr hag n (Nat.le_refl n)).symm)
  refine lv_dstore (lv' := [(7, .double b9), (6, .int k), (5, .int (nI (7 * j))), (4, .ref od), (3, .ref ol), (2, .ref m0), (1, .ref d0), (0, .ref b)]) hx hb dL_law_1297 hl (by decide) rfl (fun ls hl => ?_)
  refine lv_aload_n hx hb dL_law_1299 rfl (lv_at hl 5 rfl) ?_
  have hPm : va_P (dC, dI) vwCl (wMdl cy m0 a v (R)) H := hB _ (List.mem_of_getElem? (i := 3) rfl)
  refine vp_callSi (va_runV (As := []) (rest := []) ⟨hx, hb, hml, hown, hts⟩ (c_X5_thrown l dC dI cy m0 a (v) (R)) (cwV 0 hts gL_law_X5_thrown rfl rfl rfl (by decide +kernel) ⟨Nat.le_of_ble_eq_true rfl, Nat.le_of_ble_eq_true rfl⟩) ⟨bl_ro, va_recv hK hPm (ci := 5) (q0 := 0) rfl rfl, pr_ro hPm hE⟩ rfl rfl hl.1 rfl (lv_room (Nat.le_of_ble_eq_true rfl)) dL_law_1300 ⟨by show cells + 1 + 0 + 0 ≤ 601024; omega, by show slots + 6 + 0 + 0 ≤ 7293034; omega⟩).run (fun r e_r => ?_)
  subst e_r
  refine lv_iload hx hb dL_law_1303 (lv_at hl 1 rfl) ?_
  refine lv_icmp_eq (tgt := 1310) hx hb dL_law_1305 (by decide) (fun _ => ?_) (fun h0 => absurd t1 h0)
  refine lv_iload hx hb dL_law_1310 (lv_at hl 1 rfl) ?_
  refine lv_if_ne (tgt := 1347) hx hb dL_law_1312 (by decide) (fun g0 => ?_) (fun g0 => ?_)
  · skip
    refine lv_goto (tgt := 2107) hx hb dL_law_1347 (by decide) ?_
    refine W.widen (k := cells + 3) (n := slots + 18) (by omega) (by omega) ?_
    exact kk9 _ _ _ _ _ _ _ _ t3 ⟨hB, hBD, hS⟩ (lv_sub hl [2, 3, 4, 5, 6, 7] rfl)
  have hPo : va_P (dC, dI) vwCl (oD cy od u.2) H := hB _ (List.mem_of_getElem? (i := 2) rfl)
  refine lv_aload hx hb dL_law_1315 (lv_at hl 3 rfl) ?_
  refine lv_iconst (v := 0) hx hb dL_law_1317 (by decide) ?_
  refine va_dald hx hb hK hPo 0 4 rfl rfl (i := 0) (by unfold vp_in; decide) dL_law_1318 ?_
  refine lv_dload hx hb dL_law_1319 (lv_at hl 0 rfl) ?_
  refine lv_dcmp hx hb dL_law_1321 ?_
  refine lv_if_eq (tgt := 1347) hx hb dL_law_1322 (by decide) (fun _ => ?_) (fun h0 => absurd (by show Op.cmpValue (FP.dcmp u.2 b9) .l = 0; rw [t2 g0]; exact dc_self (pn64_fin (h9 g0))) h0)
  refine lv_goto (tgt := 2107) hx hb dL_law_1347 (by decide) ?_
  refine W.widen (k := cells + 3) (n := slots + 18) (by omega) (by omega) ?_
  exact kk9 _ _ _ _ _ _ _ _ t3 ⟨hB, hBD, hS⟩ (lv_sub hl [2, 3, 4, 5, 6, 7] rfl)
set_option maxHeartbeats 1000000 in
set_option maxRecDepth 100000 in
/-- call 22 of the script -/
theorem case_22 {p : Program} {l : Launch} {e : Env} {s : State} {m : MethodId} {below : List Frame} {meth : Method} {c : Code} {Q : State → Prop} {b Lx : Nat} {xs : Nat → Int32} {dC : Nat → ClassId} {dI : Nat → Nat → Nat} {cy : Nat → ClassId} (C : LCx p l s m meth c b Lx xs dC dI cy) {κ : KA} {ol od m0 : Nat} {a : Nat → Nat} {j : Nat} (hj : 7 * j + 7 ≤ Lx) (hLx : Lx ≤ 3584) {cells slots : Nat} (hce : cells + 3 ≤ 601024) (hsl : slots + 18 ≤ 7293034) (kk9 : KON p l e s m below meth c Q b dC dI cy κ ol od m0 a j (cells + 3) (slots + 18)) {σ : CS} {I : Nat → Int32} {R : vG} {y : Int64} {yd : UInt64} {H : Heap} {locs : List Loc} {ls : Array Slot} (hR : Rel σ I R) (hLB : LB dC dI cy κ ol od m0 a s σ I R y yd H locs) (hl : lv_has ls 9 (LV κ ol od m0 b j)) : W p l e room_1 s m #[Value.ref b] below meth c H locs cells slots Q (F0 m 1350 ls []) := by
  obtain ⟨hx, hb, hml, hown, hts, hX0, hbl, hE, hXV, hZ, hV, hst⟩ := C
  have hK := hE.1
  obtain ⟨hB, hBD, hS⟩ := hLB
  have hA : ∀ q, s.heap.size ≤ q → AL s q := fun _ h => h
  have hbA : ¬ AL s b := Nat.not_le.mpr hbl
  have hok := hR.ok
  obtain ⟨d0, o, bc, bt, bv, rg, cs, bs, ta, tb, z, bq, rt⟩ := κ
  obtain ⟨⟨F, ⟨G, n, sc⟩, ⟨Gt, nt, sct⟩, x, kk, RG, rn, RS⟩, ⟨Gv, nv9, scv⟩, ⟨C, N, L, fl⟩, M, ⟨Gz, nz, scz⟩, Q9, T⟩ := σ
  have hRc := hR
  obtain ⟨⟨hn, hG, hgs, esc, hS0, hS1, hag⟩, hnt, hx6, hkk, hI5, hrn, hh, hnv, hI6, hsv, hL, hI8, htx, hI9, hnz, hI10, hI11, hI12, hI13, hI14, hnn, hsm⟩ := hRc
  have hGR := okG_agr hag.symm hG
  have hl : lv_has ls 9 [(5, .int (nI (7 * j))), (4, .ref od), (3, .ref ol), (2, .ref m0), (1, .ref d0), (0, .ref b)] := hl
  refine lv_aload_n hx hb dL_law_1350 rfl (lv_at hl 4 rfl) ?_
  refine lv_aload_n hx hb dL_law_1351 rfl (lv_at hl 5 rfl) ?_
  refine lv_iload hx hb dL_law_1352 (lv_at hl 0 rfl) ?_
  refine lv_iconst (v := 1) hx hb dL_law_1354 (by decide) ?_
  refine lv_iadd hx hb dL_law_1355 ?_
  refine vn_sld hx hb hX0 hbl hbA hS (7 * j + 1) (nI_add (7 * j) 1) (by omega) (by omega) dL_law_1356 ?_
  refine lv_aload_n hx hb dL_law_1357 rfl (lv_at hl 2 rfl) ?_
  have hPc : va_P (dC, dI) vwCl (wK cy (d0, o, bc, bt, bv, rg, cs, bs, ta, tb, z, bq, rt) ((F, (G, n, sc), (Gt, nt, sct), (x, kk, RG, rn, RS)), (Gv, nv9, scv), (C, N, L, fl), (M, (Gz, nz, scz), Q9, T)) ++ oL cy ol y) H := gl_P.mpr (hB.sub (bs' := [wK cy (d0, o, bc, bt, bv, rg, cs, bs, ta, tb, z, bq, rt) ((F, (G, n, sc), (Gt, nt, sct), (x, kk, RG, rn, RS)), (Gv, nv9, scv), (C, N, L, fl), (M, (Gz, nz, scz), Q9, T)), oL cy ol y]) [0, 1] rfl)
  have hDc : va_D (AL s) (wK cy (d0, o, bc, bt, bv, rg, cs, bs, ta, tb, z, bq, rt) ((F, (G, n, sc), (Gt, nt, sct), (x, kk, RG, rn, RS)), (Gv, nv9, scv), (C, N, L, fl), (M, (Gz, nz, scz), Q9, T)) ++ oL cy ol y) := gl_D.mpr (hBD.sub (bs' := [wK cy (d0, o, bc, bt, bv, rg, cs, bs, ta, tb, z, bq, rt) ((F, (G, n, sc), (Gt, nt, sct), (x, kk, RG, rn, RS)), (Gv, nv9, scv), (C, N, L, fl), (M, (Gz, nz, scz), Q9, T)), oL cy ol y]) [0, 1] (by decide) rfl)
  have hFc : ∀ q, va_A (wK cy (d0, o, bc, bt, bv, rg, cs, bs, ta, tb, z, bq, rt) ((F, (G, n, sc), (Gt, nt, sct), (x, kk, RG, rn, RS)), (Gv, nv9, scv), (C, N, L, fl), (M, (Gz, nz, scz), Q9, T)) ++ oL cy ol y) H.size q → AL s q := BF (cb := [wK cy (d0, o, bc, bt, bv, rg, cs, bs, ta, tb, z, bq, rt) ((F, (G, n, sc), (Gt, nt, sct), (x, kk, RG, rn, RS)), (Gv, nv9, scv), (C, N, L, fl), (M, (Gz, nz, scz), Q9, T)), oL cy ol y]) hBD hS hA [0, 1] rfl
  refine lc_L (vx_runSW (As := [.ref d0, .int (xs (7 * j + 1)), .ref ol]) (rest := []) ⟨hx, hb, hml, hown, hts⟩ (c_L_utilizationBits l hst dC dI cy H.size d0 o bc bt bv rg cs bs ta tb z bq rt F G n sc Gt nt sct x kk RG rn RS Gv nv9 scv C N L fl M Gz nz scz Q9 T hok ol y (xs (7 * j + 1))) (vx_cwSW 3 hts gL_law_L_utilizationBits rfl rfl rfl (by decide +kernel) ⟨Nat.le_of_ble_eq_true rfl, Nat.le_of_ble_eq_true rfl⟩) ⟨bl_L, pr_L hPc hE hDc hXV hZ hS hFc hV⟩ rfl rfl hl.1 rfl (lv_room (Nat.le_of_ble_eq_true rfl)) dL_law_1358 ⟨by show cells + 1 ≤ 601024; omega, by show slots + 6 ≤ 7293034; omega⟩) hB hBD hS (fun k u H locs hk hB hBD hS => ?_)
  clear hPc hDc hFc
  refine lv_istore (lv' := [(6, .int k), (5, .int (nI (7 * j))), (4, .ref od), (3, .ref ol), (2, .ref m0), (1, .ref d0), (0, .ref b)]) hx hb dL_law_1361 hl (by decide) rfl (fun ls hl => ?_)
  refine lv_aload_n hx hb dL_law_1363 rfl (lv_at hl 4 rfl) ?_
  refine lv_aload_n hx hb dL_law_1364 rfl (lv_at hl 6 rfl) ?_
  refine lv_iload hx hb dL_law_1365 (lv_at hl 1 rfl) ?_
  refine lv_iconst (v := 1) hx hb dL_law_1367 (by decide) ?_
  refine lv_iadd hx hb dL_law_1368 ?_
  refine vn_sld hx hb hX0 hbl hbA hS (7 * j + 1) (nI_add (7 * j) 1) (by omega) (by omega) dL_law_1369 ?_
  have hPm : va_P (dC, dI) vwCl (wMdl cy m0 a I R) H := hB _ (List.mem_of_getElem? (i := 3) rfl)
  have hDm : va_D (AL s) (wMdl cy m0 a I R) := hBD.2 _ (List.mem_of_getElem? (i := 3) rfl)
  refine lc_Ml (fun u : Nat → Int32 => u) (fun _ : Nat → Int32 => R) (va_runV (As := [.int (xs (7 * j + 1))]) (rest := []) ⟨hx, hb, hml, hown, hts⟩ (c_X5_utilizationBits l dC dI cy H.size m0 a I R n hn hS0 hGR (xs (7 * j + 1))) (cwV 1 hts gL_law_X5_utilizationBits rfl rfl rfl (by decide +kernel) ⟨Nat.le_of_ble_eq_true rfl, Nat.le_of_ble_eq_true rfl⟩) ⟨bl_in, va_recv hK hPm (ci := 5) (q0 := 0) rfl rfl, pr_in hPm hE hDm⟩ rfl rfl hl.1 rfl (lv_room (Nat.le_of_ble_eq_true rfl)) dL_law_1370 ⟨by show cells + 1 + 0 ≤ 601024; omega, by show slots + 6 + 0 ≤ 7293034; omega⟩) hB hBD hS (fun b9 v H locs hm hB hBD hS => ?_)
  clear hPm hDm
  obtain ⟨t1, t2, t3⟩ := st_rv (z := b9) hR hk hm.1 rfl (fun g => by rw [hm.2 g, utl_agr hag n (Nat.le_refl n)])
  refine lv_lstore (lv' := [(7, .long b9), (6, .int k), (5, .int (nI (7 * j))), (4, .ref od), (3, .ref ol), (2, .ref m0), (1, .ref d0), (0, .ref b)]) hx hb dL_law_1373 hl (by decide) rfl (fun ls hl => ?_)
  refine lv_aload_n hx hb dL_law_1375 rfl (lv_at hl 5 rfl) ?_
  have hPm : va_P (dC, dI) vwCl (wMdl cy m0 a v (R)) H := hB _ (List.mem_of_getElem? (i := 3) rfl)
  refine vp_callSi (va_runV (As := []) (rest := []) ⟨hx, hb, hml, hown, hts⟩ (c_X5_thrown l dC dI cy m0 a (v) (R)) (cwV 0 hts gL_law_X5_thrown rfl rfl rfl (by decide +kernel) ⟨Nat.le_of_ble_eq_true rfl, Nat.le_of_ble_eq_true rfl⟩) ⟨bl_ro, va_recv hK hPm (ci := 5) (q0 := 0) rfl rfl, pr_ro hPm hE⟩ rfl rfl hl.1 rfl (lv_room (Nat.le_of_ble_eq_true rfl)) dL_law_1376 ⟨by show cells + 1 + 0 + 0 ≤ 601024; omega, by show slots + 6 + 0 + 0 ≤ 7293034; omega⟩).run (fun r e_r => ?_)
  subst e_r
  refine lv_iload hx hb dL_law_1379 (lv_at hl 1 rfl) ?_
  refine lv_icmp_eq (tgt := 1386) hx hb dL_law_1381 (by decide) (fun _ => ?_) (fun h0 => absurd t1 h0)
  refine lv_iload hx hb dL_law_1386 (lv_at hl 1 rfl) ?_
  refine lv_if_ne (tgt := 1402) hx hb dL_law_1388 (by decide) (fun g0 => ?_) (fun g0 => ?_)
  · skip
    refine lv_goto (tgt := 2107) hx hb dL_law_1402 (by decide) ?_
    refine W.widen (k := cells + 3) (n := slots + 18) (by omega) (by omega) ?_
    exact kk9 _ _ _ _ _ _ _ _ t3 ⟨hB, hBD, hS⟩ (lv_sub hl [2, 3, 4, 5, 6, 7] rfl)
  have hPo : va_P (dC, dI) vwCl (oL cy ol u.2) H := hB _ (List.mem_of_getElem? (i := 1) rfl)
  refine lv_aload_n hx hb dL_law_1391 rfl (lv_at hl 4 rfl) ?_
  refine lv_iconst (v := 0) hx hb dL_law_1392 (by decide) ?_
  refine va_lald hx hb hK hPo 0 3 rfl rfl (i := 0) (by unfold vp_in; decide) dL_law_1393 ?_
  refine lv_lload hx hb dL_law_1394 (lv_at hl 0 rfl) ?_
  refine W.lcmp hx hb dL_law_1396 ?_
  refine lv_if_eq (tgt := 1402) hx hb dL_law_1397 (by decide) (fun _ => ?_) (fun h0 => absurd (by show lg_cmp u.2 b9 = 0; rw [t2 g0]; exact lcmp_self _) h0)
  refine lv_goto (tgt := 2107) hx hb dL_law_1402 (by decide) ?_
  refine W.widen (k := cells + 3) (n := slots + 18) (by omega) (by omega) ?_
  exact kk9 _ _ _ _ _ _ _ _ t3 ⟨hB, hBD, hS⟩ (lv_sub hl [2, 3, 4, 5, 6, 7] rfl)
set_option maxHeartbeats 1000000 in
set_option maxRecDepth 100000 in
/-- call 23 of the script -/
theorem case_23 {p : Program} {l : Launch} {e : Env} {s : State} {m : MethodId} {below : List Frame} {meth : Method} {c : Code} {Q : State → Prop} {b Lx : Nat} {xs : Nat → Int32} {dC : Nat → ClassId} {dI : Nat → Nat → Nat} {cy : Nat → ClassId} (C : LCx p l s m meth c b Lx xs dC dI cy) {κ : KA} {ol od m0 : Nat} {a : Nat → Nat} {j : Nat} (hj : 7 * j + 7 ≤ Lx) (hLx : Lx ≤ 3584) {cells slots : Nat} (hce : cells + 3 ≤ 601024) (hsl : slots + 18 ≤ 7293034) (kk9 : KON p l e s m below meth c Q b dC dI cy κ ol od m0 a j (cells + 3) (slots + 18)) {σ : CS} {I : Nat → Int32} {R : vG} {y : Int64} {yd : UInt64} {H : Heap} {locs : List Loc} {ls : Array Slot} (hR : Rel σ I R) (hLB : LB dC dI cy κ ol od m0 a s σ I R y yd H locs) (hl : lv_has ls 9 (LV κ ol od m0 b j)) : W p l e room_1 s m #[Value.ref b] below meth c H locs cells slots Q (F0 m 1405 ls []) := by
  obtain ⟨hx, hb, hml, hown, hts, hX0, hbl, hE, hXV, hZ, hV, hst⟩ := C
  have hK := hE.1
  obtain ⟨hB, hBD, hS⟩ := hLB
  have hA : ∀ q, s.heap.size ≤ q → AL s q := fun _ h => h
  have hbA : ¬ AL s b := Nat.not_le.mpr hbl
  have hok := hR.ok
  obtain ⟨d0, o, bc, bt, bv, rg, cs, bs, ta, tb, z, bq, rt⟩ := κ
  obtain ⟨⟨F, ⟨G, n, sc⟩, ⟨Gt, nt, sct⟩, x, kk, RG, rn, RS⟩, ⟨Gv, nv9, scv⟩, ⟨C, N, L, fl⟩, M, ⟨Gz, nz, scz⟩, Q9, T⟩ := σ
  have hRc := hR
  obtain ⟨⟨hn, hG, hgs, esc, hS0, hS1, hag⟩, hnt, hx6, hkk, hI5, hrn, hh, hnv, hI6, hsv, hL, hI8, htx, hI9, hnz, hI10, hI11, hI12, hI13, hI14, hnn, hsm⟩ := hRc
  have hGR := okG_agr hag.symm hG
  have hl : lv_has ls 9 [(5, .int (nI (7 * j))), (4, .ref od), (3, .ref ol), (2, .ref m0), (1, .ref d0), (0, .ref b)] := hl
  obtain ⟨-, -, -, -, -, -, -, -, -, hsc9, hdk0, hdk1, -⟩ := id hok
  refine lv_aload_n hx hb dL_law_1405 rfl (lv_at hl 4 rfl) ?_
  refine lv_aload_n hx hb dL_law_1406 rfl (lv_at hl 5 rfl) ?_
  refine lv_iload hx hb dL_law_1407 (lv_at hl 0 rfl) ?_
  refine lv_iconst (v := 1) hx hb dL_law_1409 (by decide) ?_
  refine lv_iadd hx hb dL_law_1410 ?_
  refine vn_sld hx hb hX0 hbl hbA hS (7 * j + 1) (nI_add (7 * j) 1) (by omega) (by omega) dL_law_1411 ?_
  refine lv_aload hx hb dL_law_1412 (lv_at hl 1 rfl) ?_
  have hPc : va_P (dC, dI) vwCl (wK cy (d0, o, bc, bt, bv, rg, cs, bs, ta, tb, z, bq, rt) ((F, (G, n, sc), (Gt, nt, sct), (x, kk, RG, rn, RS)), (Gv, nv9, scv), (C, N, L, fl), (M, (Gz, nz, scz), Q9, T)) ++ oD cy od yd) H := gl_P.mpr (hB.sub (bs' := [wK cy (d0, o, bc, bt, bv, rg, cs, bs, ta, tb, z, bq, rt) ((F, (G, n, sc), (Gt, nt, sct), (x, kk, RG, rn, RS)), (Gv, nv9, scv), (C, N, L, fl), (M, (Gz, nz, scz), Q9, T)), oD cy od yd]) [0, 2] rfl)
  have hDc : va_D (AL s) (wK cy (d0, o, bc, bt, bv, rg, cs, bs, ta, tb, z, bq, rt) ((F, (G, n, sc), (Gt, nt, sct), (x, kk, RG, rn, RS)), (Gv, nv9, scv), (C, N, L, fl), (M, (Gz, nz, scz), Q9, T)) ++ oD cy od yd) := gl_D.mpr (hBD.sub (bs' := [wK cy (d0, o, bc, bt, bv, rg, cs, bs, ta, tb, z, bq, rt) ((F, (G, n, sc), (Gt, nt, sct), (x, kk, RG, rn, RS)), (Gv, nv9, scv), (C, N, L, fl), (M, (Gz, nz, scz), Q9, T)), oD cy od yd]) [0, 2] (by decide) rfl)
  have hFc : ∀ q, va_A (wK cy (d0, o, bc, bt, bv, rg, cs, bs, ta, tb, z, bq, rt) ((F, (G, n, sc), (Gt, nt, sct), (x, kk, RG, rn, RS)), (Gv, nv9, scv), (C, N, L, fl), (M, (Gz, nz, scz), Q9, T)) ++ oD cy od yd) H.size q → AL s q := BF (cb := [wK cy (d0, o, bc, bt, bv, rg, cs, bs, ta, tb, z, bq, rt) ((F, (G, n, sc), (Gt, nt, sct), (x, kk, RG, rn, RS)), (Gv, nv9, scv), (C, N, L, fl), (M, (Gz, nz, scz), Q9, T)), oD cy od yd]) hBD hS hA [0, 2] rfl
  refine lc_D (vx_runSW (As := [.ref d0, .int (xs (7 * j + 1)), .ref od]) (rest := []) ⟨hx, hb, hml, hown, hts⟩ (c_L_load l hst dC dI cy H.size d0 o bc bt bv rg cs bs ta tb z bq rt F G n sc Gt nt sct x kk RG rn RS Gv nv9 scv C N L fl M Gz nz scz Q9 T hok od yd (xs (7 * j + 1))) (vx_cwSW 3 hts gL_law_L_load rfl rfl rfl (by decide +kernel) ⟨Nat.le_of_ble_eq_true rfl, Nat.le_of_ble_eq_true rfl⟩) ⟨bl_L, pr_L hPc hE hDc hXV hZ hS hFc hV⟩ rfl rfl hl.1 rfl (lv_room (Nat.le_of_ble_eq_true rfl)) dL_law_1414 ⟨by show cells + 1 ≤ 601024; omega, by show slots + 6 ≤ 7293034; omega⟩) hB hBD hS (fun k u H locs hk hB hBD hS => ?_)
  clear hPc hDc hFc
  refine lv_istore (lv' := [(6, .int k), (5, .int (nI (7 * j))), (4, .ref od), (3, .ref ol), (2, .ref m0), (1, .ref d0), (0, .ref b)]) hx hb dL_law_1417 hl (by decide) rfl (fun ls hl => ?_)
  refine lv_aload_n hx hb dL_law_1419 rfl (lv_at hl 4 rfl) ?_
  refine lv_aload_n hx hb dL_law_1420 rfl (lv_at hl 6 rfl) ?_
  refine lv_iload hx hb dL_law_1421 (lv_at hl 1 rfl) ?_
  refine lv_iconst (v := 1) hx hb dL_law_1423 (by decide) ?_
  refine lv_iadd hx hb dL_law_1424 ?_
  refine vn_sld hx hb hX0 hbl hbA hS (7 * j + 1) (nI_add (7 * j) 1) (by omega) (by omega) dL_law_1425 ?_
  have hPm : va_P (dC, dI) vwCl (wMdl cy m0 a I R) H := hB _ (List.mem_of_getElem? (i := 3) rfl)
  have hDm : va_D (AL s) (wMdl cy m0 a I R) := hBD.2 _ (List.mem_of_getElem? (i := 3) rfl)
  refine lc_Mf (fun u : Nat → Int32 => u) (fun _ : Nat → Int32 => R) (va_runV (As := [.int (xs (7 * j + 1))]) (rest := []) ⟨hx, hb, hml, hown, hts⟩ (c_X5_load l dC dI cy H.size m0 a I R n hn hS0 hGR (by rw [hS1]; exact dok_agr hag.symm hdk0) (by rw [hS1]; exact dok_agr hag.symm hdk1) (xs (7 * j + 1))) (cwV 1 hts gL_law_X5_load rfl rfl rfl (by decide +kernel) ⟨Nat.le_of_ble_eq_true rfl, Nat.le_of_ble_eq_true rfl⟩) ⟨bl_in, va_recv hK hPm (ci := 5) (q0 := 0) rfl rfl, pr_in hPm hE hDm⟩ rfl rfl hl.1 rfl (lv_room (Nat.le_of_ble_eq_true rfl)) dL_law_1426 ⟨by show cells + 1 + 0 ≤ 601024; omega, by show slots + 6 + 0 ≤ 7293034; omega⟩) hB hBD hS (fun b9 v H locs hm hB hBD hS => ?_)
  clear hPm hDm
  have h9 : k = 0 → pn32 b9 := fun g => by
    have g2 := hk.2.1.symm.trans g
    rw [hm.2 g2, lod_agr hag, hS1]; exact lod_pn (dok_m hdk0 hdk1 g2)
  obtain ⟨t1, t2, t3⟩ := st_rD (z := FP.f2d b9) hR hk hm.1 rfl (fun g => by rw [hm.2 g, lod_agr hag, hS1])
  refine lv_fstore (lv' := [(7, .float b9), (6, .int k), (5, .int (nI (7 * j))), (4, .ref od), (3, .ref ol), (2, .ref m0), (1, .ref d0), (0, .ref b)]) hx hb dL_law_1429 hl (by decide) rfl (fun ls hl => ?_)
  refine lv_aload_n hx hb dL_law_1431 rfl (lv_at hl 5 rfl) ?_
  have hPm : va_P (dC, dI) vwCl (wMdl cy m0 a v (R)) H := hB _ (List.mem_of_getElem? (i := 3) rfl)
  refine vp_callSi (va_runV (As := []) (rest := []) ⟨hx, hb, hml, hown, hts⟩ (c_X5_thrown l dC dI cy m0 a (v) (R)) (cwV 0 hts gL_law_X5_thrown rfl rfl rfl (by decide +kernel) ⟨Nat.le_of_ble_eq_true rfl, Nat.le_of_ble_eq_true rfl⟩) ⟨bl_ro, va_recv hK hPm (ci := 5) (q0 := 0) rfl rfl, pr_ro hPm hE⟩ rfl rfl hl.1 rfl (lv_room (Nat.le_of_ble_eq_true rfl)) dL_law_1432 ⟨by show cells + 1 + 0 + 0 ≤ 601024; omega, by show slots + 6 + 0 + 0 ≤ 7293034; omega⟩).run (fun r e_r => ?_)
  subst e_r
  refine lv_iload hx hb dL_law_1435 (lv_at hl 1 rfl) ?_
  refine lv_icmp_eq (tgt := 1442) hx hb dL_law_1437 (by decide) (fun _ => ?_) (fun h0 => absurd t1 h0)
  refine lv_iload hx hb dL_law_1442 (lv_at hl 1 rfl) ?_
  refine lv_if_ne (tgt := 1480) hx hb dL_law_1444 (by decide) (fun g0 => ?_) (fun g0 => ?_)
  · skip
    refine lv_goto (tgt := 2107) hx hb dL_law_1480 (by decide) ?_
    refine W.widen (k := cells + 3) (n := slots + 18) (by omega) (by omega) ?_
    exact kk9 _ _ _ _ _ _ _ _ t3 ⟨hB, hBD, hS⟩ (lv_sub hl [2, 3, 4, 5, 6, 7] rfl)
  have hPo : va_P (dC, dI) vwCl (oD cy od u.2) H := hB _ (List.mem_of_getElem? (i := 2) rfl)
  refine lv_aload hx hb dL_law_1447 (lv_at hl 3 rfl) ?_
  refine lv_iconst (v := 0) hx hb dL_law_1449 (by decide) ?_
  refine va_dald hx hb hK hPo 0 4 rfl rfl (i := 0) (by unfold vp_in; decide) dL_law_1450 ?_
  refine lv_fload hx hb dL_law_1451 (lv_at hl 0 rfl) ?_
  refine lv_f2d hx hb dL_law_1453 (f2d_n (h9 g0)) ?_
  refine lv_dcmp hx hb dL_law_1454 ?_
  refine lv_if_eq (tgt := 1480) hx hb dL_law_1455 (by decide) (fun _ => ?_) (fun h0 => absurd (by show Op.cmpValue (FP.dcmp u.2 (FP.f2d b9)) .l = 0; rw [t2 g0]; exact dc_self (f2d_fin9 (h9 g0))) h0)
  refine lv_goto (tgt := 2107) hx hb dL_law_1480 (by decide) ?_
  refine W.widen (k := cells + 3) (n := slots + 18) (by omega) (by omega) ?_
  exact kk9 _ _ _ _ _ _ _ _ t3 ⟨hB, hBD, hS⟩ (lv_sub hl [2, 3, 4, 5, 6, 7] rfl)
set_option maxHeartbeats 1000000 in
set_option maxRecDepth 100000 in
/-- call 24 of the script -/
theorem case_24 {p : Program} {l : Launch} {e : Env} {s : State} {m : MethodId} {below : List Frame} {meth : Method} {c : Code} {Q : State → Prop} {b Lx : Nat} {xs : Nat → Int32} {dC : Nat → ClassId} {dI : Nat → Nat → Nat} {cy : Nat → ClassId} (C : LCx p l s m meth c b Lx xs dC dI cy) {κ : KA} {ol od m0 : Nat} {a : Nat → Nat} {j : Nat} (hj : 7 * j + 7 ≤ Lx) (hLx : Lx ≤ 3584) {cells slots : Nat} (hce : cells + 3 ≤ 601024) (hsl : slots + 18 ≤ 7293034) (kk9 : KON p l e s m below meth c Q b dC dI cy κ ol od m0 a j (cells + 3) (slots + 18)) {σ : CS} {I : Nat → Int32} {R : vG} {y : Int64} {yd : UInt64} {H : Heap} {locs : List Loc} {ls : Array Slot} (hR : Rel σ I R) (hLB : LB dC dI cy κ ol od m0 a s σ I R y yd H locs) (hl : lv_has ls 9 (LV κ ol od m0 b j)) : W p l e room_1 s m #[Value.ref b] below meth c H locs cells slots Q (F0 m 1483 ls []) := by
  obtain ⟨hx, hb, hml, hown, hts, hX0, hbl, hE, hXV, hZ, hV, hst⟩ := C
  have hK := hE.1
  obtain ⟨hB, hBD, hS⟩ := hLB
  have hA : ∀ q, s.heap.size ≤ q → AL s q := fun _ h => h
  have hbA : ¬ AL s b := Nat.not_le.mpr hbl
  have hok := hR.ok
  obtain ⟨d0, o, bc, bt, bv, rg, cs, bs, ta, tb, z, bq, rt⟩ := κ
  obtain ⟨⟨F, ⟨G, n, sc⟩, ⟨Gt, nt, sct⟩, x, kk, RG, rn, RS⟩, ⟨Gv, nv9, scv⟩, ⟨C, N, L, fl⟩, M, ⟨Gz, nz, scz⟩, Q9, T⟩ := σ
  have hRc := hR
  obtain ⟨⟨hn, hG, hgs, esc, hS0, hS1, hag⟩, hnt, hx6, hkk, hI5, hrn, hh, hnv, hI6, hsv, hL, hI8, htx, hI9, hnz, hI10, hI11, hI12, hI13, hI14, hnn, hsm⟩ := hRc
  have hGR := okG_agr hag.symm hG
  have hl : lv_has ls 9 [(5, .int (nI (7 * j))), (4, .ref od), (3, .ref ol), (2, .ref m0), (1, .ref d0), (0, .ref b)] := hl
  obtain ⟨-, -, -, -, -, -, -, -, -, hsc9, hdk0, hdk1, -⟩ := id hok
  refine lv_aload_n hx hb dL_law_1483 rfl (lv_at hl 4 rfl) ?_
  refine lv_aload_n hx hb dL_law_1484 rfl (lv_at hl 5 rfl) ?_
  refine lv_iload hx hb dL_law_1485 (lv_at hl 0 rfl) ?_
  refine lv_iconst (v := 1) hx hb dL_law_1487 (by decide) ?_
  refine lv_iadd hx hb dL_law_1488 ?_
  refine vn_sld hx hb hX0 hbl hbA hS (7 * j + 1) (nI_add (7 * j) 1) (by omega) (by omega) dL_law_1489 ?_
  refine lv_aload_n hx hb dL_law_1490 rfl (lv_at hl 2 rfl) ?_
  have hPc : va_P (dC, dI) vwCl (wK cy (d0, o, bc, bt, bv, rg, cs, bs, ta, tb, z, bq, rt) ((F, (G, n, sc), (Gt, nt, sct), (x, kk, RG, rn, RS)), (Gv, nv9, scv), (C, N, L, fl), (M, (Gz, nz, scz), Q9, T)) ++ oL cy ol y) H := gl_P.mpr (hB.sub (bs' := [wK cy (d0, o, bc, bt, bv, rg, cs, bs, ta, tb, z, bq, rt) ((F, (G, n, sc), (Gt, nt, sct), (x, kk, RG, rn, RS)), (Gv, nv9, scv), (C, N, L, fl), (M, (Gz, nz, scz), Q9, T)), oL cy ol y]) [0, 1] rfl)
  have hDc : va_D (AL s) (wK cy (d0, o, bc, bt, bv, rg, cs, bs, ta, tb, z, bq, rt) ((F, (G, n, sc), (Gt, nt, sct), (x, kk, RG, rn, RS)), (Gv, nv9, scv), (C, N, L, fl), (M, (Gz, nz, scz), Q9, T)) ++ oL cy ol y) := gl_D.mpr (hBD.sub (bs' := [wK cy (d0, o, bc, bt, bv, rg, cs, bs, ta, tb, z, bq, rt) ((F, (G, n, sc), (Gt, nt, sct), (x, kk, RG, rn, RS)), (Gv, nv9, scv), (C, N, L, fl), (M, (Gz, nz, scz), Q9, T)), oL cy ol y]) [0, 1] (by decide) rfl)
  have hFc : ∀ q, va_A (wK cy (d0, o, bc, bt, bv, rg, cs, bs, ta, tb, z, bq, rt) ((F, (G, n, sc), (Gt, nt, sct), (x, kk, RG, rn, RS)), (Gv, nv9, scv), (C, N, L, fl), (M, (Gz, nz, scz), Q9, T)) ++ oL cy ol y) H.size q → AL s q := BF (cb := [wK cy (d0, o, bc, bt, bv, rg, cs, bs, ta, tb, z, bq, rt) ((F, (G, n, sc), (Gt, nt, sct), (x, kk, RG, rn, RS)), (Gv, nv9, scv), (C, N, L, fl), (M, (Gz, nz, scz), Q9, T)), oL cy ol y]) hBD hS hA [0, 1] rfl
  refine lc_L (vx_runSW (As := [.ref d0, .int (xs (7 * j + 1)), .ref ol]) (rest := []) ⟨hx, hb, hml, hown, hts⟩ (c_L_loadBits l hst dC dI cy H.size d0 o bc bt bv rg cs bs ta tb z bq rt F G n sc Gt nt sct x kk RG rn RS Gv nv9 scv C N L fl M Gz nz scz Q9 T hok ol y (xs (7 * j + 1))) (vx_cwSW 3 hts gL_law_L_loadBits rfl rfl rfl (by decide +kernel) ⟨Nat.le_of_ble_eq_true rfl, Nat.le_of_ble_eq_true rfl⟩) ⟨bl_L, pr_L hPc hE hDc hXV hZ hS hFc hV⟩ rfl rfl hl.1 rfl (lv_room (Nat.le_of_ble_eq_true rfl)) dL_law_1491 ⟨by show cells + 1 ≤ 601024; omega, by show slots + 6 ≤ 7293034; omega⟩) hB hBD hS (fun k u H locs hk hB hBD hS => ?_)
  clear hPc hDc hFc
  refine lv_istore (lv' := [(6, .int k), (5, .int (nI (7 * j))), (4, .ref od), (3, .ref ol), (2, .ref m0), (1, .ref d0), (0, .ref b)]) hx hb dL_law_1494 hl (by decide) rfl (fun ls hl => ?_)
  refine lv_aload_n hx hb dL_law_1496 rfl (lv_at hl 4 rfl) ?_
  refine lv_aload_n hx hb dL_law_1497 rfl (lv_at hl 6 rfl) ?_
  refine lv_iload hx hb dL_law_1498 (lv_at hl 1 rfl) ?_
  refine lv_iconst (v := 1) hx hb dL_law_1500 (by decide) ?_
  refine lv_iadd hx hb dL_law_1501 ?_
  refine vn_sld hx hb hX0 hbl hbA hS (7 * j + 1) (nI_add (7 * j) 1) (by omega) (by omega) dL_law_1502 ?_
  have hPm : va_P (dC, dI) vwCl (wMdl cy m0 a I R) H := hB _ (List.mem_of_getElem? (i := 3) rfl)
  have hDm : va_D (AL s) (wMdl cy m0 a I R) := hBD.2 _ (List.mem_of_getElem? (i := 3) rfl)
  refine lc_Mi (fun u : Nat → Int32 => u) (fun _ : Nat → Int32 => R) (va_runV (As := [.int (xs (7 * j + 1))]) (rest := []) ⟨hx, hb, hml, hown, hts⟩ (c_X5_loadBits l dC dI cy H.size m0 a I R n hn hS0 hGR (by rw [hS1]; exact dok_agr hag.symm hdk0) (by rw [hS1]; exact dok_agr hag.symm hdk1) (xs (7 * j + 1))) (cwV 1 hts gL_law_X5_loadBits rfl rfl rfl (by decide +kernel) ⟨Nat.le_of_ble_eq_true rfl, Nat.le_of_ble_eq_true rfl⟩) ⟨bl_in, va_recv hK hPm (ci := 5) (q0 := 0) rfl rfl, pr_in hPm hE hDm⟩ rfl rfl hl.1 rfl (lv_room (Nat.le_of_ble_eq_true rfl)) dL_law_1503 ⟨by show cells + 1 + 0 ≤ 601024; omega, by show slots + 6 + 0 ≤ 7293034; omega⟩) hB hBD hS (fun b9 v H locs hm hB hBD hS => ?_)
  clear hPm hDm
  obtain ⟨t1, t2, t3⟩ := st_rv (z := b9.toInt64) hR hk hm.1 rfl (fun g => by rw [hm.2 g]; exact congrArg Int32.toInt64 (by rw [lod_agr hag, hS1]))
  refine lv_istore (lv' := [(7, .int b9), (6, .int k), (5, .int (nI (7 * j))), (4, .ref od), (3, .ref ol), (2, .ref m0), (1, .ref d0), (0, .ref b)]) hx hb dL_law_1506 hl (by decide) rfl (fun ls hl => ?_)
  refine lv_aload_n hx hb dL_law_1508 rfl (lv_at hl 5 rfl) ?_
  have hPm : va_P (dC, dI) vwCl (wMdl cy m0 a v (R)) H := hB _ (List.mem_of_getElem? (i := 3) rfl)
  refine vp_callSi (va_runV (As := []) (rest := []) ⟨hx, hb, hml, hown, hts⟩ (c_X5_thrown l dC dI cy m0 a (v) (R)) (cwV 0 hts gL_law_X5_thrown rfl rfl rfl (by decide +kernel) ⟨Nat.le_of_ble_eq_true rfl, Nat.le_of_ble_eq_true rfl⟩) ⟨bl_ro, va_recv hK hPm (ci := 5) (q0 := 0) rfl rfl, pr_ro hPm hE⟩ rfl rfl hl.1 rfl (lv_room (Nat.le_of_ble_eq_true rfl)) dL_law_1509 ⟨by show cells + 1 + 0 + 0 ≤ 601024; omega, by show slots + 6 + 0 + 0 ≤ 7293034; omega⟩).run (fun r e_r => ?_)
  subst e_r
  refine lv_iload hx hb dL_law_1512 (lv_at hl 1 rfl) ?_
  refine lv_icmp_eq (tgt := 1519) hx hb dL_law_1514 (by decide) (fun _ => ?_) (fun h0 => absurd t1 h0)
  refine lv_iload hx hb dL_law_1519 (lv_at hl 1 rfl) ?_
  refine lv_if_ne (tgt := 1536) hx hb dL_law_1521 (by decide) (fun g0 => ?_) (fun g0 => ?_)
  · skip
    refine lv_goto (tgt := 2107) hx hb dL_law_1536 (by decide) ?_
    refine W.widen (k := cells + 3) (n := slots + 18) (by omega) (by omega) ?_
    exact kk9 _ _ _ _ _ _ _ _ t3 ⟨hB, hBD, hS⟩ (lv_sub hl [2, 3, 4, 5, 6, 7] rfl)
  have hPo : va_P (dC, dI) vwCl (oL cy ol u.2) H := hB _ (List.mem_of_getElem? (i := 1) rfl)
  refine lv_aload_n hx hb dL_law_1524 rfl (lv_at hl 4 rfl) ?_
  refine lv_iconst (v := 0) hx hb dL_law_1525 (by decide) ?_
  refine va_lald hx hb hK hPo 0 3 rfl rfl (i := 0) (by unfold vp_in; decide) dL_law_1526 ?_
  refine lv_iload hx hb dL_law_1527 (lv_at hl 0 rfl) ?_
  refine lv_i2l hx hb dL_law_1529 rfl ?_
  refine W.lcmp hx hb dL_law_1530 ?_
  refine lv_if_eq (tgt := 1536) hx hb dL_law_1531 (by decide) (fun _ => ?_) (fun h0 => absurd (by show lg_cmp u.2 b9.toInt64 = 0; rw [t2 g0]; exact lcmp_self _) h0)
  refine lv_goto (tgt := 2107) hx hb dL_law_1536 (by decide) ?_
  refine W.widen (k := cells + 3) (n := slots + 18) (by omega) (by omega) ?_
  exact kk9 _ _ _ _ _ _ _ _ t3 ⟨hB, hBD, hS⟩ (lv_sub hl [2, 3, 4, 5, 6, 7] rfl)
set_option maxHeartbeats 1000000 in
set_option maxRecDepth 100000 in
/-- call 26 of the script -/
theorem case_26 {p : Program} {l : Launch} {e : Env} {s : State} {m : MethodId} {below : List Frame} {meth : Method} {c : Code} {Q : State → Prop} {b Lx : Nat} {xs : Nat → Int32} {dC : Nat → ClassId} {dI : Nat → Nat → Nat} {cy : Nat → ClassId} (C : LCx p l s m meth c b Lx xs dC dI cy) {κ : KA} {ol od m0 : Nat} {a : Nat → Nat} {j : Nat} (hj : 7 * j + 7 ≤ Lx) (hLx : Lx ≤ 3584) {cells slots : Nat} (hce : cells + 3 ≤ 601024) (hsl : slots + 18 ≤ 7293034) (kk9 : KON p l e s m below meth c Q b dC dI cy κ ol od m0 a j (cells + 3) (slots + 18)) {σ : CS} {I : Nat → Int32} {R : vG} {y : Int64} {yd : UInt64} {H : Heap} {locs : List Loc} {ls : Array Slot} (hR : Rel σ I R) (hLB : LB dC dI cy κ ol od m0 a s σ I R y yd H locs) (hl : lv_has ls 9 (LV κ ol od m0 b j)) : W p l e room_1 s m #[Value.ref b] below meth c H locs cells slots Q (F0 m 1552 ls []) := by
  obtain ⟨hx, hb, hml, hown, hts, hX0, hbl, hE, hXV, hZ, hV, hst⟩ := C
  have hK := hE.1
  obtain ⟨hB, hBD, hS⟩ := hLB
  have hA : ∀ q, s.heap.size ≤ q → AL s q := fun _ h => h
  have hbA : ¬ AL s b := Nat.not_le.mpr hbl
  have hok := hR.ok
  obtain ⟨d0, o, bc, bt, bv, rg, cs, bs, ta, tb, z, bq, rt⟩ := κ
  obtain ⟨⟨F, ⟨G, n, sc⟩, ⟨Gt, nt, sct⟩, x, kk, RG, rn, RS⟩, ⟨Gv, nv9, scv⟩, ⟨C, N, L, fl⟩, M, ⟨Gz, nz, scz⟩, Q9, T⟩ := σ
  have hRc := hR
  obtain ⟨⟨hn, hG, hgs, esc, hS0, hS1, hag⟩, hnt, hx6, hkk, hI5, hrn, hh, hnv, hI6, hsv, hL, hI8, htx, hI9, hnz, hI10, hI11, hI12, hI13, hI14, hnn, hsm⟩ := hRc
  have hGR := okG_agr hag.symm hG
  have hl : lv_has ls 9 [(5, .int (nI (7 * j))), (4, .ref od), (3, .ref ol), (2, .ref m0), (1, .ref d0), (0, .ref b)] := hl
  obtain ⟨-, -, -, -, -, -, -, -, -, hsc9, hdk0, hdk1, -⟩ := id hok
  refine lv_aload_n hx hb dL_law_1552 rfl (lv_at hl 4 rfl) ?_
  refine lv_aload_n hx hb dL_law_1553 rfl (lv_at hl 5 rfl) ?_
  refine lv_iload hx hb dL_law_1554 (lv_at hl 0 rfl) ?_
  refine lv_iconst (v := 1) hx hb dL_law_1556 (by decide) ?_
  refine lv_iadd hx hb dL_law_1557 ?_
  refine vn_sld hx hb hX0 hbl hbA hS (7 * j + 1) (nI_add (7 * j) 1) (by omega) (by omega) dL_law_1558 ?_
  refine lv_aload_n hx hb dL_law_1559 rfl (lv_at hl 2 rfl) ?_
  have hPc : va_P (dC, dI) vwCl (wK cy (d0, o, bc, bt, bv, rg, cs, bs, ta, tb, z, bq, rt) ((F, (G, n, sc), (Gt, nt, sct), (x, kk, RG, rn, RS)), (Gv, nv9, scv), (C, N, L, fl), (M, (Gz, nz, scz), Q9, T)) ++ oL cy ol y) H := gl_P.mpr (hB.sub (bs' := [wK cy (d0, o, bc, bt, bv, rg, cs, bs, ta, tb, z, bq, rt) ((F, (G, n, sc), (Gt, nt, sct), (x, kk, RG, rn, RS)), (Gv, nv9, scv), (C, N, L, fl), (M, (Gz, nz, scz), Q9, T)), oL cy ol y]) [0, 1] rfl)
  have hDc : va_D (AL s) (wK cy (d0, o, bc, bt, bv, rg, cs, bs, ta, tb, z, bq, rt) ((F, (G, n, sc), (Gt, nt, sct), (x, kk, RG, rn, RS)), (Gv, nv9, scv), (C, N, L, fl), (M, (Gz, nz, scz), Q9, T)) ++ oL cy ol y) := gl_D.mpr (hBD.sub (bs' := [wK cy (d0, o, bc, bt, bv, rg, cs, bs, ta, tb, z, bq, rt) ((F, (G, n, sc), (Gt, nt, sct), (x, kk, RG, rn, RS)), (Gv, nv9, scv), (C, N, L, fl), (M, (Gz, nz, scz), Q9, T)), oL cy ol y]) [0, 1] (by decide) rfl)
  have hFc : ∀ q, va_A (wK cy (d0, o, bc, bt, bv, rg, cs, bs, ta, tb, z, bq, rt) ((F, (G, n, sc), (Gt, nt, sct), (x, kk, RG, rn, RS)), (Gv, nv9, scv), (C, N, L, fl), (M, (Gz, nz, scz), Q9, T)) ++ oL cy ol y) H.size q → AL s q := BF (cb := [wK cy (d0, o, bc, bt, bv, rg, cs, bs, ta, tb, z, bq, rt) ((F, (G, n, sc), (Gt, nt, sct), (x, kk, RG, rn, RS)), (Gv, nv9, scv), (C, N, L, fl), (M, (Gz, nz, scz), Q9, T)), oL cy ol y]) hBD hS hA [0, 1] rfl
  refine lc_L (vx_runSW (As := [.ref d0, .int (xs (7 * j + 1)), .ref ol]) (rest := []) ⟨hx, hb, hml, hown, hts⟩ (c_L_descentPoint l hst dC dI cy H.size d0 o bc bt bv rg cs bs ta tb z bq rt F G n sc Gt nt sct x kk RG rn RS Gv nv9 scv C N L fl M Gz nz scz Q9 T hok ol y (xs (7 * j + 1))) (vx_cwSW 3 hts gL_law_L_descentPoint rfl rfl rfl (by decide +kernel) ⟨Nat.le_of_ble_eq_true rfl, Nat.le_of_ble_eq_true rfl⟩) ⟨bl_L, pr_L hPc hE hDc hXV hZ hS hFc hV⟩ rfl rfl hl.1 rfl (lv_room (Nat.le_of_ble_eq_true rfl)) dL_law_1560 ⟨by show cells + 1 ≤ 601024; omega, by show slots + 6 ≤ 7293034; omega⟩) hB hBD hS (fun k u H locs hk hB hBD hS => ?_)
  clear hPc hDc hFc
  refine lv_istore (lv' := [(6, .int k), (5, .int (nI (7 * j))), (4, .ref od), (3, .ref ol), (2, .ref m0), (1, .ref d0), (0, .ref b)]) hx hb dL_law_1563 hl (by decide) rfl (fun ls hl => ?_)
  refine lv_aload_n hx hb dL_law_1565 rfl (lv_at hl 4 rfl) ?_
  refine lv_aload_n hx hb dL_law_1566 rfl (lv_at hl 6 rfl) ?_
  refine lv_iload hx hb dL_law_1567 (lv_at hl 1 rfl) ?_
  refine lv_iconst (v := 1) hx hb dL_law_1569 (by decide) ?_
  refine lv_iadd hx hb dL_law_1570 ?_
  refine vn_sld hx hb hX0 hbl hbA hS (7 * j + 1) (nI_add (7 * j) 1) (by omega) (by omega) dL_law_1571 ?_
  have hPm : va_P (dC, dI) vwCl (wMdl cy m0 a I R) H := hB _ (List.mem_of_getElem? (i := 3) rfl)
  have hDm : va_D (AL s) (wMdl cy m0 a I R) := hBD.2 _ (List.mem_of_getElem? (i := 3) rfl)
  refine lc_Mi (fun u : (Nat → Int32) × vG => u.1) (fun u : (Nat → Int32) × vG => u.2) (va_runV (As := [.int (xs (7 * j + 1))]) (rest := []) ⟨hx, hb, hml, hown, hts⟩ (c_X5_descentPoint l dC dI cy H.size m0 a I R n hn hS0 hGR (by rw [hS1]; exact hsc9) (xs (7 * j + 1))) (cwV 1 hts gL_law_X5_descentPoint rfl rfl rfl (by decide +kernel) ⟨Nat.le_of_ble_eq_true rfl, Nat.le_of_ble_eq_true rfl⟩) ⟨bl_in, va_recv hK hPm (ci := 5) (q0 := 0) rfl rfl, pr_in hPm hE hDm⟩ rfl rfl hl.1 rfl (lv_room (Nat.le_of_ble_eq_true rfl)) dL_law_1572 ⟨by show cells + 1 + 0 ≤ 601024; omega, by show slots + 6 + 0 ≤ 7293034; omega⟩) hB hBD hS (fun b9 v H locs hm hB hBD hS => ?_)
  clear hPm hDm
  obtain ⟨t1, t2, t3⟩ := st_dpt hR hag hS1 hk hm
  refine lv_istore (lv' := [(7, .int b9), (6, .int k), (5, .int (nI (7 * j))), (4, .ref od), (3, .ref ol), (2, .ref m0), (1, .ref d0), (0, .ref b)]) hx hb dL_law_1575 hl (by decide) rfl (fun ls hl => ?_)
  refine lv_aload_n hx hb dL_law_1577 rfl (lv_at hl 5 rfl) ?_
  have hPm : va_P (dC, dI) vwCl (wMdl cy m0 a v.1 (v.2)) H := hB _ (List.mem_of_getElem? (i := 3) rfl)
  refine vp_callSi (va_runV (As := []) (rest := []) ⟨hx, hb, hml, hown, hts⟩ (c_X5_thrown l dC dI cy m0 a (v.1) (v.2)) (cwV 0 hts gL_law_X5_thrown rfl rfl rfl (by decide +kernel) ⟨Nat.le_of_ble_eq_true rfl, Nat.le_of_ble_eq_true rfl⟩) ⟨bl_ro, va_recv hK hPm (ci := 5) (q0 := 0) rfl rfl, pr_ro hPm hE⟩ rfl rfl hl.1 rfl (lv_room (Nat.le_of_ble_eq_true rfl)) dL_law_1578 ⟨by show cells + 1 + 0 + 0 ≤ 601024; omega, by show slots + 6 + 0 + 0 ≤ 7293034; omega⟩).run (fun r e_r => ?_)
  subst e_r
  refine lv_iload hx hb dL_law_1581 (lv_at hl 1 rfl) ?_
  refine lv_icmp_eq (tgt := 1588) hx hb dL_law_1583 (by decide) (fun _ => ?_) (fun h0 => absurd t1 h0)
  refine lv_iload hx hb dL_law_1588 (lv_at hl 1 rfl) ?_
  refine lv_if_ne (tgt := 1605) hx hb dL_law_1590 (by decide) (fun g0 => ?_) (fun g0 => ?_)
  · skip
    refine lv_goto (tgt := 2107) hx hb dL_law_1605 (by decide) ?_
    refine W.widen (k := cells + 3) (n := slots + 18) (by omega) (by omega) ?_
    exact kk9 _ _ _ _ _ _ _ _ t3 ⟨hB, hBD, hS⟩ (lv_sub hl [2, 3, 4, 5, 6, 7] rfl)
  have hPo : va_P (dC, dI) vwCl (oL cy ol u.2) H := hB _ (List.mem_of_getElem? (i := 1) rfl)
  refine lv_aload_n hx hb dL_law_1593 rfl (lv_at hl 4 rfl) ?_
  refine lv_iconst (v := 0) hx hb dL_law_1594 (by decide) ?_
  refine va_lald hx hb hK hPo 0 3 rfl rfl (i := 0) (by unfold vp_in; decide) dL_law_1595 ?_
  refine lv_iload hx hb dL_law_1596 (lv_at hl 0 rfl) ?_
  refine lv_i2l hx hb dL_law_1598 rfl ?_
  refine W.lcmp hx hb dL_law_1599 ?_
  refine lv_if_eq (tgt := 1605) hx hb dL_law_1600 (by decide) (fun _ => ?_) (fun h0 => absurd (by show lg_cmp u.2 b9.toInt64 = 0; rw [t2 g0]; exact lcmp_self _) h0)
  refine lv_goto (tgt := 2107) hx hb dL_law_1605 (by decide) ?_
  refine W.widen (k := cells + 3) (n := slots + 18) (by omega) (by omega) ?_
  exact kk9 _ _ _ _ _ _ _ _ t3 ⟨hB, hBD, hS⟩ (lv_sub hl [2, 3, 4, 5, 6, 7] rfl)
set_option maxHeartbeats 1000000 in
set_option maxRecDepth 100000 in
/-- call 27 of the script -/
theorem case_27 {p : Program} {l : Launch} {e : Env} {s : State} {m : MethodId} {below : List Frame} {meth : Method} {c : Code} {Q : State → Prop} {b Lx : Nat} {xs : Nat → Int32} {dC : Nat → ClassId} {dI : Nat → Nat → Nat} {cy : Nat → ClassId} (C : LCx p l s m meth c b Lx xs dC dI cy) {κ : KA} {ol od m0 : Nat} {a : Nat → Nat} {j : Nat} (hj : 7 * j + 7 ≤ Lx) (hLx : Lx ≤ 3584) {cells slots : Nat} (hce : cells + 3 ≤ 601024) (hsl : slots + 18 ≤ 7293034) (kk9 : KON p l e s m below meth c Q b dC dI cy κ ol od m0 a j (cells + 3) (slots + 18)) {σ : CS} {I : Nat → Int32} {R : vG} {y : Int64} {yd : UInt64} {H : Heap} {locs : List Loc} {ls : Array Slot} (hR : Rel σ I R) (hLB : LB dC dI cy κ ol od m0 a s σ I R y yd H locs) (hl : lv_has ls 9 (LV κ ol od m0 b j)) : W p l e room_1 s m #[Value.ref b] below meth c H locs cells slots Q (F0 m 1608 ls []) := by
  obtain ⟨hx, hb, hml, hown, hts, hX0, hbl, hE, hXV, hZ, hV, hst⟩ := C
  have hK := hE.1
  obtain ⟨hB, hBD, hS⟩ := hLB
  have hA : ∀ q, s.heap.size ≤ q → AL s q := fun _ h => h
  have hbA : ¬ AL s b := Nat.not_le.mpr hbl
  have hok := hR.ok
  obtain ⟨d0, o, bc, bt, bv, rg, cs, bs, ta, tb, z, bq, rt⟩ := κ
  obtain ⟨⟨F, ⟨G, n, sc⟩, ⟨Gt, nt, sct⟩, x, kk, RG, rn, RS⟩, ⟨Gv, nv9, scv⟩, ⟨C, N, L, fl⟩, M, ⟨Gz, nz, scz⟩, Q9, T⟩ := σ
  have hRc := hR
  obtain ⟨⟨hn, hG, hgs, esc, hS0, hS1, hag⟩, hnt, hx6, hkk, hI5, hrn, hh, hnv, hI6, hsv, hL, hI8, htx, hI9, hnz, hI10, hI11, hI12, hI13, hI14, hnn, hsm⟩ := hRc
  have hGR := okG_agr hag.symm hG
  have hl : lv_has ls 9 [(5, .int (nI (7 * j))), (4, .ref od), (3, .ref ol), (2, .ref m0), (1, .ref d0), (0, .ref b)] := hl
  refine lv_aload_n hx hb dL_law_1608 rfl (lv_at hl 4 rfl) ?_
  refine lv_aload_n hx hb dL_law_1609 rfl (lv_at hl 2 rfl) ?_
  have hPc : va_P (dC, dI) vwCl (wK cy (d0, o, bc, bt, bv, rg, cs, bs, ta, tb, z, bq, rt) ((F, (G, n, sc), (Gt, nt, sct), (x, kk, RG, rn, RS)), (Gv, nv9, scv), (C, N, L, fl), (M, (Gz, nz, scz), Q9, T)) ++ oL cy ol y) H := gl_P.mpr (hB.sub (bs' := [wK cy (d0, o, bc, bt, bv, rg, cs, bs, ta, tb, z, bq, rt) ((F, (G, n, sc), (Gt, nt, sct), (x, kk, RG, rn, RS)), (Gv, nv9, scv), (C, N, L, fl), (M, (Gz, nz, scz), Q9, T)), oL cy ol y]) [0, 1] rfl)
  have hDc : va_D (AL s) (wK cy (d0, o, bc, bt, bv, rg, cs, bs, ta, tb, z, bq, rt) ((F, (G, n, sc), (Gt, nt, sct), (x, kk, RG, rn, RS)), (Gv, nv9, scv), (C, N, L, fl), (M, (Gz, nz, scz), Q9, T)) ++ oL cy ol y) := gl_D.mpr (hBD.sub (bs' := [wK cy (d0, o, bc, bt, bv, rg, cs, bs, ta, tb, z, bq, rt) ((F, (G, n, sc), (Gt, nt, sct), (x, kk, RG, rn, RS)), (Gv, nv9, scv), (C, N, L, fl), (M, (Gz, nz, scz), Q9, T)), oL cy ol y]) [0, 1] (by decide) rfl)
  have hFc : ∀ q, va_A (wK cy (d0, o, bc, bt, bv, rg, cs, bs, ta, tb, z, bq, rt) ((F, (G, n, sc), (Gt, nt, sct), (x, kk, RG, rn, RS)), (Gv, nv9, scv), (C, N, L, fl), (M, (Gz, nz, scz), Q9, T)) ++ oL cy ol y) H.size q → AL s q := BF (cb := [wK cy (d0, o, bc, bt, bv, rg, cs, bs, ta, tb, z, bq, rt) ((F, (G, n, sc), (Gt, nt, sct), (x, kk, RG, rn, RS)), (Gv, nv9, scv), (C, N, L, fl), (M, (Gz, nz, scz), Q9, T)), oL cy ol y]) hBD hS hA [0, 1] rfl
  refine lc_L (vx_runSW (As := [.ref d0, .ref ol]) (rest := []) ⟨hx, hb, hml, hown, hts⟩ (c_NL_rejectionMode l hst dC dI cy H.size d0 o bc bt bv rg cs bs ta tb z bq rt F G n sc Gt nt sct x kk RG rn RS Gv nv9 scv C N L fl M Gz nz scz Q9 T hok ol y ) (vx_cwSW 2 hts gL_law_L_rejectionMode rfl rfl rfl (by decide +kernel) ⟨Nat.le_of_ble_eq_true rfl, Nat.le_of_ble_eq_true rfl⟩) ⟨bl_L, pr_L hPc hE hDc hXV hZ hS hFc hV⟩ rfl rfl hl.1 rfl (lv_room (Nat.le_of_ble_eq_true rfl)) dL_law_1610 ⟨by show cells + 1 ≤ 601024; omega, by show slots + 6 ≤ 7293034; omega⟩) hB hBD hS (fun k u H locs hk hB hBD hS => ?_)
  clear hPc hDc hFc
  refine lv_istore (lv' := [(6, .int k), (5, .int (nI (7 * j))), (4, .ref od), (3, .ref ol), (2, .ref m0), (1, .ref d0), (0, .ref b)]) hx hb dL_law_1613 hl (by decide) rfl (fun ls hl => ?_)
  refine lv_aload_n hx hb dL_law_1615 rfl (lv_at hl 4 rfl) ?_
  have hPm : va_P (dC, dI) vwCl (wMdl cy m0 a I R) H := hB _ (List.mem_of_getElem? (i := 3) rfl)
  have hDm : va_D (AL s) (wMdl cy m0 a I R) := hBD.2 _ (List.mem_of_getElem? (i := 3) rfl)
  refine lc_Mi (fun u : Nat → Int32 => u) (fun _ : Nat → Int32 => R) (va_runV (As := []) (rest := []) ⟨hx, hb, hml, hown, hts⟩ (c_X5_rejectionMode l dC dI cy H.size m0 a I R ) (cwV 0 hts gL_law_X5_rejectionMode rfl rfl rfl (by decide +kernel) ⟨Nat.le_of_ble_eq_true rfl, Nat.le_of_ble_eq_true rfl⟩) ⟨bl_in, va_recv hK hPm (ci := 5) (q0 := 0) rfl rfl, pr_in hPm hE hDm⟩ rfl rfl hl.1 rfl (lv_room (Nat.le_of_ble_eq_true rfl)) dL_law_1616 ⟨by show cells + 1 + 0 ≤ 601024; omega, by show slots + 6 + 0 ≤ 7293034; omega⟩) hB hBD hS (fun b9 v H locs hm hB hBD hS => ?_)
  clear hPm hDm
  obtain ⟨t1, t2, t3⟩ := st_rv (z := b9.toInt64) hR hk hm.1 (by rw [hI10]) (fun g => by rw [hm.2 (by rw [hI10]; exact g), hI11])
  refine lv_istore (lv' := [(7, .int b9), (6, .int k), (5, .int (nI (7 * j))), (4, .ref od), (3, .ref ol), (2, .ref m0), (1, .ref d0), (0, .ref b)]) hx hb dL_law_1619 hl (by decide) rfl (fun ls hl => ?_)
  refine lv_aload_n hx hb dL_law_1621 rfl (lv_at hl 5 rfl) ?_
  have hPm : va_P (dC, dI) vwCl (wMdl cy m0 a v (R)) H := hB _ (List.mem_of_getElem? (i := 3) rfl)
  refine vp_callSi (va_runV (As := []) (rest := []) ⟨hx, hb, hml, hown, hts⟩ (c_X5_thrown l dC dI cy m0 a (v) (R)) (cwV 0 hts gL_law_X5_thrown rfl rfl rfl (by decide +kernel) ⟨Nat.le_of_ble_eq_true rfl, Nat.le_of_ble_eq_true rfl⟩) ⟨bl_ro, va_recv hK hPm (ci := 5) (q0 := 0) rfl rfl, pr_ro hPm hE⟩ rfl rfl hl.1 rfl (lv_room (Nat.le_of_ble_eq_true rfl)) dL_law_1622 ⟨by show cells + 1 + 0 + 0 ≤ 601024; omega, by show slots + 6 + 0 + 0 ≤ 7293034; omega⟩).run (fun r e_r => ?_)
  subst e_r
  refine lv_iload hx hb dL_law_1625 (lv_at hl 1 rfl) ?_
  refine lv_icmp_eq (tgt := 1632) hx hb dL_law_1627 (by decide) (fun _ => ?_) (fun h0 => absurd t1 h0)
  refine lv_iload hx hb dL_law_1632 (lv_at hl 1 rfl) ?_
  refine lv_if_ne (tgt := 1649) hx hb dL_law_1634 (by decide) (fun g0 => ?_) (fun g0 => ?_)
  · skip
    refine lv_goto (tgt := 2107) hx hb dL_law_1649 (by decide) ?_
    refine W.widen (k := cells + 3) (n := slots + 18) (by omega) (by omega) ?_
    exact kk9 _ _ _ _ _ _ _ _ t3 ⟨hB, hBD, hS⟩ (lv_sub hl [2, 3, 4, 5, 6, 7] rfl)
  have hPo : va_P (dC, dI) vwCl (oL cy ol u.2) H := hB _ (List.mem_of_getElem? (i := 1) rfl)
  refine lv_aload_n hx hb dL_law_1637 rfl (lv_at hl 4 rfl) ?_
  refine lv_iconst (v := 0) hx hb dL_law_1638 (by decide) ?_
  refine va_lald hx hb hK hPo 0 3 rfl rfl (i := 0) (by unfold vp_in; decide) dL_law_1639 ?_
  refine lv_iload hx hb dL_law_1640 (lv_at hl 0 rfl) ?_
  refine lv_i2l hx hb dL_law_1642 rfl ?_
  refine W.lcmp hx hb dL_law_1643 ?_
  refine lv_if_eq (tgt := 1649) hx hb dL_law_1644 (by decide) (fun _ => ?_) (fun h0 => absurd (by show lg_cmp u.2 b9.toInt64 = 0; rw [t2 g0]; exact lcmp_self _) h0)
  refine lv_goto (tgt := 2107) hx hb dL_law_1649 (by decide) ?_
  refine W.widen (k := cells + 3) (n := slots + 18) (by omega) (by omega) ?_
  exact kk9 _ _ _ _ _ _ _ _ t3 ⟨hB, hBD, hS⟩ (lv_sub hl [2, 3, 4, 5, 6, 7] rfl)
set_option maxHeartbeats 1000000 in
set_option maxRecDepth 100000 in
/-- call 28 of the script -/
theorem case_28 {p : Program} {l : Launch} {e : Env} {s : State} {m : MethodId} {below : List Frame} {meth : Method} {c : Code} {Q : State → Prop} {b Lx : Nat} {xs : Nat → Int32} {dC : Nat → ClassId} {dI : Nat → Nat → Nat} {cy : Nat → ClassId} (C : LCx p l s m meth c b Lx xs dC dI cy) {κ : KA} {ol od m0 : Nat} {a : Nat → Nat} {j : Nat} (hj : 7 * j + 7 ≤ Lx) (hLx : Lx ≤ 3584) {cells slots : Nat} (hce : cells + 3 ≤ 601024) (hsl : slots + 18 ≤ 7293034) (kk9 : KON p l e s m below meth c Q b dC dI cy κ ol od m0 a j (cells + 3) (slots + 18)) {σ : CS} {I : Nat → Int32} {R : vG} {y : Int64} {yd : UInt64} {H : Heap} {locs : List Loc} {ls : Array Slot} (hR : Rel σ I R) (hLB : LB dC dI cy κ ol od m0 a s σ I R y yd H locs) (hl : lv_has ls 9 (LV κ ol od m0 b j)) : W p l e room_1 s m #[Value.ref b] below meth c H locs cells slots Q (F0 m 1652 ls []) := by
  obtain ⟨hx, hb, hml, hown, hts, hX0, hbl, hE, hXV, hZ, hV, hst⟩ := C
  have hK := hE.1
  obtain ⟨hB, hBD, hS⟩ := hLB
  have hA : ∀ q, s.heap.size ≤ q → AL s q := fun _ h => h
  have hbA : ¬ AL s b := Nat.not_le.mpr hbl
  have hok := hR.ok
  obtain ⟨d0, o, bc, bt, bv, rg, cs, bs, ta, tb, z, bq, rt⟩ := κ
  obtain ⟨⟨F, ⟨G, n, sc⟩, ⟨Gt, nt, sct⟩, x, kk, RG, rn, RS⟩, ⟨Gv, nv9, scv⟩, ⟨C, N, L, fl⟩, M, ⟨Gz, nz, scz⟩, Q9, T⟩ := σ
  have hRc := hR
  obtain ⟨⟨hn, hG, hgs, esc, hS0, hS1, hag⟩, hnt, hx6, hkk, hI5, hrn, hh, hnv, hI6, hsv, hL, hI8, htx, hI9, hnz, hI10, hI11, hI12, hI13, hI14, hnn, hsm⟩ := hRc
  have hGR := okG_agr hag.symm hG
  have hl : lv_has ls 9 [(5, .int (nI (7 * j))), (4, .ref od), (3, .ref ol), (2, .ref m0), (1, .ref d0), (0, .ref b)] := hl
  refine lv_aload_n hx hb dL_law_1652 rfl (lv_at hl 4 rfl) ?_
  refine lv_aload_n hx hb dL_law_1653 rfl (lv_at hl 2 rfl) ?_
  have hPc : va_P (dC, dI) vwCl (wK cy (d0, o, bc, bt, bv, rg, cs, bs, ta, tb, z, bq, rt) ((F, (G, n, sc), (Gt, nt, sct), (x, kk, RG, rn, RS)), (Gv, nv9, scv), (C, N, L, fl), (M, (Gz, nz, scz), Q9, T)) ++ oL cy ol y) H := gl_P.mpr (hB.sub (bs' := [wK cy (d0, o, bc, bt, bv, rg, cs, bs, ta, tb, z, bq, rt) ((F, (G, n, sc), (Gt, nt, sct), (x, kk, RG, rn, RS)), (Gv, nv9, scv), (C, N, L, fl), (M, (Gz, nz, scz), Q9, T)), oL cy ol y]) [0, 1] rfl)
  have hDc : va_D (AL s) (wK cy (d0, o, bc, bt, bv, rg, cs, bs, ta, tb, z, bq, rt) ((F, (G, n, sc), (Gt, nt, sct), (x, kk, RG, rn, RS)), (Gv, nv9, scv), (C, N, L, fl), (M, (Gz, nz, scz), Q9, T)) ++ oL cy ol y) := gl_D.mpr (hBD.sub (bs' := [wK cy (d0, o, bc, bt, bv, rg, cs, bs, ta, tb, z, bq, rt) ((F, (G, n, sc), (Gt, nt, sct), (x, kk, RG, rn, RS)), (Gv, nv9, scv), (C, N, L, fl), (M, (Gz, nz, scz), Q9, T)), oL cy ol y]) [0, 1] (by decide) rfl)
  have hFc : ∀ q, va_A (wK cy (d0, o, bc, bt, bv, rg, cs, bs, ta, tb, z, bq, rt) ((F, (G, n, sc), (Gt, nt, sct), (x, kk, RG, rn, RS)), (Gv, nv9, scv), (C, N, L, fl), (M, (Gz, nz, scz), Q9, T)) ++ oL cy ol y) H.size q → AL s q := BF (cb := [wK cy (d0, o, bc, bt, bv, rg, cs, bs, ta, tb, z, bq, rt) ((F, (G, n, sc), (Gt, nt, sct), (x, kk, RG, rn, RS)), (Gv, nv9, scv), (C, N, L, fl), (M, (Gz, nz, scz), Q9, T)), oL cy ol y]) hBD hS hA [0, 1] rfl
  refine lc_L (vx_runSW (As := [.ref d0, .ref ol]) (rest := []) ⟨hx, hb, hml, hown, hts⟩ (c_NL_rejectionLength l hst dC dI cy H.size d0 o bc bt bv rg cs bs ta tb z bq rt F G n sc Gt nt sct x kk RG rn RS Gv nv9 scv C N L fl M Gz nz scz Q9 T hok ol y ) (vx_cwSW 2 hts gL_law_L_rejectionLength rfl rfl rfl (by decide +kernel) ⟨Nat.le_of_ble_eq_true rfl, Nat.le_of_ble_eq_true rfl⟩) ⟨bl_L, pr_L hPc hE hDc hXV hZ hS hFc hV⟩ rfl rfl hl.1 rfl (lv_room (Nat.le_of_ble_eq_true rfl)) dL_law_1654 ⟨by show cells + 1 ≤ 601024; omega, by show slots + 6 ≤ 7293034; omega⟩) hB hBD hS (fun k u H locs hk hB hBD hS => ?_)
  clear hPc hDc hFc
  refine lv_istore (lv' := [(6, .int k), (5, .int (nI (7 * j))), (4, .ref od), (3, .ref ol), (2, .ref m0), (1, .ref d0), (0, .ref b)]) hx hb dL_law_1657 hl (by decide) rfl (fun ls hl => ?_)
  refine lv_aload_n hx hb dL_law_1659 rfl (lv_at hl 4 rfl) ?_
  have hPm : va_P (dC, dI) vwCl (wMdl cy m0 a I R) H := hB _ (List.mem_of_getElem? (i := 3) rfl)
  have hDm : va_D (AL s) (wMdl cy m0 a I R) := hBD.2 _ (List.mem_of_getElem? (i := 3) rfl)
  refine lc_Mi (fun u : Nat → Int32 => u) (fun _ : Nat → Int32 => R) (va_runV (As := []) (rest := []) ⟨hx, hb, hml, hown, hts⟩ (c_X5_rejectionLength l dC dI cy H.size m0 a I R ) (cwV 0 hts gL_law_X5_rejectionLength rfl rfl rfl (by decide +kernel) ⟨Nat.le_of_ble_eq_true rfl, Nat.le_of_ble_eq_true rfl⟩) ⟨bl_in, va_recv hK hPm (ci := 5) (q0 := 0) rfl rfl, pr_in hPm hE hDm⟩ rfl rfl hl.1 rfl (lv_room (Nat.le_of_ble_eq_true rfl)) dL_law_1660 ⟨by show cells + 1 + 0 ≤ 601024; omega, by show slots + 6 + 0 ≤ 7293034; omega⟩) hB hBD hS (fun b9 v H locs hm hB hBD hS => ?_)
  clear hPm hDm
  obtain ⟨t1, t2, t3⟩ := st_rv (z := b9.toInt64) hR hk hm.1 (by rw [hI10]) (fun g => by rw [hm.2 (by rw [hI10]; exact g), hI12])
  refine lv_istore (lv' := [(7, .int b9), (6, .int k), (5, .int (nI (7 * j))), (4, .ref od), (3, .ref ol), (2, .ref m0), (1, .ref d0), (0, .ref b)]) hx hb dL_law_1663 hl (by decide) rfl (fun ls hl => ?_)
  refine lv_aload_n hx hb dL_law_1665 rfl (lv_at hl 5 rfl) ?_
  have hPm : va_P (dC, dI) vwCl (wMdl cy m0 a v (R)) H := hB _ (List.mem_of_getElem? (i := 3) rfl)
  refine vp_callSi (va_runV (As := []) (rest := []) ⟨hx, hb, hml, hown, hts⟩ (c_X5_thrown l dC dI cy m0 a (v) (R)) (cwV 0 hts gL_law_X5_thrown rfl rfl rfl (by decide +kernel) ⟨Nat.le_of_ble_eq_true rfl, Nat.le_of_ble_eq_true rfl⟩) ⟨bl_ro, va_recv hK hPm (ci := 5) (q0 := 0) rfl rfl, pr_ro hPm hE⟩ rfl rfl hl.1 rfl (lv_room (Nat.le_of_ble_eq_true rfl)) dL_law_1666 ⟨by show cells + 1 + 0 + 0 ≤ 601024; omega, by show slots + 6 + 0 + 0 ≤ 7293034; omega⟩).run (fun r e_r => ?_)
  subst e_r
  refine lv_iload hx hb dL_law_1669 (lv_at hl 1 rfl) ?_
  refine lv_icmp_eq (tgt := 1676) hx hb dL_law_1671 (by decide) (fun _ => ?_) (fun h0 => absurd t1 h0)
  refine lv_iload hx hb dL_law_1676 (lv_at hl 1 rfl) ?_
  refine lv_if_ne (tgt := 1693) hx hb dL_law_1678 (by decide) (fun g0 => ?_) (fun g0 => ?_)
  · skip
    refine lv_goto (tgt := 2107) hx hb dL_law_1693 (by decide) ?_
    refine W.widen (k := cells + 3) (n := slots + 18) (by omega) (by omega) ?_
    exact kk9 _ _ _ _ _ _ _ _ t3 ⟨hB, hBD, hS⟩ (lv_sub hl [2, 3, 4, 5, 6, 7] rfl)
  have hPo : va_P (dC, dI) vwCl (oL cy ol u.2) H := hB _ (List.mem_of_getElem? (i := 1) rfl)
  refine lv_aload_n hx hb dL_law_1681 rfl (lv_at hl 4 rfl) ?_
  refine lv_iconst (v := 0) hx hb dL_law_1682 (by decide) ?_
  refine va_lald hx hb hK hPo 0 3 rfl rfl (i := 0) (by unfold vp_in; decide) dL_law_1683 ?_
  refine lv_iload hx hb dL_law_1684 (lv_at hl 0 rfl) ?_
  refine lv_i2l hx hb dL_law_1686 rfl ?_
  refine W.lcmp hx hb dL_law_1687 ?_
  refine lv_if_eq (tgt := 1693) hx hb dL_law_1688 (by decide) (fun _ => ?_) (fun h0 => absurd (by show lg_cmp u.2 b9.toInt64 = 0; rw [t2 g0]; exact lcmp_self _) h0)
  refine lv_goto (tgt := 2107) hx hb dL_law_1693 (by decide) ?_
  refine W.widen (k := cells + 3) (n := slots + 18) (by omega) (by omega) ?_
  exact kk9 _ _ _ _ _ _ _ _ t3 ⟨hB, hBD, hS⟩ (lv_sub hl [2, 3, 4, 5, 6, 7] rfl)
set_option maxHeartbeats 1000000 in
set_option maxRecDepth 100000 in
/-- call 29 of the script -/
theorem case_29 {p : Program} {l : Launch} {e : Env} {s : State} {m : MethodId} {below : List Frame} {meth : Method} {c : Code} {Q : State → Prop} {b Lx : Nat} {xs : Nat → Int32} {dC : Nat → ClassId} {dI : Nat → Nat → Nat} {cy : Nat → ClassId} (C : LCx p l s m meth c b Lx xs dC dI cy) {κ : KA} {ol od m0 : Nat} {a : Nat → Nat} {j : Nat} (hj : 7 * j + 7 ≤ Lx) (hLx : Lx ≤ 3584) {cells slots : Nat} (hce : cells + 3 ≤ 601024) (hsl : slots + 18 ≤ 7293034) (kk9 : KON p l e s m below meth c Q b dC dI cy κ ol od m0 a j (cells + 3) (slots + 18)) {σ : CS} {I : Nat → Int32} {R : vG} {y : Int64} {yd : UInt64} {H : Heap} {locs : List Loc} {ls : Array Slot} (hR : Rel σ I R) (hLB : LB dC dI cy κ ol od m0 a s σ I R y yd H locs) (hl : lv_has ls 9 (LV κ ol od m0 b j)) : W p l e room_1 s m #[Value.ref b] below meth c H locs cells slots Q (F0 m 1696 ls []) := by
  obtain ⟨hx, hb, hml, hown, hts, hX0, hbl, hE, hXV, hZ, hV, hst⟩ := C
  have hK := hE.1
  obtain ⟨hB, hBD, hS⟩ := hLB
  have hA : ∀ q, s.heap.size ≤ q → AL s q := fun _ h => h
  have hbA : ¬ AL s b := Nat.not_le.mpr hbl
  have hok := hR.ok
  obtain ⟨d0, o, bc, bt, bv, rg, cs, bs, ta, tb, z, bq, rt⟩ := κ
  obtain ⟨⟨F, ⟨G, n, sc⟩, ⟨Gt, nt, sct⟩, x, kk, RG, rn, RS⟩, ⟨Gv, nv9, scv⟩, ⟨C, N, L, fl⟩, M, ⟨Gz, nz, scz⟩, Q9, T⟩ := σ
  have hRc := hR
  obtain ⟨⟨hn, hG, hgs, esc, hS0, hS1, hag⟩, hnt, hx6, hkk, hI5, hrn, hh, hnv, hI6, hsv, hL, hI8, htx, hI9, hnz, hI10, hI11, hI12, hI13, hI14, hnn, hsm⟩ := hRc
  have hGR := okG_agr hag.symm hG
  have hl : lv_has ls 9 [(5, .int (nI (7 * j))), (4, .ref od), (3, .ref ol), (2, .ref m0), (1, .ref d0), (0, .ref b)] := hl
  refine lv_aload_n hx hb dL_law_1696 rfl (lv_at hl 4 rfl) ?_
  refine lv_aload_n hx hb dL_law_1697 rfl (lv_at hl 2 rfl) ?_
  have hPc : va_P (dC, dI) vwCl (wK cy (d0, o, bc, bt, bv, rg, cs, bs, ta, tb, z, bq, rt) ((F, (G, n, sc), (Gt, nt, sct), (x, kk, RG, rn, RS)), (Gv, nv9, scv), (C, N, L, fl), (M, (Gz, nz, scz), Q9, T)) ++ oL cy ol y) H := gl_P.mpr (hB.sub (bs' := [wK cy (d0, o, bc, bt, bv, rg, cs, bs, ta, tb, z, bq, rt) ((F, (G, n, sc), (Gt, nt, sct), (x, kk, RG, rn, RS)), (Gv, nv9, scv), (C, N, L, fl), (M, (Gz, nz, scz), Q9, T)), oL cy ol y]) [0, 1] rfl)
  have hDc : va_D (AL s) (wK cy (d0, o, bc, bt, bv, rg, cs, bs, ta, tb, z, bq, rt) ((F, (G, n, sc), (Gt, nt, sct), (x, kk, RG, rn, RS)), (Gv, nv9, scv), (C, N, L, fl), (M, (Gz, nz, scz), Q9, T)) ++ oL cy ol y) := gl_D.mpr (hBD.sub (bs' := [wK cy (d0, o, bc, bt, bv, rg, cs, bs, ta, tb, z, bq, rt) ((F, (G, n, sc), (Gt, nt, sct), (x, kk, RG, rn, RS)), (Gv, nv9, scv), (C, N, L, fl), (M, (Gz, nz, scz), Q9, T)), oL cy ol y]) [0, 1] (by decide) rfl)
  have hFc : ∀ q, va_A (wK cy (d0, o, bc, bt, bv, rg, cs, bs, ta, tb, z, bq, rt) ((F, (G, n, sc), (Gt, nt, sct), (x, kk, RG, rn, RS)), (Gv, nv9, scv), (C, N, L, fl), (M, (Gz, nz, scz), Q9, T)) ++ oL cy ol y) H.size q → AL s q := BF (cb := [wK cy (d0, o, bc, bt, bv, rg, cs, bs, ta, tb, z, bq, rt) ((F, (G, n, sc), (Gt, nt, sct), (x, kk, RG, rn, RS)), (Gv, nv9, scv), (C, N, L, fl), (M, (Gz, nz, scz), Q9, T)), oL cy ol y]) hBD hS hA [0, 1] rfl
  refine lc_L (vx_runSW (As := [.ref d0, .ref ol]) (rest := []) ⟨hx, hb, hml, hown, hts⟩ (c_NL_rejectionDemand l hst dC dI cy H.size d0 o bc bt bv rg cs bs ta tb z bq rt F G n sc Gt nt sct x kk RG rn RS Gv nv9 scv C N L fl M Gz nz scz Q9 T hok ol y ) (vx_cwSW 2 hts gL_law_L_rejectionDemand rfl rfl rfl (by decide +kernel) ⟨Nat.le_of_ble_eq_true rfl, Nat.le_of_ble_eq_true rfl⟩) ⟨bl_L, pr_L hPc hE hDc hXV hZ hS hFc hV⟩ rfl rfl hl.1 rfl (lv_room (Nat.le_of_ble_eq_true rfl)) dL_law_1698 ⟨by show cells + 1 ≤ 601024; omega, by show slots + 6 ≤ 7293034; omega⟩) hB hBD hS (fun k u H locs hk hB hBD hS => ?_)
  clear hPc hDc hFc
  refine lv_istore (lv' := [(6, .int k), (5, .int (nI (7 * j))), (4, .ref od), (3, .ref ol), (2, .ref m0), (1, .ref d0), (0, .ref b)]) hx hb dL_law_1701 hl (by decide) rfl (fun ls hl => ?_)
  refine lv_aload_n hx hb dL_law_1703 rfl (lv_at hl 4 rfl) ?_
  have hPm : va_P (dC, dI) vwCl (wMdl cy m0 a I R) H := hB _ (List.mem_of_getElem? (i := 3) rfl)
  have hDm : va_D (AL s) (wMdl cy m0 a I R) := hBD.2 _ (List.mem_of_getElem? (i := 3) rfl)
  refine lc_Mi (fun u : Nat → Int32 => u) (fun _ : Nat → Int32 => R) (va_runV (As := []) (rest := []) ⟨hx, hb, hml, hown, hts⟩ (c_X5_rejectionDemand l dC dI cy H.size m0 a I R ) (cwV 0 hts gL_law_X5_rejectionDemand rfl rfl rfl (by decide +kernel) ⟨Nat.le_of_ble_eq_true rfl, Nat.le_of_ble_eq_true rfl⟩) ⟨bl_in, va_recv hK hPm (ci := 5) (q0 := 0) rfl rfl, pr_in hPm hE hDm⟩ rfl rfl hl.1 rfl (lv_room (Nat.le_of_ble_eq_true rfl)) dL_law_1704 ⟨by show cells + 1 + 0 ≤ 601024; omega, by show slots + 6 + 0 ≤ 7293034; omega⟩) hB hBD hS (fun b9 v H locs hm hB hBD hS => ?_)
  clear hPm hDm
  obtain ⟨t1, t2, t3⟩ := st_rv (z := b9.toInt64) hR hk hm.1 (by rw [hI10]) (fun g => by rw [hm.2 (by rw [hI10]; exact g), hI13])
  refine lv_istore (lv' := [(7, .int b9), (6, .int k), (5, .int (nI (7 * j))), (4, .ref od), (3, .ref ol), (2, .ref m0), (1, .ref d0), (0, .ref b)]) hx hb dL_law_1707 hl (by decide) rfl (fun ls hl => ?_)
  refine lv_aload_n hx hb dL_law_1709 rfl (lv_at hl 5 rfl) ?_
  have hPm : va_P (dC, dI) vwCl (wMdl cy m0 a v (R)) H := hB _ (List.mem_of_getElem? (i := 3) rfl)
  refine vp_callSi (va_runV (As := []) (rest := []) ⟨hx, hb, hml, hown, hts⟩ (c_X5_thrown l dC dI cy m0 a (v) (R)) (cwV 0 hts gL_law_X5_thrown rfl rfl rfl (by decide +kernel) ⟨Nat.le_of_ble_eq_true rfl, Nat.le_of_ble_eq_true rfl⟩) ⟨bl_ro, va_recv hK hPm (ci := 5) (q0 := 0) rfl rfl, pr_ro hPm hE⟩ rfl rfl hl.1 rfl (lv_room (Nat.le_of_ble_eq_true rfl)) dL_law_1710 ⟨by show cells + 1 + 0 + 0 ≤ 601024; omega, by show slots + 6 + 0 + 0 ≤ 7293034; omega⟩).run (fun r e_r => ?_)
  subst e_r
  refine lv_iload hx hb dL_law_1713 (lv_at hl 1 rfl) ?_
  refine lv_icmp_eq (tgt := 1720) hx hb dL_law_1715 (by decide) (fun _ => ?_) (fun h0 => absurd t1 h0)
  refine lv_iload hx hb dL_law_1720 (lv_at hl 1 rfl) ?_
  refine lv_if_ne (tgt := 1737) hx hb dL_law_1722 (by decide) (fun g0 => ?_) (fun g0 => ?_)
  · skip
    refine lv_goto (tgt := 2107) hx hb dL_law_1737 (by decide) ?_
    refine W.widen (k := cells + 3) (n := slots + 18) (by omega) (by omega) ?_
    exact kk9 _ _ _ _ _ _ _ _ t3 ⟨hB, hBD, hS⟩ (lv_sub hl [2, 3, 4, 5, 6, 7] rfl)
  have hPo : va_P (dC, dI) vwCl (oL cy ol u.2) H := hB _ (List.mem_of_getElem? (i := 1) rfl)
  refine lv_aload_n hx hb dL_law_1725 rfl (lv_at hl 4 rfl) ?_
  refine lv_iconst (v := 0) hx hb dL_law_1726 (by decide) ?_
  refine va_lald hx hb hK hPo 0 3 rfl rfl (i := 0) (by unfold vp_in; decide) dL_law_1727 ?_
  refine lv_iload hx hb dL_law_1728 (lv_at hl 0 rfl) ?_
  refine lv_i2l hx hb dL_law_1730 rfl ?_
  refine W.lcmp hx hb dL_law_1731 ?_
  refine lv_if_eq (tgt := 1737) hx hb dL_law_1732 (by decide) (fun _ => ?_) (fun h0 => absurd (by show lg_cmp u.2 b9.toInt64 = 0; rw [t2 g0]; exact lcmp_self _) h0)
  refine lv_goto (tgt := 2107) hx hb dL_law_1737 (by decide) ?_
  refine W.widen (k := cells + 3) (n := slots + 18) (by omega) (by omega) ?_
  exact kk9 _ _ _ _ _ _ _ _ t3 ⟨hB, hBD, hS⟩ (lv_sub hl [2, 3, 4, 5, 6, 7] rfl)
set_option maxHeartbeats 1000000 in
set_option maxRecDepth 100000 in
/-- call 30 of the script -/
theorem case_30 {p : Program} {l : Launch} {e : Env} {s : State} {m : MethodId} {below : List Frame} {meth : Method} {c : Code} {Q : State → Prop} {b Lx : Nat} {xs : Nat → Int32} {dC : Nat → ClassId} {dI : Nat → Nat → Nat} {cy : Nat → ClassId} (C : LCx p l s m meth c b Lx xs dC dI cy) {κ : KA} {ol od m0 : Nat} {a : Nat → Nat} {j : Nat} (hj : 7 * j + 7 ≤ Lx) (hLx : Lx ≤ 3584) {cells slots : Nat} (hce : cells + 3 ≤ 601024) (hsl : slots + 18 ≤ 7293034) (kk9 : KON p l e s m below meth c Q b dC dI cy κ ol od m0 a j (cells + 3) (slots + 18)) {σ : CS} {I : Nat → Int32} {R : vG} {y : Int64} {yd : UInt64} {H : Heap} {locs : List Loc} {ls : Array Slot} (hR : Rel σ I R) (hLB : LB dC dI cy κ ol od m0 a s σ I R y yd H locs) (hl : lv_has ls 9 (LV κ ol od m0 b j)) : W p l e room_1 s m #[Value.ref b] below meth c H locs cells slots Q (F0 m 1740 ls []) := by
  obtain ⟨hx, hb, hml, hown, hts, hX0, hbl, hE, hXV, hZ, hV, hst⟩ := C
  have hK := hE.1
  obtain ⟨hB, hBD, hS⟩ := hLB
  have hA : ∀ q, s.heap.size ≤ q → AL s q := fun _ h => h
  have hbA : ¬ AL s b := Nat.not_le.mpr hbl
  have hok := hR.ok
  obtain ⟨d0, o, bc, bt, bv, rg, cs, bs, ta, tb, z, bq, rt⟩ := κ
  obtain ⟨⟨F, ⟨G, n, sc⟩, ⟨Gt, nt, sct⟩, x, kk, RG, rn, RS⟩, ⟨Gv, nv9, scv⟩, ⟨C, N, L, fl⟩, M, ⟨Gz, nz, scz⟩, Q9, T⟩ := σ
  have hRc := hR
  obtain ⟨⟨hn, hG, hgs, esc, hS0, hS1, hag⟩, hnt, hx6, hkk, hI5, hrn, hh, hnv, hI6, hsv, hL, hI8, htx, hI9, hnz, hI10, hI11, hI12, hI13, hI14, hnn, hsm⟩ := hRc
  have hGR := okG_agr hag.symm hG
  have hl : lv_has ls 9 [(5, .int (nI (7 * j))), (4, .ref od), (3, .ref ol), (2, .ref m0), (1, .ref d0), (0, .ref b)] := hl
  refine lv_aload_n hx hb dL_law_1740 rfl (lv_at hl 4 rfl) ?_
  refine lv_aload_n hx hb dL_law_1741 rfl (lv_at hl 5 rfl) ?_
  refine lv_iload hx hb dL_law_1742 (lv_at hl 0 rfl) ?_
  refine lv_iconst (v := 1) hx hb dL_law_1744 (by decide) ?_
  refine lv_iadd hx hb dL_law_1745 ?_
  refine vn_sld hx hb hX0 hbl hbA hS (7 * j + 1) (nI_add (7 * j) 1) (by omega) (by omega) dL_law_1746 ?_
  refine lv_aload_n hx hb dL_law_1747 rfl (lv_at hl 5 rfl) ?_
  refine lv_iload hx hb dL_law_1748 (lv_at hl 0 rfl) ?_
  refine lv_iconst (v := 2) hx hb dL_law_1750 (by decide) ?_
  refine lv_iadd hx hb dL_law_1751 ?_
  refine vn_sld hx hb hX0 hbl hbA hS (7 * j + 2) (nI_add (7 * j) 2) (by omega) (by omega) dL_law_1752 ?_
  refine lv_aload_n hx hb dL_law_1753 rfl (lv_at hl 5 rfl) ?_
  refine lv_iload hx hb dL_law_1754 (lv_at hl 0 rfl) ?_
  refine lv_iconst (v := 3) hx hb dL_law_1756 (by decide) ?_
  refine lv_iadd hx hb dL_law_1757 ?_
  refine vn_sld hx hb hX0 hbl hbA hS (7 * j + 3) (nI_add (7 * j) 3) (by omega) (by omega) dL_law_1758 ?_
  refine lv_aload_n hx hb dL_law_1759 rfl (lv_at hl 2 rfl) ?_
  have hPc : va_P (dC, dI) vwCl (wK cy (d0, o, bc, bt, bv, rg, cs, bs, ta, tb, z, bq, rt) ((F, (G, n, sc), (Gt, nt, sct), (x, kk, RG, rn, RS)), (Gv, nv9, scv), (C, N, L, fl), (M, (Gz, nz, scz), Q9, T)) ++ oL cy ol y) H := gl_P.mpr (hB.sub (bs' := [wK cy (d0, o, bc, bt, bv, rg, cs, bs, ta, tb, z, bq, rt) ((F, (G, n, sc), (Gt, nt, sct), (x, kk, RG, rn, RS)), (Gv, nv9, scv), (C, N, L, fl), (M, (Gz, nz, scz), Q9, T)), oL cy ol y]) [0, 1] rfl)
  have hDc : va_D (AL s) (wK cy (d0, o, bc, bt, bv, rg, cs, bs, ta, tb, z, bq, rt) ((F, (G, n, sc), (Gt, nt, sct), (x, kk, RG, rn, RS)), (Gv, nv9, scv), (C, N, L, fl), (M, (Gz, nz, scz), Q9, T)) ++ oL cy ol y) := gl_D.mpr (hBD.sub (bs' := [wK cy (d0, o, bc, bt, bv, rg, cs, bs, ta, tb, z, bq, rt) ((F, (G, n, sc), (Gt, nt, sct), (x, kk, RG, rn, RS)), (Gv, nv9, scv), (C, N, L, fl), (M, (Gz, nz, scz), Q9, T)), oL cy ol y]) [0, 1] (by decide) rfl)
  have hFc : ∀ q, va_A (wK cy (d0, o, bc, bt, bv, rg, cs, bs, ta, tb, z, bq, rt) ((F, (G, n, sc), (Gt, nt, sct), (x, kk, RG, rn, RS)), (Gv, nv9, scv), (C, N, L, fl), (M, (Gz, nz, scz), Q9, T)) ++ oL cy ol y) H.size q → AL s q := BF (cb := [wK cy (d0, o, bc, bt, bv, rg, cs, bs, ta, tb, z, bq, rt) ((F, (G, n, sc), (Gt, nt, sct), (x, kk, RG, rn, RS)), (Gv, nv9, scv), (C, N, L, fl), (M, (Gz, nz, scz), Q9, T)), oL cy ol y]) hBD hS hA [0, 1] rfl
  refine lc_L (vx_runSW (As := [.ref d0, .int (xs (7 * j + 1)), .int (xs (7 * j + 2)), .int (xs (7 * j + 3)), .ref ol]) (rest := []) ⟨hx, hb, hml, hown, hts⟩ (c_L_simulate l hst dC dI cy H.size d0 o bc bt bv rg cs bs ta tb z bq rt F G n sc Gt nt sct x kk RG rn RS Gv nv9 scv C N L fl M Gz nz scz Q9 T hok ol y (xs (7 * j + 1)) (xs (7 * j + 2)) (xs (7 * j + 3)) _ rfl (sim_rel2 hR rfl).1) (vx_cwSW 5 hts gL_law_L_simulate rfl rfl rfl (by decide +kernel) ⟨Nat.le_of_ble_eq_true rfl, Nat.le_of_ble_eq_true rfl⟩) ⟨bl_L, pr_L hPc hE hDc hXV hZ hS hFc hV⟩ rfl rfl hl.1 rfl (lv_room (Nat.le_of_ble_eq_true rfl)) dL_law_1760 ⟨by show cells + 1 ≤ 601024; omega, by show slots + 6 ≤ 7293034; omega⟩) hB hBD hS (fun k u H locs hk hB hBD hS => ?_)
  clear hPc hDc hFc
  refine lv_istore (lv' := [(6, .int k), (5, .int (nI (7 * j))), (4, .ref od), (3, .ref ol), (2, .ref m0), (1, .ref d0), (0, .ref b)]) hx hb dL_law_1763 hl (by decide) rfl (fun ls hl => ?_)
  refine lv_aload_n hx hb dL_law_1765 rfl (lv_at hl 4 rfl) ?_
  refine lv_aload_n hx hb dL_law_1766 rfl (lv_at hl 6 rfl) ?_
  refine lv_iload hx hb dL_law_1767 (lv_at hl 1 rfl) ?_
  refine lv_iconst (v := 1) hx hb dL_law_1769 (by decide) ?_
  refine lv_iadd hx hb dL_law_1770 ?_
  refine vn_sld hx hb hX0 hbl hbA hS (7 * j + 1) (nI_add (7 * j) 1) (by omega) (by omega) dL_law_1771 ?_
  refine lv_aload_n hx hb dL_law_1772 rfl (lv_at hl 6 rfl) ?_
  refine lv_iload hx hb dL_law_1773 (lv_at hl 1 rfl) ?_
  refine lv_iconst (v := 2) hx hb dL_law_1775 (by decide) ?_
  refine lv_iadd hx hb dL_law_1776 ?_
  refine vn_sld hx hb hX0 hbl hbA hS (7 * j + 2) (nI_add (7 * j) 2) (by omega) (by omega) dL_law_1777 ?_
  refine lv_aload_n hx hb dL_law_1778 rfl (lv_at hl 6 rfl) ?_
  refine lv_iload hx hb dL_law_1779 (lv_at hl 1 rfl) ?_
  refine lv_iconst (v := 3) hx hb dL_law_1781 (by decide) ?_
  refine lv_iadd hx hb dL_law_1782 ?_
  refine vn_sld hx hb hX0 hbl hbA hS (7 * j + 3) (nI_add (7 * j) 3) (by omega) (by omega) dL_law_1783 ?_
  have hPm : va_P (dC, dI) vwCl (wMdl cy m0 a I R) H := hB _ (List.mem_of_getElem? (i := 3) rfl)
  have hDm : va_D (AL s) (wMdl cy m0 a I R) := hBD.2 _ (List.mem_of_getElem? (i := 3) rfl)
  refine lc_Mi (fun u : (Nat → Int32) × vG => u.1) (fun u : (Nat → Int32) × vG => u.2) (va_runV (As := [.int (xs (7 * j + 1)), .int (xs (7 * j + 2)), .int (xs (7 * j + 3))]) (rest := []) ⟨hx, hb, hml, hown, hts⟩ (c_X5_simulate l dC dI cy H.size m0 a I R n hn hS0 hGR (xs (7 * j + 1)) (xs (7 * j + 2)) (xs (7 * j + 3)) (sim_rel2 hR rfl).2) (cwV 3 hts gL_law_X5_simulate rfl rfl rfl (by decide +kernel) ⟨Nat.le_of_ble_eq_true rfl, Nat.le_of_ble_eq_true rfl⟩) ⟨bl_in, va_recv hK hPm (ci := 5) (q0 := 0) rfl rfl, pr_in hPm hE hDm⟩ rfl rfl hl.1 rfl (lv_room (Nat.le_of_ble_eq_true rfl)) dL_law_1784 ⟨by show cells + 1 + 0 ≤ 601024; omega, by show slots + 6 + 0 ≤ 7293034; omega⟩) hB hBD hS (fun b9 v H locs hm hB hBD hS => ?_)
  clear hPm hDm
  obtain ⟨t1, t2, t3⟩ := st_sim hR rfl hk hm
  refine lv_istore (lv' := [(7, .int b9), (6, .int k), (5, .int (nI (7 * j))), (4, .ref od), (3, .ref ol), (2, .ref m0), (1, .ref d0), (0, .ref b)]) hx hb dL_law_1787 hl (by decide) rfl (fun ls hl => ?_)
  refine lv_aload_n hx hb dL_law_1789 rfl (lv_at hl 5 rfl) ?_
  have hPm : va_P (dC, dI) vwCl (wMdl cy m0 a v.1 (v.2)) H := hB _ (List.mem_of_getElem? (i := 3) rfl)
  refine vp_callSi (va_runV (As := []) (rest := []) ⟨hx, hb, hml, hown, hts⟩ (c_X5_thrown l dC dI cy m0 a (v.1) (v.2)) (cwV 0 hts gL_law_X5_thrown rfl rfl rfl (by decide +kernel) ⟨Nat.le_of_ble_eq_true rfl, Nat.le_of_ble_eq_true rfl⟩) ⟨bl_ro, va_recv hK hPm (ci := 5) (q0 := 0) rfl rfl, pr_ro hPm hE⟩ rfl rfl hl.1 rfl (lv_room (Nat.le_of_ble_eq_true rfl)) dL_law_1790 ⟨by show cells + 1 + 0 + 0 ≤ 601024; omega, by show slots + 6 + 0 + 0 ≤ 7293034; omega⟩).run (fun r e_r => ?_)
  subst e_r
  refine lv_iload hx hb dL_law_1793 (lv_at hl 1 rfl) ?_
  refine lv_icmp_eq (tgt := 1800) hx hb dL_law_1795 (by decide) (fun _ => ?_) (fun h0 => absurd t1 h0)
  refine lv_iload hx hb dL_law_1800 (lv_at hl 1 rfl) ?_
  refine lv_if_ne (tgt := 1817) hx hb dL_law_1802 (by decide) (fun g0 => ?_) (fun g0 => ?_)
  · skip
    refine lv_goto (tgt := 2107) hx hb dL_law_1817 (by decide) ?_
    refine W.widen (k := cells + 3) (n := slots + 18) (by omega) (by omega) ?_
    exact kk9 _ _ _ _ _ _ _ _ t3 ⟨hB, hBD, hS⟩ (lv_sub hl [2, 3, 4, 5, 6, 7] rfl)
  have hPo : va_P (dC, dI) vwCl (oL cy ol u.2) H := hB _ (List.mem_of_getElem? (i := 1) rfl)
  refine lv_aload_n hx hb dL_law_1805 rfl (lv_at hl 4 rfl) ?_
  refine lv_iconst (v := 0) hx hb dL_law_1806 (by decide) ?_
  refine va_lald hx hb hK hPo 0 3 rfl rfl (i := 0) (by unfold vp_in; decide) dL_law_1807 ?_
  refine lv_iload hx hb dL_law_1808 (lv_at hl 0 rfl) ?_
  refine lv_i2l hx hb dL_law_1810 rfl ?_
  refine W.lcmp hx hb dL_law_1811 ?_
  refine lv_if_eq (tgt := 1817) hx hb dL_law_1812 (by decide) (fun _ => ?_) (fun h0 => absurd (by show lg_cmp u.2 b9.toInt64 = 0; rw [t2 g0]; exact lcmp_self _) h0)
  refine lv_goto (tgt := 2107) hx hb dL_law_1817 (by decide) ?_
  refine W.widen (k := cells + 3) (n := slots + 18) (by omega) (by omega) ?_
  exact kk9 _ _ _ _ _ _ _ _ t3 ⟨hB, hBD, hS⟩ (lv_sub hl [2, 3, 4, 5, 6, 7] rfl)
set_option maxHeartbeats 1000000 in
set_option maxRecDepth 100000 in
/-- call 31 of the script -/
theorem case_31 {p : Program} {l : Launch} {e : Env} {s : State} {m : MethodId} {below : List Frame} {meth : Method} {c : Code} {Q : State → Prop} {b Lx : Nat} {xs : Nat → Int32} {dC : Nat → ClassId} {dI : Nat → Nat → Nat} {cy : Nat → ClassId} (C : LCx p l s m meth c b Lx xs dC dI cy) {κ : KA} {ol od m0 : Nat} {a : Nat → Nat} {j : Nat} (hj : 7 * j + 7 ≤ Lx) (hLx : Lx ≤ 3584) {cells slots : Nat} (hce : cells + 3 ≤ 601024) (hsl : slots + 18 ≤ 7293034) (kk9 : KON p l e s m below meth c Q b dC dI cy κ ol od m0 a j (cells + 3) (slots + 18)) {σ : CS} {I : Nat → Int32} {R : vG} {y : Int64} {yd : UInt64} {H : Heap} {locs : List Loc} {ls : Array Slot} (hR : Rel σ I R) (hLB : LB dC dI cy κ ol od m0 a s σ I R y yd H locs) (hl : lv_has ls 9 (LV κ ol od m0 b j)) : W p l e room_1 s m #[Value.ref b] below meth c H locs cells slots Q (F0 m 1820 ls []) := by
  obtain ⟨hx, hb, hml, hown, hts, hX0, hbl, hE, hXV, hZ, hV, hst⟩ := C
  have hK := hE.1
  obtain ⟨hB, hBD, hS⟩ := hLB
  have hA : ∀ q, s.heap.size ≤ q → AL s q := fun _ h => h
  have hbA : ¬ AL s b := Nat.not_le.mpr hbl
  have hok := hR.ok
  obtain ⟨d0, o, bc, bt, bv, rg, cs, bs, ta, tb, z, bq, rt⟩ := κ
  obtain ⟨⟨F, ⟨G, n, sc⟩, ⟨Gt, nt, sct⟩, x, kk, RG, rn, RS⟩, ⟨Gv, nv9, scv⟩, ⟨C, N, L, fl⟩, M, ⟨Gz, nz, scz⟩, Q9, T⟩ := σ
  have hRc := hR
  obtain ⟨⟨hn, hG, hgs, esc, hS0, hS1, hag⟩, hnt, hx6, hkk, hI5, hrn, hh, hnv, hI6, hsv, hL, hI8, htx, hI9, hnz, hI10, hI11, hI12, hI13, hI14, hnn, hsm⟩ := hRc
  have hGR := okG_agr hag.symm hG
  have hl : lv_has ls 9 [(5, .int (nI (7 * j))), (4, .ref od), (3, .ref ol), (2, .ref m0), (1, .ref d0), (0, .ref b)] := hl
  refine lv_aload_n hx hb dL_law_1820 rfl (lv_at hl 4 rfl) ?_
  refine lv_aload_n hx hb dL_law_1821 rfl (lv_at hl 2 rfl) ?_
  have hPc : va_P (dC, dI) vwCl (wK cy (d0, o, bc, bt, bv, rg, cs, bs, ta, tb, z, bq, rt) ((F, (G, n, sc), (Gt, nt, sct), (x, kk, RG, rn, RS)), (Gv, nv9, scv), (C, N, L, fl), (M, (Gz, nz, scz), Q9, T)) ++ oL cy ol y) H := gl_P.mpr (hB.sub (bs' := [wK cy (d0, o, bc, bt, bv, rg, cs, bs, ta, tb, z, bq, rt) ((F, (G, n, sc), (Gt, nt, sct), (x, kk, RG, rn, RS)), (Gv, nv9, scv), (C, N, L, fl), (M, (Gz, nz, scz), Q9, T)), oL cy ol y]) [0, 1] rfl)
  have hDc : va_D (AL s) (wK cy (d0, o, bc, bt, bv, rg, cs, bs, ta, tb, z, bq, rt) ((F, (G, n, sc), (Gt, nt, sct), (x, kk, RG, rn, RS)), (Gv, nv9, scv), (C, N, L, fl), (M, (Gz, nz, scz), Q9, T)) ++ oL cy ol y) := gl_D.mpr (hBD.sub (bs' := [wK cy (d0, o, bc, bt, bv, rg, cs, bs, ta, tb, z, bq, rt) ((F, (G, n, sc), (Gt, nt, sct), (x, kk, RG, rn, RS)), (Gv, nv9, scv), (C, N, L, fl), (M, (Gz, nz, scz), Q9, T)), oL cy ol y]) [0, 1] (by decide) rfl)
  have hFc : ∀ q, va_A (wK cy (d0, o, bc, bt, bv, rg, cs, bs, ta, tb, z, bq, rt) ((F, (G, n, sc), (Gt, nt, sct), (x, kk, RG, rn, RS)), (Gv, nv9, scv), (C, N, L, fl), (M, (Gz, nz, scz), Q9, T)) ++ oL cy ol y) H.size q → AL s q := BF (cb := [wK cy (d0, o, bc, bt, bv, rg, cs, bs, ta, tb, z, bq, rt) ((F, (G, n, sc), (Gt, nt, sct), (x, kk, RG, rn, RS)), (Gv, nv9, scv), (C, N, L, fl), (M, (Gz, nz, scz), Q9, T)), oL cy ol y]) hBD hS hA [0, 1] rfl
  refine lc_L (vx_runSW (As := [.ref d0, .ref ol]) (rest := []) ⟨hx, hb, hml, hown, hts⟩ (c_L_completed l hst dC dI cy H.size d0 o bc bt bv rg cs bs ta tb z bq rt F G n sc Gt nt sct x kk RG rn RS Gv nv9 scv C N L fl M Gz nz scz Q9 T hok ol y ) (vx_cwSW 2 hts gL_law_L_completed rfl rfl rfl (by decide +kernel) ⟨Nat.le_of_ble_eq_true rfl, Nat.le_of_ble_eq_true rfl⟩) ⟨bl_L, pr_L hPc hE hDc hXV hZ hS hFc hV⟩ rfl rfl hl.1 rfl (lv_room (Nat.le_of_ble_eq_true rfl)) dL_law_1822 ⟨by show cells + 1 ≤ 601024; omega, by show slots + 6 ≤ 7293034; omega⟩) hB hBD hS (fun k u H locs hk hB hBD hS => ?_)
  clear hPc hDc hFc
  refine lv_istore (lv' := [(6, .int k), (5, .int (nI (7 * j))), (4, .ref od), (3, .ref ol), (2, .ref m0), (1, .ref d0), (0, .ref b)]) hx hb dL_law_1825 hl (by decide) rfl (fun ls hl => ?_)
  refine lv_aload_n hx hb dL_law_1827 rfl (lv_at hl 4 rfl) ?_
  have hPm : va_P (dC, dI) vwCl (wMdl cy m0 a I R) H := hB _ (List.mem_of_getElem? (i := 3) rfl)
  have hDm : va_D (AL s) (wMdl cy m0 a I R) := hBD.2 _ (List.mem_of_getElem? (i := 3) rfl)
  refine lc_Mi (fun u : Nat → Int32 => u) (fun _ : Nat → Int32 => R) (va_runV (As := []) (rest := []) ⟨hx, hb, hml, hown, hts⟩ (c_X5_completed l dC dI cy H.size m0 a I R ) (cwV 0 hts gL_law_X5_completed rfl rfl rfl (by decide +kernel) ⟨Nat.le_of_ble_eq_true rfl, Nat.le_of_ble_eq_true rfl⟩) ⟨bl_in, va_recv hK hPm (ci := 5) (q0 := 0) rfl rfl, pr_in hPm hE hDm⟩ rfl rfl hl.1 rfl (lv_room (Nat.le_of_ble_eq_true rfl)) dL_law_1828 ⟨by show cells + 1 + 0 ≤ 601024; omega, by show slots + 6 + 0 ≤ 7293034; omega⟩) hB hBD hS (fun b9 v H locs hm hB hBD hS => ?_)
  clear hPm hDm
  obtain ⟨t1, t2, t3⟩ := st_rv (z := b9.toInt64) hR hk hm.1 (by rw [hI14]) (fun g => by rw [hm.2 (by rw [hI14]; exact g), (hsm (c01_n g)).1])
  refine lv_istore (lv' := [(7, .int b9), (6, .int k), (5, .int (nI (7 * j))), (4, .ref od), (3, .ref ol), (2, .ref m0), (1, .ref d0), (0, .ref b)]) hx hb dL_law_1831 hl (by decide) rfl (fun ls hl => ?_)
  refine lv_aload_n hx hb dL_law_1833 rfl (lv_at hl 5 rfl) ?_
  have hPm : va_P (dC, dI) vwCl (wMdl cy m0 a v (R)) H := hB _ (List.mem_of_getElem? (i := 3) rfl)
  refine vp_callSi (va_runV (As := []) (rest := []) ⟨hx, hb, hml, hown, hts⟩ (c_X5_thrown l dC dI cy m0 a (v) (R)) (cwV 0 hts gL_law_X5_thrown rfl rfl rfl (by decide +kernel) ⟨Nat.le_of_ble_eq_true rfl, Nat.le_of_ble_eq_true rfl⟩) ⟨bl_ro, va_recv hK hPm (ci := 5) (q0 := 0) rfl rfl, pr_ro hPm hE⟩ rfl rfl hl.1 rfl (lv_room (Nat.le_of_ble_eq_true rfl)) dL_law_1834 ⟨by show cells + 1 + 0 + 0 ≤ 601024; omega, by show slots + 6 + 0 + 0 ≤ 7293034; omega⟩).run (fun r e_r => ?_)
  subst e_r
  refine lv_iload hx hb dL_law_1837 (lv_at hl 1 rfl) ?_
  refine lv_icmp_eq (tgt := 1844) hx hb dL_law_1839 (by decide) (fun _ => ?_) (fun h0 => absurd t1 h0)
  refine lv_iload hx hb dL_law_1844 (lv_at hl 1 rfl) ?_
  refine lv_if_ne (tgt := 1861) hx hb dL_law_1846 (by decide) (fun g0 => ?_) (fun g0 => ?_)
  · skip
    refine lv_goto (tgt := 2107) hx hb dL_law_1861 (by decide) ?_
    refine W.widen (k := cells + 3) (n := slots + 18) (by omega) (by omega) ?_
    exact kk9 _ _ _ _ _ _ _ _ t3 ⟨hB, hBD, hS⟩ (lv_sub hl [2, 3, 4, 5, 6, 7] rfl)
  have hPo : va_P (dC, dI) vwCl (oL cy ol u.2) H := hB _ (List.mem_of_getElem? (i := 1) rfl)
  refine lv_aload_n hx hb dL_law_1849 rfl (lv_at hl 4 rfl) ?_
  refine lv_iconst (v := 0) hx hb dL_law_1850 (by decide) ?_
  refine va_lald hx hb hK hPo 0 3 rfl rfl (i := 0) (by unfold vp_in; decide) dL_law_1851 ?_
  refine lv_iload hx hb dL_law_1852 (lv_at hl 0 rfl) ?_
  refine lv_i2l hx hb dL_law_1854 rfl ?_
  refine W.lcmp hx hb dL_law_1855 ?_
  refine lv_if_eq (tgt := 1861) hx hb dL_law_1856 (by decide) (fun _ => ?_) (fun h0 => absurd (by show lg_cmp u.2 b9.toInt64 = 0; rw [t2 g0]; exact lcmp_self _) h0)
  refine lv_goto (tgt := 2107) hx hb dL_law_1861 (by decide) ?_
  refine W.widen (k := cells + 3) (n := slots + 18) (by omega) (by omega) ?_
  exact kk9 _ _ _ _ _ _ _ _ t3 ⟨hB, hBD, hS⟩ (lv_sub hl [2, 3, 4, 5, 6, 7] rfl)
set_option maxHeartbeats 1000000 in
set_option maxRecDepth 100000 in
/-- call 32 of the script -/
theorem case_32 {p : Program} {l : Launch} {e : Env} {s : State} {m : MethodId} {below : List Frame} {meth : Method} {c : Code} {Q : State → Prop} {b Lx : Nat} {xs : Nat → Int32} {dC : Nat → ClassId} {dI : Nat → Nat → Nat} {cy : Nat → ClassId} (C : LCx p l s m meth c b Lx xs dC dI cy) {κ : KA} {ol od m0 : Nat} {a : Nat → Nat} {j : Nat} (hj : 7 * j + 7 ≤ Lx) (hLx : Lx ≤ 3584) {cells slots : Nat} (hce : cells + 3 ≤ 601024) (hsl : slots + 18 ≤ 7293034) (kk9 : KON p l e s m below meth c Q b dC dI cy κ ol od m0 a j (cells + 3) (slots + 18)) {σ : CS} {I : Nat → Int32} {R : vG} {y : Int64} {yd : UInt64} {H : Heap} {locs : List Loc} {ls : Array Slot} (hR : Rel σ I R) (hLB : LB dC dI cy κ ol od m0 a s σ I R y yd H locs) (hl : lv_has ls 9 (LV κ ol od m0 b j)) : W p l e room_1 s m #[Value.ref b] below meth c H locs cells slots Q (F0 m 1864 ls []) := by
  obtain ⟨hx, hb, hml, hown, hts, hX0, hbl, hE, hXV, hZ, hV, hst⟩ := C
  have hK := hE.1
  obtain ⟨hB, hBD, hS⟩ := hLB
  have hA : ∀ q, s.heap.size ≤ q → AL s q := fun _ h => h
  have hbA : ¬ AL s b := Nat.not_le.mpr hbl
  have hok := hR.ok
  obtain ⟨d0, o, bc, bt, bv, rg, cs, bs, ta, tb, z, bq, rt⟩ := κ
  obtain ⟨⟨F, ⟨G, n, sc⟩, ⟨Gt, nt, sct⟩, x, kk, RG, rn, RS⟩, ⟨Gv, nv9, scv⟩, ⟨C, N, L, fl⟩, M, ⟨Gz, nz, scz⟩, Q9, T⟩ := σ
  have hRc := hR
  obtain ⟨⟨hn, hG, hgs, esc, hS0, hS1, hag⟩, hnt, hx6, hkk, hI5, hrn, hh, hnv, hI6, hsv, hL, hI8, htx, hI9, hnz, hI10, hI11, hI12, hI13, hI14, hnn, hsm⟩ := hRc
  have hGR := okG_agr hag.symm hG
  have hl : lv_has ls 9 [(5, .int (nI (7 * j))), (4, .ref od), (3, .ref ol), (2, .ref m0), (1, .ref d0), (0, .ref b)] := hl
  refine lv_aload_n hx hb dL_law_1864 rfl (lv_at hl 4 rfl) ?_
  refine lv_aload_n hx hb dL_law_1865 rfl (lv_at hl 2 rfl) ?_
  have hPc : va_P (dC, dI) vwCl (wK cy (d0, o, bc, bt, bv, rg, cs, bs, ta, tb, z, bq, rt) ((F, (G, n, sc), (Gt, nt, sct), (x, kk, RG, rn, RS)), (Gv, nv9, scv), (C, N, L, fl), (M, (Gz, nz, scz), Q9, T)) ++ oL cy ol y) H := gl_P.mpr (hB.sub (bs' := [wK cy (d0, o, bc, bt, bv, rg, cs, bs, ta, tb, z, bq, rt) ((F, (G, n, sc), (Gt, nt, sct), (x, kk, RG, rn, RS)), (Gv, nv9, scv), (C, N, L, fl), (M, (Gz, nz, scz), Q9, T)), oL cy ol y]) [0, 1] rfl)
  have hDc : va_D (AL s) (wK cy (d0, o, bc, bt, bv, rg, cs, bs, ta, tb, z, bq, rt) ((F, (G, n, sc), (Gt, nt, sct), (x, kk, RG, rn, RS)), (Gv, nv9, scv), (C, N, L, fl), (M, (Gz, nz, scz), Q9, T)) ++ oL cy ol y) := gl_D.mpr (hBD.sub (bs' := [wK cy (d0, o, bc, bt, bv, rg, cs, bs, ta, tb, z, bq, rt) ((F, (G, n, sc), (Gt, nt, sct), (x, kk, RG, rn, RS)), (Gv, nv9, scv), (C, N, L, fl), (M, (Gz, nz, scz), Q9, T)), oL cy ol y]) [0, 1] (by decide) rfl)
  have hFc : ∀ q, va_A (wK cy (d0, o, bc, bt, bv, rg, cs, bs, ta, tb, z, bq, rt) ((F, (G, n, sc), (Gt, nt, sct), (x, kk, RG, rn, RS)), (Gv, nv9, scv), (C, N, L, fl), (M, (Gz, nz, scz), Q9, T)) ++ oL cy ol y) H.size q → AL s q := BF (cb := [wK cy (d0, o, bc, bt, bv, rg, cs, bs, ta, tb, z, bq, rt) ((F, (G, n, sc), (Gt, nt, sct), (x, kk, RG, rn, RS)), (Gv, nv9, scv), (C, N, L, fl), (M, (Gz, nz, scz), Q9, T)), oL cy ol y]) hBD hS hA [0, 1] rfl
  refine lc_L (vx_runSW (As := [.ref d0, .ref ol]) (rest := []) ⟨hx, hb, hml, hown, hts⟩ (c_L_dropped l hst dC dI cy H.size d0 o bc bt bv rg cs bs ta tb z bq rt F G n sc Gt nt sct x kk RG rn RS Gv nv9 scv C N L fl M Gz nz scz Q9 T hok ol y ) (vx_cwSW 2 hts gL_law_L_dropped rfl rfl rfl (by decide +kernel) ⟨Nat.le_of_ble_eq_true rfl, Nat.le_of_ble_eq_true rfl⟩) ⟨bl_L, pr_L hPc hE hDc hXV hZ hS hFc hV⟩ rfl rfl hl.1 rfl (lv_room (Nat.le_of_ble_eq_true rfl)) dL_law_1866 ⟨by show cells + 1 ≤ 601024; omega, by show slots + 6 ≤ 7293034; omega⟩) hB hBD hS (fun k u H locs hk hB hBD hS => ?_)
  clear hPc hDc hFc
  refine lv_istore (lv' := [(6, .int k), (5, .int (nI (7 * j))), (4, .ref od), (3, .ref ol), (2, .ref m0), (1, .ref d0), (0, .ref b)]) hx hb dL_law_1869 hl (by decide) rfl (fun ls hl => ?_)
  refine lv_aload_n hx hb dL_law_1871 rfl (lv_at hl 4 rfl) ?_
  have hPm : va_P (dC, dI) vwCl (wMdl cy m0 a I R) H := hB _ (List.mem_of_getElem? (i := 3) rfl)
  have hDm : va_D (AL s) (wMdl cy m0 a I R) := hBD.2 _ (List.mem_of_getElem? (i := 3) rfl)
  refine lc_Mi (fun u : Nat → Int32 => u) (fun _ : Nat → Int32 => R) (va_runV (As := []) (rest := []) ⟨hx, hb, hml, hown, hts⟩ (c_X5_dropped l dC dI cy H.size m0 a I R ) (cwV 0 hts gL_law_X5_dropped rfl rfl rfl (by decide +kernel) ⟨Nat.le_of_ble_eq_true rfl, Nat.le_of_ble_eq_true rfl⟩) ⟨bl_in, va_recv hK hPm (ci := 5) (q0 := 0) rfl rfl, pr_in hPm hE hDm⟩ rfl rfl hl.1 rfl (lv_room (Nat.le_of_ble_eq_true rfl)) dL_law_1872 ⟨by show cells + 1 + 0 ≤ 601024; omega, by show slots + 6 + 0 ≤ 7293034; omega⟩) hB hBD hS (fun b9 v H locs hm hB hBD hS => ?_)
  clear hPm hDm
  obtain ⟨t1, t2, t3⟩ := st_rv (z := b9.toInt64) hR hk hm.1 (by rw [hI14]) (fun g => by rw [hm.2 (by rw [hI14]; exact g), (hsm (c01_n g)).2.1])
  refine lv_istore (lv' := [(7, .int b9), (6, .int k), (5, .int (nI (7 * j))), (4, .ref od), (3, .ref ol), (2, .ref m0), (1, .ref d0), (0, .ref b)]) hx hb dL_law_1875 hl (by decide) rfl (fun ls hl => ?_)
  refine lv_aload_n hx hb dL_law_1877 rfl (lv_at hl 5 rfl) ?_
  have hPm : va_P (dC, dI) vwCl (wMdl cy m0 a v (R)) H := hB _ (List.mem_of_getElem? (i := 3) rfl)
  refine vp_callSi (va_runV (As := []) (rest := []) ⟨hx, hb, hml, hown, hts⟩ (c_X5_thrown l dC dI cy m0 a (v) (R)) (cwV 0 hts gL_law_X5_thrown rfl rfl rfl (by decide +kernel) ⟨Nat.le_of_ble_eq_true rfl, Nat.le_of_ble_eq_true rfl⟩) ⟨bl_ro, va_recv hK hPm (ci := 5) (q0 := 0) rfl rfl, pr_ro hPm hE⟩ rfl rfl hl.1 rfl (lv_room (Nat.le_of_ble_eq_true rfl)) dL_law_1878 ⟨by show cells + 1 + 0 + 0 ≤ 601024; omega, by show slots + 6 + 0 + 0 ≤ 7293034; omega⟩).run (fun r e_r => ?_)
  subst e_r
  refine lv_iload hx hb dL_law_1881 (lv_at hl 1 rfl) ?_
  refine lv_icmp_eq (tgt := 1888) hx hb dL_law_1883 (by decide) (fun _ => ?_) (fun h0 => absurd t1 h0)
  refine lv_iload hx hb dL_law_1888 (lv_at hl 1 rfl) ?_
  refine lv_if_ne (tgt := 1905) hx hb dL_law_1890 (by decide) (fun g0 => ?_) (fun g0 => ?_)
  · skip
    refine lv_goto (tgt := 2107) hx hb dL_law_1905 (by decide) ?_
    refine W.widen (k := cells + 3) (n := slots + 18) (by omega) (by omega) ?_
    exact kk9 _ _ _ _ _ _ _ _ t3 ⟨hB, hBD, hS⟩ (lv_sub hl [2, 3, 4, 5, 6, 7] rfl)
  have hPo : va_P (dC, dI) vwCl (oL cy ol u.2) H := hB _ (List.mem_of_getElem? (i := 1) rfl)
  refine lv_aload_n hx hb dL_law_1893 rfl (lv_at hl 4 rfl) ?_
  refine lv_iconst (v := 0) hx hb dL_law_1894 (by decide) ?_
  refine va_lald hx hb hK hPo 0 3 rfl rfl (i := 0) (by unfold vp_in; decide) dL_law_1895 ?_
  refine lv_iload hx hb dL_law_1896 (lv_at hl 0 rfl) ?_
  refine lv_i2l hx hb dL_law_1898 rfl ?_
  refine W.lcmp hx hb dL_law_1899 ?_
  refine lv_if_eq (tgt := 1905) hx hb dL_law_1900 (by decide) (fun _ => ?_) (fun h0 => absurd (by show lg_cmp u.2 b9.toInt64 = 0; rw [t2 g0]; exact lcmp_self _) h0)
  refine lv_goto (tgt := 2107) hx hb dL_law_1905 (by decide) ?_
  refine W.widen (k := cells + 3) (n := slots + 18) (by omega) (by omega) ?_
  exact kk9 _ _ _ _ _ _ _ _ t3 ⟨hB, hBD, hS⟩ (lv_sub hl [2, 3, 4, 5, 6, 7] rfl)
set_option maxHeartbeats 1000000 in
set_option maxRecDepth 100000 in
/-- call 33 of the script -/
theorem case_33 {p : Program} {l : Launch} {e : Env} {s : State} {m : MethodId} {below : List Frame} {meth : Method} {c : Code} {Q : State → Prop} {b Lx : Nat} {xs : Nat → Int32} {dC : Nat → ClassId} {dI : Nat → Nat → Nat} {cy : Nat → ClassId} (C : LCx p l s m meth c b Lx xs dC dI cy) {κ : KA} {ol od m0 : Nat} {a : Nat → Nat} {j : Nat} (hj : 7 * j + 7 ≤ Lx) (hLx : Lx ≤ 3584) {cells slots : Nat} (hce : cells + 3 ≤ 601024) (hsl : slots + 18 ≤ 7293034) (kk9 : KON p l e s m below meth c Q b dC dI cy κ ol od m0 a j (cells + 3) (slots + 18)) {σ : CS} {I : Nat → Int32} {R : vG} {y : Int64} {yd : UInt64} {H : Heap} {locs : List Loc} {ls : Array Slot} (hR : Rel σ I R) (hLB : LB dC dI cy κ ol od m0 a s σ I R y yd H locs) (hl : lv_has ls 9 (LV κ ol od m0 b j)) : W p l e room_1 s m #[Value.ref b] below meth c H locs cells slots Q (F0 m 1908 ls []) := by
  obtain ⟨hx, hb, hml, hown, hts, hX0, hbl, hE, hXV, hZ, hV, hst⟩ := C
  have hK := hE.1
  obtain ⟨hB, hBD, hS⟩ := hLB
  have hA : ∀ q, s.heap.size ≤ q → AL s q := fun _ h => h
  have hbA : ¬ AL s b := Nat.not_le.mpr hbl
  have hok := hR.ok
  obtain ⟨d0, o, bc, bt, bv, rg, cs, bs, ta, tb, z, bq, rt⟩ := κ
  obtain ⟨⟨F, ⟨G, n, sc⟩, ⟨Gt, nt, sct⟩, x, kk, RG, rn, RS⟩, ⟨Gv, nv9, scv⟩, ⟨C, N, L, fl⟩, M, ⟨Gz, nz, scz⟩, Q9, T⟩ := σ
  have hRc := hR
  obtain ⟨⟨hn, hG, hgs, esc, hS0, hS1, hag⟩, hnt, hx6, hkk, hI5, hrn, hh, hnv, hI6, hsv, hL, hI8, htx, hI9, hnz, hI10, hI11, hI12, hI13, hI14, hnn, hsm⟩ := hRc
  have hGR := okG_agr hag.symm hG
  have hl : lv_has ls 9 [(5, .int (nI (7 * j))), (4, .ref od), (3, .ref ol), (2, .ref m0), (1, .ref d0), (0, .ref b)] := hl
  refine lv_aload_n hx hb dL_law_1908 rfl (lv_at hl 4 rfl) ?_
  refine lv_aload_n hx hb dL_law_1909 rfl (lv_at hl 2 rfl) ?_
  have hPc : va_P (dC, dI) vwCl (wK cy (d0, o, bc, bt, bv, rg, cs, bs, ta, tb, z, bq, rt) ((F, (G, n, sc), (Gt, nt, sct), (x, kk, RG, rn, RS)), (Gv, nv9, scv), (C, N, L, fl), (M, (Gz, nz, scz), Q9, T)) ++ oL cy ol y) H := gl_P.mpr (hB.sub (bs' := [wK cy (d0, o, bc, bt, bv, rg, cs, bs, ta, tb, z, bq, rt) ((F, (G, n, sc), (Gt, nt, sct), (x, kk, RG, rn, RS)), (Gv, nv9, scv), (C, N, L, fl), (M, (Gz, nz, scz), Q9, T)), oL cy ol y]) [0, 1] rfl)
  have hDc : va_D (AL s) (wK cy (d0, o, bc, bt, bv, rg, cs, bs, ta, tb, z, bq, rt) ((F, (G, n, sc), (Gt, nt, sct), (x, kk, RG, rn, RS)), (Gv, nv9, scv), (C, N, L, fl), (M, (Gz, nz, scz), Q9, T)) ++ oL cy ol y) := gl_D.mpr (hBD.sub (bs' := [wK cy (d0, o, bc, bt, bv, rg, cs, bs, ta, tb, z, bq, rt) ((F, (G, n, sc), (Gt, nt, sct), (x, kk, RG, rn, RS)), (Gv, nv9, scv), (C, N, L, fl), (M, (Gz, nz, scz), Q9, T)), oL cy ol y]) [0, 1] (by decide) rfl)
  have hFc : ∀ q, va_A (wK cy (d0, o, bc, bt, bv, rg, cs, bs, ta, tb, z, bq, rt) ((F, (G, n, sc), (Gt, nt, sct), (x, kk, RG, rn, RS)), (Gv, nv9, scv), (C, N, L, fl), (M, (Gz, nz, scz), Q9, T)) ++ oL cy ol y) H.size q → AL s q := BF (cb := [wK cy (d0, o, bc, bt, bv, rg, cs, bs, ta, tb, z, bq, rt) ((F, (G, n, sc), (Gt, nt, sct), (x, kk, RG, rn, RS)), (Gv, nv9, scv), (C, N, L, fl), (M, (Gz, nz, scz), Q9, T)), oL cy ol y]) hBD hS hA [0, 1] rfl
  refine lc_L (vx_runSW (As := [.ref d0, .ref ol]) (rest := []) ⟨hx, hb, hml, hown, hts⟩ (c_L_switches l hst dC dI cy H.size d0 o bc bt bv rg cs bs ta tb z bq rt F G n sc Gt nt sct x kk RG rn RS Gv nv9 scv C N L fl M Gz nz scz Q9 T hok ol y ) (vx_cwSW 2 hts gL_law_L_switches rfl rfl rfl (by decide +kernel) ⟨Nat.le_of_ble_eq_true rfl, Nat.le_of_ble_eq_true rfl⟩) ⟨bl_L, pr_L hPc hE hDc hXV hZ hS hFc hV⟩ rfl rfl hl.1 rfl (lv_room (Nat.le_of_ble_eq_true rfl)) dL_law_1910 ⟨by show cells + 1 ≤ 601024; omega, by show slots + 6 ≤ 7293034; omega⟩) hB hBD hS (fun k u H locs hk hB hBD hS => ?_)
  clear hPc hDc hFc
  refine lv_istore (lv' := [(6, .int k), (5, .int (nI (7 * j))), (4, .ref od), (3, .ref ol), (2, .ref m0), (1, .ref d0), (0, .ref b)]) hx hb dL_law_1913 hl (by decide) rfl (fun ls hl => ?_)
  refine lv_aload_n hx hb dL_law_1915 rfl (lv_at hl 4 rfl) ?_
  have hPm : va_P (dC, dI) vwCl (wMdl cy m0 a I R) H := hB _ (List.mem_of_getElem? (i := 3) rfl)
  have hDm : va_D (AL s) (wMdl cy m0 a I R) := hBD.2 _ (List.mem_of_getElem? (i := 3) rfl)
  refine lc_Mi (fun u : Nat → Int32 => u) (fun _ : Nat → Int32 => R) (va_runV (As := []) (rest := []) ⟨hx, hb, hml, hown, hts⟩ (c_X5_switches l dC dI cy H.size m0 a I R ) (cwV 0 hts gL_law_X5_switches rfl rfl rfl (by decide +kernel) ⟨Nat.le_of_ble_eq_true rfl, Nat.le_of_ble_eq_true rfl⟩) ⟨bl_in, va_recv hK hPm (ci := 5) (q0 := 0) rfl rfl, pr_in hPm hE hDm⟩ rfl rfl hl.1 rfl (lv_room (Nat.le_of_ble_eq_true rfl)) dL_law_1916 ⟨by show cells + 1 + 0 ≤ 601024; omega, by show slots + 6 + 0 ≤ 7293034; omega⟩) hB hBD hS (fun b9 v H locs hm hB hBD hS => ?_)
  clear hPm hDm
  obtain ⟨t1, t2, t3⟩ := st_rv (z := b9.toInt64) hR hk hm.1 (by rw [hI14]) (fun g => by rw [hm.2 (by rw [hI14]; exact g), (hsm (c01_n g)).2.2.1])
  refine lv_istore (lv' := [(7, .int b9), (6, .int k), (5, .int (nI (7 * j))), (4, .ref od), (3, .ref ol), (2, .ref m0), (1, .ref d0), (0, .ref b)]) hx hb dL_law_1919 hl (by decide) rfl (fun ls hl => ?_)
  refine lv_aload_n hx hb dL_law_1921 rfl (lv_at hl 5 rfl) ?_
  have hPm : va_P (dC, dI) vwCl (wMdl cy m0 a v (R)) H := hB _ (List.mem_of_getElem? (i := 3) rfl)
  refine vp_callSi (va_runV (As := []) (rest := []) ⟨hx, hb, hml, hown, hts⟩ (c_X5_thrown l dC dI cy m0 a (v) (R)) (cwV 0 hts gL_law_X5_thrown rfl rfl rfl (by decide +kernel) ⟨Nat.le_of_ble_eq_true rfl, Nat.le_of_ble_eq_true rfl⟩) ⟨bl_ro, va_recv hK hPm (ci := 5) (q0 := 0) rfl rfl, pr_ro hPm hE⟩ rfl rfl hl.1 rfl (lv_room (Nat.le_of_ble_eq_true rfl)) dL_law_1922 ⟨by show cells + 1 + 0 + 0 ≤ 601024; omega, by show slots + 6 + 0 + 0 ≤ 7293034; omega⟩).run (fun r e_r => ?_)
  subst e_r
  refine lv_iload hx hb dL_law_1925 (lv_at hl 1 rfl) ?_
  refine lv_icmp_eq (tgt := 1932) hx hb dL_law_1927 (by decide) (fun _ => ?_) (fun h0 => absurd t1 h0)
  refine lv_iload hx hb dL_law_1932 (lv_at hl 1 rfl) ?_
  refine lv_if_ne (tgt := 1949) hx hb dL_law_1934 (by decide) (fun g0 => ?_) (fun g0 => ?_)
  · skip
    refine lv_goto (tgt := 2107) hx hb dL_law_1949 (by decide) ?_
    refine W.widen (k := cells + 3) (n := slots + 18) (by omega) (by omega) ?_
    exact kk9 _ _ _ _ _ _ _ _ t3 ⟨hB, hBD, hS⟩ (lv_sub hl [2, 3, 4, 5, 6, 7] rfl)
  have hPo : va_P (dC, dI) vwCl (oL cy ol u.2) H := hB _ (List.mem_of_getElem? (i := 1) rfl)
  refine lv_aload_n hx hb dL_law_1937 rfl (lv_at hl 4 rfl) ?_
  refine lv_iconst (v := 0) hx hb dL_law_1938 (by decide) ?_
  refine va_lald hx hb hK hPo 0 3 rfl rfl (i := 0) (by unfold vp_in; decide) dL_law_1939 ?_
  refine lv_iload hx hb dL_law_1940 (lv_at hl 0 rfl) ?_
  refine lv_i2l hx hb dL_law_1942 rfl ?_
  refine W.lcmp hx hb dL_law_1943 ?_
  refine lv_if_eq (tgt := 1949) hx hb dL_law_1944 (by decide) (fun _ => ?_) (fun h0 => absurd (by show lg_cmp u.2 b9.toInt64 = 0; rw [t2 g0]; exact lcmp_self _) h0)
  refine lv_goto (tgt := 2107) hx hb dL_law_1949 (by decide) ?_
  refine W.widen (k := cells + 3) (n := slots + 18) (by omega) (by omega) ?_
  exact kk9 _ _ _ _ _ _ _ _ t3 ⟨hB, hBD, hS⟩ (lv_sub hl [2, 3, 4, 5, 6, 7] rfl)
set_option maxHeartbeats 1000000 in
set_option maxRecDepth 100000 in
/-- call 34 of the script -/
theorem case_34 {p : Program} {l : Launch} {e : Env} {s : State} {m : MethodId} {below : List Frame} {meth : Method} {c : Code} {Q : State → Prop} {b Lx : Nat} {xs : Nat → Int32} {dC : Nat → ClassId} {dI : Nat → Nat → Nat} {cy : Nat → ClassId} (C : LCx p l s m meth c b Lx xs dC dI cy) {κ : KA} {ol od m0 : Nat} {a : Nat → Nat} {j : Nat} (hj : 7 * j + 7 ≤ Lx) (hLx : Lx ≤ 3584) {cells slots : Nat} (hce : cells + 3 ≤ 601024) (hsl : slots + 18 ≤ 7293034) (kk9 : KON p l e s m below meth c Q b dC dI cy κ ol od m0 a j (cells + 3) (slots + 18)) {σ : CS} {I : Nat → Int32} {R : vG} {y : Int64} {yd : UInt64} {H : Heap} {locs : List Loc} {ls : Array Slot} (hR : Rel σ I R) (hLB : LB dC dI cy κ ol od m0 a s σ I R y yd H locs) (hl : lv_has ls 9 (LV κ ol od m0 b j)) : W p l e room_1 s m #[Value.ref b] below meth c H locs cells slots Q (F0 m 1952 ls []) := by
  obtain ⟨hx, hb, hml, hown, hts, hX0, hbl, hE, hXV, hZ, hV, hst⟩ := C
  have hK := hE.1
  obtain ⟨hB, hBD, hS⟩ := hLB
  have hA : ∀ q, s.heap.size ≤ q → AL s q := fun _ h => h
  have hbA : ¬ AL s b := Nat.not_le.mpr hbl
  have hok := hR.ok
  obtain ⟨d0, o, bc, bt, bv, rg, cs, bs, ta, tb, z, bq, rt⟩ := κ
  obtain ⟨⟨F, ⟨G, n, sc⟩, ⟨Gt, nt, sct⟩, x, kk, RG, rn, RS⟩, ⟨Gv, nv9, scv⟩, ⟨C, N, L, fl⟩, M, ⟨Gz, nz, scz⟩, Q9, T⟩ := σ
  have hRc := hR
  obtain ⟨⟨hn, hG, hgs, esc, hS0, hS1, hag⟩, hnt, hx6, hkk, hI5, hrn, hh, hnv, hI6, hsv, hL, hI8, htx, hI9, hnz, hI10, hI11, hI12, hI13, hI14, hnn, hsm⟩ := hRc
  have hGR := okG_agr hag.symm hG
  have hl : lv_has ls 9 [(5, .int (nI (7 * j))), (4, .ref od), (3, .ref ol), (2, .ref m0), (1, .ref d0), (0, .ref b)] := hl
  refine lv_aload_n hx hb dL_law_1952 rfl (lv_at hl 4 rfl) ?_
  refine lv_aload_n hx hb dL_law_1953 rfl (lv_at hl 2 rfl) ?_
  have hPc : va_P (dC, dI) vwCl (wK cy (d0, o, bc, bt, bv, rg, cs, bs, ta, tb, z, bq, rt) ((F, (G, n, sc), (Gt, nt, sct), (x, kk, RG, rn, RS)), (Gv, nv9, scv), (C, N, L, fl), (M, (Gz, nz, scz), Q9, T)) ++ oL cy ol y) H := gl_P.mpr (hB.sub (bs' := [wK cy (d0, o, bc, bt, bv, rg, cs, bs, ta, tb, z, bq, rt) ((F, (G, n, sc), (Gt, nt, sct), (x, kk, RG, rn, RS)), (Gv, nv9, scv), (C, N, L, fl), (M, (Gz, nz, scz), Q9, T)), oL cy ol y]) [0, 1] rfl)
  have hDc : va_D (AL s) (wK cy (d0, o, bc, bt, bv, rg, cs, bs, ta, tb, z, bq, rt) ((F, (G, n, sc), (Gt, nt, sct), (x, kk, RG, rn, RS)), (Gv, nv9, scv), (C, N, L, fl), (M, (Gz, nz, scz), Q9, T)) ++ oL cy ol y) := gl_D.mpr (hBD.sub (bs' := [wK cy (d0, o, bc, bt, bv, rg, cs, bs, ta, tb, z, bq, rt) ((F, (G, n, sc), (Gt, nt, sct), (x, kk, RG, rn, RS)), (Gv, nv9, scv), (C, N, L, fl), (M, (Gz, nz, scz), Q9, T)), oL cy ol y]) [0, 1] (by decide) rfl)
  have hFc : ∀ q, va_A (wK cy (d0, o, bc, bt, bv, rg, cs, bs, ta, tb, z, bq, rt) ((F, (G, n, sc), (Gt, nt, sct), (x, kk, RG, rn, RS)), (Gv, nv9, scv), (C, N, L, fl), (M, (Gz, nz, scz), Q9, T)) ++ oL cy ol y) H.size q → AL s q := BF (cb := [wK cy (d0, o, bc, bt, bv, rg, cs, bs, ta, tb, z, bq, rt) ((F, (G, n, sc), (Gt, nt, sct), (x, kk, RG, rn, RS)), (Gv, nv9, scv), (C, N, L, fl), (M, (Gz, nz, scz), Q9, T)), oL cy ol y]) hBD hS hA [0, 1] rfl
  refine lc_L (vx_runSW (As := [.ref d0, .ref ol]) (rest := []) ⟨hx, hb, hml, hown, hts⟩ (c_L_idleUnits l hst dC dI cy H.size d0 o bc bt bv rg cs bs ta tb z bq rt F G n sc Gt nt sct x kk RG rn RS Gv nv9 scv C N L fl M Gz nz scz Q9 T hok ol y ) (vx_cwSW 2 hts gL_law_L_idleUnits rfl rfl rfl (by decide +kernel) ⟨Nat.le_of_ble_eq_true rfl, Nat.le_of_ble_eq_true rfl⟩) ⟨bl_L, pr_L hPc hE hDc hXV hZ hS hFc hV⟩ rfl rfl hl.1 rfl (lv_room (Nat.le_of_ble_eq_true rfl)) dL_law_1954 ⟨by show cells + 1 ≤ 601024; omega, by show slots + 6 ≤ 7293034; omega⟩) hB hBD hS (fun k u H locs hk hB hBD hS => ?_)
  clear hPc hDc hFc
  refine lv_istore (lv' := [(6, .int k), (5, .int (nI (7 * j))), (4, .ref od), (3, .ref ol), (2, .ref m0), (1, .ref d0), (0, .ref b)]) hx hb dL_law_1957 hl (by decide) rfl (fun ls hl => ?_)
  refine lv_aload_n hx hb dL_law_1959 rfl (lv_at hl 4 rfl) ?_
  have hPm : va_P (dC, dI) vwCl (wMdl cy m0 a I R) H := hB _ (List.mem_of_getElem? (i := 3) rfl)
  have hDm : va_D (AL s) (wMdl cy m0 a I R) := hBD.2 _ (List.mem_of_getElem? (i := 3) rfl)
  refine lc_Mi (fun u : Nat → Int32 => u) (fun _ : Nat → Int32 => R) (va_runV (As := []) (rest := []) ⟨hx, hb, hml, hown, hts⟩ (c_X5_idleUnits l dC dI cy H.size m0 a I R ) (cwV 0 hts gL_law_X5_idleUnits rfl rfl rfl (by decide +kernel) ⟨Nat.le_of_ble_eq_true rfl, Nat.le_of_ble_eq_true rfl⟩) ⟨bl_in, va_recv hK hPm (ci := 5) (q0 := 0) rfl rfl, pr_in hPm hE hDm⟩ rfl rfl hl.1 rfl (lv_room (Nat.le_of_ble_eq_true rfl)) dL_law_1960 ⟨by show cells + 1 + 0 ≤ 601024; omega, by show slots + 6 + 0 ≤ 7293034; omega⟩) hB hBD hS (fun b9 v H locs hm hB hBD hS => ?_)
  clear hPm hDm
  obtain ⟨t1, t2, t3⟩ := st_rv (z := b9.toInt64) hR hk hm.1 (by rw [hI14]) (fun g => by rw [hm.2 (by rw [hI14]; exact g), (hsm (c01_n g)).2.2.2.1])
  refine lv_istore (lv' := [(7, .int b9), (6, .int k), (5, .int (nI (7 * j))), (4, .ref od), (3, .ref ol), (2, .ref m0), (1, .ref d0), (0, .ref b)]) hx hb dL_law_1963 hl (by decide) rfl (fun ls hl => ?_)
  refine lv_aload_n hx hb dL_law_1965 rfl (lv_at hl 5 rfl) ?_
  have hPm : va_P (dC, dI) vwCl (wMdl cy m0 a v (R)) H := hB _ (List.mem_of_getElem? (i := 3) rfl)
  refine vp_callSi (va_runV (As := []) (rest := []) ⟨hx, hb, hml, hown, hts⟩ (c_X5_thrown l dC dI cy m0 a (v) (R)) (cwV 0 hts gL_law_X5_thrown rfl rfl rfl (by decide +kernel) ⟨Nat.le_of_ble_eq_true rfl, Nat.le_of_ble_eq_true rfl⟩) ⟨bl_ro, va_recv hK hPm (ci := 5) (q0 := 0) rfl rfl, pr_ro hPm hE⟩ rfl rfl hl.1 rfl (lv_room (Nat.le_of_ble_eq_true rfl)) dL_law_1966 ⟨by show cells + 1 + 0 + 0 ≤ 601024; omega, by show slots + 6 + 0 + 0 ≤ 7293034; omega⟩).run (fun r e_r => ?_)
  subst e_r
  refine lv_iload hx hb dL_law_1969 (lv_at hl 1 rfl) ?_
  refine lv_icmp_eq (tgt := 1976) hx hb dL_law_1971 (by decide) (fun _ => ?_) (fun h0 => absurd t1 h0)
  refine lv_iload hx hb dL_law_1976 (lv_at hl 1 rfl) ?_
  refine lv_if_ne (tgt := 1993) hx hb dL_law_1978 (by decide) (fun g0 => ?_) (fun g0 => ?_)
  · skip
    refine lv_goto (tgt := 2107) hx hb dL_law_1993 (by decide) ?_
    refine W.widen (k := cells + 3) (n := slots + 18) (by omega) (by omega) ?_
    exact kk9 _ _ _ _ _ _ _ _ t3 ⟨hB, hBD, hS⟩ (lv_sub hl [2, 3, 4, 5, 6, 7] rfl)
  have hPo : va_P (dC, dI) vwCl (oL cy ol u.2) H := hB _ (List.mem_of_getElem? (i := 1) rfl)
  refine lv_aload_n hx hb dL_law_1981 rfl (lv_at hl 4 rfl) ?_
  refine lv_iconst (v := 0) hx hb dL_law_1982 (by decide) ?_
  refine va_lald hx hb hK hPo 0 3 rfl rfl (i := 0) (by unfold vp_in; decide) dL_law_1983 ?_
  refine lv_iload hx hb dL_law_1984 (lv_at hl 0 rfl) ?_
  refine lv_i2l hx hb dL_law_1986 rfl ?_
  refine W.lcmp hx hb dL_law_1987 ?_
  refine lv_if_eq (tgt := 1993) hx hb dL_law_1988 (by decide) (fun _ => ?_) (fun h0 => absurd (by show lg_cmp u.2 b9.toInt64 = 0; rw [t2 g0]; exact lcmp_self _) h0)
  refine lv_goto (tgt := 2107) hx hb dL_law_1993 (by decide) ?_
  refine W.widen (k := cells + 3) (n := slots + 18) (by omega) (by omega) ?_
  exact kk9 _ _ _ _ _ _ _ _ t3 ⟨hB, hBD, hS⟩ (lv_sub hl [2, 3, 4, 5, 6, 7] rfl)
set_option maxHeartbeats 1000000 in
set_option maxRecDepth 100000 in
/-- call 35 of the script -/
theorem case_35 {p : Program} {l : Launch} {e : Env} {s : State} {m : MethodId} {below : List Frame} {meth : Method} {c : Code} {Q : State → Prop} {b Lx : Nat} {xs : Nat → Int32} {dC : Nat → ClassId} {dI : Nat → Nat → Nat} {cy : Nat → ClassId} (C : LCx p l s m meth c b Lx xs dC dI cy) {κ : KA} {ol od m0 : Nat} {a : Nat → Nat} {j : Nat} (hj : 7 * j + 7 ≤ Lx) (hLx : Lx ≤ 3584) {cells slots : Nat} (hce : cells + 3 ≤ 601024) (hsl : slots + 18 ≤ 7293034) (kk9 : KON p l e s m below meth c Q b dC dI cy κ ol od m0 a j (cells + 3) (slots + 18)) {σ : CS} {I : Nat → Int32} {R : vG} {y : Int64} {yd : UInt64} {H : Heap} {locs : List Loc} {ls : Array Slot} (hR : Rel σ I R) (hLB : LB dC dI cy κ ol od m0 a s σ I R y yd H locs) (hl : lv_has ls 9 (LV κ ol od m0 b j)) : W p l e room_1 s m #[Value.ref b] below meth c H locs cells slots Q (F0 m 1996 ls []) := by
  obtain ⟨hx, hb, hml, hown, hts, hX0, hbl, hE, hXV, hZ, hV, hst⟩ := C
  have hK := hE.1
  obtain ⟨hB, hBD, hS⟩ := hLB
  have hA : ∀ q, s.heap.size ≤ q → AL s q := fun _ h => h
  have hbA : ¬ AL s b := Nat.not_le.mpr hbl
  have hok := hR.ok
  obtain ⟨d0, o, bc, bt, bv, rg, cs, bs, ta, tb, z, bq, rt⟩ := κ
  obtain ⟨⟨F, ⟨G, n, sc⟩, ⟨Gt, nt, sct⟩, x, kk, RG, rn, RS⟩, ⟨Gv, nv9, scv⟩, ⟨C, N, L, fl⟩, M, ⟨Gz, nz, scz⟩, Q9, T⟩ := σ
  have hRc := hR
  obtain ⟨⟨hn, hG, hgs, esc, hS0, hS1, hag⟩, hnt, hx6, hkk, hI5, hrn, hh, hnv, hI6, hsv, hL, hI8, htx, hI9, hnz, hI10, hI11, hI12, hI13, hI14, hnn, hsm⟩ := hRc
  have hGR := okG_agr hag.symm hG
  have hl : lv_has ls 9 [(5, .int (nI (7 * j))), (4, .ref od), (3, .ref ol), (2, .ref m0), (1, .ref d0), (0, .ref b)] := hl
  refine lv_aload_n hx hb dL_law_1996 rfl (lv_at hl 4 rfl) ?_
  refine lv_aload_n hx hb dL_law_1997 rfl (lv_at hl 5 rfl) ?_
  refine lv_iload hx hb dL_law_1998 (lv_at hl 0 rfl) ?_
  refine lv_iconst (v := 1) hx hb dL_law_2000 (by decide) ?_
  refine lv_iadd hx hb dL_law_2001 ?_
  refine vn_sld hx hb hX0 hbl hbA hS (7 * j + 1) (nI_add (7 * j) 1) (by omega) (by omega) dL_law_2002 ?_
  refine lv_aload_n hx hb dL_law_2003 rfl (lv_at hl 2 rfl) ?_
  have hPc : va_P (dC, dI) vwCl (wK cy (d0, o, bc, bt, bv, rg, cs, bs, ta, tb, z, bq, rt) ((F, (G, n, sc), (Gt, nt, sct), (x, kk, RG, rn, RS)), (Gv, nv9, scv), (C, N, L, fl), (M, (Gz, nz, scz), Q9, T)) ++ oL cy ol y) H := gl_P.mpr (hB.sub (bs' := [wK cy (d0, o, bc, bt, bv, rg, cs, bs, ta, tb, z, bq, rt) ((F, (G, n, sc), (Gt, nt, sct), (x, kk, RG, rn, RS)), (Gv, nv9, scv), (C, N, L, fl), (M, (Gz, nz, scz), Q9, T)), oL cy ol y]) [0, 1] rfl)
  have hDc : va_D (AL s) (wK cy (d0, o, bc, bt, bv, rg, cs, bs, ta, tb, z, bq, rt) ((F, (G, n, sc), (Gt, nt, sct), (x, kk, RG, rn, RS)), (Gv, nv9, scv), (C, N, L, fl), (M, (Gz, nz, scz), Q9, T)) ++ oL cy ol y) := gl_D.mpr (hBD.sub (bs' := [wK cy (d0, o, bc, bt, bv, rg, cs, bs, ta, tb, z, bq, rt) ((F, (G, n, sc), (Gt, nt, sct), (x, kk, RG, rn, RS)), (Gv, nv9, scv), (C, N, L, fl), (M, (Gz, nz, scz), Q9, T)), oL cy ol y]) [0, 1] (by decide) rfl)
  have hFc : ∀ q, va_A (wK cy (d0, o, bc, bt, bv, rg, cs, bs, ta, tb, z, bq, rt) ((F, (G, n, sc), (Gt, nt, sct), (x, kk, RG, rn, RS)), (Gv, nv9, scv), (C, N, L, fl), (M, (Gz, nz, scz), Q9, T)) ++ oL cy ol y) H.size q → AL s q := BF (cb := [wK cy (d0, o, bc, bt, bv, rg, cs, bs, ta, tb, z, bq, rt) ((F, (G, n, sc), (Gt, nt, sct), (x, kk, RG, rn, RS)), (Gv, nv9, scv), (C, N, L, fl), (M, (Gz, nz, scz), Q9, T)), oL cy ol y]) hBD hS hA [0, 1] rfl
  refine lc_L (vx_runSW (As := [.ref d0, .int (xs (7 * j + 1)), .ref ol]) (rest := []) ⟨hx, hb, hml, hown, hts⟩ (c_NL_response l hst dC dI cy H.size d0 o bc bt bv rg cs bs ta tb z bq rt F G n sc Gt nt sct x kk RG rn RS Gv nv9 scv C N L fl M Gz nz scz Q9 T hok ol y (xs (7 * j + 1))) (vx_cwSW 3 hts gL_law_L_response rfl rfl rfl (by decide +kernel) ⟨Nat.le_of_ble_eq_true rfl, Nat.le_of_ble_eq_true rfl⟩) ⟨bl_L, pr_L hPc hE hDc hXV hZ hS hFc hV⟩ rfl rfl hl.1 rfl (lv_room (Nat.le_of_ble_eq_true rfl)) dL_law_2004 ⟨by show cells + 3 ≤ 601024; omega, by show slots + 18 ≤ 7293034; omega⟩) hB hBD hS (fun k u H locs hk hB hBD hS => ?_)
  clear hPc hDc hFc
  refine lv_istore (lv' := [(6, .int k), (5, .int (nI (7 * j))), (4, .ref od), (3, .ref ol), (2, .ref m0), (1, .ref d0), (0, .ref b)]) hx hb dL_law_2007 hl (by decide) rfl (fun ls hl => ?_)
  refine lv_aload_n hx hb dL_law_2009 rfl (lv_at hl 4 rfl) ?_
  refine lv_aload_n hx hb dL_law_2010 rfl (lv_at hl 6 rfl) ?_
  refine lv_iload hx hb dL_law_2011 (lv_at hl 1 rfl) ?_
  refine lv_iconst (v := 1) hx hb dL_law_2013 (by decide) ?_
  refine lv_iadd hx hb dL_law_2014 ?_
  refine vn_sld hx hb hX0 hbl hbA hS (7 * j + 1) (nI_add (7 * j) 1) (by omega) (by omega) dL_law_2015 ?_
  have hPm : va_P (dC, dI) vwCl (wMdl cy m0 a I R) H := hB _ (List.mem_of_getElem? (i := 3) rfl)
  have hDm : va_D (AL s) (wMdl cy m0 a I R) := hBD.2 _ (List.mem_of_getElem? (i := 3) rfl)
  refine lc_Mi (fun u : Nat → Int32 => u) (fun _ : Nat → Int32 => R) (va_runV (As := [.int (xs (7 * j + 1))]) (rest := []) ⟨hx, hb, hml, hown, hts⟩ (c_X5_response l dC dI cy H.size m0 a I R n hn hS0 (xs (7 * j + 1))) (cwV 1 hts gL_law_X5_response rfl rfl rfl (by decide +kernel) ⟨Nat.le_of_ble_eq_true rfl, Nat.le_of_ble_eq_true rfl⟩) ⟨bl_in, va_recv hK hPm (ci := 5) (q0 := 0) rfl rfl, pr_in hPm hE hDm⟩ rfl rfl hl.1 rfl (lv_room (Nat.le_of_ble_eq_true rfl)) dL_law_2016 ⟨by show cells + 3 + 0 ≤ 601024; omega, by show slots + 18 + 0 ≤ 7293034; omega⟩) hB hBD hS (fun b9 v H locs hm hB hBD hS => ?_)
  clear hPm hDm
  obtain ⟨t1, t2, t3⟩ := st_resp hR hk hm
  refine lv_istore (lv' := [(7, .int b9), (6, .int k), (5, .int (nI (7 * j))), (4, .ref od), (3, .ref ol), (2, .ref m0), (1, .ref d0), (0, .ref b)]) hx hb dL_law_2019 hl (by decide) rfl (fun ls hl => ?_)
  refine lv_aload_n hx hb dL_law_2021 rfl (lv_at hl 5 rfl) ?_
  have hPm : va_P (dC, dI) vwCl (wMdl cy m0 a v (R)) H := hB _ (List.mem_of_getElem? (i := 3) rfl)
  refine vp_callSi (va_runV (As := []) (rest := []) ⟨hx, hb, hml, hown, hts⟩ (c_X5_thrown l dC dI cy m0 a (v) (R)) (cwV 0 hts gL_law_X5_thrown rfl rfl rfl (by decide +kernel) ⟨Nat.le_of_ble_eq_true rfl, Nat.le_of_ble_eq_true rfl⟩) ⟨bl_ro, va_recv hK hPm (ci := 5) (q0 := 0) rfl rfl, pr_ro hPm hE⟩ rfl rfl hl.1 rfl (lv_room (Nat.le_of_ble_eq_true rfl)) dL_law_2022 ⟨by show cells + 3 + 0 + 0 ≤ 601024; omega, by show slots + 18 + 0 + 0 ≤ 7293034; omega⟩).run (fun r e_r => ?_)
  subst e_r
  refine lv_iload hx hb dL_law_2025 (lv_at hl 1 rfl) ?_
  refine lv_icmp_eq (tgt := 2032) hx hb dL_law_2027 (by decide) (fun _ => ?_) (fun h0 => absurd t1 h0)
  refine lv_iload hx hb dL_law_2032 (lv_at hl 1 rfl) ?_
  refine lv_if_ne (tgt := 2049) hx hb dL_law_2034 (by decide) (fun g0 => ?_) (fun g0 => ?_)
  · skip
    refine lv_goto (tgt := 2107) hx hb dL_law_2049 (by decide) ?_
    refine W.widen (k := cells + 3) (n := slots + 18) (by omega) (by omega) ?_
    exact kk9 _ _ _ _ _ _ _ _ t3 ⟨hB, hBD, hS⟩ (lv_sub hl [2, 3, 4, 5, 6, 7] rfl)
  have hPo : va_P (dC, dI) vwCl (oL cy ol u.2) H := hB _ (List.mem_of_getElem? (i := 1) rfl)
  refine lv_aload_n hx hb dL_law_2037 rfl (lv_at hl 4 rfl) ?_
  refine lv_iconst (v := 0) hx hb dL_law_2038 (by decide) ?_
  refine va_lald hx hb hK hPo 0 3 rfl rfl (i := 0) (by unfold vp_in; decide) dL_law_2039 ?_
  refine lv_iload hx hb dL_law_2040 (lv_at hl 0 rfl) ?_
  refine lv_i2l hx hb dL_law_2042 rfl ?_
  refine W.lcmp hx hb dL_law_2043 ?_
  refine lv_if_eq (tgt := 2049) hx hb dL_law_2044 (by decide) (fun _ => ?_) (fun h0 => absurd (by show lg_cmp u.2 b9.toInt64 = 0; rw [t2 g0]; exact lcmp_self _) h0)
  refine lv_goto (tgt := 2107) hx hb dL_law_2049 (by decide) ?_
  refine W.widen (k := cells + 3) (n := slots + 18) (by omega) (by omega) ?_
  exact kk9 _ _ _ _ _ _ _ _ t3 ⟨hB, hBD, hS⟩ (lv_sub hl [2, 3, 4, 5, 6, 7] rfl)
set_option maxHeartbeats 1000000 in
set_option maxRecDepth 100000 in
/-- call 37 of the script -/
theorem case_37 {p : Program} {l : Launch} {e : Env} {s : State} {m : MethodId} {below : List Frame} {meth : Method} {c : Code} {Q : State → Prop} {b Lx : Nat} {xs : Nat → Int32} {dC : Nat → ClassId} {dI : Nat → Nat → Nat} {cy : Nat → ClassId} (C : LCx p l s m meth c b Lx xs dC dI cy) {κ : KA} {ol od m0 : Nat} {a : Nat → Nat} {j : Nat} (hj : 7 * j + 7 ≤ Lx) (hLx : Lx ≤ 3584) {cells slots : Nat} (hce : cells + 3 ≤ 601024) (hsl : slots + 18 ≤ 7293034) (kk9 : KON p l e s m below meth c Q b dC dI cy κ ol od m0 a j (cells + 3) (slots + 18)) {σ : CS} {I : Nat → Int32} {R : vG} {y : Int64} {yd : UInt64} {H : Heap} {locs : List Loc} {ls : Array Slot} (hR : Rel σ I R) (hLB : LB dC dI cy κ ol od m0 a s σ I R y yd H locs) (hl : lv_has ls 9 (LV κ ol od m0 b j)) : W p l e room_1 s m #[Value.ref b] below meth c H locs cells slots Q (F0 m 2063 ls []) := by
  obtain ⟨hx, hb, hml, hown, hts, hX0, hbl, hE, hXV, hZ, hV, hst⟩ := C
  have hK := hE.1
  obtain ⟨hB, hBD, hS⟩ := hLB
  have hA : ∀ q, s.heap.size ≤ q → AL s q := fun _ h => h
  have hbA : ¬ AL s b := Nat.not_le.mpr hbl
  have hok := hR.ok
  obtain ⟨d0, o, bc, bt, bv, rg, cs, bs, ta, tb, z, bq, rt⟩ := κ
  obtain ⟨⟨F, ⟨G, n, sc⟩, ⟨Gt, nt, sct⟩, x, kk, RG, rn, RS⟩, ⟨Gv, nv9, scv⟩, ⟨C, N, L, fl⟩, M, ⟨Gz, nz, scz⟩, Q9, T⟩ := σ
  have hRc := hR
  obtain ⟨⟨hn, hG, hgs, esc, hS0, hS1, hag⟩, hnt, hx6, hkk, hI5, hrn, hh, hnv, hI6, hsv, hL, hI8, htx, hI9, hnz, hI10, hI11, hI12, hI13, hI14, hnn, hsm⟩ := hRc
  have hGR := okG_agr hag.symm hG
  have hl : lv_has ls 9 [(5, .int (nI (7 * j))), (4, .ref od), (3, .ref ol), (2, .ref m0), (1, .ref d0), (0, .ref b)] := hl
  refine lv_aload_n hx hb dL_law_2063 rfl (lv_at hl 4 rfl) ?_
  refine lv_aload_n hx hb dL_law_2064 rfl (lv_at hl 2 rfl) ?_
  have hPc : va_P (dC, dI) vwCl (wK cy (d0, o, bc, bt, bv, rg, cs, bs, ta, tb, z, bq, rt) ((F, (G, n, sc), (Gt, nt, sct), (x, kk, RG, rn, RS)), (Gv, nv9, scv), (C, N, L, fl), (M, (Gz, nz, scz), Q9, T)) ++ oL cy ol y) H := gl_P.mpr (hB.sub (bs' := [wK cy (d0, o, bc, bt, bv, rg, cs, bs, ta, tb, z, bq, rt) ((F, (G, n, sc), (Gt, nt, sct), (x, kk, RG, rn, RS)), (Gv, nv9, scv), (C, N, L, fl), (M, (Gz, nz, scz), Q9, T)), oL cy ol y]) [0, 1] rfl)
  have hDc : va_D (AL s) (wK cy (d0, o, bc, bt, bv, rg, cs, bs, ta, tb, z, bq, rt) ((F, (G, n, sc), (Gt, nt, sct), (x, kk, RG, rn, RS)), (Gv, nv9, scv), (C, N, L, fl), (M, (Gz, nz, scz), Q9, T)) ++ oL cy ol y) := gl_D.mpr (hBD.sub (bs' := [wK cy (d0, o, bc, bt, bv, rg, cs, bs, ta, tb, z, bq, rt) ((F, (G, n, sc), (Gt, nt, sct), (x, kk, RG, rn, RS)), (Gv, nv9, scv), (C, N, L, fl), (M, (Gz, nz, scz), Q9, T)), oL cy ol y]) [0, 1] (by decide) rfl)
  have hFc : ∀ q, va_A (wK cy (d0, o, bc, bt, bv, rg, cs, bs, ta, tb, z, bq, rt) ((F, (G, n, sc), (Gt, nt, sct), (x, kk, RG, rn, RS)), (Gv, nv9, scv), (C, N, L, fl), (M, (Gz, nz, scz), Q9, T)) ++ oL cy ol y) H.size q → AL s q := BF (cb := [wK cy (d0, o, bc, bt, bv, rg, cs, bs, ta, tb, z, bq, rt) ((F, (G, n, sc), (Gt, nt, sct), (x, kk, RG, rn, RS)), (Gv, nv9, scv), (C, N, L, fl), (M, (Gz, nz, scz), Q9, T)), oL cy ol y]) hBD hS hA [0, 1] rfl
  refine lc_L (vx_runSW (As := [.ref d0, .ref ol]) (rest := []) ⟨hx, hb, hml, hown, hts⟩ (c_L_restore l hst dC dI cy H.size d0 o bc bt bv rg cs bs ta tb z bq rt F G n sc Gt nt sct x kk RG rn RS Gv nv9 scv C N L fl M Gz nz scz Q9 T hok ol y ) (vx_cwSW 2 hts gL_law_L_restore rfl rfl rfl (by decide +kernel) ⟨Nat.le_of_ble_eq_true rfl, Nat.le_of_ble_eq_true rfl⟩) ⟨bl_L, pr_L hPc hE hDc hXV hZ hS hFc hV⟩ rfl rfl hl.1 rfl (lv_room (Nat.le_of_ble_eq_true rfl)) dL_law_2065 ⟨by show cells + 1 ≤ 601024; omega, by show slots + 6 ≤ 7293034; omega⟩) hB hBD hS (fun k u H locs hk hB hBD hS => ?_)
  clear hPc hDc hFc
  refine lv_istore (lv' := [(6, .int k), (5, .int (nI (7 * j))), (4, .ref od), (3, .ref ol), (2, .ref m0), (1, .ref d0), (0, .ref b)]) hx hb dL_law_2068 hl (by decide) rfl (fun ls hl => ?_)
  refine lv_aload_n hx hb dL_law_2070 rfl (lv_at hl 4 rfl) ?_
  have hPm : va_P (dC, dI) vwCl (wMdl cy m0 a I R) H := hB _ (List.mem_of_getElem? (i := 3) rfl)
  have hDm : va_D (AL s) (wMdl cy m0 a I R) := hBD.2 _ (List.mem_of_getElem? (i := 3) rfl)
  refine lc_Mi (fun u : (Nat → Int32) × vG => u.1) (fun u : (Nat → Int32) × vG => u.2) (va_runV (As := []) (rest := []) ⟨hx, hb, hml, hown, hts⟩ (c_X5_restore l dC dI cy H.size m0 a I R kk hkk hI5) (cwV 0 hts gL_law_X5_restore rfl rfl rfl (by decide +kernel) ⟨Nat.le_of_ble_eq_true rfl, Nat.le_of_ble_eq_true rfl⟩) ⟨bl_in, va_recv hK hPm (ci := 5) (q0 := 0) rfl rfl, pr_in hPm hE hDm⟩ rfl rfl hl.1 rfl (lv_room (Nat.le_of_ble_eq_true rfl)) dL_law_2071 ⟨by show cells + 1 + 0 ≤ 601024; omega, by show slots + 6 + 0 ≤ 7293034; omega⟩) hB hBD hS (fun b9 v H locs hm hB hBD hS => ?_)
  clear hPm hDm
  obtain ⟨t1, t2, t3⟩ := st_rest hR hk hm
  refine lv_istore (lv' := [(7, .int b9), (6, .int k), (5, .int (nI (7 * j))), (4, .ref od), (3, .ref ol), (2, .ref m0), (1, .ref d0), (0, .ref b)]) hx hb dL_law_2074 hl (by decide) rfl (fun ls hl => ?_)
  refine lv_aload_n hx hb dL_law_2076 rfl (lv_at hl 5 rfl) ?_
  have hPm : va_P (dC, dI) vwCl (wMdl cy m0 a v.1 (v.2)) H := hB _ (List.mem_of_getElem? (i := 3) rfl)
  refine vp_callSi (va_runV (As := []) (rest := []) ⟨hx, hb, hml, hown, hts⟩ (c_X5_thrown l dC dI cy m0 a (v.1) (v.2)) (cwV 0 hts gL_law_X5_thrown rfl rfl rfl (by decide +kernel) ⟨Nat.le_of_ble_eq_true rfl, Nat.le_of_ble_eq_true rfl⟩) ⟨bl_ro, va_recv hK hPm (ci := 5) (q0 := 0) rfl rfl, pr_ro hPm hE⟩ rfl rfl hl.1 rfl (lv_room (Nat.le_of_ble_eq_true rfl)) dL_law_2077 ⟨by show cells + 1 + 0 + 0 ≤ 601024; omega, by show slots + 6 + 0 + 0 ≤ 7293034; omega⟩).run (fun r e_r => ?_)
  subst e_r
  refine lv_iload hx hb dL_law_2080 (lv_at hl 1 rfl) ?_
  refine lv_icmp_eq (tgt := 2087) hx hb dL_law_2082 (by decide) (fun _ => ?_) (fun h0 => absurd t1 h0)
  refine lv_iload hx hb dL_law_2087 (lv_at hl 1 rfl) ?_
  refine lv_if_ne (tgt := 2104) hx hb dL_law_2089 (by decide) (fun g0 => ?_) (fun g0 => ?_)
  · skip
    refine lv_goto (tgt := 2107) hx hb dL_law_2104 (by decide) ?_
    refine W.widen (k := cells + 3) (n := slots + 18) (by omega) (by omega) ?_
    exact kk9 _ _ _ _ _ _ _ _ t3 ⟨hB, hBD, hS⟩ (lv_sub hl [2, 3, 4, 5, 6, 7] rfl)
  have hPo : va_P (dC, dI) vwCl (oL cy ol u.2) H := hB _ (List.mem_of_getElem? (i := 1) rfl)
  refine lv_aload_n hx hb dL_law_2092 rfl (lv_at hl 4 rfl) ?_
  refine lv_iconst (v := 0) hx hb dL_law_2093 (by decide) ?_
  refine va_lald hx hb hK hPo 0 3 rfl rfl (i := 0) (by unfold vp_in; decide) dL_law_2094 ?_
  refine lv_iload hx hb dL_law_2095 (lv_at hl 0 rfl) ?_
  refine lv_i2l hx hb dL_law_2097 rfl ?_
  refine W.lcmp hx hb dL_law_2098 ?_
  refine lv_if_eq (tgt := 2104) hx hb dL_law_2099 (by decide) (fun _ => ?_) (fun h0 => absurd (by show lg_cmp u.2 b9.toInt64 = 0; rw [t2 g0]; exact lcmp_self _) h0)
  refine lv_goto (tgt := 2107) hx hb dL_law_2104 (by decide) ?_
  refine W.widen (k := cells + 3) (n := slots + 18) (by omega) (by omega) ?_
  exact kk9 _ _ _ _ _ _ _ _ t3 ⟨hB, hBD, hS⟩ (lv_sub hl [2, 3, 4, 5, 6, 7] rfl)

/-! PART 84: the law: calls through its own methods -/
theorem c01_n {x : Int32} (h : c01 x = 0) : ¬ x = 0 := fun z => by
  unfold c01 at h
  rw [if_pos z] at h
  exact absurd h (by decide)
theorem st_dpt {F : Nat → Int32} {G : vG} {n : Nat} {sc : Int32} {Gt : vG} {nt : Nat} {sct : Int32} {x kk : Nat} {RG : Nat → vG} {rn : Nat → Nat} {RS : Nat → Int32} {Gv : vG} {nv9 : Nat} {scv : Int32} {C N : Nat → Int32} {L : Nat} {fl : Int32} {M : Nat → Int32} {Gz : vG} {nz : Nat} {scz : Int32} {Q T : vG} {I : Nat → Int32} {R : vG} (h : Rel ((F, (G, n, sc), (Gt, nt, sct), (x, kk, RG, rn, RS)), (Gv, nv9, scv), (C, N, L, fl), (M, (Gz, nz, scz), Q, T)) I R) (hag : agr (Gs (R 1)) G n) (hS1 : R 1 1 = sc) {p0 r b9 : Int32} {u : CS × Int64} {v : (Nat → Int32) × vG} (hk : rdL ((F, (G, n, sc), (Gt, nt, sct), (x, kk, RG, rn, RS)), (Gv, nv9, scv), (C, N, L, fl), (M, (Gz, nz, scz), Q, T)) (cT (dlen G n sc) p0) ((dpoint G n sc p0.toNatClampNeg).toInt64) r u) (hm : ∃ N9 : Nat → Int32, v = (upd (upd I 0 (cT (dlen (Gs (R 1)) n (R 1 1)) p0)) 23 (nI (dlen (Gs (R 1)) n (R 1 1))), upr R 22 N9) ∧ (cT (dlen (Gs (R 1)) n (R 1 1)) p0 = 0 → b9 = dpoint (Gs (R 1)) n (R 1 1) p0.toNatClampNeg)) : v.1 0 = r ∧ (r = 0 → u.2 = b9.toInt64) ∧ Rel u.1 v.1 v.2 := by
  obtain ⟨k1, k2, k3⟩ := hk
  obtain ⟨N9, m1, m2⟩ := hm
  rw [hS1, dlen_agr hag] at m1 m2
  rw [dpoint_agr hag] at m2
  rw [k1, m1, k2]
  refine ⟨rfl, fun g => by rw [k3 g, m2 g], h.cg (fun k a c => ?_) (fun k a c => ?_)⟩
  · show upd (upd I 0 _) 23 _ k = I k
    rw [pk_un (by omega), pk_un c]
  · show upr R 22 N9 k = R k
    exact if_neg (by omega)
theorem st_resp {F : Nat → Int32} {G : vG} {n : Nat} {sc : Int32} {Gt : vG} {nt : Nat} {sct : Int32} {x kk : Nat} {RG : Nat → vG} {rn : Nat → Nat} {RS : Nat → Int32} {Gv : vG} {nv9 : Nat} {scv : Int32} {C N : Nat → Int32} {L : Nat} {fl : Int32} {M : Nat → Int32} {Gz : vG} {nz : Nat} {scz : Int32} {Q T : vG} {I : Nat → Int32} {R : vG} (h : Rel ((F, (G, n, sc), (Gt, nt, sct), (x, kk, RG, rn, RS)), (Gv, nv9, scv), (C, N, L, fl), (M, (Gz, nz, scz), Q, T)) I R) {p0 r b9 : Int32} {u : CS × Int64} {v : Nat → Int32} (hk : rdL ((F, (G, n, sc), (Gt, nt, sct), (x, kk, RG, rn, RS)), (Gv, nv9, scv), (C, N, L, fl), (M, (Gz, nz, scz), Q, T)) (cRes n (F 7) (Q 5) p0) ((Q 5 p0.toNatClampNeg).toInt64) r u) (hm : v = upd I 0 (cRes n (I 14) (R 19) p0) ∧ (cRes n (I 14) (R 19) p0 = 0 → b9 = R 19 p0.toNatClampNeg)) : v 0 = r ∧ (r = 0 → u.2 = b9.toInt64) ∧ Rel u.1 v R := by
  have h9 := h
  obtain ⟨hc, hnt, hx6, hkk, hI5, hrn, hh, hnv, hI6, hsv, hL, hI8, htx, hI9, hnz, hI10, hI11, hI12, hI13, hI14, hnn, hsm⟩ := h9
  have key : cRes n (I 14) (R 19) p0 = cRes n (F 7) (Q 5) p0 := by
    rw [hI14]
    unfold cRes
    by_cases g : cT n p0 = 0
    · rw [if_pos g, if_pos g]
      by_cases g2 : F 7 = 0
      · rw [if_pos g2, if_pos g2]
      · rw [if_neg g2, if_neg g2, (hsm g2).2.2.2.2 _ (by have := cT_lt hc.1 g; have := hc.1; omega)]
    · rw [if_neg g, if_neg g]
  refine st_rv (z := b9.toInt64) h hk hm.1 key (fun g => ?_)
  have g3 := key.trans g
  rw [hm.2 g3]
  have g4 : cT n p0 = 0 := by
    unfold cRes at g
    by_cases z : cT n p0 = 0
    · exact z
    · rw [if_neg z] at g; exact absurd g (by decide)
  have g5 : ¬ F 7 = 0 := fun z => by
    unfold cRes at g
    rw [if_pos g4, if_pos z] at g
    exact absurd g (by decide)
  rw [(hsm g5).2.2.2.2 _ (by have := cT_lt hc.1 g4; have := hc.1; omega)]
set_option maxHeartbeats 1000000 in
set_option maxRecDepth 100000 in
/-- call 0 of the script -/
theorem case_0 {p : Program} {l : Launch} {e : Env} {s : State} {m : MethodId} {below : List Frame} {meth : Method} {c : Code} {Q : State → Prop} {b Lx : Nat} {xs : Nat → Int32} {dC : Nat → ClassId} {dI : Nat → Nat → Nat} {cy : Nat → ClassId} (C : LCx p l s m meth c b Lx xs dC dI cy) {κ : KA} {ol od m0 : Nat} {a : Nat → Nat} {j : Nat} (hj : 7 * j + 7 ≤ Lx) (hLx : Lx ≤ 3584) {cells slots : Nat} (hce : cells + 3 ≤ 601024) (hsl : slots + 18 ≤ 7293034) (kk9 : KON p l e s m below meth c Q b dC dI cy κ ol od m0 a j (cells + 3) (slots + 18)) {σ : CS} {I : Nat → Int32} {R : vG} {y : Int64} {yd : UInt64} {H : Heap} {locs : List Loc} {ls : Array Slot} (hR : Rel σ I R) (hLB : LB dC dI cy κ ol od m0 a s σ I R y yd H locs) (hl : lv_has ls 9 (LV κ ol od m0 b j)) : W p l e room_1 s m #[Value.ref b] below meth c H locs cells slots Q (F0 m 212 ls []) := by
  obtain ⟨hx, hb, hml, hown, hts, hX0, hbl, hE, hXV, hZ, hV, hst⟩ := C
  have hK := hE.1
  obtain ⟨hB, hBD, hS⟩ := hLB
  have hA : ∀ q, s.heap.size ≤ q → AL s q := fun _ h => h
  have hbA : ¬ AL s b := Nat.not_le.mpr hbl
  have hok := hR.ok
  obtain ⟨d0, o, bc, bt, bv, rg, cs, bs, ta, tb, z, bq, rt⟩ := κ
  obtain ⟨⟨F, ⟨G, n, sc⟩, ⟨Gt, nt, sct⟩, x, kk, RG, rn, RS⟩, ⟨Gv, nv9, scv⟩, ⟨C, N, L, fl⟩, M, ⟨Gz, nz, scz⟩, Q9, T⟩ := σ
  have hRc := hR
  obtain ⟨⟨hn, hG, hgs, esc, hS0, hS1, hag⟩, hnt, hx6, hkk, hI5, hrn, hh, hnv, hI6, hsv, hL, hI8, htx, hI9, hnz, hI10, hI11, hI12, hI13, hI14, hnn, hsm⟩ := hRc
  have hGR := okG_agr hag.symm hG
  have hl : lv_has ls 9 [(5, .int (nI (7 * j))), (4, .ref od), (3, .ref ol), (2, .ref m0), (1, .ref d0), (0, .ref b)] := hl
  refine lv_aload_n hx hb dL_law_212 rfl (lv_at hl 4 rfl) ?_
  refine lv_aload_n hx hb dL_law_213 rfl (lv_at hl 5 rfl) ?_
  refine lv_iload hx hb dL_law_214 (lv_at hl 0 rfl) ?_
  refine lv_iconst (v := 1) hx hb dL_law_216 (by decide) ?_
  refine lv_iadd hx hb dL_law_217 ?_
  refine vn_sld hx hb hX0 hbl hbA hS (7 * j + 1) (nI_add (7 * j) 1) (by omega) (by omega) dL_law_218 ?_
  refine lv_aload_n hx hb dL_law_219 rfl (lv_at hl 5 rfl) ?_
  refine lv_iload hx hb dL_law_220 (lv_at hl 0 rfl) ?_
  refine lv_iconst (v := 2) hx hb dL_law_222 (by decide) ?_
  refine lv_iadd hx hb dL_law_223 ?_
  refine vn_sld hx hb hX0 hbl hbA hS (7 * j + 2) (nI_add (7 * j) 2) (by omega) (by omega) dL_law_224 ?_
  refine lv_aload_n hx hb dL_law_225 rfl (lv_at hl 5 rfl) ?_
  refine lv_iload hx hb dL_law_226 (lv_at hl 0 rfl) ?_
  refine lv_iconst (v := 3) hx hb dL_law_228 (by decide) ?_
  refine lv_iadd hx hb dL_law_229 ?_
  refine vn_sld hx hb hX0 hbl hbA hS (7 * j + 3) (nI_add (7 * j) 3) (by omega) (by omega) dL_law_230 ?_
  refine lv_aload_n hx hb dL_law_231 rfl (lv_at hl 5 rfl) ?_
  refine lv_iload hx hb dL_law_232 (lv_at hl 0 rfl) ?_
  refine lv_iconst (v := 4) hx hb dL_law_234 (by decide) ?_
  refine lv_iadd hx hb dL_law_235 ?_
  refine vn_sld hx hb hX0 hbl hbA hS (7 * j + 4) (nI_add (7 * j) 4) (by omega) (by omega) dL_law_236 ?_
  refine lv_aload_n hx hb dL_law_237 rfl (lv_at hl 5 rfl) ?_
  refine lv_iload hx hb dL_law_238 (lv_at hl 0 rfl) ?_
  refine lv_iconst (v := 5) hx hb dL_law_240 (by decide) ?_
  refine lv_iadd hx hb dL_law_241 ?_
  refine vn_sld hx hb hX0 hbl hbA hS (7 * j + 5) (nI_add (7 * j) 5) (by omega) (by omega) dL_law_242 ?_
  refine lv_aload_n hx hb dL_law_243 rfl (lv_at hl 5 rfl) ?_
  refine lv_iload hx hb dL_law_244 (lv_at hl 0 rfl) ?_
  refine lv_bipush (v := 6) hx hb dL_law_246 (by decide) ?_
  refine lv_iadd hx hb dL_law_248 ?_
  refine vn_sld hx hb hX0 hbl hbA hS (7 * j + 6) (nI_add (7 * j) 6) (by omega) (by omega) dL_law_249 ?_
  refine lv_aload_n hx hb dL_law_250 rfl (lv_at hl 2 rfl) ?_
  have hPc : va_P (dC, dI) vwCl (wK cy (d0, o, bc, bt, bv, rg, cs, bs, ta, tb, z, bq, rt) ((F, (G, n, sc), (Gt, nt, sct), (x, kk, RG, rn, RS)), (Gv, nv9, scv), (C, N, L, fl), (M, (Gz, nz, scz), Q9, T)) ++ oL cy ol y) H := gl_P.mpr (hB.sub (bs' := [wK cy (d0, o, bc, bt, bv, rg, cs, bs, ta, tb, z, bq, rt) ((F, (G, n, sc), (Gt, nt, sct), (x, kk, RG, rn, RS)), (Gv, nv9, scv), (C, N, L, fl), (M, (Gz, nz, scz), Q9, T)), oL cy ol y]) [0, 1] rfl)
  have hDc : va_D (AL s) (wK cy (d0, o, bc, bt, bv, rg, cs, bs, ta, tb, z, bq, rt) ((F, (G, n, sc), (Gt, nt, sct), (x, kk, RG, rn, RS)), (Gv, nv9, scv), (C, N, L, fl), (M, (Gz, nz, scz), Q9, T)) ++ oL cy ol y) := gl_D.mpr (hBD.sub (bs' := [wK cy (d0, o, bc, bt, bv, rg, cs, bs, ta, tb, z, bq, rt) ((F, (G, n, sc), (Gt, nt, sct), (x, kk, RG, rn, RS)), (Gv, nv9, scv), (C, N, L, fl), (M, (Gz, nz, scz), Q9, T)), oL cy ol y]) [0, 1] (by decide) rfl)
  have hFc : ∀ q, va_A (wK cy (d0, o, bc, bt, bv, rg, cs, bs, ta, tb, z, bq, rt) ((F, (G, n, sc), (Gt, nt, sct), (x, kk, RG, rn, RS)), (Gv, nv9, scv), (C, N, L, fl), (M, (Gz, nz, scz), Q9, T)) ++ oL cy ol y) H.size q → AL s q := BF (cb := [wK cy (d0, o, bc, bt, bv, rg, cs, bs, ta, tb, z, bq, rt) ((F, (G, n, sc), (Gt, nt, sct), (x, kk, RG, rn, RS)), (Gv, nv9, scv), (C, N, L, fl), (M, (Gz, nz, scz), Q9, T)), oL cy ol y]) hBD hS hA [0, 1] rfl
  refine lc_L (vx_runSW (As := [.ref d0, .int (xs (7 * j + 1)), .int (xs (7 * j + 2)), .int (xs (7 * j + 3)), .int (xs (7 * j + 4)), .int (xs (7 * j + 5)), .int (xs (7 * j + 6)), .ref ol]) (rest := []) ⟨hx, hb, hml, hown, hts⟩ (c_L_propose l hst dC dI cy H.size d0 o bc bt bv rg cs bs ta tb z bq rt F G n sc Gt nt sct x kk RG rn RS Gv nv9 scv C N L fl M Gz nz scz Q9 T hok ol y (xs (7 * j + 1)) (xs (7 * j + 2)) (xs (7 * j + 3)) (xs (7 * j + 4)) (xs (7 * j + 5)) (xs (7 * j + 6))) (vx_cwSW 8 hts gL_law_L_propose rfl rfl rfl (by decide +kernel) ⟨Nat.le_of_ble_eq_true rfl, Nat.le_of_ble_eq_true rfl⟩) ⟨bl_L, pr_L hPc hE hDc hXV hZ hS hFc hV⟩ rfl rfl hl.1 rfl (lv_room (Nat.le_of_ble_eq_true rfl)) dL_law_251 ⟨by show cells + 1 ≤ 601024; omega, by show slots + 6 ≤ 7293034; omega⟩) hB hBD hS (fun k u H locs hk hB hBD hS => ?_)
  clear hPc hDc hFc
  refine lv_istore (lv' := [(6, .int k), (5, .int (nI (7 * j))), (4, .ref od), (3, .ref ol), (2, .ref m0), (1, .ref d0), (0, .ref b)]) hx hb dL_law_254 hl (by decide) rfl (fun ls hl => ?_)
  refine lv_aload_n hx hb dL_law_256 rfl (lv_at hl 4 rfl) ?_
  refine lv_aload_n hx hb dL_law_257 rfl (lv_at hl 6 rfl) ?_
  refine lv_iload hx hb dL_law_258 (lv_at hl 1 rfl) ?_
  refine lv_iconst (v := 1) hx hb dL_law_260 (by decide) ?_
  refine lv_iadd hx hb dL_law_261 ?_
  refine vn_sld hx hb hX0 hbl hbA hS (7 * j + 1) (nI_add (7 * j) 1) (by omega) (by omega) dL_law_262 ?_
  refine lv_aload_n hx hb dL_law_263 rfl (lv_at hl 6 rfl) ?_
  refine lv_iload hx hb dL_law_264 (lv_at hl 1 rfl) ?_
  refine lv_iconst (v := 2) hx hb dL_law_266 (by decide) ?_
  refine lv_iadd hx hb dL_law_267 ?_
  refine vn_sld hx hb hX0 hbl hbA hS (7 * j + 2) (nI_add (7 * j) 2) (by omega) (by omega) dL_law_268 ?_
  refine lv_aload_n hx hb dL_law_269 rfl (lv_at hl 6 rfl) ?_
  refine lv_iload hx hb dL_law_270 (lv_at hl 1 rfl) ?_
  refine lv_iconst (v := 3) hx hb dL_law_272 (by decide) ?_
  refine lv_iadd hx hb dL_law_273 ?_
  refine vn_sld hx hb hX0 hbl hbA hS (7 * j + 3) (nI_add (7 * j) 3) (by omega) (by omega) dL_law_274 ?_
  refine lv_aload_n hx hb dL_law_275 rfl (lv_at hl 6 rfl) ?_
  refine lv_iload hx hb dL_law_276 (lv_at hl 1 rfl) ?_
  refine lv_iconst (v := 4) hx hb dL_law_278 (by decide) ?_
  refine lv_iadd hx hb dL_law_279 ?_
  refine vn_sld hx hb hX0 hbl hbA hS (7 * j + 4) (nI_add (7 * j) 4) (by omega) (by omega) dL_law_280 ?_
  refine lv_aload_n hx hb dL_law_281 rfl (lv_at hl 6 rfl) ?_
  refine lv_iload hx hb dL_law_282 (lv_at hl 1 rfl) ?_
  refine lv_iconst (v := 5) hx hb dL_law_284 (by decide) ?_
  refine lv_iadd hx hb dL_law_285 ?_
  refine vn_sld hx hb hX0 hbl hbA hS (7 * j + 5) (nI_add (7 * j) 5) (by omega) (by omega) dL_law_286 ?_
  refine lv_aload_n hx hb dL_law_287 rfl (lv_at hl 6 rfl) ?_
  refine lv_iload hx hb dL_law_288 (lv_at hl 1 rfl) ?_
  refine lv_bipush (v := 6) hx hb dL_law_290 (by decide) ?_
  refine lv_iadd hx hb dL_law_292 ?_
  refine vn_sld hx hb hX0 hbl hbA hS (7 * j + 6) (nI_add (7 * j) 6) (by omega) (by omega) dL_law_293 ?_
  have hPm : va_P (dC, dI) vwCl (wMdl cy m0 a I R) H := hB _ (List.mem_of_getElem? (i := 3) rfl)
  have hDm : va_D (AL s) (wMdl cy m0 a I R) := hBD.2 _ (List.mem_of_getElem? (i := 3) rfl)
  refine lc_Mi (fun u : (Nat → Int32) × vG => u.1) (fun u : (Nat → Int32) × vG => u.2) (va_runV (As := [.int (xs (7 * j + 1)), .int (xs (7 * j + 2)), .int (xs (7 * j + 3)), .int (xs (7 * j + 4)), .int (xs (7 * j + 5)), .int (xs (7 * j + 6))]) (rest := []) ⟨hx, hb, hml, hown, hts⟩ (c_X5_propose l dC dI cy H.size m0 a I R n hn hS0 G hag hG kk hkk hI5 (xs (7 * j + 1)) (xs (7 * j + 2)) (xs (7 * j + 3)) (xs (7 * j + 4)) (xs (7 * j + 5)) (xs (7 * j + 6))) (cwV 6 hts gL_law_X5_propose rfl rfl rfl (by decide +kernel) ⟨Nat.le_of_ble_eq_true rfl, Nat.le_of_ble_eq_true rfl⟩) ⟨bl_in, va_recv hK hPm (ci := 5) (q0 := 0) rfl rfl, pr_in hPm hE hDm⟩ rfl rfl hl.1 rfl (lv_room (Nat.le_of_ble_eq_true rfl)) dL_law_294 ⟨by show cells + 1 + 0 ≤ 601024; omega, by show slots + 6 + 0 ≤ 7293034; omega⟩) hB hBD hS (fun b9 v H locs hm hB hBD hS => ?_)
  clear hPm hDm
  obtain ⟨t1, t2, t3⟩ := st_prop hR hk hm
  refine lv_istore (lv' := [(7, .int b9), (6, .int k), (5, .int (nI (7 * j))), (4, .ref od), (3, .ref ol), (2, .ref m0), (1, .ref d0), (0, .ref b)]) hx hb dL_law_297 hl (by decide) rfl (fun ls hl => ?_)
  refine lv_aload_n hx hb dL_law_299 rfl (lv_at hl 5 rfl) ?_
  have hPm : va_P (dC, dI) vwCl (wMdl cy m0 a v.1 (v.2)) H := hB _ (List.mem_of_getElem? (i := 3) rfl)
  refine vp_callSi (va_runV (As := []) (rest := []) ⟨hx, hb, hml, hown, hts⟩ (c_X5_thrown l dC dI cy m0 a (v.1) (v.2)) (cwV 0 hts gL_law_X5_thrown rfl rfl rfl (by decide +kernel) ⟨Nat.le_of_ble_eq_true rfl, Nat.le_of_ble_eq_true rfl⟩) ⟨bl_ro, va_recv hK hPm (ci := 5) (q0 := 0) rfl rfl, pr_ro hPm hE⟩ rfl rfl hl.1 rfl (lv_room (Nat.le_of_ble_eq_true rfl)) dL_law_300 ⟨by show cells + 1 + 0 + 0 ≤ 601024; omega, by show slots + 6 + 0 + 0 ≤ 7293034; omega⟩).run (fun r e_r => ?_)
  subst e_r
  refine lv_iload hx hb dL_law_303 (lv_at hl 1 rfl) ?_
  refine lv_icmp_eq (tgt := 310) hx hb dL_law_305 (by decide) (fun _ => ?_) (fun h0 => absurd t1 h0)
  refine lv_iload hx hb dL_law_310 (lv_at hl 1 rfl) ?_
  refine lv_if_ne (tgt := 327) hx hb dL_law_312 (by decide) (fun g0 => ?_) (fun g0 => ?_)
  · skip
    refine lv_goto (tgt := 2107) hx hb dL_law_327 (by decide) ?_
    refine W.widen (k := cells + 3) (n := slots + 18) (by omega) (by omega) ?_
    exact kk9 _ _ _ _ _ _ _ _ t3 ⟨hB, hBD, hS⟩ (lv_sub hl [2, 3, 4, 5, 6, 7] rfl)
  have hPo : va_P (dC, dI) vwCl (oL cy ol u.2) H := hB _ (List.mem_of_getElem? (i := 1) rfl)
  refine lv_aload_n hx hb dL_law_315 rfl (lv_at hl 4 rfl) ?_
  refine lv_iconst (v := 0) hx hb dL_law_316 (by decide) ?_
  refine va_lald hx hb hK hPo 0 3 rfl rfl (i := 0) (by unfold vp_in; decide) dL_law_317 ?_
  refine lv_iload hx hb dL_law_318 (lv_at hl 0 rfl) ?_
  refine lv_i2l hx hb dL_law_320 rfl ?_
  refine W.lcmp hx hb dL_law_321 ?_
  refine lv_if_eq (tgt := 327) hx hb dL_law_322 (by decide) (fun _ => ?_) (fun h0 => absurd (by show lg_cmp u.2 b9.toInt64 = 0; rw [t2 g0]; exact lcmp_self _) h0)
  refine lv_goto (tgt := 2107) hx hb dL_law_327 (by decide) ?_
  refine W.widen (k := cells + 3) (n := slots + 18) (by omega) (by omega) ?_
  exact kk9 _ _ _ _ _ _ _ _ t3 ⟨hB, hBD, hS⟩ (lv_sub hl [2, 3, 4, 5, 6, 7] rfl)
set_option maxHeartbeats 1000000 in
set_option maxRecDepth 100000 in
/-- call 1 of the script -/
theorem case_1 {p : Program} {l : Launch} {e : Env} {s : State} {m : MethodId} {below : List Frame} {meth : Method} {c : Code} {Q : State → Prop} {b Lx : Nat} {xs : Nat → Int32} {dC : Nat → ClassId} {dI : Nat → Nat → Nat} {cy : Nat → ClassId} (C : LCx p l s m meth c b Lx xs dC dI cy) {κ : KA} {ol od m0 : Nat} {a : Nat → Nat} {j : Nat} (hj : 7 * j + 7 ≤ Lx) (hLx : Lx ≤ 3584) {cells slots : Nat} (hce : cells + 3 ≤ 601024) (hsl : slots + 18 ≤ 7293034) (kk9 : KON p l e s m below meth c Q b dC dI cy κ ol od m0 a j (cells + 3) (slots + 18)) {σ : CS} {I : Nat → Int32} {R : vG} {y : Int64} {yd : UInt64} {H : Heap} {locs : List Loc} {ls : Array Slot} (hR : Rel σ I R) (hLB : LB dC dI cy κ ol od m0 a s σ I R y yd H locs) (hl : lv_has ls 9 (LV κ ol od m0 b j)) : W p l e room_1 s m #[Value.ref b] below meth c H locs cells slots Q (F0 m 330 ls []) := by
  obtain ⟨hx, hb, hml, hown, hts, hX0, hbl, hE, hXV, hZ, hV, hst⟩ := C
  have hK := hE.1
  obtain ⟨hB, hBD, hS⟩ := hLB
  have hA : ∀ q, s.heap.size ≤ q → AL s q := fun _ h => h
  have hbA : ¬ AL s b := Nat.not_le.mpr hbl
  have hok := hR.ok
  obtain ⟨d0, o, bc, bt, bv, rg, cs, bs, ta, tb, z, bq, rt⟩ := κ
  obtain ⟨⟨F, ⟨G, n, sc⟩, ⟨Gt, nt, sct⟩, x, kk, RG, rn, RS⟩, ⟨Gv, nv9, scv⟩, ⟨C, N, L, fl⟩, M, ⟨Gz, nz, scz⟩, Q9, T⟩ := σ
  have hRc := hR
  obtain ⟨⟨hn, hG, hgs, esc, hS0, hS1, hag⟩, hnt, hx6, hkk, hI5, hrn, hh, hnv, hI6, hsv, hL, hI8, htx, hI9, hnz, hI10, hI11, hI12, hI13, hI14, hnn, hsm⟩ := hRc
  have hGR := okG_agr hag.symm hG
  have hl : lv_has ls 9 [(5, .int (nI (7 * j))), (4, .ref od), (3, .ref ol), (2, .ref m0), (1, .ref d0), (0, .ref b)] := hl
  refine lv_aload_n hx hb dL_law_330 rfl (lv_at hl 4 rfl) ?_
  refine lv_aload_n hx hb dL_law_331 rfl (lv_at hl 2 rfl) ?_
  have hPc : va_P (dC, dI) vwCl (wK cy (d0, o, bc, bt, bv, rg, cs, bs, ta, tb, z, bq, rt) ((F, (G, n, sc), (Gt, nt, sct), (x, kk, RG, rn, RS)), (Gv, nv9, scv), (C, N, L, fl), (M, (Gz, nz, scz), Q9, T)) ++ oL cy ol y) H := gl_P.mpr (hB.sub (bs' := [wK cy (d0, o, bc, bt, bv, rg, cs, bs, ta, tb, z, bq, rt) ((F, (G, n, sc), (Gt, nt, sct), (x, kk, RG, rn, RS)), (Gv, nv9, scv), (C, N, L, fl), (M, (Gz, nz, scz), Q9, T)), oL cy ol y]) [0, 1] rfl)
  have hDc : va_D (AL s) (wK cy (d0, o, bc, bt, bv, rg, cs, bs, ta, tb, z, bq, rt) ((F, (G, n, sc), (Gt, nt, sct), (x, kk, RG, rn, RS)), (Gv, nv9, scv), (C, N, L, fl), (M, (Gz, nz, scz), Q9, T)) ++ oL cy ol y) := gl_D.mpr (hBD.sub (bs' := [wK cy (d0, o, bc, bt, bv, rg, cs, bs, ta, tb, z, bq, rt) ((F, (G, n, sc), (Gt, nt, sct), (x, kk, RG, rn, RS)), (Gv, nv9, scv), (C, N, L, fl), (M, (Gz, nz, scz), Q9, T)), oL cy ol y]) [0, 1] (by decide) rfl)
  have hFc : ∀ q, va_A (wK cy (d0, o, bc, bt, bv, rg, cs, bs, ta, tb, z, bq, rt) ((F, (G, n, sc), (Gt, nt, sct), (x, kk, RG, rn, RS)), (Gv, nv9, scv), (C, N, L, fl), (M, (Gz, nz, scz), Q9, T)) ++ oL cy ol y) H.size q → AL s q := BF (cb := [wK cy (d0, o, bc, bt, bv, rg, cs, bs, ta, tb, z, bq, rt) ((F, (G, n, sc), (Gt, nt, sct), (x, kk, RG, rn, RS)), (Gv, nv9, scv), (C, N, L, fl), (M, (Gz, nz, scz), Q9, T)), oL cy ol y]) hBD hS hA [0, 1] rfl
  refine lc_L (vx_runSW (As := [.ref d0, .ref ol]) (rest := []) ⟨hx, hb, hml, hown, hts⟩ (c_L_proposeText l hst dC dI cy H.size d0 o bc bt bv rg cs bs ta tb z bq rt F G n sc Gt nt sct x kk RG rn RS Gv nv9 scv C N L fl M Gz nz scz Q9 T hok ol y ) (vx_cwSW 2 hts gL_law_L_proposeText rfl rfl rfl (by decide +kernel) ⟨Nat.le_of_ble_eq_true rfl, Nat.le_of_ble_eq_true rfl⟩) ⟨bl_L, pr_L hPc hE hDc hXV hZ hS hFc hV⟩ rfl rfl hl.1 rfl (lv_room (Nat.le_of_ble_eq_true rfl)) dL_law_332 ⟨by show cells + 1 ≤ 601024; omega, by show slots + 6 ≤ 7293034; omega⟩) hB hBD hS (fun k u H locs hk hB hBD hS => ?_)
  clear hPc hDc hFc
  refine lv_istore (lv' := [(6, .int k), (5, .int (nI (7 * j))), (4, .ref od), (3, .ref ol), (2, .ref m0), (1, .ref d0), (0, .ref b)]) hx hb dL_law_335 hl (by decide) rfl (fun ls hl => ?_)
  refine lv_aload_n hx hb dL_law_337 rfl (lv_at hl 4 rfl) ?_
  have hPm : va_P (dC, dI) vwCl (wMdl cy m0 a I R) H := hB _ (List.mem_of_getElem? (i := 3) rfl)
  have hDm : va_D (AL s) (wMdl cy m0 a I R) := hBD.2 _ (List.mem_of_getElem? (i := 3) rfl)
  refine lc_Mi (fun u : (Nat → Int32) × vG => u.1) (fun u : (Nat → Int32) × vG => u.2) (va_runV (As := []) (rest := []) ⟨hx, hb, hml, hown, hts⟩ (c_X5_proposeText l dC dI cy H.size m0 a I R n hn hS0 G hag hG kk hkk hI5 L hL hI8) (cwV 0 hts gL_law_X5_proposeText rfl rfl rfl (by decide +kernel) ⟨Nat.le_of_ble_eq_true rfl, Nat.le_of_ble_eq_true rfl⟩) ⟨bl_in, va_recv hK hPm (ci := 5) (q0 := 0) rfl rfl, pr_in hPm hE hDm⟩ rfl rfl hl.1 rfl (lv_room (Nat.le_of_ble_eq_true rfl)) dL_law_338 ⟨by show cells + 1 + 0 ≤ 601024; omega, by show slots + 6 + 0 ≤ 7293034; omega⟩) hB hBD hS (fun b9 v H locs hm hB hBD hS => ?_)
  clear hPm hDm
  obtain ⟨t1, t2, t3⟩ := st_ptext hR hk hm
  refine lv_istore (lv' := [(7, .int b9), (6, .int k), (5, .int (nI (7 * j))), (4, .ref od), (3, .ref ol), (2, .ref m0), (1, .ref d0), (0, .ref b)]) hx hb dL_law_341 hl (by decide) rfl (fun ls hl => ?_)
  refine lv_aload_n hx hb dL_law_343 rfl (lv_at hl 5 rfl) ?_
  have hPm : va_P (dC, dI) vwCl (wMdl cy m0 a v.1 (v.2)) H := hB _ (List.mem_of_getElem? (i := 3) rfl)
  refine vp_callSi (va_runV (As := []) (rest := []) ⟨hx, hb, hml, hown, hts⟩ (c_X5_thrown l dC dI cy m0 a (v.1) (v.2)) (cwV 0 hts gL_law_X5_thrown rfl rfl rfl (by decide +kernel) ⟨Nat.le_of_ble_eq_true rfl, Nat.le_of_ble_eq_true rfl⟩) ⟨bl_ro, va_recv hK hPm (ci := 5) (q0 := 0) rfl rfl, pr_ro hPm hE⟩ rfl rfl hl.1 rfl (lv_room (Nat.le_of_ble_eq_true rfl)) dL_law_344 ⟨by show cells + 1 + 0 + 0 ≤ 601024; omega, by show slots + 6 + 0 + 0 ≤ 7293034; omega⟩).run (fun r e_r => ?_)
  subst e_r
  refine lv_iload hx hb dL_law_347 (lv_at hl 1 rfl) ?_
  refine lv_icmp_eq (tgt := 354) hx hb dL_law_349 (by decide) (fun _ => ?_) (fun h0 => absurd t1 h0)
  refine lv_iload hx hb dL_law_354 (lv_at hl 1 rfl) ?_
  refine lv_if_ne (tgt := 371) hx hb dL_law_356 (by decide) (fun g0 => ?_) (fun g0 => ?_)
  · skip
    refine lv_goto (tgt := 2107) hx hb dL_law_371 (by decide) ?_
    refine W.widen (k := cells + 3) (n := slots + 18) (by omega) (by omega) ?_
    exact kk9 _ _ _ _ _ _ _ _ t3 ⟨hB, hBD, hS⟩ (lv_sub hl [2, 3, 4, 5, 6, 7] rfl)
  have hPo : va_P (dC, dI) vwCl (oL cy ol u.2) H := hB _ (List.mem_of_getElem? (i := 1) rfl)
  refine lv_aload_n hx hb dL_law_359 rfl (lv_at hl 4 rfl) ?_
  refine lv_iconst (v := 0) hx hb dL_law_360 (by decide) ?_
  refine va_lald hx hb hK hPo 0 3 rfl rfl (i := 0) (by unfold vp_in; decide) dL_law_361 ?_
  refine lv_iload hx hb dL_law_362 (lv_at hl 0 rfl) ?_
  refine lv_i2l hx hb dL_law_364 rfl ?_
  refine W.lcmp hx hb dL_law_365 ?_
  refine lv_if_eq (tgt := 371) hx hb dL_law_366 (by decide) (fun _ => ?_) (fun h0 => absurd (by show lg_cmp u.2 b9.toInt64 = 0; rw [t2 g0]; exact lcmp_self _) h0)
  refine lv_goto (tgt := 2107) hx hb dL_law_371 (by decide) ?_
  refine W.widen (k := cells + 3) (n := slots + 18) (by omega) (by omega) ?_
  exact kk9 _ _ _ _ _ _ _ _ t3 ⟨hB, hBD, hS⟩ (lv_sub hl [2, 3, 4, 5, 6, 7] rfl)
set_option maxHeartbeats 1000000 in
set_option maxRecDepth 100000 in
/-- call 2 of the script -/
theorem case_2 {p : Program} {l : Launch} {e : Env} {s : State} {m : MethodId} {below : List Frame} {meth : Method} {c : Code} {Q : State → Prop} {b Lx : Nat} {xs : Nat → Int32} {dC : Nat → ClassId} {dI : Nat → Nat → Nat} {cy : Nat → ClassId} (C : LCx p l s m meth c b Lx xs dC dI cy) {κ : KA} {ol od m0 : Nat} {a : Nat → Nat} {j : Nat} (hj : 7 * j + 7 ≤ Lx) (hLx : Lx ≤ 3584) {cells slots : Nat} (hce : cells + 3 ≤ 601024) (hsl : slots + 18 ≤ 7293034) (kk9 : KON p l e s m below meth c Q b dC dI cy κ ol od m0 a j (cells + 3) (slots + 18)) {σ : CS} {I : Nat → Int32} {R : vG} {y : Int64} {yd : UInt64} {H : Heap} {locs : List Loc} {ls : Array Slot} (hR : Rel σ I R) (hLB : LB dC dI cy κ ol od m0 a s σ I R y yd H locs) (hl : lv_has ls 9 (LV κ ol od m0 b j)) : W p l e room_1 s m #[Value.ref b] below meth c H locs cells slots Q (F0 m 374 ls []) := by
  obtain ⟨hx, hb, hml, hown, hts, hX0, hbl, hE, hXV, hZ, hV, hst⟩ := C
  have hK := hE.1
  obtain ⟨hB, hBD, hS⟩ := hLB
  have hA : ∀ q, s.heap.size ≤ q → AL s q := fun _ h => h
  have hbA : ¬ AL s b := Nat.not_le.mpr hbl
  have hok := hR.ok
  obtain ⟨d0, o, bc, bt, bv, rg, cs, bs, ta, tb, z, bq, rt⟩ := κ
  obtain ⟨⟨F, ⟨G, n, sc⟩, ⟨Gt, nt, sct⟩, x, kk, RG, rn, RS⟩, ⟨Gv, nv9, scv⟩, ⟨C, N, L, fl⟩, M, ⟨Gz, nz, scz⟩, Q9, T⟩ := σ
  have hRc := hR
  obtain ⟨⟨hn, hG, hgs, esc, hS0, hS1, hag⟩, hnt, hx6, hkk, hI5, hrn, hh, hnv, hI6, hsv, hL, hI8, htx, hI9, hnz, hI10, hI11, hI12, hI13, hI14, hnn, hsm⟩ := hRc
  have hGR := okG_agr hag.symm hG
  have hl : lv_has ls 9 [(5, .int (nI (7 * j))), (4, .ref od), (3, .ref ol), (2, .ref m0), (1, .ref d0), (0, .ref b)] := hl
  refine lv_aload_n hx hb dL_law_374 rfl (lv_at hl 4 rfl) ?_
  refine lv_aload_n hx hb dL_law_375 rfl (lv_at hl 5 rfl) ?_
  refine lv_iload hx hb dL_law_376 (lv_at hl 0 rfl) ?_
  refine lv_iconst (v := 1) hx hb dL_law_378 (by decide) ?_
  refine lv_iadd hx hb dL_law_379 ?_
  refine vn_sld hx hb hX0 hbl hbA hS (7 * j + 1) (nI_add (7 * j) 1) (by omega) (by omega) dL_law_380 ?_
  refine lv_aload_n hx hb dL_law_381 rfl (lv_at hl 2 rfl) ?_
  have hPc : va_P (dC, dI) vwCl (wK cy (d0, o, bc, bt, bv, rg, cs, bs, ta, tb, z, bq, rt) ((F, (G, n, sc), (Gt, nt, sct), (x, kk, RG, rn, RS)), (Gv, nv9, scv), (C, N, L, fl), (M, (Gz, nz, scz), Q9, T)) ++ oL cy ol y) H := gl_P.mpr (hB.sub (bs' := [wK cy (d0, o, bc, bt, bv, rg, cs, bs, ta, tb, z, bq, rt) ((F, (G, n, sc), (Gt, nt, sct), (x, kk, RG, rn, RS)), (Gv, nv9, scv), (C, N, L, fl), (M, (Gz, nz, scz), Q9, T)), oL cy ol y]) [0, 1] rfl)
  have hDc : va_D (AL s) (wK cy (d0, o, bc, bt, bv, rg, cs, bs, ta, tb, z, bq, rt) ((F, (G, n, sc), (Gt, nt, sct), (x, kk, RG, rn, RS)), (Gv, nv9, scv), (C, N, L, fl), (M, (Gz, nz, scz), Q9, T)) ++ oL cy ol y) := gl_D.mpr (hBD.sub (bs' := [wK cy (d0, o, bc, bt, bv, rg, cs, bs, ta, tb, z, bq, rt) ((F, (G, n, sc), (Gt, nt, sct), (x, kk, RG, rn, RS)), (Gv, nv9, scv), (C, N, L, fl), (M, (Gz, nz, scz), Q9, T)), oL cy ol y]) [0, 1] (by decide) rfl)
  have hFc : ∀ q, va_A (wK cy (d0, o, bc, bt, bv, rg, cs, bs, ta, tb, z, bq, rt) ((F, (G, n, sc), (Gt, nt, sct), (x, kk, RG, rn, RS)), (Gv, nv9, scv), (C, N, L, fl), (M, (Gz, nz, scz), Q9, T)) ++ oL cy ol y) H.size q → AL s q := BF (cb := [wK cy (d0, o, bc, bt, bv, rg, cs, bs, ta, tb, z, bq, rt) ((F, (G, n, sc), (Gt, nt, sct), (x, kk, RG, rn, RS)), (Gv, nv9, scv), (C, N, L, fl), (M, (Gz, nz, scz), Q9, T)), oL cy ol y]) hBD hS hA [0, 1] rfl
  refine lc_L (vx_runSW (As := [.ref d0, .int (xs (7 * j + 1)), .ref ol]) (rest := []) ⟨hx, hb, hml, hown, hts⟩ (c_L_appendCharacter l hst dC dI cy H.size d0 o bc bt bv rg cs bs ta tb z bq rt F G n sc Gt nt sct x kk RG rn RS Gv nv9 scv C N L fl M Gz nz scz Q9 T hok ol y (xs (7 * j + 1))) (vx_cwSW 3 hts gL_law_L_appendCharacter rfl rfl rfl (by decide +kernel) ⟨Nat.le_of_ble_eq_true rfl, Nat.le_of_ble_eq_true rfl⟩) ⟨bl_L, pr_L hPc hE hDc hXV hZ hS hFc hV⟩ rfl rfl hl.1 rfl (lv_room (Nat.le_of_ble_eq_true rfl)) dL_law_382 ⟨by show cells + 1 ≤ 601024; omega, by show slots + 6 ≤ 7293034; omega⟩) hB hBD hS (fun k u H locs hk hB hBD hS => ?_)
  clear hPc hDc hFc
  refine lv_istore (lv' := [(6, .int k), (5, .int (nI (7 * j))), (4, .ref od), (3, .ref ol), (2, .ref m0), (1, .ref d0), (0, .ref b)]) hx hb dL_law_385 hl (by decide) rfl (fun ls hl => ?_)
  refine lv_aload_n hx hb dL_law_387 rfl (lv_at hl 4 rfl) ?_
  refine lv_aload_n hx hb dL_law_388 rfl (lv_at hl 6 rfl) ?_
  refine lv_iload hx hb dL_law_389 (lv_at hl 1 rfl) ?_
  refine lv_iconst (v := 1) hx hb dL_law_391 (by decide) ?_
  refine lv_iadd hx hb dL_law_392 ?_
  refine vn_sld hx hb hX0 hbl hbA hS (7 * j + 1) (nI_add (7 * j) 1) (by omega) (by omega) dL_law_393 ?_
  have hPm : va_P (dC, dI) vwCl (wMdl cy m0 a I R) H := hB _ (List.mem_of_getElem? (i := 3) rfl)
  have hDm : va_D (AL s) (wMdl cy m0 a I R) := hBD.2 _ (List.mem_of_getElem? (i := 3) rfl)
  refine lc_Mi (fun u : (Nat → Int32) × vG => u.1) (fun u : (Nat → Int32) × vG => u.2) (va_runV (As := [.int (xs (7 * j + 1))]) (rest := []) ⟨hx, hb, hml, hown, hts⟩ (c_X5_appendCharacter l dC dI cy H.size m0 a I R L hL hI8 (xs (7 * j + 1))) (cwV 1 hts gL_law_X5_appendCharacter rfl rfl rfl (by decide +kernel) ⟨Nat.le_of_ble_eq_true rfl, Nat.le_of_ble_eq_true rfl⟩) ⟨bl_in, va_recv hK hPm (ci := 5) (q0 := 0) rfl rfl, pr_in hPm hE hDm⟩ rfl rfl hl.1 rfl (lv_room (Nat.le_of_ble_eq_true rfl)) dL_law_394 ⟨by show cells + 1 + 0 ≤ 601024; omega, by show slots + 6 + 0 ≤ 7293034; omega⟩) hB hBD hS (fun b9 v H locs hm hB hBD hS => ?_)
  clear hPm hDm
  obtain ⟨t1, t2, t3⟩ := st_app hR hk hm
  refine lv_istore (lv' := [(7, .int b9), (6, .int k), (5, .int (nI (7 * j))), (4, .ref od), (3, .ref ol), (2, .ref m0), (1, .ref d0), (0, .ref b)]) hx hb dL_law_397 hl (by decide) rfl (fun ls hl => ?_)
  refine lv_aload_n hx hb dL_law_399 rfl (lv_at hl 5 rfl) ?_
  have hPm : va_P (dC, dI) vwCl (wMdl cy m0 a v.1 (v.2)) H := hB _ (List.mem_of_getElem? (i := 3) rfl)
  refine vp_callSi (va_runV (As := []) (rest := []) ⟨hx, hb, hml, hown, hts⟩ (c_X5_thrown l dC dI cy m0 a (v.1) (v.2)) (cwV 0 hts gL_law_X5_thrown rfl rfl rfl (by decide +kernel) ⟨Nat.le_of_ble_eq_true rfl, Nat.le_of_ble_eq_true rfl⟩) ⟨bl_ro, va_recv hK hPm (ci := 5) (q0 := 0) rfl rfl, pr_ro hPm hE⟩ rfl rfl hl.1 rfl (lv_room (Nat.le_of_ble_eq_true rfl)) dL_law_400 ⟨by show cells + 1 + 0 + 0 ≤ 601024; omega, by show slots + 6 + 0 + 0 ≤ 7293034; omega⟩).run (fun r e_r => ?_)
  subst e_r
  refine lv_iload hx hb dL_law_403 (lv_at hl 1 rfl) ?_
  refine lv_icmp_eq (tgt := 410) hx hb dL_law_405 (by decide) (fun _ => ?_) (fun h0 => absurd t1 h0)
  refine lv_iload hx hb dL_law_410 (lv_at hl 1 rfl) ?_
  refine lv_if_ne (tgt := 427) hx hb dL_law_412 (by decide) (fun g0 => ?_) (fun g0 => ?_)
  · skip
    refine lv_goto (tgt := 2107) hx hb dL_law_427 (by decide) ?_
    refine W.widen (k := cells + 3) (n := slots + 18) (by omega) (by omega) ?_
    exact kk9 _ _ _ _ _ _ _ _ t3 ⟨hB, hBD, hS⟩ (lv_sub hl [2, 3, 4, 5, 6, 7] rfl)
  have hPo : va_P (dC, dI) vwCl (oL cy ol u.2) H := hB _ (List.mem_of_getElem? (i := 1) rfl)
  refine lv_aload_n hx hb dL_law_415 rfl (lv_at hl 4 rfl) ?_
  refine lv_iconst (v := 0) hx hb dL_law_416 (by decide) ?_
  refine va_lald hx hb hK hPo 0 3 rfl rfl (i := 0) (by unfold vp_in; decide) dL_law_417 ?_
  refine lv_iload hx hb dL_law_418 (lv_at hl 0 rfl) ?_
  refine lv_i2l hx hb dL_law_420 rfl ?_
  refine W.lcmp hx hb dL_law_421 ?_
  refine lv_if_eq (tgt := 427) hx hb dL_law_422 (by decide) (fun _ => ?_) (fun h0 => absurd (by show lg_cmp u.2 b9.toInt64 = 0; rw [t2 g0]; exact lcmp_self _) h0)
  refine lv_goto (tgt := 2107) hx hb dL_law_427 (by decide) ?_
  refine W.widen (k := cells + 3) (n := slots + 18) (by omega) (by omega) ?_
  exact kk9 _ _ _ _ _ _ _ _ t3 ⟨hB, hBD, hS⟩ (lv_sub hl [2, 3, 4, 5, 6, 7] rfl)
set_option maxHeartbeats 1000000 in
set_option maxRecDepth 100000 in
/-- call 4 of the script -/
theorem case_4 {p : Program} {l : Launch} {e : Env} {s : State} {m : MethodId} {below : List Frame} {meth : Method} {c : Code} {Q : State → Prop} {b Lx : Nat} {xs : Nat → Int32} {dC : Nat → ClassId} {dI : Nat → Nat → Nat} {cy : Nat → ClassId} (C : LCx p l s m meth c b Lx xs dC dI cy) {κ : KA} {ol od m0 : Nat} {a : Nat → Nat} {j : Nat} (hj : 7 * j + 7 ≤ Lx) (hLx : Lx ≤ 3584) {cells slots : Nat} (hce : cells + 3 ≤ 601024) (hsl : slots + 18 ≤ 7293034) (kk9 : KON p l e s m below meth c Q b dC dI cy κ ol od m0 a j (cells + 3) (slots + 18)) {σ : CS} {I : Nat → Int32} {R : vG} {y : Int64} {yd : UInt64} {H : Heap} {locs : List Loc} {ls : Array Slot} (hR : Rel σ I R) (hLB : LB dC dI cy κ ol od m0 a s σ I R y yd H locs) (hl : lv_has ls 9 (LV κ ol od m0 b j)) : W p l e room_1 s m #[Value.ref b] below meth c H locs cells slots Q (F0 m 443 ls []) := by
  obtain ⟨hx, hb, hml, hown, hts, hX0, hbl, hE, hXV, hZ, hV, hst⟩ := C
  have hK := hE.1
  obtain ⟨hB, hBD, hS⟩ := hLB
  have hA : ∀ q, s.heap.size ≤ q → AL s q := fun _ h => h
  have hbA : ¬ AL s b := Nat.not_le.mpr hbl
  have hok := hR.ok
  obtain ⟨d0, o, bc, bt, bv, rg, cs, bs, ta, tb, z, bq, rt⟩ := κ
  obtain ⟨⟨F, ⟨G, n, sc⟩, ⟨Gt, nt, sct⟩, x, kk, RG, rn, RS⟩, ⟨Gv, nv9, scv⟩, ⟨C, N, L, fl⟩, M, ⟨Gz, nz, scz⟩, Q9, T⟩ := σ
  have hRc := hR
  obtain ⟨⟨hn, hG, hgs, esc, hS0, hS1, hag⟩, hnt, hx6, hkk, hI5, hrn, hh, hnv, hI6, hsv, hL, hI8, htx, hI9, hnz, hI10, hI11, hI12, hI13, hI14, hnn, hsm⟩ := hRc
  have hGR := okG_agr hag.symm hG
  have hl : lv_has ls 9 [(5, .int (nI (7 * j))), (4, .ref od), (3, .ref ol), (2, .ref m0), (1, .ref d0), (0, .ref b)] := hl
  refine lv_aload_n hx hb dL_law_443 rfl (lv_at hl 4 rfl) ?_
  refine lv_aload_n hx hb dL_law_444 rfl (lv_at hl 5 rfl) ?_
  refine lv_iload hx hb dL_law_445 (lv_at hl 0 rfl) ?_
  refine lv_iconst (v := 1) hx hb dL_law_447 (by decide) ?_
  refine lv_iadd hx hb dL_law_448 ?_
  refine vn_sld hx hb hX0 hbl hbA hS (7 * j + 1) (nI_add (7 * j) 1) (by omega) (by omega) dL_law_449 ?_
  refine lv_aload_n hx hb dL_law_450 rfl (lv_at hl 2 rfl) ?_
  have hPc : va_P (dC, dI) vwCl (wK cy (d0, o, bc, bt, bv, rg, cs, bs, ta, tb, z, bq, rt) ((F, (G, n, sc), (Gt, nt, sct), (x, kk, RG, rn, RS)), (Gv, nv9, scv), (C, N, L, fl), (M, (Gz, nz, scz), Q9, T)) ++ oL cy ol y) H := gl_P.mpr (hB.sub (bs' := [wK cy (d0, o, bc, bt, bv, rg, cs, bs, ta, tb, z, bq, rt) ((F, (G, n, sc), (Gt, nt, sct), (x, kk, RG, rn, RS)), (Gv, nv9, scv), (C, N, L, fl), (M, (Gz, nz, scz), Q9, T)), oL cy ol y]) [0, 1] rfl)
  have hDc : va_D (AL s) (wK cy (d0, o, bc, bt, bv, rg, cs, bs, ta, tb, z, bq, rt) ((F, (G, n, sc), (Gt, nt, sct), (x, kk, RG, rn, RS)), (Gv, nv9, scv), (C, N, L, fl), (M, (Gz, nz, scz), Q9, T)) ++ oL cy ol y) := gl_D.mpr (hBD.sub (bs' := [wK cy (d0, o, bc, bt, bv, rg, cs, bs, ta, tb, z, bq, rt) ((F, (G, n, sc), (Gt, nt, sct), (x, kk, RG, rn, RS)), (Gv, nv9, scv), (C, N, L, fl), (M, (Gz, nz, scz), Q9, T)), oL cy ol y]) [0, 1] (by decide) rfl)
  have hFc : ∀ q, va_A (wK cy (d0, o, bc, bt, bv, rg, cs, bs, ta, tb, z, bq, rt) ((F, (G, n, sc), (Gt, nt, sct), (x, kk, RG, rn, RS)), (Gv, nv9, scv), (C, N, L, fl), (M, (Gz, nz, scz), Q9, T)) ++ oL cy ol y) H.size q → AL s q := BF (cb := [wK cy (d0, o, bc, bt, bv, rg, cs, bs, ta, tb, z, bq, rt) ((F, (G, n, sc), (Gt, nt, sct), (x, kk, RG, rn, RS)), (Gv, nv9, scv), (C, N, L, fl), (M, (Gz, nz, scz), Q9, T)), oL cy ol y]) hBD hS hA [0, 1] rfl
  refine lc_L (vx_runSW (As := [.ref d0, .int (xs (7 * j + 1)), .ref ol]) (rest := []) ⟨hx, hb, hml, hown, hts⟩ (c_L_withdraw l hst dC dI cy H.size d0 o bc bt bv rg cs bs ta tb z bq rt F G n sc Gt nt sct x kk RG rn RS Gv nv9 scv C N L fl M Gz nz scz Q9 T hok ol y (xs (7 * j + 1))) (vx_cwSW 3 hts gL_law_L_withdraw rfl rfl rfl (by decide +kernel) ⟨Nat.le_of_ble_eq_true rfl, Nat.le_of_ble_eq_true rfl⟩) ⟨bl_L, pr_L hPc hE hDc hXV hZ hS hFc hV⟩ rfl rfl hl.1 rfl (lv_room (Nat.le_of_ble_eq_true rfl)) dL_law_451 ⟨by show cells + 1 ≤ 601024; omega, by show slots + 6 ≤ 7293034; omega⟩) hB hBD hS (fun k u H locs hk hB hBD hS => ?_)
  clear hPc hDc hFc
  refine lv_istore (lv' := [(6, .int k), (5, .int (nI (7 * j))), (4, .ref od), (3, .ref ol), (2, .ref m0), (1, .ref d0), (0, .ref b)]) hx hb dL_law_454 hl (by decide) rfl (fun ls hl => ?_)
  refine lv_aload_n hx hb dL_law_456 rfl (lv_at hl 4 rfl) ?_
  refine lv_aload_n hx hb dL_law_457 rfl (lv_at hl 6 rfl) ?_
  refine lv_iload hx hb dL_law_458 (lv_at hl 1 rfl) ?_
  refine lv_iconst (v := 1) hx hb dL_law_460 (by decide) ?_
  refine lv_iadd hx hb dL_law_461 ?_
  refine vn_sld hx hb hX0 hbl hbA hS (7 * j + 1) (nI_add (7 * j) 1) (by omega) (by omega) dL_law_462 ?_
  have hPm : va_P (dC, dI) vwCl (wMdl cy m0 a I R) H := hB _ (List.mem_of_getElem? (i := 3) rfl)
  have hDm : va_D (AL s) (wMdl cy m0 a I R) := hBD.2 _ (List.mem_of_getElem? (i := 3) rfl)
  refine lc_Mi (fun u : (Nat → Int32) × vG => u.1) (fun u : (Nat → Int32) × vG => u.2) (va_runV (As := [.int (xs (7 * j + 1))]) (rest := []) ⟨hx, hb, hml, hown, hts⟩ (c_X5_withdraw l dC dI cy H.size m0 a I R n hn hS0 G hag hG kk hkk hI5 (xs (7 * j + 1))) (cwV 1 hts gL_law_X5_withdraw rfl rfl rfl (by decide +kernel) ⟨Nat.le_of_ble_eq_true rfl, Nat.le_of_ble_eq_true rfl⟩) ⟨bl_in, va_recv hK hPm (ci := 5) (q0 := 0) rfl rfl, pr_in hPm hE hDm⟩ rfl rfl hl.1 rfl (lv_room (Nat.le_of_ble_eq_true rfl)) dL_law_463 ⟨by show cells + 1 + 0 ≤ 601024; omega, by show slots + 6 + 0 ≤ 7293034; omega⟩) hB hBD hS (fun b9 v H locs hm hB hBD hS => ?_)
  clear hPm hDm
  obtain ⟨t1, t2, t3⟩ := st_with hR hk hm
  refine lv_istore (lv' := [(7, .int b9), (6, .int k), (5, .int (nI (7 * j))), (4, .ref od), (3, .ref ol), (2, .ref m0), (1, .ref d0), (0, .ref b)]) hx hb dL_law_466 hl (by decide) rfl (fun ls hl => ?_)
  refine lv_aload_n hx hb dL_law_468 rfl (lv_at hl 5 rfl) ?_
  have hPm : va_P (dC, dI) vwCl (wMdl cy m0 a v.1 (v.2)) H := hB _ (List.mem_of_getElem? (i := 3) rfl)
  refine vp_callSi (va_runV (As := []) (rest := []) ⟨hx, hb, hml, hown, hts⟩ (c_X5_thrown l dC dI cy m0 a (v.1) (v.2)) (cwV 0 hts gL_law_X5_thrown rfl rfl rfl (by decide +kernel) ⟨Nat.le_of_ble_eq_true rfl, Nat.le_of_ble_eq_true rfl⟩) ⟨bl_ro, va_recv hK hPm (ci := 5) (q0 := 0) rfl rfl, pr_ro hPm hE⟩ rfl rfl hl.1 rfl (lv_room (Nat.le_of_ble_eq_true rfl)) dL_law_469 ⟨by show cells + 1 + 0 + 0 ≤ 601024; omega, by show slots + 6 + 0 + 0 ≤ 7293034; omega⟩).run (fun r e_r => ?_)
  subst e_r
  refine lv_iload hx hb dL_law_472 (lv_at hl 1 rfl) ?_
  refine lv_icmp_eq (tgt := 479) hx hb dL_law_474 (by decide) (fun _ => ?_) (fun h0 => absurd t1 h0)
  refine lv_iload hx hb dL_law_479 (lv_at hl 1 rfl) ?_
  refine lv_if_ne (tgt := 496) hx hb dL_law_481 (by decide) (fun g0 => ?_) (fun g0 => ?_)
  · skip
    refine lv_goto (tgt := 2107) hx hb dL_law_496 (by decide) ?_
    refine W.widen (k := cells + 3) (n := slots + 18) (by omega) (by omega) ?_
    exact kk9 _ _ _ _ _ _ _ _ t3 ⟨hB, hBD, hS⟩ (lv_sub hl [2, 3, 4, 5, 6, 7] rfl)
  have hPo : va_P (dC, dI) vwCl (oL cy ol u.2) H := hB _ (List.mem_of_getElem? (i := 1) rfl)
  refine lv_aload_n hx hb dL_law_484 rfl (lv_at hl 4 rfl) ?_
  refine lv_iconst (v := 0) hx hb dL_law_485 (by decide) ?_
  refine va_lald hx hb hK hPo 0 3 rfl rfl (i := 0) (by unfold vp_in; decide) dL_law_486 ?_
  refine lv_iload hx hb dL_law_487 (lv_at hl 0 rfl) ?_
  refine lv_i2l hx hb dL_law_489 rfl ?_
  refine W.lcmp hx hb dL_law_490 ?_
  refine lv_if_eq (tgt := 496) hx hb dL_law_491 (by decide) (fun _ => ?_) (fun h0 => absurd (by show lg_cmp u.2 b9.toInt64 = 0; rw [t2 g0]; exact lcmp_self _) h0)
  refine lv_goto (tgt := 2107) hx hb dL_law_496 (by decide) ?_
  refine W.widen (k := cells + 3) (n := slots + 18) (by omega) (by omega) ?_
  exact kk9 _ _ _ _ _ _ _ _ t3 ⟨hB, hBD, hS⟩ (lv_sub hl [2, 3, 4, 5, 6, 7] rfl)
set_option maxHeartbeats 1000000 in
set_option maxRecDepth 100000 in
/-- call 6 of the script -/
theorem case_6 {p : Program} {l : Launch} {e : Env} {s : State} {m : MethodId} {below : List Frame} {meth : Method} {c : Code} {Q : State → Prop} {b Lx : Nat} {xs : Nat → Int32} {dC : Nat → ClassId} {dI : Nat → Nat → Nat} {cy : Nat → ClassId} (C : LCx p l s m meth c b Lx xs dC dI cy) {κ : KA} {ol od m0 : Nat} {a : Nat → Nat} {j : Nat} (hj : 7 * j + 7 ≤ Lx) (hLx : Lx ≤ 3584) {cells slots : Nat} (hce : cells + 3 ≤ 601024) (hsl : slots + 18 ≤ 7293034) (kk9 : KON p l e s m below meth c Q b dC dI cy κ ol od m0 a j (cells + 3) (slots + 18)) {σ : CS} {I : Nat → Int32} {R : vG} {y : Int64} {yd : UInt64} {H : Heap} {locs : List Loc} {ls : Array Slot} (hR : Rel σ I R) (hLB : LB dC dI cy κ ol od m0 a s σ I R y yd H locs) (hl : lv_has ls 9 (LV κ ol od m0 b j)) : W p l e room_1 s m #[Value.ref b] below meth c H locs cells slots Q (F0 m 512 ls []) := by
  obtain ⟨hx, hb, hml, hown, hts, hX0, hbl, hE, hXV, hZ, hV, hst⟩ := C
  have hK := hE.1
  obtain ⟨hB, hBD, hS⟩ := hLB
  have hA : ∀ q, s.heap.size ≤ q → AL s q := fun _ h => h
  have hbA : ¬ AL s b := Nat.not_le.mpr hbl
  have hok := hR.ok
  obtain ⟨d0, o, bc, bt, bv, rg, cs, bs, ta, tb, z, bq, rt⟩ := κ
  obtain ⟨⟨F, ⟨G, n, sc⟩, ⟨Gt, nt, sct⟩, x, kk, RG, rn, RS⟩, ⟨Gv, nv9, scv⟩, ⟨C, N, L, fl⟩, M, ⟨Gz, nz, scz⟩, Q9, T⟩ := σ
  have hRc := hR
  obtain ⟨⟨hn, hG, hgs, esc, hS0, hS1, hag⟩, hnt, hx6, hkk, hI5, hrn, hh, hnv, hI6, hsv, hL, hI8, htx, hI9, hnz, hI10, hI11, hI12, hI13, hI14, hnn, hsm⟩ := hRc
  have hGR := okG_agr hag.symm hG
  have hl : lv_has ls 9 [(5, .int (nI (7 * j))), (4, .ref od), (3, .ref ol), (2, .ref m0), (1, .ref d0), (0, .ref b)] := hl
  refine lv_aload_n hx hb dL_law_512 rfl (lv_at hl 4 rfl) ?_
  refine lv_aload_n hx hb dL_law_513 rfl (lv_at hl 5 rfl) ?_
  refine lv_iload hx hb dL_law_514 (lv_at hl 0 rfl) ?_
  refine lv_iconst (v := 1) hx hb dL_law_516 (by decide) ?_
  refine lv_iadd hx hb dL_law_517 ?_
  refine vn_sld hx hb hX0 hbl hbA hS (7 * j + 1) (nI_add (7 * j) 1) (by omega) (by omega) dL_law_518 ?_
  refine lv_aload_n hx hb dL_law_519 rfl (lv_at hl 5 rfl) ?_
  refine lv_iload hx hb dL_law_520 (lv_at hl 0 rfl) ?_
  refine lv_iconst (v := 2) hx hb dL_law_522 (by decide) ?_
  refine lv_iadd hx hb dL_law_523 ?_
  refine vn_sld hx hb hX0 hbl hbA hS (7 * j + 2) (nI_add (7 * j) 2) (by omega) (by omega) dL_law_524 ?_
  refine lv_aload_n hx hb dL_law_525 rfl (lv_at hl 2 rfl) ?_
  have hPc : va_P (dC, dI) vwCl (wK cy (d0, o, bc, bt, bv, rg, cs, bs, ta, tb, z, bq, rt) ((F, (G, n, sc), (Gt, nt, sct), (x, kk, RG, rn, RS)), (Gv, nv9, scv), (C, N, L, fl), (M, (Gz, nz, scz), Q9, T)) ++ oL cy ol y) H := gl_P.mpr (hB.sub (bs' := [wK cy (d0, o, bc, bt, bv, rg, cs, bs, ta, tb, z, bq, rt) ((F, (G, n, sc), (Gt, nt, sct), (x, kk, RG, rn, RS)), (Gv, nv9, scv), (C, N, L, fl), (M, (Gz, nz, scz), Q9, T)), oL cy ol y]) [0, 1] rfl)
  have hDc : va_D (AL s) (wK cy (d0, o, bc, bt, bv, rg, cs, bs, ta, tb, z, bq, rt) ((F, (G, n, sc), (Gt, nt, sct), (x, kk, RG, rn, RS)), (Gv, nv9, scv), (C, N, L, fl), (M, (Gz, nz, scz), Q9, T)) ++ oL cy ol y) := gl_D.mpr (hBD.sub (bs' := [wK cy (d0, o, bc, bt, bv, rg, cs, bs, ta, tb, z, bq, rt) ((F, (G, n, sc), (Gt, nt, sct), (x, kk, RG, rn, RS)), (Gv, nv9, scv), (C, N, L, fl), (M, (Gz, nz, scz), Q9, T)), oL cy ol y]) [0, 1] (by decide) rfl)
  have hFc : ∀ q, va_A (wK cy (d0, o, bc, bt, bv, rg, cs, bs, ta, tb, z, bq, rt) ((F, (G, n, sc), (Gt, nt, sct), (x, kk, RG, rn, RS)), (Gv, nv9, scv), (C, N, L, fl), (M, (Gz, nz, scz), Q9, T)) ++ oL cy ol y) H.size q → AL s q := BF (cb := [wK cy (d0, o, bc, bt, bv, rg, cs, bs, ta, tb, z, bq, rt) ((F, (G, n, sc), (Gt, nt, sct), (x, kk, RG, rn, RS)), (Gv, nv9, scv), (C, N, L, fl), (M, (Gz, nz, scz), Q9, T)), oL cy ol y]) hBD hS hA [0, 1] rfl
  refine lc_L (vx_runSW (As := [.ref d0, .int (xs (7 * j + 1)), .int (xs (7 * j + 2)), .ref ol]) (rest := []) ⟨hx, hb, hml, hown, hts⟩ (c_L_setLevel l hst dC dI cy H.size d0 o bc bt bv rg cs bs ta tb z bq rt F G n sc Gt nt sct x kk RG rn RS Gv nv9 scv C N L fl M Gz nz scz Q9 T hok ol y (xs (7 * j + 1)) (xs (7 * j + 2))) (vx_cwSW 4 hts gL_law_L_setLevel rfl rfl rfl (by decide +kernel) ⟨Nat.le_of_ble_eq_true rfl, Nat.le_of_ble_eq_true rfl⟩) ⟨bl_L, pr_L hPc hE hDc hXV hZ hS hFc hV⟩ rfl rfl hl.1 rfl (lv_room (Nat.le_of_ble_eq_true rfl)) dL_law_526 ⟨by show cells + 2 ≤ 601024; omega, by show slots + 12 ≤ 7293034; omega⟩) hB hBD hS (fun k u H locs hk hB hBD hS => ?_)
  clear hPc hDc hFc
  refine lv_istore (lv' := [(6, .int k), (5, .int (nI (7 * j))), (4, .ref od), (3, .ref ol), (2, .ref m0), (1, .ref d0), (0, .ref b)]) hx hb dL_law_529 hl (by decide) rfl (fun ls hl => ?_)
  refine lv_aload_n hx hb dL_law_531 rfl (lv_at hl 4 rfl) ?_
  refine lv_aload_n hx hb dL_law_532 rfl (lv_at hl 6 rfl) ?_
  refine lv_iload hx hb dL_law_533 (lv_at hl 1 rfl) ?_
  refine lv_iconst (v := 1) hx hb dL_law_535 (by decide) ?_
  refine lv_iadd hx hb dL_law_536 ?_
  refine vn_sld hx hb hX0 hbl hbA hS (7 * j + 1) (nI_add (7 * j) 1) (by omega) (by omega) dL_law_537 ?_
  refine lv_aload_n hx hb dL_law_538 rfl (lv_at hl 6 rfl) ?_
  refine lv_iload hx hb dL_law_539 (lv_at hl 1 rfl) ?_
  refine lv_iconst (v := 2) hx hb dL_law_541 (by decide) ?_
  refine lv_iadd hx hb dL_law_542 ?_
  refine vn_sld hx hb hX0 hbl hbA hS (7 * j + 2) (nI_add (7 * j) 2) (by omega) (by omega) dL_law_543 ?_
  have hPm : va_P (dC, dI) vwCl (wMdl cy m0 a I R) H := hB _ (List.mem_of_getElem? (i := 3) rfl)
  have hDm : va_D (AL s) (wMdl cy m0 a I R) := hBD.2 _ (List.mem_of_getElem? (i := 3) rfl)
  refine lc_Mi (fun u : (Nat → Int32) × vG => u.1) (fun u : (Nat → Int32) × vG => u.2) (va_runV (As := [.int (xs (7 * j + 1)), .int (xs (7 * j + 2))]) (rest := []) ⟨hx, hb, hml, hown, hts⟩ (c_X5_setLevel l dC dI cy H.size m0 a I R n hn hS0 G hag hG kk hkk hI5 (xs (7 * j + 1)) (xs (7 * j + 2))) (cwV 2 hts gL_law_X5_setLevel rfl rfl rfl (by decide +kernel) ⟨Nat.le_of_ble_eq_true rfl, Nat.le_of_ble_eq_true rfl⟩) ⟨bl_in, va_recv hK hPm (ci := 5) (q0 := 0) rfl rfl, pr_in hPm hE hDm⟩ rfl rfl hl.1 rfl (lv_room (Nat.le_of_ble_eq_true rfl)) dL_law_544 ⟨by show cells + 2 + 0 ≤ 601024; omega, by show slots + 12 + 0 ≤ 7293034; omega⟩) hB hBD hS (fun b9 v H locs hm hB hBD hS => ?_)
  clear hPm hDm
  obtain ⟨t1, t2, t3⟩ := st_setl hR hk hm
  refine lv_istore (lv' := [(7, .int b9), (6, .int k), (5, .int (nI (7 * j))), (4, .ref od), (3, .ref ol), (2, .ref m0), (1, .ref d0), (0, .ref b)]) hx hb dL_law_547 hl (by decide) rfl (fun ls hl => ?_)
  refine lv_aload_n hx hb dL_law_549 rfl (lv_at hl 5 rfl) ?_
  have hPm : va_P (dC, dI) vwCl (wMdl cy m0 a v.1 (v.2)) H := hB _ (List.mem_of_getElem? (i := 3) rfl)
  refine vp_callSi (va_runV (As := []) (rest := []) ⟨hx, hb, hml, hown, hts⟩ (c_X5_thrown l dC dI cy m0 a (v.1) (v.2)) (cwV 0 hts gL_law_X5_thrown rfl rfl rfl (by decide +kernel) ⟨Nat.le_of_ble_eq_true rfl, Nat.le_of_ble_eq_true rfl⟩) ⟨bl_ro, va_recv hK hPm (ci := 5) (q0 := 0) rfl rfl, pr_ro hPm hE⟩ rfl rfl hl.1 rfl (lv_room (Nat.le_of_ble_eq_true rfl)) dL_law_550 ⟨by show cells + 2 + 0 + 0 ≤ 601024; omega, by show slots + 12 + 0 + 0 ≤ 7293034; omega⟩).run (fun r e_r => ?_)
  subst e_r
  refine lv_iload hx hb dL_law_553 (lv_at hl 1 rfl) ?_
  refine lv_icmp_eq (tgt := 560) hx hb dL_law_555 (by decide) (fun _ => ?_) (fun h0 => absurd t1 h0)
  refine lv_iload hx hb dL_law_560 (lv_at hl 1 rfl) ?_
  refine lv_if_ne (tgt := 577) hx hb dL_law_562 (by decide) (fun g0 => ?_) (fun g0 => ?_)
  · skip
    refine lv_goto (tgt := 2107) hx hb dL_law_577 (by decide) ?_
    refine W.widen (k := cells + 3) (n := slots + 18) (by omega) (by omega) ?_
    exact kk9 _ _ _ _ _ _ _ _ t3 ⟨hB, hBD, hS⟩ (lv_sub hl [2, 3, 4, 5, 6, 7] rfl)
  have hPo : va_P (dC, dI) vwCl (oL cy ol u.2) H := hB _ (List.mem_of_getElem? (i := 1) rfl)
  refine lv_aload_n hx hb dL_law_565 rfl (lv_at hl 4 rfl) ?_
  refine lv_iconst (v := 0) hx hb dL_law_566 (by decide) ?_
  refine va_lald hx hb hK hPo 0 3 rfl rfl (i := 0) (by unfold vp_in; decide) dL_law_567 ?_
  refine lv_iload hx hb dL_law_568 (lv_at hl 0 rfl) ?_
  refine lv_i2l hx hb dL_law_570 rfl ?_
  refine W.lcmp hx hb dL_law_571 ?_
  refine lv_if_eq (tgt := 577) hx hb dL_law_572 (by decide) (fun _ => ?_) (fun h0 => absurd (by show lg_cmp u.2 b9.toInt64 = 0; rw [t2 g0]; exact lcmp_self _) h0)
  refine lv_goto (tgt := 2107) hx hb dL_law_577 (by decide) ?_
  refine W.widen (k := cells + 3) (n := slots + 18) (by omega) (by omega) ?_
  exact kk9 _ _ _ _ _ _ _ _ t3 ⟨hB, hBD, hS⟩ (lv_sub hl [2, 3, 4, 5, 6, 7] rfl)
set_option maxHeartbeats 1000000 in
set_option maxRecDepth 100000 in
/-- call 7 of the script -/
theorem case_7 {p : Program} {l : Launch} {e : Env} {s : State} {m : MethodId} {below : List Frame} {meth : Method} {c : Code} {Q : State → Prop} {b Lx : Nat} {xs : Nat → Int32} {dC : Nat → ClassId} {dI : Nat → Nat → Nat} {cy : Nat → ClassId} (C : LCx p l s m meth c b Lx xs dC dI cy) {κ : KA} {ol od m0 : Nat} {a : Nat → Nat} {j : Nat} (hj : 7 * j + 7 ≤ Lx) (hLx : Lx ≤ 3584) {cells slots : Nat} (hce : cells + 3 ≤ 601024) (hsl : slots + 18 ≤ 7293034) (kk9 : KON p l e s m below meth c Q b dC dI cy κ ol od m0 a j (cells + 3) (slots + 18)) {σ : CS} {I : Nat → Int32} {R : vG} {y : Int64} {yd : UInt64} {H : Heap} {locs : List Loc} {ls : Array Slot} (hR : Rel σ I R) (hLB : LB dC dI cy κ ol od m0 a s σ I R y yd H locs) (hl : lv_has ls 9 (LV κ ol od m0 b j)) : W p l e room_1 s m #[Value.ref b] below meth c H locs cells slots Q (F0 m 580 ls []) := by
  obtain ⟨hx, hb, hml, hown, hts, hX0, hbl, hE, hXV, hZ, hV, hst⟩ := C
  have hK := hE.1
  obtain ⟨hB, hBD, hS⟩ := hLB
  have hA : ∀ q, s.heap.size ≤ q → AL s q := fun _ h => h
  have hbA : ¬ AL s b := Nat.not_le.mpr hbl
  have hok := hR.ok
  obtain ⟨d0, o, bc, bt, bv, rg, cs, bs, ta, tb, z, bq, rt⟩ := κ
  obtain ⟨⟨F, ⟨G, n, sc⟩, ⟨Gt, nt, sct⟩, x, kk, RG, rn, RS⟩, ⟨Gv, nv9, scv⟩, ⟨C, N, L, fl⟩, M, ⟨Gz, nz, scz⟩, Q9, T⟩ := σ
  have hRc := hR
  obtain ⟨⟨hn, hG, hgs, esc, hS0, hS1, hag⟩, hnt, hx6, hkk, hI5, hrn, hh, hnv, hI6, hsv, hL, hI8, htx, hI9, hnz, hI10, hI11, hI12, hI13, hI14, hnn, hsm⟩ := hRc
  have hGR := okG_agr hag.symm hG
  have hl : lv_has ls 9 [(5, .int (nI (7 * j))), (4, .ref od), (3, .ref ol), (2, .ref m0), (1, .ref d0), (0, .ref b)] := hl
  refine lv_aload_n hx hb dL_law_580 rfl (lv_at hl 4 rfl) ?_
  refine lv_aload_n hx hb dL_law_581 rfl (lv_at hl 2 rfl) ?_
  have hPc : va_P (dC, dI) vwCl (wK cy (d0, o, bc, bt, bv, rg, cs, bs, ta, tb, z, bq, rt) ((F, (G, n, sc), (Gt, nt, sct), (x, kk, RG, rn, RS)), (Gv, nv9, scv), (C, N, L, fl), (M, (Gz, nz, scz), Q9, T)) ++ oL cy ol y) H := gl_P.mpr (hB.sub (bs' := [wK cy (d0, o, bc, bt, bv, rg, cs, bs, ta, tb, z, bq, rt) ((F, (G, n, sc), (Gt, nt, sct), (x, kk, RG, rn, RS)), (Gv, nv9, scv), (C, N, L, fl), (M, (Gz, nz, scz), Q9, T)), oL cy ol y]) [0, 1] rfl)
  have hDc : va_D (AL s) (wK cy (d0, o, bc, bt, bv, rg, cs, bs, ta, tb, z, bq, rt) ((F, (G, n, sc), (Gt, nt, sct), (x, kk, RG, rn, RS)), (Gv, nv9, scv), (C, N, L, fl), (M, (Gz, nz, scz), Q9, T)) ++ oL cy ol y) := gl_D.mpr (hBD.sub (bs' := [wK cy (d0, o, bc, bt, bv, rg, cs, bs, ta, tb, z, bq, rt) ((F, (G, n, sc), (Gt, nt, sct), (x, kk, RG, rn, RS)), (Gv, nv9, scv), (C, N, L, fl), (M, (Gz, nz, scz), Q9, T)), oL cy ol y]) [0, 1] (by decide) rfl)
  have hFc : ∀ q, va_A (wK cy (d0, o, bc, bt, bv, rg, cs, bs, ta, tb, z, bq, rt) ((F, (G, n, sc), (Gt, nt, sct), (x, kk, RG, rn, RS)), (Gv, nv9, scv), (C, N, L, fl), (M, (Gz, nz, scz), Q9, T)) ++ oL cy ol y) H.size q → AL s q := BF (cb := [wK cy (d0, o, bc, bt, bv, rg, cs, bs, ta, tb, z, bq, rt) ((F, (G, n, sc), (Gt, nt, sct), (x, kk, RG, rn, RS)), (Gv, nv9, scv), (C, N, L, fl), (M, (Gz, nz, scz), Q9, T)), oL cy ol y]) hBD hS hA [0, 1] rfl
  refine lc_L (vx_runSW (As := [.ref d0, .ref ol]) (rest := []) ⟨hx, hb, hml, hown, hts⟩ (c_L_undo l hst dC dI cy H.size d0 o bc bt bv rg cs bs ta tb z bq rt F G n sc Gt nt sct x kk RG rn RS Gv nv9 scv C N L fl M Gz nz scz Q9 T hok ol y ) (vx_cwSW 2 hts gL_law_L_undo rfl rfl rfl (by decide +kernel) ⟨Nat.le_of_ble_eq_true rfl, Nat.le_of_ble_eq_true rfl⟩) ⟨bl_L, pr_L hPc hE hDc hXV hZ hS hFc hV⟩ rfl rfl hl.1 rfl (lv_room (Nat.le_of_ble_eq_true rfl)) dL_law_582 ⟨by show cells + 1 ≤ 601024; omega, by show slots + 6 ≤ 7293034; omega⟩) hB hBD hS (fun k u H locs hk hB hBD hS => ?_)
  clear hPc hDc hFc
  refine lv_istore (lv' := [(6, .int k), (5, .int (nI (7 * j))), (4, .ref od), (3, .ref ol), (2, .ref m0), (1, .ref d0), (0, .ref b)]) hx hb dL_law_585 hl (by decide) rfl (fun ls hl => ?_)
  refine lv_aload_n hx hb dL_law_587 rfl (lv_at hl 4 rfl) ?_
  have hPm : va_P (dC, dI) vwCl (wMdl cy m0 a I R) H := hB _ (List.mem_of_getElem? (i := 3) rfl)
  have hDm : va_D (AL s) (wMdl cy m0 a I R) := hBD.2 _ (List.mem_of_getElem? (i := 3) rfl)
  refine lc_Mi (fun u : (Nat → Int32) × vG => u.1) (fun u : (Nat → Int32) × vG => u.2) (va_runV (As := []) (rest := []) ⟨hx, hb, hml, hown, hts⟩ (c_X5_undo l dC dI cy H.size m0 a I R kk hkk hI5) (cwV 0 hts gL_law_X5_undo rfl rfl rfl (by decide +kernel) ⟨Nat.le_of_ble_eq_true rfl, Nat.le_of_ble_eq_true rfl⟩) ⟨bl_in, va_recv hK hPm (ci := 5) (q0 := 0) rfl rfl, pr_in hPm hE hDm⟩ rfl rfl hl.1 rfl (lv_room (Nat.le_of_ble_eq_true rfl)) dL_law_588 ⟨by show cells + 1 + 0 ≤ 601024; omega, by show slots + 6 + 0 ≤ 7293034; omega⟩) hB hBD hS (fun b9 v H locs hm hB hBD hS => ?_)
  clear hPm hDm
  obtain ⟨t1, t2, t3⟩ := st_undo hR hk hm
  refine lv_istore (lv' := [(7, .int b9), (6, .int k), (5, .int (nI (7 * j))), (4, .ref od), (3, .ref ol), (2, .ref m0), (1, .ref d0), (0, .ref b)]) hx hb dL_law_591 hl (by decide) rfl (fun ls hl => ?_)
  refine lv_aload_n hx hb dL_law_593 rfl (lv_at hl 5 rfl) ?_
  have hPm : va_P (dC, dI) vwCl (wMdl cy m0 a v.1 (v.2)) H := hB _ (List.mem_of_getElem? (i := 3) rfl)
  refine vp_callSi (va_runV (As := []) (rest := []) ⟨hx, hb, hml, hown, hts⟩ (c_X5_thrown l dC dI cy m0 a (v.1) (v.2)) (cwV 0 hts gL_law_X5_thrown rfl rfl rfl (by decide +kernel) ⟨Nat.le_of_ble_eq_true rfl, Nat.le_of_ble_eq_true rfl⟩) ⟨bl_ro, va_recv hK hPm (ci := 5) (q0 := 0) rfl rfl, pr_ro hPm hE⟩ rfl rfl hl.1 rfl (lv_room (Nat.le_of_ble_eq_true rfl)) dL_law_594 ⟨by show cells + 1 + 0 + 0 ≤ 601024; omega, by show slots + 6 + 0 + 0 ≤ 7293034; omega⟩).run (fun r e_r => ?_)
  subst e_r
  refine lv_iload hx hb dL_law_597 (lv_at hl 1 rfl) ?_
  refine lv_icmp_eq (tgt := 604) hx hb dL_law_599 (by decide) (fun _ => ?_) (fun h0 => absurd t1 h0)
  refine lv_iload hx hb dL_law_604 (lv_at hl 1 rfl) ?_
  refine lv_if_ne (tgt := 621) hx hb dL_law_606 (by decide) (fun g0 => ?_) (fun g0 => ?_)
  · skip
    refine lv_goto (tgt := 2107) hx hb dL_law_621 (by decide) ?_
    refine W.widen (k := cells + 3) (n := slots + 18) (by omega) (by omega) ?_
    exact kk9 _ _ _ _ _ _ _ _ t3 ⟨hB, hBD, hS⟩ (lv_sub hl [2, 3, 4, 5, 6, 7] rfl)
  have hPo : va_P (dC, dI) vwCl (oL cy ol u.2) H := hB _ (List.mem_of_getElem? (i := 1) rfl)
  refine lv_aload_n hx hb dL_law_609 rfl (lv_at hl 4 rfl) ?_
  refine lv_iconst (v := 0) hx hb dL_law_610 (by decide) ?_
  refine va_lald hx hb hK hPo 0 3 rfl rfl (i := 0) (by unfold vp_in; decide) dL_law_611 ?_
  refine lv_iload hx hb dL_law_612 (lv_at hl 0 rfl) ?_
  refine lv_i2l hx hb dL_law_614 rfl ?_
  refine W.lcmp hx hb dL_law_615 ?_
  refine lv_if_eq (tgt := 621) hx hb dL_law_616 (by decide) (fun _ => ?_) (fun h0 => absurd (by show lg_cmp u.2 b9.toInt64 = 0; rw [t2 g0]; exact lcmp_self _) h0)
  refine lv_goto (tgt := 2107) hx hb dL_law_621 (by decide) ?_
  refine W.widen (k := cells + 3) (n := slots + 18) (by omega) (by omega) ?_
  exact kk9 _ _ _ _ _ _ _ _ t3 ⟨hB, hBD, hS⟩ (lv_sub hl [2, 3, 4, 5, 6, 7] rfl)
set_option maxHeartbeats 1000000 in
set_option maxRecDepth 100000 in
/-- call 10 of the script -/
theorem case_10 {p : Program} {l : Launch} {e : Env} {s : State} {m : MethodId} {below : List Frame} {meth : Method} {c : Code} {Q : State → Prop} {b Lx : Nat} {xs : Nat → Int32} {dC : Nat → ClassId} {dI : Nat → Nat → Nat} {cy : Nat → ClassId} (C : LCx p l s m meth c b Lx xs dC dI cy) {κ : KA} {ol od m0 : Nat} {a : Nat → Nat} {j : Nat} (hj : 7 * j + 7 ≤ Lx) (hLx : Lx ≤ 3584) {cells slots : Nat} (hce : cells + 3 ≤ 601024) (hsl : slots + 18 ≤ 7293034) (kk9 : KON p l e s m below meth c Q b dC dI cy κ ol od m0 a j (cells + 3) (slots + 18)) {σ : CS} {I : Nat → Int32} {R : vG} {y : Int64} {yd : UInt64} {H : Heap} {locs : List Loc} {ls : Array Slot} (hR : Rel σ I R) (hLB : LB dC dI cy κ ol od m0 a s σ I R y yd H locs) (hl : lv_has ls 9 (LV κ ol od m0 b j)) : W p l e room_1 s m #[Value.ref b] below meth c H locs cells slots Q (F0 m 650 ls []) := by
  obtain ⟨hx, hb, hml, hown, hts, hX0, hbl, hE, hXV, hZ, hV, hst⟩ := C
  have hK := hE.1
  obtain ⟨hB, hBD, hS⟩ := hLB
  have hA : ∀ q, s.heap.size ≤ q → AL s q := fun _ h => h
  have hbA : ¬ AL s b := Nat.not_le.mpr hbl
  have hok := hR.ok
  obtain ⟨d0, o, bc, bt, bv, rg, cs, bs, ta, tb, z, bq, rt⟩ := κ
  obtain ⟨⟨F, ⟨G, n, sc⟩, ⟨Gt, nt, sct⟩, x, kk, RG, rn, RS⟩, ⟨Gv, nv9, scv⟩, ⟨C, N, L, fl⟩, M, ⟨Gz, nz, scz⟩, Q9, T⟩ := σ
  have hRc := hR
  obtain ⟨⟨hn, hG, hgs, esc, hS0, hS1, hag⟩, hnt, hx6, hkk, hI5, hrn, hh, hnv, hI6, hsv, hL, hI8, htx, hI9, hnz, hI10, hI11, hI12, hI13, hI14, hnn, hsm⟩ := hRc
  have hGR := okG_agr hag.symm hG
  have hl : lv_has ls 9 [(5, .int (nI (7 * j))), (4, .ref od), (3, .ref ol), (2, .ref m0), (1, .ref d0), (0, .ref b)] := hl
  refine lv_aload_n hx hb dL_law_650 rfl (lv_at hl 4 rfl) ?_
  refine lv_aload_n hx hb dL_law_651 rfl (lv_at hl 5 rfl) ?_
  refine lv_iload hx hb dL_law_652 (lv_at hl 0 rfl) ?_
  refine lv_iconst (v := 1) hx hb dL_law_654 (by decide) ?_
  refine lv_iadd hx hb dL_law_655 ?_
  refine vn_sld hx hb hX0 hbl hbA hS (7 * j + 1) (nI_add (7 * j) 1) (by omega) (by omega) dL_law_656 ?_
  refine lv_aload_n hx hb dL_law_657 rfl (lv_at hl 2 rfl) ?_
  have hPc : va_P (dC, dI) vwCl (wK cy (d0, o, bc, bt, bv, rg, cs, bs, ta, tb, z, bq, rt) ((F, (G, n, sc), (Gt, nt, sct), (x, kk, RG, rn, RS)), (Gv, nv9, scv), (C, N, L, fl), (M, (Gz, nz, scz), Q9, T)) ++ oL cy ol y) H := gl_P.mpr (hB.sub (bs' := [wK cy (d0, o, bc, bt, bv, rg, cs, bs, ta, tb, z, bq, rt) ((F, (G, n, sc), (Gt, nt, sct), (x, kk, RG, rn, RS)), (Gv, nv9, scv), (C, N, L, fl), (M, (Gz, nz, scz), Q9, T)), oL cy ol y]) [0, 1] rfl)
  have hDc : va_D (AL s) (wK cy (d0, o, bc, bt, bv, rg, cs, bs, ta, tb, z, bq, rt) ((F, (G, n, sc), (Gt, nt, sct), (x, kk, RG, rn, RS)), (Gv, nv9, scv), (C, N, L, fl), (M, (Gz, nz, scz), Q9, T)) ++ oL cy ol y) := gl_D.mpr (hBD.sub (bs' := [wK cy (d0, o, bc, bt, bv, rg, cs, bs, ta, tb, z, bq, rt) ((F, (G, n, sc), (Gt, nt, sct), (x, kk, RG, rn, RS)), (Gv, nv9, scv), (C, N, L, fl), (M, (Gz, nz, scz), Q9, T)), oL cy ol y]) [0, 1] (by decide) rfl)
  have hFc : ∀ q, va_A (wK cy (d0, o, bc, bt, bv, rg, cs, bs, ta, tb, z, bq, rt) ((F, (G, n, sc), (Gt, nt, sct), (x, kk, RG, rn, RS)), (Gv, nv9, scv), (C, N, L, fl), (M, (Gz, nz, scz), Q9, T)) ++ oL cy ol y) H.size q → AL s q := BF (cb := [wK cy (d0, o, bc, bt, bv, rg, cs, bs, ta, tb, z, bq, rt) ((F, (G, n, sc), (Gt, nt, sct), (x, kk, RG, rn, RS)), (Gv, nv9, scv), (C, N, L, fl), (M, (Gz, nz, scz), Q9, T)), oL cy ol y]) hBD hS hA [0, 1] rfl
  refine lc_L (vx_runSW (As := [.ref d0, .int (xs (7 * j + 1)), .ref ol]) (rest := []) ⟨hx, hb, hml, hown, hts⟩ (c_L_period l hst dC dI cy H.size d0 o bc bt bv rg cs bs ta tb z bq rt F G n sc Gt nt sct x kk RG rn RS Gv nv9 scv C N L fl M Gz nz scz Q9 T hok ol y (xs (7 * j + 1))) (vx_cwSW 3 hts gL_law_L_period rfl rfl rfl (by decide +kernel) ⟨Nat.le_of_ble_eq_true rfl, Nat.le_of_ble_eq_true rfl⟩) ⟨bl_L, pr_L hPc hE hDc hXV hZ hS hFc hV⟩ rfl rfl hl.1 rfl (lv_room (Nat.le_of_ble_eq_true rfl)) dL_law_658 ⟨by show cells + 1 ≤ 601024; omega, by show slots + 6 ≤ 7293034; omega⟩) hB hBD hS (fun k u H locs hk hB hBD hS => ?_)
  clear hPc hDc hFc
  refine lv_istore (lv' := [(6, .int k), (5, .int (nI (7 * j))), (4, .ref od), (3, .ref ol), (2, .ref m0), (1, .ref d0), (0, .ref b)]) hx hb dL_law_661 hl (by decide) rfl (fun ls hl => ?_)
  refine lv_aload_n hx hb dL_law_663 rfl (lv_at hl 4 rfl) ?_
  refine lv_aload_n hx hb dL_law_664 rfl (lv_at hl 6 rfl) ?_
  refine lv_iload hx hb dL_law_665 (lv_at hl 1 rfl) ?_
  refine lv_iconst (v := 1) hx hb dL_law_667 (by decide) ?_
  refine lv_iadd hx hb dL_law_668 ?_
  refine vn_sld hx hb hX0 hbl hbA hS (7 * j + 1) (nI_add (7 * j) 1) (by omega) (by omega) dL_law_669 ?_
  have hPm : va_P (dC, dI) vwCl (wMdl cy m0 a I R) H := hB _ (List.mem_of_getElem? (i := 3) rfl)
  have hDm : va_D (AL s) (wMdl cy m0 a I R) := hBD.2 _ (List.mem_of_getElem? (i := 3) rfl)
  refine lc_Mi (fun u : Nat → Int32 => u) (fun _ : Nat → Int32 => R) (va_runV (As := [.int (xs (7 * j + 1))]) (rest := []) ⟨hx, hb, hml, hown, hts⟩ (c_X5_period l dC dI cy H.size m0 a I R n hn hS0 hGR (xs (7 * j + 1))) (cwV 1 hts gL_law_X5_period rfl rfl rfl (by decide +kernel) ⟨Nat.le_of_ble_eq_true rfl, Nat.le_of_ble_eq_true rfl⟩) ⟨bl_in, va_recv hK hPm (ci := 5) (q0 := 0) rfl rfl, pr_in hPm hE hDm⟩ rfl rfl hl.1 rfl (lv_room (Nat.le_of_ble_eq_true rfl)) dL_law_670 ⟨by show cells + 1 + 0 ≤ 601024; omega, by show slots + 6 + 0 ≤ 7293034; omega⟩) hB hBD hS (fun b9 v H locs hm hB hBD hS => ?_)
  clear hPm hDm
  obtain ⟨t1, t2, t3⟩ := st_rv (z := b9.toInt64) hR hk hm.1 rfl (fun g => by rw [hm.2 g]; exact congrArg Int32.toInt64 (per_agr hag (cT_lt hn g)).symm)
  refine lv_istore (lv' := [(7, .int b9), (6, .int k), (5, .int (nI (7 * j))), (4, .ref od), (3, .ref ol), (2, .ref m0), (1, .ref d0), (0, .ref b)]) hx hb dL_law_673 hl (by decide) rfl (fun ls hl => ?_)
  refine lv_aload_n hx hb dL_law_675 rfl (lv_at hl 5 rfl) ?_
  have hPm : va_P (dC, dI) vwCl (wMdl cy m0 a v (R)) H := hB _ (List.mem_of_getElem? (i := 3) rfl)
  refine vp_callSi (va_runV (As := []) (rest := []) ⟨hx, hb, hml, hown, hts⟩ (c_X5_thrown l dC dI cy m0 a (v) (R)) (cwV 0 hts gL_law_X5_thrown rfl rfl rfl (by decide +kernel) ⟨Nat.le_of_ble_eq_true rfl, Nat.le_of_ble_eq_true rfl⟩) ⟨bl_ro, va_recv hK hPm (ci := 5) (q0 := 0) rfl rfl, pr_ro hPm hE⟩ rfl rfl hl.1 rfl (lv_room (Nat.le_of_ble_eq_true rfl)) dL_law_676 ⟨by show cells + 1 + 0 + 0 ≤ 601024; omega, by show slots + 6 + 0 + 0 ≤ 7293034; omega⟩).run (fun r e_r => ?_)
  subst e_r
  refine lv_iload hx hb dL_law_679 (lv_at hl 1 rfl) ?_
  refine lv_icmp_eq (tgt := 686) hx hb dL_law_681 (by decide) (fun _ => ?_) (fun h0 => absurd t1 h0)
  refine lv_iload hx hb dL_law_686 (lv_at hl 1 rfl) ?_
  refine lv_if_ne (tgt := 703) hx hb dL_law_688 (by decide) (fun g0 => ?_) (fun g0 => ?_)
  · skip
    refine lv_goto (tgt := 2107) hx hb dL_law_703 (by decide) ?_
    refine W.widen (k := cells + 3) (n := slots + 18) (by omega) (by omega) ?_
    exact kk9 _ _ _ _ _ _ _ _ t3 ⟨hB, hBD, hS⟩ (lv_sub hl [2, 3, 4, 5, 6, 7] rfl)
  have hPo : va_P (dC, dI) vwCl (oL cy ol u.2) H := hB _ (List.mem_of_getElem? (i := 1) rfl)
  refine lv_aload_n hx hb dL_law_691 rfl (lv_at hl 4 rfl) ?_
  refine lv_iconst (v := 0) hx hb dL_law_692 (by decide) ?_
  refine va_lald hx hb hK hPo 0 3 rfl rfl (i := 0) (by unfold vp_in; decide) dL_law_693 ?_
  refine lv_iload hx hb dL_law_694 (lv_at hl 0 rfl) ?_
  refine lv_i2l hx hb dL_law_696 rfl ?_
  refine W.lcmp hx hb dL_law_697 ?_
  refine lv_if_eq (tgt := 703) hx hb dL_law_698 (by decide) (fun _ => ?_) (fun h0 => absurd (by show lg_cmp u.2 b9.toInt64 = 0; rw [t2 g0]; exact lcmp_self _) h0)
  refine lv_goto (tgt := 2107) hx hb dL_law_703 (by decide) ?_
  refine W.widen (k := cells + 3) (n := slots + 18) (by omega) (by omega) ?_
  exact kk9 _ _ _ _ _ _ _ _ t3 ⟨hB, hBD, hS⟩ (lv_sub hl [2, 3, 4, 5, 6, 7] rfl)
set_option maxHeartbeats 1000000 in
set_option maxRecDepth 100000 in
/-- call 11 of the script -/
theorem case_11 {p : Program} {l : Launch} {e : Env} {s : State} {m : MethodId} {below : List Frame} {meth : Method} {c : Code} {Q : State → Prop} {b Lx : Nat} {xs : Nat → Int32} {dC : Nat → ClassId} {dI : Nat → Nat → Nat} {cy : Nat → ClassId} (C : LCx p l s m meth c b Lx xs dC dI cy) {κ : KA} {ol od m0 : Nat} {a : Nat → Nat} {j : Nat} (hj : 7 * j + 7 ≤ Lx) (hLx : Lx ≤ 3584) {cells slots : Nat} (hce : cells + 3 ≤ 601024) (hsl : slots + 18 ≤ 7293034) (kk9 : KON p l e s m below meth c Q b dC dI cy κ ol od m0 a j (cells + 3) (slots + 18)) {σ : CS} {I : Nat → Int32} {R : vG} {y : Int64} {yd : UInt64} {H : Heap} {locs : List Loc} {ls : Array Slot} (hR : Rel σ I R) (hLB : LB dC dI cy κ ol od m0 a s σ I R y yd H locs) (hl : lv_has ls 9 (LV κ ol od m0 b j)) : W p l e room_1 s m #[Value.ref b] below meth c H locs cells slots Q (F0 m 706 ls []) := by
  obtain ⟨hx, hb, hml, hown, hts, hX0, hbl, hE, hXV, hZ, hV, hst⟩ := C
  have hK := hE.1
  obtain ⟨hB, hBD, hS⟩ := hLB
  have hA : ∀ q, s.heap.size ≤ q → AL s q := fun _ h => h
  have hbA : ¬ AL s b := Nat.not_le.mpr hbl
  have hok := hR.ok
  obtain ⟨d0, o, bc, bt, bv, rg, cs, bs, ta, tb, z, bq, rt⟩ := κ
  obtain ⟨⟨F, ⟨G, n, sc⟩, ⟨Gt, nt, sct⟩, x, kk, RG, rn, RS⟩, ⟨Gv, nv9, scv⟩, ⟨C, N, L, fl⟩, M, ⟨Gz, nz, scz⟩, Q9, T⟩ := σ
  have hRc := hR
  obtain ⟨⟨hn, hG, hgs, esc, hS0, hS1, hag⟩, hnt, hx6, hkk, hI5, hrn, hh, hnv, hI6, hsv, hL, hI8, htx, hI9, hnz, hI10, hI11, hI12, hI13, hI14, hnn, hsm⟩ := hRc
  have hGR := okG_agr hag.symm hG
  have hl : lv_has ls 9 [(5, .int (nI (7 * j))), (4, .ref od), (3, .ref ol), (2, .ref m0), (1, .ref d0), (0, .ref b)] := hl
  refine lv_aload_n hx hb dL_law_706 rfl (lv_at hl 4 rfl) ?_
  refine lv_aload_n hx hb dL_law_707 rfl (lv_at hl 5 rfl) ?_
  refine lv_iload hx hb dL_law_708 (lv_at hl 0 rfl) ?_
  refine lv_iconst (v := 1) hx hb dL_law_710 (by decide) ?_
  refine lv_iadd hx hb dL_law_711 ?_
  refine vn_sld hx hb hX0 hbl hbA hS (7 * j + 1) (nI_add (7 * j) 1) (by omega) (by omega) dL_law_712 ?_
  refine lv_aload_n hx hb dL_law_713 rfl (lv_at hl 2 rfl) ?_
  have hPc : va_P (dC, dI) vwCl (wK cy (d0, o, bc, bt, bv, rg, cs, bs, ta, tb, z, bq, rt) ((F, (G, n, sc), (Gt, nt, sct), (x, kk, RG, rn, RS)), (Gv, nv9, scv), (C, N, L, fl), (M, (Gz, nz, scz), Q9, T)) ++ oL cy ol y) H := gl_P.mpr (hB.sub (bs' := [wK cy (d0, o, bc, bt, bv, rg, cs, bs, ta, tb, z, bq, rt) ((F, (G, n, sc), (Gt, nt, sct), (x, kk, RG, rn, RS)), (Gv, nv9, scv), (C, N, L, fl), (M, (Gz, nz, scz), Q9, T)), oL cy ol y]) [0, 1] rfl)
  have hDc : va_D (AL s) (wK cy (d0, o, bc, bt, bv, rg, cs, bs, ta, tb, z, bq, rt) ((F, (G, n, sc), (Gt, nt, sct), (x, kk, RG, rn, RS)), (Gv, nv9, scv), (C, N, L, fl), (M, (Gz, nz, scz), Q9, T)) ++ oL cy ol y) := gl_D.mpr (hBD.sub (bs' := [wK cy (d0, o, bc, bt, bv, rg, cs, bs, ta, tb, z, bq, rt) ((F, (G, n, sc), (Gt, nt, sct), (x, kk, RG, rn, RS)), (Gv, nv9, scv), (C, N, L, fl), (M, (Gz, nz, scz), Q9, T)), oL cy ol y]) [0, 1] (by decide) rfl)
  have hFc : ∀ q, va_A (wK cy (d0, o, bc, bt, bv, rg, cs, bs, ta, tb, z, bq, rt) ((F, (G, n, sc), (Gt, nt, sct), (x, kk, RG, rn, RS)), (Gv, nv9, scv), (C, N, L, fl), (M, (Gz, nz, scz), Q9, T)) ++ oL cy ol y) H.size q → AL s q := BF (cb := [wK cy (d0, o, bc, bt, bv, rg, cs, bs, ta, tb, z, bq, rt) ((F, (G, n, sc), (Gt, nt, sct), (x, kk, RG, rn, RS)), (Gv, nv9, scv), (C, N, L, fl), (M, (Gz, nz, scz), Q9, T)), oL cy ol y]) hBD hS hA [0, 1] rfl
  refine lc_L (vx_runSW (As := [.ref d0, .int (xs (7 * j + 1)), .ref ol]) (rest := []) ⟨hx, hb, hml, hown, hts⟩ (c_L_deadline l hst dC dI cy H.size d0 o bc bt bv rg cs bs ta tb z bq rt F G n sc Gt nt sct x kk RG rn RS Gv nv9 scv C N L fl M Gz nz scz Q9 T hok ol y (xs (7 * j + 1))) (vx_cwSW 3 hts gL_law_L_deadline rfl rfl rfl (by decide +kernel) ⟨Nat.le_of_ble_eq_true rfl, Nat.le_of_ble_eq_true rfl⟩) ⟨bl_L, pr_L hPc hE hDc hXV hZ hS hFc hV⟩ rfl rfl hl.1 rfl (lv_room (Nat.le_of_ble_eq_true rfl)) dL_law_714 ⟨by show cells + 1 ≤ 601024; omega, by show slots + 6 ≤ 7293034; omega⟩) hB hBD hS (fun k u H locs hk hB hBD hS => ?_)
  clear hPc hDc hFc
  refine lv_istore (lv' := [(6, .int k), (5, .int (nI (7 * j))), (4, .ref od), (3, .ref ol), (2, .ref m0), (1, .ref d0), (0, .ref b)]) hx hb dL_law_717 hl (by decide) rfl (fun ls hl => ?_)
  refine lv_aload_n hx hb dL_law_719 rfl (lv_at hl 4 rfl) ?_
  refine lv_aload_n hx hb dL_law_720 rfl (lv_at hl 6 rfl) ?_
  refine lv_iload hx hb dL_law_721 (lv_at hl 1 rfl) ?_
  refine lv_iconst (v := 1) hx hb dL_law_723 (by decide) ?_
  refine lv_iadd hx hb dL_law_724 ?_
  refine vn_sld hx hb hX0 hbl hbA hS (7 * j + 1) (nI_add (7 * j) 1) (by omega) (by omega) dL_law_725 ?_
  have hPm : va_P (dC, dI) vwCl (wMdl cy m0 a I R) H := hB _ (List.mem_of_getElem? (i := 3) rfl)
  have hDm : va_D (AL s) (wMdl cy m0 a I R) := hBD.2 _ (List.mem_of_getElem? (i := 3) rfl)
  refine lc_Mi (fun u : Nat → Int32 => u) (fun _ : Nat → Int32 => R) (va_runV (As := [.int (xs (7 * j + 1))]) (rest := []) ⟨hx, hb, hml, hown, hts⟩ (c_X5_deadline l dC dI cy H.size m0 a I R n hn hS0 hGR (xs (7 * j + 1))) (cwV 1 hts gL_law_X5_deadline rfl rfl rfl (by decide +kernel) ⟨Nat.le_of_ble_eq_true rfl, Nat.le_of_ble_eq_true rfl⟩) ⟨bl_in, va_recv hK hPm (ci := 5) (q0 := 0) rfl rfl, pr_in hPm hE hDm⟩ rfl rfl hl.1 rfl (lv_room (Nat.le_of_ble_eq_true rfl)) dL_law_726 ⟨by show cells + 1 + 0 ≤ 601024; omega, by show slots + 6 + 0 ≤ 7293034; omega⟩) hB hBD hS (fun b9 v H locs hm hB hBD hS => ?_)
  clear hPm hDm
  obtain ⟨t1, t2, t3⟩ := st_rv (z := b9.toInt64) hR hk hm.1 rfl (fun g => by rw [hm.2 g]; exact congrArg Int32.toInt64 (hag 1 (by decide) _ (cT_lt hn g)).symm)
  refine lv_istore (lv' := [(7, .int b9), (6, .int k), (5, .int (nI (7 * j))), (4, .ref od), (3, .ref ol), (2, .ref m0), (1, .ref d0), (0, .ref b)]) hx hb dL_law_729 hl (by decide) rfl (fun ls hl => ?_)
  refine lv_aload_n hx hb dL_law_731 rfl (lv_at hl 5 rfl) ?_
  have hPm : va_P (dC, dI) vwCl (wMdl cy m0 a v (R)) H := hB _ (List.mem_of_getElem? (i := 3) rfl)
  refine vp_callSi (va_runV (As := []) (rest := []) ⟨hx, hb, hml, hown, hts⟩ (c_X5_thrown l dC dI cy m0 a (v) (R)) (cwV 0 hts gL_law_X5_thrown rfl rfl rfl (by decide +kernel) ⟨Nat.le_of_ble_eq_true rfl, Nat.le_of_ble_eq_true rfl⟩) ⟨bl_ro, va_recv hK hPm (ci := 5) (q0 := 0) rfl rfl, pr_ro hPm hE⟩ rfl rfl hl.1 rfl (lv_room (Nat.le_of_ble_eq_true rfl)) dL_law_732 ⟨by show cells + 1 + 0 + 0 ≤ 601024; omega, by show slots + 6 + 0 + 0 ≤ 7293034; omega⟩).run (fun r e_r => ?_)
  subst e_r
  refine lv_iload hx hb dL_law_735 (lv_at hl 1 rfl) ?_
  refine lv_icmp_eq (tgt := 742) hx hb dL_law_737 (by decide) (fun _ => ?_) (fun h0 => absurd t1 h0)
  refine lv_iload hx hb dL_law_742 (lv_at hl 1 rfl) ?_
  refine lv_if_ne (tgt := 759) hx hb dL_law_744 (by decide) (fun g0 => ?_) (fun g0 => ?_)
  · skip
    refine lv_goto (tgt := 2107) hx hb dL_law_759 (by decide) ?_
    refine W.widen (k := cells + 3) (n := slots + 18) (by omega) (by omega) ?_
    exact kk9 _ _ _ _ _ _ _ _ t3 ⟨hB, hBD, hS⟩ (lv_sub hl [2, 3, 4, 5, 6, 7] rfl)
  have hPo : va_P (dC, dI) vwCl (oL cy ol u.2) H := hB _ (List.mem_of_getElem? (i := 1) rfl)
  refine lv_aload_n hx hb dL_law_747 rfl (lv_at hl 4 rfl) ?_
  refine lv_iconst (v := 0) hx hb dL_law_748 (by decide) ?_
  refine va_lald hx hb hK hPo 0 3 rfl rfl (i := 0) (by unfold vp_in; decide) dL_law_749 ?_
  refine lv_iload hx hb dL_law_750 (lv_at hl 0 rfl) ?_
  refine lv_i2l hx hb dL_law_752 rfl ?_
  refine W.lcmp hx hb dL_law_753 ?_
  refine lv_if_eq (tgt := 759) hx hb dL_law_754 (by decide) (fun _ => ?_) (fun h0 => absurd (by show lg_cmp u.2 b9.toInt64 = 0; rw [t2 g0]; exact lcmp_self _) h0)
  refine lv_goto (tgt := 2107) hx hb dL_law_759 (by decide) ?_
  refine W.widen (k := cells + 3) (n := slots + 18) (by omega) (by omega) ?_
  exact kk9 _ _ _ _ _ _ _ _ t3 ⟨hB, hBD, hS⟩ (lv_sub hl [2, 3, 4, 5, 6, 7] rfl)
set_option maxHeartbeats 1000000 in
set_option maxRecDepth 100000 in
/-- call 12 of the script -/
theorem case_12 {p : Program} {l : Launch} {e : Env} {s : State} {m : MethodId} {below : List Frame} {meth : Method} {c : Code} {Q : State → Prop} {b Lx : Nat} {xs : Nat → Int32} {dC : Nat → ClassId} {dI : Nat → Nat → Nat} {cy : Nat → ClassId} (C : LCx p l s m meth c b Lx xs dC dI cy) {κ : KA} {ol od m0 : Nat} {a : Nat → Nat} {j : Nat} (hj : 7 * j + 7 ≤ Lx) (hLx : Lx ≤ 3584) {cells slots : Nat} (hce : cells + 3 ≤ 601024) (hsl : slots + 18 ≤ 7293034) (kk9 : KON p l e s m below meth c Q b dC dI cy κ ol od m0 a j (cells + 3) (slots + 18)) {σ : CS} {I : Nat → Int32} {R : vG} {y : Int64} {yd : UInt64} {H : Heap} {locs : List Loc} {ls : Array Slot} (hR : Rel σ I R) (hLB : LB dC dI cy κ ol od m0 a s σ I R y yd H locs) (hl : lv_has ls 9 (LV κ ol od m0 b j)) : W p l e room_1 s m #[Value.ref b] below meth c H locs cells slots Q (F0 m 762 ls []) := by
  obtain ⟨hx, hb, hml, hown, hts, hX0, hbl, hE, hXV, hZ, hV, hst⟩ := C
  have hK := hE.1
  obtain ⟨hB, hBD, hS⟩ := hLB
  have hA : ∀ q, s.heap.size ≤ q → AL s q := fun _ h => h
  have hbA : ¬ AL s b := Nat.not_le.mpr hbl
  have hok := hR.ok
  obtain ⟨d0, o, bc, bt, bv, rg, cs, bs, ta, tb, z, bq, rt⟩ := κ
  obtain ⟨⟨F, ⟨G, n, sc⟩, ⟨Gt, nt, sct⟩, x, kk, RG, rn, RS⟩, ⟨Gv, nv9, scv⟩, ⟨C, N, L, fl⟩, M, ⟨Gz, nz, scz⟩, Q9, T⟩ := σ
  have hRc := hR
  obtain ⟨⟨hn, hG, hgs, esc, hS0, hS1, hag⟩, hnt, hx6, hkk, hI5, hrn, hh, hnv, hI6, hsv, hL, hI8, htx, hI9, hnz, hI10, hI11, hI12, hI13, hI14, hnn, hsm⟩ := hRc
  have hGR := okG_agr hag.symm hG
  have hl : lv_has ls 9 [(5, .int (nI (7 * j))), (4, .ref od), (3, .ref ol), (2, .ref m0), (1, .ref d0), (0, .ref b)] := hl
  refine lv_aload_n hx hb dL_law_762 rfl (lv_at hl 4 rfl) ?_
  refine lv_aload_n hx hb dL_law_763 rfl (lv_at hl 5 rfl) ?_
  refine lv_iload hx hb dL_law_764 (lv_at hl 0 rfl) ?_
  refine lv_iconst (v := 1) hx hb dL_law_766 (by decide) ?_
  refine lv_iadd hx hb dL_law_767 ?_
  refine vn_sld hx hb hX0 hbl hbA hS (7 * j + 1) (nI_add (7 * j) 1) (by omega) (by omega) dL_law_768 ?_
  refine lv_aload_n hx hb dL_law_769 rfl (lv_at hl 2 rfl) ?_
  have hPc : va_P (dC, dI) vwCl (wK cy (d0, o, bc, bt, bv, rg, cs, bs, ta, tb, z, bq, rt) ((F, (G, n, sc), (Gt, nt, sct), (x, kk, RG, rn, RS)), (Gv, nv9, scv), (C, N, L, fl), (M, (Gz, nz, scz), Q9, T)) ++ oL cy ol y) H := gl_P.mpr (hB.sub (bs' := [wK cy (d0, o, bc, bt, bv, rg, cs, bs, ta, tb, z, bq, rt) ((F, (G, n, sc), (Gt, nt, sct), (x, kk, RG, rn, RS)), (Gv, nv9, scv), (C, N, L, fl), (M, (Gz, nz, scz), Q9, T)), oL cy ol y]) [0, 1] rfl)
  have hDc : va_D (AL s) (wK cy (d0, o, bc, bt, bv, rg, cs, bs, ta, tb, z, bq, rt) ((F, (G, n, sc), (Gt, nt, sct), (x, kk, RG, rn, RS)), (Gv, nv9, scv), (C, N, L, fl), (M, (Gz, nz, scz), Q9, T)) ++ oL cy ol y) := gl_D.mpr (hBD.sub (bs' := [wK cy (d0, o, bc, bt, bv, rg, cs, bs, ta, tb, z, bq, rt) ((F, (G, n, sc), (Gt, nt, sct), (x, kk, RG, rn, RS)), (Gv, nv9, scv), (C, N, L, fl), (M, (Gz, nz, scz), Q9, T)), oL cy ol y]) [0, 1] (by decide) rfl)
  have hFc : ∀ q, va_A (wK cy (d0, o, bc, bt, bv, rg, cs, bs, ta, tb, z, bq, rt) ((F, (G, n, sc), (Gt, nt, sct), (x, kk, RG, rn, RS)), (Gv, nv9, scv), (C, N, L, fl), (M, (Gz, nz, scz), Q9, T)) ++ oL cy ol y) H.size q → AL s q := BF (cb := [wK cy (d0, o, bc, bt, bv, rg, cs, bs, ta, tb, z, bq, rt) ((F, (G, n, sc), (Gt, nt, sct), (x, kk, RG, rn, RS)), (Gv, nv9, scv), (C, N, L, fl), (M, (Gz, nz, scz), Q9, T)), oL cy ol y]) hBD hS hA [0, 1] rfl
  refine lc_L (vx_runSW (As := [.ref d0, .int (xs (7 * j + 1)), .ref ol]) (rest := []) ⟨hx, hb, hml, hown, hts⟩ (c_L_virtualDeadline l hst dC dI cy H.size d0 o bc bt bv rg cs bs ta tb z bq rt F G n sc Gt nt sct x kk RG rn RS Gv nv9 scv C N L fl M Gz nz scz Q9 T hok ol y (xs (7 * j + 1))) (vx_cwSW 3 hts gL_law_L_virtualDeadline rfl rfl rfl (by decide +kernel) ⟨Nat.le_of_ble_eq_true rfl, Nat.le_of_ble_eq_true rfl⟩) ⟨bl_L, pr_L hPc hE hDc hXV hZ hS hFc hV⟩ rfl rfl hl.1 rfl (lv_room (Nat.le_of_ble_eq_true rfl)) dL_law_770 ⟨by show cells + 1 ≤ 601024; omega, by show slots + 6 ≤ 7293034; omega⟩) hB hBD hS (fun k u H locs hk hB hBD hS => ?_)
  clear hPc hDc hFc
  refine lv_istore (lv' := [(6, .int k), (5, .int (nI (7 * j))), (4, .ref od), (3, .ref ol), (2, .ref m0), (1, .ref d0), (0, .ref b)]) hx hb dL_law_773 hl (by decide) rfl (fun ls hl => ?_)
  refine lv_aload_n hx hb dL_law_775 rfl (lv_at hl 4 rfl) ?_
  refine lv_aload_n hx hb dL_law_776 rfl (lv_at hl 6 rfl) ?_
  refine lv_iload hx hb dL_law_777 (lv_at hl 1 rfl) ?_
  refine lv_iconst (v := 1) hx hb dL_law_779 (by decide) ?_
  refine lv_iadd hx hb dL_law_780 ?_
  refine vn_sld hx hb hX0 hbl hbA hS (7 * j + 1) (nI_add (7 * j) 1) (by omega) (by omega) dL_law_781 ?_
  have hPm : va_P (dC, dI) vwCl (wMdl cy m0 a I R) H := hB _ (List.mem_of_getElem? (i := 3) rfl)
  have hDm : va_D (AL s) (wMdl cy m0 a I R) := hBD.2 _ (List.mem_of_getElem? (i := 3) rfl)
  refine lc_Mi (fun u : Nat → Int32 => u) (fun _ : Nat → Int32 => R) (va_runV (As := [.int (xs (7 * j + 1))]) (rest := []) ⟨hx, hb, hml, hown, hts⟩ (c_X5_virtualDeadline l dC dI cy H.size m0 a I R n hn hS0 hGR (xs (7 * j + 1))) (cwV 1 hts gL_law_X5_virtualDeadline rfl rfl rfl (by decide +kernel) ⟨Nat.le_of_ble_eq_true rfl, Nat.le_of_ble_eq_true rfl⟩) ⟨bl_in, va_recv hK hPm (ci := 5) (q0 := 0) rfl rfl, pr_in hPm hE hDm⟩ rfl rfl hl.1 rfl (lv_room (Nat.le_of_ble_eq_true rfl)) dL_law_782 ⟨by show cells + 1 + 0 ≤ 601024; omega, by show slots + 6 + 0 ≤ 7293034; omega⟩) hB hBD hS (fun b9 v H locs hm hB hBD hS => ?_)
  clear hPm hDm
  obtain ⟨t1, t2, t3⟩ := st_rv (z := b9.toInt64) hR hk hm.1 rfl (fun g => by rw [hm.2 g]; exact congrArg Int32.toInt64 (by rw [vdl_agr hag (cT_lt hn g), hS1]))
  refine lv_istore (lv' := [(7, .int b9), (6, .int k), (5, .int (nI (7 * j))), (4, .ref od), (3, .ref ol), (2, .ref m0), (1, .ref d0), (0, .ref b)]) hx hb dL_law_785 hl (by decide) rfl (fun ls hl => ?_)
  refine lv_aload_n hx hb dL_law_787 rfl (lv_at hl 5 rfl) ?_
  have hPm : va_P (dC, dI) vwCl (wMdl cy m0 a v (R)) H := hB _ (List.mem_of_getElem? (i := 3) rfl)
  refine vp_callSi (va_runV (As := []) (rest := []) ⟨hx, hb, hml, hown, hts⟩ (c_X5_thrown l dC dI cy m0 a (v) (R)) (cwV 0 hts gL_law_X5_thrown rfl rfl rfl (by decide +kernel) ⟨Nat.le_of_ble_eq_true rfl, Nat.le_of_ble_eq_true rfl⟩) ⟨bl_ro, va_recv hK hPm (ci := 5) (q0 := 0) rfl rfl, pr_ro hPm hE⟩ rfl rfl hl.1 rfl (lv_room (Nat.le_of_ble_eq_true rfl)) dL_law_788 ⟨by show cells + 1 + 0 + 0 ≤ 601024; omega, by show slots + 6 + 0 + 0 ≤ 7293034; omega⟩).run (fun r e_r => ?_)
  subst e_r
  refine lv_iload hx hb dL_law_791 (lv_at hl 1 rfl) ?_
  refine lv_icmp_eq (tgt := 798) hx hb dL_law_793 (by decide) (fun _ => ?_) (fun h0 => absurd t1 h0)
  refine lv_iload hx hb dL_law_798 (lv_at hl 1 rfl) ?_
  refine lv_if_ne (tgt := 815) hx hb dL_law_800 (by decide) (fun g0 => ?_) (fun g0 => ?_)
  · skip
    refine lv_goto (tgt := 2107) hx hb dL_law_815 (by decide) ?_
    refine W.widen (k := cells + 3) (n := slots + 18) (by omega) (by omega) ?_
    exact kk9 _ _ _ _ _ _ _ _ t3 ⟨hB, hBD, hS⟩ (lv_sub hl [2, 3, 4, 5, 6, 7] rfl)
  have hPo : va_P (dC, dI) vwCl (oL cy ol u.2) H := hB _ (List.mem_of_getElem? (i := 1) rfl)
  refine lv_aload_n hx hb dL_law_803 rfl (lv_at hl 4 rfl) ?_
  refine lv_iconst (v := 0) hx hb dL_law_804 (by decide) ?_
  refine va_lald hx hb hK hPo 0 3 rfl rfl (i := 0) (by unfold vp_in; decide) dL_law_805 ?_
  refine lv_iload hx hb dL_law_806 (lv_at hl 0 rfl) ?_
  refine lv_i2l hx hb dL_law_808 rfl ?_
  refine W.lcmp hx hb dL_law_809 ?_
  refine lv_if_eq (tgt := 815) hx hb dL_law_810 (by decide) (fun _ => ?_) (fun h0 => absurd (by show lg_cmp u.2 b9.toInt64 = 0; rw [t2 g0]; exact lcmp_self _) h0)
  refine lv_goto (tgt := 2107) hx hb dL_law_815 (by decide) ?_
  refine W.widen (k := cells + 3) (n := slots + 18) (by omega) (by omega) ?_
  exact kk9 _ _ _ _ _ _ _ _ t3 ⟨hB, hBD, hS⟩ (lv_sub hl [2, 3, 4, 5, 6, 7] rfl)
set_option maxHeartbeats 1000000 in
set_option maxRecDepth 100000 in
/-- call 13 of the script -/
theorem case_13 {p : Program} {l : Launch} {e : Env} {s : State} {m : MethodId} {below : List Frame} {meth : Method} {c : Code} {Q : State → Prop} {b Lx : Nat} {xs : Nat → Int32} {dC : Nat → ClassId} {dI : Nat → Nat → Nat} {cy : Nat → ClassId} (C : LCx p l s m meth c b Lx xs dC dI cy) {κ : KA} {ol od m0 : Nat} {a : Nat → Nat} {j : Nat} (hj : 7 * j + 7 ≤ Lx) (hLx : Lx ≤ 3584) {cells slots : Nat} (hce : cells + 3 ≤ 601024) (hsl : slots + 18 ≤ 7293034) (kk9 : KON p l e s m below meth c Q b dC dI cy κ ol od m0 a j (cells + 3) (slots + 18)) {σ : CS} {I : Nat → Int32} {R : vG} {y : Int64} {yd : UInt64} {H : Heap} {locs : List Loc} {ls : Array Slot} (hR : Rel σ I R) (hLB : LB dC dI cy κ ol od m0 a s σ I R y yd H locs) (hl : lv_has ls 9 (LV κ ol od m0 b j)) : W p l e room_1 s m #[Value.ref b] below meth c H locs cells slots Q (F0 m 818 ls []) := by
  obtain ⟨hx, hb, hml, hown, hts, hX0, hbl, hE, hXV, hZ, hV, hst⟩ := C
  have hK := hE.1
  obtain ⟨hB, hBD, hS⟩ := hLB
  have hA : ∀ q, s.heap.size ≤ q → AL s q := fun _ h => h
  have hbA : ¬ AL s b := Nat.not_le.mpr hbl
  have hok := hR.ok
  obtain ⟨d0, o, bc, bt, bv, rg, cs, bs, ta, tb, z, bq, rt⟩ := κ
  obtain ⟨⟨F, ⟨G, n, sc⟩, ⟨Gt, nt, sct⟩, x, kk, RG, rn, RS⟩, ⟨Gv, nv9, scv⟩, ⟨C, N, L, fl⟩, M, ⟨Gz, nz, scz⟩, Q9, T⟩ := σ
  have hRc := hR
  obtain ⟨⟨hn, hG, hgs, esc, hS0, hS1, hag⟩, hnt, hx6, hkk, hI5, hrn, hh, hnv, hI6, hsv, hL, hI8, htx, hI9, hnz, hI10, hI11, hI12, hI13, hI14, hnn, hsm⟩ := hRc
  have hGR := okG_agr hag.symm hG
  have hl : lv_has ls 9 [(5, .int (nI (7 * j))), (4, .ref od), (3, .ref ol), (2, .ref m0), (1, .ref d0), (0, .ref b)] := hl
  refine lv_aload_n hx hb dL_law_818 rfl (lv_at hl 4 rfl) ?_
  refine lv_aload_n hx hb dL_law_819 rfl (lv_at hl 5 rfl) ?_
  refine lv_iload hx hb dL_law_820 (lv_at hl 0 rfl) ?_
  refine lv_iconst (v := 1) hx hb dL_law_822 (by decide) ?_
  refine lv_iadd hx hb dL_law_823 ?_
  refine vn_sld hx hb hX0 hbl hbA hS (7 * j + 1) (nI_add (7 * j) 1) (by omega) (by omega) dL_law_824 ?_
  refine lv_aload_n hx hb dL_law_825 rfl (lv_at hl 5 rfl) ?_
  refine lv_iload hx hb dL_law_826 (lv_at hl 0 rfl) ?_
  refine lv_iconst (v := 2) hx hb dL_law_828 (by decide) ?_
  refine lv_iadd hx hb dL_law_829 ?_
  refine vn_sld hx hb hX0 hbl hbA hS (7 * j + 2) (nI_add (7 * j) 2) (by omega) (by omega) dL_law_830 ?_
  refine lv_aload_n hx hb dL_law_831 rfl (lv_at hl 2 rfl) ?_
  have hPc : va_P (dC, dI) vwCl (wK cy (d0, o, bc, bt, bv, rg, cs, bs, ta, tb, z, bq, rt) ((F, (G, n, sc), (Gt, nt, sct), (x, kk, RG, rn, RS)), (Gv, nv9, scv), (C, N, L, fl), (M, (Gz, nz, scz), Q9, T)) ++ oL cy ol y) H := gl_P.mpr (hB.sub (bs' := [wK cy (d0, o, bc, bt, bv, rg, cs, bs, ta, tb, z, bq, rt) ((F, (G, n, sc), (Gt, nt, sct), (x, kk, RG, rn, RS)), (Gv, nv9, scv), (C, N, L, fl), (M, (Gz, nz, scz), Q9, T)), oL cy ol y]) [0, 1] rfl)
  have hDc : va_D (AL s) (wK cy (d0, o, bc, bt, bv, rg, cs, bs, ta, tb, z, bq, rt) ((F, (G, n, sc), (Gt, nt, sct), (x, kk, RG, rn, RS)), (Gv, nv9, scv), (C, N, L, fl), (M, (Gz, nz, scz), Q9, T)) ++ oL cy ol y) := gl_D.mpr (hBD.sub (bs' := [wK cy (d0, o, bc, bt, bv, rg, cs, bs, ta, tb, z, bq, rt) ((F, (G, n, sc), (Gt, nt, sct), (x, kk, RG, rn, RS)), (Gv, nv9, scv), (C, N, L, fl), (M, (Gz, nz, scz), Q9, T)), oL cy ol y]) [0, 1] (by decide) rfl)
  have hFc : ∀ q, va_A (wK cy (d0, o, bc, bt, bv, rg, cs, bs, ta, tb, z, bq, rt) ((F, (G, n, sc), (Gt, nt, sct), (x, kk, RG, rn, RS)), (Gv, nv9, scv), (C, N, L, fl), (M, (Gz, nz, scz), Q9, T)) ++ oL cy ol y) H.size q → AL s q := BF (cb := [wK cy (d0, o, bc, bt, bv, rg, cs, bs, ta, tb, z, bq, rt) ((F, (G, n, sc), (Gt, nt, sct), (x, kk, RG, rn, RS)), (Gv, nv9, scv), (C, N, L, fl), (M, (Gz, nz, scz), Q9, T)), oL cy ol y]) hBD hS hA [0, 1] rfl
  refine lc_L (vx_runSW (As := [.ref d0, .int (xs (7 * j + 1)), .int (xs (7 * j + 2)), .ref ol]) (rest := []) ⟨hx, hb, hml, hown, hts⟩ (c_L_budget l hst dC dI cy H.size d0 o bc bt bv rg cs bs ta tb z bq rt F G n sc Gt nt sct x kk RG rn RS Gv nv9 scv C N L fl M Gz nz scz Q9 T hok ol y (xs (7 * j + 1)) (xs (7 * j + 2))) (vx_cwSW 4 hts gL_law_L_budget rfl rfl rfl (by decide +kernel) ⟨Nat.le_of_ble_eq_true rfl, Nat.le_of_ble_eq_true rfl⟩) ⟨bl_L, pr_L hPc hE hDc hXV hZ hS hFc hV⟩ rfl rfl hl.1 rfl (lv_room (Nat.le_of_ble_eq_true rfl)) dL_law_832 ⟨by show cells + 3 ≤ 601024; omega, by show slots + 18 ≤ 7293034; omega⟩) hB hBD hS (fun k u H locs hk hB hBD hS => ?_)
  clear hPc hDc hFc
  refine lv_istore (lv' := [(6, .int k), (5, .int (nI (7 * j))), (4, .ref od), (3, .ref ol), (2, .ref m0), (1, .ref d0), (0, .ref b)]) hx hb dL_law_835 hl (by decide) rfl (fun ls hl => ?_)
  refine lv_aload_n hx hb dL_law_837 rfl (lv_at hl 4 rfl) ?_
  refine lv_aload_n hx hb dL_law_838 rfl (lv_at hl 6 rfl) ?_
  refine lv_iload hx hb dL_law_839 (lv_at hl 1 rfl) ?_
  refine lv_iconst (v := 1) hx hb dL_law_841 (by decide) ?_
  refine lv_iadd hx hb dL_law_842 ?_
  refine vn_sld hx hb hX0 hbl hbA hS (7 * j + 1) (nI_add (7 * j) 1) (by omega) (by omega) dL_law_843 ?_
  refine lv_aload_n hx hb dL_law_844 rfl (lv_at hl 6 rfl) ?_
  refine lv_iload hx hb dL_law_845 (lv_at hl 1 rfl) ?_
  refine lv_iconst (v := 2) hx hb dL_law_847 (by decide) ?_
  refine lv_iadd hx hb dL_law_848 ?_
  refine vn_sld hx hb hX0 hbl hbA hS (7 * j + 2) (nI_add (7 * j) 2) (by omega) (by omega) dL_law_849 ?_
  have hPm : va_P (dC, dI) vwCl (wMdl cy m0 a I R) H := hB _ (List.mem_of_getElem? (i := 3) rfl)
  have hDm : va_D (AL s) (wMdl cy m0 a I R) := hBD.2 _ (List.mem_of_getElem? (i := 3) rfl)
  refine lc_Mi (fun u : Nat → Int32 => u) (fun _ : Nat → Int32 => R) (va_runV (As := [.int (xs (7 * j + 1)), .int (xs (7 * j + 2))]) (rest := []) ⟨hx, hb, hml, hown, hts⟩ (c_X5_budget l dC dI cy H.size m0 a I R n hn hS0 hGR (xs (7 * j + 1)) (xs (7 * j + 2))) (cwV 2 hts gL_law_X5_budget rfl rfl rfl (by decide +kernel) ⟨Nat.le_of_ble_eq_true rfl, Nat.le_of_ble_eq_true rfl⟩) ⟨bl_in, va_recv hK hPm (ci := 5) (q0 := 0) rfl rfl, pr_in hPm hE hDm⟩ rfl rfl hl.1 rfl (lv_room (Nat.le_of_ble_eq_true rfl)) dL_law_850 ⟨by show cells + 3 + 0 ≤ 601024; omega, by show slots + 18 + 0 ≤ 7293034; omega⟩) hB hBD hS (fun b9 v H locs hm hB hBD hS => ?_)
  clear hPm hDm
  obtain ⟨t1, t2, t3⟩ := st_rv (z := b9.toInt64) hR hk hm.1 (cBud_agr hn hag _ _) (fun g => by rw [hm.2 ((cBud_agr hn hag _ _).trans g)]; exact congrArg Int32.toInt64 (vBud_agr hn hag (cBud_T g)).symm)
  refine lv_istore (lv' := [(7, .int b9), (6, .int k), (5, .int (nI (7 * j))), (4, .ref od), (3, .ref ol), (2, .ref m0), (1, .ref d0), (0, .ref b)]) hx hb dL_law_853 hl (by decide) rfl (fun ls hl => ?_)
  refine lv_aload_n hx hb dL_law_855 rfl (lv_at hl 5 rfl) ?_
  have hPm : va_P (dC, dI) vwCl (wMdl cy m0 a v (R)) H := hB _ (List.mem_of_getElem? (i := 3) rfl)
  refine vp_callSi (va_runV (As := []) (rest := []) ⟨hx, hb, hml, hown, hts⟩ (c_X5_thrown l dC dI cy m0 a (v) (R)) (cwV 0 hts gL_law_X5_thrown rfl rfl rfl (by decide +kernel) ⟨Nat.le_of_ble_eq_true rfl, Nat.le_of_ble_eq_true rfl⟩) ⟨bl_ro, va_recv hK hPm (ci := 5) (q0 := 0) rfl rfl, pr_ro hPm hE⟩ rfl rfl hl.1 rfl (lv_room (Nat.le_of_ble_eq_true rfl)) dL_law_856 ⟨by show cells + 3 + 0 + 0 ≤ 601024; omega, by show slots + 18 + 0 + 0 ≤ 7293034; omega⟩).run (fun r e_r => ?_)
  subst e_r
  refine lv_iload hx hb dL_law_859 (lv_at hl 1 rfl) ?_
  refine lv_icmp_eq (tgt := 866) hx hb dL_law_861 (by decide) (fun _ => ?_) (fun h0 => absurd t1 h0)
  refine lv_iload hx hb dL_law_866 (lv_at hl 1 rfl) ?_
  refine lv_if_ne (tgt := 883) hx hb dL_law_868 (by decide) (fun g0 => ?_) (fun g0 => ?_)
  · skip
    refine lv_goto (tgt := 2107) hx hb dL_law_883 (by decide) ?_
    refine W.widen (k := cells + 3) (n := slots + 18) (by omega) (by omega) ?_
    exact kk9 _ _ _ _ _ _ _ _ t3 ⟨hB, hBD, hS⟩ (lv_sub hl [2, 3, 4, 5, 6, 7] rfl)
  have hPo : va_P (dC, dI) vwCl (oL cy ol u.2) H := hB _ (List.mem_of_getElem? (i := 1) rfl)
  refine lv_aload_n hx hb dL_law_871 rfl (lv_at hl 4 rfl) ?_
  refine lv_iconst (v := 0) hx hb dL_law_872 (by decide) ?_
  refine va_lald hx hb hK hPo 0 3 rfl rfl (i := 0) (by unfold vp_in; decide) dL_law_873 ?_
  refine lv_iload hx hb dL_law_874 (lv_at hl 0 rfl) ?_
  refine lv_i2l hx hb dL_law_876 rfl ?_
  refine W.lcmp hx hb dL_law_877 ?_
  refine lv_if_eq (tgt := 883) hx hb dL_law_878 (by decide) (fun _ => ?_) (fun h0 => absurd (by show lg_cmp u.2 b9.toInt64 = 0; rw [t2 g0]; exact lcmp_self _) h0)
  refine lv_goto (tgt := 2107) hx hb dL_law_883 (by decide) ?_
  refine W.widen (k := cells + 3) (n := slots + 18) (by omega) (by omega) ?_
  exact kk9 _ _ _ _ _ _ _ _ t3 ⟨hB, hBD, hS⟩ (lv_sub hl [2, 3, 4, 5, 6, 7] rfl)
set_option maxHeartbeats 1000000 in
set_option maxRecDepth 100000 in
/-- call 14 of the script -/
theorem case_14 {p : Program} {l : Launch} {e : Env} {s : State} {m : MethodId} {below : List Frame} {meth : Method} {c : Code} {Q : State → Prop} {b Lx : Nat} {xs : Nat → Int32} {dC : Nat → ClassId} {dI : Nat → Nat → Nat} {cy : Nat → ClassId} (C : LCx p l s m meth c b Lx xs dC dI cy) {κ : KA} {ol od m0 : Nat} {a : Nat → Nat} {j : Nat} (hj : 7 * j + 7 ≤ Lx) (hLx : Lx ≤ 3584) {cells slots : Nat} (hce : cells + 3 ≤ 601024) (hsl : slots + 18 ≤ 7293034) (kk9 : KON p l e s m below meth c Q b dC dI cy κ ol od m0 a j (cells + 3) (slots + 18)) {σ : CS} {I : Nat → Int32} {R : vG} {y : Int64} {yd : UInt64} {H : Heap} {locs : List Loc} {ls : Array Slot} (hR : Rel σ I R) (hLB : LB dC dI cy κ ol od m0 a s σ I R y yd H locs) (hl : lv_has ls 9 (LV κ ol od m0 b j)) : W p l e room_1 s m #[Value.ref b] below meth c H locs cells slots Q (F0 m 886 ls []) := by
  obtain ⟨hx, hb, hml, hown, hts, hX0, hbl, hE, hXV, hZ, hV, hst⟩ := C
  have hK := hE.1
  obtain ⟨hB, hBD, hS⟩ := hLB
  have hA : ∀ q, s.heap.size ≤ q → AL s q := fun _ h => h
  have hbA : ¬ AL s b := Nat.not_le.mpr hbl
  have hok := hR.ok
  obtain ⟨d0, o, bc, bt, bv, rg, cs, bs, ta, tb, z, bq, rt⟩ := κ
  obtain ⟨⟨F, ⟨G, n, sc⟩, ⟨Gt, nt, sct⟩, x, kk, RG, rn, RS⟩, ⟨Gv, nv9, scv⟩, ⟨C, N, L, fl⟩, M, ⟨Gz, nz, scz⟩, Q9, T⟩ := σ
  have hRc := hR
  obtain ⟨⟨hn, hG, hgs, esc, hS0, hS1, hag⟩, hnt, hx6, hkk, hI5, hrn, hh, hnv, hI6, hsv, hL, hI8, htx, hI9, hnz, hI10, hI11, hI12, hI13, hI14, hnn, hsm⟩ := hRc
  have hGR := okG_agr hag.symm hG
  have hl : lv_has ls 9 [(5, .int (nI (7 * j))), (4, .ref od), (3, .ref ol), (2, .ref m0), (1, .ref d0), (0, .ref b)] := hl
  refine lv_aload_n hx hb dL_law_886 rfl (lv_at hl 4 rfl) ?_
  refine lv_aload_n hx hb dL_law_887 rfl (lv_at hl 5 rfl) ?_
  refine lv_iload hx hb dL_law_888 (lv_at hl 0 rfl) ?_
  refine lv_iconst (v := 1) hx hb dL_law_890 (by decide) ?_
  refine lv_iadd hx hb dL_law_891 ?_
  refine vn_sld hx hb hX0 hbl hbA hS (7 * j + 1) (nI_add (7 * j) 1) (by omega) (by omega) dL_law_892 ?_
  refine lv_aload_n hx hb dL_law_893 rfl (lv_at hl 2 rfl) ?_
  have hPc : va_P (dC, dI) vwCl (wK cy (d0, o, bc, bt, bv, rg, cs, bs, ta, tb, z, bq, rt) ((F, (G, n, sc), (Gt, nt, sct), (x, kk, RG, rn, RS)), (Gv, nv9, scv), (C, N, L, fl), (M, (Gz, nz, scz), Q9, T)) ++ oL cy ol y) H := gl_P.mpr (hB.sub (bs' := [wK cy (d0, o, bc, bt, bv, rg, cs, bs, ta, tb, z, bq, rt) ((F, (G, n, sc), (Gt, nt, sct), (x, kk, RG, rn, RS)), (Gv, nv9, scv), (C, N, L, fl), (M, (Gz, nz, scz), Q9, T)), oL cy ol y]) [0, 1] rfl)
  have hDc : va_D (AL s) (wK cy (d0, o, bc, bt, bv, rg, cs, bs, ta, tb, z, bq, rt) ((F, (G, n, sc), (Gt, nt, sct), (x, kk, RG, rn, RS)), (Gv, nv9, scv), (C, N, L, fl), (M, (Gz, nz, scz), Q9, T)) ++ oL cy ol y) := gl_D.mpr (hBD.sub (bs' := [wK cy (d0, o, bc, bt, bv, rg, cs, bs, ta, tb, z, bq, rt) ((F, (G, n, sc), (Gt, nt, sct), (x, kk, RG, rn, RS)), (Gv, nv9, scv), (C, N, L, fl), (M, (Gz, nz, scz), Q9, T)), oL cy ol y]) [0, 1] (by decide) rfl)
  have hFc : ∀ q, va_A (wK cy (d0, o, bc, bt, bv, rg, cs, bs, ta, tb, z, bq, rt) ((F, (G, n, sc), (Gt, nt, sct), (x, kk, RG, rn, RS)), (Gv, nv9, scv), (C, N, L, fl), (M, (Gz, nz, scz), Q9, T)) ++ oL cy ol y) H.size q → AL s q := BF (cb := [wK cy (d0, o, bc, bt, bv, rg, cs, bs, ta, tb, z, bq, rt) ((F, (G, n, sc), (Gt, nt, sct), (x, kk, RG, rn, RS)), (Gv, nv9, scv), (C, N, L, fl), (M, (Gz, nz, scz), Q9, T)), oL cy ol y]) hBD hS hA [0, 1] rfl
  refine lc_L (vx_runSW (As := [.ref d0, .int (xs (7 * j + 1)), .ref ol]) (rest := []) ⟨hx, hb, hml, hown, hts⟩ (c_L_level l hst dC dI cy H.size d0 o bc bt bv rg cs bs ta tb z bq rt F G n sc Gt nt sct x kk RG rn RS Gv nv9 scv C N L fl M Gz nz scz Q9 T hok ol y (xs (7 * j + 1))) (vx_cwSW 3 hts gL_law_L_level rfl rfl rfl (by decide +kernel) ⟨Nat.le_of_ble_eq_true rfl, Nat.le_of_ble_eq_true rfl⟩) ⟨bl_L, pr_L hPc hE hDc hXV hZ hS hFc hV⟩ rfl rfl hl.1 rfl (lv_room (Nat.le_of_ble_eq_true rfl)) dL_law_894 ⟨by show cells + 1 ≤ 601024; omega, by show slots + 6 ≤ 7293034; omega⟩) hB hBD hS (fun k u H locs hk hB hBD hS => ?_)
  clear hPc hDc hFc
  refine lv_istore (lv' := [(6, .int k), (5, .int (nI (7 * j))), (4, .ref od), (3, .ref ol), (2, .ref m0), (1, .ref d0), (0, .ref b)]) hx hb dL_law_897 hl (by decide) rfl (fun ls hl => ?_)
  refine lv_aload_n hx hb dL_law_899 rfl (lv_at hl 4 rfl) ?_
  refine lv_aload_n hx hb dL_law_900 rfl (lv_at hl 6 rfl) ?_
  refine lv_iload hx hb dL_law_901 (lv_at hl 1 rfl) ?_
  refine lv_iconst (v := 1) hx hb dL_law_903 (by decide) ?_
  refine lv_iadd hx hb dL_law_904 ?_
  refine vn_sld hx hb hX0 hbl hbA hS (7 * j + 1) (nI_add (7 * j) 1) (by omega) (by omega) dL_law_905 ?_
  have hPm : va_P (dC, dI) vwCl (wMdl cy m0 a I R) H := hB _ (List.mem_of_getElem? (i := 3) rfl)
  have hDm : va_D (AL s) (wMdl cy m0 a I R) := hBD.2 _ (List.mem_of_getElem? (i := 3) rfl)
  refine lc_Mi (fun u : Nat → Int32 => u) (fun _ : Nat → Int32 => R) (va_runV (As := [.int (xs (7 * j + 1))]) (rest := []) ⟨hx, hb, hml, hown, hts⟩ (c_X5_level l dC dI cy H.size m0 a I R n hn hS0 hGR (xs (7 * j + 1))) (cwV 1 hts gL_law_X5_level rfl rfl rfl (by decide +kernel) ⟨Nat.le_of_ble_eq_true rfl, Nat.le_of_ble_eq_true rfl⟩) ⟨bl_in, va_recv hK hPm (ci := 5) (q0 := 0) rfl rfl, pr_in hPm hE hDm⟩ rfl rfl hl.1 rfl (lv_room (Nat.le_of_ble_eq_true rfl)) dL_law_906 ⟨by show cells + 1 + 0 ≤ 601024; omega, by show slots + 6 + 0 ≤ 7293034; omega⟩) hB hBD hS (fun b9 v H locs hm hB hBD hS => ?_)
  clear hPm hDm
  obtain ⟨t1, t2, t3⟩ := st_rv (z := b9.toInt64) hR hk hm.1 rfl (fun g => by rw [hm.2 g]; exact congrArg Int32.toInt64 (hag 6 (by decide) _ (cT_lt hn g)).symm)
  refine lv_istore (lv' := [(7, .int b9), (6, .int k), (5, .int (nI (7 * j))), (4, .ref od), (3, .ref ol), (2, .ref m0), (1, .ref d0), (0, .ref b)]) hx hb dL_law_909 hl (by decide) rfl (fun ls hl => ?_)
  refine lv_aload_n hx hb dL_law_911 rfl (lv_at hl 5 rfl) ?_
  have hPm : va_P (dC, dI) vwCl (wMdl cy m0 a v (R)) H := hB _ (List.mem_of_getElem? (i := 3) rfl)
  refine vp_callSi (va_runV (As := []) (rest := []) ⟨hx, hb, hml, hown, hts⟩ (c_X5_thrown l dC dI cy m0 a (v) (R)) (cwV 0 hts gL_law_X5_thrown rfl rfl rfl (by decide +kernel) ⟨Nat.le_of_ble_eq_true rfl, Nat.le_of_ble_eq_true rfl⟩) ⟨bl_ro, va_recv hK hPm (ci := 5) (q0 := 0) rfl rfl, pr_ro hPm hE⟩ rfl rfl hl.1 rfl (lv_room (Nat.le_of_ble_eq_true rfl)) dL_law_912 ⟨by show cells + 1 + 0 + 0 ≤ 601024; omega, by show slots + 6 + 0 + 0 ≤ 7293034; omega⟩).run (fun r e_r => ?_)
  subst e_r
  refine lv_iload hx hb dL_law_915 (lv_at hl 1 rfl) ?_
  refine lv_icmp_eq (tgt := 922) hx hb dL_law_917 (by decide) (fun _ => ?_) (fun h0 => absurd t1 h0)
  refine lv_iload hx hb dL_law_922 (lv_at hl 1 rfl) ?_
  refine lv_if_ne (tgt := 939) hx hb dL_law_924 (by decide) (fun g0 => ?_) (fun g0 => ?_)
  · skip
    refine lv_goto (tgt := 2107) hx hb dL_law_939 (by decide) ?_
    refine W.widen (k := cells + 3) (n := slots + 18) (by omega) (by omega) ?_
    exact kk9 _ _ _ _ _ _ _ _ t3 ⟨hB, hBD, hS⟩ (lv_sub hl [2, 3, 4, 5, 6, 7] rfl)
  have hPo : va_P (dC, dI) vwCl (oL cy ol u.2) H := hB _ (List.mem_of_getElem? (i := 1) rfl)
  refine lv_aload_n hx hb dL_law_927 rfl (lv_at hl 4 rfl) ?_
  refine lv_iconst (v := 0) hx hb dL_law_928 (by decide) ?_
  refine va_lald hx hb hK hPo 0 3 rfl rfl (i := 0) (by unfold vp_in; decide) dL_law_929 ?_
  refine lv_iload hx hb dL_law_930 (lv_at hl 0 rfl) ?_
  refine lv_i2l hx hb dL_law_932 rfl ?_
  refine W.lcmp hx hb dL_law_933 ?_
  refine lv_if_eq (tgt := 939) hx hb dL_law_934 (by decide) (fun _ => ?_) (fun h0 => absurd (by show lg_cmp u.2 b9.toInt64 = 0; rw [t2 g0]; exact lcmp_self _) h0)
  refine lv_goto (tgt := 2107) hx hb dL_law_939 (by decide) ?_
  refine W.widen (k := cells + 3) (n := slots + 18) (by omega) (by omega) ?_
  exact kk9 _ _ _ _ _ _ _ _ t3 ⟨hB, hBD, hS⟩ (lv_sub hl [2, 3, 4, 5, 6, 7] rfl)
set_option maxHeartbeats 1000000 in
set_option maxRecDepth 100000 in
/-- call 15 of the script -/
theorem case_15 {p : Program} {l : Launch} {e : Env} {s : State} {m : MethodId} {below : List Frame} {meth : Method} {c : Code} {Q : State → Prop} {b Lx : Nat} {xs : Nat → Int32} {dC : Nat → ClassId} {dI : Nat → Nat → Nat} {cy : Nat → ClassId} (C : LCx p l s m meth c b Lx xs dC dI cy) {κ : KA} {ol od m0 : Nat} {a : Nat → Nat} {j : Nat} (hj : 7 * j + 7 ≤ Lx) (hLx : Lx ≤ 3584) {cells slots : Nat} (hce : cells + 3 ≤ 601024) (hsl : slots + 18 ≤ 7293034) (kk9 : KON p l e s m below meth c Q b dC dI cy κ ol od m0 a j (cells + 3) (slots + 18)) {σ : CS} {I : Nat → Int32} {R : vG} {y : Int64} {yd : UInt64} {H : Heap} {locs : List Loc} {ls : Array Slot} (hR : Rel σ I R) (hLB : LB dC dI cy κ ol od m0 a s σ I R y yd H locs) (hl : lv_has ls 9 (LV κ ol od m0 b j)) : W p l e room_1 s m #[Value.ref b] below meth c H locs cells slots Q (F0 m 942 ls []) := by
  obtain ⟨hx, hb, hml, hown, hts, hX0, hbl, hE, hXV, hZ, hV, hst⟩ := C
  have hK := hE.1
  obtain ⟨hB, hBD, hS⟩ := hLB
  have hA : ∀ q, s.heap.size ≤ q → AL s q := fun _ h => h
  have hbA : ¬ AL s b := Nat.not_le.mpr hbl
  have hok := hR.ok
  obtain ⟨d0, o, bc, bt, bv, rg, cs, bs, ta, tb, z, bq, rt⟩ := κ
  obtain ⟨⟨F, ⟨G, n, sc⟩, ⟨Gt, nt, sct⟩, x, kk, RG, rn, RS⟩, ⟨Gv, nv9, scv⟩, ⟨C, N, L, fl⟩, M, ⟨Gz, nz, scz⟩, Q9, T⟩ := σ
  have hRc := hR
  obtain ⟨⟨hn, hG, hgs, esc, hS0, hS1, hag⟩, hnt, hx6, hkk, hI5, hrn, hh, hnv, hI6, hsv, hL, hI8, htx, hI9, hnz, hI10, hI11, hI12, hI13, hI14, hnn, hsm⟩ := hRc
  have hGR := okG_agr hag.symm hG
  have hl : lv_has ls 9 [(5, .int (nI (7 * j))), (4, .ref od), (3, .ref ol), (2, .ref m0), (1, .ref d0), (0, .ref b)] := hl
  refine lv_aload_n hx hb dL_law_942 rfl (lv_at hl 4 rfl) ?_
  refine lv_aload_n hx hb dL_law_943 rfl (lv_at hl 5 rfl) ?_
  refine lv_iload hx hb dL_law_944 (lv_at hl 0 rfl) ?_
  refine lv_iconst (v := 1) hx hb dL_law_946 (by decide) ?_
  refine lv_iadd hx hb dL_law_947 ?_
  refine vn_sld hx hb hX0 hbl hbA hS (7 * j + 1) (nI_add (7 * j) 1) (by omega) (by omega) dL_law_948 ?_
  refine lv_aload_n hx hb dL_law_949 rfl (lv_at hl 2 rfl) ?_
  have hPc : va_P (dC, dI) vwCl (wK cy (d0, o, bc, bt, bv, rg, cs, bs, ta, tb, z, bq, rt) ((F, (G, n, sc), (Gt, nt, sct), (x, kk, RG, rn, RS)), (Gv, nv9, scv), (C, N, L, fl), (M, (Gz, nz, scz), Q9, T)) ++ oL cy ol y) H := gl_P.mpr (hB.sub (bs' := [wK cy (d0, o, bc, bt, bv, rg, cs, bs, ta, tb, z, bq, rt) ((F, (G, n, sc), (Gt, nt, sct), (x, kk, RG, rn, RS)), (Gv, nv9, scv), (C, N, L, fl), (M, (Gz, nz, scz), Q9, T)), oL cy ol y]) [0, 1] rfl)
  have hDc : va_D (AL s) (wK cy (d0, o, bc, bt, bv, rg, cs, bs, ta, tb, z, bq, rt) ((F, (G, n, sc), (Gt, nt, sct), (x, kk, RG, rn, RS)), (Gv, nv9, scv), (C, N, L, fl), (M, (Gz, nz, scz), Q9, T)) ++ oL cy ol y) := gl_D.mpr (hBD.sub (bs' := [wK cy (d0, o, bc, bt, bv, rg, cs, bs, ta, tb, z, bq, rt) ((F, (G, n, sc), (Gt, nt, sct), (x, kk, RG, rn, RS)), (Gv, nv9, scv), (C, N, L, fl), (M, (Gz, nz, scz), Q9, T)), oL cy ol y]) [0, 1] (by decide) rfl)
  have hFc : ∀ q, va_A (wK cy (d0, o, bc, bt, bv, rg, cs, bs, ta, tb, z, bq, rt) ((F, (G, n, sc), (Gt, nt, sct), (x, kk, RG, rn, RS)), (Gv, nv9, scv), (C, N, L, fl), (M, (Gz, nz, scz), Q9, T)) ++ oL cy ol y) H.size q → AL s q := BF (cb := [wK cy (d0, o, bc, bt, bv, rg, cs, bs, ta, tb, z, bq, rt) ((F, (G, n, sc), (Gt, nt, sct), (x, kk, RG, rn, RS)), (Gv, nv9, scv), (C, N, L, fl), (M, (Gz, nz, scz), Q9, T)), oL cy ol y]) hBD hS hA [0, 1] rfl
  refine lc_L (vx_runSW (As := [.ref d0, .int (xs (7 * j + 1)), .ref ol]) (rest := []) ⟨hx, hb, hml, hown, hts⟩ (c_L_isCritical l hst dC dI cy H.size d0 o bc bt bv rg cs bs ta tb z bq rt F G n sc Gt nt sct x kk RG rn RS Gv nv9 scv C N L fl M Gz nz scz Q9 T hok ol y (xs (7 * j + 1))) (vx_cwSW 3 hts gL_law_L_isCritical rfl rfl rfl (by decide +kernel) ⟨Nat.le_of_ble_eq_true rfl, Nat.le_of_ble_eq_true rfl⟩) ⟨bl_L, pr_L hPc hE hDc hXV hZ hS hFc hV⟩ rfl rfl hl.1 rfl (lv_room (Nat.le_of_ble_eq_true rfl)) dL_law_950 ⟨by show cells + 1 ≤ 601024; omega, by show slots + 6 ≤ 7293034; omega⟩) hB hBD hS (fun k u H locs hk hB hBD hS => ?_)
  clear hPc hDc hFc
  refine lv_istore (lv' := [(6, .int k), (5, .int (nI (7 * j))), (4, .ref od), (3, .ref ol), (2, .ref m0), (1, .ref d0), (0, .ref b)]) hx hb dL_law_953 hl (by decide) rfl (fun ls hl => ?_)
  refine lv_aload_n hx hb dL_law_955 rfl (lv_at hl 4 rfl) ?_
  refine lv_aload_n hx hb dL_law_956 rfl (lv_at hl 6 rfl) ?_
  refine lv_iload hx hb dL_law_957 (lv_at hl 1 rfl) ?_
  refine lv_iconst (v := 1) hx hb dL_law_959 (by decide) ?_
  refine lv_iadd hx hb dL_law_960 ?_
  refine vn_sld hx hb hX0 hbl hbA hS (7 * j + 1) (nI_add (7 * j) 1) (by omega) (by omega) dL_law_961 ?_
  have hPm : va_P (dC, dI) vwCl (wMdl cy m0 a I R) H := hB _ (List.mem_of_getElem? (i := 3) rfl)
  have hDm : va_D (AL s) (wMdl cy m0 a I R) := hBD.2 _ (List.mem_of_getElem? (i := 3) rfl)
  refine lc_Mi (fun u : Nat → Int32 => u) (fun _ : Nat → Int32 => R) (va_runV (As := [.int (xs (7 * j + 1))]) (rest := []) ⟨hx, hb, hml, hown, hts⟩ (c_X5_isCritical l dC dI cy H.size m0 a I R n hn hS0 hGR (xs (7 * j + 1))) (cwV 1 hts gL_law_X5_isCritical rfl rfl rfl (by decide +kernel) ⟨Nat.le_of_ble_eq_true rfl, Nat.le_of_ble_eq_true rfl⟩) ⟨bl_in, va_recv hK hPm (ci := 5) (q0 := 0) rfl rfl, pr_in hPm hE hDm⟩ rfl rfl hl.1 rfl (lv_room (Nat.le_of_ble_eq_true rfl)) dL_law_962 ⟨by show cells + 1 + 0 ≤ 601024; omega, by show slots + 6 + 0 ≤ 7293034; omega⟩) hB hBD hS (fun b9 v H locs hm hB hBD hS => ?_)
  clear hPm hDm
  obtain ⟨t1, t2, t3⟩ := st_rv (z := b2l b9) hR hk hm.1 rfl (fun g => by rw [hm.2 g]; exact congrArg b2l (by rw [hag 3 (by decide) _ (cT_lt hn g)]))
  refine lv_istore (lv' := [(7, .int b9), (6, .int k), (5, .int (nI (7 * j))), (4, .ref od), (3, .ref ol), (2, .ref m0), (1, .ref d0), (0, .ref b)]) hx hb dL_law_965 hl (by decide) rfl (fun ls hl => ?_)
  refine lv_aload_n hx hb dL_law_967 rfl (lv_at hl 5 rfl) ?_
  have hPm : va_P (dC, dI) vwCl (wMdl cy m0 a v (R)) H := hB _ (List.mem_of_getElem? (i := 3) rfl)
  refine vp_callSi (va_runV (As := []) (rest := []) ⟨hx, hb, hml, hown, hts⟩ (c_X5_thrown l dC dI cy m0 a (v) (R)) (cwV 0 hts gL_law_X5_thrown rfl rfl rfl (by decide +kernel) ⟨Nat.le_of_ble_eq_true rfl, Nat.le_of_ble_eq_true rfl⟩) ⟨bl_ro, va_recv hK hPm (ci := 5) (q0 := 0) rfl rfl, pr_ro hPm hE⟩ rfl rfl hl.1 rfl (lv_room (Nat.le_of_ble_eq_true rfl)) dL_law_968 ⟨by show cells + 1 + 0 + 0 ≤ 601024; omega, by show slots + 6 + 0 + 0 ≤ 7293034; omega⟩).run (fun r e_r => ?_)
  subst e_r
  refine lv_iload hx hb dL_law_971 (lv_at hl 1 rfl) ?_
  refine lv_icmp_eq (tgt := 978) hx hb dL_law_973 (by decide) (fun _ => ?_) (fun h0 => absurd t1 h0)
  refine lv_iload hx hb dL_law_978 (lv_at hl 1 rfl) ?_
  refine lv_if_ne (tgt := 1002) hx hb dL_law_980 (by decide) (fun g0 => ?_) (fun g0 => ?_)
  · skip
    refine lv_goto (tgt := 2107) hx hb dL_law_1002 (by decide) ?_
    refine W.widen (k := cells + 3) (n := slots + 18) (by omega) (by omega) ?_
    exact kk9 _ _ _ _ _ _ _ _ t3 ⟨hB, hBD, hS⟩ (lv_sub hl [2, 3, 4, 5, 6, 7] rfl)
  have hPo : va_P (dC, dI) vwCl (oL cy ol u.2) H := hB _ (List.mem_of_getElem? (i := 1) rfl)
  refine lv_aload_n hx hb dL_law_983 rfl (lv_at hl 4 rfl) ?_
  refine lv_iconst (v := 0) hx hb dL_law_984 (by decide) ?_
  refine va_lald hx hb hK hPo 0 3 rfl rfl (i := 0) (by unfold vp_in; decide) dL_law_985 ?_
  refine lv_iload hx hb dL_law_986 (lv_at hl 0 rfl) ?_
  refine lv_if_eq (tgt := 995) hx hb dL_law_988 (by decide) (fun g1 => ?_) (fun g1 => ?_)
  · refine lv_lconst (v := 0) hx hb dL_law_995 (by decide) ?_
    refine W.lcmp hx hb dL_law_996 ?_
    refine lv_if_eq (tgt := 1002) hx hb dL_law_997 (by decide) (fun _ => ?_) (fun h0 => absurd (by show lg_cmp u.2 0 = 0; rw [t2 g0, b2l, if_pos g1]; exact lcmp_self _) h0)
    refine lv_goto (tgt := 2107) hx hb dL_law_1002 (by decide) ?_
    refine W.widen (k := cells + 3) (n := slots + 18) (by omega) (by omega) ?_
    exact kk9 _ _ _ _ _ _ _ _ t3 ⟨hB, hBD, hS⟩ (lv_sub hl [2, 3, 4, 5, 6, 7] rfl)
  · refine lv_lconst (v := 1) hx hb dL_law_991 (by decide) ?_
    refine lv_goto (tgt := 996) hx hb dL_law_992 (by decide) ?_
    refine W.lcmp hx hb dL_law_996 ?_
    refine lv_if_eq (tgt := 1002) hx hb dL_law_997 (by decide) (fun _ => ?_) (fun h0 => absurd (by show lg_cmp u.2 1 = 0; rw [t2 g0, b2l, if_neg g1]; exact lcmp_self _) h0)
    refine lv_goto (tgt := 2107) hx hb dL_law_1002 (by decide) ?_
    refine W.widen (k := cells + 3) (n := slots + 18) (by omega) (by omega) ?_
    exact kk9 _ _ _ _ _ _ _ _ t3 ⟨hB, hBD, hS⟩ (lv_sub hl [2, 3, 4, 5, 6, 7] rfl)
set_option maxHeartbeats 1000000 in
set_option maxRecDepth 100000 in
/-- call 16 of the script -/
theorem case_16 {p : Program} {l : Launch} {e : Env} {s : State} {m : MethodId} {below : List Frame} {meth : Method} {c : Code} {Q : State → Prop} {b Lx : Nat} {xs : Nat → Int32} {dC : Nat → ClassId} {dI : Nat → Nat → Nat} {cy : Nat → ClassId} (C : LCx p l s m meth c b Lx xs dC dI cy) {κ : KA} {ol od m0 : Nat} {a : Nat → Nat} {j : Nat} (hj : 7 * j + 7 ≤ Lx) (hLx : Lx ≤ 3584) {cells slots : Nat} (hce : cells + 3 ≤ 601024) (hsl : slots + 18 ≤ 7293034) (kk9 : KON p l e s m below meth c Q b dC dI cy κ ol od m0 a j (cells + 3) (slots + 18)) {σ : CS} {I : Nat → Int32} {R : vG} {y : Int64} {yd : UInt64} {H : Heap} {locs : List Loc} {ls : Array Slot} (hR : Rel σ I R) (hLB : LB dC dI cy κ ol od m0 a s σ I R y yd H locs) (hl : lv_has ls 9 (LV κ ol od m0 b j)) : W p l e room_1 s m #[Value.ref b] below meth c H locs cells slots Q (F0 m 1005 ls []) := by
  obtain ⟨hx, hb, hml, hown, hts, hX0, hbl, hE, hXV, hZ, hV, hst⟩ := C
  have hK := hE.1
  obtain ⟨hB, hBD, hS⟩ := hLB
  have hA : ∀ q, s.heap.size ≤ q → AL s q := fun _ h => h
  have hbA : ¬ AL s b := Nat.not_le.mpr hbl
  have hok := hR.ok
  obtain ⟨d0, o, bc, bt, bv, rg, cs, bs, ta, tb, z, bq, rt⟩ := κ
  obtain ⟨⟨F, ⟨G, n, sc⟩, ⟨Gt, nt, sct⟩, x, kk, RG, rn, RS⟩, ⟨Gv, nv9, scv⟩, ⟨C, N, L, fl⟩, M, ⟨Gz, nz, scz⟩, Q9, T⟩ := σ
  have hRc := hR
  obtain ⟨⟨hn, hG, hgs, esc, hS0, hS1, hag⟩, hnt, hx6, hkk, hI5, hrn, hh, hnv, hI6, hsv, hL, hI8, htx, hI9, hnz, hI10, hI11, hI12, hI13, hI14, hnn, hsm⟩ := hRc
  have hGR := okG_agr hag.symm hG
  have hl : lv_has ls 9 [(5, .int (nI (7 * j))), (4, .ref od), (3, .ref ol), (2, .ref m0), (1, .ref d0), (0, .ref b)] := hl
  refine lv_aload_n hx hb dL_law_1005 rfl (lv_at hl 4 rfl) ?_
  refine lv_aload_n hx hb dL_law_1006 rfl (lv_at hl 5 rfl) ?_
  refine lv_iload hx hb dL_law_1007 (lv_at hl 0 rfl) ?_
  refine lv_iconst (v := 1) hx hb dL_law_1009 (by decide) ?_
  refine lv_iadd hx hb dL_law_1010 ?_
  refine vn_sld hx hb hX0 hbl hbA hS (7 * j + 1) (nI_add (7 * j) 1) (by omega) (by omega) dL_law_1011 ?_
  refine lv_aload_n hx hb dL_law_1012 rfl (lv_at hl 5 rfl) ?_
  refine lv_iload hx hb dL_law_1013 (lv_at hl 0 rfl) ?_
  refine lv_iconst (v := 2) hx hb dL_law_1015 (by decide) ?_
  refine lv_iadd hx hb dL_law_1016 ?_
  refine vn_sld hx hb hX0 hbl hbA hS (7 * j + 2) (nI_add (7 * j) 2) (by omega) (by omega) dL_law_1017 ?_
  refine lv_aload_n hx hb dL_law_1018 rfl (lv_at hl 2 rfl) ?_
  have hPc : va_P (dC, dI) vwCl (wK cy (d0, o, bc, bt, bv, rg, cs, bs, ta, tb, z, bq, rt) ((F, (G, n, sc), (Gt, nt, sct), (x, kk, RG, rn, RS)), (Gv, nv9, scv), (C, N, L, fl), (M, (Gz, nz, scz), Q9, T)) ++ oL cy ol y) H := gl_P.mpr (hB.sub (bs' := [wK cy (d0, o, bc, bt, bv, rg, cs, bs, ta, tb, z, bq, rt) ((F, (G, n, sc), (Gt, nt, sct), (x, kk, RG, rn, RS)), (Gv, nv9, scv), (C, N, L, fl), (M, (Gz, nz, scz), Q9, T)), oL cy ol y]) [0, 1] rfl)
  have hDc : va_D (AL s) (wK cy (d0, o, bc, bt, bv, rg, cs, bs, ta, tb, z, bq, rt) ((F, (G, n, sc), (Gt, nt, sct), (x, kk, RG, rn, RS)), (Gv, nv9, scv), (C, N, L, fl), (M, (Gz, nz, scz), Q9, T)) ++ oL cy ol y) := gl_D.mpr (hBD.sub (bs' := [wK cy (d0, o, bc, bt, bv, rg, cs, bs, ta, tb, z, bq, rt) ((F, (G, n, sc), (Gt, nt, sct), (x, kk, RG, rn, RS)), (Gv, nv9, scv), (C, N, L, fl), (M, (Gz, nz, scz), Q9, T)), oL cy ol y]) [0, 1] (by decide) rfl)
  have hFc : ∀ q, va_A (wK cy (d0, o, bc, bt, bv, rg, cs, bs, ta, tb, z, bq, rt) ((F, (G, n, sc), (Gt, nt, sct), (x, kk, RG, rn, RS)), (Gv, nv9, scv), (C, N, L, fl), (M, (Gz, nz, scz), Q9, T)) ++ oL cy ol y) H.size q → AL s q := BF (cb := [wK cy (d0, o, bc, bt, bv, rg, cs, bs, ta, tb, z, bq, rt) ((F, (G, n, sc), (Gt, nt, sct), (x, kk, RG, rn, RS)), (Gv, nv9, scv), (C, N, L, fl), (M, (Gz, nz, scz), Q9, T)), oL cy ol y]) hBD hS hA [0, 1] rfl
  refine lc_L (vx_runSW (As := [.ref d0, .int (xs (7 * j + 1)), .int (xs (7 * j + 2)), .ref ol]) (rest := []) ⟨hx, hb, hml, hown, hts⟩ (c_L_demand l hst dC dI cy H.size d0 o bc bt bv rg cs bs ta tb z bq rt F G n sc Gt nt sct x kk RG rn RS Gv nv9 scv C N L fl M Gz nz scz Q9 T hok ol y (xs (7 * j + 1)) (xs (7 * j + 2))) (vx_cwSW 4 hts gL_law_L_demand rfl rfl rfl (by decide +kernel) ⟨Nat.le_of_ble_eq_true rfl, Nat.le_of_ble_eq_true rfl⟩) ⟨bl_L, pr_L hPc hE hDc hXV hZ hS hFc hV⟩ rfl rfl hl.1 rfl (lv_room (Nat.le_of_ble_eq_true rfl)) dL_law_1019 ⟨by show cells + 2 ≤ 601024; omega, by show slots + 12 ≤ 7293034; omega⟩) hB hBD hS (fun k u H locs hk hB hBD hS => ?_)
  clear hPc hDc hFc
  refine lv_istore (lv' := [(6, .int k), (5, .int (nI (7 * j))), (4, .ref od), (3, .ref ol), (2, .ref m0), (1, .ref d0), (0, .ref b)]) hx hb dL_law_1022 hl (by decide) rfl (fun ls hl => ?_)
  refine lv_aload_n hx hb dL_law_1024 rfl (lv_at hl 4 rfl) ?_
  refine lv_aload_n hx hb dL_law_1025 rfl (lv_at hl 6 rfl) ?_
  refine lv_iload hx hb dL_law_1026 (lv_at hl 1 rfl) ?_
  refine lv_iconst (v := 1) hx hb dL_law_1028 (by decide) ?_
  refine lv_iadd hx hb dL_law_1029 ?_
  refine vn_sld hx hb hX0 hbl hbA hS (7 * j + 1) (nI_add (7 * j) 1) (by omega) (by omega) dL_law_1030 ?_
  refine lv_aload_n hx hb dL_law_1031 rfl (lv_at hl 6 rfl) ?_
  refine lv_iload hx hb dL_law_1032 (lv_at hl 1 rfl) ?_
  refine lv_iconst (v := 2) hx hb dL_law_1034 (by decide) ?_
  refine lv_iadd hx hb dL_law_1035 ?_
  refine vn_sld hx hb hX0 hbl hbA hS (7 * j + 2) (nI_add (7 * j) 2) (by omega) (by omega) dL_law_1036 ?_
  have hPm : va_P (dC, dI) vwCl (wMdl cy m0 a I R) H := hB _ (List.mem_of_getElem? (i := 3) rfl)
  have hDm : va_D (AL s) (wMdl cy m0 a I R) := hBD.2 _ (List.mem_of_getElem? (i := 3) rfl)
  refine lc_Mi (fun u : Nat → Int32 => u) (fun _ : Nat → Int32 => R) (va_runV (As := [.int (xs (7 * j + 1)), .int (xs (7 * j + 2))]) (rest := []) ⟨hx, hb, hml, hown, hts⟩ (c_X5_demand l dC dI cy H.size m0 a I R n hn hS0 hGR (xs (7 * j + 1)) (xs (7 * j + 2))) (cwV 2 hts gL_law_X5_demand rfl rfl rfl (by decide +kernel) ⟨Nat.le_of_ble_eq_true rfl, Nat.le_of_ble_eq_true rfl⟩) ⟨bl_in, va_recv hK hPm (ci := 5) (q0 := 0) rfl rfl, pr_in hPm hE hDm⟩ rfl rfl hl.1 rfl (lv_room (Nat.le_of_ble_eq_true rfl)) dL_law_1037 ⟨by show cells + 2 + 0 ≤ 601024; omega, by show slots + 12 + 0 ≤ 7293034; omega⟩) hB hBD hS (fun b9 v H locs hm hB hBD hS => ?_)
  clear hPm hDm
  obtain ⟨t1, t2, t3⟩ := st_rv (z := b9.toInt64) hR hk hm.1 rfl (fun g => by rw [hm.2 g]; exact congrArg Int32.toInt64 (by rw [tdem_agr hag, hS1]))
  refine lv_istore (lv' := [(7, .int b9), (6, .int k), (5, .int (nI (7 * j))), (4, .ref od), (3, .ref ol), (2, .ref m0), (1, .ref d0), (0, .ref b)]) hx hb dL_law_1040 hl (by decide) rfl (fun ls hl => ?_)
  refine lv_aload_n hx hb dL_law_1042 rfl (lv_at hl 5 rfl) ?_
  have hPm : va_P (dC, dI) vwCl (wMdl cy m0 a v (R)) H := hB _ (List.mem_of_getElem? (i := 3) rfl)
  refine vp_callSi (va_runV (As := []) (rest := []) ⟨hx, hb, hml, hown, hts⟩ (c_X5_thrown l dC dI cy m0 a (v) (R)) (cwV 0 hts gL_law_X5_thrown rfl rfl rfl (by decide +kernel) ⟨Nat.le_of_ble_eq_true rfl, Nat.le_of_ble_eq_true rfl⟩) ⟨bl_ro, va_recv hK hPm (ci := 5) (q0 := 0) rfl rfl, pr_ro hPm hE⟩ rfl rfl hl.1 rfl (lv_room (Nat.le_of_ble_eq_true rfl)) dL_law_1043 ⟨by show cells + 2 + 0 + 0 ≤ 601024; omega, by show slots + 12 + 0 + 0 ≤ 7293034; omega⟩).run (fun r e_r => ?_)
  subst e_r
  refine lv_iload hx hb dL_law_1046 (lv_at hl 1 rfl) ?_
  refine lv_icmp_eq (tgt := 1053) hx hb dL_law_1048 (by decide) (fun _ => ?_) (fun h0 => absurd t1 h0)
  refine lv_iload hx hb dL_law_1053 (lv_at hl 1 rfl) ?_
  refine lv_if_ne (tgt := 1070) hx hb dL_law_1055 (by decide) (fun g0 => ?_) (fun g0 => ?_)
  · skip
    refine lv_goto (tgt := 2107) hx hb dL_law_1070 (by decide) ?_
    refine W.widen (k := cells + 3) (n := slots + 18) (by omega) (by omega) ?_
    exact kk9 _ _ _ _ _ _ _ _ t3 ⟨hB, hBD, hS⟩ (lv_sub hl [2, 3, 4, 5, 6, 7] rfl)
  have hPo : va_P (dC, dI) vwCl (oL cy ol u.2) H := hB _ (List.mem_of_getElem? (i := 1) rfl)
  refine lv_aload_n hx hb dL_law_1058 rfl (lv_at hl 4 rfl) ?_
  refine lv_iconst (v := 0) hx hb dL_law_1059 (by decide) ?_
  refine va_lald hx hb hK hPo 0 3 rfl rfl (i := 0) (by unfold vp_in; decide) dL_law_1060 ?_
  refine lv_iload hx hb dL_law_1061 (lv_at hl 0 rfl) ?_
  refine lv_i2l hx hb dL_law_1063 rfl ?_
  refine W.lcmp hx hb dL_law_1064 ?_
  refine lv_if_eq (tgt := 1070) hx hb dL_law_1065 (by decide) (fun _ => ?_) (fun h0 => absurd (by show lg_cmp u.2 b9.toInt64 = 0; rw [t2 g0]; exact lcmp_self _) h0)
  refine lv_goto (tgt := 2107) hx hb dL_law_1070 (by decide) ?_
  refine W.widen (k := cells + 3) (n := slots + 18) (by omega) (by omega) ?_
  exact kk9 _ _ _ _ _ _ _ _ t3 ⟨hB, hBD, hS⟩ (lv_sub hl [2, 3, 4, 5, 6, 7] rfl)
set_option maxHeartbeats 1000000 in
set_option maxRecDepth 100000 in
/-- call 17 of the script -/
theorem case_17 {p : Program} {l : Launch} {e : Env} {s : State} {m : MethodId} {below : List Frame} {meth : Method} {c : Code} {Q : State → Prop} {b Lx : Nat} {xs : Nat → Int32} {dC : Nat → ClassId} {dI : Nat → Nat → Nat} {cy : Nat → ClassId} (C : LCx p l s m meth c b Lx xs dC dI cy) {κ : KA} {ol od m0 : Nat} {a : Nat → Nat} {j : Nat} (hj : 7 * j + 7 ≤ Lx) (hLx : Lx ≤ 3584) {cells slots : Nat} (hce : cells + 3 ≤ 601024) (hsl : slots + 18 ≤ 7293034) (kk9 : KON p l e s m below meth c Q b dC dI cy κ ol od m0 a j (cells + 3) (slots + 18)) {σ : CS} {I : Nat → Int32} {R : vG} {y : Int64} {yd : UInt64} {H : Heap} {locs : List Loc} {ls : Array Slot} (hR : Rel σ I R) (hLB : LB dC dI cy κ ol od m0 a s σ I R y yd H locs) (hl : lv_has ls 9 (LV κ ol od m0 b j)) : W p l e room_1 s m #[Value.ref b] below meth c H locs cells slots Q (F0 m 1073 ls []) := by
  obtain ⟨hx, hb, hml, hown, hts, hX0, hbl, hE, hXV, hZ, hV, hst⟩ := C
  have hK := hE.1
  obtain ⟨hB, hBD, hS⟩ := hLB
  have hA : ∀ q, s.heap.size ≤ q → AL s q := fun _ h => h
  have hbA : ¬ AL s b := Nat.not_le.mpr hbl
  have hok := hR.ok
  obtain ⟨d0, o, bc, bt, bv, rg, cs, bs, ta, tb, z, bq, rt⟩ := κ
  obtain ⟨⟨F, ⟨G, n, sc⟩, ⟨Gt, nt, sct⟩, x, kk, RG, rn, RS⟩, ⟨Gv, nv9, scv⟩, ⟨C, N, L, fl⟩, M, ⟨Gz, nz, scz⟩, Q9, T⟩ := σ
  have hRc := hR
  obtain ⟨⟨hn, hG, hgs, esc, hS0, hS1, hag⟩, hnt, hx6, hkk, hI5, hrn, hh, hnv, hI6, hsv, hL, hI8, htx, hI9, hnz, hI10, hI11, hI12, hI13, hI14, hnn, hsm⟩ := hRc
  have hGR := okG_agr hag.symm hG
  have hl : lv_has ls 9 [(5, .int (nI (7 * j))), (4, .ref od), (3, .ref ol), (2, .ref m0), (1, .ref d0), (0, .ref b)] := hl
  refine lv_aload_n hx hb dL_law_1073 rfl (lv_at hl 4 rfl) ?_
  refine lv_aload_n hx hb dL_law_1074 rfl (lv_at hl 5 rfl) ?_
  refine lv_iload hx hb dL_law_1075 (lv_at hl 0 rfl) ?_
  refine lv_iconst (v := 1) hx hb dL_law_1077 (by decide) ?_
  refine lv_iadd hx hb dL_law_1078 ?_
  refine vn_sld hx hb hX0 hbl hbA hS (7 * j + 1) (nI_add (7 * j) 1) (by omega) (by omega) dL_law_1079 ?_
  refine lv_aload_n hx hb dL_law_1080 rfl (lv_at hl 2 rfl) ?_
  have hPc : va_P (dC, dI) vwCl (wK cy (d0, o, bc, bt, bv, rg, cs, bs, ta, tb, z, bq, rt) ((F, (G, n, sc), (Gt, nt, sct), (x, kk, RG, rn, RS)), (Gv, nv9, scv), (C, N, L, fl), (M, (Gz, nz, scz), Q9, T)) ++ oL cy ol y) H := gl_P.mpr (hB.sub (bs' := [wK cy (d0, o, bc, bt, bv, rg, cs, bs, ta, tb, z, bq, rt) ((F, (G, n, sc), (Gt, nt, sct), (x, kk, RG, rn, RS)), (Gv, nv9, scv), (C, N, L, fl), (M, (Gz, nz, scz), Q9, T)), oL cy ol y]) [0, 1] rfl)
  have hDc : va_D (AL s) (wK cy (d0, o, bc, bt, bv, rg, cs, bs, ta, tb, z, bq, rt) ((F, (G, n, sc), (Gt, nt, sct), (x, kk, RG, rn, RS)), (Gv, nv9, scv), (C, N, L, fl), (M, (Gz, nz, scz), Q9, T)) ++ oL cy ol y) := gl_D.mpr (hBD.sub (bs' := [wK cy (d0, o, bc, bt, bv, rg, cs, bs, ta, tb, z, bq, rt) ((F, (G, n, sc), (Gt, nt, sct), (x, kk, RG, rn, RS)), (Gv, nv9, scv), (C, N, L, fl), (M, (Gz, nz, scz), Q9, T)), oL cy ol y]) [0, 1] (by decide) rfl)
  have hFc : ∀ q, va_A (wK cy (d0, o, bc, bt, bv, rg, cs, bs, ta, tb, z, bq, rt) ((F, (G, n, sc), (Gt, nt, sct), (x, kk, RG, rn, RS)), (Gv, nv9, scv), (C, N, L, fl), (M, (Gz, nz, scz), Q9, T)) ++ oL cy ol y) H.size q → AL s q := BF (cb := [wK cy (d0, o, bc, bt, bv, rg, cs, bs, ta, tb, z, bq, rt) ((F, (G, n, sc), (Gt, nt, sct), (x, kk, RG, rn, RS)), (Gv, nv9, scv), (C, N, L, fl), (M, (Gz, nz, scz), Q9, T)), oL cy ol y]) hBD hS hA [0, 1] rfl
  refine lc_L (vx_runSW (As := [.ref d0, .int (xs (7 * j + 1)), .ref ol]) (rest := []) ⟨hx, hb, hml, hown, hts⟩ (c_L_slack l hst dC dI cy H.size d0 o bc bt bv rg cs bs ta tb z bq rt F G n sc Gt nt sct x kk RG rn RS Gv nv9 scv C N L fl M Gz nz scz Q9 T hok ol y (xs (7 * j + 1))) (vx_cwSW 3 hts gL_law_L_slack rfl rfl rfl (by decide +kernel) ⟨Nat.le_of_ble_eq_true rfl, Nat.le_of_ble_eq_true rfl⟩) ⟨bl_L, pr_L hPc hE hDc hXV hZ hS hFc hV⟩ rfl rfl hl.1 rfl (lv_room (Nat.le_of_ble_eq_true rfl)) dL_law_1081 ⟨by show cells + 1 ≤ 601024; omega, by show slots + 6 ≤ 7293034; omega⟩) hB hBD hS (fun k u H locs hk hB hBD hS => ?_)
  clear hPc hDc hFc
  refine lv_istore (lv' := [(6, .int k), (5, .int (nI (7 * j))), (4, .ref od), (3, .ref ol), (2, .ref m0), (1, .ref d0), (0, .ref b)]) hx hb dL_law_1084 hl (by decide) rfl (fun ls hl => ?_)
  refine lv_aload_n hx hb dL_law_1086 rfl (lv_at hl 4 rfl) ?_
  refine lv_aload_n hx hb dL_law_1087 rfl (lv_at hl 6 rfl) ?_
  refine lv_iload hx hb dL_law_1088 (lv_at hl 1 rfl) ?_
  refine lv_iconst (v := 1) hx hb dL_law_1090 (by decide) ?_
  refine lv_iadd hx hb dL_law_1091 ?_
  refine vn_sld hx hb hX0 hbl hbA hS (7 * j + 1) (nI_add (7 * j) 1) (by omega) (by omega) dL_law_1092 ?_
  have hPm : va_P (dC, dI) vwCl (wMdl cy m0 a I R) H := hB _ (List.mem_of_getElem? (i := 3) rfl)
  have hDm : va_D (AL s) (wMdl cy m0 a I R) := hBD.2 _ (List.mem_of_getElem? (i := 3) rfl)
  refine lc_Mi (fun u : Nat → Int32 => u) (fun _ : Nat → Int32 => R) (va_runV (As := [.int (xs (7 * j + 1))]) (rest := []) ⟨hx, hb, hml, hown, hts⟩ (c_X5_slack l dC dI cy H.size m0 a I R n hn hS0 hGR (xs (7 * j + 1))) (cwV 1 hts gL_law_X5_slack rfl rfl rfl (by decide +kernel) ⟨Nat.le_of_ble_eq_true rfl, Nat.le_of_ble_eq_true rfl⟩) ⟨bl_in, va_recv hK hPm (ci := 5) (q0 := 0) rfl rfl, pr_in hPm hE hDm⟩ rfl rfl hl.1 rfl (lv_room (Nat.le_of_ble_eq_true rfl)) dL_law_1093 ⟨by show cells + 1 + 0 ≤ 601024; omega, by show slots + 6 + 0 ≤ 7293034; omega⟩) hB hBD hS (fun b9 v H locs hm hB hBD hS => ?_)
  clear hPm hDm
  obtain ⟨t1, t2, t3⟩ := st_rv (z := b9.toInt64) hR hk hm.1 rfl (fun g => by rw [hm.2 g]; exact congrArg Int32.toInt64 (by rw [slk_agr hag, hS1]))
  refine lv_istore (lv' := [(7, .int b9), (6, .int k), (5, .int (nI (7 * j))), (4, .ref od), (3, .ref ol), (2, .ref m0), (1, .ref d0), (0, .ref b)]) hx hb dL_law_1096 hl (by decide) rfl (fun ls hl => ?_)
  refine lv_aload_n hx hb dL_law_1098 rfl (lv_at hl 5 rfl) ?_
  have hPm : va_P (dC, dI) vwCl (wMdl cy m0 a v (R)) H := hB _ (List.mem_of_getElem? (i := 3) rfl)
  refine vp_callSi (va_runV (As := []) (rest := []) ⟨hx, hb, hml, hown, hts⟩ (c_X5_thrown l dC dI cy m0 a (v) (R)) (cwV 0 hts gL_law_X5_thrown rfl rfl rfl (by decide +kernel) ⟨Nat.le_of_ble_eq_true rfl, Nat.le_of_ble_eq_true rfl⟩) ⟨bl_ro, va_recv hK hPm (ci := 5) (q0 := 0) rfl rfl, pr_ro hPm hE⟩ rfl rfl hl.1 rfl (lv_room (Nat.le_of_ble_eq_true rfl)) dL_law_1099 ⟨by show cells + 1 + 0 + 0 ≤ 601024; omega, by show slots + 6 + 0 + 0 ≤ 7293034; omega⟩).run (fun r e_r => ?_)
  subst e_r
  refine lv_iload hx hb dL_law_1102 (lv_at hl 1 rfl) ?_
  refine lv_icmp_eq (tgt := 1109) hx hb dL_law_1104 (by decide) (fun _ => ?_) (fun h0 => absurd t1 h0)
  refine lv_iload hx hb dL_law_1109 (lv_at hl 1 rfl) ?_
  refine lv_if_ne (tgt := 1126) hx hb dL_law_1111 (by decide) (fun g0 => ?_) (fun g0 => ?_)
  · skip
    refine lv_goto (tgt := 2107) hx hb dL_law_1126 (by decide) ?_
    refine W.widen (k := cells + 3) (n := slots + 18) (by omega) (by omega) ?_
    exact kk9 _ _ _ _ _ _ _ _ t3 ⟨hB, hBD, hS⟩ (lv_sub hl [2, 3, 4, 5, 6, 7] rfl)
  have hPo : va_P (dC, dI) vwCl (oL cy ol u.2) H := hB _ (List.mem_of_getElem? (i := 1) rfl)
  refine lv_aload_n hx hb dL_law_1114 rfl (lv_at hl 4 rfl) ?_
  refine lv_iconst (v := 0) hx hb dL_law_1115 (by decide) ?_
  refine va_lald hx hb hK hPo 0 3 rfl rfl (i := 0) (by unfold vp_in; decide) dL_law_1116 ?_
  refine lv_iload hx hb dL_law_1117 (lv_at hl 0 rfl) ?_
  refine lv_i2l hx hb dL_law_1119 rfl ?_
  refine W.lcmp hx hb dL_law_1120 ?_
  refine lv_if_eq (tgt := 1126) hx hb dL_law_1121 (by decide) (fun _ => ?_) (fun h0 => absurd (by show lg_cmp u.2 b9.toInt64 = 0; rw [t2 g0]; exact lcmp_self _) h0)
  refine lv_goto (tgt := 2107) hx hb dL_law_1126 (by decide) ?_
  refine W.widen (k := cells + 3) (n := slots + 18) (by omega) (by omega) ?_
  exact kk9 _ _ _ _ _ _ _ _ t3 ⟨hB, hBD, hS⟩ (lv_sub hl [2, 3, 4, 5, 6, 7] rfl)
set_option maxHeartbeats 1000000 in
set_option maxRecDepth 100000 in
/-- call 18 of the script -/
theorem case_18 {p : Program} {l : Launch} {e : Env} {s : State} {m : MethodId} {below : List Frame} {meth : Method} {c : Code} {Q : State → Prop} {b Lx : Nat} {xs : Nat → Int32} {dC : Nat → ClassId} {dI : Nat → Nat → Nat} {cy : Nat → ClassId} (C : LCx p l s m meth c b Lx xs dC dI cy) {κ : KA} {ol od m0 : Nat} {a : Nat → Nat} {j : Nat} (hj : 7 * j + 7 ≤ Lx) (hLx : Lx ≤ 3584) {cells slots : Nat} (hce : cells + 3 ≤ 601024) (hsl : slots + 18 ≤ 7293034) (kk9 : KON p l e s m below meth c Q b dC dI cy κ ol od m0 a j (cells + 3) (slots + 18)) {σ : CS} {I : Nat → Int32} {R : vG} {y : Int64} {yd : UInt64} {H : Heap} {locs : List Loc} {ls : Array Slot} (hR : Rel σ I R) (hLB : LB dC dI cy κ ol od m0 a s σ I R y yd H locs) (hl : lv_has ls 9 (LV κ ol od m0 b j)) : W p l e room_1 s m #[Value.ref b] below meth c H locs cells slots Q (F0 m 1129 ls []) := by
  obtain ⟨hx, hb, hml, hown, hts, hX0, hbl, hE, hXV, hZ, hV, hst⟩ := C
  have hK := hE.1
  obtain ⟨hB, hBD, hS⟩ := hLB
  have hA : ∀ q, s.heap.size ≤ q → AL s q := fun _ h => h
  have hbA : ¬ AL s b := Nat.not_le.mpr hbl
  have hok := hR.ok
  obtain ⟨d0, o, bc, bt, bv, rg, cs, bs, ta, tb, z, bq, rt⟩ := κ
  obtain ⟨⟨F, ⟨G, n, sc⟩, ⟨Gt, nt, sct⟩, x, kk, RG, rn, RS⟩, ⟨Gv, nv9, scv⟩, ⟨C, N, L, fl⟩, M, ⟨Gz, nz, scz⟩, Q9, T⟩ := σ
  have hRc := hR
  obtain ⟨⟨hn, hG, hgs, esc, hS0, hS1, hag⟩, hnt, hx6, hkk, hI5, hrn, hh, hnv, hI6, hsv, hL, hI8, htx, hI9, hnz, hI10, hI11, hI12, hI13, hI14, hnn, hsm⟩ := hRc
  have hGR := okG_agr hag.symm hG
  have hl : lv_has ls 9 [(5, .int (nI (7 * j))), (4, .ref od), (3, .ref ol), (2, .ref m0), (1, .ref d0), (0, .ref b)] := hl
  refine lv_aload_n hx hb dL_law_1129 rfl (lv_at hl 4 rfl) ?_
  refine lv_aload_n hx hb dL_law_1130 rfl (lv_at hl 5 rfl) ?_
  refine lv_iload hx hb dL_law_1131 (lv_at hl 0 rfl) ?_
  refine lv_iconst (v := 1) hx hb dL_law_1133 (by decide) ?_
  refine lv_iadd hx hb dL_law_1134 ?_
  refine vn_sld hx hb hX0 hbl hbA hS (7 * j + 1) (nI_add (7 * j) 1) (by omega) (by omega) dL_law_1135 ?_
  refine lv_aload_n hx hb dL_law_1136 rfl (lv_at hl 2 rfl) ?_
  have hPc : va_P (dC, dI) vwCl (wK cy (d0, o, bc, bt, bv, rg, cs, bs, ta, tb, z, bq, rt) ((F, (G, n, sc), (Gt, nt, sct), (x, kk, RG, rn, RS)), (Gv, nv9, scv), (C, N, L, fl), (M, (Gz, nz, scz), Q9, T)) ++ oL cy ol y) H := gl_P.mpr (hB.sub (bs' := [wK cy (d0, o, bc, bt, bv, rg, cs, bs, ta, tb, z, bq, rt) ((F, (G, n, sc), (Gt, nt, sct), (x, kk, RG, rn, RS)), (Gv, nv9, scv), (C, N, L, fl), (M, (Gz, nz, scz), Q9, T)), oL cy ol y]) [0, 1] rfl)
  have hDc : va_D (AL s) (wK cy (d0, o, bc, bt, bv, rg, cs, bs, ta, tb, z, bq, rt) ((F, (G, n, sc), (Gt, nt, sct), (x, kk, RG, rn, RS)), (Gv, nv9, scv), (C, N, L, fl), (M, (Gz, nz, scz), Q9, T)) ++ oL cy ol y) := gl_D.mpr (hBD.sub (bs' := [wK cy (d0, o, bc, bt, bv, rg, cs, bs, ta, tb, z, bq, rt) ((F, (G, n, sc), (Gt, nt, sct), (x, kk, RG, rn, RS)), (Gv, nv9, scv), (C, N, L, fl), (M, (Gz, nz, scz), Q9, T)), oL cy ol y]) [0, 1] (by decide) rfl)
  have hFc : ∀ q, va_A (wK cy (d0, o, bc, bt, bv, rg, cs, bs, ta, tb, z, bq, rt) ((F, (G, n, sc), (Gt, nt, sct), (x, kk, RG, rn, RS)), (Gv, nv9, scv), (C, N, L, fl), (M, (Gz, nz, scz), Q9, T)) ++ oL cy ol y) H.size q → AL s q := BF (cb := [wK cy (d0, o, bc, bt, bv, rg, cs, bs, ta, tb, z, bq, rt) ((F, (G, n, sc), (Gt, nt, sct), (x, kk, RG, rn, RS)), (Gv, nv9, scv), (C, N, L, fl), (M, (Gz, nz, scz), Q9, T)), oL cy ol y]) hBD hS hA [0, 1] rfl
  refine lc_L (vx_runSW (As := [.ref d0, .int (xs (7 * j + 1)), .ref ol]) (rest := []) ⟨hx, hb, hml, hown, hts⟩ (c_L_tightest l hst dC dI cy H.size d0 o bc bt bv rg cs bs ta tb z bq rt F G n sc Gt nt sct x kk RG rn RS Gv nv9 scv C N L fl M Gz nz scz Q9 T hok ol y (xs (7 * j + 1))) (vx_cwSW 3 hts gL_law_L_tightest rfl rfl rfl (by decide +kernel) ⟨Nat.le_of_ble_eq_true rfl, Nat.le_of_ble_eq_true rfl⟩) ⟨bl_L, pr_L hPc hE hDc hXV hZ hS hFc hV⟩ rfl rfl hl.1 rfl (lv_room (Nat.le_of_ble_eq_true rfl)) dL_law_1137 ⟨by show cells + 1 ≤ 601024; omega, by show slots + 6 ≤ 7293034; omega⟩) hB hBD hS (fun k u H locs hk hB hBD hS => ?_)
  clear hPc hDc hFc
  refine lv_istore (lv' := [(6, .int k), (5, .int (nI (7 * j))), (4, .ref od), (3, .ref ol), (2, .ref m0), (1, .ref d0), (0, .ref b)]) hx hb dL_law_1140 hl (by decide) rfl (fun ls hl => ?_)
  refine lv_aload_n hx hb dL_law_1142 rfl (lv_at hl 4 rfl) ?_
  refine lv_aload_n hx hb dL_law_1143 rfl (lv_at hl 6 rfl) ?_
  refine lv_iload hx hb dL_law_1144 (lv_at hl 1 rfl) ?_
  refine lv_iconst (v := 1) hx hb dL_law_1146 (by decide) ?_
  refine lv_iadd hx hb dL_law_1147 ?_
  refine vn_sld hx hb hX0 hbl hbA hS (7 * j + 1) (nI_add (7 * j) 1) (by omega) (by omega) dL_law_1148 ?_
  have hPm : va_P (dC, dI) vwCl (wMdl cy m0 a I R) H := hB _ (List.mem_of_getElem? (i := 3) rfl)
  have hDm : va_D (AL s) (wMdl cy m0 a I R) := hBD.2 _ (List.mem_of_getElem? (i := 3) rfl)
  refine lc_Mi (fun u : Nat → Int32 => u) (fun _ : Nat → Int32 => R) (va_runV (As := [.int (xs (7 * j + 1))]) (rest := []) ⟨hx, hb, hml, hown, hts⟩ (c_X5_tightest l dC dI cy H.size m0 a I R n hn hS0 hGR (xs (7 * j + 1))) (cwV 1 hts gL_law_X5_tightest rfl rfl rfl (by decide +kernel) ⟨Nat.le_of_ble_eq_true rfl, Nat.le_of_ble_eq_true rfl⟩) ⟨bl_in, va_recv hK hPm (ci := 5) (q0 := 0) rfl rfl, pr_in hPm hE hDm⟩ rfl rfl hl.1 rfl (lv_room (Nat.le_of_ble_eq_true rfl)) dL_law_1149 ⟨by show cells + 1 + 0 ≤ 601024; omega, by show slots + 6 + 0 ≤ 7293034; omega⟩) hB hBD hS (fun b9 v H locs hm hB hBD hS => ?_)
  clear hPm hDm
  obtain ⟨t1, t2, t3⟩ := st_rv (z := b9.toInt64) hR hk hm.1 rfl (fun g => by rw [hm.2 g]; exact congrArg Int32.toInt64 (by rw [tgh_agr hag, hS1]))
  refine lv_istore (lv' := [(7, .int b9), (6, .int k), (5, .int (nI (7 * j))), (4, .ref od), (3, .ref ol), (2, .ref m0), (1, .ref d0), (0, .ref b)]) hx hb dL_law_1152 hl (by decide) rfl (fun ls hl => ?_)
  refine lv_aload_n hx hb dL_law_1154 rfl (lv_at hl 5 rfl) ?_
  have hPm : va_P (dC, dI) vwCl (wMdl cy m0 a v (R)) H := hB _ (List.mem_of_getElem? (i := 3) rfl)
  refine vp_callSi (va_runV (As := []) (rest := []) ⟨hx, hb, hml, hown, hts⟩ (c_X5_thrown l dC dI cy m0 a (v) (R)) (cwV 0 hts gL_law_X5_thrown rfl rfl rfl (by decide +kernel) ⟨Nat.le_of_ble_eq_true rfl, Nat.le_of_ble_eq_true rfl⟩) ⟨bl_ro, va_recv hK hPm (ci := 5) (q0 := 0) rfl rfl, pr_ro hPm hE⟩ rfl rfl hl.1 rfl (lv_room (Nat.le_of_ble_eq_true rfl)) dL_law_1155 ⟨by show cells + 1 + 0 + 0 ≤ 601024; omega, by show slots + 6 + 0 + 0 ≤ 7293034; omega⟩).run (fun r e_r => ?_)
  subst e_r
  refine lv_iload hx hb dL_law_1158 (lv_at hl 1 rfl) ?_
  refine lv_icmp_eq (tgt := 1165) hx hb dL_law_1160 (by decide) (fun _ => ?_) (fun h0 => absurd t1 h0)
  refine lv_iload hx hb dL_law_1165 (lv_at hl 1 rfl) ?_
  refine lv_if_ne (tgt := 1182) hx hb dL_law_1167 (by decide) (fun g0 => ?_) (fun g0 => ?_)
  · skip
    refine lv_goto (tgt := 2107) hx hb dL_law_1182 (by decide) ?_
    refine W.widen (k := cells + 3) (n := slots + 18) (by omega) (by omega) ?_
    exact kk9 _ _ _ _ _ _ _ _ t3 ⟨hB, hBD, hS⟩ (lv_sub hl [2, 3, 4, 5, 6, 7] rfl)
  have hPo : va_P (dC, dI) vwCl (oL cy ol u.2) H := hB _ (List.mem_of_getElem? (i := 1) rfl)
  refine lv_aload_n hx hb dL_law_1170 rfl (lv_at hl 4 rfl) ?_
  refine lv_iconst (v := 0) hx hb dL_law_1171 (by decide) ?_
  refine va_lald hx hb hK hPo 0 3 rfl rfl (i := 0) (by unfold vp_in; decide) dL_law_1172 ?_
  refine lv_iload hx hb dL_law_1173 (lv_at hl 0 rfl) ?_
  refine lv_i2l hx hb dL_law_1175 rfl ?_
  refine W.lcmp hx hb dL_law_1176 ?_
  refine lv_if_eq (tgt := 1182) hx hb dL_law_1177 (by decide) (fun _ => ?_) (fun h0 => absurd (by show lg_cmp u.2 b9.toInt64 = 0; rw [t2 g0]; exact lcmp_self _) h0)
  refine lv_goto (tgt := 2107) hx hb dL_law_1182 (by decide) ?_
  refine W.widen (k := cells + 3) (n := slots + 18) (by omega) (by omega) ?_
  exact kk9 _ _ _ _ _ _ _ _ t3 ⟨hB, hBD, hS⟩ (lv_sub hl [2, 3, 4, 5, 6, 7] rfl)
set_option maxHeartbeats 1000000 in
set_option maxRecDepth 100000 in
/-- call 19 of the script -/
theorem case_19 {p : Program} {l : Launch} {e : Env} {s : State} {m : MethodId} {below : List Frame} {meth : Method} {c : Code} {Q : State → Prop} {b Lx : Nat} {xs : Nat → Int32} {dC : Nat → ClassId} {dI : Nat → Nat → Nat} {cy : Nat → ClassId} (C : LCx p l s m meth c b Lx xs dC dI cy) {κ : KA} {ol od m0 : Nat} {a : Nat → Nat} {j : Nat} (hj : 7 * j + 7 ≤ Lx) (hLx : Lx ≤ 3584) {cells slots : Nat} (hce : cells + 3 ≤ 601024) (hsl : slots + 18 ≤ 7293034) (kk9 : KON p l e s m below meth c Q b dC dI cy κ ol od m0 a j (cells + 3) (slots + 18)) {σ : CS} {I : Nat → Int32} {R : vG} {y : Int64} {yd : UInt64} {H : Heap} {locs : List Loc} {ls : Array Slot} (hR : Rel σ I R) (hLB : LB dC dI cy κ ol od m0 a s σ I R y yd H locs) (hl : lv_has ls 9 (LV κ ol od m0 b j)) : W p l e room_1 s m #[Value.ref b] below meth c H locs cells slots Q (F0 m 1185 ls []) := by
  obtain ⟨hx, hb, hml, hown, hts, hX0, hbl, hE, hXV, hZ, hV, hst⟩ := C
  have hK := hE.1
  obtain ⟨hB, hBD, hS⟩ := hLB
  have hA : ∀ q, s.heap.size ≤ q → AL s q := fun _ h => h
  have hbA : ¬ AL s b := Nat.not_le.mpr hbl
  have hok := hR.ok
  obtain ⟨d0, o, bc, bt, bv, rg, cs, bs, ta, tb, z, bq, rt⟩ := κ
  obtain ⟨⟨F, ⟨G, n, sc⟩, ⟨Gt, nt, sct⟩, x, kk, RG, rn, RS⟩, ⟨Gv, nv9, scv⟩, ⟨C, N, L, fl⟩, M, ⟨Gz, nz, scz⟩, Q9, T⟩ := σ
  have hRc := hR
  obtain ⟨⟨hn, hG, hgs, esc, hS0, hS1, hag⟩, hnt, hx6, hkk, hI5, hrn, hh, hnv, hI6, hsv, hL, hI8, htx, hI9, hnz, hI10, hI11, hI12, hI13, hI14, hnn, hsm⟩ := hRc
  have hGR := okG_agr hag.symm hG
  have hl : lv_has ls 9 [(5, .int (nI (7 * j))), (4, .ref od), (3, .ref ol), (2, .ref m0), (1, .ref d0), (0, .ref b)] := hl
  refine lv_aload_n hx hb dL_law_1185 rfl (lv_at hl 4 rfl) ?_
  refine lv_aload_n hx hb dL_law_1186 rfl (lv_at hl 5 rfl) ?_
  refine lv_iload hx hb dL_law_1187 (lv_at hl 0 rfl) ?_
  refine lv_iconst (v := 1) hx hb dL_law_1189 (by decide) ?_
  refine lv_iadd hx hb dL_law_1190 ?_
  refine vn_sld hx hb hX0 hbl hbA hS (7 * j + 1) (nI_add (7 * j) 1) (by omega) (by omega) dL_law_1191 ?_
  refine lv_aload_n hx hb dL_law_1192 rfl (lv_at hl 5 rfl) ?_
  refine lv_iload hx hb dL_law_1193 (lv_at hl 0 rfl) ?_
  refine lv_iconst (v := 2) hx hb dL_law_1195 (by decide) ?_
  refine lv_iadd hx hb dL_law_1196 ?_
  refine vn_sld hx hb hX0 hbl hbA hS (7 * j + 2) (nI_add (7 * j) 2) (by omega) (by omega) dL_law_1197 ?_
  refine lv_aload_n hx hb dL_law_1198 rfl (lv_at hl 2 rfl) ?_
  have hPc : va_P (dC, dI) vwCl (wK cy (d0, o, bc, bt, bv, rg, cs, bs, ta, tb, z, bq, rt) ((F, (G, n, sc), (Gt, nt, sct), (x, kk, RG, rn, RS)), (Gv, nv9, scv), (C, N, L, fl), (M, (Gz, nz, scz), Q9, T)) ++ oL cy ol y) H := gl_P.mpr (hB.sub (bs' := [wK cy (d0, o, bc, bt, bv, rg, cs, bs, ta, tb, z, bq, rt) ((F, (G, n, sc), (Gt, nt, sct), (x, kk, RG, rn, RS)), (Gv, nv9, scv), (C, N, L, fl), (M, (Gz, nz, scz), Q9, T)), oL cy ol y]) [0, 1] rfl)
  have hDc : va_D (AL s) (wK cy (d0, o, bc, bt, bv, rg, cs, bs, ta, tb, z, bq, rt) ((F, (G, n, sc), (Gt, nt, sct), (x, kk, RG, rn, RS)), (Gv, nv9, scv), (C, N, L, fl), (M, (Gz, nz, scz), Q9, T)) ++ oL cy ol y) := gl_D.mpr (hBD.sub (bs' := [wK cy (d0, o, bc, bt, bv, rg, cs, bs, ta, tb, z, bq, rt) ((F, (G, n, sc), (Gt, nt, sct), (x, kk, RG, rn, RS)), (Gv, nv9, scv), (C, N, L, fl), (M, (Gz, nz, scz), Q9, T)), oL cy ol y]) [0, 1] (by decide) rfl)
  have hFc : ∀ q, va_A (wK cy (d0, o, bc, bt, bv, rg, cs, bs, ta, tb, z, bq, rt) ((F, (G, n, sc), (Gt, nt, sct), (x, kk, RG, rn, RS)), (Gv, nv9, scv), (C, N, L, fl), (M, (Gz, nz, scz), Q9, T)) ++ oL cy ol y) H.size q → AL s q := BF (cb := [wK cy (d0, o, bc, bt, bv, rg, cs, bs, ta, tb, z, bq, rt) ((F, (G, n, sc), (Gt, nt, sct), (x, kk, RG, rn, RS)), (Gv, nv9, scv), (C, N, L, fl), (M, (Gz, nz, scz), Q9, T)), oL cy ol y]) hBD hS hA [0, 1] rfl
  refine lc_L (vx_runSW (As := [.ref d0, .int (xs (7 * j + 1)), .int (xs (7 * j + 2)), .ref ol]) (rest := []) ⟨hx, hb, hml, hown, hts⟩ (c_L_passes l hst dC dI cy H.size d0 o bc bt bv rg cs bs ta tb z bq rt F G n sc Gt nt sct x kk RG rn RS Gv nv9 scv C N L fl M Gz nz scz Q9 T hok ol y (xs (7 * j + 1)) (xs (7 * j + 2))) (vx_cwSW 4 hts gL_law_L_passes rfl rfl rfl (by decide +kernel) ⟨Nat.le_of_ble_eq_true rfl, Nat.le_of_ble_eq_true rfl⟩) ⟨bl_L, pr_L hPc hE hDc hXV hZ hS hFc hV⟩ rfl rfl hl.1 rfl (lv_room (Nat.le_of_ble_eq_true rfl)) dL_law_1199 ⟨by show cells + 2 ≤ 601024; omega, by show slots + 12 ≤ 7293034; omega⟩) hB hBD hS (fun k u H locs hk hB hBD hS => ?_)
  clear hPc hDc hFc
  refine lv_istore (lv' := [(6, .int k), (5, .int (nI (7 * j))), (4, .ref od), (3, .ref ol), (2, .ref m0), (1, .ref d0), (0, .ref b)]) hx hb dL_law_1202 hl (by decide) rfl (fun ls hl => ?_)
  refine lv_aload_n hx hb dL_law_1204 rfl (lv_at hl 4 rfl) ?_
  refine lv_aload_n hx hb dL_law_1205 rfl (lv_at hl 6 rfl) ?_
  refine lv_iload hx hb dL_law_1206 (lv_at hl 1 rfl) ?_
  refine lv_iconst (v := 1) hx hb dL_law_1208 (by decide) ?_
  refine lv_iadd hx hb dL_law_1209 ?_
  refine vn_sld hx hb hX0 hbl hbA hS (7 * j + 1) (nI_add (7 * j) 1) (by omega) (by omega) dL_law_1210 ?_
  refine lv_aload_n hx hb dL_law_1211 rfl (lv_at hl 6 rfl) ?_
  refine lv_iload hx hb dL_law_1212 (lv_at hl 1 rfl) ?_
  refine lv_iconst (v := 2) hx hb dL_law_1214 (by decide) ?_
  refine lv_iadd hx hb dL_law_1215 ?_
  refine vn_sld hx hb hX0 hbl hbA hS (7 * j + 2) (nI_add (7 * j) 2) (by omega) (by omega) dL_law_1216 ?_
  have hPm : va_P (dC, dI) vwCl (wMdl cy m0 a I R) H := hB _ (List.mem_of_getElem? (i := 3) rfl)
  have hDm : va_D (AL s) (wMdl cy m0 a I R) := hBD.2 _ (List.mem_of_getElem? (i := 3) rfl)
  refine lc_Mi (fun u : Nat → Int32 => u) (fun _ : Nat → Int32 => R) (va_runV (As := [.int (xs (7 * j + 1)), .int (xs (7 * j + 2))]) (rest := []) ⟨hx, hb, hml, hown, hts⟩ (c_X5_passes l dC dI cy H.size m0 a I R n hn hS0 hGR (xs (7 * j + 1)) (xs (7 * j + 2))) (cwV 2 hts gL_law_X5_passes rfl rfl rfl (by decide +kernel) ⟨Nat.le_of_ble_eq_true rfl, Nat.le_of_ble_eq_true rfl⟩) ⟨bl_in, va_recv hK hPm (ci := 5) (q0 := 0) rfl rfl, pr_in hPm hE hDm⟩ rfl rfl hl.1 rfl (lv_room (Nat.le_of_ble_eq_true rfl)) dL_law_1217 ⟨by show cells + 2 + 0 ≤ 601024; omega, by show slots + 12 + 0 ≤ 7293034; omega⟩) hB hBD hS (fun b9 v H locs hm hB hBD hS => ?_)
  clear hPm hDm
  obtain ⟨t1, t2, t3⟩ := st_rv (z := b2l b9) hR hk hm.1 rfl (fun g => by rw [hm.2 g]; exact congrArg b2l (by rw [ffail_agr hag]))
  refine lv_istore (lv' := [(7, .int b9), (6, .int k), (5, .int (nI (7 * j))), (4, .ref od), (3, .ref ol), (2, .ref m0), (1, .ref d0), (0, .ref b)]) hx hb dL_law_1220 hl (by decide) rfl (fun ls hl => ?_)
  refine lv_aload_n hx hb dL_law_1222 rfl (lv_at hl 5 rfl) ?_
  have hPm : va_P (dC, dI) vwCl (wMdl cy m0 a v (R)) H := hB _ (List.mem_of_getElem? (i := 3) rfl)
  refine vp_callSi (va_runV (As := []) (rest := []) ⟨hx, hb, hml, hown, hts⟩ (c_X5_thrown l dC dI cy m0 a (v) (R)) (cwV 0 hts gL_law_X5_thrown rfl rfl rfl (by decide +kernel) ⟨Nat.le_of_ble_eq_true rfl, Nat.le_of_ble_eq_true rfl⟩) ⟨bl_ro, va_recv hK hPm (ci := 5) (q0 := 0) rfl rfl, pr_ro hPm hE⟩ rfl rfl hl.1 rfl (lv_room (Nat.le_of_ble_eq_true rfl)) dL_law_1223 ⟨by show cells + 2 + 0 + 0 ≤ 601024; omega, by show slots + 12 + 0 + 0 ≤ 7293034; omega⟩).run (fun r e_r => ?_)
  subst e_r
  refine lv_iload hx hb dL_law_1226 (lv_at hl 1 rfl) ?_
  refine lv_icmp_eq (tgt := 1233) hx hb dL_law_1228 (by decide) (fun _ => ?_) (fun h0 => absurd t1 h0)
  refine lv_iload hx hb dL_law_1233 (lv_at hl 1 rfl) ?_
  refine lv_if_ne (tgt := 1257) hx hb dL_law_1235 (by decide) (fun g0 => ?_) (fun g0 => ?_)
  · skip
    refine lv_goto (tgt := 2107) hx hb dL_law_1257 (by decide) ?_
    refine W.widen (k := cells + 3) (n := slots + 18) (by omega) (by omega) ?_
    exact kk9 _ _ _ _ _ _ _ _ t3 ⟨hB, hBD, hS⟩ (lv_sub hl [2, 3, 4, 5, 6, 7] rfl)
  have hPo : va_P (dC, dI) vwCl (oL cy ol u.2) H := hB _ (List.mem_of_getElem? (i := 1) rfl)
  refine lv_aload_n hx hb dL_law_1238 rfl (lv_at hl 4 rfl) ?_
  refine lv_iconst (v := 0) hx hb dL_law_1239 (by decide) ?_
  refine va_lald hx hb hK hPo 0 3 rfl rfl (i := 0) (by unfold vp_in; decide) dL_law_1240 ?_
  refine lv_iload hx hb dL_law_1241 (lv_at hl 0 rfl) ?_
  refine lv_if_eq (tgt := 1250) hx hb dL_law_1243 (by decide) (fun g1 => ?_) (fun g1 => ?_)
  · refine lv_lconst (v := 0) hx hb dL_law_1250 (by decide) ?_
    refine W.lcmp hx hb dL_law_1251 ?_
    refine lv_if_eq (tgt := 1257) hx hb dL_law_1252 (by decide) (fun _ => ?_) (fun h0 => absurd (by show lg_cmp u.2 0 = 0; rw [t2 g0, b2l, if_pos g1]; exact lcmp_self _) h0)
    refine lv_goto (tgt := 2107) hx hb dL_law_1257 (by decide) ?_
    refine W.widen (k := cells + 3) (n := slots + 18) (by omega) (by omega) ?_
    exact kk9 _ _ _ _ _ _ _ _ t3 ⟨hB, hBD, hS⟩ (lv_sub hl [2, 3, 4, 5, 6, 7] rfl)
  · refine lv_lconst (v := 1) hx hb dL_law_1246 (by decide) ?_
    refine lv_goto (tgt := 1251) hx hb dL_law_1247 (by decide) ?_
    refine W.lcmp hx hb dL_law_1251 ?_
    refine lv_if_eq (tgt := 1257) hx hb dL_law_1252 (by decide) (fun _ => ?_) (fun h0 => absurd (by show lg_cmp u.2 1 = 0; rw [t2 g0, b2l, if_neg g1]; exact lcmp_self _) h0)
    refine lv_goto (tgt := 2107) hx hb dL_law_1257 (by decide) ?_
    refine W.widen (k := cells + 3) (n := slots + 18) (by omega) (by omega) ?_
    exact kk9 _ _ _ _ _ _ _ _ t3 ⟨hB, hBD, hS⟩ (lv_sub hl [2, 3, 4, 5, 6, 7] rfl)

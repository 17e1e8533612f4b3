/-! PART 76: the law's own methods: changes -/
set_option maxHeartbeats 1000000 in
set_option maxRecDepth 100000 in
/-- the law's propose -/
theorem c_L_propose (l : Launch) (hst : l.stackTraces = false) (dC : Nat → ClassId) (dI : Nat → Nat → Nat) (cy : Nat → ClassId) (sz : Nat) (d0 : Nat) (o bc bt bv : Nat → Nat) (rg : Nat) (cs : Nat → Nat) (bs : Nat → Nat → Nat) (ta tb : Nat) (z bq rt : Nat → Nat) (F : Nat → Int32) (G : vG) (n : Nat) (sc : Int32) (Gt : vG) (nt : Nat) (sct : Int32) (x kk : Nat) (RG : Nat → vG) (rn : Nat → Nat) (RS : Nat → Int32) (Gv : vG) (nv9 : Nat) (scv : Int32) (C N : Nat → Int32) (L : Nat) (fl : Int32) (M : Nat → Int32) (Gz : vG) (nz : Nat) (scz : Int32) (Q T : vG) (hk : KOk ((F, (G, n, sc), (Gt, nt, sct), (x, kk, RG, rn, RS)), (Gv, nv9, scv), (C, N, L, fl), (M, (Gz, nz, scz), Q, T))) (oq : Nat) (y : Int64) (p0 p1 p2 p3 p4 p5 : Int32) : metL l yL_propose wsL_propose ({ frames := 7, cells := 1, slots := 6, locals := 148 }) [.ref d0, .int p0, .int p1, .int p2, .int p3, .int p4, .int p5, .ref oq] dC dI cy (d0, o, bc, bt, bv, rg, cs, bs, ta, tb, z, bq, rt) oq sz ((F, (G, n, sc), (Gt, nt, sct), (x, kk, RG, rn, RS)), (Gv, nv9, scv), (C, N, L, fl), (M, (Gz, nz, scz), Q, T)) y (wrL ((F, (G, n, sc), (Gt, nt, sct), (x, kk, RG, rn, RS)), (Gv, nv9, scv), (C, N, L, fl), (M, (Gz, nz, scz), Q, T)) (fun v u => ∃ w, kProp F G n sc Gt x kk RG rn RS p0 p1 p2 p3 p4 p5 v w ∧ u = (w, (Gv, nv9, scv), (C, N, L, fl), (M, (Gz, nz, scz), Q, T))) (fun r u => r = cProp n p0 p1 p2 p3 p4 p5 ∧ u = ((F, (G, n, sc), (Gt, nt, sct), (x, kk, RG, rn, RS)), (Gv, nv9, scv), (C, N, L, fl), (M, (Gz, nz, scz), Q, T)))) 1 6 := by
  unfold metL
  refine vn_ofH (cc := cL_propose) (maxL := 9) (ret := some .int) (hh := [(0, 18, 21, 13), (0, 18, 25, 15)]) (by decide) rfl ?_
  intro p e s m args below meth c s₁ B hml hv
  obtain ⟨rfl, hsz, hP, hE, hD0, hX, hZ, hV⟩ := hv
  have hK := hE.1
  subst hsz
  have hD := hD0.self (sz := s.heap.size)
  generalize hAe : va_A (wK cy (d0, o, bc, bt, bv, rg, cs, bs, ta, tb, z, bq, rt) ((F, (G, n, sc), (Gt, nt, sct), (x, kk, RG, rn, RS)), (Gv, nv9, scv), (C, N, L, fl), (M, (Gz, nz, scz), Q, T)) ++ oL cy oq y) s.heap.size = A at hD hZ ⊢
  have hA : ∀ q : Nat, s.heap.size ≤ q → A q := fun q h => by rw [← hAe]; exact Or.inr h
  have hS : va_S A s.heap s.heap [] := va_S.rf
  obtain ⟨hn, hnt, hx6, hkk, hrn, hnv, hL, hnz, hG, hsc, hd0, hd1, hGR⟩ := hk
  have hB : BP (dC, dI) vwCl [wObj d0 o F, wCfg cy (o 0) bc G (nI n) sc, wCfg cy (o 1) bt Gt (nI nt) sct, wHis cy (o 3) rg x kk cs bs RG rn RS, wCfg cy (o 2) bv Gv (nI nv9) scv, wTxt cy (o 4) ta tb C N (nI L) fl, wSim (o 5) z M, wCfg cy (z 0) bq Gz (nI nz) scz, wArr cy z rt Q T, oL cy oq y] s.heap := wKo_P.mp hP
  have hBD : BD A [wObj d0 o F, wCfg cy (o 0) bc G (nI n) sc, wCfg cy (o 1) bt Gt (nI nt) sct, wHis cy (o 3) rg x kk cs bs RG rn RS, wCfg cy (o 2) bv Gv (nI nv9) scv, wTxt cy (o 4) ta tb C N (nI L) fl, wSim (o 5) z M, wCfg cy (z 0) bq Gz (nI nz) scz, wArr cy z rt Q T, oL cy oq y] := wKo_D.mp hD
  have hx := B.exec
  have hb := B.bytes
  have hr := B.returns
  have hts := atoms_spec (ws := wsL_propose) B.pre
  have hown : s.vm.findClass RL = some m.cls := findClass_of_methodNamed B.named
  have htb := vx_table (x := yL_propose) B (hts (.codeWith yL_propose cL_propose 9 (some .int) [(0, 18, 21, 13), (0, 18, 25, 15)]) (List.mem_of_getElem? (i := 0) rfl))
  have hl := lv_entry ([.ref d0, .int p0, .int p1, .int p2, .int p3, .int p4, .int p5, .ref oq]) (n := 9) (Nat.le_of_ble_eq_true rfl)
  rw [lg_entry_eq]
  generalize (lg_sl ([.ref d0, .int p0, .int p1, .int p2, .int p3, .int p4, .int p5, .ref oq]) ++ List.replicate (9 - (lg_sl ([.ref d0, .int p0, .int p1, .int p2, .int p3, .int p4, .int p5, .ref oq])).length) Slot.unset).toArray = ls at hl ⊢
  have hl : lv_has ls 9 [(0, .ref d0), (1, .int p0), (2, .int p1), (3, .int p2), (4, .int p3), (5, .int p4), (6, .int p5), (7, .ref oq)] := hl
  refine lv_aload hx hb dL_propose_0 (lv_at hl 7 rfl) ?_
  refine lv_iconst (v := 0) hx hb dL_propose_2 (by decide) ?_
  refine lv_aload_n hx hb dL_propose_3 rfl (lv_at hl 0 rfl) ?_
  refine lv_iload_n hx hb dL_propose_4 rfl (lv_at hl 1 rfl) ?_
  refine lv_iload_n hx hb dL_propose_5 rfl (lv_at hl 2 rfl) ?_
  refine lv_iload_n hx hb dL_propose_6 rfl (lv_at hl 3 rfl) ?_
  refine lv_iload hx hb dL_propose_7 (lv_at hl 4 rfl) ?_
  refine lv_iload hx hb dL_propose_9 (lv_at hl 5 rfl) ?_
  refine lv_iload hx hb dL_propose_11 (lv_at hl 6 rfl) ?_
  have hPc : va_P (dC, dI) vwCl (wObj d0 o F ++ (wCfg cy (o 0) bc G (nI n) sc ++ (wCfg cy (o 1) bt Gt (nI nt) sct ++ (wHis cy (o 3) rg x kk cs bs RG rn RS)))) s.heap := gl_P.mpr (hB.sub (bs' := [wObj d0 o F, wCfg cy (o 0) bc G (nI n) sc, wCfg cy (o 1) bt Gt (nI nt) sct, wHis cy (o 3) rg x kk cs bs RG rn RS]) [0, 1, 2, 3] rfl)
  have hDc : va_D A (wObj d0 o F ++ (wCfg cy (o 0) bc G (nI n) sc ++ (wCfg cy (o 1) bt Gt (nI nt) sct ++ (wHis cy (o 3) rg x kk cs bs RG rn RS)))) := gl_D.mpr (hBD.sub (bs' := [wObj d0 o F, wCfg cy (o 0) bc G (nI n) sc, wCfg cy (o 1) bt Gt (nI nt) sct, wHis cy (o 3) rg x kk cs bs RG rn RS]) [0, 1, 2, 3] (by decide) rfl)
  have hFc : ∀ q, va_A (wObj d0 o F ++ (wCfg cy (o 0) bc G (nI n) sc ++ (wCfg cy (o 1) bt Gt (nI nt) sct ++ (wHis cy (o 3) rg x kk cs bs RG rn RS)))) s.heap.size q → A q := BF (cb := [wObj d0 o F, wCfg cy (o 0) bc G (nI n) sc, wCfg cy (o 1) bt Gt (nI nt) sct, wHis cy (o 3) rg x kk cs bs RG rn RS]) hBD hS hA [0, 1, 2, 3] rfl
  refine vx_calli (vx_runV (As := [.int p0, .int p1, .int p2, .int p3, .int p4, .int p5]) (rest := [.int 0, .ref oq]) ⟨hx, hb, hml, hown, hts⟩ (c_X4_propose l hst dC dI cy s.heap.size d0 o F bc G n hn sc bt Gt nt hnt sct rg x kk hx6 hkk cs bs RG rn RS p0 p1 p2 p3 p4 p5) (cwV 6 hts gL_propose_X4_propose rfl rfl rfl (by decide +kernel) ⟨Nat.le_of_ble_eq_true rfl, Nat.le_of_ble_eq_true rfl⟩) ⟨bl_X, va_recv hK hPc (ci := 4) (q0 := 0) rfl rfl, pr_X hPc hE hDc hX hZ hS hFc⟩ rfl rfl hl.1 rfl (lv_room (Nat.le_of_ble_eq_true rfl)) dL_propose_13 ⟨Nat.le_of_ble_eq_true rfl, Nat.le_of_ble_eq_true rfl⟩) hS (fun q _ h => hFc q h) hFc (fun q _ h => hFc q h) (fun E ce q9 u t H1 locs ht hvm hpx hBX hz1 hk1 hS hce hcv hcl => ?_) (fun r u t H1 locs ht hvm hw hB9 hz1 hk1 hS => ?_)
  · obtain ⟨hBX, hPX⟩ := hBX
    obtain ⟨hP1, hD1⟩ := hPX
    rw [ht] at hP1
    obtain ⟨hBn, hDn⟩ := BJ (cb := [wObj d0 o F, wCfg cy (o 0) bc G (nI n) sc, wCfg cy (o 1) bt Gt (nI nt) sct, wHis cy (o 3) rg x kk cs bs RG rn RS]) (rb := [wCfg cy (o 2) bv Gv (nI nv9) scv, wTxt cy (o 4) ta tb C N (nI L) fl, wSim (o 5) z M, wCfg cy (z 0) bq Gz (nI nz) scz, wArr cy z rt Q T, oL cy oq y]) (nb := [wObj d0 o F, wCfg cy (o 0) bc G (nI n) sc, wCfg cy (o 1) bt Gt (nI nt) sct, wHis cy (o 3) rg x kk cs bs RG rn RS]) hB hBD [0, 1, 2, 3] [4, 5, 6, 7, 8, 9] rfl rfl (by decide) (by decide) hk1 hFc hP1 hD1
    have hP : va_P (dC, dI) vwCl (wK cy (d0, o, bc, bt, bv, rg, cs, bs, ta, tb, z, bq, rt) ((F, (G, n, sc), (Gt, nt, sct), (x, kk, RG, rn, RS)), (Gv, nv9, scv), (C, N, L, fl), (M, (Gz, nz, scz), Q, T)) ++ oL cy oq y) H1 := wKo_P.mpr (hBn.sub (bs' := [wObj d0 o F, wCfg cy (o 0) bc G (nI n) sc, wCfg cy (o 1) bt Gt (nI nt) sct, wHis cy (o 3) rg x kk cs bs RG rn RS, wCfg cy (o 2) bv Gv (nI nv9) scv, wTxt cy (o 4) ta tb C N (nI L) fl, wSim (o 5) z M, wCfg cy (z 0) bq Gz (nI nz) scz, wArr cy z rt Q T, oL cy oq y]) [6, 7, 8, 9, 0, 1, 2, 3, 4, 5] rfl)
    have hD : va_D A (wK cy (d0, o, bc, bt, bv, rg, cs, bs, ta, tb, z, bq, rt) ((F, (G, n, sc), (Gt, nt, sct), (x, kk, RG, rn, RS)), (Gv, nv9, scv), (C, N, L, fl), (M, (Gz, nz, scz), Q, T)) ++ oL cy oq y) := wKo_D.mpr (hDn.sub (bs' := [wObj d0 o F, wCfg cy (o 0) bc G (nI n) sc, wCfg cy (o 1) bt Gt (nI nt) sct, wHis cy (o 3) rg x kk cs bs RG rn RS, wCfg cy (o 2) bv Gv (nI nv9) scv, wTxt cy (o 4) ta tb C N (nI L) fl, wSim (o 5) z M, wCfg cy (z 0) bq Gz (nI nz) scz, wArr cy z rt Q T, oL cy oq y]) [6, 7, 8, 9, 0, 1, 2, 3, 4, 5] (by decide) rfl)
    rcases hBX with ⟨rfl, hc9⟩ | ⟨rfl, hc9⟩
    · refine vx_catch (name := "java/lang/IllegalArgumentException") hown [] ⟨0, 18, 21, 13⟩ [⟨0, 18, 25, 15⟩] (htb.trans rfl) (fun z hz => by simp at hz) (by decide) (by decide) (hts (.classLink RL 13 "java/lang/IllegalArgumentException") (by decide +kernel)) (va_Nw.use rfl (hX.c 0 rfl)) hce hcv hcl ?_
      refine lv_astore (lv' := (8, .ref q9) :: [(0, .ref d0), (1, .int p0), (2, .int p1), (3, .int p2), (4, .int p3), (5, .int p4), (6, .int p5), (7, .ref oq)]) hx hb dL_propose_21 hl (by decide) rfl (fun ls hl => ?_)
      refine lv_iconst (v := 1) hx hb dL_propose_23 (by decide) ?_
      exact W.iret (v := 1) hx hb hr (fun t ht hW => ⟨⟨1, (((F, (G, n, sc), (Gt, nt, sct), (x, kk, RG, rn, RS)), (Gv, nv9, scv), (C, N, L, fl), (M, (Gz, nz, scz), Q, T)), y), rfl, Or.inr ⟨by decide, ⟨hc9.symm, rfl⟩⟩, by rw [ht]; exact hP, hD⟩, hS.F ht⟩) hS.2.2 dL_propose_24
    · refine vx_catch (name := "java/lang/IllegalStateException") hown [⟨0, 18, 21, 13⟩] ⟨0, 18, 25, 15⟩ [] (htb.trans rfl) (List.forall_mem_cons.mpr ⟨Or.inr ⟨by decide, _, hts (.classLink RL 13 "java/lang/IllegalArgumentException") (by decide +kernel), hV.n 4 rfl⟩, fun z hz => by simp at hz⟩) (by decide) (by decide) (hts (.classLink RL 15 "java/lang/IllegalStateException") (by decide +kernel)) (va_Nw.use rfl (hX.c 1 rfl)) hce hcv hcl ?_
      refine lv_astore (lv' := (8, .ref q9) :: [(0, .ref d0), (1, .int p0), (2, .int p1), (3, .int p2), (4, .int p3), (5, .int p4), (6, .int p5), (7, .ref oq)]) hx hb dL_propose_25 hl (by decide) rfl (fun ls hl => ?_)
      refine lv_iconst (v := 2) hx hb dL_propose_27 (by decide) ?_
      exact W.iret (v := 2) hx hb hr (fun t ht hW => ⟨⟨2, (((F, (G, n, sc), (Gt, nt, sct), (x, kk, RG, rn, RS)), (Gv, nv9, scv), (C, N, L, fl), (M, (Gz, nz, scz), Q, T)), y), rfl, Or.inr ⟨by decide, ⟨hc9.symm, rfl⟩⟩, by rw [ht]; exact hP, hD⟩, hS.F ht⟩) hS.2.2 dL_propose_28
  obtain ⟨F1, ⟨G1, n1, sc1⟩, ⟨Gt1, nt1, sct1⟩, x1, kk1, RG1, rn1, RS1⟩ := u
  obtain ⟨hP1, hD1⟩ := hB9
  rw [ht] at hP1
  obtain ⟨hBn, hDn⟩ := BJ (cb := [wObj d0 o F, wCfg cy (o 0) bc G (nI n) sc, wCfg cy (o 1) bt Gt (nI nt) sct, wHis cy (o 3) rg x kk cs bs RG rn RS]) (rb := [wCfg cy (o 2) bv Gv (nI nv9) scv, wTxt cy (o 4) ta tb C N (nI L) fl, wSim (o 5) z M, wCfg cy (z 0) bq Gz (nI nz) scz, wArr cy z rt Q T, oL cy oq y]) (nb := [wObj d0 o F1, wCfg cy (o 0) bc G1 (nI n1) sc1, wCfg cy (o 1) bt Gt1 (nI nt1) sct1, wHis cy (o 3) rg x1 kk1 cs bs RG1 rn1 RS1]) hB hBD [0, 1, 2, 3] [4, 5, 6, 7, 8, 9] rfl rfl (by decide) (by decide) hk1 hFc hP1 hD1
  have hP : va_P (dC, dI) vwCl (wK cy (d0, o, bc, bt, bv, rg, cs, bs, ta, tb, z, bq, rt) ((F1, (G1, n1, sc1), (Gt1, nt1, sct1), (x1, kk1, RG1, rn1, RS1)), (Gv, nv9, scv), (C, N, L, fl), (M, (Gz, nz, scz), Q, T)) ++ oL cy oq y) H1 := wKo_P.mpr (hBn.sub (bs' := [wObj d0 o F1, wCfg cy (o 0) bc G1 (nI n1) sc1, wCfg cy (o 1) bt Gt1 (nI nt1) sct1, wHis cy (o 3) rg x1 kk1 cs bs RG1 rn1 RS1, wCfg cy (o 2) bv Gv (nI nv9) scv, wTxt cy (o 4) ta tb C N (nI L) fl, wSim (o 5) z M, wCfg cy (z 0) bq Gz (nI nz) scz, wArr cy z rt Q T, oL cy oq y]) [6, 7, 8, 9, 0, 1, 2, 3, 4, 5] rfl)
  have hD : va_D A (wK cy (d0, o, bc, bt, bv, rg, cs, bs, ta, tb, z, bq, rt) ((F1, (G1, n1, sc1), (Gt1, nt1, sct1), (x1, kk1, RG1, rn1, RS1)), (Gv, nv9, scv), (C, N, L, fl), (M, (Gz, nz, scz), Q, T)) ++ oL cy oq y) := wKo_D.mpr (hDn.sub (bs' := [wObj d0 o F1, wCfg cy (o 0) bc G1 (nI n1) sc1, wCfg cy (o 1) bt Gt1 (nI nt1) sct1, wHis cy (o 3) rg x1 kk1 cs bs RG1 rn1 RS1, wCfg cy (o 2) bv Gv (nI nv9) scv, wTxt cy (o 4) ta tb C N (nI L) fl, wSim (o 5) z M, wCfg cy (z 0) bq Gz (nI nz) scz, wArr cy z rt Q T, oL cy oq y]) [6, 7, 8, 9, 0, 1, 2, 3, 4, 5] (by decide) rfl)
  clear hz1 hk1
  generalize H1 = H at hP hS ⊢
  refine lv_i2l hx hb dL_propose_16 rfl ?_
  refine vn_last hx hb hK hP hD hS 3 rfl dL_propose_17 (fun H locs hP hD hS => ?_)
  refine lv_goto (tgt := 29) hx hb dL_propose_18 (by decide) ?_
  refine lv_iconst (v := 0) hx hb dL_propose_29 (by decide) ?_
  exact W.iret (v := 0) hx hb hr (fun t ht hW => ⟨⟨0, (((F1, (G1, n1, sc1), (Gt1, nt1, sct1), (x1, kk1, RG1, rn1, RS1)), (Gv, nv9, scv), (C, N, L, fl), (M, (Gz, nz, scz), Q, T)), _), rfl, Or.inl ⟨rfl, r, ⟨(F1, (G1, n1, sc1), (Gt1, nt1, sct1), (x1, kk1, RG1, rn1, RS1)), hw, rfl⟩, rfl⟩, by rw [ht]; exact hP, hD⟩, hS.F ht⟩) hS.2.2 dL_propose_30
set_option maxHeartbeats 1000000 in
set_option maxRecDepth 100000 in
/-- the law's proposeText -/
theorem c_L_proposeText (l : Launch) (hst : l.stackTraces = false) (dC : Nat → ClassId) (dI : Nat → Nat → Nat) (cy : Nat → ClassId) (sz : Nat) (d0 : Nat) (o bc bt bv : Nat → Nat) (rg : Nat) (cs : Nat → Nat) (bs : Nat → Nat → Nat) (ta tb : Nat) (z bq rt : Nat → Nat) (F : Nat → Int32) (G : vG) (n : Nat) (sc : Int32) (Gt : vG) (nt : Nat) (sct : Int32) (x kk : Nat) (RG : Nat → vG) (rn : Nat → Nat) (RS : Nat → Int32) (Gv : vG) (nv9 : Nat) (scv : Int32) (C N : Nat → Int32) (L : Nat) (fl : Int32) (M : Nat → Int32) (Gz : vG) (nz : Nat) (scz : Int32) (Q T : vG) (hk : KOk ((F, (G, n, sc), (Gt, nt, sct), (x, kk, RG, rn, RS)), (Gv, nv9, scv), (C, N, L, fl), (M, (Gz, nz, scz), Q, T))) (oq : Nat) (y : Int64) : metL l yL_proposeText wsL_proposeText ({ frames := 8, cells := 1, slots := 6, locals := 169 }) [.ref d0, .ref oq] dC dI cy (d0, o, bc, bt, bv, rg, cs, bs, ta, tb, z, bq, rt) oq sz ((F, (G, n, sc), (Gt, nt, sct), (x, kk, RG, rn, RS)), (Gv, nv9, scv), (C, N, L, fl), (M, (Gz, nz, scz), Q, T)) y (wrL ((F, (G, n, sc), (Gt, nt, sct), (x, kk, RG, rn, RS)), (Gv, nv9, scv), (C, N, L, fl), (M, (Gz, nz, scz), Q, T)) (fun v u => ∃ w N1, flt C L = -1 ∧ kProp F G n sc Gt x kk RG rn RS (nv C L 0) (nv C L 1) (nv C L 2) (nv C L 3) (nv C L 4) (nv C L 5) v w ∧ u = (w, (Gv, nv9, scv), (C, N1, 0, flt C L), (M, (Gz, nz, scz), Q, T))) (fun r u => ∃ N1, ((r = 1 ∧ ¬ flt C L = -1) ∨ (flt C L = -1 ∧ r = cProp n (nv C L 0) (nv C L 1) (nv C L 2) (nv C L 3) (nv C L 4) (nv C L 5))) ∧ u = ((F, (G, n, sc), (Gt, nt, sct), (x, kk, RG, rn, RS)), (Gv, nv9, scv), (C, N1, 0, flt C L), (M, (Gz, nz, scz), Q, T)))) 1 6 := by
  unfold metL
  refine vn_ofH (cc := cL_proposeText) (maxL := 3) (ret := some .int) (hh := [(0, 8, 11, 13), (0, 8, 14, 15)]) (by decide) rfl ?_
  intro p e s m args below meth c s₁ B hml hv
  obtain ⟨rfl, hsz, hP, hE, hD0, hX, hZ, hV⟩ := hv
  have hK := hE.1
  subst hsz
  have hD := hD0.self (sz := s.heap.size)
  generalize hAe : va_A (wK cy (d0, o, bc, bt, bv, rg, cs, bs, ta, tb, z, bq, rt) ((F, (G, n, sc), (Gt, nt, sct), (x, kk, RG, rn, RS)), (Gv, nv9, scv), (C, N, L, fl), (M, (Gz, nz, scz), Q, T)) ++ oL cy oq y) s.heap.size = A at hD hZ ⊢
  have hA : ∀ q : Nat, s.heap.size ≤ q → A q := fun q h => by rw [← hAe]; exact Or.inr h
  have hS : va_S A s.heap s.heap [] := va_S.rf
  obtain ⟨hn, hnt, hx6, hkk, hrn, hnv, hL, hnz, hG, hsc, hd0, hd1, hGR⟩ := hk
  have hB : BP (dC, dI) vwCl [wObj d0 o F, wCfg cy (o 0) bc G (nI n) sc, wCfg cy (o 1) bt Gt (nI nt) sct, wHis cy (o 3) rg x kk cs bs RG rn RS, wCfg cy (o 2) bv Gv (nI nv9) scv, wTxt cy (o 4) ta tb C N (nI L) fl, wSim (o 5) z M, wCfg cy (z 0) bq Gz (nI nz) scz, wArr cy z rt Q T, oL cy oq y] s.heap := wKo_P.mp hP
  have hBD : BD A [wObj d0 o F, wCfg cy (o 0) bc G (nI n) sc, wCfg cy (o 1) bt Gt (nI nt) sct, wHis cy (o 3) rg x kk cs bs RG rn RS, wCfg cy (o 2) bv Gv (nI nv9) scv, wTxt cy (o 4) ta tb C N (nI L) fl, wSim (o 5) z M, wCfg cy (z 0) bq Gz (nI nz) scz, wArr cy z rt Q T, oL cy oq y] := wKo_D.mp hD
  have hx := B.exec
  have hb := B.bytes
  have hr := B.returns
  have hts := atoms_spec (ws := wsL_proposeText) B.pre
  have hown : s.vm.findClass RL = some m.cls := findClass_of_methodNamed B.named
  have htb := vx_table (x := yL_proposeText) B (hts (.codeWith yL_proposeText cL_proposeText 3 (some .int) [(0, 8, 11, 13), (0, 8, 14, 15)]) (List.mem_of_getElem? (i := 0) rfl))
  have hl := lv_entry ([.ref d0, .ref oq]) (n := 3) (Nat.le_of_ble_eq_true rfl)
  rw [lg_entry_eq]
  generalize (lg_sl ([.ref d0, .ref oq]) ++ List.replicate (3 - (lg_sl ([.ref d0, .ref oq])).length) Slot.unset).toArray = ls at hl ⊢
  have hl : lv_has ls 3 [(0, .ref d0), (1, .ref oq)] := hl
  refine lv_aload_n hx hb dL_proposeText_0 rfl (lv_at hl 1 rfl) ?_
  refine lv_iconst (v := 0) hx hb dL_proposeText_1 (by decide) ?_
  refine lv_aload_n hx hb dL_proposeText_2 rfl (lv_at hl 0 rfl) ?_
  have hPc : va_P (dC, dI) vwCl (wObj d0 o F ++ (wCfg cy (o 0) bc G (nI n) sc ++ (wCfg cy (o 1) bt Gt (nI nt) sct ++ (wHis cy (o 3) rg x kk cs bs RG rn RS ++ (wTxt cy (o 4) ta tb C N (nI L) fl))))) s.heap := gl_P.mpr (hB.sub (bs' := [wObj d0 o F, wCfg cy (o 0) bc G (nI n) sc, wCfg cy (o 1) bt Gt (nI nt) sct, wHis cy (o 3) rg x kk cs bs RG rn RS, wTxt cy (o 4) ta tb C N (nI L) fl]) [0, 1, 2, 3, 5] rfl)
  have hDc : va_D A (wObj d0 o F ++ (wCfg cy (o 0) bc G (nI n) sc ++ (wCfg cy (o 1) bt Gt (nI nt) sct ++ (wHis cy (o 3) rg x kk cs bs RG rn RS ++ (wTxt cy (o 4) ta tb C N (nI L) fl))))) := gl_D.mpr (hBD.sub (bs' := [wObj d0 o F, wCfg cy (o 0) bc G (nI n) sc, wCfg cy (o 1) bt Gt (nI nt) sct, wHis cy (o 3) rg x kk cs bs RG rn RS, wTxt cy (o 4) ta tb C N (nI L) fl]) [0, 1, 2, 3, 5] (by decide) rfl)
  have hFc : ∀ q, va_A (wObj d0 o F ++ (wCfg cy (o 0) bc G (nI n) sc ++ (wCfg cy (o 1) bt Gt (nI nt) sct ++ (wHis cy (o 3) rg x kk cs bs RG rn RS ++ (wTxt cy (o 4) ta tb C N (nI L) fl))))) s.heap.size q → A q := BF (cb := [wObj d0 o F, wCfg cy (o 0) bc G (nI n) sc, wCfg cy (o 1) bt Gt (nI nt) sct, wHis cy (o 3) rg x kk cs bs RG rn RS, wTxt cy (o 4) ta tb C N (nI L) fl]) hBD hS hA [0, 1, 2, 3, 5] rfl
  refine vx_calli (vx_runV (As := []) (rest := [.int 0, .ref oq]) ⟨hx, hb, hml, hown, hts⟩ (c_X4_proposeText l hst dC dI cy s.heap.size d0 o F bc G n hn sc bt Gt nt hnt sct rg x kk hx6 hkk cs bs RG rn RS ta tb C N fl L hL) (cwV 0 hts gL_proposeText_X4_proposeText rfl rfl rfl (by decide +kernel) ⟨Nat.le_of_ble_eq_true rfl, Nat.le_of_ble_eq_true rfl⟩) ⟨bl_X, va_recv hK hPc (ci := 4) (q0 := 0) rfl rfl, pr_X hPc hE hDc hX hZ hS hFc⟩ rfl rfl hl.1 rfl (lv_room (Nat.le_of_ble_eq_true rfl)) dL_proposeText_3 ⟨Nat.le_of_ble_eq_true rfl, Nat.le_of_ble_eq_true rfl⟩) hS (fun q _ h => hFc q h) hFc (fun q _ h => hFc q h) (fun E ce q9 u t H1 locs ht hvm hpx hBX hz1 hk1 hS hce hcv hcl => ?_) (fun r u t H1 locs ht hvm hw hB9 hz1 hk1 hS => ?_)
  · obtain ⟨N1, rfl⟩ : ∃ N1, N1 = u := ⟨_, rfl⟩
    obtain ⟨hBX, hPX⟩ := hBX
    obtain ⟨hP1, hD1⟩ := hPX
    rw [ht] at hP1
    obtain ⟨hBn, hDn⟩ := BJ (cb := [wObj d0 o F, wCfg cy (o 0) bc G (nI n) sc, wCfg cy (o 1) bt Gt (nI nt) sct, wHis cy (o 3) rg x kk cs bs RG rn RS, wTxt cy (o 4) ta tb C N (nI L) fl]) (rb := [wCfg cy (o 2) bv Gv (nI nv9) scv, wSim (o 5) z M, wCfg cy (z 0) bq Gz (nI nz) scz, wArr cy z rt Q T, oL cy oq y]) (nb := [wObj d0 o F, wCfg cy (o 0) bc G (nI n) sc, wCfg cy (o 1) bt Gt (nI nt) sct, wHis cy (o 3) rg x kk cs bs RG rn RS, wTxt cy (o 4) ta tb C N1 (nI 0) (flt C L)]) hB hBD [0, 1, 2, 3, 5] [4, 6, 7, 8, 9] rfl rfl (by decide) (by decide) hk1 hFc hP1 hD1
    have hP : va_P (dC, dI) vwCl (wK cy (d0, o, bc, bt, bv, rg, cs, bs, ta, tb, z, bq, rt) ((F, (G, n, sc), (Gt, nt, sct), (x, kk, RG, rn, RS)), (Gv, nv9, scv), (C, N1, 0, flt C L), (M, (Gz, nz, scz), Q, T)) ++ oL cy oq y) H1 := wKo_P.mpr (hBn.sub (bs' := [wObj d0 o F, wCfg cy (o 0) bc G (nI n) sc, wCfg cy (o 1) bt Gt (nI nt) sct, wHis cy (o 3) rg x kk cs bs RG rn RS, wCfg cy (o 2) bv Gv (nI nv9) scv, wTxt cy (o 4) ta tb C N1 (nI 0) (flt C L), wSim (o 5) z M, wCfg cy (z 0) bq Gz (nI nz) scz, wArr cy z rt Q T, oL cy oq y]) [5, 6, 7, 8, 0, 9, 1, 2, 3, 4] rfl)
    have hD : va_D A (wK cy (d0, o, bc, bt, bv, rg, cs, bs, ta, tb, z, bq, rt) ((F, (G, n, sc), (Gt, nt, sct), (x, kk, RG, rn, RS)), (Gv, nv9, scv), (C, N1, 0, flt C L), (M, (Gz, nz, scz), Q, T)) ++ oL cy oq y) := wKo_D.mpr (hDn.sub (bs' := [wObj d0 o F, wCfg cy (o 0) bc G (nI n) sc, wCfg cy (o 1) bt Gt (nI nt) sct, wHis cy (o 3) rg x kk cs bs RG rn RS, wCfg cy (o 2) bv Gv (nI nv9) scv, wTxt cy (o 4) ta tb C N1 (nI 0) (flt C L), wSim (o 5) z M, wCfg cy (z 0) bq Gz (nI nz) scz, wArr cy z rt Q T, oL cy oq y]) [5, 6, 7, 8, 0, 9, 1, 2, 3, 4] (by decide) rfl)
    rcases hBX with ⟨rfl, hc9⟩ | ⟨hf9, ⟨rfl, hc9⟩ | ⟨rfl, hc9⟩⟩
    · refine vx_catch (name := "java/lang/IllegalArgumentException") hown [] ⟨0, 8, 11, 13⟩ [⟨0, 8, 14, 15⟩] (htb.trans rfl) (fun z hz => by simp at hz) (by decide) (by decide) (hts (.classLink RL 13 "java/lang/IllegalArgumentException") (by decide +kernel)) (va_Nw.use rfl (hX.c 0 rfl)) hce hcv hcl ?_
      refine lv_astore_n (lv' := (2, .ref q9) :: [(0, .ref d0), (1, .ref oq)]) hx hb dL_proposeText_11 rfl hl (by decide) rfl (fun ls hl => ?_)
      refine lv_iconst (v := 1) hx hb dL_proposeText_12 (by decide) ?_
      exact W.iret (v := 1) hx hb hr (fun t ht hW => ⟨⟨1, (((F, (G, n, sc), (Gt, nt, sct), (x, kk, RG, rn, RS)), (Gv, nv9, scv), (C, N1, 0, flt C L), (M, (Gz, nz, scz), Q, T)), y), rfl, Or.inr ⟨by decide, ⟨N1, Or.inl ⟨rfl, hc9⟩, rfl⟩⟩, by rw [ht]; exact hP, hD⟩, hS.F ht⟩) hS.2.2 dL_proposeText_13
    · refine vx_catch (name := "java/lang/IllegalArgumentException") hown [] ⟨0, 8, 11, 13⟩ [⟨0, 8, 14, 15⟩] (htb.trans rfl) (fun z hz => by simp at hz) (by decide) (by decide) (hts (.classLink RL 13 "java/lang/IllegalArgumentException") (by decide +kernel)) (va_Nw.use rfl (hX.c 0 rfl)) hce hcv hcl ?_
      refine lv_astore_n (lv' := (2, .ref q9) :: [(0, .ref d0), (1, .ref oq)]) hx hb dL_proposeText_11 rfl hl (by decide) rfl (fun ls hl => ?_)
      refine lv_iconst (v := 1) hx hb dL_proposeText_12 (by decide) ?_
      exact W.iret (v := 1) hx hb hr (fun t ht hW => ⟨⟨1, (((F, (G, n, sc), (Gt, nt, sct), (x, kk, RG, rn, RS)), (Gv, nv9, scv), (C, N1, 0, flt C L), (M, (Gz, nz, scz), Q, T)), y), rfl, Or.inr ⟨by decide, ⟨N1, Or.inr ⟨hf9, hc9.symm⟩, rfl⟩⟩, by rw [ht]; exact hP, hD⟩, hS.F ht⟩) hS.2.2 dL_proposeText_13
    · refine vx_catch (name := "java/lang/IllegalStateException") hown [⟨0, 8, 11, 13⟩] ⟨0, 8, 14, 15⟩ [] (htb.trans rfl) (List.forall_mem_cons.mpr ⟨Or.inr ⟨by decide, _, hts (.classLink RL 13 "java/lang/IllegalArgumentException") (by decide +kernel), hV.n 4 rfl⟩, fun z hz => by simp at hz⟩) (by decide) (by decide) (hts (.classLink RL 15 "java/lang/IllegalStateException") (by decide +kernel)) (va_Nw.use rfl (hX.c 1 rfl)) hce hcv hcl ?_
      refine lv_astore_n (lv' := (2, .ref q9) :: [(0, .ref d0), (1, .ref oq)]) hx hb dL_proposeText_14 rfl hl (by decide) rfl (fun ls hl => ?_)
      refine lv_iconst (v := 2) hx hb dL_proposeText_15 (by decide) ?_
      exact W.iret (v := 2) hx hb hr (fun t ht hW => ⟨⟨2, (((F, (G, n, sc), (Gt, nt, sct), (x, kk, RG, rn, RS)), (Gv, nv9, scv), (C, N1, 0, flt C L), (M, (Gz, nz, scz), Q, T)), y), rfl, Or.inr ⟨by decide, ⟨N1, Or.inr ⟨hf9, hc9.symm⟩, rfl⟩⟩, by rw [ht]; exact hP, hD⟩, hS.F ht⟩) hS.2.2 dL_proposeText_16
  obtain ⟨⟨F1, ⟨G1, n1, sc1⟩, ⟨Gt1, nt1, sct1⟩, x1, kk1, RG1, rn1, RS1⟩, N1⟩ := u
  obtain ⟨hP1, hD1⟩ := hB9
  rw [ht] at hP1
  obtain ⟨hBn, hDn⟩ := BJ (cb := [wObj d0 o F, wCfg cy (o 0) bc G (nI n) sc, wCfg cy (o 1) bt Gt (nI nt) sct, wHis cy (o 3) rg x kk cs bs RG rn RS, wTxt cy (o 4) ta tb C N (nI L) fl]) (rb := [wCfg cy (o 2) bv Gv (nI nv9) scv, wSim (o 5) z M, wCfg cy (z 0) bq Gz (nI nz) scz, wArr cy z rt Q T, oL cy oq y]) (nb := [wObj d0 o F1, wCfg cy (o 0) bc G1 (nI n1) sc1, wCfg cy (o 1) bt Gt1 (nI nt1) sct1, wHis cy (o 3) rg x1 kk1 cs bs RG1 rn1 RS1, wTxt cy (o 4) ta tb C N1 (nI 0) (flt C L)]) hB hBD [0, 1, 2, 3, 5] [4, 6, 7, 8, 9] rfl rfl (by decide) (by decide) hk1 hFc hP1 hD1
  have hP : va_P (dC, dI) vwCl (wK cy (d0, o, bc, bt, bv, rg, cs, bs, ta, tb, z, bq, rt) ((F1, (G1, n1, sc1), (Gt1, nt1, sct1), (x1, kk1, RG1, rn1, RS1)), (Gv, nv9, scv), (C, N1, 0, flt C L), (M, (Gz, nz, scz), Q, T)) ++ oL cy oq y) H1 := wKo_P.mpr (hBn.sub (bs' := [wObj d0 o F1, wCfg cy (o 0) bc G1 (nI n1) sc1, wCfg cy (o 1) bt Gt1 (nI nt1) sct1, wHis cy (o 3) rg x1 kk1 cs bs RG1 rn1 RS1, wCfg cy (o 2) bv Gv (nI nv9) scv, wTxt cy (o 4) ta tb C N1 (nI 0) (flt C L), wSim (o 5) z M, wCfg cy (z 0) bq Gz (nI nz) scz, wArr cy z rt Q T, oL cy oq y]) [5, 6, 7, 8, 0, 9, 1, 2, 3, 4] rfl)
  have hD : va_D A (wK cy (d0, o, bc, bt, bv, rg, cs, bs, ta, tb, z, bq, rt) ((F1, (G1, n1, sc1), (Gt1, nt1, sct1), (x1, kk1, RG1, rn1, RS1)), (Gv, nv9, scv), (C, N1, 0, flt C L), (M, (Gz, nz, scz), Q, T)) ++ oL cy oq y) := wKo_D.mpr (hDn.sub (bs' := [wObj d0 o F1, wCfg cy (o 0) bc G1 (nI n1) sc1, wCfg cy (o 1) bt Gt1 (nI nt1) sct1, wHis cy (o 3) rg x1 kk1 cs bs RG1 rn1 RS1, wCfg cy (o 2) bv Gv (nI nv9) scv, wTxt cy (o 4) ta tb C N1 (nI 0) (flt C L), wSim (o 5) z M, wCfg cy (z 0) bq Gz (nI nz) scz, wArr cy z rt Q T, oL cy oq y]) [5, 6, 7, 8, 0, 9, 1, 2, 3, 4] (by decide) rfl)
  clear hz1 hk1
  generalize H1 = H at hP hS ⊢
  refine lv_i2l hx hb dL_proposeText_6 rfl ?_
  refine vn_last hx hb hK hP hD hS 3 rfl dL_proposeText_7 (fun H locs hP hD hS => ?_)
  refine lv_goto (tgt := 17) hx hb dL_proposeText_8 (by decide) ?_
  refine lv_iconst (v := 0) hx hb dL_proposeText_17 (by decide) ?_
  exact W.iret (v := 0) hx hb hr (fun t ht hW => ⟨⟨0, (((F1, (G1, n1, sc1), (Gt1, nt1, sct1), (x1, kk1, RG1, rn1, RS1)), (Gv, nv9, scv), (C, N1, 0, flt C L), (M, (Gz, nz, scz), Q, T)), _), rfl, Or.inl ⟨rfl, r, ⟨(F1, (G1, n1, sc1), (Gt1, nt1, sct1), (x1, kk1, RG1, rn1, RS1)), N1, hw.1, hw.2, rfl⟩, rfl⟩, by rw [ht]; exact hP, hD⟩, hS.F ht⟩) hS.2.2 dL_proposeText_18
set_option maxHeartbeats 1000000 in
set_option maxRecDepth 100000 in
/-- the law's appendCharacter -/
theorem c_L_appendCharacter (l : Launch) (hst : l.stackTraces = false) (dC : Nat → ClassId) (dI : Nat → Nat → Nat) (cy : Nat → ClassId) (sz : Nat) (d0 : Nat) (o bc bt bv : Nat → Nat) (rg : Nat) (cs : Nat → Nat) (bs : Nat → Nat → Nat) (ta tb : Nat) (z bq rt : Nat → Nat) (F : Nat → Int32) (G : vG) (n : Nat) (sc : Int32) (Gt : vG) (nt : Nat) (sct : Int32) (x kk : Nat) (RG : Nat → vG) (rn : Nat → Nat) (RS : Nat → Int32) (Gv : vG) (nv9 : Nat) (scv : Int32) (C N : Nat → Int32) (L : Nat) (fl : Int32) (M : Nat → Int32) (Gz : vG) (nz : Nat) (scz : Int32) (Q T : vG) (hk : KOk ((F, (G, n, sc), (Gt, nt, sct), (x, kk, RG, rn, RS)), (Gv, nv9, scv), (C, N, L, fl), (M, (Gz, nz, scz), Q, T))) (oq : Nat) (y : Int64) (p0 : Int32) : metL l yL_appendCharacter wsL_appendCharacter ({ frames := 7, cells := 1, slots := 6, locals := 103 }) [.ref d0, .int p0, .ref oq] dC dI cy (d0, o, bc, bt, bv, rg, cs, bs, ta, tb, z, bq, rt) oq sz ((F, (G, n, sc), (Gt, nt, sct), (x, kk, RG, rn, RS)), (Gv, nv9, scv), (C, N, L, fl), (M, (Gz, nz, scz), Q, T)) y (wrL ((F, (G, n, sc), (Gt, nt, sct), (x, kk, RG, rn, RS)), (Gv, nv9, scv), (C, N, L, fl), (M, (Gz, nz, scz), Q, T)) (fun v u => cApp L p0 = 0 ∧ v = nI (L + 1) ∧ u = ((F, (G, n, sc), (Gt, nt, sct), (x, kk, RG, rn, RS)), (Gv, nv9, scv), (upd C L p0, N, L + 1, fl), (M, (Gz, nz, scz), Q, T))) (fun r u => r = cApp L p0 ∧ u = ((F, (G, n, sc), (Gt, nt, sct), (x, kk, RG, rn, RS)), (Gv, nv9, scv), (C, N, L, fl), (M, (Gz, nz, scz), Q, T)))) 1 6 := by
  unfold metL
  refine vn_ofH (cc := cL_appendCharacter) (maxL := 4) (ret := some .int) (hh := [(0, 9, 12, 13), (0, 9, 15, 15)]) (by decide) rfl ?_
  intro p e s m args below meth c s₁ B hml hv
  obtain ⟨rfl, hsz, hP, hE, hD0, hX, hZ, hV⟩ := hv
  have hK := hE.1
  subst hsz
  have hD := hD0.self (sz := s.heap.size)
  generalize hAe : va_A (wK cy (d0, o, bc, bt, bv, rg, cs, bs, ta, tb, z, bq, rt) ((F, (G, n, sc), (Gt, nt, sct), (x, kk, RG, rn, RS)), (Gv, nv9, scv), (C, N, L, fl), (M, (Gz, nz, scz), Q, T)) ++ oL cy oq y) s.heap.size = A at hD hZ ⊢
  have hA : ∀ q : Nat, s.heap.size ≤ q → A q := fun q h => by rw [← hAe]; exact Or.inr h
  have hS : va_S A s.heap s.heap [] := va_S.rf
  obtain ⟨hn, hnt, hx6, hkk, hrn, hnv, hL, hnz, hG, hsc, hd0, hd1, hGR⟩ := hk
  have hB : BP (dC, dI) vwCl [wObj d0 o F, wCfg cy (o 0) bc G (nI n) sc, wCfg cy (o 1) bt Gt (nI nt) sct, wHis cy (o 3) rg x kk cs bs RG rn RS, wCfg cy (o 2) bv Gv (nI nv9) scv, wTxt cy (o 4) ta tb C N (nI L) fl, wSim (o 5) z M, wCfg cy (z 0) bq Gz (nI nz) scz, wArr cy z rt Q T, oL cy oq y] s.heap := wKo_P.mp hP
  have hBD : BD A [wObj d0 o F, wCfg cy (o 0) bc G (nI n) sc, wCfg cy (o 1) bt Gt (nI nt) sct, wHis cy (o 3) rg x kk cs bs RG rn RS, wCfg cy (o 2) bv Gv (nI nv9) scv, wTxt cy (o 4) ta tb C N (nI L) fl, wSim (o 5) z M, wCfg cy (z 0) bq Gz (nI nz) scz, wArr cy z rt Q T, oL cy oq y] := wKo_D.mp hD
  have hx := B.exec
  have hb := B.bytes
  have hr := B.returns
  have hts := atoms_spec (ws := wsL_appendCharacter) B.pre
  have hown : s.vm.findClass RL = some m.cls := findClass_of_methodNamed B.named
  have htb := vx_table (x := yL_appendCharacter) B (hts (.codeWith yL_appendCharacter cL_appendCharacter 4 (some .int) [(0, 9, 12, 13), (0, 9, 15, 15)]) (List.mem_of_getElem? (i := 0) rfl))
  have hl := lv_entry ([.ref d0, .int p0, .ref oq]) (n := 4) (Nat.le_of_ble_eq_true rfl)
  rw [lg_entry_eq]
  generalize (lg_sl ([.ref d0, .int p0, .ref oq]) ++ List.replicate (4 - (lg_sl ([.ref d0, .int p0, .ref oq])).length) Slot.unset).toArray = ls at hl ⊢
  have hl : lv_has ls 4 [(0, .ref d0), (1, .int p0), (2, .ref oq)] := hl
  refine lv_aload_n hx hb dL_appendCharacter_0 rfl (lv_at hl 2 rfl) ?_
  refine lv_iconst (v := 0) hx hb dL_appendCharacter_1 (by decide) ?_
  refine lv_aload_n hx hb dL_appendCharacter_2 rfl (lv_at hl 0 rfl) ?_
  refine lv_iload_n hx hb dL_appendCharacter_3 rfl (lv_at hl 1 rfl) ?_
  have hPc : va_P (dC, dI) vwCl (wObj d0 o F ++ (wTxt cy (o 4) ta tb C N (nI L) fl)) s.heap := gl_P.mpr (hB.sub (bs' := [wObj d0 o F, wTxt cy (o 4) ta tb C N (nI L) fl]) [0, 5] rfl)
  have hDc : va_D A (wObj d0 o F ++ (wTxt cy (o 4) ta tb C N (nI L) fl)) := gl_D.mpr (hBD.sub (bs' := [wObj d0 o F, wTxt cy (o 4) ta tb C N (nI L) fl]) [0, 5] (by decide) rfl)
  have hFc : ∀ q, va_A (wObj d0 o F ++ (wTxt cy (o 4) ta tb C N (nI L) fl)) s.heap.size q → A q := BF (cb := [wObj d0 o F, wTxt cy (o 4) ta tb C N (nI L) fl]) hBD hS hA [0, 5] rfl
  refine vx_calli (vx_runV (As := [.int p0]) (rest := [.int 0, .ref oq]) ⟨hx, hb, hml, hown, hts⟩ (c_X4_appendCharacter l hst dC dI cy s.heap.size d0 o F ta tb C N fl L hL p0) (cwV 1 hts gL_appendCharacter_X4_appendCharacter rfl rfl rfl (by decide +kernel) ⟨Nat.le_of_ble_eq_true rfl, Nat.le_of_ble_eq_true rfl⟩) ⟨bl_X, va_recv hK hPc (ci := 4) (q0 := 0) rfl rfl, pr_X hPc hE hDc hX hZ hS hFc⟩ rfl rfl hl.1 rfl (lv_room (Nat.le_of_ble_eq_true rfl)) dL_appendCharacter_4 ⟨Nat.le_of_ble_eq_true rfl, Nat.le_of_ble_eq_true rfl⟩) hS (fun q _ h => hFc q h) hFc (fun q _ h => hFc q h) (fun E ce q9 u t H1 locs ht hvm hpx hBX hz1 hk1 hS hce hcv hcl => ?_) (fun r u t H1 locs ht hvm hw hB9 hz1 hk1 hS => ?_)
  · obtain ⟨hBX, hPX⟩ := hBX
    obtain ⟨hP1, hD1⟩ := hPX
    rw [ht] at hP1
    obtain ⟨hBn, hDn⟩ := BJ (cb := [wObj d0 o F, wTxt cy (o 4) ta tb C N (nI L) fl]) (rb := [wCfg cy (o 0) bc G (nI n) sc, wCfg cy (o 1) bt Gt (nI nt) sct, wHis cy (o 3) rg x kk cs bs RG rn RS, wCfg cy (o 2) bv Gv (nI nv9) scv, wSim (o 5) z M, wCfg cy (z 0) bq Gz (nI nz) scz, wArr cy z rt Q T, oL cy oq y]) (nb := [wObj d0 o F, wTxt cy (o 4) ta tb C N (nI L) fl]) hB hBD [0, 5] [1, 2, 3, 4, 6, 7, 8, 9] rfl rfl (by decide) (by decide) hk1 hFc hP1 hD1
    have hP : va_P (dC, dI) vwCl (wK cy (d0, o, bc, bt, bv, rg, cs, bs, ta, tb, z, bq, rt) ((F, (G, n, sc), (Gt, nt, sct), (x, kk, RG, rn, RS)), (Gv, nv9, scv), (C, N, L, fl), (M, (Gz, nz, scz), Q, T)) ++ oL cy oq y) H1 := wKo_P.mpr (hBn.sub (bs' := [wObj d0 o F, wCfg cy (o 0) bc G (nI n) sc, wCfg cy (o 1) bt Gt (nI nt) sct, wHis cy (o 3) rg x kk cs bs RG rn RS, wCfg cy (o 2) bv Gv (nI nv9) scv, wTxt cy (o 4) ta tb C N (nI L) fl, wSim (o 5) z M, wCfg cy (z 0) bq Gz (nI nz) scz, wArr cy z rt Q T, oL cy oq y]) [8, 0, 1, 2, 3, 9, 4, 5, 6, 7] rfl)
    have hD : va_D A (wK cy (d0, o, bc, bt, bv, rg, cs, bs, ta, tb, z, bq, rt) ((F, (G, n, sc), (Gt, nt, sct), (x, kk, RG, rn, RS)), (Gv, nv9, scv), (C, N, L, fl), (M, (Gz, nz, scz), Q, T)) ++ oL cy oq y) := wKo_D.mpr (hDn.sub (bs' := [wObj d0 o F, wCfg cy (o 0) bc G (nI n) sc, wCfg cy (o 1) bt Gt (nI nt) sct, wHis cy (o 3) rg x kk cs bs RG rn RS, wCfg cy (o 2) bv Gv (nI nv9) scv, wTxt cy (o 4) ta tb C N (nI L) fl, wSim (o 5) z M, wCfg cy (z 0) bq Gz (nI nz) scz, wArr cy z rt Q T, oL cy oq y]) [8, 0, 1, 2, 3, 9, 4, 5, 6, 7] (by decide) rfl)
    rcases hBX with ⟨rfl, hc9⟩ | ⟨rfl, hc9⟩
    · refine vx_catch (name := "java/lang/IllegalArgumentException") hown [] ⟨0, 9, 12, 13⟩ [⟨0, 9, 15, 15⟩] (htb.trans rfl) (fun z hz => by simp at hz) (by decide) (by decide) (hts (.classLink RL 13 "java/lang/IllegalArgumentException") (by decide +kernel)) (va_Nw.use rfl (hX.c 0 rfl)) hce hcv hcl ?_
      refine lv_astore_n (lv' := (3, .ref q9) :: [(0, .ref d0), (1, .int p0), (2, .ref oq)]) hx hb dL_appendCharacter_12 rfl hl (by decide) rfl (fun ls hl => ?_)
      refine lv_iconst (v := 1) hx hb dL_appendCharacter_13 (by decide) ?_
      exact W.iret (v := 1) hx hb hr (fun t ht hW => ⟨⟨1, (((F, (G, n, sc), (Gt, nt, sct), (x, kk, RG, rn, RS)), (Gv, nv9, scv), (C, N, L, fl), (M, (Gz, nz, scz), Q, T)), y), rfl, Or.inr ⟨by decide, ⟨hc9.symm, rfl⟩⟩, by rw [ht]; exact hP, hD⟩, hS.F ht⟩) hS.2.2 dL_appendCharacter_14
    · refine vx_catch (name := "java/lang/IllegalStateException") hown [⟨0, 9, 12, 13⟩] ⟨0, 9, 15, 15⟩ [] (htb.trans rfl) (List.forall_mem_cons.mpr ⟨Or.inr ⟨by decide, _, hts (.classLink RL 13 "java/lang/IllegalArgumentException") (by decide +kernel), hV.n 4 rfl⟩, fun z hz => by simp at hz⟩) (by decide) (by decide) (hts (.classLink RL 15 "java/lang/IllegalStateException") (by decide +kernel)) (va_Nw.use rfl (hX.c 1 rfl)) hce hcv hcl ?_
      refine lv_astore_n (lv' := (3, .ref q9) :: [(0, .ref d0), (1, .int p0), (2, .ref oq)]) hx hb dL_appendCharacter_15 rfl hl (by decide) rfl (fun ls hl => ?_)
      refine lv_iconst (v := 2) hx hb dL_appendCharacter_16 (by decide) ?_
      exact W.iret (v := 2) hx hb hr (fun t ht hW => ⟨⟨2, (((F, (G, n, sc), (Gt, nt, sct), (x, kk, RG, rn, RS)), (Gv, nv9, scv), (C, N, L, fl), (M, (Gz, nz, scz), Q, T)), y), rfl, Or.inr ⟨by decide, ⟨hc9.symm, rfl⟩⟩, by rw [ht]; exact hP, hD⟩, hS.F ht⟩) hS.2.2 dL_appendCharacter_17
  obtain ⟨hP1, hD1⟩ := hB9
  rw [ht] at hP1
  obtain ⟨hBn, hDn⟩ := BJ (cb := [wObj d0 o F, wTxt cy (o 4) ta tb C N (nI L) fl]) (rb := [wCfg cy (o 0) bc G (nI n) sc, wCfg cy (o 1) bt Gt (nI nt) sct, wHis cy (o 3) rg x kk cs bs RG rn RS, wCfg cy (o 2) bv Gv (nI nv9) scv, wSim (o 5) z M, wCfg cy (z 0) bq Gz (nI nz) scz, wArr cy z rt Q T, oL cy oq y]) (nb := [wObj d0 o F, wTxt cy (o 4) ta tb (upd C L p0) N (nI (L + 1)) fl]) hB hBD [0, 5] [1, 2, 3, 4, 6, 7, 8, 9] rfl rfl (by decide) (by decide) hk1 hFc hP1 hD1
  have hP : va_P (dC, dI) vwCl (wK cy (d0, o, bc, bt, bv, rg, cs, bs, ta, tb, z, bq, rt) ((F, (G, n, sc), (Gt, nt, sct), (x, kk, RG, rn, RS)), (Gv, nv9, scv), (upd C L p0, N, L + 1, fl), (M, (Gz, nz, scz), Q, T)) ++ oL cy oq y) H1 := wKo_P.mpr (hBn.sub (bs' := [wObj d0 o F, wCfg cy (o 0) bc G (nI n) sc, wCfg cy (o 1) bt Gt (nI nt) sct, wHis cy (o 3) rg x kk cs bs RG rn RS, wCfg cy (o 2) bv Gv (nI nv9) scv, wTxt cy (o 4) ta tb (upd C L p0) N (nI (L + 1)) fl, wSim (o 5) z M, wCfg cy (z 0) bq Gz (nI nz) scz, wArr cy z rt Q T, oL cy oq y]) [8, 0, 1, 2, 3, 9, 4, 5, 6, 7] rfl)
  have hD : va_D A (wK cy (d0, o, bc, bt, bv, rg, cs, bs, ta, tb, z, bq, rt) ((F, (G, n, sc), (Gt, nt, sct), (x, kk, RG, rn, RS)), (Gv, nv9, scv), (upd C L p0, N, L + 1, fl), (M, (Gz, nz, scz), Q, T)) ++ oL cy oq y) := wKo_D.mpr (hDn.sub (bs' := [wObj d0 o F, wCfg cy (o 0) bc G (nI n) sc, wCfg cy (o 1) bt Gt (nI nt) sct, wHis cy (o 3) rg x kk cs bs RG rn RS, wCfg cy (o 2) bv Gv (nI nv9) scv, wTxt cy (o 4) ta tb (upd C L p0) N (nI (L + 1)) fl, wSim (o 5) z M, wCfg cy (z 0) bq Gz (nI nz) scz, wArr cy z rt Q T, oL cy oq y]) [8, 0, 1, 2, 3, 9, 4, 5, 6, 7] (by decide) rfl)
  clear hz1 hk1
  generalize H1 = H at hP hS ⊢
  refine lv_i2l hx hb dL_appendCharacter_7 rfl ?_
  refine vn_last hx hb hK hP hD hS 3 rfl dL_appendCharacter_8 (fun H locs hP hD hS => ?_)
  refine lv_goto (tgt := 18) hx hb dL_appendCharacter_9 (by decide) ?_
  refine lv_iconst (v := 0) hx hb dL_appendCharacter_18 (by decide) ?_
  exact W.iret (v := 0) hx hb hr (fun t ht hW => ⟨⟨0, (((F, (G, n, sc), (Gt, nt, sct), (x, kk, RG, rn, RS)), (Gv, nv9, scv), (upd C L p0, N, L + 1, fl), (M, (Gz, nz, scz), Q, T)), _), rfl, Or.inl ⟨rfl, r, ⟨hw.1, hw.2, rfl⟩, rfl⟩, by rw [ht]; exact hP, hD⟩, hS.F ht⟩) hS.2.2 dL_appendCharacter_19
set_option maxHeartbeats 1000000 in
set_option maxRecDepth 100000 in
/-- the law's withdraw -/
theorem c_L_withdraw (l : Launch) (hst : l.stackTraces = false) (dC : Nat → ClassId) (dI : Nat → Nat → Nat) (cy : Nat → ClassId) (sz : Nat) (d0 : Nat) (o bc bt bv : Nat → Nat) (rg : Nat) (cs : Nat → Nat) (bs : Nat → Nat → Nat) (ta tb : Nat) (z bq rt : Nat → Nat) (F : Nat → Int32) (G : vG) (n : Nat) (sc : Int32) (Gt : vG) (nt : Nat) (sct : Int32) (x kk : Nat) (RG : Nat → vG) (rn : Nat → Nat) (RS : Nat → Int32) (Gv : vG) (nv9 : Nat) (scv : Int32) (C N : Nat → Int32) (L : Nat) (fl : Int32) (M : Nat → Int32) (Gz : vG) (nz : Nat) (scz : Int32) (Q T : vG) (hk : KOk ((F, (G, n, sc), (Gt, nt, sct), (x, kk, RG, rn, RS)), (Gv, nv9, scv), (C, N, L, fl), (M, (Gz, nz, scz), Q, T))) (oq : Nat) (y : Int64) (p0 : Int32) : metL l yL_withdraw wsL_withdraw ({ frames := 8, cells := 1, slots := 6, locals := 141 }) [.ref d0, .int p0, .ref oq] dC dI cy (d0, o, bc, bt, bv, rg, cs, bs, ta, tb, z, bq, rt) oq sz ((F, (G, n, sc), (Gt, nt, sct), (x, kk, RG, rn, RS)), (Gv, nv9, scv), (C, N, L, fl), (M, (Gz, nz, scz), Q, T)) y (wrL ((F, (G, n, sc), (Gt, nt, sct), (x, kk, RG, rn, RS)), (Gv, nv9, scv), (C, N, L, fl), (M, (Gz, nz, scz), Q, T)) (fun v u => ∃ w, kWith F G n sc Gt x kk RG rn RS p0 v w ∧ u = (w, (Gv, nv9, scv), (C, N, L, fl), (M, (Gz, nz, scz), Q, T))) (fun r u => r = 1 ∧ cT n p0 = 1 ∧ u = ((F, (G, n, sc), (Gt, nt, sct), (x, kk, RG, rn, RS)), (Gv, nv9, scv), (C, N, L, fl), (M, (Gz, nz, scz), Q, T)))) 1 6 := by
  unfold metL
  refine vn_ofH (cc := cL_withdraw) (maxL := 4) (ret := some .int) (hh := [(0, 9, 12, 28)]) (by decide) rfl ?_
  intro p e s m args below meth c s₁ B hml hv
  obtain ⟨rfl, hsz, hP, hE, hD0, hX, hZ, hV⟩ := hv
  have hK := hE.1
  subst hsz
  have hD := hD0.self (sz := s.heap.size)
  generalize hAe : va_A (wK cy (d0, o, bc, bt, bv, rg, cs, bs, ta, tb, z, bq, rt) ((F, (G, n, sc), (Gt, nt, sct), (x, kk, RG, rn, RS)), (Gv, nv9, scv), (C, N, L, fl), (M, (Gz, nz, scz), Q, T)) ++ oL cy oq y) s.heap.size = A at hD hZ ⊢
  have hA : ∀ q : Nat, s.heap.size ≤ q → A q := fun q h => by rw [← hAe]; exact Or.inr h
  have hS : va_S A s.heap s.heap [] := va_S.rf
  obtain ⟨hn, hnt, hx6, hkk, hrn, hnv, hL, hnz, hG, hsc, hd0, hd1, hGR⟩ := hk
  have hB : BP (dC, dI) vwCl [wObj d0 o F, wCfg cy (o 0) bc G (nI n) sc, wCfg cy (o 1) bt Gt (nI nt) sct, wHis cy (o 3) rg x kk cs bs RG rn RS, wCfg cy (o 2) bv Gv (nI nv9) scv, wTxt cy (o 4) ta tb C N (nI L) fl, wSim (o 5) z M, wCfg cy (z 0) bq Gz (nI nz) scz, wArr cy z rt Q T, oL cy oq y] s.heap := wKo_P.mp hP
  have hBD : BD A [wObj d0 o F, wCfg cy (o 0) bc G (nI n) sc, wCfg cy (o 1) bt Gt (nI nt) sct, wHis cy (o 3) rg x kk cs bs RG rn RS, wCfg cy (o 2) bv Gv (nI nv9) scv, wTxt cy (o 4) ta tb C N (nI L) fl, wSim (o 5) z M, wCfg cy (z 0) bq Gz (nI nz) scz, wArr cy z rt Q T, oL cy oq y] := wKo_D.mp hD
  have hx := B.exec
  have hb := B.bytes
  have hr := B.returns
  have hts := atoms_spec (ws := wsL_withdraw) B.pre
  have hown : s.vm.findClass RL = some m.cls := findClass_of_methodNamed B.named
  have htb := vx_table (x := yL_withdraw) B (hts (.codeWith yL_withdraw cL_withdraw 4 (some .int) [(0, 9, 12, 28)]) (List.mem_of_getElem? (i := 0) rfl))
  have hl := lv_entry ([.ref d0, .int p0, .ref oq]) (n := 4) (Nat.le_of_ble_eq_true rfl)
  rw [lg_entry_eq]
  generalize (lg_sl ([.ref d0, .int p0, .ref oq]) ++ List.replicate (4 - (lg_sl ([.ref d0, .int p0, .ref oq])).length) Slot.unset).toArray = ls at hl ⊢
  have hl : lv_has ls 4 [(0, .ref d0), (1, .int p0), (2, .ref oq)] := hl
  refine lv_aload_n hx hb dL_withdraw_0 rfl (lv_at hl 2 rfl) ?_
  refine lv_iconst (v := 0) hx hb dL_withdraw_1 (by decide) ?_
  refine lv_aload_n hx hb dL_withdraw_2 rfl (lv_at hl 0 rfl) ?_
  refine lv_iload_n hx hb dL_withdraw_3 rfl (lv_at hl 1 rfl) ?_
  have hPc : va_P (dC, dI) vwCl (wObj d0 o F ++ (wCfg cy (o 0) bc G (nI n) sc ++ (wCfg cy (o 1) bt Gt (nI nt) sct ++ (wHis cy (o 3) rg x kk cs bs RG rn RS)))) s.heap := gl_P.mpr (hB.sub (bs' := [wObj d0 o F, wCfg cy (o 0) bc G (nI n) sc, wCfg cy (o 1) bt Gt (nI nt) sct, wHis cy (o 3) rg x kk cs bs RG rn RS]) [0, 1, 2, 3] rfl)
  have hDc : va_D A (wObj d0 o F ++ (wCfg cy (o 0) bc G (nI n) sc ++ (wCfg cy (o 1) bt Gt (nI nt) sct ++ (wHis cy (o 3) rg x kk cs bs RG rn RS)))) := gl_D.mpr (hBD.sub (bs' := [wObj d0 o F, wCfg cy (o 0) bc G (nI n) sc, wCfg cy (o 1) bt Gt (nI nt) sct, wHis cy (o 3) rg x kk cs bs RG rn RS]) [0, 1, 2, 3] (by decide) rfl)
  have hFc : ∀ q, va_A (wObj d0 o F ++ (wCfg cy (o 0) bc G (nI n) sc ++ (wCfg cy (o 1) bt Gt (nI nt) sct ++ (wHis cy (o 3) rg x kk cs bs RG rn RS)))) s.heap.size q → A q := BF (cb := [wObj d0 o F, wCfg cy (o 0) bc G (nI n) sc, wCfg cy (o 1) bt Gt (nI nt) sct, wHis cy (o 3) rg x kk cs bs RG rn RS]) hBD hS hA [0, 1, 2, 3] rfl
  refine vx_calli (vx_runV (As := [.int p0]) (rest := [.int 0, .ref oq]) ⟨hx, hb, hml, hown, hts⟩ (c_X4_withdraw l hst dC dI cy s.heap.size d0 o F bc G n hn sc bt Gt nt hnt sct rg x kk hx6 hkk cs bs RG rn RS p0) (cwV 1 hts gL_withdraw_X4_withdraw rfl rfl rfl (by decide +kernel) ⟨Nat.le_of_ble_eq_true rfl, Nat.le_of_ble_eq_true rfl⟩) ⟨bl_X, va_recv hK hPc (ci := 4) (q0 := 0) rfl rfl, pr_X hPc hE hDc hX hZ hS hFc⟩ rfl rfl hl.1 rfl (lv_room (Nat.le_of_ble_eq_true rfl)) dL_withdraw_4 ⟨Nat.le_of_ble_eq_true rfl, Nat.le_of_ble_eq_true rfl⟩) hS (fun q _ h => hFc q h) hFc (fun q _ h => hFc q h) (fun E ce q9 u t H1 locs ht hvm hpx hBX hz1 hk1 hS hce hcv hcl => ?_) (fun r u t H1 locs ht hvm hw hB9 hz1 hk1 hS => ?_)
  · obtain ⟨hBX, hPX⟩ := hBX
    obtain ⟨hP1, hD1⟩ := hPX
    rw [ht] at hP1
    obtain ⟨hBn, hDn⟩ := BJ (cb := [wObj d0 o F, wCfg cy (o 0) bc G (nI n) sc, wCfg cy (o 1) bt Gt (nI nt) sct, wHis cy (o 3) rg x kk cs bs RG rn RS]) (rb := [wCfg cy (o 2) bv Gv (nI nv9) scv, wTxt cy (o 4) ta tb C N (nI L) fl, wSim (o 5) z M, wCfg cy (z 0) bq Gz (nI nz) scz, wArr cy z rt Q T, oL cy oq y]) (nb := [wObj d0 o F, wCfg cy (o 0) bc G (nI n) sc, wCfg cy (o 1) bt Gt (nI nt) sct, wHis cy (o 3) rg x kk cs bs RG rn RS]) hB hBD [0, 1, 2, 3] [4, 5, 6, 7, 8, 9] rfl rfl (by decide) (by decide) hk1 hFc hP1 hD1
    have hP : va_P (dC, dI) vwCl (wK cy (d0, o, bc, bt, bv, rg, cs, bs, ta, tb, z, bq, rt) ((F, (G, n, sc), (Gt, nt, sct), (x, kk, RG, rn, RS)), (Gv, nv9, scv), (C, N, L, fl), (M, (Gz, nz, scz), Q, T)) ++ oL cy oq y) H1 := wKo_P.mpr (hBn.sub (bs' := [wObj d0 o F, wCfg cy (o 0) bc G (nI n) sc, wCfg cy (o 1) bt Gt (nI nt) sct, wHis cy (o 3) rg x kk cs bs RG rn RS, wCfg cy (o 2) bv Gv (nI nv9) scv, wTxt cy (o 4) ta tb C N (nI L) fl, wSim (o 5) z M, wCfg cy (z 0) bq Gz (nI nz) scz, wArr cy z rt Q T, oL cy oq y]) [6, 7, 8, 9, 0, 1, 2, 3, 4, 5] rfl)
    have hD : va_D A (wK cy (d0, o, bc, bt, bv, rg, cs, bs, ta, tb, z, bq, rt) ((F, (G, n, sc), (Gt, nt, sct), (x, kk, RG, rn, RS)), (Gv, nv9, scv), (C, N, L, fl), (M, (Gz, nz, scz), Q, T)) ++ oL cy oq y) := wKo_D.mpr (hDn.sub (bs' := [wObj d0 o F, wCfg cy (o 0) bc G (nI n) sc, wCfg cy (o 1) bt Gt (nI nt) sct, wHis cy (o 3) rg x kk cs bs RG rn RS, wCfg cy (o 2) bv Gv (nI nv9) scv, wTxt cy (o 4) ta tb C N (nI L) fl, wSim (o 5) z M, wCfg cy (z 0) bq Gz (nI nz) scz, wArr cy z rt Q T, oL cy oq y]) [6, 7, 8, 9, 0, 1, 2, 3, 4, 5] (by decide) rfl)
    obtain ⟨rfl, hc9⟩ := hBX
    refine vx_catch (name := "java/lang/IndexOutOfBoundsException") hown [] ⟨0, 9, 12, 28⟩ [] (htb.trans rfl) (fun z hz => by simp at hz) (by decide) (by decide) (hts (.classLink RL 28 "java/lang/IndexOutOfBoundsException") (by decide +kernel)) (va_Nw.use rfl (hX.c 2 rfl)) hce hcv hcl ?_
    refine lv_astore_n (lv' := (3, .ref q9) :: [(0, .ref d0), (1, .int p0), (2, .ref oq)]) hx hb dL_withdraw_12 rfl hl (by decide) rfl (fun ls hl => ?_)
    refine lv_iconst (v := 1) hx hb dL_withdraw_13 (by decide) ?_
    exact W.iret (v := 1) hx hb hr (fun t ht hW => ⟨⟨1, (((F, (G, n, sc), (Gt, nt, sct), (x, kk, RG, rn, RS)), (Gv, nv9, scv), (C, N, L, fl), (M, (Gz, nz, scz), Q, T)), y), rfl, Or.inr ⟨by decide, ⟨rfl, hc9, rfl⟩⟩, by rw [ht]; exact hP, hD⟩, hS.F ht⟩) hS.2.2 dL_withdraw_14
  obtain ⟨F1, ⟨G1, n1, sc1⟩, ⟨Gt1, nt1, sct1⟩, x1, kk1, RG1, rn1, RS1⟩ := u
  obtain ⟨hP1, hD1⟩ := hB9
  rw [ht] at hP1
  obtain ⟨hBn, hDn⟩ := BJ (cb := [wObj d0 o F, wCfg cy (o 0) bc G (nI n) sc, wCfg cy (o 1) bt Gt (nI nt) sct, wHis cy (o 3) rg x kk cs bs RG rn RS]) (rb := [wCfg cy (o 2) bv Gv (nI nv9) scv, wTxt cy (o 4) ta tb C N (nI L) fl, wSim (o 5) z M, wCfg cy (z 0) bq Gz (nI nz) scz, wArr cy z rt Q T, oL cy oq y]) (nb := [wObj d0 o F1, wCfg cy (o 0) bc G1 (nI n1) sc1, wCfg cy (o 1) bt Gt1 (nI nt1) sct1, wHis cy (o 3) rg x1 kk1 cs bs RG1 rn1 RS1]) hB hBD [0, 1, 2, 3] [4, 5, 6, 7, 8, 9] rfl rfl (by decide) (by decide) hk1 hFc hP1 hD1
  have hP : va_P (dC, dI) vwCl (wK cy (d0, o, bc, bt, bv, rg, cs, bs, ta, tb, z, bq, rt) ((F1, (G1, n1, sc1), (Gt1, nt1, sct1), (x1, kk1, RG1, rn1, RS1)), (Gv, nv9, scv), (C, N, L, fl), (M, (Gz, nz, scz), Q, T)) ++ oL cy oq y) H1 := wKo_P.mpr (hBn.sub (bs' := [wObj d0 o F1, wCfg cy (o 0) bc G1 (nI n1) sc1, wCfg cy (o 1) bt Gt1 (nI nt1) sct1, wHis cy (o 3) rg x1 kk1 cs bs RG1 rn1 RS1, wCfg cy (o 2) bv Gv (nI nv9) scv, wTxt cy (o 4) ta tb C N (nI L) fl, wSim (o 5) z M, wCfg cy (z 0) bq Gz (nI nz) scz, wArr cy z rt Q T, oL cy oq y]) [6, 7, 8, 9, 0, 1, 2, 3, 4, 5] rfl)
  have hD : va_D A (wK cy (d0, o, bc, bt, bv, rg, cs, bs, ta, tb, z, bq, rt) ((F1, (G1, n1, sc1), (Gt1, nt1, sct1), (x1, kk1, RG1, rn1, RS1)), (Gv, nv9, scv), (C, N, L, fl), (M, (Gz, nz, scz), Q, T)) ++ oL cy oq y) := wKo_D.mpr (hDn.sub (bs' := [wObj d0 o F1, wCfg cy (o 0) bc G1 (nI n1) sc1, wCfg cy (o 1) bt Gt1 (nI nt1) sct1, wHis cy (o 3) rg x1 kk1 cs bs RG1 rn1 RS1, wCfg cy (o 2) bv Gv (nI nv9) scv, wTxt cy (o 4) ta tb C N (nI L) fl, wSim (o 5) z M, wCfg cy (z 0) bq Gz (nI nz) scz, wArr cy z rt Q T, oL cy oq y]) [6, 7, 8, 9, 0, 1, 2, 3, 4, 5] (by decide) rfl)
  clear hz1 hk1
  generalize H1 = H at hP hS ⊢
  refine lv_i2l hx hb dL_withdraw_7 rfl ?_
  refine vn_last hx hb hK hP hD hS 3 rfl dL_withdraw_8 (fun H locs hP hD hS => ?_)
  refine lv_goto (tgt := 15) hx hb dL_withdraw_9 (by decide) ?_
  refine lv_iconst (v := 0) hx hb dL_withdraw_15 (by decide) ?_
  exact W.iret (v := 0) hx hb hr (fun t ht hW => ⟨⟨0, (((F1, (G1, n1, sc1), (Gt1, nt1, sct1), (x1, kk1, RG1, rn1, RS1)), (Gv, nv9, scv), (C, N, L, fl), (M, (Gz, nz, scz), Q, T)), _), rfl, Or.inl ⟨rfl, r, ⟨(F1, (G1, n1, sc1), (Gt1, nt1, sct1), (x1, kk1, RG1, rn1, RS1)), hw, rfl⟩, rfl⟩, by rw [ht]; exact hP, hD⟩, hS.F ht⟩) hS.2.2 dL_withdraw_16
set_option maxHeartbeats 1000000 in
set_option maxRecDepth 100000 in
/-- the law's setLevel -/
theorem c_L_setLevel (l : Launch) (hst : l.stackTraces = false) (dC : Nat → ClassId) (dI : Nat → Nat → Nat) (cy : Nat → ClassId) (sz : Nat) (d0 : Nat) (o bc bt bv : Nat → Nat) (rg : Nat) (cs : Nat → Nat) (bs : Nat → Nat → Nat) (ta tb : Nat) (z bq rt : Nat → Nat) (F : Nat → Int32) (G : vG) (n : Nat) (sc : Int32) (Gt : vG) (nt : Nat) (sct : Int32) (x kk : Nat) (RG : Nat → vG) (rn : Nat → Nat) (RS : Nat → Int32) (Gv : vG) (nv9 : Nat) (scv : Int32) (C N : Nat → Int32) (L : Nat) (fl : Int32) (M : Nat → Int32) (Gz : vG) (nz : Nat) (scz : Int32) (Q T : vG) (hk : KOk ((F, (G, n, sc), (Gt, nt, sct), (x, kk, RG, rn, RS)), (Gv, nv9, scv), (C, N, L, fl), (M, (Gz, nz, scz), Q, T))) (oq : Nat) (y : Int64) (p0 p1 : Int32) : metL l yL_setLevel wsL_setLevel ({ frames := 8, cells := 2, slots := 12, locals := 143 }) [.ref d0, .int p0, .int p1, .ref oq] dC dI cy (d0, o, bc, bt, bv, rg, cs, bs, ta, tb, z, bq, rt) oq sz ((F, (G, n, sc), (Gt, nt, sct), (x, kk, RG, rn, RS)), (Gv, nv9, scv), (C, N, L, fl), (M, (Gz, nz, scz), Q, T)) y (wrL ((F, (G, n, sc), (Gt, nt, sct), (x, kk, RG, rn, RS)), (Gv, nv9, scv), (C, N, L, fl), (M, (Gz, nz, scz), Q, T)) (fun v u => ∃ w, kSetL F G n sc Gt x kk RG rn RS p0 p1 v w ∧ u = (w, (Gv, nv9, scv), (C, N, L, fl), (M, (Gz, nz, scz), Q, T))) (fun r u => ∃ (Gt1 : vG) (nt1 : Nat) (sct1 : Int32), nt1 ≤ 8 ∧ ((r = 1 ∧ cT n p0 = 1) ∨ (r = 2 ∧ ∃ i, i < n ∧ p0 = nI i ∧ ¬ inr p1 0 (G 5 i)) ∨ (r = 3 ∧ ∃ i, i < n ∧ p0 = nI i ∧ inr p1 0 (G 5 i) ∧ gscale (up2 (cpG Gt G n) 6 i p1) n = 0)) ∧ u = ((F, (G, n, sc), (Gt1, nt1, sct1), (x, kk, RG, rn, RS)), (Gv, nv9, scv), (C, N, L, fl), (M, (Gz, nz, scz), Q, T)))) 2 12 := by
  unfold metL
  refine vn_ofH (cc := cL_setLevel) (maxL := 5) (ret := some .int) (hh := [(0, 10, 13, 28), (0, 10, 17, 13), (0, 10, 21, 15)]) (by decide) rfl ?_
  intro p e s m args below meth c s₁ B hml hv
  obtain ⟨rfl, hsz, hP, hE, hD0, hX, hZ, hV⟩ := hv
  have hK := hE.1
  subst hsz
  have hD := hD0.self (sz := s.heap.size)
  generalize hAe : va_A (wK cy (d0, o, bc, bt, bv, rg, cs, bs, ta, tb, z, bq, rt) ((F, (G, n, sc), (Gt, nt, sct), (x, kk, RG, rn, RS)), (Gv, nv9, scv), (C, N, L, fl), (M, (Gz, nz, scz), Q, T)) ++ oL cy oq y) s.heap.size = A at hD hZ ⊢
  have hA : ∀ q : Nat, s.heap.size ≤ q → A q := fun q h => by rw [← hAe]; exact Or.inr h
  have hS : va_S A s.heap s.heap [] := va_S.rf
  obtain ⟨hn, hnt, hx6, hkk, hrn, hnv, hL, hnz, hG, hsc, hd0, hd1, hGR⟩ := hk
  have hB : BP (dC, dI) vwCl [wObj d0 o F, wCfg cy (o 0) bc G (nI n) sc, wCfg cy (o 1) bt Gt (nI nt) sct, wHis cy (o 3) rg x kk cs bs RG rn RS, wCfg cy (o 2) bv Gv (nI nv9) scv, wTxt cy (o 4) ta tb C N (nI L) fl, wSim (o 5) z M, wCfg cy (z 0) bq Gz (nI nz) scz, wArr cy z rt Q T, oL cy oq y] s.heap := wKo_P.mp hP
  have hBD : BD A [wObj d0 o F, wCfg cy (o 0) bc G (nI n) sc, wCfg cy (o 1) bt Gt (nI nt) sct, wHis cy (o 3) rg x kk cs bs RG rn RS, wCfg cy (o 2) bv Gv (nI nv9) scv, wTxt cy (o 4) ta tb C N (nI L) fl, wSim (o 5) z M, wCfg cy (z 0) bq Gz (nI nz) scz, wArr cy z rt Q T, oL cy oq y] := wKo_D.mp hD
  have hx := B.exec
  have hb := B.bytes
  have hr := B.returns
  have hts := atoms_spec (ws := wsL_setLevel) B.pre
  have hown : s.vm.findClass RL = some m.cls := findClass_of_methodNamed B.named
  have htb := vx_table (x := yL_setLevel) B (hts (.codeWith yL_setLevel cL_setLevel 5 (some .int) [(0, 10, 13, 28), (0, 10, 17, 13), (0, 10, 21, 15)]) (List.mem_of_getElem? (i := 0) rfl))
  have hl := lv_entry ([.ref d0, .int p0, .int p1, .ref oq]) (n := 5) (Nat.le_of_ble_eq_true rfl)
  rw [lg_entry_eq]
  generalize (lg_sl ([.ref d0, .int p0, .int p1, .ref oq]) ++ List.replicate (5 - (lg_sl ([.ref d0, .int p0, .int p1, .ref oq])).length) Slot.unset).toArray = ls at hl ⊢
  have hl : lv_has ls 5 [(0, .ref d0), (1, .int p0), (2, .int p1), (3, .ref oq)] := hl
  refine lv_aload_n hx hb dL_setLevel_0 rfl (lv_at hl 3 rfl) ?_
  refine lv_iconst (v := 0) hx hb dL_setLevel_1 (by decide) ?_
  refine lv_aload_n hx hb dL_setLevel_2 rfl (lv_at hl 0 rfl) ?_
  refine lv_iload_n hx hb dL_setLevel_3 rfl (lv_at hl 1 rfl) ?_
  refine lv_iload_n hx hb dL_setLevel_4 rfl (lv_at hl 2 rfl) ?_
  have hPc : va_P (dC, dI) vwCl (wObj d0 o F ++ (wCfg cy (o 0) bc G (nI n) sc ++ (wCfg cy (o 1) bt Gt (nI nt) sct ++ (wHis cy (o 3) rg x kk cs bs RG rn RS)))) s.heap := gl_P.mpr (hB.sub (bs' := [wObj d0 o F, wCfg cy (o 0) bc G (nI n) sc, wCfg cy (o 1) bt Gt (nI nt) sct, wHis cy (o 3) rg x kk cs bs RG rn RS]) [0, 1, 2, 3] rfl)
  have hDc : va_D A (wObj d0 o F ++ (wCfg cy (o 0) bc G (nI n) sc ++ (wCfg cy (o 1) bt Gt (nI nt) sct ++ (wHis cy (o 3) rg x kk cs bs RG rn RS)))) := gl_D.mpr (hBD.sub (bs' := [wObj d0 o F, wCfg cy (o 0) bc G (nI n) sc, wCfg cy (o 1) bt Gt (nI nt) sct, wHis cy (o 3) rg x kk cs bs RG rn RS]) [0, 1, 2, 3] (by decide) rfl)
  have hFc : ∀ q, va_A (wObj d0 o F ++ (wCfg cy (o 0) bc G (nI n) sc ++ (wCfg cy (o 1) bt Gt (nI nt) sct ++ (wHis cy (o 3) rg x kk cs bs RG rn RS)))) s.heap.size q → A q := BF (cb := [wObj d0 o F, wCfg cy (o 0) bc G (nI n) sc, wCfg cy (o 1) bt Gt (nI nt) sct, wHis cy (o 3) rg x kk cs bs RG rn RS]) hBD hS hA [0, 1, 2, 3] rfl
  refine vx_calli (vx_runV (As := [.int p0, .int p1]) (rest := [.int 0, .ref oq]) ⟨hx, hb, hml, hown, hts⟩ (c_X4_setLevel l hst dC dI cy s.heap.size d0 o F bc G n hn sc bt Gt nt hnt sct rg x kk hx6 hkk cs bs RG rn RS p0 p1) (cwV 2 hts gL_setLevel_X4_setLevel rfl rfl rfl (by decide +kernel) ⟨Nat.le_of_ble_eq_true rfl, Nat.le_of_ble_eq_true rfl⟩) ⟨bl_X, va_recv hK hPc (ci := 4) (q0 := 0) rfl rfl, pr_X hPc hE hDc hX hZ hS hFc⟩ rfl rfl hl.1 rfl (lv_room (Nat.le_of_ble_eq_true rfl)) dL_setLevel_5 ⟨Nat.le_of_ble_eq_true rfl, Nat.le_of_ble_eq_true rfl⟩) hS (fun q _ h => hFc q h) hFc (fun q _ h => hFc q h) (fun E ce q9 u t H1 locs ht hvm hpx hBX hz1 hk1 hS hce hcv hcl => ?_) (fun r u t H1 locs ht hvm hw hB9 hz1 hk1 hS => ?_)
  · obtain ⟨Gt1, nt1, sct1⟩ := u
    obtain ⟨hBX, hPX⟩ := hBX
    obtain ⟨hP1, hD1⟩ := hPX
    rw [ht] at hP1
    obtain ⟨hBn, hDn⟩ := BJ (cb := [wObj d0 o F, wCfg cy (o 0) bc G (nI n) sc, wCfg cy (o 1) bt Gt (nI nt) sct, wHis cy (o 3) rg x kk cs bs RG rn RS]) (rb := [wCfg cy (o 2) bv Gv (nI nv9) scv, wTxt cy (o 4) ta tb C N (nI L) fl, wSim (o 5) z M, wCfg cy (z 0) bq Gz (nI nz) scz, wArr cy z rt Q T, oL cy oq y]) (nb := [wObj d0 o F, wCfg cy (o 0) bc G (nI n) sc, wCfg cy (o 1) bt Gt1 (nI nt1) sct1, wHis cy (o 3) rg x kk cs bs RG rn RS]) hB hBD [0, 1, 2, 3] [4, 5, 6, 7, 8, 9] rfl rfl (by decide) (by decide) hk1 hFc hP1 hD1
    have hP : va_P (dC, dI) vwCl (wK cy (d0, o, bc, bt, bv, rg, cs, bs, ta, tb, z, bq, rt) ((F, (G, n, sc), (Gt1, nt1, sct1), (x, kk, RG, rn, RS)), (Gv, nv9, scv), (C, N, L, fl), (M, (Gz, nz, scz), Q, T)) ++ oL cy oq y) H1 := wKo_P.mpr (hBn.sub (bs' := [wObj d0 o F, wCfg cy (o 0) bc G (nI n) sc, wCfg cy (o 1) bt Gt1 (nI nt1) sct1, wHis cy (o 3) rg x kk cs bs RG rn RS, wCfg cy (o 2) bv Gv (nI nv9) scv, wTxt cy (o 4) ta tb C N (nI L) fl, wSim (o 5) z M, wCfg cy (z 0) bq Gz (nI nz) scz, wArr cy z rt Q T, oL cy oq y]) [6, 7, 8, 9, 0, 1, 2, 3, 4, 5] rfl)
    have hD : va_D A (wK cy (d0, o, bc, bt, bv, rg, cs, bs, ta, tb, z, bq, rt) ((F, (G, n, sc), (Gt1, nt1, sct1), (x, kk, RG, rn, RS)), (Gv, nv9, scv), (C, N, L, fl), (M, (Gz, nz, scz), Q, T)) ++ oL cy oq y) := wKo_D.mpr (hDn.sub (bs' := [wObj d0 o F, wCfg cy (o 0) bc G (nI n) sc, wCfg cy (o 1) bt Gt1 (nI nt1) sct1, wHis cy (o 3) rg x kk cs bs RG rn RS, wCfg cy (o 2) bv Gv (nI nv9) scv, wTxt cy (o 4) ta tb C N (nI L) fl, wSim (o 5) z M, wCfg cy (z 0) bq Gz (nI nz) scz, wArr cy z rt Q T, oL cy oq y]) [6, 7, 8, 9, 0, 1, 2, 3, 4, 5] (by decide) rfl)
    rcases hBX with ⟨h89, ⟨rfl, hc9⟩ | ⟨rfl, hc9⟩ | ⟨rfl, hc9⟩⟩
    · refine vx_catch (name := "java/lang/IndexOutOfBoundsException") hown [] ⟨0, 10, 13, 28⟩ [⟨0, 10, 17, 13⟩, ⟨0, 10, 21, 15⟩] (htb.trans rfl) (fun z hz => by simp at hz) (by decide) (by decide) (hts (.classLink RL 28 "java/lang/IndexOutOfBoundsException") (by decide +kernel)) (va_Nw.use rfl (hX.c 2 rfl)) hce hcv hcl ?_
      refine lv_astore (lv' := (4, .ref q9) :: [(0, .ref d0), (1, .int p0), (2, .int p1), (3, .ref oq)]) hx hb dL_setLevel_13 hl (by decide) rfl (fun ls hl => ?_)
      refine lv_iconst (v := 1) hx hb dL_setLevel_15 (by decide) ?_
      exact W.iret (v := 1) hx hb hr (fun t ht hW => ⟨⟨1, (((F, (G, n, sc), (Gt1, nt1, sct1), (x, kk, RG, rn, RS)), (Gv, nv9, scv), (C, N, L, fl), (M, (Gz, nz, scz), Q, T)), y), rfl, Or.inr ⟨by decide, ⟨Gt1, nt1, sct1, h89, Or.inl ⟨rfl, hc9⟩, rfl⟩⟩, by rw [ht]; exact hP, hD⟩, hS.F ht⟩) hS.2.2 dL_setLevel_16
    · refine vx_catch (name := "java/lang/IllegalArgumentException") hown [⟨0, 10, 13, 28⟩] ⟨0, 10, 17, 13⟩ [⟨0, 10, 21, 15⟩] (htb.trans rfl) (List.forall_mem_cons.mpr ⟨Or.inr ⟨by decide, _, hts (.classLink RL 28 "java/lang/IndexOutOfBoundsException") (by decide +kernel), hV.n 1 rfl⟩, fun z hz => by simp at hz⟩) (by decide) (by decide) (hts (.classLink RL 13 "java/lang/IllegalArgumentException") (by decide +kernel)) (va_Nw.use rfl (hX.c 0 rfl)) hce hcv hcl ?_
      refine lv_astore (lv' := (4, .ref q9) :: [(0, .ref d0), (1, .int p0), (2, .int p1), (3, .ref oq)]) hx hb dL_setLevel_17 hl (by decide) rfl (fun ls hl => ?_)
      refine lv_iconst (v := 2) hx hb dL_setLevel_19 (by decide) ?_
      exact W.iret (v := 2) hx hb hr (fun t ht hW => ⟨⟨2, (((F, (G, n, sc), (Gt1, nt1, sct1), (x, kk, RG, rn, RS)), (Gv, nv9, scv), (C, N, L, fl), (M, (Gz, nz, scz), Q, T)), y), rfl, Or.inr ⟨by decide, ⟨Gt1, nt1, sct1, h89, Or.inr (Or.inl ⟨rfl, hc9⟩), rfl⟩⟩, by rw [ht]; exact hP, hD⟩, hS.F ht⟩) hS.2.2 dL_setLevel_20
    · refine vx_catch (name := "java/lang/IllegalStateException") hown [⟨0, 10, 13, 28⟩, ⟨0, 10, 17, 13⟩] ⟨0, 10, 21, 15⟩ [] (htb.trans rfl) (List.forall_mem_cons.mpr ⟨Or.inr ⟨by decide, _, hts (.classLink RL 28 "java/lang/IndexOutOfBoundsException") (by decide +kernel), hV.n 5 rfl⟩, List.forall_mem_cons.mpr ⟨Or.inr ⟨by decide, _, hts (.classLink RL 13 "java/lang/IllegalArgumentException") (by decide +kernel), hV.n 4 rfl⟩, fun z hz => by simp at hz⟩⟩) (by decide) (by decide) (hts (.classLink RL 15 "java/lang/IllegalStateException") (by decide +kernel)) (va_Nw.use rfl (hX.c 1 rfl)) hce hcv hcl ?_
      refine lv_astore (lv' := (4, .ref q9) :: [(0, .ref d0), (1, .int p0), (2, .int p1), (3, .ref oq)]) hx hb dL_setLevel_21 hl (by decide) rfl (fun ls hl => ?_)
      refine lv_iconst (v := 3) hx hb dL_setLevel_23 (by decide) ?_
      exact W.iret (v := 3) hx hb hr (fun t ht hW => ⟨⟨3, (((F, (G, n, sc), (Gt1, nt1, sct1), (x, kk, RG, rn, RS)), (Gv, nv9, scv), (C, N, L, fl), (M, (Gz, nz, scz), Q, T)), y), rfl, Or.inr ⟨by decide, ⟨Gt1, nt1, sct1, h89, Or.inr (Or.inr ⟨rfl, hc9⟩), rfl⟩⟩, by rw [ht]; exact hP, hD⟩, hS.F ht⟩) hS.2.2 dL_setLevel_24
  obtain ⟨F1, ⟨G1, n1, sc1⟩, ⟨Gt1, nt1, sct1⟩, x1, kk1, RG1, rn1, RS1⟩ := u
  obtain ⟨hP1, hD1⟩ := hB9
  rw [ht] at hP1
  obtain ⟨hBn, hDn⟩ := BJ (cb := [wObj d0 o F, wCfg cy (o 0) bc G (nI n) sc, wCfg cy (o 1) bt Gt (nI nt) sct, wHis cy (o 3) rg x kk cs bs RG rn RS]) (rb := [wCfg cy (o 2) bv Gv (nI nv9) scv, wTxt cy (o 4) ta tb C N (nI L) fl, wSim (o 5) z M, wCfg cy (z 0) bq Gz (nI nz) scz, wArr cy z rt Q T, oL cy oq y]) (nb := [wObj d0 o F1, wCfg cy (o 0) bc G1 (nI n1) sc1, wCfg cy (o 1) bt Gt1 (nI nt1) sct1, wHis cy (o 3) rg x1 kk1 cs bs RG1 rn1 RS1]) hB hBD [0, 1, 2, 3] [4, 5, 6, 7, 8, 9] rfl rfl (by decide) (by decide) hk1 hFc hP1 hD1
  have hP : va_P (dC, dI) vwCl (wK cy (d0, o, bc, bt, bv, rg, cs, bs, ta, tb, z, bq, rt) ((F1, (G1, n1, sc1), (Gt1, nt1, sct1), (x1, kk1, RG1, rn1, RS1)), (Gv, nv9, scv), (C, N, L, fl), (M, (Gz, nz, scz), Q, T)) ++ oL cy oq y) H1 := wKo_P.mpr (hBn.sub (bs' := [wObj d0 o F1, wCfg cy (o 0) bc G1 (nI n1) sc1, wCfg cy (o 1) bt Gt1 (nI nt1) sct1, wHis cy (o 3) rg x1 kk1 cs bs RG1 rn1 RS1, wCfg cy (o 2) bv Gv (nI nv9) scv, wTxt cy (o 4) ta tb C N (nI L) fl, wSim (o 5) z M, wCfg cy (z 0) bq Gz (nI nz) scz, wArr cy z rt Q T, oL cy oq y]) [6, 7, 8, 9, 0, 1, 2, 3, 4, 5] rfl)
  have hD : va_D A (wK cy (d0, o, bc, bt, bv, rg, cs, bs, ta, tb, z, bq, rt) ((F1, (G1, n1, sc1), (Gt1, nt1, sct1), (x1, kk1, RG1, rn1, RS1)), (Gv, nv9, scv), (C, N, L, fl), (M, (Gz, nz, scz), Q, T)) ++ oL cy oq y) := wKo_D.mpr (hDn.sub (bs' := [wObj d0 o F1, wCfg cy (o 0) bc G1 (nI n1) sc1, wCfg cy (o 1) bt Gt1 (nI nt1) sct1, wHis cy (o 3) rg x1 kk1 cs bs RG1 rn1 RS1, wCfg cy (o 2) bv Gv (nI nv9) scv, wTxt cy (o 4) ta tb C N (nI L) fl, wSim (o 5) z M, wCfg cy (z 0) bq Gz (nI nz) scz, wArr cy z rt Q T, oL cy oq y]) [6, 7, 8, 9, 0, 1, 2, 3, 4, 5] (by decide) rfl)
  clear hz1 hk1
  generalize H1 = H at hP hS ⊢
  refine lv_i2l hx hb dL_setLevel_8 rfl ?_
  refine vn_last hx hb hK hP hD hS 3 rfl dL_setLevel_9 (fun H locs hP hD hS => ?_)
  refine lv_goto (tgt := 25) hx hb dL_setLevel_10 (by decide) ?_
  refine lv_iconst (v := 0) hx hb dL_setLevel_25 (by decide) ?_
  exact W.iret (v := 0) hx hb hr (fun t ht hW => ⟨⟨0, (((F1, (G1, n1, sc1), (Gt1, nt1, sct1), (x1, kk1, RG1, rn1, RS1)), (Gv, nv9, scv), (C, N, L, fl), (M, (Gz, nz, scz), Q, T)), _), rfl, Or.inl ⟨rfl, r, ⟨(F1, (G1, n1, sc1), (Gt1, nt1, sct1), (x1, kk1, RG1, rn1, RS1)), hw, rfl⟩, rfl⟩, by rw [ht]; exact hP, hD⟩, hS.F ht⟩) hS.2.2 dL_setLevel_26
set_option maxHeartbeats 1000000 in
set_option maxRecDepth 100000 in
/-- the law's undo -/
theorem c_L_undo (l : Launch) (hst : l.stackTraces = false) (dC : Nat → ClassId) (dI : Nat → Nat → Nat) (cy : Nat → ClassId) (sz : Nat) (d0 : Nat) (o bc bt bv : Nat → Nat) (rg : Nat) (cs : Nat → Nat) (bs : Nat → Nat → Nat) (ta tb : Nat) (z bq rt : Nat → Nat) (F : Nat → Int32) (G : vG) (n : Nat) (sc : Int32) (Gt : vG) (nt : Nat) (sct : Int32) (x kk : Nat) (RG : Nat → vG) (rn : Nat → Nat) (RS : Nat → Int32) (Gv : vG) (nv9 : Nat) (scv : Int32) (C N : Nat → Int32) (L : Nat) (fl : Int32) (M : Nat → Int32) (Gz : vG) (nz : Nat) (scz : Int32) (Q T : vG) (hk : KOk ((F, (G, n, sc), (Gt, nt, sct), (x, kk, RG, rn, RS)), (Gv, nv9, scv), (C, N, L, fl), (M, (Gz, nz, scz), Q, T))) (oq : Nat) (y : Int64) : metL l yL_undo wsL_undo ({ frames := 7, cells := 1, slots := 6, locals := 102 }) [.ref d0, .ref oq] dC dI cy (d0, o, bc, bt, bv, rg, cs, bs, ta, tb, z, bq, rt) oq sz ((F, (G, n, sc), (Gt, nt, sct), (x, kk, RG, rn, RS)), (Gv, nv9, scv), (C, N, L, fl), (M, (Gz, nz, scz), Q, T)) y (wrL ((F, (G, n, sc), (Gt, nt, sct), (x, kk, RG, rn, RS)), (Gv, nv9, scv), (C, N, L, fl), (M, (Gz, nz, scz), Q, T)) (fun v u => ∃ k1, kk = k1 + 1 ∧ v = nI k1 ∧ u = ((upd F 7 0, (cpG G (RG ((x + 5) % 6)) (rn ((x + 5) % 6)), rn ((x + 5) % 6), RS ((x + 5) % 6)), (Gt, nt, sct), ((x + 5) % 6, k1, RG, rn, RS)), (Gv, nv9, scv), (C, N, L, fl), (M, (Gz, nz, scz), Q, T))) (fun r u => r = 1 ∧ kk = 0 ∧ u = ((F, (G, n, sc), (Gt, nt, sct), (x, kk, RG, rn, RS)), (Gv, nv9, scv), (C, N, L, fl), (M, (Gz, nz, scz), Q, T)))) 1 6 := by
  unfold metL
  refine vn_ofH (cc := cL_undo) (maxL := 3) (ret := some .int) (hh := [(0, 8, 11, 15)]) (by decide) rfl ?_
  intro p e s m args below meth c s₁ B hml hv
  obtain ⟨rfl, hsz, hP, hE, hD0, hX, hZ, hV⟩ := hv
  have hK := hE.1
  subst hsz
  have hD := hD0.self (sz := s.heap.size)
  generalize hAe : va_A (wK cy (d0, o, bc, bt, bv, rg, cs, bs, ta, tb, z, bq, rt) ((F, (G, n, sc), (Gt, nt, sct), (x, kk, RG, rn, RS)), (Gv, nv9, scv), (C, N, L, fl), (M, (Gz, nz, scz), Q, T)) ++ oL cy oq y) s.heap.size = A at hD hZ ⊢
  have hA : ∀ q : Nat, s.heap.size ≤ q → A q := fun q h => by rw [← hAe]; exact Or.inr h
  have hS : va_S A s.heap s.heap [] := va_S.rf
  obtain ⟨hn, hnt, hx6, hkk, hrn, hnv, hL, hnz, hG, hsc, hd0, hd1, hGR⟩ := hk
  have hB : BP (dC, dI) vwCl [wObj d0 o F, wCfg cy (o 0) bc G (nI n) sc, wCfg cy (o 1) bt Gt (nI nt) sct, wHis cy (o 3) rg x kk cs bs RG rn RS, wCfg cy (o 2) bv Gv (nI nv9) scv, wTxt cy (o 4) ta tb C N (nI L) fl, wSim (o 5) z M, wCfg cy (z 0) bq Gz (nI nz) scz, wArr cy z rt Q T, oL cy oq y] s.heap := wKo_P.mp hP
  have hBD : BD A [wObj d0 o F, wCfg cy (o 0) bc G (nI n) sc, wCfg cy (o 1) bt Gt (nI nt) sct, wHis cy (o 3) rg x kk cs bs RG rn RS, wCfg cy (o 2) bv Gv (nI nv9) scv, wTxt cy (o 4) ta tb C N (nI L) fl, wSim (o 5) z M, wCfg cy (z 0) bq Gz (nI nz) scz, wArr cy z rt Q T, oL cy oq y] := wKo_D.mp hD
  have hx := B.exec
  have hb := B.bytes
  have hr := B.returns
  have hts := atoms_spec (ws := wsL_undo) B.pre
  have hown : s.vm.findClass RL = some m.cls := findClass_of_methodNamed B.named
  have htb := vx_table (x := yL_undo) B (hts (.codeWith yL_undo cL_undo 3 (some .int) [(0, 8, 11, 15)]) (List.mem_of_getElem? (i := 0) rfl))
  have hl := lv_entry ([.ref d0, .ref oq]) (n := 3) (Nat.le_of_ble_eq_true rfl)
  rw [lg_entry_eq]
  generalize (lg_sl ([.ref d0, .ref oq]) ++ List.replicate (3 - (lg_sl ([.ref d0, .ref oq])).length) Slot.unset).toArray = ls at hl ⊢
  have hl : lv_has ls 3 [(0, .ref d0), (1, .ref oq)] := hl
  refine lv_aload_n hx hb dL_undo_0 rfl (lv_at hl 1 rfl) ?_
  refine lv_iconst (v := 0) hx hb dL_undo_1 (by decide) ?_
  refine lv_aload_n hx hb dL_undo_2 rfl (lv_at hl 0 rfl) ?_
  have hPc : va_P (dC, dI) vwCl (wObj d0 o F ++ (wCfg cy (o 0) bc G (nI n) sc ++ (wHis cy (o 3) rg x kk cs bs RG rn RS))) s.heap := gl_P.mpr (hB.sub (bs' := [wObj d0 o F, wCfg cy (o 0) bc G (nI n) sc, wHis cy (o 3) rg x kk cs bs RG rn RS]) [0, 1, 3] rfl)
  have hDc : va_D A (wObj d0 o F ++ (wCfg cy (o 0) bc G (nI n) sc ++ (wHis cy (o 3) rg x kk cs bs RG rn RS))) := gl_D.mpr (hBD.sub (bs' := [wObj d0 o F, wCfg cy (o 0) bc G (nI n) sc, wHis cy (o 3) rg x kk cs bs RG rn RS]) [0, 1, 3] (by decide) rfl)
  have hFc : ∀ q, va_A (wObj d0 o F ++ (wCfg cy (o 0) bc G (nI n) sc ++ (wHis cy (o 3) rg x kk cs bs RG rn RS))) s.heap.size q → A q := BF (cb := [wObj d0 o F, wCfg cy (o 0) bc G (nI n) sc, wHis cy (o 3) rg x kk cs bs RG rn RS]) hBD hS hA [0, 1, 3] rfl
  refine vx_calli (vx_runV (As := []) (rest := [.int 0, .ref oq]) ⟨hx, hb, hml, hown, hts⟩ (c_X4_undo l hst dC dI cy s.heap.size d0 o F bc G n hn sc rg x kk hx6 hkk cs bs RG rn RS hrn) (cwV 0 hts gL_undo_X4_undo rfl rfl rfl (by decide +kernel) ⟨Nat.le_of_ble_eq_true rfl, Nat.le_of_ble_eq_true rfl⟩) ⟨bl_X, va_recv hK hPc (ci := 4) (q0 := 0) rfl rfl, pr_X hPc hE hDc hX hZ hS hFc⟩ rfl rfl hl.1 rfl (lv_room (Nat.le_of_ble_eq_true rfl)) dL_undo_3 ⟨Nat.le_of_ble_eq_true rfl, Nat.le_of_ble_eq_true rfl⟩) hS (fun q _ h => hFc q h) hFc (fun q _ h => hFc q h) (fun E ce q9 u t H1 locs ht hvm hpx hBX hz1 hk1 hS hce hcv hcl => ?_) (fun r u t H1 locs ht hvm hw hB9 hz1 hk1 hS => ?_)
  · obtain ⟨hBX, hPX⟩ := hBX
    obtain ⟨hP1, hD1⟩ := hPX
    rw [ht] at hP1
    obtain ⟨hBn, hDn⟩ := BJ (cb := [wObj d0 o F, wCfg cy (o 0) bc G (nI n) sc, wHis cy (o 3) rg x kk cs bs RG rn RS]) (rb := [wCfg cy (o 1) bt Gt (nI nt) sct, wCfg cy (o 2) bv Gv (nI nv9) scv, wTxt cy (o 4) ta tb C N (nI L) fl, wSim (o 5) z M, wCfg cy (z 0) bq Gz (nI nz) scz, wArr cy z rt Q T, oL cy oq y]) (nb := [wObj d0 o F, wCfg cy (o 0) bc G (nI n) sc, wHis cy (o 3) rg x kk cs bs RG rn RS]) hB hBD [0, 1, 3] [2, 4, 5, 6, 7, 8, 9] rfl rfl (by decide) (by decide) hk1 hFc hP1 hD1
    have hP : va_P (dC, dI) vwCl (wK cy (d0, o, bc, bt, bv, rg, cs, bs, ta, tb, z, bq, rt) ((F, (G, n, sc), (Gt, nt, sct), (x, kk, RG, rn, RS)), (Gv, nv9, scv), (C, N, L, fl), (M, (Gz, nz, scz), Q, T)) ++ oL cy oq y) H1 := wKo_P.mpr (hBn.sub (bs' := [wObj d0 o F, wCfg cy (o 0) bc G (nI n) sc, wCfg cy (o 1) bt Gt (nI nt) sct, wHis cy (o 3) rg x kk cs bs RG rn RS, wCfg cy (o 2) bv Gv (nI nv9) scv, wTxt cy (o 4) ta tb C N (nI L) fl, wSim (o 5) z M, wCfg cy (z 0) bq Gz (nI nz) scz, wArr cy z rt Q T, oL cy oq y]) [7, 8, 0, 9, 1, 2, 3, 4, 5, 6] rfl)
    have hD : va_D A (wK cy (d0, o, bc, bt, bv, rg, cs, bs, ta, tb, z, bq, rt) ((F, (G, n, sc), (Gt, nt, sct), (x, kk, RG, rn, RS)), (Gv, nv9, scv), (C, N, L, fl), (M, (Gz, nz, scz), Q, T)) ++ oL cy oq y) := wKo_D.mpr (hDn.sub (bs' := [wObj d0 o F, wCfg cy (o 0) bc G (nI n) sc, wCfg cy (o 1) bt Gt (nI nt) sct, wHis cy (o 3) rg x kk cs bs RG rn RS, wCfg cy (o 2) bv Gv (nI nv9) scv, wTxt cy (o 4) ta tb C N (nI L) fl, wSim (o 5) z M, wCfg cy (z 0) bq Gz (nI nz) scz, wArr cy z rt Q T, oL cy oq y]) [7, 8, 0, 9, 1, 2, 3, 4, 5, 6] (by decide) rfl)
    obtain ⟨rfl, hc9⟩ := hBX
    refine vx_catch (name := "java/lang/IllegalStateException") hown [] ⟨0, 8, 11, 15⟩ [] (htb.trans rfl) (fun z hz => by simp at hz) (by decide) (by decide) (hts (.classLink RL 15 "java/lang/IllegalStateException") (by decide +kernel)) (va_Nw.use rfl (hX.c 1 rfl)) hce hcv hcl ?_
    refine lv_astore_n (lv' := (2, .ref q9) :: [(0, .ref d0), (1, .ref oq)]) hx hb dL_undo_11 rfl hl (by decide) rfl (fun ls hl => ?_)
    refine lv_iconst (v := 1) hx hb dL_undo_12 (by decide) ?_
    exact W.iret (v := 1) hx hb hr (fun t ht hW => ⟨⟨1, (((F, (G, n, sc), (Gt, nt, sct), (x, kk, RG, rn, RS)), (Gv, nv9, scv), (C, N, L, fl), (M, (Gz, nz, scz), Q, T)), y), rfl, Or.inr ⟨by decide, ⟨rfl, hc9, rfl⟩⟩, by rw [ht]; exact hP, hD⟩, hS.F ht⟩) hS.2.2 dL_undo_13
  obtain ⟨k1, rfl⟩ : ∃ k1, k1 = u := ⟨_, rfl⟩
  obtain ⟨hP1, hD1⟩ := hB9
  rw [ht] at hP1
  obtain ⟨hBn, hDn⟩ := BJ (cb := [wObj d0 o F, wCfg cy (o 0) bc G (nI n) sc, wHis cy (o 3) rg x kk cs bs RG rn RS]) (rb := [wCfg cy (o 1) bt Gt (nI nt) sct, wCfg cy (o 2) bv Gv (nI nv9) scv, wTxt cy (o 4) ta tb C N (nI L) fl, wSim (o 5) z M, wCfg cy (z 0) bq Gz (nI nz) scz, wArr cy z rt Q T, oL cy oq y]) (nb := [wObj d0 o (upd F 7 0), wCfg cy (o 0) bc (cpG G (RG ((x + 5) % 6)) (rn ((x + 5) % 6))) (nI (rn ((x + 5) % 6))) (RS ((x + 5) % 6)), wHis cy (o 3) rg ((x + 5) % 6) k1 cs bs RG rn RS]) hB hBD [0, 1, 3] [2, 4, 5, 6, 7, 8, 9] rfl rfl (by decide) (by decide) hk1 hFc hP1 hD1
  have hP : va_P (dC, dI) vwCl (wK cy (d0, o, bc, bt, bv, rg, cs, bs, ta, tb, z, bq, rt) ((upd F 7 0, (cpG G (RG ((x + 5) % 6)) (rn ((x + 5) % 6)), rn ((x + 5) % 6), RS ((x + 5) % 6)), (Gt, nt, sct), ((x + 5) % 6, k1, RG, rn, RS)), (Gv, nv9, scv), (C, N, L, fl), (M, (Gz, nz, scz), Q, T)) ++ oL cy oq y) H1 := wKo_P.mpr (hBn.sub (bs' := [wObj d0 o (upd F 7 0), wCfg cy (o 0) bc (cpG G (RG ((x + 5) % 6)) (rn ((x + 5) % 6))) (nI (rn ((x + 5) % 6))) (RS ((x + 5) % 6)), wCfg cy (o 1) bt Gt (nI nt) sct, wHis cy (o 3) rg ((x + 5) % 6) k1 cs bs RG rn RS, wCfg cy (o 2) bv Gv (nI nv9) scv, wTxt cy (o 4) ta tb C N (nI L) fl, wSim (o 5) z M, wCfg cy (z 0) bq Gz (nI nz) scz, wArr cy z rt Q T, oL cy oq y]) [7, 8, 0, 9, 1, 2, 3, 4, 5, 6] rfl)
  have hD : va_D A (wK cy (d0, o, bc, bt, bv, rg, cs, bs, ta, tb, z, bq, rt) ((upd F 7 0, (cpG G (RG ((x + 5) % 6)) (rn ((x + 5) % 6)), rn ((x + 5) % 6), RS ((x + 5) % 6)), (Gt, nt, sct), ((x + 5) % 6, k1, RG, rn, RS)), (Gv, nv9, scv), (C, N, L, fl), (M, (Gz, nz, scz), Q, T)) ++ oL cy oq y) := wKo_D.mpr (hDn.sub (bs' := [wObj d0 o (upd F 7 0), wCfg cy (o 0) bc (cpG G (RG ((x + 5) % 6)) (rn ((x + 5) % 6))) (nI (rn ((x + 5) % 6))) (RS ((x + 5) % 6)), wCfg cy (o 1) bt Gt (nI nt) sct, wHis cy (o 3) rg ((x + 5) % 6) k1 cs bs RG rn RS, wCfg cy (o 2) bv Gv (nI nv9) scv, wTxt cy (o 4) ta tb C N (nI L) fl, wSim (o 5) z M, wCfg cy (z 0) bq Gz (nI nz) scz, wArr cy z rt Q T, oL cy oq y]) [7, 8, 0, 9, 1, 2, 3, 4, 5, 6] (by decide) rfl)
  clear hz1 hk1
  generalize H1 = H at hP hS ⊢
  refine lv_i2l hx hb dL_undo_6 rfl ?_
  refine vn_last hx hb hK hP hD hS 3 rfl dL_undo_7 (fun H locs hP hD hS => ?_)
  refine lv_goto (tgt := 14) hx hb dL_undo_8 (by decide) ?_
  refine lv_iconst (v := 0) hx hb dL_undo_14 (by decide) ?_
  exact W.iret (v := 0) hx hb hr (fun t ht hW => ⟨⟨0, (((upd F 7 0, (cpG G (RG ((x + 5) % 6)) (rn ((x + 5) % 6)), rn ((x + 5) % 6), RS ((x + 5) % 6)), (Gt, nt, sct), ((x + 5) % 6, k1, RG, rn, RS)), (Gv, nv9, scv), (C, N, L, fl), (M, (Gz, nz, scz), Q, T)), _), rfl, Or.inl ⟨rfl, r, ⟨k1, hw.1, hw.2, rfl⟩, rfl⟩, by rw [ht]; exact hP, hD⟩, hS.F ht⟩) hS.2.2 dL_undo_15
set_option maxHeartbeats 1000000 in
set_option maxRecDepth 100000 in
/-- the law's restore -/
theorem c_L_restore (l : Launch) (hst : l.stackTraces = false) (dC : Nat → ClassId) (dI : Nat → Nat → Nat) (cy : Nat → ClassId) (sz : Nat) (d0 : Nat) (o bc bt bv : Nat → Nat) (rg : Nat) (cs : Nat → Nat) (bs : Nat → Nat → Nat) (ta tb : Nat) (z bq rt : Nat → Nat) (F : Nat → Int32) (G : vG) (n : Nat) (sc : Int32) (Gt : vG) (nt : Nat) (sct : Int32) (x kk : Nat) (RG : Nat → vG) (rn : Nat → Nat) (RS : Nat → Int32) (Gv : vG) (nv9 : Nat) (scv : Int32) (C N : Nat → Int32) (L : Nat) (fl : Int32) (M : Nat → Int32) (Gz : vG) (nz : Nat) (scz : Int32) (Q T : vG) (hk : KOk ((F, (G, n, sc), (Gt, nt, sct), (x, kk, RG, rn, RS)), (Gv, nv9, scv), (C, N, L, fl), (M, (Gz, nz, scz), Q, T))) (oq : Nat) (y : Int64) : metL l yL_restore wsL_restore ({ frames := 7, cells := 1, slots := 6, locals := 106 }) [.ref d0, .ref oq] dC dI cy (d0, o, bc, bt, bv, rg, cs, bs, ta, tb, z, bq, rt) oq sz ((F, (G, n, sc), (Gt, nt, sct), (x, kk, RG, rn, RS)), (Gv, nv9, scv), (C, N, L, fl), (M, (Gz, nz, scz), Q, T)) y (wrL ((F, (G, n, sc), (Gt, nt, sct), (x, kk, RG, rn, RS)), (Gv, nv9, scv), (C, N, L, fl), (M, (Gz, nz, scz), Q, T)) (fun v u => ¬ F 6 = 0 ∧ v = nI nv9 ∧ ∃ w, w = kChg F G n sc x kk RG rn RS (cpG Gt Gv nv9) nv9 scv ∧ u = (w, (Gv, nv9, scv), (C, N, L, fl), (M, (Gz, nz, scz), Q, T))) (fun r u => r = 1 ∧ F 6 = 0 ∧ u = ((F, (G, n, sc), (Gt, nt, sct), (x, kk, RG, rn, RS)), (Gv, nv9, scv), (C, N, L, fl), (M, (Gz, nz, scz), Q, T)))) 1 6 := by
  unfold metL
  refine vn_ofH (cc := cL_restore) (maxL := 3) (ret := some .int) (hh := [(0, 8, 11, 15)]) (by decide) rfl ?_
  intro p e s m args below meth c s₁ B hml hv
  obtain ⟨rfl, hsz, hP, hE, hD0, hX, hZ, hV⟩ := hv
  have hK := hE.1
  subst hsz
  have hD := hD0.self (sz := s.heap.size)
  generalize hAe : va_A (wK cy (d0, o, bc, bt, bv, rg, cs, bs, ta, tb, z, bq, rt) ((F, (G, n, sc), (Gt, nt, sct), (x, kk, RG, rn, RS)), (Gv, nv9, scv), (C, N, L, fl), (M, (Gz, nz, scz), Q, T)) ++ oL cy oq y) s.heap.size = A at hD hZ ⊢
  have hA : ∀ q : Nat, s.heap.size ≤ q → A q := fun q h => by rw [← hAe]; exact Or.inr h
  have hS : va_S A s.heap s.heap [] := va_S.rf
  obtain ⟨hn, hnt, hx6, hkk, hrn, hnv, hL, hnz, hG, hsc, hd0, hd1, hGR⟩ := hk
  have hB : BP (dC, dI) vwCl [wObj d0 o F, wCfg cy (o 0) bc G (nI n) sc, wCfg cy (o 1) bt Gt (nI nt) sct, wHis cy (o 3) rg x kk cs bs RG rn RS, wCfg cy (o 2) bv Gv (nI nv9) scv, wTxt cy (o 4) ta tb C N (nI L) fl, wSim (o 5) z M, wCfg cy (z 0) bq Gz (nI nz) scz, wArr cy z rt Q T, oL cy oq y] s.heap := wKo_P.mp hP
  have hBD : BD A [wObj d0 o F, wCfg cy (o 0) bc G (nI n) sc, wCfg cy (o 1) bt Gt (nI nt) sct, wHis cy (o 3) rg x kk cs bs RG rn RS, wCfg cy (o 2) bv Gv (nI nv9) scv, wTxt cy (o 4) ta tb C N (nI L) fl, wSim (o 5) z M, wCfg cy (z 0) bq Gz (nI nz) scz, wArr cy z rt Q T, oL cy oq y] := wKo_D.mp hD
  have hx := B.exec
  have hb := B.bytes
  have hr := B.returns
  have hts := atoms_spec (ws := wsL_restore) B.pre
  have hown : s.vm.findClass RL = some m.cls := findClass_of_methodNamed B.named
  have htb := vx_table (x := yL_restore) B (hts (.codeWith yL_restore cL_restore 3 (some .int) [(0, 8, 11, 15)]) (List.mem_of_getElem? (i := 0) rfl))
  have hl := lv_entry ([.ref d0, .ref oq]) (n := 3) (Nat.le_of_ble_eq_true rfl)
  rw [lg_entry_eq]
  generalize (lg_sl ([.ref d0, .ref oq]) ++ List.replicate (3 - (lg_sl ([.ref d0, .ref oq])).length) Slot.unset).toArray = ls at hl ⊢
  have hl : lv_has ls 3 [(0, .ref d0), (1, .ref oq)] := hl
  refine lv_aload_n hx hb dL_restore_0 rfl (lv_at hl 1 rfl) ?_
  refine lv_iconst (v := 0) hx hb dL_restore_1 (by decide) ?_
  refine lv_aload_n hx hb dL_restore_2 rfl (lv_at hl 0 rfl) ?_
  have hPc : va_P (dC, dI) vwCl (wObj d0 o F ++ (wCfg cy (o 0) bc G (nI n) sc ++ (wCfg cy (o 1) bt Gt (nI nt) sct ++ (wHis cy (o 3) rg x kk cs bs RG rn RS ++ (wCfg cy (o 2) bv Gv (nI nv9) scv))))) s.heap := gl_P.mpr (hB.sub (bs' := [wObj d0 o F, wCfg cy (o 0) bc G (nI n) sc, wCfg cy (o 1) bt Gt (nI nt) sct, wHis cy (o 3) rg x kk cs bs RG rn RS, wCfg cy (o 2) bv Gv (nI nv9) scv]) [0, 1, 2, 3, 4] rfl)
  have hDc : va_D A (wObj d0 o F ++ (wCfg cy (o 0) bc G (nI n) sc ++ (wCfg cy (o 1) bt Gt (nI nt) sct ++ (wHis cy (o 3) rg x kk cs bs RG rn RS ++ (wCfg cy (o 2) bv Gv (nI nv9) scv))))) := gl_D.mpr (hBD.sub (bs' := [wObj d0 o F, wCfg cy (o 0) bc G (nI n) sc, wCfg cy (o 1) bt Gt (nI nt) sct, wHis cy (o 3) rg x kk cs bs RG rn RS, wCfg cy (o 2) bv Gv (nI nv9) scv]) [0, 1, 2, 3, 4] (by decide) rfl)
  have hFc : ∀ q, va_A (wObj d0 o F ++ (wCfg cy (o 0) bc G (nI n) sc ++ (wCfg cy (o 1) bt Gt (nI nt) sct ++ (wHis cy (o 3) rg x kk cs bs RG rn RS ++ (wCfg cy (o 2) bv Gv (nI nv9) scv))))) s.heap.size q → A q := BF (cb := [wObj d0 o F, wCfg cy (o 0) bc G (nI n) sc, wCfg cy (o 1) bt Gt (nI nt) sct, wHis cy (o 3) rg x kk cs bs RG rn RS, wCfg cy (o 2) bv Gv (nI nv9) scv]) hBD hS hA [0, 1, 2, 3, 4] rfl
  refine vx_calli (vx_runV (As := []) (rest := [.int 0, .ref oq]) ⟨hx, hb, hml, hown, hts⟩ (c_X4_restore l hst dC dI cy s.heap.size d0 o F bc G n hn sc bt Gt nt hnt sct rg x kk hx6 hkk cs bs RG rn RS bv Gv nv9 hnv scv) (cwV 0 hts gL_restore_X4_restore rfl rfl rfl (by decide +kernel) ⟨Nat.le_of_ble_eq_true rfl, Nat.le_of_ble_eq_true rfl⟩) ⟨bl_X, va_recv hK hPc (ci := 4) (q0 := 0) rfl rfl, pr_X hPc hE hDc hX hZ hS hFc⟩ rfl rfl hl.1 rfl (lv_room (Nat.le_of_ble_eq_true rfl)) dL_restore_3 ⟨Nat.le_of_ble_eq_true rfl, Nat.le_of_ble_eq_true rfl⟩) hS (fun q _ h => hFc q h) hFc (fun q _ h => hFc q h) (fun E ce q9 u t H1 locs ht hvm hpx hBX hz1 hk1 hS hce hcv hcl => ?_) (fun r u t H1 locs ht hvm hw hB9 hz1 hk1 hS => ?_)
  · obtain ⟨hBX, hPX⟩ := hBX
    obtain ⟨hP1, hD1⟩ := hPX
    rw [ht] at hP1
    obtain ⟨hBn, hDn⟩ := BJ (cb := [wObj d0 o F, wCfg cy (o 0) bc G (nI n) sc, wCfg cy (o 1) bt Gt (nI nt) sct, wHis cy (o 3) rg x kk cs bs RG rn RS, wCfg cy (o 2) bv Gv (nI nv9) scv]) (rb := [wTxt cy (o 4) ta tb C N (nI L) fl, wSim (o 5) z M, wCfg cy (z 0) bq Gz (nI nz) scz, wArr cy z rt Q T, oL cy oq y]) (nb := [wObj d0 o F, wCfg cy (o 0) bc G (nI n) sc, wCfg cy (o 1) bt Gt (nI nt) sct, wHis cy (o 3) rg x kk cs bs RG rn RS, wCfg cy (o 2) bv Gv (nI nv9) scv]) hB hBD [0, 1, 2, 3, 4] [5, 6, 7, 8, 9] rfl rfl (by decide) (by decide) hk1 hFc hP1 hD1
    have hP : va_P (dC, dI) vwCl (wK cy (d0, o, bc, bt, bv, rg, cs, bs, ta, tb, z, bq, rt) ((F, (G, n, sc), (Gt, nt, sct), (x, kk, RG, rn, RS)), (Gv, nv9, scv), (C, N, L, fl), (M, (Gz, nz, scz), Q, T)) ++ oL cy oq y) H1 := wKo_P.mpr (hBn.sub (bs' := [wObj d0 o F, wCfg cy (o 0) bc G (nI n) sc, wCfg cy (o 1) bt Gt (nI nt) sct, wHis cy (o 3) rg x kk cs bs RG rn RS, wCfg cy (o 2) bv Gv (nI nv9) scv, wTxt cy (o 4) ta tb C N (nI L) fl, wSim (o 5) z M, wCfg cy (z 0) bq Gz (nI nz) scz, wArr cy z rt Q T, oL cy oq y]) [5, 6, 7, 8, 9, 0, 1, 2, 3, 4] rfl)
    have hD : va_D A (wK cy (d0, o, bc, bt, bv, rg, cs, bs, ta, tb, z, bq, rt) ((F, (G, n, sc), (Gt, nt, sct), (x, kk, RG, rn, RS)), (Gv, nv9, scv), (C, N, L, fl), (M, (Gz, nz, scz), Q, T)) ++ oL cy oq y) := wKo_D.mpr (hDn.sub (bs' := [wObj d0 o F, wCfg cy (o 0) bc G (nI n) sc, wCfg cy (o 1) bt Gt (nI nt) sct, wHis cy (o 3) rg x kk cs bs RG rn RS, wCfg cy (o 2) bv Gv (nI nv9) scv, wTxt cy (o 4) ta tb C N (nI L) fl, wSim (o 5) z M, wCfg cy (z 0) bq Gz (nI nz) scz, wArr cy z rt Q T, oL cy oq y]) [5, 6, 7, 8, 9, 0, 1, 2, 3, 4] (by decide) rfl)
    obtain ⟨rfl, hc9⟩ := hBX
    refine vx_catch (name := "java/lang/IllegalStateException") hown [] ⟨0, 8, 11, 15⟩ [] (htb.trans rfl) (fun z hz => by simp at hz) (by decide) (by decide) (hts (.classLink RL 15 "java/lang/IllegalStateException") (by decide +kernel)) (va_Nw.use rfl (hX.c 1 rfl)) hce hcv hcl ?_
    refine lv_astore_n (lv' := (2, .ref q9) :: [(0, .ref d0), (1, .ref oq)]) hx hb dL_restore_11 rfl hl (by decide) rfl (fun ls hl => ?_)
    refine lv_iconst (v := 1) hx hb dL_restore_12 (by decide) ?_
    exact W.iret (v := 1) hx hb hr (fun t ht hW => ⟨⟨1, (((F, (G, n, sc), (Gt, nt, sct), (x, kk, RG, rn, RS)), (Gv, nv9, scv), (C, N, L, fl), (M, (Gz, nz, scz), Q, T)), y), rfl, Or.inr ⟨by decide, ⟨rfl, hc9, rfl⟩⟩, by rw [ht]; exact hP, hD⟩, hS.F ht⟩) hS.2.2 dL_restore_13
  obtain ⟨F1, ⟨G1, n1, sc1⟩, ⟨Gt1, nt1, sct1⟩, x1, kk1, RG1, rn1, RS1⟩ := u
  obtain ⟨hP1, hD1⟩ := hB9
  rw [ht] at hP1
  obtain ⟨hBn, hDn⟩ := BJ (cb := [wObj d0 o F, wCfg cy (o 0) bc G (nI n) sc, wCfg cy (o 1) bt Gt (nI nt) sct, wHis cy (o 3) rg x kk cs bs RG rn RS, wCfg cy (o 2) bv Gv (nI nv9) scv]) (rb := [wTxt cy (o 4) ta tb C N (nI L) fl, wSim (o 5) z M, wCfg cy (z 0) bq Gz (nI nz) scz, wArr cy z rt Q T, oL cy oq y]) (nb := [wObj d0 o F1, wCfg cy (o 0) bc G1 (nI n1) sc1, wCfg cy (o 1) bt Gt1 (nI nt1) sct1, wHis cy (o 3) rg x1 kk1 cs bs RG1 rn1 RS1, wCfg cy (o 2) bv Gv (nI nv9) scv]) hB hBD [0, 1, 2, 3, 4] [5, 6, 7, 8, 9] rfl rfl (by decide) (by decide) hk1 hFc hP1 hD1
  have hP : va_P (dC, dI) vwCl (wK cy (d0, o, bc, bt, bv, rg, cs, bs, ta, tb, z, bq, rt) ((F1, (G1, n1, sc1), (Gt1, nt1, sct1), (x1, kk1, RG1, rn1, RS1)), (Gv, nv9, scv), (C, N, L, fl), (M, (Gz, nz, scz), Q, T)) ++ oL cy oq y) H1 := wKo_P.mpr (hBn.sub (bs' := [wObj d0 o F1, wCfg cy (o 0) bc G1 (nI n1) sc1, wCfg cy (o 1) bt Gt1 (nI nt1) sct1, wHis cy (o 3) rg x1 kk1 cs bs RG1 rn1 RS1, wCfg cy (o 2) bv Gv (nI nv9) scv, wTxt cy (o 4) ta tb C N (nI L) fl, wSim (o 5) z M, wCfg cy (z 0) bq Gz (nI nz) scz, wArr cy z rt Q T, oL cy oq y]) [5, 6, 7, 8, 9, 0, 1, 2, 3, 4] rfl)
  have hD : va_D A (wK cy (d0, o, bc, bt, bv, rg, cs, bs, ta, tb, z, bq, rt) ((F1, (G1, n1, sc1), (Gt1, nt1, sct1), (x1, kk1, RG1, rn1, RS1)), (Gv, nv9, scv), (C, N, L, fl), (M, (Gz, nz, scz), Q, T)) ++ oL cy oq y) := wKo_D.mpr (hDn.sub (bs' := [wObj d0 o F1, wCfg cy (o 0) bc G1 (nI n1) sc1, wCfg cy (o 1) bt Gt1 (nI nt1) sct1, wHis cy (o 3) rg x1 kk1 cs bs RG1 rn1 RS1, wCfg cy (o 2) bv Gv (nI nv9) scv, wTxt cy (o 4) ta tb C N (nI L) fl, wSim (o 5) z M, wCfg cy (z 0) bq Gz (nI nz) scz, wArr cy z rt Q T, oL cy oq y]) [5, 6, 7, 8, 9, 0, 1, 2, 3, 4] (by decide) rfl)
  clear hz1 hk1
  generalize H1 = H at hP hS ⊢
  refine lv_i2l hx hb dL_restore_6 rfl ?_
  refine vn_last hx hb hK hP hD hS 3 rfl dL_restore_7 (fun H locs hP hD hS => ?_)
  refine lv_goto (tgt := 14) hx hb dL_restore_8 (by decide) ?_
  refine lv_iconst (v := 0) hx hb dL_restore_14 (by decide) ?_
  exact W.iret (v := 0) hx hb hr (fun t ht hW => ⟨⟨0, (((F1, (G1, n1, sc1), (Gt1, nt1, sct1), (x1, kk1, RG1, rn1, RS1)), (Gv, nv9, scv), (C, N, L, fl), (M, (Gz, nz, scz), Q, T)), _), rfl, Or.inl ⟨rfl, r, ⟨hw.1, hw.2.1, (F1, (G1, n1, sc1), (Gt1, nt1, sct1), (x1, kk1, RG1, rn1, RS1)), hw.2.2, rfl⟩, rfl⟩, by rw [ht]; exact hP, hD⟩, hS.F ht⟩) hS.2.2 dL_restore_15
set_option maxHeartbeats 1000000 in
set_option maxRecDepth 100000 in
/-- the law's simulate -/
theorem c_L_simulate (l : Launch) (hst : l.stackTraces = false) (dC : Nat → ClassId) (dI : Nat → Nat → Nat) (cy : Nat → ClassId) (sz : Nat) (d0 : Nat) (o bc bt bv : Nat → Nat) (rg : Nat) (cs : Nat → Nat) (bs : Nat → Nat → Nat) (ta tb : Nat) (z bq rt : Nat → Nat) (F : Nat → Int32) (G : vG) (n : Nat) (sc : Int32) (Gt : vG) (nt : Nat) (sct : Int32) (x kk : Nat) (RG : Nat → vG) (rn : Nat → Nat) (RS : Nat → Int32) (Gv : vG) (nv9 : Nat) (scv : Int32) (C N : Nat → Int32) (L : Nat) (fl : Int32) (M : Nat → Int32) (Gz : vG) (nz : Nat) (scz : Int32) (Q T : vG) (hk : KOk ((F, (G, n, sc), (Gt, nt, sct), (x, kk, RG, rn, RS)), (Gv, nv9, scv), (C, N, L, fl), (M, (Gz, nz, scz), Q, T))) (oq : Nat) (y : Int64) (p0 p1 p2 : Int32) (Gq : vG) (hGq : cpG Gz G n = Gq) (hok : ∀ hz, 1 ≤ hz → hz ≤ 200 → p2 = nI hz → inr p1 0 100 → simOk Gq sc n hz (sim0 M Q T p0 p1 hz)) : metL l yL_simulate wsL_simulate ({ frames := 7, cells := 1, slots := 6, locals := 118 }) [.ref d0, .int p0, .int p1, .int p2, .ref oq] dC dI cy (d0, o, bc, bt, bv, rg, cs, bs, ta, tb, z, bq, rt) oq sz ((F, (G, n, sc), (Gt, nt, sct), (x, kk, RG, rn, RS)), (Gv, nv9, scv), (C, N, L, fl), (M, (Gz, nz, scz), Q, T)) y (wrL ((F, (G, n, sc), (Gt, nt, sct), (x, kk, RG, rn, RS)), (Gv, nv9, scv), (C, N, L, fl), (M, (Gz, nz, scz), Q, T)) (fun v u => ∃ F1 M1 Q1 T1, kSim F Gq n sc M Q T p0 p1 p2 v (F1, M1, Q1, T1) ∧ u = ((F1, (G, n, sc), (Gt, nt, sct), (x, kk, RG, rn, RS)), (Gv, nv9, scv), (C, N, L, fl), (M1, (Gq, n, sc), Q1, T1))) (fun r u => r = 1 ∧ cSim p1 p2 = 1 ∧ u = ((F, (G, n, sc), (Gt, nt, sct), (x, kk, RG, rn, RS)), (Gv, nv9, scv), (C, N, L, fl), (M, (Gz, nz, scz), Q, T)))) 1 6 := by
  unfold metL
  refine vn_ofH (cc := cL_simulate) (maxL := 6) (ret := some .int) (hh := [(0, 12, 15, 13)]) (by decide) rfl ?_
  intro p e s m args below meth c s₁ B hml hv
  obtain ⟨rfl, hsz, hP, hE, hD0, hX, hZ, hV⟩ := hv
  have hK := hE.1
  subst hsz
  have hD := hD0.self (sz := s.heap.size)
  generalize hAe : va_A (wK cy (d0, o, bc, bt, bv, rg, cs, bs, ta, tb, z, bq, rt) ((F, (G, n, sc), (Gt, nt, sct), (x, kk, RG, rn, RS)), (Gv, nv9, scv), (C, N, L, fl), (M, (Gz, nz, scz), Q, T)) ++ oL cy oq y) s.heap.size = A at hD hZ ⊢
  have hA : ∀ q : Nat, s.heap.size ≤ q → A q := fun q h => by rw [← hAe]; exact Or.inr h
  have hS : va_S A s.heap s.heap [] := va_S.rf
  obtain ⟨hn, hnt, hx6, hkk, hrn, hnv, hL, hnz, hG, hsc, hd0, hd1, hGR⟩ := hk
  have hB : BP (dC, dI) vwCl [wObj d0 o F, wCfg cy (o 0) bc G (nI n) sc, wCfg cy (o 1) bt Gt (nI nt) sct, wHis cy (o 3) rg x kk cs bs RG rn RS, wCfg cy (o 2) bv Gv (nI nv9) scv, wTxt cy (o 4) ta tb C N (nI L) fl, wSim (o 5) z M, wCfg cy (z 0) bq Gz (nI nz) scz, wArr cy z rt Q T, oL cy oq y] s.heap := wKo_P.mp hP
  have hBD : BD A [wObj d0 o F, wCfg cy (o 0) bc G (nI n) sc, wCfg cy (o 1) bt Gt (nI nt) sct, wHis cy (o 3) rg x kk cs bs RG rn RS, wCfg cy (o 2) bv Gv (nI nv9) scv, wTxt cy (o 4) ta tb C N (nI L) fl, wSim (o 5) z M, wCfg cy (z 0) bq Gz (nI nz) scz, wArr cy z rt Q T, oL cy oq y] := wKo_D.mp hD
  have hx := B.exec
  have hb := B.bytes
  have hr := B.returns
  have hts := atoms_spec (ws := wsL_simulate) B.pre
  have hown : s.vm.findClass RL = some m.cls := findClass_of_methodNamed B.named
  have htb := vx_table (x := yL_simulate) B (hts (.codeWith yL_simulate cL_simulate 6 (some .int) [(0, 12, 15, 13)]) (List.mem_of_getElem? (i := 0) rfl))
  have hl := lv_entry ([.ref d0, .int p0, .int p1, .int p2, .ref oq]) (n := 6) (Nat.le_of_ble_eq_true rfl)
  rw [lg_entry_eq]
  generalize (lg_sl ([.ref d0, .int p0, .int p1, .int p2, .ref oq]) ++ List.replicate (6 - (lg_sl ([.ref d0, .int p0, .int p1, .int p2, .ref oq])).length) Slot.unset).toArray = ls at hl ⊢
  have hl : lv_has ls 6 [(0, .ref d0), (1, .int p0), (2, .int p1), (3, .int p2), (4, .ref oq)] := hl
  refine lv_aload hx hb dL_simulate_0 (lv_at hl 4 rfl) ?_
  refine lv_iconst (v := 0) hx hb dL_simulate_2 (by decide) ?_
  refine lv_aload_n hx hb dL_simulate_3 rfl (lv_at hl 0 rfl) ?_
  refine lv_iload_n hx hb dL_simulate_4 rfl (lv_at hl 1 rfl) ?_
  refine lv_iload_n hx hb dL_simulate_5 rfl (lv_at hl 2 rfl) ?_
  refine lv_iload_n hx hb dL_simulate_6 rfl (lv_at hl 3 rfl) ?_
  have hPc : va_P (dC, dI) vwCl (wObj d0 o F ++ (wCfg cy (o 0) bc G (nI n) sc ++ (wSim (o 5) z M ++ (wCfg cy (z 0) bq Gz (nI nz) scz ++ (wArr cy z rt Q T))))) s.heap := gl_P.mpr (hB.sub (bs' := [wObj d0 o F, wCfg cy (o 0) bc G (nI n) sc, wSim (o 5) z M, wCfg cy (z 0) bq Gz (nI nz) scz, wArr cy z rt Q T]) [0, 1, 6, 7, 8] rfl)
  have hDc : va_D A (wObj d0 o F ++ (wCfg cy (o 0) bc G (nI n) sc ++ (wSim (o 5) z M ++ (wCfg cy (z 0) bq Gz (nI nz) scz ++ (wArr cy z rt Q T))))) := gl_D.mpr (hBD.sub (bs' := [wObj d0 o F, wCfg cy (o 0) bc G (nI n) sc, wSim (o 5) z M, wCfg cy (z 0) bq Gz (nI nz) scz, wArr cy z rt Q T]) [0, 1, 6, 7, 8] (by decide) rfl)
  have hFc : ∀ q, va_A (wObj d0 o F ++ (wCfg cy (o 0) bc G (nI n) sc ++ (wSim (o 5) z M ++ (wCfg cy (z 0) bq Gz (nI nz) scz ++ (wArr cy z rt Q T))))) s.heap.size q → A q := BF (cb := [wObj d0 o F, wCfg cy (o 0) bc G (nI n) sc, wSim (o 5) z M, wCfg cy (z 0) bq Gz (nI nz) scz, wArr cy z rt Q T]) hBD hS hA [0, 1, 6, 7, 8] rfl
  refine vx_calli (vx_runV (As := [.int p0, .int p1, .int p2]) (rest := [.int 0, .ref oq]) ⟨hx, hb, hml, hown, hts⟩ (c_X4_simulate l hst dC dI cy s.heap.size d0 o F bc G n hn sc z M bq Gz nz hnz scz Q rt T p0 p1 p2 Gq hGq hok) (cwV 3 hts gL_simulate_X4_simulate rfl rfl rfl (by decide +kernel) ⟨Nat.le_of_ble_eq_true rfl, Nat.le_of_ble_eq_true rfl⟩) ⟨bl_X, va_recv hK hPc (ci := 4) (q0 := 0) rfl rfl, pr_X hPc hE hDc hX hZ hS hFc⟩ rfl rfl hl.1 rfl (lv_room (Nat.le_of_ble_eq_true rfl)) dL_simulate_7 ⟨Nat.le_of_ble_eq_true rfl, Nat.le_of_ble_eq_true rfl⟩) hS (fun q _ h => hFc q h) hFc (fun q _ h => hFc q h) (fun E ce q9 u t H1 locs ht hvm hpx hBX hz1 hk1 hS hce hcv hcl => ?_) (fun r u t H1 locs ht hvm hw hB9 hz1 hk1 hS => ?_)
  · obtain ⟨hBX, hPX⟩ := hBX
    obtain ⟨hP1, hD1⟩ := hPX
    rw [ht] at hP1
    obtain ⟨hBn, hDn⟩ := BJ (cb := [wObj d0 o F, wCfg cy (o 0) bc G (nI n) sc, wSim (o 5) z M, wCfg cy (z 0) bq Gz (nI nz) scz, wArr cy z rt Q T]) (rb := [wCfg cy (o 1) bt Gt (nI nt) sct, wHis cy (o 3) rg x kk cs bs RG rn RS, wCfg cy (o 2) bv Gv (nI nv9) scv, wTxt cy (o 4) ta tb C N (nI L) fl, oL cy oq y]) (nb := [wObj d0 o F, wCfg cy (o 0) bc G (nI n) sc, wSim (o 5) z M, wCfg cy (z 0) bq Gz (nI nz) scz, wArr cy z rt Q T]) hB hBD [0, 1, 6, 7, 8] [2, 3, 4, 5, 9] rfl rfl (by decide) (by decide) hk1 hFc hP1 hD1
    have hP : va_P (dC, dI) vwCl (wK cy (d0, o, bc, bt, bv, rg, cs, bs, ta, tb, z, bq, rt) ((F, (G, n, sc), (Gt, nt, sct), (x, kk, RG, rn, RS)), (Gv, nv9, scv), (C, N, L, fl), (M, (Gz, nz, scz), Q, T)) ++ oL cy oq y) H1 := wKo_P.mpr (hBn.sub (bs' := [wObj d0 o F, wCfg cy (o 0) bc G (nI n) sc, wCfg cy (o 1) bt Gt (nI nt) sct, wHis cy (o 3) rg x kk cs bs RG rn RS, wCfg cy (o 2) bv Gv (nI nv9) scv, wTxt cy (o 4) ta tb C N (nI L) fl, wSim (o 5) z M, wCfg cy (z 0) bq Gz (nI nz) scz, wArr cy z rt Q T, oL cy oq y]) [5, 6, 0, 1, 2, 3, 7, 8, 9, 4] rfl)
    have hD : va_D A (wK cy (d0, o, bc, bt, bv, rg, cs, bs, ta, tb, z, bq, rt) ((F, (G, n, sc), (Gt, nt, sct), (x, kk, RG, rn, RS)), (Gv, nv9, scv), (C, N, L, fl), (M, (Gz, nz, scz), Q, T)) ++ oL cy oq y) := wKo_D.mpr (hDn.sub (bs' := [wObj d0 o F, wCfg cy (o 0) bc G (nI n) sc, wCfg cy (o 1) bt Gt (nI nt) sct, wHis cy (o 3) rg x kk cs bs RG rn RS, wCfg cy (o 2) bv Gv (nI nv9) scv, wTxt cy (o 4) ta tb C N (nI L) fl, wSim (o 5) z M, wCfg cy (z 0) bq Gz (nI nz) scz, wArr cy z rt Q T, oL cy oq y]) [5, 6, 0, 1, 2, 3, 7, 8, 9, 4] (by decide) rfl)
    obtain ⟨rfl, hc9⟩ := hBX
    refine vx_catch (name := "java/lang/IllegalArgumentException") hown [] ⟨0, 12, 15, 13⟩ [] (htb.trans rfl) (fun z hz => by simp at hz) (by decide) (by decide) (hts (.classLink RL 13 "java/lang/IllegalArgumentException") (by decide +kernel)) (va_Nw.use rfl (hX.c 0 rfl)) hce hcv hcl ?_
    refine lv_astore (lv' := (5, .ref q9) :: [(0, .ref d0), (1, .int p0), (2, .int p1), (3, .int p2), (4, .ref oq)]) hx hb dL_simulate_15 hl (by decide) rfl (fun ls hl => ?_)
    refine lv_iconst (v := 1) hx hb dL_simulate_17 (by decide) ?_
    exact W.iret (v := 1) hx hb hr (fun t ht hW => ⟨⟨1, (((F, (G, n, sc), (Gt, nt, sct), (x, kk, RG, rn, RS)), (Gv, nv9, scv), (C, N, L, fl), (M, (Gz, nz, scz), Q, T)), y), rfl, Or.inr ⟨by decide, ⟨rfl, hc9, rfl⟩⟩, by rw [ht]; exact hP, hD⟩, hS.F ht⟩) hS.2.2 dL_simulate_18
  obtain ⟨F1, M1, Q1, T1⟩ := u
  obtain ⟨hP1, hD1⟩ := hB9
  rw [ht] at hP1
  obtain ⟨hBn, hDn⟩ := BJ (cb := [wObj d0 o F, wCfg cy (o 0) bc G (nI n) sc, wSim (o 5) z M, wCfg cy (z 0) bq Gz (nI nz) scz, wArr cy z rt Q T]) (rb := [wCfg cy (o 1) bt Gt (nI nt) sct, wHis cy (o 3) rg x kk cs bs RG rn RS, wCfg cy (o 2) bv Gv (nI nv9) scv, wTxt cy (o 4) ta tb C N (nI L) fl, oL cy oq y]) (nb := [wObj d0 o F1, wCfg cy (o 0) bc G (nI n) sc, wSim (o 5) z M1, wCfg cy (z 0) bq Gq (nI n) sc, wArr cy z rt Q1 T1]) hB hBD [0, 1, 6, 7, 8] [2, 3, 4, 5, 9] rfl rfl (by decide) (by decide) hk1 hFc hP1 hD1
  have hP : va_P (dC, dI) vwCl (wK cy (d0, o, bc, bt, bv, rg, cs, bs, ta, tb, z, bq, rt) ((F1, (G, n, sc), (Gt, nt, sct), (x, kk, RG, rn, RS)), (Gv, nv9, scv), (C, N, L, fl), (M1, (Gq, n, sc), Q1, T1)) ++ oL cy oq y) H1 := wKo_P.mpr (hBn.sub (bs' := [wObj d0 o F1, wCfg cy (o 0) bc G (nI n) sc, wCfg cy (o 1) bt Gt (nI nt) sct, wHis cy (o 3) rg x kk cs bs RG rn RS, wCfg cy (o 2) bv Gv (nI nv9) scv, wTxt cy (o 4) ta tb C N (nI L) fl, wSim (o 5) z M1, wCfg cy (z 0) bq Gq (nI n) sc, wArr cy z rt Q1 T1, oL cy oq y]) [5, 6, 0, 1, 2, 3, 7, 8, 9, 4] rfl)
  have hD : va_D A (wK cy (d0, o, bc, bt, bv, rg, cs, bs, ta, tb, z, bq, rt) ((F1, (G, n, sc), (Gt, nt, sct), (x, kk, RG, rn, RS)), (Gv, nv9, scv), (C, N, L, fl), (M1, (Gq, n, sc), Q1, T1)) ++ oL cy oq y) := wKo_D.mpr (hDn.sub (bs' := [wObj d0 o F1, wCfg cy (o 0) bc G (nI n) sc, wCfg cy (o 1) bt Gt (nI nt) sct, wHis cy (o 3) rg x kk cs bs RG rn RS, wCfg cy (o 2) bv Gv (nI nv9) scv, wTxt cy (o 4) ta tb C N (nI L) fl, wSim (o 5) z M1, wCfg cy (z 0) bq Gq (nI n) sc, wArr cy z rt Q1 T1, oL cy oq y]) [5, 6, 0, 1, 2, 3, 7, 8, 9, 4] (by decide) rfl)
  clear hz1 hk1
  generalize H1 = H at hP hS ⊢
  refine lv_i2l hx hb dL_simulate_10 rfl ?_
  refine vn_last hx hb hK hP hD hS 3 rfl dL_simulate_11 (fun H locs hP hD hS => ?_)
  refine lv_goto (tgt := 19) hx hb dL_simulate_12 (by decide) ?_
  refine lv_iconst (v := 0) hx hb dL_simulate_19 (by decide) ?_
  exact W.iret (v := 0) hx hb hr (fun t ht hW => ⟨⟨0, (((F1, (G, n, sc), (Gt, nt, sct), (x, kk, RG, rn, RS)), (Gv, nv9, scv), (C, N, L, fl), (M1, (Gq, n, sc), Q1, T1)), _), rfl, Or.inl ⟨rfl, r, ⟨F1, M1, Q1, T1, hw, rfl⟩, rfl⟩, by rw [ht]; exact hP, hD⟩, hS.F ht⟩) hS.2.2 dL_simulate_20

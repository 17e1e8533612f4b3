/-! PART 75: the law's own methods: reads -/
set_option maxHeartbeats 1000000 in
set_option maxRecDepth 100000 in
/-- the law's period -/
theorem c_L_period (l : Launch) (hst : l.stackTraces = false) (dC : Nat → ClassId) (dI : Nat → Nat → Nat) (cy : Nat → ClassId) (sz : Nat) (d0 : Nat) (o bc bt bv : Nat → Nat) (rg : Nat) (cs : Nat → Nat) (bs : Nat → Nat → Nat) (ta tb : Nat) (z bq rt : Nat → Nat) (F : Nat → Int32) (G : vG) (n : Nat) (sc : Int32) (Gt : vG) (nt : Nat) (sct : Int32) (x kk : Nat) (RG : Nat → vG) (rn : Nat → Nat) (RS : Nat → Int32) (Gv : vG) (nv9 : Nat) (scv : Int32) (C N : Nat → Int32) (L : Nat) (fl : Int32) (M : Nat → Int32) (Gz : vG) (nz : Nat) (scz : Int32) (Q T : vG) (hk : KOk ((F, (G, n, sc), (Gt, nt, sct), (x, kk, RG, rn, RS)), (Gv, nv9, scv), (C, N, L, fl), (M, (Gz, nz, scz), Q, T))) (oq : Nat) (y : Int64) (p0 : Int32) : metL l yL_period wsL_period ({ frames := 8, cells := 1, slots := 6, locals := 124 }) [.ref d0, .int p0, .ref oq] dC dI cy (d0, o, bc, bt, bv, rg, cs, bs, ta, tb, z, bq, rt) oq sz ((F, (G, n, sc), (Gt, nt, sct), (x, kk, RG, rn, RS)), (Gv, nv9, scv), (C, N, L, fl), (M, (Gz, nz, scz), Q, T)) y (rdL ((F, (G, n, sc), (Gt, nt, sct), (x, kk, RG, rn, RS)), (Gv, nv9, scv), (C, N, L, fl), (M, (Gz, nz, scz), Q, T)) (cT n p0) ((per G p0.toNatClampNeg).toInt64)) 1 6 := by
  unfold metL
  refine vn_ofH (cc := cL_period) (maxL := 4) (ret := some .int) (hh := [(0, 9, 12, 28)]) (by decide) rfl ?_
  intro p e s m args below meth c s₁ B hml hv
  obtain ⟨rfl, hsz, hP, hE, hD0, hX, hZ, hV⟩ := hv
  have hK := hE.1
  subst hsz
  have hD := hD0.self (sz := s.heap.size)
  generalize hAe : va_A (wK cy (d0, o, bc, bt, bv, rg, cs, bs, ta, tb, z, bq, rt) ((F, (G, n, sc), (Gt, nt, sct), (x, kk, RG, rn, RS)), (Gv, nv9, scv), (C, N, L, fl), (M, (Gz, nz, scz), Q, T)) ++ oL cy oq y) s.heap.size = A at hD hZ ⊢
  have hA : ∀ q : Nat, s.heap.size ≤ q → A q := fun q h => by rw [← hAe]; exact Or.inr h
  have hS : va_S A s.heap s.heap [] := va_S.rf
  obtain ⟨hn, hnt, hx6, hkk, hrn, hnv, hL, hnz, hG, hsc, hd0, hd1, hGR⟩ := hk
  have hB : BP (dC, dI) vwCl [wObj d0 o F, wCfg cy (o 0) bc G (nI n) sc, wCfg cy (o 1) bt Gt (nI nt) sct, wHis cy (o 3) rg x kk cs bs RG rn RS, wCfg cy (o 2) bv Gv (nI nv9) scv, wTxt cy (o 4) ta tb C N (nI L) fl, wSim (o 5) z M, wCfg cy (z 0) bq Gz (nI nz) scz, wArr cy z rt Q T, oL cy oq y] s.heap := wKo_P.mp hP
  have hBD : BD A [wObj d0 o F, wCfg cy (o 0) bc G (nI n) sc, wCfg cy (o 1) bt Gt (nI nt) sct, wHis cy (o 3) rg x kk cs bs RG rn RS, wCfg cy (o 2) bv Gv (nI nv9) scv, wTxt cy (o 4) ta tb C N (nI L) fl, wSim (o 5) z M, wCfg cy (z 0) bq Gz (nI nz) scz, wArr cy z rt Q T, oL cy oq y] := wKo_D.mp hD
  have hx := B.exec
  have hb := B.bytes
  have hr := B.returns
  have hts := atoms_spec (ws := wsL_period) B.pre
  have hown : s.vm.findClass RL = some m.cls := findClass_of_methodNamed B.named
  have htb := vx_table (x := yL_period) B (hts (.codeWith yL_period cL_period 4 (some .int) [(0, 9, 12, 28)]) (List.mem_of_getElem? (i := 0) rfl))
  have hl := lv_entry ([.ref d0, .int p0, .ref oq]) (n := 4) (Nat.le_of_ble_eq_true rfl)
  rw [lg_entry_eq]
  generalize (lg_sl ([.ref d0, .int p0, .ref oq]) ++ List.replicate (4 - (lg_sl ([.ref d0, .int p0, .ref oq])).length) Slot.unset).toArray = ls at hl ⊢
  have hl : lv_has ls 4 [(0, .ref d0), (1, .int p0), (2, .ref oq)] := hl
  refine lv_aload_n hx hb dL_period_0 rfl (lv_at hl 2 rfl) ?_
  refine lv_iconst (v := 0) hx hb dL_period_1 (by decide) ?_
  refine lv_aload_n hx hb dL_period_2 rfl (lv_at hl 0 rfl) ?_
  refine lv_iload_n hx hb dL_period_3 rfl (lv_at hl 1 rfl) ?_
  have hPc : va_P (dC, dI) vwCl (wObj d0 o F ++ (wCfg cy (o 0) bc G (nI n) sc)) s.heap := gl_P.mpr (hB.sub (bs' := [wObj d0 o F, wCfg cy (o 0) bc G (nI n) sc]) [0, 1] rfl)
  refine vx_calli (vx_runV (As := [.int p0]) (rest := [.int 0, .ref oq]) ⟨hx, hb, hml, hown, hts⟩ (c_X4_period l hst dC dI cy s.heap.size d0 o F bc G n hn sc p0) (cwV 1 hts gL_period_X4_period rfl rfl rfl (by decide +kernel) ⟨Nat.le_of_ble_eq_true rfl, Nat.le_of_ble_eq_true rfl⟩) ⟨bl_R, va_recv hK hPc (ci := 4) (q0 := 0) rfl rfl, pr_R hPc hE hX hZ hS hA⟩ rfl rfl hl.1 rfl (lv_room (Nat.le_of_ble_eq_true rfl)) dL_period_4 ⟨Nat.le_of_ble_eq_true rfl, Nat.le_of_ble_eq_true rfl⟩) hS (fun q _ h => hA q (Nat.le_trans hS.1 h)) (fun q h => hA q (Nat.le_trans hS.1 h)) (fun q _ h => hA q (Nat.le_trans hS.1 h)) (fun E ce q9 u t H1 locs ht hvm hpx hBX hz1 hk1 hS hce hcv hcl => ?_) (fun r u t H1 locs ht hvm hw hB9 hz1 hk1 hS => ?_)
  · have hP : va_P (dC, dI) vwCl (wK cy (d0, o, bc, bt, bv, rg, cs, bs, ta, tb, z, bq, rt) ((F, (G, n, sc), (Gt, nt, sct), (x, kk, RG, rn, RS)), (Gv, nv9, scv), (C, N, L, fl), (M, (Gz, nz, scz), Q, T)) ++ oL cy oq y) H1 := wKo_P.mpr (hB.kept (fun q h => hk1 q h (Nat.not_le.mpr h)))
    obtain ⟨rfl, hc9⟩ := hBX
    refine vx_catch (name := "java/lang/IndexOutOfBoundsException") hown [] ⟨0, 9, 12, 28⟩ [] (htb.trans rfl) (fun z hz => by simp at hz) (by decide) (by decide) (hts (.classLink RL 28 "java/lang/IndexOutOfBoundsException") (by decide +kernel)) (va_Nw.use rfl (hX.c 2 rfl)) hce hcv hcl ?_
    refine lv_astore_n (lv' := (3, .ref q9) :: [(0, .ref d0), (1, .int p0), (2, .ref oq)]) hx hb dL_period_12 rfl hl (by decide) rfl (fun ls hl => ?_)
    refine lv_iconst (v := 1) hx hb dL_period_13 (by decide) ?_
    exact W.iret (v := 1) hx hb hr (fun t ht hW => ⟨⟨1, (((F, (G, n, sc), (Gt, nt, sct), (x, kk, RG, rn, RS)), (Gv, nv9, scv), (C, N, L, fl), (M, (Gz, nz, scz), Q, T)), y), rfl, ⟨rfl, hc9.symm, fun h9 => absurd (hc9.symm.trans h9) (by decide)⟩, by rw [ht]; exact hP, hD⟩, hS.F ht⟩) hS.2.2 dL_period_14
  obtain ⟨hc9, rfl⟩ := hw
  have hP : va_P (dC, dI) vwCl (wK cy (d0, o, bc, bt, bv, rg, cs, bs, ta, tb, z, bq, rt) ((F, (G, n, sc), (Gt, nt, sct), (x, kk, RG, rn, RS)), (Gv, nv9, scv), (C, N, L, fl), (M, (Gz, nz, scz), Q, T)) ++ oL cy oq y) H1 := wKo_P.mpr (hB.kept (fun q h => hk1 q h (Nat.not_le.mpr h)))
  clear hz1 hk1
  generalize H1 = H at hP hS ⊢
  refine lv_i2l hx hb dL_period_7 rfl ?_
  refine vn_last hx hb hK hP hD hS 3 rfl dL_period_8 (fun H locs hP hD hS => ?_)
  refine lv_goto (tgt := 15) hx hb dL_period_9 (by decide) ?_
  refine lv_iconst (v := 0) hx hb dL_period_15 (by decide) ?_
  exact W.iret (v := 0) hx hb hr (fun t ht hW => ⟨⟨0, (((F, (G, n, sc), (Gt, nt, sct), (x, kk, RG, rn, RS)), (Gv, nv9, scv), (C, N, L, fl), (M, (Gz, nz, scz), Q, T)), _), rfl, ⟨rfl, hc9.symm, fun _ => rfl⟩, by rw [ht]; exact hP, hD⟩, hS.F ht⟩) hS.2.2 dL_period_16
set_option maxHeartbeats 1000000 in
set_option maxRecDepth 100000 in
/-- the law's deadline -/
theorem c_L_deadline (l : Launch) (hst : l.stackTraces = false) (dC : Nat → ClassId) (dI : Nat → Nat → Nat) (cy : Nat → ClassId) (sz : Nat) (d0 : Nat) (o bc bt bv : Nat → Nat) (rg : Nat) (cs : Nat → Nat) (bs : Nat → Nat → Nat) (ta tb : Nat) (z bq rt : Nat → Nat) (F : Nat → Int32) (G : vG) (n : Nat) (sc : Int32) (Gt : vG) (nt : Nat) (sct : Int32) (x kk : Nat) (RG : Nat → vG) (rn : Nat → Nat) (RS : Nat → Int32) (Gv : vG) (nv9 : Nat) (scv : Int32) (C N : Nat → Int32) (L : Nat) (fl : Int32) (M : Nat → Int32) (Gz : vG) (nz : Nat) (scz : Int32) (Q T : vG) (hk : KOk ((F, (G, n, sc), (Gt, nt, sct), (x, kk, RG, rn, RS)), (Gv, nv9, scv), (C, N, L, fl), (M, (Gz, nz, scz), Q, T))) (oq : Nat) (y : Int64) (p0 : Int32) : metL l yL_deadline wsL_deadline ({ frames := 8, cells := 1, slots := 6, locals := 124 }) [.ref d0, .int p0, .ref oq] dC dI cy (d0, o, bc, bt, bv, rg, cs, bs, ta, tb, z, bq, rt) oq sz ((F, (G, n, sc), (Gt, nt, sct), (x, kk, RG, rn, RS)), (Gv, nv9, scv), (C, N, L, fl), (M, (Gz, nz, scz), Q, T)) y (rdL ((F, (G, n, sc), (Gt, nt, sct), (x, kk, RG, rn, RS)), (Gv, nv9, scv), (C, N, L, fl), (M, (Gz, nz, scz), Q, T)) (cT n p0) ((G 1 p0.toNatClampNeg).toInt64)) 1 6 := by
  unfold metL
  refine vn_ofH (cc := cL_deadline) (maxL := 4) (ret := some .int) (hh := [(0, 9, 12, 28)]) (by decide) rfl ?_
  intro p e s m args below meth c s₁ B hml hv
  obtain ⟨rfl, hsz, hP, hE, hD0, hX, hZ, hV⟩ := hv
  have hK := hE.1
  subst hsz
  have hD := hD0.self (sz := s.heap.size)
  generalize hAe : va_A (wK cy (d0, o, bc, bt, bv, rg, cs, bs, ta, tb, z, bq, rt) ((F, (G, n, sc), (Gt, nt, sct), (x, kk, RG, rn, RS)), (Gv, nv9, scv), (C, N, L, fl), (M, (Gz, nz, scz), Q, T)) ++ oL cy oq y) s.heap.size = A at hD hZ ⊢
  have hA : ∀ q : Nat, s.heap.size ≤ q → A q := fun q h => by rw [← hAe]; exact Or.inr h
  have hS : va_S A s.heap s.heap [] := va_S.rf
  obtain ⟨hn, hnt, hx6, hkk, hrn, hnv, hL, hnz, hG, hsc, hd0, hd1, hGR⟩ := hk
  have hB : BP (dC, dI) vwCl [wObj d0 o F, wCfg cy (o 0) bc G (nI n) sc, wCfg cy (o 1) bt Gt (nI nt) sct, wHis cy (o 3) rg x kk cs bs RG rn RS, wCfg cy (o 2) bv Gv (nI nv9) scv, wTxt cy (o 4) ta tb C N (nI L) fl, wSim (o 5) z M, wCfg cy (z 0) bq Gz (nI nz) scz, wArr cy z rt Q T, oL cy oq y] s.heap := wKo_P.mp hP
  have hBD : BD A [wObj d0 o F, wCfg cy (o 0) bc G (nI n) sc, wCfg cy (o 1) bt Gt (nI nt) sct, wHis cy (o 3) rg x kk cs bs RG rn RS, wCfg cy (o 2) bv Gv (nI nv9) scv, wTxt cy (o 4) ta tb C N (nI L) fl, wSim (o 5) z M, wCfg cy (z 0) bq Gz (nI nz) scz, wArr cy z rt Q T, oL cy oq y] := wKo_D.mp hD
  have hx := B.exec
  have hb := B.bytes
  have hr := B.returns
  have hts := atoms_spec (ws := wsL_deadline) B.pre
  have hown : s.vm.findClass RL = some m.cls := findClass_of_methodNamed B.named
  have htb := vx_table (x := yL_deadline) B (hts (.codeWith yL_deadline cL_deadline 4 (some .int) [(0, 9, 12, 28)]) (List.mem_of_getElem? (i := 0) rfl))
  have hl := lv_entry ([.ref d0, .int p0, .ref oq]) (n := 4) (Nat.le_of_ble_eq_true rfl)
  rw [lg_entry_eq]
  generalize (lg_sl ([.ref d0, .int p0, .ref oq]) ++ List.replicate (4 - (lg_sl ([.ref d0, .int p0, .ref oq])).length) Slot.unset).toArray = ls at hl ⊢
  have hl : lv_has ls 4 [(0, .ref d0), (1, .int p0), (2, .ref oq)] := hl
  refine lv_aload_n hx hb dL_deadline_0 rfl (lv_at hl 2 rfl) ?_
  refine lv_iconst (v := 0) hx hb dL_deadline_1 (by decide) ?_
  refine lv_aload_n hx hb dL_deadline_2 rfl (lv_at hl 0 rfl) ?_
  refine lv_iload_n hx hb dL_deadline_3 rfl (lv_at hl 1 rfl) ?_
  have hPc : va_P (dC, dI) vwCl (wObj d0 o F ++ (wCfg cy (o 0) bc G (nI n) sc)) s.heap := gl_P.mpr (hB.sub (bs' := [wObj d0 o F, wCfg cy (o 0) bc G (nI n) sc]) [0, 1] rfl)
  refine vx_calli (vx_runV (As := [.int p0]) (rest := [.int 0, .ref oq]) ⟨hx, hb, hml, hown, hts⟩ (c_X4_deadline l hst dC dI cy s.heap.size d0 o F bc G n hn sc p0) (cwV 1 hts gL_deadline_X4_deadline rfl rfl rfl (by decide +kernel) ⟨Nat.le_of_ble_eq_true rfl, Nat.le_of_ble_eq_true rfl⟩) ⟨bl_R, va_recv hK hPc (ci := 4) (q0 := 0) rfl rfl, pr_R hPc hE hX hZ hS hA⟩ rfl rfl hl.1 rfl (lv_room (Nat.le_of_ble_eq_true rfl)) dL_deadline_4 ⟨Nat.le_of_ble_eq_true rfl, Nat.le_of_ble_eq_true rfl⟩) hS (fun q _ h => hA q (Nat.le_trans hS.1 h)) (fun q h => hA q (Nat.le_trans hS.1 h)) (fun q _ h => hA q (Nat.le_trans hS.1 h)) (fun E ce q9 u t H1 locs ht hvm hpx hBX hz1 hk1 hS hce hcv hcl => ?_) (fun r u t H1 locs ht hvm hw hB9 hz1 hk1 hS => ?_)
  · have hP : va_P (dC, dI) vwCl (wK cy (d0, o, bc, bt, bv, rg, cs, bs, ta, tb, z, bq, rt) ((F, (G, n, sc), (Gt, nt, sct), (x, kk, RG, rn, RS)), (Gv, nv9, scv), (C, N, L, fl), (M, (Gz, nz, scz), Q, T)) ++ oL cy oq y) H1 := wKo_P.mpr (hB.kept (fun q h => hk1 q h (Nat.not_le.mpr h)))
    obtain ⟨rfl, hc9⟩ := hBX
    refine vx_catch (name := "java/lang/IndexOutOfBoundsException") hown [] ⟨0, 9, 12, 28⟩ [] (htb.trans rfl) (fun z hz => by simp at hz) (by decide) (by decide) (hts (.classLink RL 28 "java/lang/IndexOutOfBoundsException") (by decide +kernel)) (va_Nw.use rfl (hX.c 2 rfl)) hce hcv hcl ?_
    refine lv_astore_n (lv' := (3, .ref q9) :: [(0, .ref d0), (1, .int p0), (2, .ref oq)]) hx hb dL_deadline_12 rfl hl (by decide) rfl (fun ls hl => ?_)
    refine lv_iconst (v := 1) hx hb dL_deadline_13 (by decide) ?_
    exact W.iret (v := 1) hx hb hr (fun t ht hW => ⟨⟨1, (((F, (G, n, sc), (Gt, nt, sct), (x, kk, RG, rn, RS)), (Gv, nv9, scv), (C, N, L, fl), (M, (Gz, nz, scz), Q, T)), y), rfl, ⟨rfl, hc9.symm, fun h9 => absurd (hc9.symm.trans h9) (by decide)⟩, by rw [ht]; exact hP, hD⟩, hS.F ht⟩) hS.2.2 dL_deadline_14
  obtain ⟨hc9, rfl⟩ := hw
  have hP : va_P (dC, dI) vwCl (wK cy (d0, o, bc, bt, bv, rg, cs, bs, ta, tb, z, bq, rt) ((F, (G, n, sc), (Gt, nt, sct), (x, kk, RG, rn, RS)), (Gv, nv9, scv), (C, N, L, fl), (M, (Gz, nz, scz), Q, T)) ++ oL cy oq y) H1 := wKo_P.mpr (hB.kept (fun q h => hk1 q h (Nat.not_le.mpr h)))
  clear hz1 hk1
  generalize H1 = H at hP hS ⊢
  refine lv_i2l hx hb dL_deadline_7 rfl ?_
  refine vn_last hx hb hK hP hD hS 3 rfl dL_deadline_8 (fun H locs hP hD hS => ?_)
  refine lv_goto (tgt := 15) hx hb dL_deadline_9 (by decide) ?_
  refine lv_iconst (v := 0) hx hb dL_deadline_15 (by decide) ?_
  exact W.iret (v := 0) hx hb hr (fun t ht hW => ⟨⟨0, (((F, (G, n, sc), (Gt, nt, sct), (x, kk, RG, rn, RS)), (Gv, nv9, scv), (C, N, L, fl), (M, (Gz, nz, scz), Q, T)), _), rfl, ⟨rfl, hc9.symm, fun _ => rfl⟩, by rw [ht]; exact hP, hD⟩, hS.F ht⟩) hS.2.2 dL_deadline_16
set_option maxHeartbeats 1000000 in
set_option maxRecDepth 100000 in
/-- the law's virtualDeadline -/
theorem c_L_virtualDeadline (l : Launch) (hst : l.stackTraces = false) (dC : Nat → ClassId) (dI : Nat → Nat → Nat) (cy : Nat → ClassId) (sz : Nat) (d0 : Nat) (o bc bt bv : Nat → Nat) (rg : Nat) (cs : Nat → Nat) (bs : Nat → Nat → Nat) (ta tb : Nat) (z bq rt : Nat → Nat) (F : Nat → Int32) (G : vG) (n : Nat) (sc : Int32) (Gt : vG) (nt : Nat) (sct : Int32) (x kk : Nat) (RG : Nat → vG) (rn : Nat → Nat) (RS : Nat → Int32) (Gv : vG) (nv9 : Nat) (scv : Int32) (C N : Nat → Int32) (L : Nat) (fl : Int32) (M : Nat → Int32) (Gz : vG) (nz : Nat) (scz : Int32) (Q T : vG) (hk : KOk ((F, (G, n, sc), (Gt, nt, sct), (x, kk, RG, rn, RS)), (Gv, nv9, scv), (C, N, L, fl), (M, (Gz, nz, scz), Q, T))) (oq : Nat) (y : Int64) (p0 : Int32) : metL l yL_virtualDeadline wsL_virtualDeadline ({ frames := 8, cells := 1, slots := 6, locals := 124 }) [.ref d0, .int p0, .ref oq] dC dI cy (d0, o, bc, bt, bv, rg, cs, bs, ta, tb, z, bq, rt) oq sz ((F, (G, n, sc), (Gt, nt, sct), (x, kk, RG, rn, RS)), (Gv, nv9, scv), (C, N, L, fl), (M, (Gz, nz, scz), Q, T)) y (rdL ((F, (G, n, sc), (Gt, nt, sct), (x, kk, RG, rn, RS)), (Gv, nv9, scv), (C, N, L, fl), (M, (Gz, nz, scz), Q, T)) (cT n p0) ((vdl G sc p0.toNatClampNeg).toInt64)) 1 6 := by
  unfold metL
  refine vn_ofH (cc := cL_virtualDeadline) (maxL := 4) (ret := some .int) (hh := [(0, 9, 12, 28)]) (by decide) rfl ?_
  intro p e s m args below meth c s₁ B hml hv
  obtain ⟨rfl, hsz, hP, hE, hD0, hX, hZ, hV⟩ := hv
  have hK := hE.1
  subst hsz
  have hD := hD0.self (sz := s.heap.size)
  generalize hAe : va_A (wK cy (d0, o, bc, bt, bv, rg, cs, bs, ta, tb, z, bq, rt) ((F, (G, n, sc), (Gt, nt, sct), (x, kk, RG, rn, RS)), (Gv, nv9, scv), (C, N, L, fl), (M, (Gz, nz, scz), Q, T)) ++ oL cy oq y) s.heap.size = A at hD hZ ⊢
  have hA : ∀ q : Nat, s.heap.size ≤ q → A q := fun q h => by rw [← hAe]; exact Or.inr h
  have hS : va_S A s.heap s.heap [] := va_S.rf
  obtain ⟨hn, hnt, hx6, hkk, hrn, hnv, hL, hnz, hG, hsc, hd0, hd1, hGR⟩ := hk
  have hB : BP (dC, dI) vwCl [wObj d0 o F, wCfg cy (o 0) bc G (nI n) sc, wCfg cy (o 1) bt Gt (nI nt) sct, wHis cy (o 3) rg x kk cs bs RG rn RS, wCfg cy (o 2) bv Gv (nI nv9) scv, wTxt cy (o 4) ta tb C N (nI L) fl, wSim (o 5) z M, wCfg cy (z 0) bq Gz (nI nz) scz, wArr cy z rt Q T, oL cy oq y] s.heap := wKo_P.mp hP
  have hBD : BD A [wObj d0 o F, wCfg cy (o 0) bc G (nI n) sc, wCfg cy (o 1) bt Gt (nI nt) sct, wHis cy (o 3) rg x kk cs bs RG rn RS, wCfg cy (o 2) bv Gv (nI nv9) scv, wTxt cy (o 4) ta tb C N (nI L) fl, wSim (o 5) z M, wCfg cy (z 0) bq Gz (nI nz) scz, wArr cy z rt Q T, oL cy oq y] := wKo_D.mp hD
  have hx := B.exec
  have hb := B.bytes
  have hr := B.returns
  have hts := atoms_spec (ws := wsL_virtualDeadline) B.pre
  have hown : s.vm.findClass RL = some m.cls := findClass_of_methodNamed B.named
  have htb := vx_table (x := yL_virtualDeadline) B (hts (.codeWith yL_virtualDeadline cL_virtualDeadline 4 (some .int) [(0, 9, 12, 28)]) (List.mem_of_getElem? (i := 0) rfl))
  have hl := lv_entry ([.ref d0, .int p0, .ref oq]) (n := 4) (Nat.le_of_ble_eq_true rfl)
  rw [lg_entry_eq]
  generalize (lg_sl ([.ref d0, .int p0, .ref oq]) ++ List.replicate (4 - (lg_sl ([.ref d0, .int p0, .ref oq])).length) Slot.unset).toArray = ls at hl ⊢
  have hl : lv_has ls 4 [(0, .ref d0), (1, .int p0), (2, .ref oq)] := hl
  refine lv_aload_n hx hb dL_virtualDeadline_0 rfl (lv_at hl 2 rfl) ?_
  refine lv_iconst (v := 0) hx hb dL_virtualDeadline_1 (by decide) ?_
  refine lv_aload_n hx hb dL_virtualDeadline_2 rfl (lv_at hl 0 rfl) ?_
  refine lv_iload_n hx hb dL_virtualDeadline_3 rfl (lv_at hl 1 rfl) ?_
  have hPc : va_P (dC, dI) vwCl (wObj d0 o F ++ (wCfg cy (o 0) bc G (nI n) sc)) s.heap := gl_P.mpr (hB.sub (bs' := [wObj d0 o F, wCfg cy (o 0) bc G (nI n) sc]) [0, 1] rfl)
  refine vx_calli (vx_runV (As := [.int p0]) (rest := [.int 0, .ref oq]) ⟨hx, hb, hml, hown, hts⟩ (c_X4_virtualDeadline l hst dC dI cy s.heap.size d0 o F bc G n hn sc p0) (cwV 1 hts gL_virtualDeadline_X4_virtualDeadline rfl rfl rfl (by decide +kernel) ⟨Nat.le_of_ble_eq_true rfl, Nat.le_of_ble_eq_true rfl⟩) ⟨bl_R, va_recv hK hPc (ci := 4) (q0 := 0) rfl rfl, pr_R hPc hE hX hZ hS hA⟩ rfl rfl hl.1 rfl (lv_room (Nat.le_of_ble_eq_true rfl)) dL_virtualDeadline_4 ⟨Nat.le_of_ble_eq_true rfl, Nat.le_of_ble_eq_true rfl⟩) hS (fun q _ h => hA q (Nat.le_trans hS.1 h)) (fun q h => hA q (Nat.le_trans hS.1 h)) (fun q _ h => hA q (Nat.le_trans hS.1 h)) (fun E ce q9 u t H1 locs ht hvm hpx hBX hz1 hk1 hS hce hcv hcl => ?_) (fun r u t H1 locs ht hvm hw hB9 hz1 hk1 hS => ?_)
  · have hP : va_P (dC, dI) vwCl (wK cy (d0, o, bc, bt, bv, rg, cs, bs, ta, tb, z, bq, rt) ((F, (G, n, sc), (Gt, nt, sct), (x, kk, RG, rn, RS)), (Gv, nv9, scv), (C, N, L, fl), (M, (Gz, nz, scz), Q, T)) ++ oL cy oq y) H1 := wKo_P.mpr (hB.kept (fun q h => hk1 q h (Nat.not_le.mpr h)))
    obtain ⟨rfl, hc9⟩ := hBX
    refine vx_catch (name := "java/lang/IndexOutOfBoundsException") hown [] ⟨0, 9, 12, 28⟩ [] (htb.trans rfl) (fun z hz => by simp at hz) (by decide) (by decide) (hts (.classLink RL 28 "java/lang/IndexOutOfBoundsException") (by decide +kernel)) (va_Nw.use rfl (hX.c 2 rfl)) hce hcv hcl ?_
    refine lv_astore_n (lv' := (3, .ref q9) :: [(0, .ref d0), (1, .int p0), (2, .ref oq)]) hx hb dL_virtualDeadline_12 rfl hl (by decide) rfl (fun ls hl => ?_)
    refine lv_iconst (v := 1) hx hb dL_virtualDeadline_13 (by decide) ?_
    exact W.iret (v := 1) hx hb hr (fun t ht hW => ⟨⟨1, (((F, (G, n, sc), (Gt, nt, sct), (x, kk, RG, rn, RS)), (Gv, nv9, scv), (C, N, L, fl), (M, (Gz, nz, scz), Q, T)), y), rfl, ⟨rfl, hc9.symm, fun h9 => absurd (hc9.symm.trans h9) (by decide)⟩, by rw [ht]; exact hP, hD⟩, hS.F ht⟩) hS.2.2 dL_virtualDeadline_14
  obtain ⟨hc9, rfl⟩ := hw
  have hP : va_P (dC, dI) vwCl (wK cy (d0, o, bc, bt, bv, rg, cs, bs, ta, tb, z, bq, rt) ((F, (G, n, sc), (Gt, nt, sct), (x, kk, RG, rn, RS)), (Gv, nv9, scv), (C, N, L, fl), (M, (Gz, nz, scz), Q, T)) ++ oL cy oq y) H1 := wKo_P.mpr (hB.kept (fun q h => hk1 q h (Nat.not_le.mpr h)))
  clear hz1 hk1
  generalize H1 = H at hP hS ⊢
  refine lv_i2l hx hb dL_virtualDeadline_7 rfl ?_
  refine vn_last hx hb hK hP hD hS 3 rfl dL_virtualDeadline_8 (fun H locs hP hD hS => ?_)
  refine lv_goto (tgt := 15) hx hb dL_virtualDeadline_9 (by decide) ?_
  refine lv_iconst (v := 0) hx hb dL_virtualDeadline_15 (by decide) ?_
  exact W.iret (v := 0) hx hb hr (fun t ht hW => ⟨⟨0, (((F, (G, n, sc), (Gt, nt, sct), (x, kk, RG, rn, RS)), (Gv, nv9, scv), (C, N, L, fl), (M, (Gz, nz, scz), Q, T)), _), rfl, ⟨rfl, hc9.symm, fun _ => rfl⟩, by rw [ht]; exact hP, hD⟩, hS.F ht⟩) hS.2.2 dL_virtualDeadline_16
set_option maxHeartbeats 1000000 in
set_option maxRecDepth 100000 in
/-- the law's level -/
theorem c_L_level (l : Launch) (hst : l.stackTraces = false) (dC : Nat → ClassId) (dI : Nat → Nat → Nat) (cy : Nat → ClassId) (sz : Nat) (d0 : Nat) (o bc bt bv : Nat → Nat) (rg : Nat) (cs : Nat → Nat) (bs : Nat → Nat → Nat) (ta tb : Nat) (z bq rt : Nat → Nat) (F : Nat → Int32) (G : vG) (n : Nat) (sc : Int32) (Gt : vG) (nt : Nat) (sct : Int32) (x kk : Nat) (RG : Nat → vG) (rn : Nat → Nat) (RS : Nat → Int32) (Gv : vG) (nv9 : Nat) (scv : Int32) (C N : Nat → Int32) (L : Nat) (fl : Int32) (M : Nat → Int32) (Gz : vG) (nz : Nat) (scz : Int32) (Q T : vG) (hk : KOk ((F, (G, n, sc), (Gt, nt, sct), (x, kk, RG, rn, RS)), (Gv, nv9, scv), (C, N, L, fl), (M, (Gz, nz, scz), Q, T))) (oq : Nat) (y : Int64) (p0 : Int32) : metL l yL_level wsL_level ({ frames := 8, cells := 1, slots := 6, locals := 124 }) [.ref d0, .int p0, .ref oq] dC dI cy (d0, o, bc, bt, bv, rg, cs, bs, ta, tb, z, bq, rt) oq sz ((F, (G, n, sc), (Gt, nt, sct), (x, kk, RG, rn, RS)), (Gv, nv9, scv), (C, N, L, fl), (M, (Gz, nz, scz), Q, T)) y (rdL ((F, (G, n, sc), (Gt, nt, sct), (x, kk, RG, rn, RS)), (Gv, nv9, scv), (C, N, L, fl), (M, (Gz, nz, scz), Q, T)) (cT n p0) ((G 6 p0.toNatClampNeg).toInt64)) 1 6 := by
  unfold metL
  refine vn_ofH (cc := cL_level) (maxL := 4) (ret := some .int) (hh := [(0, 9, 12, 28)]) (by decide) rfl ?_
  intro p e s m args below meth c s₁ B hml hv
  obtain ⟨rfl, hsz, hP, hE, hD0, hX, hZ, hV⟩ := hv
  have hK := hE.1
  subst hsz
  have hD := hD0.self (sz := s.heap.size)
  generalize hAe : va_A (wK cy (d0, o, bc, bt, bv, rg, cs, bs, ta, tb, z, bq, rt) ((F, (G, n, sc), (Gt, nt, sct), (x, kk, RG, rn, RS)), (Gv, nv9, scv), (C, N, L, fl), (M, (Gz, nz, scz), Q, T)) ++ oL cy oq y) s.heap.size = A at hD hZ ⊢
  have hA : ∀ q : Nat, s.heap.size ≤ q → A q := fun q h => by rw [← hAe]; exact Or.inr h
  have hS : va_S A s.heap s.heap [] := va_S.rf
  obtain ⟨hn, hnt, hx6, hkk, hrn, hnv, hL, hnz, hG, hsc, hd0, hd1, hGR⟩ := hk
  have hB : BP (dC, dI) vwCl [wObj d0 o F, wCfg cy (o 0) bc G (nI n) sc, wCfg cy (o 1) bt Gt (nI nt) sct, wHis cy (o 3) rg x kk cs bs RG rn RS, wCfg cy (o 2) bv Gv (nI nv9) scv, wTxt cy (o 4) ta tb C N (nI L) fl, wSim (o 5) z M, wCfg cy (z 0) bq Gz (nI nz) scz, wArr cy z rt Q T, oL cy oq y] s.heap := wKo_P.mp hP
  have hBD : BD A [wObj d0 o F, wCfg cy (o 0) bc G (nI n) sc, wCfg cy (o 1) bt Gt (nI nt) sct, wHis cy (o 3) rg x kk cs bs RG rn RS, wCfg cy (o 2) bv Gv (nI nv9) scv, wTxt cy (o 4) ta tb C N (nI L) fl, wSim (o 5) z M, wCfg cy (z 0) bq Gz (nI nz) scz, wArr cy z rt Q T, oL cy oq y] := wKo_D.mp hD
  have hx := B.exec
  have hb := B.bytes
  have hr := B.returns
  have hts := atoms_spec (ws := wsL_level) B.pre
  have hown : s.vm.findClass RL = some m.cls := findClass_of_methodNamed B.named
  have htb := vx_table (x := yL_level) B (hts (.codeWith yL_level cL_level 4 (some .int) [(0, 9, 12, 28)]) (List.mem_of_getElem? (i := 0) rfl))
  have hl := lv_entry ([.ref d0, .int p0, .ref oq]) (n := 4) (Nat.le_of_ble_eq_true rfl)
  rw [lg_entry_eq]
  generalize (lg_sl ([.ref d0, .int p0, .ref oq]) ++ List.replicate (4 - (lg_sl ([.ref d0, .int p0, .ref oq])).length) Slot.unset).toArray = ls at hl ⊢
  have hl : lv_has ls 4 [(0, .ref d0), (1, .int p0), (2, .ref oq)] := hl
  refine lv_aload_n hx hb dL_level_0 rfl (lv_at hl 2 rfl) ?_
  refine lv_iconst (v := 0) hx hb dL_level_1 (by decide) ?_
  refine lv_aload_n hx hb dL_level_2 rfl (lv_at hl 0 rfl) ?_
  refine lv_iload_n hx hb dL_level_3 rfl (lv_at hl 1 rfl) ?_
  have hPc : va_P (dC, dI) vwCl (wObj d0 o F ++ (wCfg cy (o 0) bc G (nI n) sc)) s.heap := gl_P.mpr (hB.sub (bs' := [wObj d0 o F, wCfg cy (o 0) bc G (nI n) sc]) [0, 1] rfl)
  refine vx_calli (vx_runV (As := [.int p0]) (rest := [.int 0, .ref oq]) ⟨hx, hb, hml, hown, hts⟩ (c_X4_level l hst dC dI cy s.heap.size d0 o F bc G n hn sc p0) (cwV 1 hts gL_level_X4_level rfl rfl rfl (by decide +kernel) ⟨Nat.le_of_ble_eq_true rfl, Nat.le_of_ble_eq_true rfl⟩) ⟨bl_R, va_recv hK hPc (ci := 4) (q0 := 0) rfl rfl, pr_R hPc hE hX hZ hS hA⟩ rfl rfl hl.1 rfl (lv_room (Nat.le_of_ble_eq_true rfl)) dL_level_4 ⟨Nat.le_of_ble_eq_true rfl, Nat.le_of_ble_eq_true rfl⟩) hS (fun q _ h => hA q (Nat.le_trans hS.1 h)) (fun q h => hA q (Nat.le_trans hS.1 h)) (fun q _ h => hA q (Nat.le_trans hS.1 h)) (fun E ce q9 u t H1 locs ht hvm hpx hBX hz1 hk1 hS hce hcv hcl => ?_) (fun r u t H1 locs ht hvm hw hB9 hz1 hk1 hS => ?_)
  · have hP : va_P (dC, dI) vwCl (wK cy (d0, o, bc, bt, bv, rg, cs, bs, ta, tb, z, bq, rt) ((F, (G, n, sc), (Gt, nt, sct), (x, kk, RG, rn, RS)), (Gv, nv9, scv), (C, N, L, fl), (M, (Gz, nz, scz), Q, T)) ++ oL cy oq y) H1 := wKo_P.mpr (hB.kept (fun q h => hk1 q h (Nat.not_le.mpr h)))
    obtain ⟨rfl, hc9⟩ := hBX
    refine vx_catch (name := "java/lang/IndexOutOfBoundsException") hown [] ⟨0, 9, 12, 28⟩ [] (htb.trans rfl) (fun z hz => by simp at hz) (by decide) (by decide) (hts (.classLink RL 28 "java/lang/IndexOutOfBoundsException") (by decide +kernel)) (va_Nw.use rfl (hX.c 2 rfl)) hce hcv hcl ?_
    refine lv_astore_n (lv' := (3, .ref q9) :: [(0, .ref d0), (1, .int p0), (2, .ref oq)]) hx hb dL_level_12 rfl hl (by decide) rfl (fun ls hl => ?_)
    refine lv_iconst (v := 1) hx hb dL_level_13 (by decide) ?_
    exact W.iret (v := 1) hx hb hr (fun t ht hW => ⟨⟨1, (((F, (G, n, sc), (Gt, nt, sct), (x, kk, RG, rn, RS)), (Gv, nv9, scv), (C, N, L, fl), (M, (Gz, nz, scz), Q, T)), y), rfl, ⟨rfl, hc9.symm, fun h9 => absurd (hc9.symm.trans h9) (by decide)⟩, by rw [ht]; exact hP, hD⟩, hS.F ht⟩) hS.2.2 dL_level_14
  obtain ⟨hc9, rfl⟩ := hw
  have hP : va_P (dC, dI) vwCl (wK cy (d0, o, bc, bt, bv, rg, cs, bs, ta, tb, z, bq, rt) ((F, (G, n, sc), (Gt, nt, sct), (x, kk, RG, rn, RS)), (Gv, nv9, scv), (C, N, L, fl), (M, (Gz, nz, scz), Q, T)) ++ oL cy oq y) H1 := wKo_P.mpr (hB.kept (fun q h => hk1 q h (Nat.not_le.mpr h)))
  clear hz1 hk1
  generalize H1 = H at hP hS ⊢
  refine lv_i2l hx hb dL_level_7 rfl ?_
  refine vn_last hx hb hK hP hD hS 3 rfl dL_level_8 (fun H locs hP hD hS => ?_)
  refine lv_goto (tgt := 15) hx hb dL_level_9 (by decide) ?_
  refine lv_iconst (v := 0) hx hb dL_level_15 (by decide) ?_
  exact W.iret (v := 0) hx hb hr (fun t ht hW => ⟨⟨0, (((F, (G, n, sc), (Gt, nt, sct), (x, kk, RG, rn, RS)), (Gv, nv9, scv), (C, N, L, fl), (M, (Gz, nz, scz), Q, T)), _), rfl, ⟨rfl, hc9.symm, fun _ => rfl⟩, by rw [ht]; exact hP, hD⟩, hS.F ht⟩) hS.2.2 dL_level_16
set_option maxHeartbeats 1000000 in
set_option maxRecDepth 100000 in
/-- the law's isCritical -/
theorem c_L_isCritical (l : Launch) (hst : l.stackTraces = false) (dC : Nat → ClassId) (dI : Nat → Nat → Nat) (cy : Nat → ClassId) (sz : Nat) (d0 : Nat) (o bc bt bv : Nat → Nat) (rg : Nat) (cs : Nat → Nat) (bs : Nat → Nat → Nat) (ta tb : Nat) (z bq rt : Nat → Nat) (F : Nat → Int32) (G : vG) (n : Nat) (sc : Int32) (Gt : vG) (nt : Nat) (sct : Int32) (x kk : Nat) (RG : Nat → vG) (rn : Nat → Nat) (RS : Nat → Int32) (Gv : vG) (nv9 : Nat) (scv : Int32) (C N : Nat → Int32) (L : Nat) (fl : Int32) (M : Nat → Int32) (Gz : vG) (nz : Nat) (scz : Int32) (Q T : vG) (hk : KOk ((F, (G, n, sc), (Gt, nt, sct), (x, kk, RG, rn, RS)), (Gv, nv9, scv), (C, N, L, fl), (M, (Gz, nz, scz), Q, T))) (oq : Nat) (y : Int64) (p0 : Int32) : metL l yL_isCritical wsL_isCritical ({ frames := 8, cells := 1, slots := 6, locals := 124 }) [.ref d0, .int p0, .ref oq] dC dI cy (d0, o, bc, bt, bv, rg, cs, bs, ta, tb, z, bq, rt) oq sz ((F, (G, n, sc), (Gt, nt, sct), (x, kk, RG, rn, RS)), (Gv, nv9, scv), (C, N, L, fl), (M, (Gz, nz, scz), Q, T)) y (rdL ((F, (G, n, sc), (Gt, nt, sct), (x, kk, RG, rn, RS)), (Gv, nv9, scv), (C, N, L, fl), (M, (Gz, nz, scz), Q, T)) (cT n p0) (b2l (if G 3 p0.toNatClampNeg ≤ 0 then 0 else 1))) 1 6 := by
  unfold metL
  refine vn_ofH (cc := cL_isCritical) (maxL := 4) (ret := some .int) (hh := [(0, 16, 19, 28)]) (by decide) rfl ?_
  intro p e s m args below meth c s₁ B hml hv
  obtain ⟨rfl, hsz, hP, hE, hD0, hX, hZ, hV⟩ := hv
  have hK := hE.1
  subst hsz
  have hD := hD0.self (sz := s.heap.size)
  generalize hAe : va_A (wK cy (d0, o, bc, bt, bv, rg, cs, bs, ta, tb, z, bq, rt) ((F, (G, n, sc), (Gt, nt, sct), (x, kk, RG, rn, RS)), (Gv, nv9, scv), (C, N, L, fl), (M, (Gz, nz, scz), Q, T)) ++ oL cy oq y) s.heap.size = A at hD hZ ⊢
  have hA : ∀ q : Nat, s.heap.size ≤ q → A q := fun q h => by rw [← hAe]; exact Or.inr h
  have hS : va_S A s.heap s.heap [] := va_S.rf
  obtain ⟨hn, hnt, hx6, hkk, hrn, hnv, hL, hnz, hG, hsc, hd0, hd1, hGR⟩ := hk
  have hB : BP (dC, dI) vwCl [wObj d0 o F, wCfg cy (o 0) bc G (nI n) sc, wCfg cy (o 1) bt Gt (nI nt) sct, wHis cy (o 3) rg x kk cs bs RG rn RS, wCfg cy (o 2) bv Gv (nI nv9) scv, wTxt cy (o 4) ta tb C N (nI L) fl, wSim (o 5) z M, wCfg cy (z 0) bq Gz (nI nz) scz, wArr cy z rt Q T, oL cy oq y] s.heap := wKo_P.mp hP
  have hBD : BD A [wObj d0 o F, wCfg cy (o 0) bc G (nI n) sc, wCfg cy (o 1) bt Gt (nI nt) sct, wHis cy (o 3) rg x kk cs bs RG rn RS, wCfg cy (o 2) bv Gv (nI nv9) scv, wTxt cy (o 4) ta tb C N (nI L) fl, wSim (o 5) z M, wCfg cy (z 0) bq Gz (nI nz) scz, wArr cy z rt Q T, oL cy oq y] := wKo_D.mp hD
  have hx := B.exec
  have hb := B.bytes
  have hr := B.returns
  have hts := atoms_spec (ws := wsL_isCritical) B.pre
  have hown : s.vm.findClass RL = some m.cls := findClass_of_methodNamed B.named
  have htb := vx_table (x := yL_isCritical) B (hts (.codeWith yL_isCritical cL_isCritical 4 (some .int) [(0, 16, 19, 28)]) (List.mem_of_getElem? (i := 0) rfl))
  have hl := lv_entry ([.ref d0, .int p0, .ref oq]) (n := 4) (Nat.le_of_ble_eq_true rfl)
  rw [lg_entry_eq]
  generalize (lg_sl ([.ref d0, .int p0, .ref oq]) ++ List.replicate (4 - (lg_sl ([.ref d0, .int p0, .ref oq])).length) Slot.unset).toArray = ls at hl ⊢
  have hl : lv_has ls 4 [(0, .ref d0), (1, .int p0), (2, .ref oq)] := hl
  refine lv_aload_n hx hb dL_isCritical_0 rfl (lv_at hl 2 rfl) ?_
  refine lv_iconst (v := 0) hx hb dL_isCritical_1 (by decide) ?_
  refine lv_aload_n hx hb dL_isCritical_2 rfl (lv_at hl 0 rfl) ?_
  refine lv_iload_n hx hb dL_isCritical_3 rfl (lv_at hl 1 rfl) ?_
  have hPc : va_P (dC, dI) vwCl (wObj d0 o F ++ (wCfg cy (o 0) bc G (nI n) sc)) s.heap := gl_P.mpr (hB.sub (bs' := [wObj d0 o F, wCfg cy (o 0) bc G (nI n) sc]) [0, 1] rfl)
  refine vx_calli (vx_runV (As := [.int p0]) (rest := [.int 0, .ref oq]) ⟨hx, hb, hml, hown, hts⟩ (c_X4_isCritical l hst dC dI cy s.heap.size d0 o F bc G n hn sc p0) (cwV 1 hts gL_isCritical_X4_isCritical rfl rfl rfl (by decide +kernel) ⟨Nat.le_of_ble_eq_true rfl, Nat.le_of_ble_eq_true rfl⟩) ⟨bl_R, va_recv hK hPc (ci := 4) (q0 := 0) rfl rfl, pr_R hPc hE hX hZ hS hA⟩ rfl rfl hl.1 rfl (lv_room (Nat.le_of_ble_eq_true rfl)) dL_isCritical_4 ⟨Nat.le_of_ble_eq_true rfl, Nat.le_of_ble_eq_true rfl⟩) hS (fun q _ h => hA q (Nat.le_trans hS.1 h)) (fun q h => hA q (Nat.le_trans hS.1 h)) (fun q _ h => hA q (Nat.le_trans hS.1 h)) (fun E ce q9 u t H1 locs ht hvm hpx hBX hz1 hk1 hS hce hcv hcl => ?_) (fun r u t H1 locs ht hvm hw hB9 hz1 hk1 hS => ?_)
  · have hP : va_P (dC, dI) vwCl (wK cy (d0, o, bc, bt, bv, rg, cs, bs, ta, tb, z, bq, rt) ((F, (G, n, sc), (Gt, nt, sct), (x, kk, RG, rn, RS)), (Gv, nv9, scv), (C, N, L, fl), (M, (Gz, nz, scz), Q, T)) ++ oL cy oq y) H1 := wKo_P.mpr (hB.kept (fun q h => hk1 q h (Nat.not_le.mpr h)))
    obtain ⟨rfl, hc9⟩ := hBX
    refine vx_catch (name := "java/lang/IndexOutOfBoundsException") hown [] ⟨0, 16, 19, 28⟩ [] (htb.trans rfl) (fun z hz => by simp at hz) (by decide) (by decide) (hts (.classLink RL 28 "java/lang/IndexOutOfBoundsException") (by decide +kernel)) (va_Nw.use rfl (hX.c 2 rfl)) hce hcv hcl ?_
    refine lv_astore_n (lv' := (3, .ref q9) :: [(0, .ref d0), (1, .int p0), (2, .ref oq)]) hx hb dL_isCritical_19 rfl hl (by decide) rfl (fun ls hl => ?_)
    refine lv_iconst (v := 1) hx hb dL_isCritical_20 (by decide) ?_
    exact W.iret (v := 1) hx hb hr (fun t ht hW => ⟨⟨1, (((F, (G, n, sc), (Gt, nt, sct), (x, kk, RG, rn, RS)), (Gv, nv9, scv), (C, N, L, fl), (M, (Gz, nz, scz), Q, T)), y), rfl, ⟨rfl, hc9.symm, fun h9 => absurd (hc9.symm.trans h9) (by decide)⟩, by rw [ht]; exact hP, hD⟩, hS.F ht⟩) hS.2.2 dL_isCritical_21
  obtain ⟨hc9, rfl⟩ := hw
  have hP : va_P (dC, dI) vwCl (wK cy (d0, o, bc, bt, bv, rg, cs, bs, ta, tb, z, bq, rt) ((F, (G, n, sc), (Gt, nt, sct), (x, kk, RG, rn, RS)), (Gv, nv9, scv), (C, N, L, fl), (M, (Gz, nz, scz), Q, T)) ++ oL cy oq y) H1 := wKo_P.mpr (hB.kept (fun q h => hk1 q h (Nat.not_le.mpr h)))
  clear hz1 hk1
  generalize H1 = H at hP hS ⊢
  refine lv_if_eq (tgt := 14) hx hb dL_isCritical_7 (by decide) (fun c9 => ?_) (fun c9 => ?_)
  · refine lv_lconst (v := 0) hx hb dL_isCritical_14 (by decide) ?_
    refine vn_last hx hb hK hP hD hS 3 rfl dL_isCritical_15 (fun H locs hP hD hS => ?_)
    refine lv_goto (tgt := 22) hx hb dL_isCritical_16 (by decide) ?_
    refine lv_iconst (v := 0) hx hb dL_isCritical_22 (by decide) ?_
    exact W.iret (v := 0) hx hb hr (fun t ht hW => ⟨⟨0, (((F, (G, n, sc), (Gt, nt, sct), (x, kk, RG, rn, RS)), (Gv, nv9, scv), (C, N, L, fl), (M, (Gz, nz, scz), Q, T)), 0), rfl, ⟨rfl, hc9.symm, fun _ => (if_pos c9).symm⟩, by rw [ht]; exact hP, hD⟩, hS.F ht⟩) hS.2.2 dL_isCritical_23
  · refine lv_lconst (v := 1) hx hb dL_isCritical_10 (by decide) ?_
    refine lv_goto (tgt := 15) hx hb dL_isCritical_11 (by decide) ?_
    refine vn_last hx hb hK hP hD hS 3 rfl dL_isCritical_15 (fun H locs hP hD hS => ?_)
    refine lv_goto (tgt := 22) hx hb dL_isCritical_16 (by decide) ?_
    refine lv_iconst (v := 0) hx hb dL_isCritical_22 (by decide) ?_
    exact W.iret (v := 0) hx hb hr (fun t ht hW => ⟨⟨0, (((F, (G, n, sc), (Gt, nt, sct), (x, kk, RG, rn, RS)), (Gv, nv9, scv), (C, N, L, fl), (M, (Gz, nz, scz), Q, T)), 1), rfl, ⟨rfl, hc9.symm, fun _ => (if_neg c9).symm⟩, by rw [ht]; exact hP, hD⟩, hS.F ht⟩) hS.2.2 dL_isCritical_23
set_option maxHeartbeats 1000000 in
set_option maxRecDepth 100000 in
/-- the law's budget -/
theorem c_L_budget (l : Launch) (hst : l.stackTraces = false) (dC : Nat → ClassId) (dI : Nat → Nat → Nat) (cy : Nat → ClassId) (sz : Nat) (d0 : Nat) (o bc bt bv : Nat → Nat) (rg : Nat) (cs : Nat → Nat) (bs : Nat → Nat → Nat) (ta tb : Nat) (z bq rt : Nat → Nat) (F : Nat → Int32) (G : vG) (n : Nat) (sc : Int32) (Gt : vG) (nt : Nat) (sct : Int32) (x kk : Nat) (RG : Nat → vG) (rn : Nat → Nat) (RS : Nat → Int32) (Gv : vG) (nv9 : Nat) (scv : Int32) (C N : Nat → Int32) (L : Nat) (fl : Int32) (M : Nat → Int32) (Gz : vG) (nz : Nat) (scz : Int32) (Q T : vG) (hk : KOk ((F, (G, n, sc), (Gt, nt, sct), (x, kk, RG, rn, RS)), (Gv, nv9, scv), (C, N, L, fl), (M, (Gz, nz, scz), Q, T))) (oq : Nat) (y : Int64) (p0 p1 : Int32) : metL l yL_budget wsL_budget ({ frames := 8, cells := 3, slots := 18, locals := 125 }) [.ref d0, .int p0, .int p1, .ref oq] dC dI cy (d0, o, bc, bt, bv, rg, cs, bs, ta, tb, z, bq, rt) oq sz ((F, (G, n, sc), (Gt, nt, sct), (x, kk, RG, rn, RS)), (Gv, nv9, scv), (C, N, L, fl), (M, (Gz, nz, scz), Q, T)) y (rdL ((F, (G, n, sc), (Gt, nt, sct), (x, kk, RG, rn, RS)), (Gv, nv9, scv), (C, N, L, fl), (M, (Gz, nz, scz), Q, T)) (cBud G n p0 p1) ((vBud G p0 p1).toInt64)) 3 18 := by
  unfold metL
  refine vn_ofH (cc := cL_budget) (maxL := 5) (ret := some .int) (hh := [(0, 10, 13, 28), (0, 10, 17, 13), (0, 10, 21, 49)]) (by decide) rfl ?_
  intro p e s m args below meth c s₁ B hml hv
  obtain ⟨rfl, hsz, hP, hE, hD0, hX, hZ, hV⟩ := hv
  have hK := hE.1
  subst hsz
  have hD := hD0.self (sz := s.heap.size)
  generalize hAe : va_A (wK cy (d0, o, bc, bt, bv, rg, cs, bs, ta, tb, z, bq, rt) ((F, (G, n, sc), (Gt, nt, sct), (x, kk, RG, rn, RS)), (Gv, nv9, scv), (C, N, L, fl), (M, (Gz, nz, scz), Q, T)) ++ oL cy oq y) s.heap.size = A at hD hZ ⊢
  have hA : ∀ q : Nat, s.heap.size ≤ q → A q := fun q h => by rw [← hAe]; exact Or.inr h
  have hS : va_S A s.heap s.heap [] := va_S.rf
  obtain ⟨hn, hnt, hx6, hkk, hrn, hnv, hL, hnz, hG, hsc, hd0, hd1, hGR⟩ := hk
  have hB : BP (dC, dI) vwCl [wObj d0 o F, wCfg cy (o 0) bc G (nI n) sc, wCfg cy (o 1) bt Gt (nI nt) sct, wHis cy (o 3) rg x kk cs bs RG rn RS, wCfg cy (o 2) bv Gv (nI nv9) scv, wTxt cy (o 4) ta tb C N (nI L) fl, wSim (o 5) z M, wCfg cy (z 0) bq Gz (nI nz) scz, wArr cy z rt Q T, oL cy oq y] s.heap := wKo_P.mp hP
  have hBD : BD A [wObj d0 o F, wCfg cy (o 0) bc G (nI n) sc, wCfg cy (o 1) bt Gt (nI nt) sct, wHis cy (o 3) rg x kk cs bs RG rn RS, wCfg cy (o 2) bv Gv (nI nv9) scv, wTxt cy (o 4) ta tb C N (nI L) fl, wSim (o 5) z M, wCfg cy (z 0) bq Gz (nI nz) scz, wArr cy z rt Q T, oL cy oq y] := wKo_D.mp hD
  have hx := B.exec
  have hb := B.bytes
  have hr := B.returns
  have hts := atoms_spec (ws := wsL_budget) B.pre
  have hown : s.vm.findClass RL = some m.cls := findClass_of_methodNamed B.named
  have htb := vx_table (x := yL_budget) B (hts (.codeWith yL_budget cL_budget 5 (some .int) [(0, 10, 13, 28), (0, 10, 17, 13), (0, 10, 21, 49)]) (List.mem_of_getElem? (i := 0) rfl))
  have hl := lv_entry ([.ref d0, .int p0, .int p1, .ref oq]) (n := 5) (Nat.le_of_ble_eq_true rfl)
  rw [lg_entry_eq]
  generalize (lg_sl ([.ref d0, .int p0, .int p1, .ref oq]) ++ List.replicate (5 - (lg_sl ([.ref d0, .int p0, .int p1, .ref oq])).length) Slot.unset).toArray = ls at hl ⊢
  have hl : lv_has ls 5 [(0, .ref d0), (1, .int p0), (2, .int p1), (3, .ref oq)] := hl
  refine lv_aload_n hx hb dL_budget_0 rfl (lv_at hl 3 rfl) ?_
  refine lv_iconst (v := 0) hx hb dL_budget_1 (by decide) ?_
  refine lv_aload_n hx hb dL_budget_2 rfl (lv_at hl 0 rfl) ?_
  refine lv_iload_n hx hb dL_budget_3 rfl (lv_at hl 1 rfl) ?_
  refine lv_iload_n hx hb dL_budget_4 rfl (lv_at hl 2 rfl) ?_
  have hPc : va_P (dC, dI) vwCl (wObj d0 o F ++ (wCfg cy (o 0) bc G (nI n) sc)) s.heap := gl_P.mpr (hB.sub (bs' := [wObj d0 o F, wCfg cy (o 0) bc G (nI n) sc]) [0, 1] rfl)
  refine vx_calli (vx_runV (As := [.int p0, .int p1]) (rest := [.int 0, .ref oq]) ⟨hx, hb, hml, hown, hts⟩ (c_X4_budget l hst dC dI cy s.heap.size d0 o F bc G n hn sc p0 p1) (cwV 2 hts gL_budget_X4_budget rfl rfl rfl (by decide +kernel) ⟨Nat.le_of_ble_eq_true rfl, Nat.le_of_ble_eq_true rfl⟩) ⟨bl_R, va_recv hK hPc (ci := 4) (q0 := 0) rfl rfl, pr_R hPc hE hX hZ hS hA⟩ rfl rfl hl.1 rfl (lv_room (Nat.le_of_ble_eq_true rfl)) dL_budget_5 ⟨Nat.le_of_ble_eq_true rfl, Nat.le_of_ble_eq_true rfl⟩) hS (fun q _ h => hA q (Nat.le_trans hS.1 h)) (fun q h => hA q (Nat.le_trans hS.1 h)) (fun q _ h => hA q (Nat.le_trans hS.1 h)) (fun E ce q9 u t H1 locs ht hvm hpx hBX hz1 hk1 hS hce hcv hcl => ?_) (fun r u t H1 locs ht hvm hw hB9 hz1 hk1 hS => ?_)
  · have hP : va_P (dC, dI) vwCl (wK cy (d0, o, bc, bt, bv, rg, cs, bs, ta, tb, z, bq, rt) ((F, (G, n, sc), (Gt, nt, sct), (x, kk, RG, rn, RS)), (Gv, nv9, scv), (C, N, L, fl), (M, (Gz, nz, scz), Q, T)) ++ oL cy oq y) H1 := wKo_P.mpr (hB.kept (fun q h => hk1 q h (Nat.not_le.mpr h)))
    rcases hBX with ⟨rfl, hc9⟩ | ⟨rfl, hc9⟩ | ⟨rfl, hc9⟩
    · refine vx_catch (name := "java/lang/IndexOutOfBoundsException") hown [] ⟨0, 10, 13, 28⟩ [⟨0, 10, 17, 13⟩, ⟨0, 10, 21, 49⟩] (htb.trans rfl) (fun z hz => by simp at hz) (by decide) (by decide) (hts (.classLink RL 28 "java/lang/IndexOutOfBoundsException") (by decide +kernel)) (va_Nw.use rfl (hX.c 2 rfl)) hce hcv hcl ?_
      refine lv_astore (lv' := (4, .ref q9) :: [(0, .ref d0), (1, .int p0), (2, .int p1), (3, .ref oq)]) hx hb dL_budget_13 hl (by decide) rfl (fun ls hl => ?_)
      refine lv_iconst (v := 1) hx hb dL_budget_15 (by decide) ?_
      exact W.iret (v := 1) hx hb hr (fun t ht hW => ⟨⟨1, (((F, (G, n, sc), (Gt, nt, sct), (x, kk, RG, rn, RS)), (Gv, nv9, scv), (C, N, L, fl), (M, (Gz, nz, scz), Q, T)), y), rfl, ⟨rfl, hc9.symm, fun h9 => absurd (hc9.symm.trans h9) (by decide)⟩, by rw [ht]; exact hP, hD⟩, hS.F ht⟩) hS.2.2 dL_budget_16
    · refine vx_catch (name := "java/lang/IllegalArgumentException") hown [⟨0, 10, 13, 28⟩] ⟨0, 10, 17, 13⟩ [⟨0, 10, 21, 49⟩] (htb.trans rfl) (List.forall_mem_cons.mpr ⟨Or.inr ⟨by decide, _, hts (.classLink RL 28 "java/lang/IndexOutOfBoundsException") (by decide +kernel), hV.n 1 rfl⟩, fun z hz => by simp at hz⟩) (by decide) (by decide) (hts (.classLink RL 13 "java/lang/IllegalArgumentException") (by decide +kernel)) (va_Nw.use rfl (hX.c 0 rfl)) hce hcv hcl ?_
      refine lv_astore (lv' := (4, .ref q9) :: [(0, .ref d0), (1, .int p0), (2, .int p1), (3, .ref oq)]) hx hb dL_budget_17 hl (by decide) rfl (fun ls hl => ?_)
      refine lv_iconst (v := 2) hx hb dL_budget_19 (by decide) ?_
      exact W.iret (v := 2) hx hb hr (fun t ht hW => ⟨⟨2, (((F, (G, n, sc), (Gt, nt, sct), (x, kk, RG, rn, RS)), (Gv, nv9, scv), (C, N, L, fl), (M, (Gz, nz, scz), Q, T)), y), rfl, ⟨rfl, hc9.symm, fun h9 => absurd (hc9.symm.trans h9) (by decide)⟩, by rw [ht]; exact hP, hD⟩, hS.F ht⟩) hS.2.2 dL_budget_20
    · refine vx_catch (name := "java/lang/UnsupportedOperationException") hown [⟨0, 10, 13, 28⟩, ⟨0, 10, 17, 13⟩] ⟨0, 10, 21, 49⟩ [] (htb.trans rfl) (List.forall_mem_cons.mpr ⟨Or.inr ⟨by decide, _, hts (.classLink RL 28 "java/lang/IndexOutOfBoundsException") (by decide +kernel), hV.n 14 rfl⟩, List.forall_mem_cons.mpr ⟨Or.inr ⟨by decide, _, hts (.classLink RL 13 "java/lang/IllegalArgumentException") (by decide +kernel), hV.n 12 rfl⟩, fun z hz => by simp at hz⟩⟩) (by decide) (by decide) (hts (.classLink RL 49 "java/lang/UnsupportedOperationException") (by decide +kernel)) (va_Nw.use rfl (hX.c 3 rfl)) hce hcv hcl ?_
      refine lv_astore (lv' := (4, .ref q9) :: [(0, .ref d0), (1, .int p0), (2, .int p1), (3, .ref oq)]) hx hb dL_budget_21 hl (by decide) rfl (fun ls hl => ?_)
      refine lv_iconst (v := 3) hx hb dL_budget_23 (by decide) ?_
      exact W.iret (v := 3) hx hb hr (fun t ht hW => ⟨⟨3, (((F, (G, n, sc), (Gt, nt, sct), (x, kk, RG, rn, RS)), (Gv, nv9, scv), (C, N, L, fl), (M, (Gz, nz, scz), Q, T)), y), rfl, ⟨rfl, hc9.symm, fun h9 => absurd (hc9.symm.trans h9) (by decide)⟩, by rw [ht]; exact hP, hD⟩, hS.F ht⟩) hS.2.2 dL_budget_24
  obtain ⟨hc9, rfl⟩ := hw
  have hP : va_P (dC, dI) vwCl (wK cy (d0, o, bc, bt, bv, rg, cs, bs, ta, tb, z, bq, rt) ((F, (G, n, sc), (Gt, nt, sct), (x, kk, RG, rn, RS)), (Gv, nv9, scv), (C, N, L, fl), (M, (Gz, nz, scz), Q, T)) ++ oL cy oq y) H1 := wKo_P.mpr (hB.kept (fun q h => hk1 q h (Nat.not_le.mpr h)))
  clear hz1 hk1
  generalize H1 = H at hP hS ⊢
  refine lv_i2l hx hb dL_budget_8 rfl ?_
  refine vn_last hx hb hK hP hD hS 3 rfl dL_budget_9 (fun H locs hP hD hS => ?_)
  refine lv_goto (tgt := 25) hx hb dL_budget_10 (by decide) ?_
  refine lv_iconst (v := 0) hx hb dL_budget_25 (by decide) ?_
  exact W.iret (v := 0) hx hb hr (fun t ht hW => ⟨⟨0, (((F, (G, n, sc), (Gt, nt, sct), (x, kk, RG, rn, RS)), (Gv, nv9, scv), (C, N, L, fl), (M, (Gz, nz, scz), Q, T)), _), rfl, ⟨rfl, hc9.symm, fun _ => rfl⟩, by rw [ht]; exact hP, hD⟩, hS.F ht⟩) hS.2.2 dL_budget_26
set_option maxHeartbeats 1000000 in
set_option maxRecDepth 100000 in
/-- the law's demand -/
theorem c_L_demand (l : Launch) (hst : l.stackTraces = false) (dC : Nat → ClassId) (dI : Nat → Nat → Nat) (cy : Nat → ClassId) (sz : Nat) (d0 : Nat) (o bc bt bv : Nat → Nat) (rg : Nat) (cs : Nat → Nat) (bs : Nat → Nat → Nat) (ta tb : Nat) (z bq rt : Nat → Nat) (F : Nat → Int32) (G : vG) (n : Nat) (sc : Int32) (Gt : vG) (nt : Nat) (sct : Int32) (x kk : Nat) (RG : Nat → vG) (rn : Nat → Nat) (RS : Nat → Int32) (Gv : vG) (nv9 : Nat) (scv : Int32) (C N : Nat → Int32) (L : Nat) (fl : Int32) (M : Nat → Int32) (Gz : vG) (nz : Nat) (scz : Int32) (Q T : vG) (hk : KOk ((F, (G, n, sc), (Gt, nt, sct), (x, kk, RG, rn, RS)), (Gv, nv9, scv), (C, N, L, fl), (M, (Gz, nz, scz), Q, T))) (oq : Nat) (y : Int64) (p0 p1 : Int32) : metL l yL_demand wsL_demand ({ frames := 8, cells := 2, slots := 12, locals := 124 }) [.ref d0, .int p0, .int p1, .ref oq] dC dI cy (d0, o, bc, bt, bv, rg, cs, bs, ta, tb, z, bq, rt) oq sz ((F, (G, n, sc), (Gt, nt, sct), (x, kk, RG, rn, RS)), (Gv, nv9, scv), (C, N, L, fl), (M, (Gz, nz, scz), Q, T)) y (rdL ((F, (G, n, sc), (Gt, nt, sct), (x, kk, RG, rn, RS)), (Gv, nv9, scv), (C, N, L, fl), (M, (Gz, nz, scz), Q, T)) (cDem p0 p1) ((tdem G n sc p0 p1).toInt64)) 2 12 := by
  unfold metL
  refine vn_ofH (cc := cL_demand) (maxL := 5) (ret := some .int) (hh := [(0, 10, 13, 13)]) (by decide) rfl ?_
  intro p e s m args below meth c s₁ B hml hv
  obtain ⟨rfl, hsz, hP, hE, hD0, hX, hZ, hV⟩ := hv
  have hK := hE.1
  subst hsz
  have hD := hD0.self (sz := s.heap.size)
  generalize hAe : va_A (wK cy (d0, o, bc, bt, bv, rg, cs, bs, ta, tb, z, bq, rt) ((F, (G, n, sc), (Gt, nt, sct), (x, kk, RG, rn, RS)), (Gv, nv9, scv), (C, N, L, fl), (M, (Gz, nz, scz), Q, T)) ++ oL cy oq y) s.heap.size = A at hD hZ ⊢
  have hA : ∀ q : Nat, s.heap.size ≤ q → A q := fun q h => by rw [← hAe]; exact Or.inr h
  have hS : va_S A s.heap s.heap [] := va_S.rf
  obtain ⟨hn, hnt, hx6, hkk, hrn, hnv, hL, hnz, hG, hsc, hd0, hd1, hGR⟩ := hk
  have hB : BP (dC, dI) vwCl [wObj d0 o F, wCfg cy (o 0) bc G (nI n) sc, wCfg cy (o 1) bt Gt (nI nt) sct, wHis cy (o 3) rg x kk cs bs RG rn RS, wCfg cy (o 2) bv Gv (nI nv9) scv, wTxt cy (o 4) ta tb C N (nI L) fl, wSim (o 5) z M, wCfg cy (z 0) bq Gz (nI nz) scz, wArr cy z rt Q T, oL cy oq y] s.heap := wKo_P.mp hP
  have hBD : BD A [wObj d0 o F, wCfg cy (o 0) bc G (nI n) sc, wCfg cy (o 1) bt Gt (nI nt) sct, wHis cy (o 3) rg x kk cs bs RG rn RS, wCfg cy (o 2) bv Gv (nI nv9) scv, wTxt cy (o 4) ta tb C N (nI L) fl, wSim (o 5) z M, wCfg cy (z 0) bq Gz (nI nz) scz, wArr cy z rt Q T, oL cy oq y] := wKo_D.mp hD
  have hx := B.exec
  have hb := B.bytes
  have hr := B.returns
  have hts := atoms_spec (ws := wsL_demand) B.pre
  have hown : s.vm.findClass RL = some m.cls := findClass_of_methodNamed B.named
  have htb := vx_table (x := yL_demand) B (hts (.codeWith yL_demand cL_demand 5 (some .int) [(0, 10, 13, 13)]) (List.mem_of_getElem? (i := 0) rfl))
  have hl := lv_entry ([.ref d0, .int p0, .int p1, .ref oq]) (n := 5) (Nat.le_of_ble_eq_true rfl)
  rw [lg_entry_eq]
  generalize (lg_sl ([.ref d0, .int p0, .int p1, .ref oq]) ++ List.replicate (5 - (lg_sl ([.ref d0, .int p0, .int p1, .ref oq])).length) Slot.unset).toArray = ls at hl ⊢
  have hl : lv_has ls 5 [(0, .ref d0), (1, .int p0), (2, .int p1), (3, .ref oq)] := hl
  refine lv_aload_n hx hb dL_demand_0 rfl (lv_at hl 3 rfl) ?_
  refine lv_iconst (v := 0) hx hb dL_demand_1 (by decide) ?_
  refine lv_aload_n hx hb dL_demand_2 rfl (lv_at hl 0 rfl) ?_
  refine lv_iload_n hx hb dL_demand_3 rfl (lv_at hl 1 rfl) ?_
  refine lv_iload_n hx hb dL_demand_4 rfl (lv_at hl 2 rfl) ?_
  have hPc : va_P (dC, dI) vwCl (wObj d0 o F ++ (wCfg cy (o 0) bc G (nI n) sc)) s.heap := gl_P.mpr (hB.sub (bs' := [wObj d0 o F, wCfg cy (o 0) bc G (nI n) sc]) [0, 1] rfl)
  refine vx_calli (vx_runV (As := [.int p0, .int p1]) (rest := [.int 0, .ref oq]) ⟨hx, hb, hml, hown, hts⟩ (c_X4_demand l hst dC dI cy s.heap.size d0 o F bc G n hn sc p0 p1) (cwV 2 hts gL_demand_X4_demand rfl rfl rfl (by decide +kernel) ⟨Nat.le_of_ble_eq_true rfl, Nat.le_of_ble_eq_true rfl⟩) ⟨bl_R, va_recv hK hPc (ci := 4) (q0 := 0) rfl rfl, pr_R hPc hE hX hZ hS hA⟩ rfl rfl hl.1 rfl (lv_room (Nat.le_of_ble_eq_true rfl)) dL_demand_5 ⟨Nat.le_of_ble_eq_true rfl, Nat.le_of_ble_eq_true rfl⟩) hS (fun q _ h => hA q (Nat.le_trans hS.1 h)) (fun q h => hA q (Nat.le_trans hS.1 h)) (fun q _ h => hA q (Nat.le_trans hS.1 h)) (fun E ce q9 u t H1 locs ht hvm hpx hBX hz1 hk1 hS hce hcv hcl => ?_) (fun r u t H1 locs ht hvm hw hB9 hz1 hk1 hS => ?_)
  · have hP : va_P (dC, dI) vwCl (wK cy (d0, o, bc, bt, bv, rg, cs, bs, ta, tb, z, bq, rt) ((F, (G, n, sc), (Gt, nt, sct), (x, kk, RG, rn, RS)), (Gv, nv9, scv), (C, N, L, fl), (M, (Gz, nz, scz), Q, T)) ++ oL cy oq y) H1 := wKo_P.mpr (hB.kept (fun q h => hk1 q h (Nat.not_le.mpr h)))
    obtain ⟨rfl, hc9⟩ := hBX
    refine vx_catch (name := "java/lang/IllegalArgumentException") hown [] ⟨0, 10, 13, 13⟩ [] (htb.trans rfl) (fun z hz => by simp at hz) (by decide) (by decide) (hts (.classLink RL 13 "java/lang/IllegalArgumentException") (by decide +kernel)) (va_Nw.use rfl (hX.c 0 rfl)) hce hcv hcl ?_
    refine lv_astore (lv' := (4, .ref q9) :: [(0, .ref d0), (1, .int p0), (2, .int p1), (3, .ref oq)]) hx hb dL_demand_13 hl (by decide) rfl (fun ls hl => ?_)
    refine lv_iconst (v := 1) hx hb dL_demand_15 (by decide) ?_
    exact W.iret (v := 1) hx hb hr (fun t ht hW => ⟨⟨1, (((F, (G, n, sc), (Gt, nt, sct), (x, kk, RG, rn, RS)), (Gv, nv9, scv), (C, N, L, fl), (M, (Gz, nz, scz), Q, T)), y), rfl, ⟨rfl, hc9.symm, fun h9 => absurd (hc9.symm.trans h9) (by decide)⟩, by rw [ht]; exact hP, hD⟩, hS.F ht⟩) hS.2.2 dL_demand_16
  obtain ⟨hc9, rfl⟩ := hw
  have hP : va_P (dC, dI) vwCl (wK cy (d0, o, bc, bt, bv, rg, cs, bs, ta, tb, z, bq, rt) ((F, (G, n, sc), (Gt, nt, sct), (x, kk, RG, rn, RS)), (Gv, nv9, scv), (C, N, L, fl), (M, (Gz, nz, scz), Q, T)) ++ oL cy oq y) H1 := wKo_P.mpr (hB.kept (fun q h => hk1 q h (Nat.not_le.mpr h)))
  clear hz1 hk1
  generalize H1 = H at hP hS ⊢
  refine lv_i2l hx hb dL_demand_8 rfl ?_
  refine vn_last hx hb hK hP hD hS 3 rfl dL_demand_9 (fun H locs hP hD hS => ?_)
  refine lv_goto (tgt := 17) hx hb dL_demand_10 (by decide) ?_
  refine lv_iconst (v := 0) hx hb dL_demand_17 (by decide) ?_
  exact W.iret (v := 0) hx hb hr (fun t ht hW => ⟨⟨0, (((F, (G, n, sc), (Gt, nt, sct), (x, kk, RG, rn, RS)), (Gv, nv9, scv), (C, N, L, fl), (M, (Gz, nz, scz), Q, T)), _), rfl, ⟨rfl, hc9.symm, fun _ => rfl⟩, by rw [ht]; exact hP, hD⟩, hS.F ht⟩) hS.2.2 dL_demand_18
set_option maxHeartbeats 1000000 in
set_option maxRecDepth 100000 in
/-- the law's slack -/
theorem c_L_slack (l : Launch) (hst : l.stackTraces = false) (dC : Nat → ClassId) (dI : Nat → Nat → Nat) (cy : Nat → ClassId) (sz : Nat) (d0 : Nat) (o bc bt bv : Nat → Nat) (rg : Nat) (cs : Nat → Nat) (bs : Nat → Nat → Nat) (ta tb : Nat) (z bq rt : Nat → Nat) (F : Nat → Int32) (G : vG) (n : Nat) (sc : Int32) (Gt : vG) (nt : Nat) (sct : Int32) (x kk : Nat) (RG : Nat → vG) (rn : Nat → Nat) (RS : Nat → Int32) (Gv : vG) (nv9 : Nat) (scv : Int32) (C N : Nat → Int32) (L : Nat) (fl : Int32) (M : Nat → Int32) (Gz : vG) (nz : Nat) (scz : Int32) (Q T : vG) (hk : KOk ((F, (G, n, sc), (Gt, nt, sct), (x, kk, RG, rn, RS)), (Gv, nv9, scv), (C, N, L, fl), (M, (Gz, nz, scz), Q, T))) (oq : Nat) (y : Int64) (p0 : Int32) : metL l yL_slack wsL_slack ({ frames := 8, cells := 1, slots := 6, locals := 123 }) [.ref d0, .int p0, .ref oq] dC dI cy (d0, o, bc, bt, bv, rg, cs, bs, ta, tb, z, bq, rt) oq sz ((F, (G, n, sc), (Gt, nt, sct), (x, kk, RG, rn, RS)), (Gv, nv9, scv), (C, N, L, fl), (M, (Gz, nz, scz), Q, T)) y (rdL ((F, (G, n, sc), (Gt, nt, sct), (x, kk, RG, rn, RS)), (Gv, nv9, scv), (C, N, L, fl), (M, (Gz, nz, scz), Q, T)) (cM p0) ((slk G n sc p0).toInt64)) 1 6 := by
  unfold metL
  refine vn_ofH (cc := cL_slack) (maxL := 4) (ret := some .int) (hh := [(0, 9, 12, 13)]) (by decide) rfl ?_
  intro p e s m args below meth c s₁ B hml hv
  obtain ⟨rfl, hsz, hP, hE, hD0, hX, hZ, hV⟩ := hv
  have hK := hE.1
  subst hsz
  have hD := hD0.self (sz := s.heap.size)
  generalize hAe : va_A (wK cy (d0, o, bc, bt, bv, rg, cs, bs, ta, tb, z, bq, rt) ((F, (G, n, sc), (Gt, nt, sct), (x, kk, RG, rn, RS)), (Gv, nv9, scv), (C, N, L, fl), (M, (Gz, nz, scz), Q, T)) ++ oL cy oq y) s.heap.size = A at hD hZ ⊢
  have hA : ∀ q : Nat, s.heap.size ≤ q → A q := fun q h => by rw [← hAe]; exact Or.inr h
  have hS : va_S A s.heap s.heap [] := va_S.rf
  obtain ⟨hn, hnt, hx6, hkk, hrn, hnv, hL, hnz, hG, hsc, hd0, hd1, hGR⟩ := hk
  have hB : BP (dC, dI) vwCl [wObj d0 o F, wCfg cy (o 0) bc G (nI n) sc, wCfg cy (o 1) bt Gt (nI nt) sct, wHis cy (o 3) rg x kk cs bs RG rn RS, wCfg cy (o 2) bv Gv (nI nv9) scv, wTxt cy (o 4) ta tb C N (nI L) fl, wSim (o 5) z M, wCfg cy (z 0) bq Gz (nI nz) scz, wArr cy z rt Q T, oL cy oq y] s.heap := wKo_P.mp hP
  have hBD : BD A [wObj d0 o F, wCfg cy (o 0) bc G (nI n) sc, wCfg cy (o 1) bt Gt (nI nt) sct, wHis cy (o 3) rg x kk cs bs RG rn RS, wCfg cy (o 2) bv Gv (nI nv9) scv, wTxt cy (o 4) ta tb C N (nI L) fl, wSim (o 5) z M, wCfg cy (z 0) bq Gz (nI nz) scz, wArr cy z rt Q T, oL cy oq y] := wKo_D.mp hD
  have hx := B.exec
  have hb := B.bytes
  have hr := B.returns
  have hts := atoms_spec (ws := wsL_slack) B.pre
  have hown : s.vm.findClass RL = some m.cls := findClass_of_methodNamed B.named
  have htb := vx_table (x := yL_slack) B (hts (.codeWith yL_slack cL_slack 4 (some .int) [(0, 9, 12, 13)]) (List.mem_of_getElem? (i := 0) rfl))
  have hl := lv_entry ([.ref d0, .int p0, .ref oq]) (n := 4) (Nat.le_of_ble_eq_true rfl)
  rw [lg_entry_eq]
  generalize (lg_sl ([.ref d0, .int p0, .ref oq]) ++ List.replicate (4 - (lg_sl ([.ref d0, .int p0, .ref oq])).length) Slot.unset).toArray = ls at hl ⊢
  have hl : lv_has ls 4 [(0, .ref d0), (1, .int p0), (2, .ref oq)] := hl
  refine lv_aload_n hx hb dL_slack_0 rfl (lv_at hl 2 rfl) ?_
  refine lv_iconst (v := 0) hx hb dL_slack_1 (by decide) ?_
  refine lv_aload_n hx hb dL_slack_2 rfl (lv_at hl 0 rfl) ?_
  refine lv_iload_n hx hb dL_slack_3 rfl (lv_at hl 1 rfl) ?_
  have hPc : va_P (dC, dI) vwCl (wObj d0 o F ++ (wCfg cy (o 0) bc G (nI n) sc)) s.heap := gl_P.mpr (hB.sub (bs' := [wObj d0 o F, wCfg cy (o 0) bc G (nI n) sc]) [0, 1] rfl)
  refine vx_calli (vx_runV (As := [.int p0]) (rest := [.int 0, .ref oq]) ⟨hx, hb, hml, hown, hts⟩ (c_X4_slack l hst dC dI cy s.heap.size d0 o F bc G n hn sc p0) (cwV 1 hts gL_slack_X4_slack rfl rfl rfl (by decide +kernel) ⟨Nat.le_of_ble_eq_true rfl, Nat.le_of_ble_eq_true rfl⟩) ⟨bl_R, va_recv hK hPc (ci := 4) (q0 := 0) rfl rfl, pr_R hPc hE hX hZ hS hA⟩ rfl rfl hl.1 rfl (lv_room (Nat.le_of_ble_eq_true rfl)) dL_slack_4 ⟨Nat.le_of_ble_eq_true rfl, Nat.le_of_ble_eq_true rfl⟩) hS (fun q _ h => hA q (Nat.le_trans hS.1 h)) (fun q h => hA q (Nat.le_trans hS.1 h)) (fun q _ h => hA q (Nat.le_trans hS.1 h)) (fun E ce q9 u t H1 locs ht hvm hpx hBX hz1 hk1 hS hce hcv hcl => ?_) (fun r u t H1 locs ht hvm hw hB9 hz1 hk1 hS => ?_)
  · have hP : va_P (dC, dI) vwCl (wK cy (d0, o, bc, bt, bv, rg, cs, bs, ta, tb, z, bq, rt) ((F, (G, n, sc), (Gt, nt, sct), (x, kk, RG, rn, RS)), (Gv, nv9, scv), (C, N, L, fl), (M, (Gz, nz, scz), Q, T)) ++ oL cy oq y) H1 := wKo_P.mpr (hB.kept (fun q h => hk1 q h (Nat.not_le.mpr h)))
    obtain ⟨rfl, hc9⟩ := hBX
    refine vx_catch (name := "java/lang/IllegalArgumentException") hown [] ⟨0, 9, 12, 13⟩ [] (htb.trans rfl) (fun z hz => by simp at hz) (by decide) (by decide) (hts (.classLink RL 13 "java/lang/IllegalArgumentException") (by decide +kernel)) (va_Nw.use rfl (hX.c 0 rfl)) hce hcv hcl ?_
    refine lv_astore_n (lv' := (3, .ref q9) :: [(0, .ref d0), (1, .int p0), (2, .ref oq)]) hx hb dL_slack_12 rfl hl (by decide) rfl (fun ls hl => ?_)
    refine lv_iconst (v := 1) hx hb dL_slack_13 (by decide) ?_
    exact W.iret (v := 1) hx hb hr (fun t ht hW => ⟨⟨1, (((F, (G, n, sc), (Gt, nt, sct), (x, kk, RG, rn, RS)), (Gv, nv9, scv), (C, N, L, fl), (M, (Gz, nz, scz), Q, T)), y), rfl, ⟨rfl, hc9.symm, fun h9 => absurd (hc9.symm.trans h9) (by decide)⟩, by rw [ht]; exact hP, hD⟩, hS.F ht⟩) hS.2.2 dL_slack_14
  obtain ⟨hc9, rfl⟩ := hw
  have hP : va_P (dC, dI) vwCl (wK cy (d0, o, bc, bt, bv, rg, cs, bs, ta, tb, z, bq, rt) ((F, (G, n, sc), (Gt, nt, sct), (x, kk, RG, rn, RS)), (Gv, nv9, scv), (C, N, L, fl), (M, (Gz, nz, scz), Q, T)) ++ oL cy oq y) H1 := wKo_P.mpr (hB.kept (fun q h => hk1 q h (Nat.not_le.mpr h)))
  clear hz1 hk1
  generalize H1 = H at hP hS ⊢
  refine lv_i2l hx hb dL_slack_7 rfl ?_
  refine vn_last hx hb hK hP hD hS 3 rfl dL_slack_8 (fun H locs hP hD hS => ?_)
  refine lv_goto (tgt := 15) hx hb dL_slack_9 (by decide) ?_
  refine lv_iconst (v := 0) hx hb dL_slack_15 (by decide) ?_
  exact W.iret (v := 0) hx hb hr (fun t ht hW => ⟨⟨0, (((F, (G, n, sc), (Gt, nt, sct), (x, kk, RG, rn, RS)), (Gv, nv9, scv), (C, N, L, fl), (M, (Gz, nz, scz), Q, T)), _), rfl, ⟨rfl, hc9.symm, fun _ => rfl⟩, by rw [ht]; exact hP, hD⟩, hS.F ht⟩) hS.2.2 dL_slack_16
set_option maxHeartbeats 1000000 in
set_option maxRecDepth 100000 in
/-- the law's tightest -/
theorem c_L_tightest (l : Launch) (hst : l.stackTraces = false) (dC : Nat → ClassId) (dI : Nat → Nat → Nat) (cy : Nat → ClassId) (sz : Nat) (d0 : Nat) (o bc bt bv : Nat → Nat) (rg : Nat) (cs : Nat → Nat) (bs : Nat → Nat → Nat) (ta tb : Nat) (z bq rt : Nat → Nat) (F : Nat → Int32) (G : vG) (n : Nat) (sc : Int32) (Gt : vG) (nt : Nat) (sct : Int32) (x kk : Nat) (RG : Nat → vG) (rn : Nat → Nat) (RS : Nat → Int32) (Gv : vG) (nv9 : Nat) (scv : Int32) (C N : Nat → Int32) (L : Nat) (fl : Int32) (M : Nat → Int32) (Gz : vG) (nz : Nat) (scz : Int32) (Q T : vG) (hk : KOk ((F, (G, n, sc), (Gt, nt, sct), (x, kk, RG, rn, RS)), (Gv, nv9, scv), (C, N, L, fl), (M, (Gz, nz, scz), Q, T))) (oq : Nat) (y : Int64) (p0 : Int32) : metL l yL_tightest wsL_tightest ({ frames := 8, cells := 1, slots := 6, locals := 123 }) [.ref d0, .int p0, .ref oq] dC dI cy (d0, o, bc, bt, bv, rg, cs, bs, ta, tb, z, bq, rt) oq sz ((F, (G, n, sc), (Gt, nt, sct), (x, kk, RG, rn, RS)), (Gv, nv9, scv), (C, N, L, fl), (M, (Gz, nz, scz), Q, T)) y (rdL ((F, (G, n, sc), (Gt, nt, sct), (x, kk, RG, rn, RS)), (Gv, nv9, scv), (C, N, L, fl), (M, (Gz, nz, scz), Q, T)) (cM p0) ((tgh G n sc p0).toInt64)) 1 6 := by
  unfold metL
  refine vn_ofH (cc := cL_tightest) (maxL := 4) (ret := some .int) (hh := [(0, 9, 12, 13)]) (by decide) rfl ?_
  intro p e s m args below meth c s₁ B hml hv
  obtain ⟨rfl, hsz, hP, hE, hD0, hX, hZ, hV⟩ := hv
  have hK := hE.1
  subst hsz
  have hD := hD0.self (sz := s.heap.size)
  generalize hAe : va_A (wK cy (d0, o, bc, bt, bv, rg, cs, bs, ta, tb, z, bq, rt) ((F, (G, n, sc), (Gt, nt, sct), (x, kk, RG, rn, RS)), (Gv, nv9, scv), (C, N, L, fl), (M, (Gz, nz, scz), Q, T)) ++ oL cy oq y) s.heap.size = A at hD hZ ⊢
  have hA : ∀ q : Nat, s.heap.size ≤ q → A q := fun q h => by rw [← hAe]; exact Or.inr h
  have hS : va_S A s.heap s.heap [] := va_S.rf
  obtain ⟨hn, hnt, hx6, hkk, hrn, hnv, hL, hnz, hG, hsc, hd0, hd1, hGR⟩ := hk
  have hB : BP (dC, dI) vwCl [wObj d0 o F, wCfg cy (o 0) bc G (nI n) sc, wCfg cy (o 1) bt Gt (nI nt) sct, wHis cy (o 3) rg x kk cs bs RG rn RS, wCfg cy (o 2) bv Gv (nI nv9) scv, wTxt cy (o 4) ta tb C N (nI L) fl, wSim (o 5) z M, wCfg cy (z 0) bq Gz (nI nz) scz, wArr cy z rt Q T, oL cy oq y] s.heap := wKo_P.mp hP
  have hBD : BD A [wObj d0 o F, wCfg cy (o 0) bc G (nI n) sc, wCfg cy (o 1) bt Gt (nI nt) sct, wHis cy (o 3) rg x kk cs bs RG rn RS, wCfg cy (o 2) bv Gv (nI nv9) scv, wTxt cy (o 4) ta tb C N (nI L) fl, wSim (o 5) z M, wCfg cy (z 0) bq Gz (nI nz) scz, wArr cy z rt Q T, oL cy oq y] := wKo_D.mp hD
  have hx := B.exec
  have hb := B.bytes
  have hr := B.returns
  have hts := atoms_spec (ws := wsL_tightest) B.pre
  have hown : s.vm.findClass RL = some m.cls := findClass_of_methodNamed B.named
  have htb := vx_table (x := yL_tightest) B (hts (.codeWith yL_tightest cL_tightest 4 (some .int) [(0, 9, 12, 13)]) (List.mem_of_getElem? (i := 0) rfl))
  have hl := lv_entry ([.ref d0, .int p0, .ref oq]) (n := 4) (Nat.le_of_ble_eq_true rfl)
  rw [lg_entry_eq]
  generalize (lg_sl ([.ref d0, .int p0, .ref oq]) ++ List.replicate (4 - (lg_sl ([.ref d0, .int p0, .ref oq])).length) Slot.unset).toArray = ls at hl ⊢
  have hl : lv_has ls 4 [(0, .ref d0), (1, .int p0), (2, .ref oq)] := hl
  refine lv_aload_n hx hb dL_tightest_0 rfl (lv_at hl 2 rfl) ?_
  refine lv_iconst (v := 0) hx hb dL_tightest_1 (by decide) ?_
  refine lv_aload_n hx hb dL_tightest_2 rfl (lv_at hl 0 rfl) ?_
  refine lv_iload_n hx hb dL_tightest_3 rfl (lv_at hl 1 rfl) ?_
  have hPc : va_P (dC, dI) vwCl (wObj d0 o F ++ (wCfg cy (o 0) bc G (nI n) sc)) s.heap := gl_P.mpr (hB.sub (bs' := [wObj d0 o F, wCfg cy (o 0) bc G (nI n) sc]) [0, 1] rfl)
  refine vx_calli (vx_runV (As := [.int p0]) (rest := [.int 0, .ref oq]) ⟨hx, hb, hml, hown, hts⟩ (c_X4_tightest l hst dC dI cy s.heap.size d0 o F bc G n hn sc p0) (cwV 1 hts gL_tightest_X4_tightest rfl rfl rfl (by decide +kernel) ⟨Nat.le_of_ble_eq_true rfl, Nat.le_of_ble_eq_true rfl⟩) ⟨bl_R, va_recv hK hPc (ci := 4) (q0 := 0) rfl rfl, pr_R hPc hE hX hZ hS hA⟩ rfl rfl hl.1 rfl (lv_room (Nat.le_of_ble_eq_true rfl)) dL_tightest_4 ⟨Nat.le_of_ble_eq_true rfl, Nat.le_of_ble_eq_true rfl⟩) hS (fun q _ h => hA q (Nat.le_trans hS.1 h)) (fun q h => hA q (Nat.le_trans hS.1 h)) (fun q _ h => hA q (Nat.le_trans hS.1 h)) (fun E ce q9 u t H1 locs ht hvm hpx hBX hz1 hk1 hS hce hcv hcl => ?_) (fun r u t H1 locs ht hvm hw hB9 hz1 hk1 hS => ?_)
  · have hP : va_P (dC, dI) vwCl (wK cy (d0, o, bc, bt, bv, rg, cs, bs, ta, tb, z, bq, rt) ((F, (G, n, sc), (Gt, nt, sct), (x, kk, RG, rn, RS)), (Gv, nv9, scv), (C, N, L, fl), (M, (Gz, nz, scz), Q, T)) ++ oL cy oq y) H1 := wKo_P.mpr (hB.kept (fun q h => hk1 q h (Nat.not_le.mpr h)))
    obtain ⟨rfl, hc9⟩ := hBX
    refine vx_catch (name := "java/lang/IllegalArgumentException") hown [] ⟨0, 9, 12, 13⟩ [] (htb.trans rfl) (fun z hz => by simp at hz) (by decide) (by decide) (hts (.classLink RL 13 "java/lang/IllegalArgumentException") (by decide +kernel)) (va_Nw.use rfl (hX.c 0 rfl)) hce hcv hcl ?_
    refine lv_astore_n (lv' := (3, .ref q9) :: [(0, .ref d0), (1, .int p0), (2, .ref oq)]) hx hb dL_tightest_12 rfl hl (by decide) rfl (fun ls hl => ?_)
    refine lv_iconst (v := 1) hx hb dL_tightest_13 (by decide) ?_
    exact W.iret (v := 1) hx hb hr (fun t ht hW => ⟨⟨1, (((F, (G, n, sc), (Gt, nt, sct), (x, kk, RG, rn, RS)), (Gv, nv9, scv), (C, N, L, fl), (M, (Gz, nz, scz), Q, T)), y), rfl, ⟨rfl, hc9.symm, fun h9 => absurd (hc9.symm.trans h9) (by decide)⟩, by rw [ht]; exact hP, hD⟩, hS.F ht⟩) hS.2.2 dL_tightest_14
  obtain ⟨hc9, rfl⟩ := hw
  have hP : va_P (dC, dI) vwCl (wK cy (d0, o, bc, bt, bv, rg, cs, bs, ta, tb, z, bq, rt) ((F, (G, n, sc), (Gt, nt, sct), (x, kk, RG, rn, RS)), (Gv, nv9, scv), (C, N, L, fl), (M, (Gz, nz, scz), Q, T)) ++ oL cy oq y) H1 := wKo_P.mpr (hB.kept (fun q h => hk1 q h (Nat.not_le.mpr h)))
  clear hz1 hk1
  generalize H1 = H at hP hS ⊢
  refine lv_i2l hx hb dL_tightest_7 rfl ?_
  refine vn_last hx hb hK hP hD hS 3 rfl dL_tightest_8 (fun H locs hP hD hS => ?_)
  refine lv_goto (tgt := 15) hx hb dL_tightest_9 (by decide) ?_
  refine lv_iconst (v := 0) hx hb dL_tightest_15 (by decide) ?_
  exact W.iret (v := 0) hx hb hr (fun t ht hW => ⟨⟨0, (((F, (G, n, sc), (Gt, nt, sct), (x, kk, RG, rn, RS)), (Gv, nv9, scv), (C, N, L, fl), (M, (Gz, nz, scz), Q, T)), _), rfl, ⟨rfl, hc9.symm, fun _ => rfl⟩, by rw [ht]; exact hP, hD⟩, hS.F ht⟩) hS.2.2 dL_tightest_16
set_option maxHeartbeats 1000000 in
set_option maxRecDepth 100000 in
/-- the law's passes -/
theorem c_L_passes (l : Launch) (hst : l.stackTraces = false) (dC : Nat → ClassId) (dI : Nat → Nat → Nat) (cy : Nat → ClassId) (sz : Nat) (d0 : Nat) (o bc bt bv : Nat → Nat) (rg : Nat) (cs : Nat → Nat) (bs : Nat → Nat → Nat) (ta tb : Nat) (z bq rt : Nat → Nat) (F : Nat → Int32) (G : vG) (n : Nat) (sc : Int32) (Gt : vG) (nt : Nat) (sct : Int32) (x kk : Nat) (RG : Nat → vG) (rn : Nat → Nat) (RS : Nat → Int32) (Gv : vG) (nv9 : Nat) (scv : Int32) (C N : Nat → Int32) (L : Nat) (fl : Int32) (M : Nat → Int32) (Gz : vG) (nz : Nat) (scz : Int32) (Q T : vG) (hk : KOk ((F, (G, n, sc), (Gt, nt, sct), (x, kk, RG, rn, RS)), (Gv, nv9, scv), (C, N, L, fl), (M, (Gz, nz, scz), Q, T))) (oq : Nat) (y : Int64) (p0 p1 : Int32) : metL l yL_passes wsL_passes ({ frames := 8, cells := 2, slots := 12, locals := 124 }) [.ref d0, .int p0, .int p1, .ref oq] dC dI cy (d0, o, bc, bt, bv, rg, cs, bs, ta, tb, z, bq, rt) oq sz ((F, (G, n, sc), (Gt, nt, sct), (x, kk, RG, rn, RS)), (Gv, nv9, scv), (C, N, L, fl), (M, (Gz, nz, scz), Q, T)) y (rdL ((F, (G, n, sc), (Gt, nt, sct), (x, kk, RG, rn, RS)), (Gv, nv9, scv), (C, N, L, fl), (M, (Gz, nz, scz), Q, T)) (cPas p0 p1) (b2l (if ffail G n p1 p0 = 0 then 1 else 0))) 2 12 := by
  unfold metL
  refine vn_ofH (cc := cL_passes) (maxL := 5) (ret := some .int) (hh := [(0, 17, 20, 13)]) (by decide) rfl ?_
  intro p e s m args below meth c s₁ B hml hv
  obtain ⟨rfl, hsz, hP, hE, hD0, hX, hZ, hV⟩ := hv
  have hK := hE.1
  subst hsz
  have hD := hD0.self (sz := s.heap.size)
  generalize hAe : va_A (wK cy (d0, o, bc, bt, bv, rg, cs, bs, ta, tb, z, bq, rt) ((F, (G, n, sc), (Gt, nt, sct), (x, kk, RG, rn, RS)), (Gv, nv9, scv), (C, N, L, fl), (M, (Gz, nz, scz), Q, T)) ++ oL cy oq y) s.heap.size = A at hD hZ ⊢
  have hA : ∀ q : Nat, s.heap.size ≤ q → A q := fun q h => by rw [← hAe]; exact Or.inr h
  have hS : va_S A s.heap s.heap [] := va_S.rf
  obtain ⟨hn, hnt, hx6, hkk, hrn, hnv, hL, hnz, hG, hsc, hd0, hd1, hGR⟩ := hk
  have hB : BP (dC, dI) vwCl [wObj d0 o F, wCfg cy (o 0) bc G (nI n) sc, wCfg cy (o 1) bt Gt (nI nt) sct, wHis cy (o 3) rg x kk cs bs RG rn RS, wCfg cy (o 2) bv Gv (nI nv9) scv, wTxt cy (o 4) ta tb C N (nI L) fl, wSim (o 5) z M, wCfg cy (z 0) bq Gz (nI nz) scz, wArr cy z rt Q T, oL cy oq y] s.heap := wKo_P.mp hP
  have hBD : BD A [wObj d0 o F, wCfg cy (o 0) bc G (nI n) sc, wCfg cy (o 1) bt Gt (nI nt) sct, wHis cy (o 3) rg x kk cs bs RG rn RS, wCfg cy (o 2) bv Gv (nI nv9) scv, wTxt cy (o 4) ta tb C N (nI L) fl, wSim (o 5) z M, wCfg cy (z 0) bq Gz (nI nz) scz, wArr cy z rt Q T, oL cy oq y] := wKo_D.mp hD
  have hx := B.exec
  have hb := B.bytes
  have hr := B.returns
  have hts := atoms_spec (ws := wsL_passes) B.pre
  have hown : s.vm.findClass RL = some m.cls := findClass_of_methodNamed B.named
  have htb := vx_table (x := yL_passes) B (hts (.codeWith yL_passes cL_passes 5 (some .int) [(0, 17, 20, 13)]) (List.mem_of_getElem? (i := 0) rfl))
  have hl := lv_entry ([.ref d0, .int p0, .int p1, .ref oq]) (n := 5) (Nat.le_of_ble_eq_true rfl)
  rw [lg_entry_eq]
  generalize (lg_sl ([.ref d0, .int p0, .int p1, .ref oq]) ++ List.replicate (5 - (lg_sl ([.ref d0, .int p0, .int p1, .ref oq])).length) Slot.unset).toArray = ls at hl ⊢
  have hl : lv_has ls 5 [(0, .ref d0), (1, .int p0), (2, .int p1), (3, .ref oq)] := hl
  refine lv_aload_n hx hb dL_passes_0 rfl (lv_at hl 3 rfl) ?_
  refine lv_iconst (v := 0) hx hb dL_passes_1 (by decide) ?_
  refine lv_aload_n hx hb dL_passes_2 rfl (lv_at hl 0 rfl) ?_
  refine lv_iload_n hx hb dL_passes_3 rfl (lv_at hl 1 rfl) ?_
  refine lv_iload_n hx hb dL_passes_4 rfl (lv_at hl 2 rfl) ?_
  have hPc : va_P (dC, dI) vwCl (wObj d0 o F ++ (wCfg cy (o 0) bc G (nI n) sc)) s.heap := gl_P.mpr (hB.sub (bs' := [wObj d0 o F, wCfg cy (o 0) bc G (nI n) sc]) [0, 1] rfl)
  refine vx_calli (vx_runV (As := [.int p0, .int p1]) (rest := [.int 0, .ref oq]) ⟨hx, hb, hml, hown, hts⟩ (c_X4_passes l hst dC dI cy s.heap.size d0 o F bc G n hn sc p0 p1) (cwV 2 hts gL_passes_X4_passes rfl rfl rfl (by decide +kernel) ⟨Nat.le_of_ble_eq_true rfl, Nat.le_of_ble_eq_true rfl⟩) ⟨bl_R, va_recv hK hPc (ci := 4) (q0 := 0) rfl rfl, pr_R hPc hE hX hZ hS hA⟩ rfl rfl hl.1 rfl (lv_room (Nat.le_of_ble_eq_true rfl)) dL_passes_5 ⟨Nat.le_of_ble_eq_true rfl, Nat.le_of_ble_eq_true rfl⟩) hS (fun q _ h => hA q (Nat.le_trans hS.1 h)) (fun q h => hA q (Nat.le_trans hS.1 h)) (fun q _ h => hA q (Nat.le_trans hS.1 h)) (fun E ce q9 u t H1 locs ht hvm hpx hBX hz1 hk1 hS hce hcv hcl => ?_) (fun r u t H1 locs ht hvm hw hB9 hz1 hk1 hS => ?_)
  · have hP : va_P (dC, dI) vwCl (wK cy (d0, o, bc, bt, bv, rg, cs, bs, ta, tb, z, bq, rt) ((F, (G, n, sc), (Gt, nt, sct), (x, kk, RG, rn, RS)), (Gv, nv9, scv), (C, N, L, fl), (M, (Gz, nz, scz), Q, T)) ++ oL cy oq y) H1 := wKo_P.mpr (hB.kept (fun q h => hk1 q h (Nat.not_le.mpr h)))
    obtain ⟨rfl, hc9⟩ := hBX
    refine vx_catch (name := "java/lang/IllegalArgumentException") hown [] ⟨0, 17, 20, 13⟩ [] (htb.trans rfl) (fun z hz => by simp at hz) (by decide) (by decide) (hts (.classLink RL 13 "java/lang/IllegalArgumentException") (by decide +kernel)) (va_Nw.use rfl (hX.c 0 rfl)) hce hcv hcl ?_
    refine lv_astore (lv' := (4, .ref q9) :: [(0, .ref d0), (1, .int p0), (2, .int p1), (3, .ref oq)]) hx hb dL_passes_20 hl (by decide) rfl (fun ls hl => ?_)
    refine lv_iconst (v := 1) hx hb dL_passes_22 (by decide) ?_
    exact W.iret (v := 1) hx hb hr (fun t ht hW => ⟨⟨1, (((F, (G, n, sc), (Gt, nt, sct), (x, kk, RG, rn, RS)), (Gv, nv9, scv), (C, N, L, fl), (M, (Gz, nz, scz), Q, T)), y), rfl, ⟨rfl, hc9.symm, fun h9 => absurd (hc9.symm.trans h9) (by decide)⟩, by rw [ht]; exact hP, hD⟩, hS.F ht⟩) hS.2.2 dL_passes_23
  obtain ⟨hc9, rfl⟩ := hw
  have hP : va_P (dC, dI) vwCl (wK cy (d0, o, bc, bt, bv, rg, cs, bs, ta, tb, z, bq, rt) ((F, (G, n, sc), (Gt, nt, sct), (x, kk, RG, rn, RS)), (Gv, nv9, scv), (C, N, L, fl), (M, (Gz, nz, scz), Q, T)) ++ oL cy oq y) H1 := wKo_P.mpr (hB.kept (fun q h => hk1 q h (Nat.not_le.mpr h)))
  clear hz1 hk1
  generalize H1 = H at hP hS ⊢
  refine lv_if_eq (tgt := 15) hx hb dL_passes_8 (by decide) (fun c9 => ?_) (fun c9 => ?_)
  · refine lv_lconst (v := 0) hx hb dL_passes_15 (by decide) ?_
    refine vn_last hx hb hK hP hD hS 3 rfl dL_passes_16 (fun H locs hP hD hS => ?_)
    refine lv_goto (tgt := 24) hx hb dL_passes_17 (by decide) ?_
    refine lv_iconst (v := 0) hx hb dL_passes_24 (by decide) ?_
    exact W.iret (v := 0) hx hb hr (fun t ht hW => ⟨⟨0, (((F, (G, n, sc), (Gt, nt, sct), (x, kk, RG, rn, RS)), (Gv, nv9, scv), (C, N, L, fl), (M, (Gz, nz, scz), Q, T)), 0), rfl, ⟨rfl, hc9.symm, fun _ => (if_pos c9).symm⟩, by rw [ht]; exact hP, hD⟩, hS.F ht⟩) hS.2.2 dL_passes_25
  · refine lv_lconst (v := 1) hx hb dL_passes_11 (by decide) ?_
    refine lv_goto (tgt := 16) hx hb dL_passes_12 (by decide) ?_
    refine vn_last hx hb hK hP hD hS 3 rfl dL_passes_16 (fun H locs hP hD hS => ?_)
    refine lv_goto (tgt := 24) hx hb dL_passes_17 (by decide) ?_
    refine lv_iconst (v := 0) hx hb dL_passes_24 (by decide) ?_
    exact W.iret (v := 0) hx hb hr (fun t ht hW => ⟨⟨0, (((F, (G, n, sc), (Gt, nt, sct), (x, kk, RG, rn, RS)), (Gv, nv9, scv), (C, N, L, fl), (M, (Gz, nz, scz), Q, T)), 1), rfl, ⟨rfl, hc9.symm, fun _ => (if_neg c9).symm⟩, by rw [ht]; exact hP, hD⟩, hS.F ht⟩) hS.2.2 dL_passes_25
set_option maxHeartbeats 1000000 in
set_option maxRecDepth 100000 in
/-- the law's descentPoint -/
theorem c_L_descentPoint (l : Launch) (hst : l.stackTraces = false) (dC : Nat → ClassId) (dI : Nat → Nat → Nat) (cy : Nat → ClassId) (sz : Nat) (d0 : Nat) (o bc bt bv : Nat → Nat) (rg : Nat) (cs : Nat → Nat) (bs : Nat → Nat → Nat) (ta tb : Nat) (z bq rt : Nat → Nat) (F : Nat → Int32) (G : vG) (n : Nat) (sc : Int32) (Gt : vG) (nt : Nat) (sct : Int32) (x kk : Nat) (RG : Nat → vG) (rn : Nat → Nat) (RS : Nat → Int32) (Gv : vG) (nv9 : Nat) (scv : Int32) (C N : Nat → Int32) (L : Nat) (fl : Int32) (M : Nat → Int32) (Gz : vG) (nz : Nat) (scz : Int32) (Q T : vG) (hk : KOk ((F, (G, n, sc), (Gt, nt, sct), (x, kk, RG, rn, RS)), (Gv, nv9, scv), (C, N, L, fl), (M, (Gz, nz, scz), Q, T))) (oq : Nat) (y : Int64) (p0 : Int32) : metL l yL_descentPoint wsL_descentPoint ({ frames := 7, cells := 1, slots := 6, locals := 105 }) [.ref d0, .int p0, .ref oq] dC dI cy (d0, o, bc, bt, bv, rg, cs, bs, ta, tb, z, bq, rt) oq sz ((F, (G, n, sc), (Gt, nt, sct), (x, kk, RG, rn, RS)), (Gv, nv9, scv), (C, N, L, fl), (M, (Gz, nz, scz), Q, T)) y (rdL ((F, (G, n, sc), (Gt, nt, sct), (x, kk, RG, rn, RS)), (Gv, nv9, scv), (C, N, L, fl), (M, (Gz, nz, scz), Q, T)) (cT (dlen G n sc) p0) ((dpoint G n sc p0.toNatClampNeg).toInt64)) 1 6 := by
  unfold metL
  refine vn_ofH (cc := cL_descentPoint) (maxL := 4) (ret := some .int) (hh := [(0, 9, 12, 28)]) (by decide) rfl ?_
  intro p e s m args below meth c s₁ B hml hv
  obtain ⟨rfl, hsz, hP, hE, hD0, hX, hZ, hV⟩ := hv
  have hK := hE.1
  subst hsz
  have hD := hD0.self (sz := s.heap.size)
  generalize hAe : va_A (wK cy (d0, o, bc, bt, bv, rg, cs, bs, ta, tb, z, bq, rt) ((F, (G, n, sc), (Gt, nt, sct), (x, kk, RG, rn, RS)), (Gv, nv9, scv), (C, N, L, fl), (M, (Gz, nz, scz), Q, T)) ++ oL cy oq y) s.heap.size = A at hD hZ ⊢
  have hA : ∀ q : Nat, s.heap.size ≤ q → A q := fun q h => by rw [← hAe]; exact Or.inr h
  have hS : va_S A s.heap s.heap [] := va_S.rf
  obtain ⟨hn, hnt, hx6, hkk, hrn, hnv, hL, hnz, hG, hsc, hd0, hd1, hGR⟩ := hk
  have hB : BP (dC, dI) vwCl [wObj d0 o F, wCfg cy (o 0) bc G (nI n) sc, wCfg cy (o 1) bt Gt (nI nt) sct, wHis cy (o 3) rg x kk cs bs RG rn RS, wCfg cy (o 2) bv Gv (nI nv9) scv, wTxt cy (o 4) ta tb C N (nI L) fl, wSim (o 5) z M, wCfg cy (z 0) bq Gz (nI nz) scz, wArr cy z rt Q T, oL cy oq y] s.heap := wKo_P.mp hP
  have hBD : BD A [wObj d0 o F, wCfg cy (o 0) bc G (nI n) sc, wCfg cy (o 1) bt Gt (nI nt) sct, wHis cy (o 3) rg x kk cs bs RG rn RS, wCfg cy (o 2) bv Gv (nI nv9) scv, wTxt cy (o 4) ta tb C N (nI L) fl, wSim (o 5) z M, wCfg cy (z 0) bq Gz (nI nz) scz, wArr cy z rt Q T, oL cy oq y] := wKo_D.mp hD
  have hx := B.exec
  have hb := B.bytes
  have hr := B.returns
  have hts := atoms_spec (ws := wsL_descentPoint) B.pre
  have hown : s.vm.findClass RL = some m.cls := findClass_of_methodNamed B.named
  have htb := vx_table (x := yL_descentPoint) B (hts (.codeWith yL_descentPoint cL_descentPoint 4 (some .int) [(0, 9, 12, 28)]) (List.mem_of_getElem? (i := 0) rfl))
  have hl := lv_entry ([.ref d0, .int p0, .ref oq]) (n := 4) (Nat.le_of_ble_eq_true rfl)
  rw [lg_entry_eq]
  generalize (lg_sl ([.ref d0, .int p0, .ref oq]) ++ List.replicate (4 - (lg_sl ([.ref d0, .int p0, .ref oq])).length) Slot.unset).toArray = ls at hl ⊢
  have hl : lv_has ls 4 [(0, .ref d0), (1, .int p0), (2, .ref oq)] := hl
  refine lv_aload_n hx hb dL_descentPoint_0 rfl (lv_at hl 2 rfl) ?_
  refine lv_iconst (v := 0) hx hb dL_descentPoint_1 (by decide) ?_
  refine lv_aload_n hx hb dL_descentPoint_2 rfl (lv_at hl 0 rfl) ?_
  refine lv_iload_n hx hb dL_descentPoint_3 rfl (lv_at hl 1 rfl) ?_
  have hPc : va_P (dC, dI) vwCl (wObj d0 o F ++ (wCfg cy (o 0) bc G (nI n) sc)) s.heap := gl_P.mpr (hB.sub (bs' := [wObj d0 o F, wCfg cy (o 0) bc G (nI n) sc]) [0, 1] rfl)
  refine vx_calli (vx_runV (As := [.int p0]) (rest := [.int 0, .ref oq]) ⟨hx, hb, hml, hown, hts⟩ (c_X4_descentPoint l hst dC dI cy s.heap.size d0 o F bc G n hn sc hsc hG p0) (cwV 1 hts gL_descentPoint_X4_descentPoint rfl rfl rfl (by decide +kernel) ⟨Nat.le_of_ble_eq_true rfl, Nat.le_of_ble_eq_true rfl⟩) ⟨bl_R, va_recv hK hPc (ci := 4) (q0 := 0) rfl rfl, pr_R hPc hE hX hZ hS hA⟩ rfl rfl hl.1 rfl (lv_room (Nat.le_of_ble_eq_true rfl)) dL_descentPoint_4 ⟨Nat.le_of_ble_eq_true rfl, Nat.le_of_ble_eq_true rfl⟩) hS (fun q _ h => hA q (Nat.le_trans hS.1 h)) (fun q h => hA q (Nat.le_trans hS.1 h)) (fun q _ h => hA q (Nat.le_trans hS.1 h)) (fun E ce q9 u t H1 locs ht hvm hpx hBX hz1 hk1 hS hce hcv hcl => ?_) (fun r u t H1 locs ht hvm hw hB9 hz1 hk1 hS => ?_)
  · have hP : va_P (dC, dI) vwCl (wK cy (d0, o, bc, bt, bv, rg, cs, bs, ta, tb, z, bq, rt) ((F, (G, n, sc), (Gt, nt, sct), (x, kk, RG, rn, RS)), (Gv, nv9, scv), (C, N, L, fl), (M, (Gz, nz, scz), Q, T)) ++ oL cy oq y) H1 := wKo_P.mpr (hB.kept (fun q h => hk1 q h (Nat.not_le.mpr h)))
    obtain ⟨rfl, hc9⟩ := hBX
    refine vx_catch (name := "java/lang/IndexOutOfBoundsException") hown [] ⟨0, 9, 12, 28⟩ [] (htb.trans rfl) (fun z hz => by simp at hz) (by decide) (by decide) (hts (.classLink RL 28 "java/lang/IndexOutOfBoundsException") (by decide +kernel)) (va_Nw.use rfl (hX.c 2 rfl)) hce hcv hcl ?_
    refine lv_astore_n (lv' := (3, .ref q9) :: [(0, .ref d0), (1, .int p0), (2, .ref oq)]) hx hb dL_descentPoint_12 rfl hl (by decide) rfl (fun ls hl => ?_)
    refine lv_iconst (v := 1) hx hb dL_descentPoint_13 (by decide) ?_
    exact W.iret (v := 1) hx hb hr (fun t ht hW => ⟨⟨1, (((F, (G, n, sc), (Gt, nt, sct), (x, kk, RG, rn, RS)), (Gv, nv9, scv), (C, N, L, fl), (M, (Gz, nz, scz), Q, T)), y), rfl, ⟨rfl, hc9.symm, fun h9 => absurd (hc9.symm.trans h9) (by decide)⟩, by rw [ht]; exact hP, hD⟩, hS.F ht⟩) hS.2.2 dL_descentPoint_14
  obtain ⟨hc9, rfl⟩ := hw
  have hP : va_P (dC, dI) vwCl (wK cy (d0, o, bc, bt, bv, rg, cs, bs, ta, tb, z, bq, rt) ((F, (G, n, sc), (Gt, nt, sct), (x, kk, RG, rn, RS)), (Gv, nv9, scv), (C, N, L, fl), (M, (Gz, nz, scz), Q, T)) ++ oL cy oq y) H1 := wKo_P.mpr (hB.kept (fun q h => hk1 q h (Nat.not_le.mpr h)))
  clear hz1 hk1
  generalize H1 = H at hP hS ⊢
  refine lv_i2l hx hb dL_descentPoint_7 rfl ?_
  refine vn_last hx hb hK hP hD hS 3 rfl dL_descentPoint_8 (fun H locs hP hD hS => ?_)
  refine lv_goto (tgt := 15) hx hb dL_descentPoint_9 (by decide) ?_
  refine lv_iconst (v := 0) hx hb dL_descentPoint_15 (by decide) ?_
  exact W.iret (v := 0) hx hb hr (fun t ht hW => ⟨⟨0, (((F, (G, n, sc), (Gt, nt, sct), (x, kk, RG, rn, RS)), (Gv, nv9, scv), (C, N, L, fl), (M, (Gz, nz, scz), Q, T)), _), rfl, ⟨rfl, hc9.symm, fun _ => rfl⟩, by rw [ht]; exact hP, hD⟩, hS.F ht⟩) hS.2.2 dL_descentPoint_16
set_option maxHeartbeats 1000000 in
set_option maxRecDepth 100000 in
/-- the law's rejectionMode -/
theorem c_L_rejectionMode (l : Launch) (hst : l.stackTraces = false) (dC : Nat → ClassId) (dI : Nat → Nat → Nat) (cy : Nat → ClassId) (sz : Nat) (d0 : Nat) (o bc bt bv : Nat → Nat) (rg : Nat) (cs : Nat → Nat) (bs : Nat → Nat → Nat) (ta tb : Nat) (z bq rt : Nat → Nat) (F : Nat → Int32) (G : vG) (n : Nat) (sc : Int32) (Gt : vG) (nt : Nat) (sct : Int32) (x kk : Nat) (RG : Nat → vG) (rn : Nat → Nat) (RS : Nat → Int32) (Gv : vG) (nv9 : Nat) (scv : Int32) (C N : Nat → Int32) (L : Nat) (fl : Int32) (M : Nat → Int32) (Gz : vG) (nz : Nat) (scz : Int32) (Q T : vG) (hk : KOk ((F, (G, n, sc), (Gt, nt, sct), (x, kk, RG, rn, RS)), (Gv, nv9, scv), (C, N, L, fl), (M, (Gz, nz, scz), Q, T))) (oq : Nat) (y : Int64) : metL l yL_rejectionMode wsL_rejectionMode ({ frames := 8, cells := 1, slots := 6, locals := 122 }) [.ref d0, .ref oq] dC dI cy (d0, o, bc, bt, bv, rg, cs, bs, ta, tb, z, bq, rt) oq sz ((F, (G, n, sc), (Gt, nt, sct), (x, kk, RG, rn, RS)), (Gv, nv9, scv), (C, N, L, fl), (M, (Gz, nz, scz), Q, T)) y (rdL ((F, (G, n, sc), (Gt, nt, sct), (x, kk, RG, rn, RS)), (Gv, nv9, scv), (C, N, L, fl), (M, (Gz, nz, scz), Q, T)) (c01 (F 8)) ((F 9).toInt64)) 1 6 := by
  unfold metL
  refine vn_ofH (cc := cL_rejectionMode) (maxL := 3) (ret := some .int) (hh := [(0, 8, 11, 92)]) (by decide) rfl ?_
  intro p e s m args below meth c s₁ B hml hv
  obtain ⟨rfl, hsz, hP, hE, hD0, hX, hZ, hV⟩ := hv
  have hK := hE.1
  subst hsz
  have hD := hD0.self (sz := s.heap.size)
  generalize hAe : va_A (wK cy (d0, o, bc, bt, bv, rg, cs, bs, ta, tb, z, bq, rt) ((F, (G, n, sc), (Gt, nt, sct), (x, kk, RG, rn, RS)), (Gv, nv9, scv), (C, N, L, fl), (M, (Gz, nz, scz), Q, T)) ++ oL cy oq y) s.heap.size = A at hD hZ ⊢
  have hA : ∀ q : Nat, s.heap.size ≤ q → A q := fun q h => by rw [← hAe]; exact Or.inr h
  have hS : va_S A s.heap s.heap [] := va_S.rf
  obtain ⟨hn, hnt, hx6, hkk, hrn, hnv, hL, hnz, hG, hsc, hd0, hd1, hGR⟩ := hk
  have hB : BP (dC, dI) vwCl [wObj d0 o F, wCfg cy (o 0) bc G (nI n) sc, wCfg cy (o 1) bt Gt (nI nt) sct, wHis cy (o 3) rg x kk cs bs RG rn RS, wCfg cy (o 2) bv Gv (nI nv9) scv, wTxt cy (o 4) ta tb C N (nI L) fl, wSim (o 5) z M, wCfg cy (z 0) bq Gz (nI nz) scz, wArr cy z rt Q T, oL cy oq y] s.heap := wKo_P.mp hP
  have hBD : BD A [wObj d0 o F, wCfg cy (o 0) bc G (nI n) sc, wCfg cy (o 1) bt Gt (nI nt) sct, wHis cy (o 3) rg x kk cs bs RG rn RS, wCfg cy (o 2) bv Gv (nI nv9) scv, wTxt cy (o 4) ta tb C N (nI L) fl, wSim (o 5) z M, wCfg cy (z 0) bq Gz (nI nz) scz, wArr cy z rt Q T, oL cy oq y] := wKo_D.mp hD
  have hx := B.exec
  have hb := B.bytes
  have hr := B.returns
  have hts := atoms_spec (ws := wsL_rejectionMode) B.pre
  have hown : s.vm.findClass RL = some m.cls := findClass_of_methodNamed B.named
  have htb := vx_table (x := yL_rejectionMode) B (hts (.codeWith yL_rejectionMode cL_rejectionMode 3 (some .int) [(0, 8, 11, 92)]) (List.mem_of_getElem? (i := 0) rfl))
  have hl := lv_entry ([.ref d0, .ref oq]) (n := 3) (Nat.le_of_ble_eq_true rfl)
  rw [lg_entry_eq]
  generalize (lg_sl ([.ref d0, .ref oq]) ++ List.replicate (3 - (lg_sl ([.ref d0, .ref oq])).length) Slot.unset).toArray = ls at hl ⊢
  have hl : lv_has ls 3 [(0, .ref d0), (1, .ref oq)] := hl
  refine lv_aload_n hx hb dL_rejectionMode_0 rfl (lv_at hl 1 rfl) ?_
  refine lv_iconst (v := 0) hx hb dL_rejectionMode_1 (by decide) ?_
  refine lv_aload_n hx hb dL_rejectionMode_2 rfl (lv_at hl 0 rfl) ?_
  have hPc : va_P (dC, dI) vwCl (wObj d0 o F) s.heap := gl_P.mpr (hB.sub (bs' := [wObj d0 o F]) [0] rfl)
  refine vx_calli (vx_runV (As := []) (rest := [.int 0, .ref oq]) ⟨hx, hb, hml, hown, hts⟩ (c_X4_rejectionMode l hst dC dI cy s.heap.size d0 o F) (cwV 0 hts gL_rejectionMode_X4_rejectionMode rfl rfl rfl (by decide +kernel) ⟨Nat.le_of_ble_eq_true rfl, Nat.le_of_ble_eq_true rfl⟩) ⟨bl_R, va_recv hK hPc (ci := 4) (q0 := 0) rfl rfl, pr_R hPc hE hX hZ hS hA⟩ rfl rfl hl.1 rfl (lv_room (Nat.le_of_ble_eq_true rfl)) dL_rejectionMode_3 ⟨Nat.le_of_ble_eq_true rfl, Nat.le_of_ble_eq_true rfl⟩) hS (fun q _ h => hA q (Nat.le_trans hS.1 h)) (fun q h => hA q (Nat.le_trans hS.1 h)) (fun q _ h => hA q (Nat.le_trans hS.1 h)) (fun E ce q9 u t H1 locs ht hvm hpx hBX hz1 hk1 hS hce hcv hcl => ?_) (fun r u t H1 locs ht hvm hw hB9 hz1 hk1 hS => ?_)
  · have hP : va_P (dC, dI) vwCl (wK cy (d0, o, bc, bt, bv, rg, cs, bs, ta, tb, z, bq, rt) ((F, (G, n, sc), (Gt, nt, sct), (x, kk, RG, rn, RS)), (Gv, nv9, scv), (C, N, L, fl), (M, (Gz, nz, scz), Q, T)) ++ oL cy oq y) H1 := wKo_P.mpr (hB.kept (fun q h => hk1 q h (Nat.not_le.mpr h)))
    obtain ⟨rfl, hc9⟩ := hBX
    refine vx_catch (name := "java/util/NoSuchElementException") hown [] ⟨0, 8, 11, 92⟩ [] (htb.trans rfl) (fun z hz => by simp at hz) (by decide) (by decide) (hts (.classLink RL 92 "java/util/NoSuchElementException") (by decide +kernel)) (va_Nw.use rfl (hX.c 4 rfl)) hce hcv hcl ?_
    refine lv_astore_n (lv' := (2, .ref q9) :: [(0, .ref d0), (1, .ref oq)]) hx hb dL_rejectionMode_11 rfl hl (by decide) rfl (fun ls hl => ?_)
    refine lv_iconst (v := 1) hx hb dL_rejectionMode_12 (by decide) ?_
    exact W.iret (v := 1) hx hb hr (fun t ht hW => ⟨⟨1, (((F, (G, n, sc), (Gt, nt, sct), (x, kk, RG, rn, RS)), (Gv, nv9, scv), (C, N, L, fl), (M, (Gz, nz, scz), Q, T)), y), rfl, ⟨rfl, hc9.symm, fun h9 => absurd (hc9.symm.trans h9) (by decide)⟩, by rw [ht]; exact hP, hD⟩, hS.F ht⟩) hS.2.2 dL_rejectionMode_13
  obtain ⟨hc9, rfl⟩ := hw
  have hP : va_P (dC, dI) vwCl (wK cy (d0, o, bc, bt, bv, rg, cs, bs, ta, tb, z, bq, rt) ((F, (G, n, sc), (Gt, nt, sct), (x, kk, RG, rn, RS)), (Gv, nv9, scv), (C, N, L, fl), (M, (Gz, nz, scz), Q, T)) ++ oL cy oq y) H1 := wKo_P.mpr (hB.kept (fun q h => hk1 q h (Nat.not_le.mpr h)))
  clear hz1 hk1
  generalize H1 = H at hP hS ⊢
  refine lv_i2l hx hb dL_rejectionMode_6 rfl ?_
  refine vn_last hx hb hK hP hD hS 3 rfl dL_rejectionMode_7 (fun H locs hP hD hS => ?_)
  refine lv_goto (tgt := 14) hx hb dL_rejectionMode_8 (by decide) ?_
  refine lv_iconst (v := 0) hx hb dL_rejectionMode_14 (by decide) ?_
  exact W.iret (v := 0) hx hb hr (fun t ht hW => ⟨⟨0, (((F, (G, n, sc), (Gt, nt, sct), (x, kk, RG, rn, RS)), (Gv, nv9, scv), (C, N, L, fl), (M, (Gz, nz, scz), Q, T)), _), rfl, ⟨rfl, hc9.symm, fun _ => rfl⟩, by rw [ht]; exact hP, hD⟩, hS.F ht⟩) hS.2.2 dL_rejectionMode_15
set_option maxHeartbeats 1000000 in
set_option maxRecDepth 100000 in
/-- the law's rejectionLength -/
theorem c_L_rejectionLength (l : Launch) (hst : l.stackTraces = false) (dC : Nat → ClassId) (dI : Nat → Nat → Nat) (cy : Nat → ClassId) (sz : Nat) (d0 : Nat) (o bc bt bv : Nat → Nat) (rg : Nat) (cs : Nat → Nat) (bs : Nat → Nat → Nat) (ta tb : Nat) (z bq rt : Nat → Nat) (F : Nat → Int32) (G : vG) (n : Nat) (sc : Int32) (Gt : vG) (nt : Nat) (sct : Int32) (x kk : Nat) (RG : Nat → vG) (rn : Nat → Nat) (RS : Nat → Int32) (Gv : vG) (nv9 : Nat) (scv : Int32) (C N : Nat → Int32) (L : Nat) (fl : Int32) (M : Nat → Int32) (Gz : vG) (nz : Nat) (scz : Int32) (Q T : vG) (hk : KOk ((F, (G, n, sc), (Gt, nt, sct), (x, kk, RG, rn, RS)), (Gv, nv9, scv), (C, N, L, fl), (M, (Gz, nz, scz), Q, T))) (oq : Nat) (y : Int64) : metL l yL_rejectionLength wsL_rejectionLength ({ frames := 8, cells := 1, slots := 6, locals := 122 }) [.ref d0, .ref oq] dC dI cy (d0, o, bc, bt, bv, rg, cs, bs, ta, tb, z, bq, rt) oq sz ((F, (G, n, sc), (Gt, nt, sct), (x, kk, RG, rn, RS)), (Gv, nv9, scv), (C, N, L, fl), (M, (Gz, nz, scz), Q, T)) y (rdL ((F, (G, n, sc), (Gt, nt, sct), (x, kk, RG, rn, RS)), (Gv, nv9, scv), (C, N, L, fl), (M, (Gz, nz, scz), Q, T)) (c01 (F 8)) ((F 10).toInt64)) 1 6 := by
  unfold metL
  refine vn_ofH (cc := cL_rejectionLength) (maxL := 3) (ret := some .int) (hh := [(0, 8, 11, 92)]) (by decide) rfl ?_
  intro p e s m args below meth c s₁ B hml hv
  obtain ⟨rfl, hsz, hP, hE, hD0, hX, hZ, hV⟩ := hv
  have hK := hE.1
  subst hsz
  have hD := hD0.self (sz := s.heap.size)
  generalize hAe : va_A (wK cy (d0, o, bc, bt, bv, rg, cs, bs, ta, tb, z, bq, rt) ((F, (G, n, sc), (Gt, nt, sct), (x, kk, RG, rn, RS)), (Gv, nv9, scv), (C, N, L, fl), (M, (Gz, nz, scz), Q, T)) ++ oL cy oq y) s.heap.size = A at hD hZ ⊢
  have hA : ∀ q : Nat, s.heap.size ≤ q → A q := fun q h => by rw [← hAe]; exact Or.inr h
  have hS : va_S A s.heap s.heap [] := va_S.rf
  obtain ⟨hn, hnt, hx6, hkk, hrn, hnv, hL, hnz, hG, hsc, hd0, hd1, hGR⟩ := hk
  have hB : BP (dC, dI) vwCl [wObj d0 o F, wCfg cy (o 0) bc G (nI n) sc, wCfg cy (o 1) bt Gt (nI nt) sct, wHis cy (o 3) rg x kk cs bs RG rn RS, wCfg cy (o 2) bv Gv (nI nv9) scv, wTxt cy (o 4) ta tb C N (nI L) fl, wSim (o 5) z M, wCfg cy (z 0) bq Gz (nI nz) scz, wArr cy z rt Q T, oL cy oq y] s.heap := wKo_P.mp hP
  have hBD : BD A [wObj d0 o F, wCfg cy (o 0) bc G (nI n) sc, wCfg cy (o 1) bt Gt (nI nt) sct, wHis cy (o 3) rg x kk cs bs RG rn RS, wCfg cy (o 2) bv Gv (nI nv9) scv, wTxt cy (o 4) ta tb C N (nI L) fl, wSim (o 5) z M, wCfg cy (z 0) bq Gz (nI nz) scz, wArr cy z rt Q T, oL cy oq y] := wKo_D.mp hD
  have hx := B.exec
  have hb := B.bytes
  have hr := B.returns
  have hts := atoms_spec (ws := wsL_rejectionLength) B.pre
  have hown : s.vm.findClass RL = some m.cls := findClass_of_methodNamed B.named
  have htb := vx_table (x := yL_rejectionLength) B (hts (.codeWith yL_rejectionLength cL_rejectionLength 3 (some .int) [(0, 8, 11, 92)]) (List.mem_of_getElem? (i := 0) rfl))
  have hl := lv_entry ([.ref d0, .ref oq]) (n := 3) (Nat.le_of_ble_eq_true rfl)
  rw [lg_entry_eq]
  generalize (lg_sl ([.ref d0, .ref oq]) ++ List.replicate (3 - (lg_sl ([.ref d0, .ref oq])).length) Slot.unset).toArray = ls at hl ⊢
  have hl : lv_has ls 3 [(0, .ref d0), (1, .ref oq)] := hl
  refine lv_aload_n hx hb dL_rejectionLength_0 rfl (lv_at hl 1 rfl) ?_
  refine lv_iconst (v := 0) hx hb dL_rejectionLength_1 (by decide) ?_
  refine lv_aload_n hx hb dL_rejectionLength_2 rfl (lv_at hl 0 rfl) ?_
  have hPc : va_P (dC, dI) vwCl (wObj d0 o F) s.heap := gl_P.mpr (hB.sub (bs' := [wObj d0 o F]) [0] rfl)
  refine vx_calli (vx_runV (As := []) (rest := [.int 0, .ref oq]) ⟨hx, hb, hml, hown, hts⟩ (c_X4_rejectionLength l hst dC dI cy s.heap.size d0 o F) (cwV 0 hts gL_rejectionLength_X4_rejectionLength rfl rfl rfl (by decide +kernel) ⟨Nat.le_of_ble_eq_true rfl, Nat.le_of_ble_eq_true rfl⟩) ⟨bl_R, va_recv hK hPc (ci := 4) (q0 := 0) rfl rfl, pr_R hPc hE hX hZ hS hA⟩ rfl rfl hl.1 rfl (lv_room (Nat.le_of_ble_eq_true rfl)) dL_rejectionLength_3 ⟨Nat.le_of_ble_eq_true rfl, Nat.le_of_ble_eq_true rfl⟩) hS (fun q _ h => hA q (Nat.le_trans hS.1 h)) (fun q h => hA q (Nat.le_trans hS.1 h)) (fun q _ h => hA q (Nat.le_trans hS.1 h)) (fun E ce q9 u t H1 locs ht hvm hpx hBX hz1 hk1 hS hce hcv hcl => ?_) (fun r u t H1 locs ht hvm hw hB9 hz1 hk1 hS => ?_)
  · have hP : va_P (dC, dI) vwCl (wK cy (d0, o, bc, bt, bv, rg, cs, bs, ta, tb, z, bq, rt) ((F, (G, n, sc), (Gt, nt, sct), (x, kk, RG, rn, RS)), (Gv, nv9, scv), (C, N, L, fl), (M, (Gz, nz, scz), Q, T)) ++ oL cy oq y) H1 := wKo_P.mpr (hB.kept (fun q h => hk1 q h (Nat.not_le.mpr h)))
    obtain ⟨rfl, hc9⟩ := hBX
    refine vx_catch (name := "java/util/NoSuchElementException") hown [] ⟨0, 8, 11, 92⟩ [] (htb.trans rfl) (fun z hz => by simp at hz) (by decide) (by decide) (hts (.classLink RL 92 "java/util/NoSuchElementException") (by decide +kernel)) (va_Nw.use rfl (hX.c 4 rfl)) hce hcv hcl ?_
    refine lv_astore_n (lv' := (2, .ref q9) :: [(0, .ref d0), (1, .ref oq)]) hx hb dL_rejectionLength_11 rfl hl (by decide) rfl (fun ls hl => ?_)
    refine lv_iconst (v := 1) hx hb dL_rejectionLength_12 (by decide) ?_
    exact W.iret (v := 1) hx hb hr (fun t ht hW => ⟨⟨1, (((F, (G, n, sc), (Gt, nt, sct), (x, kk, RG, rn, RS)), (Gv, nv9, scv), (C, N, L, fl), (M, (Gz, nz, scz), Q, T)), y), rfl, ⟨rfl, hc9.symm, fun h9 => absurd (hc9.symm.trans h9) (by decide)⟩, by rw [ht]; exact hP, hD⟩, hS.F ht⟩) hS.2.2 dL_rejectionLength_13
  obtain ⟨hc9, rfl⟩ := hw
  have hP : va_P (dC, dI) vwCl (wK cy (d0, o, bc, bt, bv, rg, cs, bs, ta, tb, z, bq, rt) ((F, (G, n, sc), (Gt, nt, sct), (x, kk, RG, rn, RS)), (Gv, nv9, scv), (C, N, L, fl), (M, (Gz, nz, scz), Q, T)) ++ oL cy oq y) H1 := wKo_P.mpr (hB.kept (fun q h => hk1 q h (Nat.not_le.mpr h)))
  clear hz1 hk1
  generalize H1 = H at hP hS ⊢
  refine lv_i2l hx hb dL_rejectionLength_6 rfl ?_
  refine vn_last hx hb hK hP hD hS 3 rfl dL_rejectionLength_7 (fun H locs hP hD hS => ?_)
  refine lv_goto (tgt := 14) hx hb dL_rejectionLength_8 (by decide) ?_
  refine lv_iconst (v := 0) hx hb dL_rejectionLength_14 (by decide) ?_
  exact W.iret (v := 0) hx hb hr (fun t ht hW => ⟨⟨0, (((F, (G, n, sc), (Gt, nt, sct), (x, kk, RG, rn, RS)), (Gv, nv9, scv), (C, N, L, fl), (M, (Gz, nz, scz), Q, T)), _), rfl, ⟨rfl, hc9.symm, fun _ => rfl⟩, by rw [ht]; exact hP, hD⟩, hS.F ht⟩) hS.2.2 dL_rejectionLength_15
set_option maxHeartbeats 1000000 in
set_option maxRecDepth 100000 in
/-- the law's rejectionDemand -/
theorem c_L_rejectionDemand (l : Launch) (hst : l.stackTraces = false) (dC : Nat → ClassId) (dI : Nat → Nat → Nat) (cy : Nat → ClassId) (sz : Nat) (d0 : Nat) (o bc bt bv : Nat → Nat) (rg : Nat) (cs : Nat → Nat) (bs : Nat → Nat → Nat) (ta tb : Nat) (z bq rt : Nat → Nat) (F : Nat → Int32) (G : vG) (n : Nat) (sc : Int32) (Gt : vG) (nt : Nat) (sct : Int32) (x kk : Nat) (RG : Nat → vG) (rn : Nat → Nat) (RS : Nat → Int32) (Gv : vG) (nv9 : Nat) (scv : Int32) (C N : Nat → Int32) (L : Nat) (fl : Int32) (M : Nat → Int32) (Gz : vG) (nz : Nat) (scz : Int32) (Q T : vG) (hk : KOk ((F, (G, n, sc), (Gt, nt, sct), (x, kk, RG, rn, RS)), (Gv, nv9, scv), (C, N, L, fl), (M, (Gz, nz, scz), Q, T))) (oq : Nat) (y : Int64) : metL l yL_rejectionDemand wsL_rejectionDemand ({ frames := 8, cells := 1, slots := 6, locals := 122 }) [.ref d0, .ref oq] dC dI cy (d0, o, bc, bt, bv, rg, cs, bs, ta, tb, z, bq, rt) oq sz ((F, (G, n, sc), (Gt, nt, sct), (x, kk, RG, rn, RS)), (Gv, nv9, scv), (C, N, L, fl), (M, (Gz, nz, scz), Q, T)) y (rdL ((F, (G, n, sc), (Gt, nt, sct), (x, kk, RG, rn, RS)), (Gv, nv9, scv), (C, N, L, fl), (M, (Gz, nz, scz), Q, T)) (c01 (F 8)) ((F 11).toInt64)) 1 6 := by
  unfold metL
  refine vn_ofH (cc := cL_rejectionDemand) (maxL := 3) (ret := some .int) (hh := [(0, 8, 11, 92)]) (by decide) rfl ?_
  intro p e s m args below meth c s₁ B hml hv
  obtain ⟨rfl, hsz, hP, hE, hD0, hX, hZ, hV⟩ := hv
  have hK := hE.1
  subst hsz
  have hD := hD0.self (sz := s.heap.size)
  generalize hAe : va_A (wK cy (d0, o, bc, bt, bv, rg, cs, bs, ta, tb, z, bq, rt) ((F, (G, n, sc), (Gt, nt, sct), (x, kk, RG, rn, RS)), (Gv, nv9, scv), (C, N, L, fl), (M, (Gz, nz, scz), Q, T)) ++ oL cy oq y) s.heap.size = A at hD hZ ⊢
  have hA : ∀ q : Nat, s.heap.size ≤ q → A q := fun q h => by rw [← hAe]; exact Or.inr h
  have hS : va_S A s.heap s.heap [] := va_S.rf
  obtain ⟨hn, hnt, hx6, hkk, hrn, hnv, hL, hnz, hG, hsc, hd0, hd1, hGR⟩ := hk
  have hB : BP (dC, dI) vwCl [wObj d0 o F, wCfg cy (o 0) bc G (nI n) sc, wCfg cy (o 1) bt Gt (nI nt) sct, wHis cy (o 3) rg x kk cs bs RG rn RS, wCfg cy (o 2) bv Gv (nI nv9) scv, wTxt cy (o 4) ta tb C N (nI L) fl, wSim (o 5) z M, wCfg cy (z 0) bq Gz (nI nz) scz, wArr cy z rt Q T, oL cy oq y] s.heap := wKo_P.mp hP
  have hBD : BD A [wObj d0 o F, wCfg cy (o 0) bc G (nI n) sc, wCfg cy (o 1) bt Gt (nI nt) sct, wHis cy (o 3) rg x kk cs bs RG rn RS, wCfg cy (o 2) bv Gv (nI nv9) scv, wTxt cy (o 4) ta tb C N (nI L) fl, wSim (o 5) z M, wCfg cy (z 0) bq Gz (nI nz) scz, wArr cy z rt Q T, oL cy oq y] := wKo_D.mp hD
  have hx := B.exec
  have hb := B.bytes
  have hr := B.returns
  have hts := atoms_spec (ws := wsL_rejectionDemand) B.pre
  have hown : s.vm.findClass RL = some m.cls := findClass_of_methodNamed B.named
  have htb := vx_table (x := yL_rejectionDemand) B (hts (.codeWith yL_rejectionDemand cL_rejectionDemand 3 (some .int) [(0, 8, 11, 92)]) (List.mem_of_getElem? (i := 0) rfl))
  have hl := lv_entry ([.ref d0, .ref oq]) (n := 3) (Nat.le_of_ble_eq_true rfl)
  rw [lg_entry_eq]
  generalize (lg_sl ([.ref d0, .ref oq]) ++ List.replicate (3 - (lg_sl ([.ref d0, .ref oq])).length) Slot.unset).toArray = ls at hl ⊢
  have hl : lv_has ls 3 [(0, .ref d0), (1, .ref oq)] := hl
  refine lv_aload_n hx hb dL_rejectionDemand_0 rfl (lv_at hl 1 rfl) ?_
  refine lv_iconst (v := 0) hx hb dL_rejectionDemand_1 (by decide) ?_
  refine lv_aload_n hx hb dL_rejectionDemand_2 rfl (lv_at hl 0 rfl) ?_
  have hPc : va_P (dC, dI) vwCl (wObj d0 o F) s.heap := gl_P.mpr (hB.sub (bs' := [wObj d0 o F]) [0] rfl)
  refine vx_calli (vx_runV (As := []) (rest := [.int 0, .ref oq]) ⟨hx, hb, hml, hown, hts⟩ (c_X4_rejectionDemand l hst dC dI cy s.heap.size d0 o F) (cwV 0 hts gL_rejectionDemand_X4_rejectionDemand rfl rfl rfl (by decide +kernel) ⟨Nat.le_of_ble_eq_true rfl, Nat.le_of_ble_eq_true rfl⟩) ⟨bl_R, va_recv hK hPc (ci := 4) (q0 := 0) rfl rfl, pr_R hPc hE hX hZ hS hA⟩ rfl rfl hl.1 rfl (lv_room (Nat.le_of_ble_eq_true rfl)) dL_rejectionDemand_3 ⟨Nat.le_of_ble_eq_true rfl, Nat.le_of_ble_eq_true rfl⟩) hS (fun q _ h => hA q (Nat.le_trans hS.1 h)) (fun q h => hA q (Nat.le_trans hS.1 h)) (fun q _ h => hA q (Nat.le_trans hS.1 h)) (fun E ce q9 u t H1 locs ht hvm hpx hBX hz1 hk1 hS hce hcv hcl => ?_) (fun r u t H1 locs ht hvm hw hB9 hz1 hk1 hS => ?_)
  · have hP : va_P (dC, dI) vwCl (wK cy (d0, o, bc, bt, bv, rg, cs, bs, ta, tb, z, bq, rt) ((F, (G, n, sc), (Gt, nt, sct), (x, kk, RG, rn, RS)), (Gv, nv9, scv), (C, N, L, fl), (M, (Gz, nz, scz), Q, T)) ++ oL cy oq y) H1 := wKo_P.mpr (hB.kept (fun q h => hk1 q h (Nat.not_le.mpr h)))
    obtain ⟨rfl, hc9⟩ := hBX
    refine vx_catch (name := "java/util/NoSuchElementException") hown [] ⟨0, 8, 11, 92⟩ [] (htb.trans rfl) (fun z hz => by simp at hz) (by decide) (by decide) (hts (.classLink RL 92 "java/util/NoSuchElementException") (by decide +kernel)) (va_Nw.use rfl (hX.c 4 rfl)) hce hcv hcl ?_
    refine lv_astore_n (lv' := (2, .ref q9) :: [(0, .ref d0), (1, .ref oq)]) hx hb dL_rejectionDemand_11 rfl hl (by decide) rfl (fun ls hl => ?_)
    refine lv_iconst (v := 1) hx hb dL_rejectionDemand_12 (by decide) ?_
    exact W.iret (v := 1) hx hb hr (fun t ht hW => ⟨⟨1, (((F, (G, n, sc), (Gt, nt, sct), (x, kk, RG, rn, RS)), (Gv, nv9, scv), (C, N, L, fl), (M, (Gz, nz, scz), Q, T)), y), rfl, ⟨rfl, hc9.symm, fun h9 => absurd (hc9.symm.trans h9) (by decide)⟩, by rw [ht]; exact hP, hD⟩, hS.F ht⟩) hS.2.2 dL_rejectionDemand_13
  obtain ⟨hc9, rfl⟩ := hw
  have hP : va_P (dC, dI) vwCl (wK cy (d0, o, bc, bt, bv, rg, cs, bs, ta, tb, z, bq, rt) ((F, (G, n, sc), (Gt, nt, sct), (x, kk, RG, rn, RS)), (Gv, nv9, scv), (C, N, L, fl), (M, (Gz, nz, scz), Q, T)) ++ oL cy oq y) H1 := wKo_P.mpr (hB.kept (fun q h => hk1 q h (Nat.not_le.mpr h)))
  clear hz1 hk1
  generalize H1 = H at hP hS ⊢
  refine lv_i2l hx hb dL_rejectionDemand_6 rfl ?_
  refine vn_last hx hb hK hP hD hS 3 rfl dL_rejectionDemand_7 (fun H locs hP hD hS => ?_)
  refine lv_goto (tgt := 14) hx hb dL_rejectionDemand_8 (by decide) ?_
  refine lv_iconst (v := 0) hx hb dL_rejectionDemand_14 (by decide) ?_
  exact W.iret (v := 0) hx hb hr (fun t ht hW => ⟨⟨0, (((F, (G, n, sc), (Gt, nt, sct), (x, kk, RG, rn, RS)), (Gv, nv9, scv), (C, N, L, fl), (M, (Gz, nz, scz), Q, T)), _), rfl, ⟨rfl, hc9.symm, fun _ => rfl⟩, by rw [ht]; exact hP, hD⟩, hS.F ht⟩) hS.2.2 dL_rejectionDemand_15
set_option maxHeartbeats 1000000 in
set_option maxRecDepth 100000 in
/-- the law's completed -/
theorem c_L_completed (l : Launch) (hst : l.stackTraces = false) (dC : Nat → ClassId) (dI : Nat → Nat → Nat) (cy : Nat → ClassId) (sz : Nat) (d0 : Nat) (o bc bt bv : Nat → Nat) (rg : Nat) (cs : Nat → Nat) (bs : Nat → Nat → Nat) (ta tb : Nat) (z bq rt : Nat → Nat) (F : Nat → Int32) (G : vG) (n : Nat) (sc : Int32) (Gt : vG) (nt : Nat) (sct : Int32) (x kk : Nat) (RG : Nat → vG) (rn : Nat → Nat) (RS : Nat → Int32) (Gv : vG) (nv9 : Nat) (scv : Int32) (C N : Nat → Int32) (L : Nat) (fl : Int32) (M : Nat → Int32) (Gz : vG) (nz : Nat) (scz : Int32) (Q T : vG) (hk : KOk ((F, (G, n, sc), (Gt, nt, sct), (x, kk, RG, rn, RS)), (Gv, nv9, scv), (C, N, L, fl), (M, (Gz, nz, scz), Q, T))) (oq : Nat) (y : Int64) : metL l yL_completed wsL_completed ({ frames := 8, cells := 1, slots := 6, locals := 122 }) [.ref d0, .ref oq] dC dI cy (d0, o, bc, bt, bv, rg, cs, bs, ta, tb, z, bq, rt) oq sz ((F, (G, n, sc), (Gt, nt, sct), (x, kk, RG, rn, RS)), (Gv, nv9, scv), (C, N, L, fl), (M, (Gz, nz, scz), Q, T)) y (rdL ((F, (G, n, sc), (Gt, nt, sct), (x, kk, RG, rn, RS)), (Gv, nv9, scv), (C, N, L, fl), (M, (Gz, nz, scz), Q, T)) (c01 (F 7)) ((M 11).toInt64)) 1 6 := by
  unfold metL
  refine vn_ofH (cc := cL_completed) (maxL := 3) (ret := some .int) (hh := [(0, 8, 11, 15)]) (by decide) rfl ?_
  intro p e s m args below meth c s₁ B hml hv
  obtain ⟨rfl, hsz, hP, hE, hD0, hX, hZ, hV⟩ := hv
  have hK := hE.1
  subst hsz
  have hD := hD0.self (sz := s.heap.size)
  generalize hAe : va_A (wK cy (d0, o, bc, bt, bv, rg, cs, bs, ta, tb, z, bq, rt) ((F, (G, n, sc), (Gt, nt, sct), (x, kk, RG, rn, RS)), (Gv, nv9, scv), (C, N, L, fl), (M, (Gz, nz, scz), Q, T)) ++ oL cy oq y) s.heap.size = A at hD hZ ⊢
  have hA : ∀ q : Nat, s.heap.size ≤ q → A q := fun q h => by rw [← hAe]; exact Or.inr h
  have hS : va_S A s.heap s.heap [] := va_S.rf
  obtain ⟨hn, hnt, hx6, hkk, hrn, hnv, hL, hnz, hG, hsc, hd0, hd1, hGR⟩ := hk
  have hB : BP (dC, dI) vwCl [wObj d0 o F, wCfg cy (o 0) bc G (nI n) sc, wCfg cy (o 1) bt Gt (nI nt) sct, wHis cy (o 3) rg x kk cs bs RG rn RS, wCfg cy (o 2) bv Gv (nI nv9) scv, wTxt cy (o 4) ta tb C N (nI L) fl, wSim (o 5) z M, wCfg cy (z 0) bq Gz (nI nz) scz, wArr cy z rt Q T, oL cy oq y] s.heap := wKo_P.mp hP
  have hBD : BD A [wObj d0 o F, wCfg cy (o 0) bc G (nI n) sc, wCfg cy (o 1) bt Gt (nI nt) sct, wHis cy (o 3) rg x kk cs bs RG rn RS, wCfg cy (o 2) bv Gv (nI nv9) scv, wTxt cy (o 4) ta tb C N (nI L) fl, wSim (o 5) z M, wCfg cy (z 0) bq Gz (nI nz) scz, wArr cy z rt Q T, oL cy oq y] := wKo_D.mp hD
  have hx := B.exec
  have hb := B.bytes
  have hr := B.returns
  have hts := atoms_spec (ws := wsL_completed) B.pre
  have hown : s.vm.findClass RL = some m.cls := findClass_of_methodNamed B.named
  have htb := vx_table (x := yL_completed) B (hts (.codeWith yL_completed cL_completed 3 (some .int) [(0, 8, 11, 15)]) (List.mem_of_getElem? (i := 0) rfl))
  have hl := lv_entry ([.ref d0, .ref oq]) (n := 3) (Nat.le_of_ble_eq_true rfl)
  rw [lg_entry_eq]
  generalize (lg_sl ([.ref d0, .ref oq]) ++ List.replicate (3 - (lg_sl ([.ref d0, .ref oq])).length) Slot.unset).toArray = ls at hl ⊢
  have hl : lv_has ls 3 [(0, .ref d0), (1, .ref oq)] := hl
  refine lv_aload_n hx hb dL_completed_0 rfl (lv_at hl 1 rfl) ?_
  refine lv_iconst (v := 0) hx hb dL_completed_1 (by decide) ?_
  refine lv_aload_n hx hb dL_completed_2 rfl (lv_at hl 0 rfl) ?_
  have hPc : va_P (dC, dI) vwCl (wObj d0 o F ++ (wSim (o 5) z M)) s.heap := gl_P.mpr (hB.sub (bs' := [wObj d0 o F, wSim (o 5) z M]) [0, 6] rfl)
  refine vx_calli (vx_runV (As := []) (rest := [.int 0, .ref oq]) ⟨hx, hb, hml, hown, hts⟩ (c_X4_completed l hst dC dI cy s.heap.size d0 o F z M) (cwV 0 hts gL_completed_X4_completed rfl rfl rfl (by decide +kernel) ⟨Nat.le_of_ble_eq_true rfl, Nat.le_of_ble_eq_true rfl⟩) ⟨bl_R, va_recv hK hPc (ci := 4) (q0 := 0) rfl rfl, pr_R hPc hE hX hZ hS hA⟩ rfl rfl hl.1 rfl (lv_room (Nat.le_of_ble_eq_true rfl)) dL_completed_3 ⟨Nat.le_of_ble_eq_true rfl, Nat.le_of_ble_eq_true rfl⟩) hS (fun q _ h => hA q (Nat.le_trans hS.1 h)) (fun q h => hA q (Nat.le_trans hS.1 h)) (fun q _ h => hA q (Nat.le_trans hS.1 h)) (fun E ce q9 u t H1 locs ht hvm hpx hBX hz1 hk1 hS hce hcv hcl => ?_) (fun r u t H1 locs ht hvm hw hB9 hz1 hk1 hS => ?_)
  · have hP : va_P (dC, dI) vwCl (wK cy (d0, o, bc, bt, bv, rg, cs, bs, ta, tb, z, bq, rt) ((F, (G, n, sc), (Gt, nt, sct), (x, kk, RG, rn, RS)), (Gv, nv9, scv), (C, N, L, fl), (M, (Gz, nz, scz), Q, T)) ++ oL cy oq y) H1 := wKo_P.mpr (hB.kept (fun q h => hk1 q h (Nat.not_le.mpr h)))
    obtain ⟨rfl, hc9⟩ := hBX
    refine vx_catch (name := "java/lang/IllegalStateException") hown [] ⟨0, 8, 11, 15⟩ [] (htb.trans rfl) (fun z hz => by simp at hz) (by decide) (by decide) (hts (.classLink RL 15 "java/lang/IllegalStateException") (by decide +kernel)) (va_Nw.use rfl (hX.c 1 rfl)) hce hcv hcl ?_
    refine lv_astore_n (lv' := (2, .ref q9) :: [(0, .ref d0), (1, .ref oq)]) hx hb dL_completed_11 rfl hl (by decide) rfl (fun ls hl => ?_)
    refine lv_iconst (v := 1) hx hb dL_completed_12 (by decide) ?_
    exact W.iret (v := 1) hx hb hr (fun t ht hW => ⟨⟨1, (((F, (G, n, sc), (Gt, nt, sct), (x, kk, RG, rn, RS)), (Gv, nv9, scv), (C, N, L, fl), (M, (Gz, nz, scz), Q, T)), y), rfl, ⟨rfl, hc9.symm, fun h9 => absurd (hc9.symm.trans h9) (by decide)⟩, by rw [ht]; exact hP, hD⟩, hS.F ht⟩) hS.2.2 dL_completed_13
  obtain ⟨hc9, rfl⟩ := hw
  have hP : va_P (dC, dI) vwCl (wK cy (d0, o, bc, bt, bv, rg, cs, bs, ta, tb, z, bq, rt) ((F, (G, n, sc), (Gt, nt, sct), (x, kk, RG, rn, RS)), (Gv, nv9, scv), (C, N, L, fl), (M, (Gz, nz, scz), Q, T)) ++ oL cy oq y) H1 := wKo_P.mpr (hB.kept (fun q h => hk1 q h (Nat.not_le.mpr h)))
  clear hz1 hk1
  generalize H1 = H at hP hS ⊢
  refine lv_i2l hx hb dL_completed_6 rfl ?_
  refine vn_last hx hb hK hP hD hS 3 rfl dL_completed_7 (fun H locs hP hD hS => ?_)
  refine lv_goto (tgt := 14) hx hb dL_completed_8 (by decide) ?_
  refine lv_iconst (v := 0) hx hb dL_completed_14 (by decide) ?_
  exact W.iret (v := 0) hx hb hr (fun t ht hW => ⟨⟨0, (((F, (G, n, sc), (Gt, nt, sct), (x, kk, RG, rn, RS)), (Gv, nv9, scv), (C, N, L, fl), (M, (Gz, nz, scz), Q, T)), _), rfl, ⟨rfl, hc9.symm, fun _ => rfl⟩, by rw [ht]; exact hP, hD⟩, hS.F ht⟩) hS.2.2 dL_completed_15
set_option maxHeartbeats 1000000 in
set_option maxRecDepth 100000 in
/-- the law's dropped -/
theorem c_L_dropped (l : Launch) (hst : l.stackTraces = false) (dC : Nat → ClassId) (dI : Nat → Nat → Nat) (cy : Nat → ClassId) (sz : Nat) (d0 : Nat) (o bc bt bv : Nat → Nat) (rg : Nat) (cs : Nat → Nat) (bs : Nat → Nat → Nat) (ta tb : Nat) (z bq rt : Nat → Nat) (F : Nat → Int32) (G : vG) (n : Nat) (sc : Int32) (Gt : vG) (nt : Nat) (sct : Int32) (x kk : Nat) (RG : Nat → vG) (rn : Nat → Nat) (RS : Nat → Int32) (Gv : vG) (nv9 : Nat) (scv : Int32) (C N : Nat → Int32) (L : Nat) (fl : Int32) (M : Nat → Int32) (Gz : vG) (nz : Nat) (scz : Int32) (Q T : vG) (hk : KOk ((F, (G, n, sc), (Gt, nt, sct), (x, kk, RG, rn, RS)), (Gv, nv9, scv), (C, N, L, fl), (M, (Gz, nz, scz), Q, T))) (oq : Nat) (y : Int64) : metL l yL_dropped wsL_dropped ({ frames := 8, cells := 1, slots := 6, locals := 122 }) [.ref d0, .ref oq] dC dI cy (d0, o, bc, bt, bv, rg, cs, bs, ta, tb, z, bq, rt) oq sz ((F, (G, n, sc), (Gt, nt, sct), (x, kk, RG, rn, RS)), (Gv, nv9, scv), (C, N, L, fl), (M, (Gz, nz, scz), Q, T)) y (rdL ((F, (G, n, sc), (Gt, nt, sct), (x, kk, RG, rn, RS)), (Gv, nv9, scv), (C, N, L, fl), (M, (Gz, nz, scz), Q, T)) (c01 (F 7)) ((M 12).toInt64)) 1 6 := by
  unfold metL
  refine vn_ofH (cc := cL_dropped) (maxL := 3) (ret := some .int) (hh := [(0, 8, 11, 15)]) (by decide) rfl ?_
  intro p e s m args below meth c s₁ B hml hv
  obtain ⟨rfl, hsz, hP, hE, hD0, hX, hZ, hV⟩ := hv
  have hK := hE.1
  subst hsz
  have hD := hD0.self (sz := s.heap.size)
  generalize hAe : va_A (wK cy (d0, o, bc, bt, bv, rg, cs, bs, ta, tb, z, bq, rt) ((F, (G, n, sc), (Gt, nt, sct), (x, kk, RG, rn, RS)), (Gv, nv9, scv), (C, N, L, fl), (M, (Gz, nz, scz), Q, T)) ++ oL cy oq y) s.heap.size = A at hD hZ ⊢
  have hA : ∀ q : Nat, s.heap.size ≤ q → A q := fun q h => by rw [← hAe]; exact Or.inr h
  have hS : va_S A s.heap s.heap [] := va_S.rf
  obtain ⟨hn, hnt, hx6, hkk, hrn, hnv, hL, hnz, hG, hsc, hd0, hd1, hGR⟩ := hk
  have hB : BP (dC, dI) vwCl [wObj d0 o F, wCfg cy (o 0) bc G (nI n) sc, wCfg cy (o 1) bt Gt (nI nt) sct, wHis cy (o 3) rg x kk cs bs RG rn RS, wCfg cy (o 2) bv Gv (nI nv9) scv, wTxt cy (o 4) ta tb C N (nI L) fl, wSim (o 5) z M, wCfg cy (z 0) bq Gz (nI nz) scz, wArr cy z rt Q T, oL cy oq y] s.heap := wKo_P.mp hP
  have hBD : BD A [wObj d0 o F, wCfg cy (o 0) bc G (nI n) sc, wCfg cy (o 1) bt Gt (nI nt) sct, wHis cy (o 3) rg x kk cs bs RG rn RS, wCfg cy (o 2) bv Gv (nI nv9) scv, wTxt cy (o 4) ta tb C N (nI L) fl, wSim (o 5) z M, wCfg cy (z 0) bq Gz (nI nz) scz, wArr cy z rt Q T, oL cy oq y] := wKo_D.mp hD
  have hx := B.exec
  have hb := B.bytes
  have hr := B.returns
  have hts := atoms_spec (ws := wsL_dropped) B.pre
  have hown : s.vm.findClass RL = some m.cls := findClass_of_methodNamed B.named
  have htb := vx_table (x := yL_dropped) B (hts (.codeWith yL_dropped cL_dropped 3 (some .int) [(0, 8, 11, 15)]) (List.mem_of_getElem? (i := 0) rfl))
  have hl := lv_entry ([.ref d0, .ref oq]) (n := 3) (Nat.le_of_ble_eq_true rfl)
  rw [lg_entry_eq]
  generalize (lg_sl ([.ref d0, .ref oq]) ++ List.replicate (3 - (lg_sl ([.ref d0, .ref oq])).length) Slot.unset).toArray = ls at hl ⊢
  have hl : lv_has ls 3 [(0, .ref d0), (1, .ref oq)] := hl
  refine lv_aload_n hx hb dL_dropped_0 rfl (lv_at hl 1 rfl) ?_
  refine lv_iconst (v := 0) hx hb dL_dropped_1 (by decide) ?_
  refine lv_aload_n hx hb dL_dropped_2 rfl (lv_at hl 0 rfl) ?_
  have hPc : va_P (dC, dI) vwCl (wObj d0 o F ++ (wSim (o 5) z M)) s.heap := gl_P.mpr (hB.sub (bs' := [wObj d0 o F, wSim (o 5) z M]) [0, 6] rfl)
  refine vx_calli (vx_runV (As := []) (rest := [.int 0, .ref oq]) ⟨hx, hb, hml, hown, hts⟩ (c_X4_dropped l hst dC dI cy s.heap.size d0 o F z M) (cwV 0 hts gL_dropped_X4_dropped rfl rfl rfl (by decide +kernel) ⟨Nat.le_of_ble_eq_true rfl, Nat.le_of_ble_eq_true rfl⟩) ⟨bl_R, va_recv hK hPc (ci := 4) (q0 := 0) rfl rfl, pr_R hPc hE hX hZ hS hA⟩ rfl rfl hl.1 rfl (lv_room (Nat.le_of_ble_eq_true rfl)) dL_dropped_3 ⟨Nat.le_of_ble_eq_true rfl, Nat.le_of_ble_eq_true rfl⟩) hS (fun q _ h => hA q (Nat.le_trans hS.1 h)) (fun q h => hA q (Nat.le_trans hS.1 h)) (fun q _ h => hA q (Nat.le_trans hS.1 h)) (fun E ce q9 u t H1 locs ht hvm hpx hBX hz1 hk1 hS hce hcv hcl => ?_) (fun r u t H1 locs ht hvm hw hB9 hz1 hk1 hS => ?_)
  · have hP : va_P (dC, dI) vwCl (wK cy (d0, o, bc, bt, bv, rg, cs, bs, ta, tb, z, bq, rt) ((F, (G, n, sc), (Gt, nt, sct), (x, kk, RG, rn, RS)), (Gv, nv9, scv), (C, N, L, fl), (M, (Gz, nz, scz), Q, T)) ++ oL cy oq y) H1 := wKo_P.mpr (hB.kept (fun q h => hk1 q h (Nat.not_le.mpr h)))
    obtain ⟨rfl, hc9⟩ := hBX
    refine vx_catch (name := "java/lang/IllegalStateException") hown [] ⟨0, 8, 11, 15⟩ [] (htb.trans rfl) (fun z hz => by simp at hz) (by decide) (by decide) (hts (.classLink RL 15 "java/lang/IllegalStateException") (by decide +kernel)) (va_Nw.use rfl (hX.c 1 rfl)) hce hcv hcl ?_
    refine lv_astore_n (lv' := (2, .ref q9) :: [(0, .ref d0), (1, .ref oq)]) hx hb dL_dropped_11 rfl hl (by decide) rfl (fun ls hl => ?_)
    refine lv_iconst (v := 1) hx hb dL_dropped_12 (by decide) ?_
    exact W.iret (v := 1) hx hb hr (fun t ht hW => ⟨⟨1, (((F, (G, n, sc), (Gt, nt, sct), (x, kk, RG, rn, RS)), (Gv, nv9, scv), (C, N, L, fl), (M, (Gz, nz, scz), Q, T)), y), rfl, ⟨rfl, hc9.symm, fun h9 => absurd (hc9.symm.trans h9) (by decide)⟩, by rw [ht]; exact hP, hD⟩, hS.F ht⟩) hS.2.2 dL_dropped_13
  obtain ⟨hc9, rfl⟩ := hw
  have hP : va_P (dC, dI) vwCl (wK cy (d0, o, bc, bt, bv, rg, cs, bs, ta, tb, z, bq, rt) ((F, (G, n, sc), (Gt, nt, sct), (x, kk, RG, rn, RS)), (Gv, nv9, scv), (C, N, L, fl), (M, (Gz, nz, scz), Q, T)) ++ oL cy oq y) H1 := wKo_P.mpr (hB.kept (fun q h => hk1 q h (Nat.not_le.mpr h)))
  clear hz1 hk1
  generalize H1 = H at hP hS ⊢
  refine lv_i2l hx hb dL_dropped_6 rfl ?_
  refine vn_last hx hb hK hP hD hS 3 rfl dL_dropped_7 (fun H locs hP hD hS => ?_)
  refine lv_goto (tgt := 14) hx hb dL_dropped_8 (by decide) ?_
  refine lv_iconst (v := 0) hx hb dL_dropped_14 (by decide) ?_
  exact W.iret (v := 0) hx hb hr (fun t ht hW => ⟨⟨0, (((F, (G, n, sc), (Gt, nt, sct), (x, kk, RG, rn, RS)), (Gv, nv9, scv), (C, N, L, fl), (M, (Gz, nz, scz), Q, T)), _), rfl, ⟨rfl, hc9.symm, fun _ => rfl⟩, by rw [ht]; exact hP, hD⟩, hS.F ht⟩) hS.2.2 dL_dropped_15
set_option maxHeartbeats 1000000 in
set_option maxRecDepth 100000 in
/-- the law's switches -/
theorem c_L_switches (l : Launch) (hst : l.stackTraces = false) (dC : Nat → ClassId) (dI : Nat → Nat → Nat) (cy : Nat → ClassId) (sz : Nat) (d0 : Nat) (o bc bt bv : Nat → Nat) (rg : Nat) (cs : Nat → Nat) (bs : Nat → Nat → Nat) (ta tb : Nat) (z bq rt : Nat → Nat) (F : Nat → Int32) (G : vG) (n : Nat) (sc : Int32) (Gt : vG) (nt : Nat) (sct : Int32) (x kk : Nat) (RG : Nat → vG) (rn : Nat → Nat) (RS : Nat → Int32) (Gv : vG) (nv9 : Nat) (scv : Int32) (C N : Nat → Int32) (L : Nat) (fl : Int32) (M : Nat → Int32) (Gz : vG) (nz : Nat) (scz : Int32) (Q T : vG) (hk : KOk ((F, (G, n, sc), (Gt, nt, sct), (x, kk, RG, rn, RS)), (Gv, nv9, scv), (C, N, L, fl), (M, (Gz, nz, scz), Q, T))) (oq : Nat) (y : Int64) : metL l yL_switches wsL_switches ({ frames := 8, cells := 1, slots := 6, locals := 122 }) [.ref d0, .ref oq] dC dI cy (d0, o, bc, bt, bv, rg, cs, bs, ta, tb, z, bq, rt) oq sz ((F, (G, n, sc), (Gt, nt, sct), (x, kk, RG, rn, RS)), (Gv, nv9, scv), (C, N, L, fl), (M, (Gz, nz, scz), Q, T)) y (rdL ((F, (G, n, sc), (Gt, nt, sct), (x, kk, RG, rn, RS)), (Gv, nv9, scv), (C, N, L, fl), (M, (Gz, nz, scz), Q, T)) (c01 (F 7)) ((M 13).toInt64)) 1 6 := by
  unfold metL
  refine vn_ofH (cc := cL_switches) (maxL := 3) (ret := some .int) (hh := [(0, 8, 11, 15)]) (by decide) rfl ?_
  intro p e s m args below meth c s₁ B hml hv
  obtain ⟨rfl, hsz, hP, hE, hD0, hX, hZ, hV⟩ := hv
  have hK := hE.1
  subst hsz
  have hD := hD0.self (sz := s.heap.size)
  generalize hAe : va_A (wK cy (d0, o, bc, bt, bv, rg, cs, bs, ta, tb, z, bq, rt) ((F, (G, n, sc), (Gt, nt, sct), (x, kk, RG, rn, RS)), (Gv, nv9, scv), (C, N, L, fl), (M, (Gz, nz, scz), Q, T)) ++ oL cy oq y) s.heap.size = A at hD hZ ⊢
  have hA : ∀ q : Nat, s.heap.size ≤ q → A q := fun q h => by rw [← hAe]; exact Or.inr h
  have hS : va_S A s.heap s.heap [] := va_S.rf
  obtain ⟨hn, hnt, hx6, hkk, hrn, hnv, hL, hnz, hG, hsc, hd0, hd1, hGR⟩ := hk
  have hB : BP (dC, dI) vwCl [wObj d0 o F, wCfg cy (o 0) bc G (nI n) sc, wCfg cy (o 1) bt Gt (nI nt) sct, wHis cy (o 3) rg x kk cs bs RG rn RS, wCfg cy (o 2) bv Gv (nI nv9) scv, wTxt cy (o 4) ta tb C N (nI L) fl, wSim (o 5) z M, wCfg cy (z 0) bq Gz (nI nz) scz, wArr cy z rt Q T, oL cy oq y] s.heap := wKo_P.mp hP
  have hBD : BD A [wObj d0 o F, wCfg cy (o 0) bc G (nI n) sc, wCfg cy (o 1) bt Gt (nI nt) sct, wHis cy (o 3) rg x kk cs bs RG rn RS, wCfg cy (o 2) bv Gv (nI nv9) scv, wTxt cy (o 4) ta tb C N (nI L) fl, wSim (o 5) z M, wCfg cy (z 0) bq Gz (nI nz) scz, wArr cy z rt Q T, oL cy oq y] := wKo_D.mp hD
  have hx := B.exec
  have hb := B.bytes
  have hr := B.returns
  have hts := atoms_spec (ws := wsL_switches) B.pre
  have hown : s.vm.findClass RL = some m.cls := findClass_of_methodNamed B.named
  have htb := vx_table (x := yL_switches) B (hts (.codeWith yL_switches cL_switches 3 (some .int) [(0, 8, 11, 15)]) (List.mem_of_getElem? (i := 0) rfl))
  have hl := lv_entry ([.ref d0, .ref oq]) (n := 3) (Nat.le_of_ble_eq_true rfl)
  rw [lg_entry_eq]
  generalize (lg_sl ([.ref d0, .ref oq]) ++ List.replicate (3 - (lg_sl ([.ref d0, .ref oq])).length) Slot.unset).toArray = ls at hl ⊢
  have hl : lv_has ls 3 [(0, .ref d0), (1, .ref oq)] := hl
  refine lv_aload_n hx hb dL_switches_0 rfl (lv_at hl 1 rfl) ?_
  refine lv_iconst (v := 0) hx hb dL_switches_1 (by decide) ?_
  refine lv_aload_n hx hb dL_switches_2 rfl (lv_at hl 0 rfl) ?_
  have hPc : va_P (dC, dI) vwCl (wObj d0 o F ++ (wSim (o 5) z M)) s.heap := gl_P.mpr (hB.sub (bs' := [wObj d0 o F, wSim (o 5) z M]) [0, 6] rfl)
  refine vx_calli (vx_runV (As := []) (rest := [.int 0, .ref oq]) ⟨hx, hb, hml, hown, hts⟩ (c_X4_switches l hst dC dI cy s.heap.size d0 o F z M) (cwV 0 hts gL_switches_X4_switches rfl rfl rfl (by decide +kernel) ⟨Nat.le_of_ble_eq_true rfl, Nat.le_of_ble_eq_true rfl⟩) ⟨bl_R, va_recv hK hPc (ci := 4) (q0 := 0) rfl rfl, pr_R hPc hE hX hZ hS hA⟩ rfl rfl hl.1 rfl (lv_room (Nat.le_of_ble_eq_true rfl)) dL_switches_3 ⟨Nat.le_of_ble_eq_true rfl, Nat.le_of_ble_eq_true rfl⟩) hS (fun q _ h => hA q (Nat.le_trans hS.1 h)) (fun q h => hA q (Nat.le_trans hS.1 h)) (fun q _ h => hA q (Nat.le_trans hS.1 h)) (fun E ce q9 u t H1 locs ht hvm hpx hBX hz1 hk1 hS hce hcv hcl => ?_) (fun r u t H1 locs ht hvm hw hB9 hz1 hk1 hS => ?_)
  · have hP : va_P (dC, dI) vwCl (wK cy (d0, o, bc, bt, bv, rg, cs, bs, ta, tb, z, bq, rt) ((F, (G, n, sc), (Gt, nt, sct), (x, kk, RG, rn, RS)), (Gv, nv9, scv), (C, N, L, fl), (M, (Gz, nz, scz), Q, T)) ++ oL cy oq y) H1 := wKo_P.mpr (hB.kept (fun q h => hk1 q h (Nat.not_le.mpr h)))
    obtain ⟨rfl, hc9⟩ := hBX
    refine vx_catch (name := "java/lang/IllegalStateException") hown [] ⟨0, 8, 11, 15⟩ [] (htb.trans rfl) (fun z hz => by simp at hz) (by decide) (by decide) (hts (.classLink RL 15 "java/lang/IllegalStateException") (by decide +kernel)) (va_Nw.use rfl (hX.c 1 rfl)) hce hcv hcl ?_
    refine lv_astore_n (lv' := (2, .ref q9) :: [(0, .ref d0), (1, .ref oq)]) hx hb dL_switches_11 rfl hl (by decide) rfl (fun ls hl => ?_)
    refine lv_iconst (v := 1) hx hb dL_switches_12 (by decide) ?_
    exact W.iret (v := 1) hx hb hr (fun t ht hW => ⟨⟨1, (((F, (G, n, sc), (Gt, nt, sct), (x, kk, RG, rn, RS)), (Gv, nv9, scv), (C, N, L, fl), (M, (Gz, nz, scz), Q, T)), y), rfl, ⟨rfl, hc9.symm, fun h9 => absurd (hc9.symm.trans h9) (by decide)⟩, by rw [ht]; exact hP, hD⟩, hS.F ht⟩) hS.2.2 dL_switches_13
  obtain ⟨hc9, rfl⟩ := hw
  have hP : va_P (dC, dI) vwCl (wK cy (d0, o, bc, bt, bv, rg, cs, bs, ta, tb, z, bq, rt) ((F, (G, n, sc), (Gt, nt, sct), (x, kk, RG, rn, RS)), (Gv, nv9, scv), (C, N, L, fl), (M, (Gz, nz, scz), Q, T)) ++ oL cy oq y) H1 := wKo_P.mpr (hB.kept (fun q h => hk1 q h (Nat.not_le.mpr h)))
  clear hz1 hk1
  generalize H1 = H at hP hS ⊢
  refine lv_i2l hx hb dL_switches_6 rfl ?_
  refine vn_last hx hb hK hP hD hS 3 rfl dL_switches_7 (fun H locs hP hD hS => ?_)
  refine lv_goto (tgt := 14) hx hb dL_switches_8 (by decide) ?_
  refine lv_iconst (v := 0) hx hb dL_switches_14 (by decide) ?_
  exact W.iret (v := 0) hx hb hr (fun t ht hW => ⟨⟨0, (((F, (G, n, sc), (Gt, nt, sct), (x, kk, RG, rn, RS)), (Gv, nv9, scv), (C, N, L, fl), (M, (Gz, nz, scz), Q, T)), _), rfl, ⟨rfl, hc9.symm, fun _ => rfl⟩, by rw [ht]; exact hP, hD⟩, hS.F ht⟩) hS.2.2 dL_switches_15
set_option maxHeartbeats 1000000 in
set_option maxRecDepth 100000 in
/-- the law's idleUnits -/
theorem c_L_idleUnits (l : Launch) (hst : l.stackTraces = false) (dC : Nat → ClassId) (dI : Nat → Nat → Nat) (cy : Nat → ClassId) (sz : Nat) (d0 : Nat) (o bc bt bv : Nat → Nat) (rg : Nat) (cs : Nat → Nat) (bs : Nat → Nat → Nat) (ta tb : Nat) (z bq rt : Nat → Nat) (F : Nat → Int32) (G : vG) (n : Nat) (sc : Int32) (Gt : vG) (nt : Nat) (sct : Int32) (x kk : Nat) (RG : Nat → vG) (rn : Nat → Nat) (RS : Nat → Int32) (Gv : vG) (nv9 : Nat) (scv : Int32) (C N : Nat → Int32) (L : Nat) (fl : Int32) (M : Nat → Int32) (Gz : vG) (nz : Nat) (scz : Int32) (Q T : vG) (hk : KOk ((F, (G, n, sc), (Gt, nt, sct), (x, kk, RG, rn, RS)), (Gv, nv9, scv), (C, N, L, fl), (M, (Gz, nz, scz), Q, T))) (oq : Nat) (y : Int64) : metL l yL_idleUnits wsL_idleUnits ({ frames := 8, cells := 1, slots := 6, locals := 122 }) [.ref d0, .ref oq] dC dI cy (d0, o, bc, bt, bv, rg, cs, bs, ta, tb, z, bq, rt) oq sz ((F, (G, n, sc), (Gt, nt, sct), (x, kk, RG, rn, RS)), (Gv, nv9, scv), (C, N, L, fl), (M, (Gz, nz, scz), Q, T)) y (rdL ((F, (G, n, sc), (Gt, nt, sct), (x, kk, RG, rn, RS)), (Gv, nv9, scv), (C, N, L, fl), (M, (Gz, nz, scz), Q, T)) (c01 (F 7)) ((M 14).toInt64)) 1 6 := by
  unfold metL
  refine vn_ofH (cc := cL_idleUnits) (maxL := 3) (ret := some .int) (hh := [(0, 8, 11, 15)]) (by decide) rfl ?_
  intro p e s m args below meth c s₁ B hml hv
  obtain ⟨rfl, hsz, hP, hE, hD0, hX, hZ, hV⟩ := hv
  have hK := hE.1
  subst hsz
  have hD := hD0.self (sz := s.heap.size)
  generalize hAe : va_A (wK cy (d0, o, bc, bt, bv, rg, cs, bs, ta, tb, z, bq, rt) ((F, (G, n, sc), (Gt, nt, sct), (x, kk, RG, rn, RS)), (Gv, nv9, scv), (C, N, L, fl), (M, (Gz, nz, scz), Q, T)) ++ oL cy oq y) s.heap.size = A at hD hZ ⊢
  have hA : ∀ q : Nat, s.heap.size ≤ q → A q := fun q h => by rw [← hAe]; exact Or.inr h
  have hS : va_S A s.heap s.heap [] := va_S.rf
  obtain ⟨hn, hnt, hx6, hkk, hrn, hnv, hL, hnz, hG, hsc, hd0, hd1, hGR⟩ := hk
  have hB : BP (dC, dI) vwCl [wObj d0 o F, wCfg cy (o 0) bc G (nI n) sc, wCfg cy (o 1) bt Gt (nI nt) sct, wHis cy (o 3) rg x kk cs bs RG rn RS, wCfg cy (o 2) bv Gv (nI nv9) scv, wTxt cy (o 4) ta tb C N (nI L) fl, wSim (o 5) z M, wCfg cy (z 0) bq Gz (nI nz) scz, wArr cy z rt Q T, oL cy oq y] s.heap := wKo_P.mp hP
  have hBD : BD A [wObj d0 o F, wCfg cy (o 0) bc G (nI n) sc, wCfg cy (o 1) bt Gt (nI nt) sct, wHis cy (o 3) rg x kk cs bs RG rn RS, wCfg cy (o 2) bv Gv (nI nv9) scv, wTxt cy (o 4) ta tb C N (nI L) fl, wSim (o 5) z M, wCfg cy (z 0) bq Gz (nI nz) scz, wArr cy z rt Q T, oL cy oq y] := wKo_D.mp hD
  have hx := B.exec
  have hb := B.bytes
  have hr := B.returns
  have hts := atoms_spec (ws := wsL_idleUnits) B.pre
  have hown : s.vm.findClass RL = some m.cls := findClass_of_methodNamed B.named
  have htb := vx_table (x := yL_idleUnits) B (hts (.codeWith yL_idleUnits cL_idleUnits 3 (some .int) [(0, 8, 11, 15)]) (List.mem_of_getElem? (i := 0) rfl))
  have hl := lv_entry ([.ref d0, .ref oq]) (n := 3) (Nat.le_of_ble_eq_true rfl)
  rw [lg_entry_eq]
  generalize (lg_sl ([.ref d0, .ref oq]) ++ List.replicate (3 - (lg_sl ([.ref d0, .ref oq])).length) Slot.unset).toArray = ls at hl ⊢
  have hl : lv_has ls 3 [(0, .ref d0), (1, .ref oq)] := hl
  refine lv_aload_n hx hb dL_idleUnits_0 rfl (lv_at hl 1 rfl) ?_
  refine lv_iconst (v := 0) hx hb dL_idleUnits_1 (by decide) ?_
  refine lv_aload_n hx hb dL_idleUnits_2 rfl (lv_at hl 0 rfl) ?_
  have hPc : va_P (dC, dI) vwCl (wObj d0 o F ++ (wSim (o 5) z M)) s.heap := gl_P.mpr (hB.sub (bs' := [wObj d0 o F, wSim (o 5) z M]) [0, 6] rfl)
  refine vx_calli (vx_runV (As := []) (rest := [.int 0, .ref oq]) ⟨hx, hb, hml, hown, hts⟩ (c_X4_idleUnits l hst dC dI cy s.heap.size d0 o F z M) (cwV 0 hts gL_idleUnits_X4_idleUnits rfl rfl rfl (by decide +kernel) ⟨Nat.le_of_ble_eq_true rfl, Nat.le_of_ble_eq_true rfl⟩) ⟨bl_R, va_recv hK hPc (ci := 4) (q0 := 0) rfl rfl, pr_R hPc hE hX hZ hS hA⟩ rfl rfl hl.1 rfl (lv_room (Nat.le_of_ble_eq_true rfl)) dL_idleUnits_3 ⟨Nat.le_of_ble_eq_true rfl, Nat.le_of_ble_eq_true rfl⟩) hS (fun q _ h => hA q (Nat.le_trans hS.1 h)) (fun q h => hA q (Nat.le_trans hS.1 h)) (fun q _ h => hA q (Nat.le_trans hS.1 h)) (fun E ce q9 u t H1 locs ht hvm hpx hBX hz1 hk1 hS hce hcv hcl => ?_) (fun r u t H1 locs ht hvm hw hB9 hz1 hk1 hS => ?_)
  · have hP : va_P (dC, dI) vwCl (wK cy (d0, o, bc, bt, bv, rg, cs, bs, ta, tb, z, bq, rt) ((F, (G, n, sc), (Gt, nt, sct), (x, kk, RG, rn, RS)), (Gv, nv9, scv), (C, N, L, fl), (M, (Gz, nz, scz), Q, T)) ++ oL cy oq y) H1 := wKo_P.mpr (hB.kept (fun q h => hk1 q h (Nat.not_le.mpr h)))
    obtain ⟨rfl, hc9⟩ := hBX
    refine vx_catch (name := "java/lang/IllegalStateException") hown [] ⟨0, 8, 11, 15⟩ [] (htb.trans rfl) (fun z hz => by simp at hz) (by decide) (by decide) (hts (.classLink RL 15 "java/lang/IllegalStateException") (by decide +kernel)) (va_Nw.use rfl (hX.c 1 rfl)) hce hcv hcl ?_
    refine lv_astore_n (lv' := (2, .ref q9) :: [(0, .ref d0), (1, .ref oq)]) hx hb dL_idleUnits_11 rfl hl (by decide) rfl (fun ls hl => ?_)
    refine lv_iconst (v := 1) hx hb dL_idleUnits_12 (by decide) ?_
    exact W.iret (v := 1) hx hb hr (fun t ht hW => ⟨⟨1, (((F, (G, n, sc), (Gt, nt, sct), (x, kk, RG, rn, RS)), (Gv, nv9, scv), (C, N, L, fl), (M, (Gz, nz, scz), Q, T)), y), rfl, ⟨rfl, hc9.symm, fun h9 => absurd (hc9.symm.trans h9) (by decide)⟩, by rw [ht]; exact hP, hD⟩, hS.F ht⟩) hS.2.2 dL_idleUnits_13
  obtain ⟨hc9, rfl⟩ := hw
  have hP : va_P (dC, dI) vwCl (wK cy (d0, o, bc, bt, bv, rg, cs, bs, ta, tb, z, bq, rt) ((F, (G, n, sc), (Gt, nt, sct), (x, kk, RG, rn, RS)), (Gv, nv9, scv), (C, N, L, fl), (M, (Gz, nz, scz), Q, T)) ++ oL cy oq y) H1 := wKo_P.mpr (hB.kept (fun q h => hk1 q h (Nat.not_le.mpr h)))
  clear hz1 hk1
  generalize H1 = H at hP hS ⊢
  refine lv_i2l hx hb dL_idleUnits_6 rfl ?_
  refine vn_last hx hb hK hP hD hS 3 rfl dL_idleUnits_7 (fun H locs hP hD hS => ?_)
  refine lv_goto (tgt := 14) hx hb dL_idleUnits_8 (by decide) ?_
  refine lv_iconst (v := 0) hx hb dL_idleUnits_14 (by decide) ?_
  exact W.iret (v := 0) hx hb hr (fun t ht hW => ⟨⟨0, (((F, (G, n, sc), (Gt, nt, sct), (x, kk, RG, rn, RS)), (Gv, nv9, scv), (C, N, L, fl), (M, (Gz, nz, scz), Q, T)), _), rfl, ⟨rfl, hc9.symm, fun _ => rfl⟩, by rw [ht]; exact hP, hD⟩, hS.F ht⟩) hS.2.2 dL_idleUnits_15
set_option maxHeartbeats 1000000 in
set_option maxRecDepth 100000 in
/-- the law's response -/
theorem c_L_response (l : Launch) (hst : l.stackTraces = false) (dC : Nat → ClassId) (dI : Nat → Nat → Nat) (cy : Nat → ClassId) (sz : Nat) (d0 : Nat) (o bc bt bv : Nat → Nat) (rg : Nat) (cs : Nat → Nat) (bs : Nat → Nat → Nat) (ta tb : Nat) (z bq rt : Nat → Nat) (F : Nat → Int32) (G : vG) (n : Nat) (sc : Int32) (Gt : vG) (nt : Nat) (sct : Int32) (x kk : Nat) (RG : Nat → vG) (rn : Nat → Nat) (RS : Nat → Int32) (Gv : vG) (nv9 : Nat) (scv : Int32) (C N : Nat → Int32) (L : Nat) (fl : Int32) (M : Nat → Int32) (Gz : vG) (nz : Nat) (scz : Int32) (Q T : vG) (hk : KOk ((F, (G, n, sc), (Gt, nt, sct), (x, kk, RG, rn, RS)), (Gv, nv9, scv), (C, N, L, fl), (M, (Gz, nz, scz), Q, T))) (oq : Nat) (y : Int64) (p0 : Int32) : metL l yL_response wsL_response ({ frames := 8, cells := 3, slots := 18, locals := 124 }) [.ref d0, .int p0, .ref oq] dC dI cy (d0, o, bc, bt, bv, rg, cs, bs, ta, tb, z, bq, rt) oq sz ((F, (G, n, sc), (Gt, nt, sct), (x, kk, RG, rn, RS)), (Gv, nv9, scv), (C, N, L, fl), (M, (Gz, nz, scz), Q, T)) y (rdL ((F, (G, n, sc), (Gt, nt, sct), (x, kk, RG, rn, RS)), (Gv, nv9, scv), (C, N, L, fl), (M, (Gz, nz, scz), Q, T)) (cRes n (F 7) (Q 5) p0) ((Q 5 p0.toNatClampNeg).toInt64)) 3 18 := by
  unfold metL
  refine vn_ofH (cc := cL_response) (maxL := 4) (ret := some .int) (hh := [(0, 9, 12, 28), (0, 9, 15, 15), (0, 9, 18, 92)]) (by decide) rfl ?_
  intro p e s m args below meth c s₁ B hml hv
  obtain ⟨rfl, hsz, hP, hE, hD0, hX, hZ, hV⟩ := hv
  have hK := hE.1
  subst hsz
  have hD := hD0.self (sz := s.heap.size)
  generalize hAe : va_A (wK cy (d0, o, bc, bt, bv, rg, cs, bs, ta, tb, z, bq, rt) ((F, (G, n, sc), (Gt, nt, sct), (x, kk, RG, rn, RS)), (Gv, nv9, scv), (C, N, L, fl), (M, (Gz, nz, scz), Q, T)) ++ oL cy oq y) s.heap.size = A at hD hZ ⊢
  have hA : ∀ q : Nat, s.heap.size ≤ q → A q := fun q h => by rw [← hAe]; exact Or.inr h
  have hS : va_S A s.heap s.heap [] := va_S.rf
  obtain ⟨hn, hnt, hx6, hkk, hrn, hnv, hL, hnz, hG, hsc, hd0, hd1, hGR⟩ := hk
  have hB : BP (dC, dI) vwCl [wObj d0 o F, wCfg cy (o 0) bc G (nI n) sc, wCfg cy (o 1) bt Gt (nI nt) sct, wHis cy (o 3) rg x kk cs bs RG rn RS, wCfg cy (o 2) bv Gv (nI nv9) scv, wTxt cy (o 4) ta tb C N (nI L) fl, wSim (o 5) z M, wCfg cy (z 0) bq Gz (nI nz) scz, wArr cy z rt Q T, oL cy oq y] s.heap := wKo_P.mp hP
  have hBD : BD A [wObj d0 o F, wCfg cy (o 0) bc G (nI n) sc, wCfg cy (o 1) bt Gt (nI nt) sct, wHis cy (o 3) rg x kk cs bs RG rn RS, wCfg cy (o 2) bv Gv (nI nv9) scv, wTxt cy (o 4) ta tb C N (nI L) fl, wSim (o 5) z M, wCfg cy (z 0) bq Gz (nI nz) scz, wArr cy z rt Q T, oL cy oq y] := wKo_D.mp hD
  have hx := B.exec
  have hb := B.bytes
  have hr := B.returns
  have hts := atoms_spec (ws := wsL_response) B.pre
  have hown : s.vm.findClass RL = some m.cls := findClass_of_methodNamed B.named
  have htb := vx_table (x := yL_response) B (hts (.codeWith yL_response cL_response 4 (some .int) [(0, 9, 12, 28), (0, 9, 15, 15), (0, 9, 18, 92)]) (List.mem_of_getElem? (i := 0) rfl))
  have hl := lv_entry ([.ref d0, .int p0, .ref oq]) (n := 4) (Nat.le_of_ble_eq_true rfl)
  rw [lg_entry_eq]
  generalize (lg_sl ([.ref d0, .int p0, .ref oq]) ++ List.replicate (4 - (lg_sl ([.ref d0, .int p0, .ref oq])).length) Slot.unset).toArray = ls at hl ⊢
  have hl : lv_has ls 4 [(0, .ref d0), (1, .int p0), (2, .ref oq)] := hl
  refine lv_aload_n hx hb dL_response_0 rfl (lv_at hl 2 rfl) ?_
  refine lv_iconst (v := 0) hx hb dL_response_1 (by decide) ?_
  refine lv_aload_n hx hb dL_response_2 rfl (lv_at hl 0 rfl) ?_
  refine lv_iload_n hx hb dL_response_3 rfl (lv_at hl 1 rfl) ?_
  have hPc : va_P (dC, dI) vwCl (wObj d0 o F ++ (wCfg cy (o 0) bc G (nI n) sc ++ (wSim (o 5) z M ++ ([((z 5), .inl ((cy 0), 8, .inl (Q 5)))])))) s.heap := (hB _ (List.mem_of_getElem? (i := 0) rfl)).app ((hB _ (List.mem_of_getElem? (i := 1) rfl)).app ((hB _ (List.mem_of_getElem? (i := 6) rfl)).app ((hB _ (List.mem_of_getElem? (i := 8) rfl)).sub [4] rfl)))
  refine vx_calli (vx_runV (As := [.int p0]) (rest := [.int 0, .ref oq]) ⟨hx, hb, hml, hown, hts⟩ (c_X4_response l hst dC dI cy s.heap.size d0 o F bc G n hn sc z M (Q 5) hGR p0) (cwV 1 hts gL_response_X4_response rfl rfl rfl (by decide +kernel) ⟨Nat.le_of_ble_eq_true rfl, Nat.le_of_ble_eq_true rfl⟩) ⟨bl_R, va_recv hK hPc (ci := 4) (q0 := 0) rfl rfl, pr_R hPc hE hX hZ hS hA⟩ rfl rfl hl.1 rfl (lv_room (Nat.le_of_ble_eq_true rfl)) dL_response_4 ⟨Nat.le_of_ble_eq_true rfl, Nat.le_of_ble_eq_true rfl⟩) hS (fun q _ h => hA q (Nat.le_trans hS.1 h)) (fun q h => hA q (Nat.le_trans hS.1 h)) (fun q _ h => hA q (Nat.le_trans hS.1 h)) (fun E ce q9 u t H1 locs ht hvm hpx hBX hz1 hk1 hS hce hcv hcl => ?_) (fun r u t H1 locs ht hvm hw hB9 hz1 hk1 hS => ?_)
  · have hP : va_P (dC, dI) vwCl (wK cy (d0, o, bc, bt, bv, rg, cs, bs, ta, tb, z, bq, rt) ((F, (G, n, sc), (Gt, nt, sct), (x, kk, RG, rn, RS)), (Gv, nv9, scv), (C, N, L, fl), (M, (Gz, nz, scz), Q, T)) ++ oL cy oq y) H1 := wKo_P.mpr (hB.kept (fun q h => hk1 q h (Nat.not_le.mpr h)))
    rcases hBX with ⟨rfl, hc9⟩ | ⟨rfl, hc9⟩ | ⟨rfl, hc9⟩
    · refine vx_catch (name := "java/lang/IndexOutOfBoundsException") hown [] ⟨0, 9, 12, 28⟩ [⟨0, 9, 15, 15⟩, ⟨0, 9, 18, 92⟩] (htb.trans rfl) (fun z hz => by simp at hz) (by decide) (by decide) (hts (.classLink RL 28 "java/lang/IndexOutOfBoundsException") (by decide +kernel)) (va_Nw.use rfl (hX.c 2 rfl)) hce hcv hcl ?_
      refine lv_astore_n (lv' := (3, .ref q9) :: [(0, .ref d0), (1, .int p0), (2, .ref oq)]) hx hb dL_response_12 rfl hl (by decide) rfl (fun ls hl => ?_)
      refine lv_iconst (v := 1) hx hb dL_response_13 (by decide) ?_
      exact W.iret (v := 1) hx hb hr (fun t ht hW => ⟨⟨1, (((F, (G, n, sc), (Gt, nt, sct), (x, kk, RG, rn, RS)), (Gv, nv9, scv), (C, N, L, fl), (M, (Gz, nz, scz), Q, T)), y), rfl, ⟨rfl, hc9.symm, fun h9 => absurd (hc9.symm.trans h9) (by decide)⟩, by rw [ht]; exact hP, hD⟩, hS.F ht⟩) hS.2.2 dL_response_14
    · refine vx_catch (name := "java/lang/IllegalStateException") hown [⟨0, 9, 12, 28⟩] ⟨0, 9, 15, 15⟩ [⟨0, 9, 18, 92⟩] (htb.trans rfl) (List.forall_mem_cons.mpr ⟨Or.inr ⟨by decide, _, hts (.classLink RL 28 "java/lang/IndexOutOfBoundsException") (by decide +kernel), hV.n 5 rfl⟩, fun z hz => by simp at hz⟩) (by decide) (by decide) (hts (.classLink RL 15 "java/lang/IllegalStateException") (by decide +kernel)) (va_Nw.use rfl (hX.c 1 rfl)) hce hcv hcl ?_
      refine lv_astore_n (lv' := (3, .ref q9) :: [(0, .ref d0), (1, .int p0), (2, .ref oq)]) hx hb dL_response_15 rfl hl (by decide) rfl (fun ls hl => ?_)
      refine lv_iconst (v := 2) hx hb dL_response_16 (by decide) ?_
      exact W.iret (v := 2) hx hb hr (fun t ht hW => ⟨⟨2, (((F, (G, n, sc), (Gt, nt, sct), (x, kk, RG, rn, RS)), (Gv, nv9, scv), (C, N, L, fl), (M, (Gz, nz, scz), Q, T)), y), rfl, ⟨rfl, hc9.symm, fun h9 => absurd (hc9.symm.trans h9) (by decide)⟩, by rw [ht]; exact hP, hD⟩, hS.F ht⟩) hS.2.2 dL_response_17
    · refine vx_catch (name := "java/util/NoSuchElementException") hown [⟨0, 9, 12, 28⟩, ⟨0, 9, 15, 15⟩] ⟨0, 9, 18, 92⟩ [] (htb.trans rfl) (List.forall_mem_cons.mpr ⟨Or.inr ⟨by decide, _, hts (.classLink RL 28 "java/lang/IndexOutOfBoundsException") (by decide +kernel), hV.n 18 rfl⟩, List.forall_mem_cons.mpr ⟨Or.inr ⟨by decide, _, hts (.classLink RL 15 "java/lang/IllegalStateException") (by decide +kernel), hV.n 17 rfl⟩, fun z hz => by simp at hz⟩⟩) (by decide) (by decide) (hts (.classLink RL 92 "java/util/NoSuchElementException") (by decide +kernel)) (va_Nw.use rfl (hX.c 4 rfl)) hce hcv hcl ?_
      refine lv_astore_n (lv' := (3, .ref q9) :: [(0, .ref d0), (1, .int p0), (2, .ref oq)]) hx hb dL_response_18 rfl hl (by decide) rfl (fun ls hl => ?_)
      refine lv_iconst (v := 3) hx hb dL_response_19 (by decide) ?_
      exact W.iret (v := 3) hx hb hr (fun t ht hW => ⟨⟨3, (((F, (G, n, sc), (Gt, nt, sct), (x, kk, RG, rn, RS)), (Gv, nv9, scv), (C, N, L, fl), (M, (Gz, nz, scz), Q, T)), y), rfl, ⟨rfl, hc9.symm, fun h9 => absurd (hc9.symm.trans h9) (by decide)⟩, by rw [ht]; exact hP, hD⟩, hS.F ht⟩) hS.2.2 dL_response_20
  obtain ⟨hc9, rfl⟩ := hw
  have hP : va_P (dC, dI) vwCl (wK cy (d0, o, bc, bt, bv, rg, cs, bs, ta, tb, z, bq, rt) ((F, (G, n, sc), (Gt, nt, sct), (x, kk, RG, rn, RS)), (Gv, nv9, scv), (C, N, L, fl), (M, (Gz, nz, scz), Q, T)) ++ oL cy oq y) H1 := wKo_P.mpr (hB.kept (fun q h => hk1 q h (Nat.not_le.mpr h)))
  clear hz1 hk1
  generalize H1 = H at hP hS ⊢
  refine lv_i2l hx hb dL_response_7 rfl ?_
  refine vn_last hx hb hK hP hD hS 3 rfl dL_response_8 (fun H locs hP hD hS => ?_)
  refine lv_goto (tgt := 21) hx hb dL_response_9 (by decide) ?_
  refine lv_iconst (v := 0) hx hb dL_response_21 (by decide) ?_
  exact W.iret (v := 0) hx hb hr (fun t ht hW => ⟨⟨0, (((F, (G, n, sc), (Gt, nt, sct), (x, kk, RG, rn, RS)), (Gv, nv9, scv), (C, N, L, fl), (M, (Gz, nz, scz), Q, T)), _), rfl, ⟨rfl, hc9.symm, fun _ => rfl⟩, by rw [ht]; exact hP, hD⟩, hS.F ht⟩) hS.2.2 dL_response_22
set_option maxHeartbeats 1000000 in
set_option maxRecDepth 100000 in
/-- the law's utilizationBits -/
theorem c_L_utilizationBits (l : Launch) (hst : l.stackTraces = false) (dC : Nat → ClassId) (dI : Nat → Nat → Nat) (cy : Nat → ClassId) (sz : Nat) (d0 : Nat) (o bc bt bv : Nat → Nat) (rg : Nat) (cs : Nat → Nat) (bs : Nat → Nat → Nat) (ta tb : Nat) (z bq rt : Nat → Nat) (F : Nat → Int32) (G : vG) (n : Nat) (sc : Int32) (Gt : vG) (nt : Nat) (sct : Int32) (x kk : Nat) (RG : Nat → vG) (rn : Nat → Nat) (RS : Nat → Int32) (Gv : vG) (nv9 : Nat) (scv : Int32) (C N : Nat → Int32) (L : Nat) (fl : Int32) (M : Nat → Int32) (Gz : vG) (nz : Nat) (scz : Int32) (Q T : vG) (hk : KOk ((F, (G, n, sc), (Gt, nt, sct), (x, kk, RG, rn, RS)), (Gv, nv9, scv), (C, N, L, fl), (M, (Gz, nz, scz), Q, T))) (oq : Nat) (y : Int64) (p0 : Int32) : metL l yL_utilizationBits wsL_utilizationBits ({ frames := 9, cells := 1, slots := 6, locals := 147 }) [.ref d0, .int p0, .ref oq] dC dI cy (d0, o, bc, bt, bv, rg, cs, bs, ta, tb, z, bq, rt) oq sz ((F, (G, n, sc), (Gt, nt, sct), (x, kk, RG, rn, RS)), (Gv, nv9, scv), (C, N, L, fl), (M, (Gz, nz, scz), Q, T)) y (rdL ((F, (G, n, sc), (Gt, nt, sct), (x, kk, RG, rn, RS)), (Gv, nv9, scv), (C, N, L, fl), (M, (Gz, nz, scz), Q, T)) (cM p0) ((utl G p0 n).toInt64)) 1 6 := by
  unfold metL
  refine vn_ofH (cc := cL_utilizationBits) (maxL := 4) (ret := some .int) (hh := [(0, 8, 11, 13)]) (by decide) rfl ?_
  intro p e s m args below meth c s₁ B hml hv
  obtain ⟨rfl, hsz, hP, hE, hD0, hX, hZ, hV⟩ := hv
  have hK := hE.1
  subst hsz
  have hD := hD0.self (sz := s.heap.size)
  generalize hAe : va_A (wK cy (d0, o, bc, bt, bv, rg, cs, bs, ta, tb, z, bq, rt) ((F, (G, n, sc), (Gt, nt, sct), (x, kk, RG, rn, RS)), (Gv, nv9, scv), (C, N, L, fl), (M, (Gz, nz, scz), Q, T)) ++ oL cy oq y) s.heap.size = A at hD hZ ⊢
  have hA : ∀ q : Nat, s.heap.size ≤ q → A q := fun q h => by rw [← hAe]; exact Or.inr h
  have hS : va_S A s.heap s.heap [] := va_S.rf
  obtain ⟨hn, hnt, hx6, hkk, hrn, hnv, hL, hnz, hG, hsc, hd0, hd1, hGR⟩ := hk
  have hB : BP (dC, dI) vwCl [wObj d0 o F, wCfg cy (o 0) bc G (nI n) sc, wCfg cy (o 1) bt Gt (nI nt) sct, wHis cy (o 3) rg x kk cs bs RG rn RS, wCfg cy (o 2) bv Gv (nI nv9) scv, wTxt cy (o 4) ta tb C N (nI L) fl, wSim (o 5) z M, wCfg cy (z 0) bq Gz (nI nz) scz, wArr cy z rt Q T, oL cy oq y] s.heap := wKo_P.mp hP
  have hBD : BD A [wObj d0 o F, wCfg cy (o 0) bc G (nI n) sc, wCfg cy (o 1) bt Gt (nI nt) sct, wHis cy (o 3) rg x kk cs bs RG rn RS, wCfg cy (o 2) bv Gv (nI nv9) scv, wTxt cy (o 4) ta tb C N (nI L) fl, wSim (o 5) z M, wCfg cy (z 0) bq Gz (nI nz) scz, wArr cy z rt Q T, oL cy oq y] := wKo_D.mp hD
  have hx := B.exec
  have hb := B.bytes
  have hr := B.returns
  have hts := atoms_spec (ws := wsL_utilizationBits) B.pre
  have hown : s.vm.findClass RL = some m.cls := findClass_of_methodNamed B.named
  have htb := vx_table (x := yL_utilizationBits) B (hts (.codeWith yL_utilizationBits cL_utilizationBits 4 (some .int) [(0, 8, 11, 13)]) (List.mem_of_getElem? (i := 0) rfl))
  have hl := lv_entry ([.ref d0, .int p0, .ref oq]) (n := 4) (Nat.le_of_ble_eq_true rfl)
  rw [lg_entry_eq]
  generalize (lg_sl ([.ref d0, .int p0, .ref oq]) ++ List.replicate (4 - (lg_sl ([.ref d0, .int p0, .ref oq])).length) Slot.unset).toArray = ls at hl ⊢
  have hl : lv_has ls 4 [(0, .ref d0), (1, .int p0), (2, .ref oq)] := hl
  refine lv_aload_n hx hb dL_utilizationBits_0 rfl (lv_at hl 2 rfl) ?_
  refine lv_iconst (v := 0) hx hb dL_utilizationBits_1 (by decide) ?_
  refine lv_aload_n hx hb dL_utilizationBits_2 rfl (lv_at hl 0 rfl) ?_
  refine lv_iload_n hx hb dL_utilizationBits_3 rfl (lv_at hl 1 rfl) ?_
  have hPc : va_P (dC, dI) vwCl (wObj d0 o F ++ (wCfg cy (o 0) bc G (nI n) sc)) s.heap := gl_P.mpr (hB.sub (bs' := [wObj d0 o F, wCfg cy (o 0) bc G (nI n) sc]) [0, 1] rfl)
  refine vx_calll (vx_runV (As := [.int p0]) (rest := [.int 0, .ref oq]) ⟨hx, hb, hml, hown, hts⟩ (c_X4_utilizationBits l hst dC dI cy s.heap.size d0 o F bc G n hn sc hG p0) (cwV 1 hts gL_utilizationBits_X4_utilizationBits rfl rfl rfl (by decide +kernel) ⟨Nat.le_of_ble_eq_true rfl, Nat.le_of_ble_eq_true rfl⟩) ⟨bl_R, va_recv hK hPc (ci := 4) (q0 := 0) rfl rfl, pr_R hPc hE hX hZ hS hA⟩ rfl rfl hl.1 rfl (lv_room (Nat.le_of_ble_eq_true rfl)) dL_utilizationBits_4 ⟨Nat.le_of_ble_eq_true rfl, Nat.le_of_ble_eq_true rfl⟩) hS (fun q _ h => hA q (Nat.le_trans hS.1 h)) (fun q h => hA q (Nat.le_trans hS.1 h)) (fun q _ h => hA q (Nat.le_trans hS.1 h)) (fun E ce q9 u t H1 locs ht hvm hpx hBX hz1 hk1 hS hce hcv hcl => ?_) (fun r u t H1 locs ht hvm hw hB9 hz1 hk1 hS => ?_)
  · have hP : va_P (dC, dI) vwCl (wK cy (d0, o, bc, bt, bv, rg, cs, bs, ta, tb, z, bq, rt) ((F, (G, n, sc), (Gt, nt, sct), (x, kk, RG, rn, RS)), (Gv, nv9, scv), (C, N, L, fl), (M, (Gz, nz, scz), Q, T)) ++ oL cy oq y) H1 := wKo_P.mpr (hB.kept (fun q h => hk1 q h (Nat.not_le.mpr h)))
    obtain ⟨rfl, hc9⟩ := hBX
    refine vx_catch (name := "java/lang/IllegalArgumentException") hown [] ⟨0, 8, 11, 13⟩ [] (htb.trans rfl) (fun z hz => by simp at hz) (by decide) (by decide) (hts (.classLink RL 13 "java/lang/IllegalArgumentException") (by decide +kernel)) (va_Nw.use rfl (hX.c 0 rfl)) hce hcv hcl ?_
    refine lv_astore_n (lv' := (3, .ref q9) :: [(0, .ref d0), (1, .int p0), (2, .ref oq)]) hx hb dL_utilizationBits_11 rfl hl (by decide) rfl (fun ls hl => ?_)
    refine lv_iconst (v := 1) hx hb dL_utilizationBits_12 (by decide) ?_
    exact W.iret (v := 1) hx hb hr (fun t ht hW => ⟨⟨1, (((F, (G, n, sc), (Gt, nt, sct), (x, kk, RG, rn, RS)), (Gv, nv9, scv), (C, N, L, fl), (M, (Gz, nz, scz), Q, T)), y), rfl, ⟨rfl, hc9.symm, fun h9 => absurd (hc9.symm.trans h9) (by decide)⟩, by rw [ht]; exact hP, hD⟩, hS.F ht⟩) hS.2.2 dL_utilizationBits_13
  obtain ⟨hc9, rfl⟩ := hw
  have hP : va_P (dC, dI) vwCl (wK cy (d0, o, bc, bt, bv, rg, cs, bs, ta, tb, z, bq, rt) ((F, (G, n, sc), (Gt, nt, sct), (x, kk, RG, rn, RS)), (Gv, nv9, scv), (C, N, L, fl), (M, (Gz, nz, scz), Q, T)) ++ oL cy oq y) H1 := wKo_P.mpr (hB.kept (fun q h => hk1 q h (Nat.not_le.mpr h)))
  clear hz1 hk1
  generalize H1 = H at hP hS ⊢
  refine vn_last hx hb hK hP hD hS 3 rfl dL_utilizationBits_7 (fun H locs hP hD hS => ?_)
  refine lv_goto (tgt := 14) hx hb dL_utilizationBits_8 (by decide) ?_
  refine lv_iconst (v := 0) hx hb dL_utilizationBits_14 (by decide) ?_
  exact W.iret (v := 0) hx hb hr (fun t ht hW => ⟨⟨0, (((F, (G, n, sc), (Gt, nt, sct), (x, kk, RG, rn, RS)), (Gv, nv9, scv), (C, N, L, fl), (M, (Gz, nz, scz), Q, T)), _), rfl, ⟨rfl, hc9.symm, fun _ => rfl⟩, by rw [ht]; exact hP, hD⟩, hS.F ht⟩) hS.2.2 dL_utilizationBits_15
set_option maxHeartbeats 1000000 in
set_option maxRecDepth 100000 in
/-- the law's loadBits -/
theorem c_L_loadBits (l : Launch) (hst : l.stackTraces = false) (dC : Nat → ClassId) (dI : Nat → Nat → Nat) (cy : Nat → ClassId) (sz : Nat) (d0 : Nat) (o bc bt bv : Nat → Nat) (rg : Nat) (cs : Nat → Nat) (bs : Nat → Nat → Nat) (ta tb : Nat) (z bq rt : Nat → Nat) (F : Nat → Int32) (G : vG) (n : Nat) (sc : Int32) (Gt : vG) (nt : Nat) (sct : Int32) (x kk : Nat) (RG : Nat → vG) (rn : Nat → Nat) (RS : Nat → Int32) (Gv : vG) (nv9 : Nat) (scv : Int32) (C N : Nat → Int32) (L : Nat) (fl : Int32) (M : Nat → Int32) (Gz : vG) (nz : Nat) (scz : Int32) (Q T : vG) (hk : KOk ((F, (G, n, sc), (Gt, nt, sct), (x, kk, RG, rn, RS)), (Gv, nv9, scv), (C, N, L, fl), (M, (Gz, nz, scz), Q, T))) (oq : Nat) (y : Int64) (p0 : Int32) : metL l yL_loadBits wsL_loadBits ({ frames := 9, cells := 1, slots := 6, locals := 147 }) [.ref d0, .int p0, .ref oq] dC dI cy (d0, o, bc, bt, bv, rg, cs, bs, ta, tb, z, bq, rt) oq sz ((F, (G, n, sc), (Gt, nt, sct), (x, kk, RG, rn, RS)), (Gv, nv9, scv), (C, N, L, fl), (M, (Gz, nz, scz), Q, T)) y (rdL ((F, (G, n, sc), (Gt, nt, sct), (x, kk, RG, rn, RS)), (Gv, nv9, scv), (C, N, L, fl), (M, (Gz, nz, scz), Q, T)) (cM p0) (((lod G n sc p0).toInt32).toInt64)) 1 6 := by
  unfold metL
  refine vn_ofH (cc := cL_loadBits) (maxL := 4) (ret := some .int) (hh := [(0, 9, 12, 13)]) (by decide) rfl ?_
  intro p e s m args below meth c s₁ B hml hv
  obtain ⟨rfl, hsz, hP, hE, hD0, hX, hZ, hV⟩ := hv
  have hK := hE.1
  subst hsz
  have hD := hD0.self (sz := s.heap.size)
  generalize hAe : va_A (wK cy (d0, o, bc, bt, bv, rg, cs, bs, ta, tb, z, bq, rt) ((F, (G, n, sc), (Gt, nt, sct), (x, kk, RG, rn, RS)), (Gv, nv9, scv), (C, N, L, fl), (M, (Gz, nz, scz), Q, T)) ++ oL cy oq y) s.heap.size = A at hD hZ ⊢
  have hA : ∀ q : Nat, s.heap.size ≤ q → A q := fun q h => by rw [← hAe]; exact Or.inr h
  have hS : va_S A s.heap s.heap [] := va_S.rf
  obtain ⟨hn, hnt, hx6, hkk, hrn, hnv, hL, hnz, hG, hsc, hd0, hd1, hGR⟩ := hk
  have hB : BP (dC, dI) vwCl [wObj d0 o F, wCfg cy (o 0) bc G (nI n) sc, wCfg cy (o 1) bt Gt (nI nt) sct, wHis cy (o 3) rg x kk cs bs RG rn RS, wCfg cy (o 2) bv Gv (nI nv9) scv, wTxt cy (o 4) ta tb C N (nI L) fl, wSim (o 5) z M, wCfg cy (z 0) bq Gz (nI nz) scz, wArr cy z rt Q T, oL cy oq y] s.heap := wKo_P.mp hP
  have hBD : BD A [wObj d0 o F, wCfg cy (o 0) bc G (nI n) sc, wCfg cy (o 1) bt Gt (nI nt) sct, wHis cy (o 3) rg x kk cs bs RG rn RS, wCfg cy (o 2) bv Gv (nI nv9) scv, wTxt cy (o 4) ta tb C N (nI L) fl, wSim (o 5) z M, wCfg cy (z 0) bq Gz (nI nz) scz, wArr cy z rt Q T, oL cy oq y] := wKo_D.mp hD
  have hx := B.exec
  have hb := B.bytes
  have hr := B.returns
  have hts := atoms_spec (ws := wsL_loadBits) B.pre
  have hown : s.vm.findClass RL = some m.cls := findClass_of_methodNamed B.named
  have htb := vx_table (x := yL_loadBits) B (hts (.codeWith yL_loadBits cL_loadBits 4 (some .int) [(0, 9, 12, 13)]) (List.mem_of_getElem? (i := 0) rfl))
  have hl := lv_entry ([.ref d0, .int p0, .ref oq]) (n := 4) (Nat.le_of_ble_eq_true rfl)
  rw [lg_entry_eq]
  generalize (lg_sl ([.ref d0, .int p0, .ref oq]) ++ List.replicate (4 - (lg_sl ([.ref d0, .int p0, .ref oq])).length) Slot.unset).toArray = ls at hl ⊢
  have hl : lv_has ls 4 [(0, .ref d0), (1, .int p0), (2, .ref oq)] := hl
  refine lv_aload_n hx hb dL_loadBits_0 rfl (lv_at hl 2 rfl) ?_
  refine lv_iconst (v := 0) hx hb dL_loadBits_1 (by decide) ?_
  refine lv_aload_n hx hb dL_loadBits_2 rfl (lv_at hl 0 rfl) ?_
  refine lv_iload_n hx hb dL_loadBits_3 rfl (lv_at hl 1 rfl) ?_
  have hPc : va_P (dC, dI) vwCl (wObj d0 o F ++ (wCfg cy (o 0) bc G (nI n) sc)) s.heap := gl_P.mpr (hB.sub (bs' := [wObj d0 o F, wCfg cy (o 0) bc G (nI n) sc]) [0, 1] rfl)
  refine vx_calli (vx_runV (As := [.int p0]) (rest := [.int 0, .ref oq]) ⟨hx, hb, hml, hown, hts⟩ (c_X4_loadBits l hst dC dI cy s.heap.size d0 o F bc G n hn sc hd0 hd1 p0) (cwV 1 hts gL_loadBits_X4_loadBits rfl rfl rfl (by decide +kernel) ⟨Nat.le_of_ble_eq_true rfl, Nat.le_of_ble_eq_true rfl⟩) ⟨bl_R, va_recv hK hPc (ci := 4) (q0 := 0) rfl rfl, pr_R hPc hE hX hZ hS hA⟩ rfl rfl hl.1 rfl (lv_room (Nat.le_of_ble_eq_true rfl)) dL_loadBits_4 ⟨Nat.le_of_ble_eq_true rfl, Nat.le_of_ble_eq_true rfl⟩) hS (fun q _ h => hA q (Nat.le_trans hS.1 h)) (fun q h => hA q (Nat.le_trans hS.1 h)) (fun q _ h => hA q (Nat.le_trans hS.1 h)) (fun E ce q9 u t H1 locs ht hvm hpx hBX hz1 hk1 hS hce hcv hcl => ?_) (fun r u t H1 locs ht hvm hw hB9 hz1 hk1 hS => ?_)
  · have hP : va_P (dC, dI) vwCl (wK cy (d0, o, bc, bt, bv, rg, cs, bs, ta, tb, z, bq, rt) ((F, (G, n, sc), (Gt, nt, sct), (x, kk, RG, rn, RS)), (Gv, nv9, scv), (C, N, L, fl), (M, (Gz, nz, scz), Q, T)) ++ oL cy oq y) H1 := wKo_P.mpr (hB.kept (fun q h => hk1 q h (Nat.not_le.mpr h)))
    obtain ⟨rfl, hc9⟩ := hBX
    refine vx_catch (name := "java/lang/IllegalArgumentException") hown [] ⟨0, 9, 12, 13⟩ [] (htb.trans rfl) (fun z hz => by simp at hz) (by decide) (by decide) (hts (.classLink RL 13 "java/lang/IllegalArgumentException") (by decide +kernel)) (va_Nw.use rfl (hX.c 0 rfl)) hce hcv hcl ?_
    refine lv_astore_n (lv' := (3, .ref q9) :: [(0, .ref d0), (1, .int p0), (2, .ref oq)]) hx hb dL_loadBits_12 rfl hl (by decide) rfl (fun ls hl => ?_)
    refine lv_iconst (v := 1) hx hb dL_loadBits_13 (by decide) ?_
    exact W.iret (v := 1) hx hb hr (fun t ht hW => ⟨⟨1, (((F, (G, n, sc), (Gt, nt, sct), (x, kk, RG, rn, RS)), (Gv, nv9, scv), (C, N, L, fl), (M, (Gz, nz, scz), Q, T)), y), rfl, ⟨rfl, hc9.symm, fun h9 => absurd (hc9.symm.trans h9) (by decide)⟩, by rw [ht]; exact hP, hD⟩, hS.F ht⟩) hS.2.2 dL_loadBits_14
  obtain ⟨hc9, rfl⟩ := hw
  have hP : va_P (dC, dI) vwCl (wK cy (d0, o, bc, bt, bv, rg, cs, bs, ta, tb, z, bq, rt) ((F, (G, n, sc), (Gt, nt, sct), (x, kk, RG, rn, RS)), (Gv, nv9, scv), (C, N, L, fl), (M, (Gz, nz, scz), Q, T)) ++ oL cy oq y) H1 := wKo_P.mpr (hB.kept (fun q h => hk1 q h (Nat.not_le.mpr h)))
  clear hz1 hk1
  generalize H1 = H at hP hS ⊢
  refine lv_i2l hx hb dL_loadBits_7 rfl ?_
  refine vn_last hx hb hK hP hD hS 3 rfl dL_loadBits_8 (fun H locs hP hD hS => ?_)
  refine lv_goto (tgt := 15) hx hb dL_loadBits_9 (by decide) ?_
  refine lv_iconst (v := 0) hx hb dL_loadBits_15 (by decide) ?_
  exact W.iret (v := 0) hx hb hr (fun t ht hW => ⟨⟨0, (((F, (G, n, sc), (Gt, nt, sct), (x, kk, RG, rn, RS)), (Gv, nv9, scv), (C, N, L, fl), (M, (Gz, nz, scz), Q, T)), _), rfl, ⟨rfl, hc9.symm, fun _ => rfl⟩, by rw [ht]; exact hP, hD⟩, hS.F ht⟩) hS.2.2 dL_loadBits_16
set_option maxHeartbeats 1000000 in
set_option maxRecDepth 100000 in
/-- the law's utilization -/
theorem c_L_utilization (l : Launch) (hst : l.stackTraces = false) (dC : Nat → ClassId) (dI : Nat → Nat → Nat) (cy : Nat → ClassId) (sz : Nat) (d0 : Nat) (o bc bt bv : Nat → Nat) (rg : Nat) (cs : Nat → Nat) (bs : Nat → Nat → Nat) (ta tb : Nat) (z bq rt : Nat → Nat) (F : Nat → Int32) (G : vG) (n : Nat) (sc : Int32) (Gt : vG) (nt : Nat) (sct : Int32) (x kk : Nat) (RG : Nat → vG) (rn : Nat → Nat) (RS : Nat → Int32) (Gv : vG) (nv9 : Nat) (scv : Int32) (C N : Nat → Int32) (L : Nat) (fl : Int32) (M : Nat → Int32) (Gz : vG) (nz : Nat) (scz : Int32) (Q T : vG) (hk : KOk ((F, (G, n, sc), (Gt, nt, sct), (x, kk, RG, rn, RS)), (Gv, nv9, scv), (C, N, L, fl), (M, (Gz, nz, scz), Q, T))) (oq : Nat) (y : UInt64) (p0 : Int32) : metD l yL_utilization wsL_utilization ({ frames := 8, cells := 1, slots := 6, locals := 126 }) [.ref d0, .int p0, .ref oq] dC dI cy (d0, o, bc, bt, bv, rg, cs, bs, ta, tb, z, bq, rt) oq sz ((F, (G, n, sc), (Gt, nt, sct), (x, kk, RG, rn, RS)), (Gv, nv9, scv), (C, N, L, fl), (M, (Gz, nz, scz), Q, T)) y (rdD ((F, (G, n, sc), (Gt, nt, sct), (x, kk, RG, rn, RS)), (Gv, nv9, scv), (C, N, L, fl), (M, (Gz, nz, scz), Q, T)) (cM p0) (utl G p0 n)) 1 6 := by
  unfold metD
  refine vn_ofH (cc := cL_utilization) (maxL := 4) (ret := some .int) (hh := [(0, 8, 11, 13)]) (by decide) rfl ?_
  intro p e s m args below meth c s₁ B hml hv
  obtain ⟨rfl, hsz, hP, hE, hD0, hX, hZ, hV⟩ := hv
  have hK := hE.1
  subst hsz
  have hD := hD0.self (sz := s.heap.size)
  generalize hAe : va_A (wK cy (d0, o, bc, bt, bv, rg, cs, bs, ta, tb, z, bq, rt) ((F, (G, n, sc), (Gt, nt, sct), (x, kk, RG, rn, RS)), (Gv, nv9, scv), (C, N, L, fl), (M, (Gz, nz, scz), Q, T)) ++ oD cy oq y) s.heap.size = A at hD hZ ⊢
  have hA : ∀ q : Nat, s.heap.size ≤ q → A q := fun q h => by rw [← hAe]; exact Or.inr h
  have hS : va_S A s.heap s.heap [] := va_S.rf
  obtain ⟨hn, hnt, hx6, hkk, hrn, hnv, hL, hnz, hG, hsc, hd0, hd1, hGR⟩ := hk
  have hB : BP (dC, dI) vwCl [wObj d0 o F, wCfg cy (o 0) bc G (nI n) sc, wCfg cy (o 1) bt Gt (nI nt) sct, wHis cy (o 3) rg x kk cs bs RG rn RS, wCfg cy (o 2) bv Gv (nI nv9) scv, wTxt cy (o 4) ta tb C N (nI L) fl, wSim (o 5) z M, wCfg cy (z 0) bq Gz (nI nz) scz, wArr cy z rt Q T, oD cy oq y] s.heap := wKo_P.mp hP
  have hBD : BD A [wObj d0 o F, wCfg cy (o 0) bc G (nI n) sc, wCfg cy (o 1) bt Gt (nI nt) sct, wHis cy (o 3) rg x kk cs bs RG rn RS, wCfg cy (o 2) bv Gv (nI nv9) scv, wTxt cy (o 4) ta tb C N (nI L) fl, wSim (o 5) z M, wCfg cy (z 0) bq Gz (nI nz) scz, wArr cy z rt Q T, oD cy oq y] := wKo_D.mp hD
  have hx := B.exec
  have hb := B.bytes
  have hr := B.returns
  have hts := atoms_spec (ws := wsL_utilization) B.pre
  have hown : s.vm.findClass RL = some m.cls := findClass_of_methodNamed B.named
  have htb := vx_table (x := yL_utilization) B (hts (.codeWith yL_utilization cL_utilization 4 (some .int) [(0, 8, 11, 13)]) (List.mem_of_getElem? (i := 0) rfl))
  have hl := lv_entry ([.ref d0, .int p0, .ref oq]) (n := 4) (Nat.le_of_ble_eq_true rfl)
  rw [lg_entry_eq]
  generalize (lg_sl ([.ref d0, .int p0, .ref oq]) ++ List.replicate (4 - (lg_sl ([.ref d0, .int p0, .ref oq])).length) Slot.unset).toArray = ls at hl ⊢
  have hl : lv_has ls 4 [(0, .ref d0), (1, .int p0), (2, .ref oq)] := hl
  refine lv_aload_n hx hb dL_utilization_0 rfl (lv_at hl 2 rfl) ?_
  refine lv_iconst (v := 0) hx hb dL_utilization_1 (by decide) ?_
  refine lv_aload_n hx hb dL_utilization_2 rfl (lv_at hl 0 rfl) ?_
  refine lv_iload_n hx hb dL_utilization_3 rfl (lv_at hl 1 rfl) ?_
  have hPc : va_P (dC, dI) vwCl (wObj d0 o F ++ (wCfg cy (o 0) bc G (nI n) sc)) s.heap := gl_P.mpr (hB.sub (bs' := [wObj d0 o F, wCfg cy (o 0) bc G (nI n) sc]) [0, 1] rfl)
  refine vx_calld (vx_runV (As := [.int p0]) (rest := [.int 0, .ref oq]) ⟨hx, hb, hml, hown, hts⟩ (c_X4_utilization l hst dC dI cy s.heap.size d0 o F bc G n hn sc hG p0) (cwV 1 hts gL_utilization_X4_utilization rfl rfl rfl (by decide +kernel) ⟨Nat.le_of_ble_eq_true rfl, Nat.le_of_ble_eq_true rfl⟩) ⟨bl_R, va_recv hK hPc (ci := 4) (q0 := 0) rfl rfl, pr_R hPc hE hX hZ hS hA⟩ rfl rfl hl.1 rfl (lv_room (Nat.le_of_ble_eq_true rfl)) dL_utilization_4 ⟨Nat.le_of_ble_eq_true rfl, Nat.le_of_ble_eq_true rfl⟩) hS (fun q _ h => hA q (Nat.le_trans hS.1 h)) (fun q h => hA q (Nat.le_trans hS.1 h)) (fun q _ h => hA q (Nat.le_trans hS.1 h)) (fun E ce q9 u t H1 locs ht hvm hpx hBX hz1 hk1 hS hce hcv hcl => ?_) (fun r u t H1 locs ht hvm hw hB9 hz1 hk1 hS => ?_)
  · have hP : va_P (dC, dI) vwCl (wK cy (d0, o, bc, bt, bv, rg, cs, bs, ta, tb, z, bq, rt) ((F, (G, n, sc), (Gt, nt, sct), (x, kk, RG, rn, RS)), (Gv, nv9, scv), (C, N, L, fl), (M, (Gz, nz, scz), Q, T)) ++ oD cy oq y) H1 := wKo_P.mpr (hB.kept (fun q h => hk1 q h (Nat.not_le.mpr h)))
    obtain ⟨rfl, hc9⟩ := hBX
    refine vx_catch (name := "java/lang/IllegalArgumentException") hown [] ⟨0, 8, 11, 13⟩ [] (htb.trans rfl) (fun z hz => by simp at hz) (by decide) (by decide) (hts (.classLink RL 13 "java/lang/IllegalArgumentException") (by decide +kernel)) (va_Nw.use rfl (hX.c 0 rfl)) hce hcv hcl ?_
    refine lv_astore_n (lv' := (3, .ref q9) :: [(0, .ref d0), (1, .int p0), (2, .ref oq)]) hx hb dL_utilization_11 rfl hl (by decide) rfl (fun ls hl => ?_)
    refine lv_iconst (v := 1) hx hb dL_utilization_12 (by decide) ?_
    exact W.iret (v := 1) hx hb hr (fun t ht hW => ⟨⟨1, (((F, (G, n, sc), (Gt, nt, sct), (x, kk, RG, rn, RS)), (Gv, nv9, scv), (C, N, L, fl), (M, (Gz, nz, scz), Q, T)), y), rfl, ⟨rfl, hc9.symm, fun h9 => absurd (hc9.symm.trans h9) (by decide)⟩, by rw [ht]; exact hP, hD⟩, hS.F ht⟩) hS.2.2 dL_utilization_13
  obtain ⟨hc9, rfl⟩ := hw
  have hP : va_P (dC, dI) vwCl (wK cy (d0, o, bc, bt, bv, rg, cs, bs, ta, tb, z, bq, rt) ((F, (G, n, sc), (Gt, nt, sct), (x, kk, RG, rn, RS)), (Gv, nv9, scv), (C, N, L, fl), (M, (Gz, nz, scz), Q, T)) ++ oD cy oq y) H1 := wKo_P.mpr (hB.kept (fun q h => hk1 q h (Nat.not_le.mpr h)))
  clear hz1 hk1
  generalize H1 = H at hP hS ⊢
  refine vn_dast hx hb hK hP hD hS 4 rfl dL_utilization_7 (fun H locs hP hD hS => ?_)
  refine lv_goto (tgt := 14) hx hb dL_utilization_8 (by decide) ?_
  refine lv_iconst (v := 0) hx hb dL_utilization_14 (by decide) ?_
  exact W.iret (v := 0) hx hb hr (fun t ht hW => ⟨⟨0, (((F, (G, n, sc), (Gt, nt, sct), (x, kk, RG, rn, RS)), (Gv, nv9, scv), (C, N, L, fl), (M, (Gz, nz, scz), Q, T)), _), rfl, ⟨rfl, hc9.symm, fun _ => rfl⟩, by rw [ht]; exact hP, hD⟩, hS.F ht⟩) hS.2.2 dL_utilization_15
set_option maxHeartbeats 1000000 in
set_option maxRecDepth 100000 in
/-- the law's load -/
theorem c_L_load (l : Launch) (hst : l.stackTraces = false) (dC : Nat → ClassId) (dI : Nat → Nat → Nat) (cy : Nat → ClassId) (sz : Nat) (d0 : Nat) (o bc bt bv : Nat → Nat) (rg : Nat) (cs : Nat → Nat) (bs : Nat → Nat → Nat) (ta tb : Nat) (z bq rt : Nat → Nat) (F : Nat → Int32) (G : vG) (n : Nat) (sc : Int32) (Gt : vG) (nt : Nat) (sct : Int32) (x kk : Nat) (RG : Nat → vG) (rn : Nat → Nat) (RS : Nat → Int32) (Gv : vG) (nv9 : Nat) (scv : Int32) (C N : Nat → Int32) (L : Nat) (fl : Int32) (M : Nat → Int32) (Gz : vG) (nz : Nat) (scz : Int32) (Q T : vG) (hk : KOk ((F, (G, n, sc), (Gt, nt, sct), (x, kk, RG, rn, RS)), (Gv, nv9, scv), (C, N, L, fl), (M, (Gz, nz, scz), Q, T))) (oq : Nat) (y : UInt64) (p0 : Int32) : metD l yL_load wsL_load ({ frames := 8, cells := 1, slots := 6, locals := 126 }) [.ref d0, .int p0, .ref oq] dC dI cy (d0, o, bc, bt, bv, rg, cs, bs, ta, tb, z, bq, rt) oq sz ((F, (G, n, sc), (Gt, nt, sct), (x, kk, RG, rn, RS)), (Gv, nv9, scv), (C, N, L, fl), (M, (Gz, nz, scz), Q, T)) y (rdD ((F, (G, n, sc), (Gt, nt, sct), (x, kk, RG, rn, RS)), (Gv, nv9, scv), (C, N, L, fl), (M, (Gz, nz, scz), Q, T)) (cM p0) (FP.f2d (lod G n sc p0))) 1 6 := by
  unfold metD
  refine vn_ofH (cc := cL_load) (maxL := 4) (ret := some .int) (hh := [(0, 9, 12, 13)]) (by decide) rfl ?_
  intro p e s m args below meth c s₁ B hml hv
  obtain ⟨rfl, hsz, hP, hE, hD0, hX, hZ, hV⟩ := hv
  have hK := hE.1
  subst hsz
  have hD := hD0.self (sz := s.heap.size)
  generalize hAe : va_A (wK cy (d0, o, bc, bt, bv, rg, cs, bs, ta, tb, z, bq, rt) ((F, (G, n, sc), (Gt, nt, sct), (x, kk, RG, rn, RS)), (Gv, nv9, scv), (C, N, L, fl), (M, (Gz, nz, scz), Q, T)) ++ oD cy oq y) s.heap.size = A at hD hZ ⊢
  have hA : ∀ q : Nat, s.heap.size ≤ q → A q := fun q h => by rw [← hAe]; exact Or.inr h
  have hS : va_S A s.heap s.heap [] := va_S.rf
  obtain ⟨hn, hnt, hx6, hkk, hrn, hnv, hL, hnz, hG, hsc, hd0, hd1, hGR⟩ := hk
  have hB : BP (dC, dI) vwCl [wObj d0 o F, wCfg cy (o 0) bc G (nI n) sc, wCfg cy (o 1) bt Gt (nI nt) sct, wHis cy (o 3) rg x kk cs bs RG rn RS, wCfg cy (o 2) bv Gv (nI nv9) scv, wTxt cy (o 4) ta tb C N (nI L) fl, wSim (o 5) z M, wCfg cy (z 0) bq Gz (nI nz) scz, wArr cy z rt Q T, oD cy oq y] s.heap := wKo_P.mp hP
  have hBD : BD A [wObj d0 o F, wCfg cy (o 0) bc G (nI n) sc, wCfg cy (o 1) bt Gt (nI nt) sct, wHis cy (o 3) rg x kk cs bs RG rn RS, wCfg cy (o 2) bv Gv (nI nv9) scv, wTxt cy (o 4) ta tb C N (nI L) fl, wSim (o 5) z M, wCfg cy (z 0) bq Gz (nI nz) scz, wArr cy z rt Q T, oD cy oq y] := wKo_D.mp hD
  have hx := B.exec
  have hb := B.bytes
  have hr := B.returns
  have hts := atoms_spec (ws := wsL_load) B.pre
  have hown : s.vm.findClass RL = some m.cls := findClass_of_methodNamed B.named
  have htb := vx_table (x := yL_load) B (hts (.codeWith yL_load cL_load 4 (some .int) [(0, 9, 12, 13)]) (List.mem_of_getElem? (i := 0) rfl))
  have hl := lv_entry ([.ref d0, .int p0, .ref oq]) (n := 4) (Nat.le_of_ble_eq_true rfl)
  rw [lg_entry_eq]
  generalize (lg_sl ([.ref d0, .int p0, .ref oq]) ++ List.replicate (4 - (lg_sl ([.ref d0, .int p0, .ref oq])).length) Slot.unset).toArray = ls at hl ⊢
  have hl : lv_has ls 4 [(0, .ref d0), (1, .int p0), (2, .ref oq)] := hl
  refine lv_aload_n hx hb dL_load_0 rfl (lv_at hl 2 rfl) ?_
  refine lv_iconst (v := 0) hx hb dL_load_1 (by decide) ?_
  refine lv_aload_n hx hb dL_load_2 rfl (lv_at hl 0 rfl) ?_
  refine lv_iload_n hx hb dL_load_3 rfl (lv_at hl 1 rfl) ?_
  have hPc : va_P (dC, dI) vwCl (wObj d0 o F ++ (wCfg cy (o 0) bc G (nI n) sc)) s.heap := gl_P.mpr (hB.sub (bs' := [wObj d0 o F, wCfg cy (o 0) bc G (nI n) sc]) [0, 1] rfl)
  refine vx_callf (vx_runV (As := [.int p0]) (rest := [.int 0, .ref oq]) ⟨hx, hb, hml, hown, hts⟩ (c_X4_load l hst dC dI cy s.heap.size d0 o F bc G n hn sc hd0 hd1 p0) (cwV 1 hts gL_load_X4_load rfl rfl rfl (by decide +kernel) ⟨Nat.le_of_ble_eq_true rfl, Nat.le_of_ble_eq_true rfl⟩) ⟨bl_R, va_recv hK hPc (ci := 4) (q0 := 0) rfl rfl, pr_R hPc hE hX hZ hS hA⟩ rfl rfl hl.1 rfl (lv_room (Nat.le_of_ble_eq_true rfl)) dL_load_4 ⟨Nat.le_of_ble_eq_true rfl, Nat.le_of_ble_eq_true rfl⟩) hS (fun q _ h => hA q (Nat.le_trans hS.1 h)) (fun q h => hA q (Nat.le_trans hS.1 h)) (fun q _ h => hA q (Nat.le_trans hS.1 h)) (fun E ce q9 u t H1 locs ht hvm hpx hBX hz1 hk1 hS hce hcv hcl => ?_) (fun r u t H1 locs ht hvm hw hB9 hz1 hk1 hS => ?_)
  · have hP : va_P (dC, dI) vwCl (wK cy (d0, o, bc, bt, bv, rg, cs, bs, ta, tb, z, bq, rt) ((F, (G, n, sc), (Gt, nt, sct), (x, kk, RG, rn, RS)), (Gv, nv9, scv), (C, N, L, fl), (M, (Gz, nz, scz), Q, T)) ++ oD cy oq y) H1 := wKo_P.mpr (hB.kept (fun q h => hk1 q h (Nat.not_le.mpr h)))
    obtain ⟨rfl, hc9⟩ := hBX
    refine vx_catch (name := "java/lang/IllegalArgumentException") hown [] ⟨0, 9, 12, 13⟩ [] (htb.trans rfl) (fun z hz => by simp at hz) (by decide) (by decide) (hts (.classLink RL 13 "java/lang/IllegalArgumentException") (by decide +kernel)) (va_Nw.use rfl (hX.c 0 rfl)) hce hcv hcl ?_
    refine lv_astore_n (lv' := (3, .ref q9) :: [(0, .ref d0), (1, .int p0), (2, .ref oq)]) hx hb dL_load_12 rfl hl (by decide) rfl (fun ls hl => ?_)
    refine lv_iconst (v := 1) hx hb dL_load_13 (by decide) ?_
    exact W.iret (v := 1) hx hb hr (fun t ht hW => ⟨⟨1, (((F, (G, n, sc), (Gt, nt, sct), (x, kk, RG, rn, RS)), (Gv, nv9, scv), (C, N, L, fl), (M, (Gz, nz, scz), Q, T)), y), rfl, ⟨rfl, hc9.symm, fun h9 => absurd (hc9.symm.trans h9) (by decide)⟩, by rw [ht]; exact hP, hD⟩, hS.F ht⟩) hS.2.2 dL_load_14
  obtain ⟨hc9, rfl⟩ := hw
  have hP : va_P (dC, dI) vwCl (wK cy (d0, o, bc, bt, bv, rg, cs, bs, ta, tb, z, bq, rt) ((F, (G, n, sc), (Gt, nt, sct), (x, kk, RG, rn, RS)), (Gv, nv9, scv), (C, N, L, fl), (M, (Gz, nz, scz), Q, T)) ++ oD cy oq y) H1 := wKo_P.mpr (hB.kept (fun q h => hk1 q h (Nat.not_le.mpr h)))
  clear hz1 hk1
  generalize H1 = H at hP hS ⊢
  refine lv_f2d hx hb dL_load_7 (f2d_n (lod_pn (dok_m hd0 hd1 hc9))) ?_
  refine vn_dast hx hb hK hP hD hS 4 rfl dL_load_8 (fun H locs hP hD hS => ?_)
  refine lv_goto (tgt := 15) hx hb dL_load_9 (by decide) ?_
  refine lv_iconst (v := 0) hx hb dL_load_15 (by decide) ?_
  exact W.iret (v := 0) hx hb hr (fun t ht hW => ⟨⟨0, (((F, (G, n, sc), (Gt, nt, sct), (x, kk, RG, rn, RS)), (Gv, nv9, scv), (C, N, L, fl), (M, (Gz, nz, scz), Q, T)), _), rfl, ⟨rfl, hc9.symm, fun _ => rfl⟩, by rw [ht]; exact hP, hD⟩, hS.F ht⟩) hS.2.2 dL_load_16

/-! PART 89: the law from its entry -/
section VNEW2
variable {p : Program} {l : Launch} {e : Env} {R : Room} {s : State} {m : MethodId} {args : Array Value} {below : List Frame} {meth : Method} {c : Code} {H : Heap} {locs : List Loc} {cells slots : Nat} {Q : State → Prop}
variable {cc : ByteArray} {pc : Nat} {ls : Array Slot} {rest : List Value} {D : va_G} {cl : List vw_C} {A : Nat → Prop} {tys : List (ClassId × FieldType)} {ws : va_W} {H0 : Heap}
/-- a new row of one long, or of one double -/
theorem vn_newl (hexec : p.tables.exec = Jvm.exec) (hb : c.code = cc) (harr : (Cond.arrayClass .long).before args s = true) (hK : va_K D cl tys s) (t0 : Nat) {cA0 : ClassId} (ht : tys[t0]? = some (cA0, .long)) (hP : va_P D cl ws H) (hD : va_D A ws) (hS : va_S A H0 H locs) (hA : ∀ q, H0.size ≤ q → A q)
    (hcells : cells + 1 ≤ R.cells) (hslots : slots + 1 ≤ R.slots) (hdg : decode cc pc = .ok (.newarray .long, 2))
    (kk : ∀ (q : Nat) (H1 : Heap), va_P D cl (ws ++ [(q, .inl (cA0, 1, .inr (.inl (fun _ => 0))))]) H1 → va_D A (ws ++ [(q, .inl (cA0, 1, .inr (.inl (fun _ => 0))))]) → va_S A H0 H1 locs →
      W p l e R s m args below meth c H1 locs (cells + 1) (slots + 1) Q (F0 m (pc + 2) ls (.ref q :: rest))) : W p l e R s m args below meth c H locs cells slots Q (F0 m pc ls (.int 1 :: rest)) := by
  refine va_newa (atype := .long) (ty := .long) (a0 := (1, .inr (.inl (fun _ => 0)))) (N' := 1) hexec hb harr rfl hK hP hD hS hA (fun cA => rfl) (by decide) rfl (by decide) hcells hslots hdg (fun q cA H1 hK1 hP1 hD1 hS1 => ?_)
  have h1 := (hK1.2 tys.length (cA, .long) (by rw [List.getElem?_append_right (Nat.le_refl _), Nat.sub_self]; rfl)).2
  have e9 : cA = cA0 := vn_cls h1 (hK.2 t0 _ ht).2
  subst e9
  exact kk q H1 hP1 hD1 hS1
theorem vn_newd (hexec : p.tables.exec = Jvm.exec) (hb : c.code = cc) (harr : (Cond.arrayClass .double).before args s = true) (hK : va_K D cl tys s) (t0 : Nat) {cA0 : ClassId} (ht : tys[t0]? = some (cA0, .double)) (hP : va_P D cl ws H) (hD : va_D A ws) (hS : va_S A H0 H locs) (hA : ∀ q, H0.size ≤ q → A q)
    (hcells : cells + 1 ≤ R.cells) (hslots : slots + 1 ≤ R.slots) (hdg : decode cc pc = .ok (.newarray .double, 2))
    (kk : ∀ (q : Nat) (H1 : Heap), va_P D cl (ws ++ [(q, .inl (cA0, 1, .inr (.inr (.inr (.inl (fun _ => 0))))))]) H1 → va_D A (ws ++ [(q, .inl (cA0, 1, .inr (.inr (.inr (.inl (fun _ => 0))))))]) → va_S A H0 H1 locs →
      W p l e R s m args below meth c H1 locs (cells + 1) (slots + 1) Q (F0 m (pc + 2) ls (.ref q :: rest))) : W p l e R s m args below meth c H locs cells slots Q (F0 m pc ls (.int 1 :: rest)) := by
  refine va_newa (atype := .double) (ty := .double) (a0 := (1, .inr (.inr (.inr (.inl (fun _ => 0)))))) (N' := 1) hexec hb harr rfl hK hP hD hS hA (fun cA => rfl) (by decide) rfl (by decide) hcells hslots hdg (fun q cA H1 hK1 hP1 hD1 hS1 => ?_)
  have h1 := (hK1.2 tys.length (cA, .double) (by rw [List.getElem?_append_right (Nat.le_refl _), Nat.sub_self]; rfl)).2
  have e9 : cA = cA0 := vn_cls h1 (hK.2 t0 _ ht).2
  subst e9
  exact kk q H1 hP1 hD1 hS1
end VNEW2
theorem wm (i : Nat) {w : Cond} (h : wsL_law0_r1[i]? = some w) : w ∈ wnL_law := List.mem_append_left _ (List.mem_append_left _ (List.mem_append_left _ (List.mem_append_left _ (List.mem_append_left _ (List.mem_append_left _ (List.mem_append_left _ (List.mem_append_left _ (List.mem_append_left _ (List.mem_append_left _ (List.mem_append_left _ (List.mem_append_left _ (List.mem_append_left _ (List.mem_of_getElem? h)))))))))))))
theorem dem0 : ∀ (k : Nat), gsc (fun _ _ => 0) 0 k = k := by
  intro k
  cases k with
  | zero => rfl
  | succ k =>
    have h : ∀ mode : Int32, ffail (fun _ _ => 0) 0 (nI (k + 1)) mode = 0 := fun mode => ffail_0.mpr (fun t h1 h2 => by
      show (0 : Int32) ≤ nI t
      exact nI_pos' (by omega))
    simp only [gsc]
    rw [if_pos ⟨h 0, h 1⟩]
theorem rel_0 : Rel (((fun _ => 0), ((fun _ _ => 0), 0, nI 8), ((fun _ _ => 0), 0, nI 8), (0, 0, (fun _ _ _ => 0), (fun _ => 0), (fun _ => nI 8))), ((fun _ _ => 0), 0, nI 8), ((fun _ => 0), (fun _ => 0), 0, -1), ((fun _ => 0), ((fun _ _ => 0), 0, nI 8), (fun _ _ => 0), (fun _ _ => 0))) (upd (fun _ => 0) 9 (-1)) (upr (fun _ _ => 0) 1 (upd (fun _ => 0) 1 8)) := by
  have hg : gscale (fun _ _ => 0) 0 = 8 := dem0 8
  refine ⟨⟨by decide, fun i hi => absurd hi (Nat.not_lt_zero _), by rw [hg]; decide, by rw [hg], rfl, rfl, fun k hk j hj => absurd hj (Nat.not_lt_zero _)⟩, by decide, by decide, by decide, rfl, fun j hj => Nat.zero_le 8, fun j hj => absurd hj (Nat.not_lt_zero _), by decide, rfl, fun h => absurd rfl h, by decide, rfl, fun i hi => absurd hi (Nat.not_lt_zero _), rfl, by decide, rfl, rfl, rfl, rfl, rfl, fun i hi => (by decide : ¬ (0 : Int32) < 0), fun h => absurd rfl h⟩
set_option maxHeartbeats 4000000 in
set_option maxRecDepth 100000 in
theorem whole_start {p : Program} {e : Env} {s : State} {m : MethodId} {below : List Frame} {meth : Method} {c : Code} (l : Launch) (hflags : l.flags = flags0) {b L : Nat} {xs : Nat → Int32} (hL : L ≤ 3584) (C0 : lw_At p s m meth c b L xs) : W p l e room_1 s m #[Value.ref b] below meth c s.heap [] 0 0 (lw_Z below #[Value.ref b] s) (entryFrame m ([Value.ref b] : List Value).toArray 9) := by
  obtain ⟨hx, hb, hr, hml, hown, hts0, hX, hbl, hlocks, hgv⟩ := id C0
  obtain ⟨dC, dI, cy, hE, hXV, hZ, hV, hN⟩ := start_facts hts0 hgv
  have hst : l.stackTraces = false := by unfold Launch.stackTraces; rw [hflags]; decide
  have hts : ∀ w ∈ wnL_law, w.before #[Value.ref b] s = true := fun w h => hts0 w (wsL_law_in w h)
  have hK := hE.1
  have hA : ∀ q : Nat, s.heap.size ≤ q → AL s q := fun _ h => h
  have hS : va_S (AL s) s.heap s.heap [] := va_S.rf
  have hP : va_P (dC, dI) vwCl [] s.heap := fun k q h => by simp at h
  have hD : va_D (AL s) [] := ⟨fun i j p q h => by simp at h, fun k q h => by simp at h⟩
  have hl := lv_entry ([.ref b]) (n := 9) (Nat.le_of_ble_eq_true rfl)
  rw [lg_entry_eq]
  generalize (lg_sl ([.ref b]) ++ List.replicate (9 - (lg_sl ([.ref b])).length) Slot.unset).toArray = ls at hl ⊢
  have hl : lv_has ls 9 [(0, .ref b)] := hl
  have hb : c.code = cL_law := hb
  have hown : s.vm.findClass RL = some m.cls := hown
  refine va_new (ci := 4) (fs := [.null, .null, .null, .null, .null, .null, .int 0, .int 0, .int 0, .int 0, .int 0, .int 0]) (C := RX4) (T := TX4) (N := 12) hx hb hts inlX4 tyX4 tyX4_ok hown (hts (.classLink RL 8 RX4) (wm 0 rfl)) (hts (.instantiable RX4 12) (wm 1 rfl)) (hts (.initialized RX4) (wm 2 rfl)) hK hP hD hS hA rfl (fun j hj => by rcases (show j = 0 ∨ j = 1 ∨ j = 2 ∨ j = 3 ∨ j = 4 ∨ j = 5 ∨ j = 6 ∨ j = 7 ∨ j = 8 ∨ j = 9 ∨ j = 10 ∨ j = 11 by omega) with rfl | rfl | rfl | rfl | rfl | rfl | rfl | rfl | rfl | rfl | rfl | rfl <;> rfl) (Nat.le_of_ble_eq_true rfl) (Nat.le_of_ble_eq_true rfl) dL_law_0 (fun d0 H hP hD hS => ?_)
  have hP : va_P (dC, dI) vwCl ([(d0, .inr (4, [.null, .null, .null, .null, .null, .null, .int 0, .int 0, .int 0, .int 0, .int 0, .int 0]))]) H := hP
  have hD : va_D (AL s) ([(d0, .inr (4, [.null, .null, .null, .null, .null, .null, .int 0, .int 0, .int 0, .int 0, .int 0, .int 0]))]) := hD
  refine lv_dup hx hb dL_law_3 rfl ?_
  have hFc : ∀ q, va_A ([(d0, .inr (4, [.null, .null, .null, .null, .null, .null, .int 0, .int 0, .int 0, .int 0, .int 0, .int 0]))]) H.size q → AL s q := va_free (wc := [(d0, .inr (4, [.null, .null, .null, .null, .null, .null, .int 0, .int 0, .int 0, .int 0, .int 0, .int 0]))]) hD hS hA [0] rfl
  refine va_callv (va_runI (As := []) (rest := [.ref d0]) ⟨hx, hb, hml, hown, hts⟩ (c_X4_init l dC dI cy H.size d0) (cwI 0 hts gL_law_X4_init rfl rfl rfl (hts (.initialized RX4) (wm 2 rfl)) (hts (.methodLink RL 122 yX4_init) (wm 8 rfl)) (hts (.instanceMethod yX4_init) (wm 9 rfl)) rfl (by decide +kernel) ⟨Nat.le_of_ble_eq_true rfl, Nat.le_of_ble_eq_true rfl⟩) ⟨bl_N, pr_N hP hE hD hN⟩ rfl rfl hl.1 rfl (lv_room (Nat.le_of_ble_eq_true rfl)) dL_law_4 ⟨Nat.le_of_ble_eq_true rfl, Nat.le_of_ble_eq_true rfl⟩) hS (fun q _ h => hFc q h) hFc (fun u t H1 locs ht hvm hw hB hz1 hk1 hS => ?_)
  obtain ⟨o, bc, bt, bv, rg, cs, bs, ta, tb, z, bq, rt⟩ := u
  obtain ⟨hP1, hD1⟩ := hB
  rw [ht] at hP1
  have hB1 : BP (dC, dI) vwCl [wObj d0 o (fun _ => 0), wCfg cy (o 0) bc (fun _ _ => 0) (nI 0) (nI 8), wCfg cy (o 1) bt (fun _ _ => 0) (nI 0) (nI 8), wCfg cy (o 2) bv (fun _ _ => 0) (nI 0) (nI 8), wHis cy (o 3) rg 0 0 cs bs (fun _ _ _ => 0) (fun _ => 0) (fun _ => nI 8), wTxt cy (o 4) ta tb (fun _ => 0) (fun _ => 0) (nI 0) (-1), wSim (o 5) z (fun _ => 0), wCfg cy (z 0) bq (fun _ _ => 0) (nI 0) (nI 8), wArr cy z rt (fun _ _ => 0) (fun _ _ => 0)] H1 := gl_P.mp hP1
  have hD2 : BD (AL s) [wObj d0 o (fun _ => 0), wCfg cy (o 0) bc (fun _ _ => 0) (nI 0) (nI 8), wCfg cy (o 1) bt (fun _ _ => 0) (nI 0) (nI 8), wCfg cy (o 2) bv (fun _ _ => 0) (nI 0) (nI 8), wHis cy (o 3) rg 0 0 cs bs (fun _ _ _ => 0) (fun _ => 0) (fun _ => nI 8), wTxt cy (o 4) ta tb (fun _ => 0) (fun _ => 0) (nI 0) (-1), wSim (o 5) z (fun _ => 0), wCfg cy (z 0) bq (fun _ _ => 0) (nI 0) (nI 8), wArr cy z rt (fun _ _ => 0) (fun _ _ => 0)] := (gl_D.mp hD1).weaken hFc
  have hPK : va_P (dC, dI) vwCl (wK cy (d0, o, bc, bt, bv, rg, cs, bs, ta, tb, z, bq, rt) (((fun _ => 0), ((fun _ _ => 0), 0, nI 8), ((fun _ _ => 0), 0, nI 8), (0, 0, (fun _ _ _ => 0), (fun _ => 0), (fun _ => nI 8))), ((fun _ _ => 0), 0, nI 8), ((fun _ => 0), (fun _ => 0), 0, -1), ((fun _ => 0), ((fun _ _ => 0), 0, nI 8), (fun _ _ => 0), (fun _ _ => 0)))) H1 := gl_P.mpr (hB1.sub (bs' := [wObj d0 o (fun _ => 0), wCfg cy (o 0) bc (fun _ _ => 0) (nI 0) (nI 8), wCfg cy (o 1) bt (fun _ _ => 0) (nI 0) (nI 8), wHis cy (o 3) rg 0 0 cs bs (fun _ _ _ => 0) (fun _ => 0) (fun _ => nI 8), wCfg cy (o 2) bv (fun _ _ => 0) (nI 0) (nI 8), wTxt cy (o 4) ta tb (fun _ => 0) (fun _ => 0) (nI 0) (-1), wSim (o 5) z (fun _ => 0), wCfg cy (z 0) bq (fun _ _ => 0) (nI 0) (nI 8), wArr cy z rt (fun _ _ => 0) (fun _ _ => 0)]) [0, 1, 2, 4, 3, 5, 6, 7, 8] rfl)
  have hDK : va_D (AL s) (wK cy (d0, o, bc, bt, bv, rg, cs, bs, ta, tb, z, bq, rt) (((fun _ => 0), ((fun _ _ => 0), 0, nI 8), ((fun _ _ => 0), 0, nI 8), (0, 0, (fun _ _ _ => 0), (fun _ => 0), (fun _ => nI 8))), ((fun _ _ => 0), 0, nI 8), ((fun _ => 0), (fun _ => 0), 0, -1), ((fun _ => 0), ((fun _ _ => 0), 0, nI 8), (fun _ _ => 0), (fun _ _ => 0)))) := gl_D.mpr (hD2.sub (bs' := [wObj d0 o (fun _ => 0), wCfg cy (o 0) bc (fun _ _ => 0) (nI 0) (nI 8), wCfg cy (o 1) bt (fun _ _ => 0) (nI 0) (nI 8), wHis cy (o 3) rg 0 0 cs bs (fun _ _ _ => 0) (fun _ => 0) (fun _ => nI 8), wCfg cy (o 2) bv (fun _ _ => 0) (nI 0) (nI 8), wTxt cy (o 4) ta tb (fun _ => 0) (fun _ => 0) (nI 0) (-1), wSim (o 5) z (fun _ => 0), wCfg cy (z 0) bq (fun _ _ => 0) (nI 0) (nI 8), wArr cy z rt (fun _ _ => 0) (fun _ _ => 0)]) [0, 1, 2, 4, 3, 5, 6, 7, 8] (by decide) rfl)
  clear hz1 hk1 hP1 hD1 hB1 hD2 hP hD hFc
  generalize H1 = H at hPK hS ⊢
  generalize hKw : wK cy (d0, o, bc, bt, bv, rg, cs, bs, ta, tb, z, bq, rt) (((fun _ => 0), ((fun _ _ => 0), 0, nI 8), ((fun _ _ => 0), 0, nI 8), (0, 0, (fun _ _ _ => 0), (fun _ => 0), (fun _ => nI 8))), ((fun _ _ => 0), 0, nI 8), ((fun _ => 0), (fun _ => 0), 0, -1), ((fun _ => 0), ((fun _ _ => 0), 0, nI 8), (fun _ _ => 0), (fun _ _ => 0))) = K9 at hPK hDK
  refine lv_astore_n (lv' := [(1, .ref d0), (0, .ref b)]) hx hb dL_law_7 rfl hl (by decide) rfl (fun ls hl => ?_)
  refine va_new (ci := 5) (fs := [.int 0, .null, .null, .null, .null, .int 0, .int 0, .null, .int 0, .int 0, .int 0, .int 0, .int 0, .int 0, .int 0, .int 0, .int 0, .int 0, .int 0, .null, .null, .int 0, .null, .int 0, .null, .null, .null, .null, .int 0, .int 0, .int 0, .int 0]) (C := RX5) (T := TX5) (N := 32) hx hb hts inlX5 tyX5 tyX5_ok hown (hts (.classLink RL 123 RX5) (wm 3 rfl)) (hts (.instantiable RX5 32) (wm 4 rfl)) (hts (.initialized RX5) (wm 5 rfl)) hK hPK hDK hS hA rfl (fun j hj => by rcases (show j = 0 ∨ j = 1 ∨ j = 2 ∨ j = 3 ∨ j = 4 ∨ j = 5 ∨ j = 6 ∨ j = 7 ∨ j = 8 ∨ j = 9 ∨ j = 10 ∨ j = 11 ∨ j = 12 ∨ j = 13 ∨ j = 14 ∨ j = 15 ∨ j = 16 ∨ j = 17 ∨ j = 18 ∨ j = 19 ∨ j = 20 ∨ j = 21 ∨ j = 22 ∨ j = 23 ∨ j = 24 ∨ j = 25 ∨ j = 26 ∨ j = 27 ∨ j = 28 ∨ j = 29 ∨ j = 30 ∨ j = 31 by omega) with rfl | rfl | rfl | rfl | rfl | rfl | rfl | rfl | rfl | rfl | rfl | rfl | rfl | rfl | rfl | rfl | rfl | rfl | rfl | rfl | rfl | rfl | rfl | rfl | rfl | rfl | rfl | rfl | rfl | rfl | rfl | rfl <;> rfl) (Nat.le_of_ble_eq_true rfl) (Nat.le_of_ble_eq_true rfl) dL_law_8 (fun m0 H hP hD hS => ?_)
  refine lv_dup hx hb dL_law_11 rfl ?_
  have hB : BP (dC, dI) vwCl [K9, [(m0, .inr (5, [.int 0, .null, .null, .null, .null, .int 0, .int 0, .null, .int 0, .int 0, .int 0, .int 0, .int 0, .int 0, .int 0, .int 0, .int 0, .int 0, .int 0, .null, .null, .int 0, .null, .int 0, .null, .null, .null, .null, .int 0, .int 0, .int 0, .int 0]))]] H := gl_P.mp hP
  have hBD : BD (AL s) [K9, [(m0, .inr (5, [.int 0, .null, .null, .null, .null, .int 0, .int 0, .null, .int 0, .int 0, .int 0, .int 0, .int 0, .int 0, .int 0, .int 0, .int 0, .int 0, .int 0, .null, .null, .int 0, .null, .int 0, .null, .null, .null, .null, .int 0, .int 0, .int 0, .int 0]))]] := gl_D.mp hD
  have hPc : va_P (dC, dI) vwCl ([(m0, .inr (5, [.int 0, .null, .null, .null, .null, .int 0, .int 0, .null, .int 0, .int 0, .int 0, .int 0, .int 0, .int 0, .int 0, .int 0, .int 0, .int 0, .int 0, .null, .null, .int 0, .null, .int 0, .null, .null, .null, .null, .int 0, .int 0, .int 0, .int 0]))]) H := hB _ (List.mem_of_getElem? (i := 1) rfl)
  have hDc : va_D (AL s) ([(m0, .inr (5, [.int 0, .null, .null, .null, .null, .int 0, .int 0, .null, .int 0, .int 0, .int 0, .int 0, .int 0, .int 0, .int 0, .int 0, .int 0, .int 0, .int 0, .null, .null, .int 0, .null, .int 0, .null, .null, .null, .null, .int 0, .int 0, .int 0, .int 0]))]) := hBD.2 _ (List.mem_of_getElem? (i := 1) rfl)
  have hFc : ∀ q, va_A ([(m0, .inr (5, [.int 0, .null, .null, .null, .null, .int 0, .int 0, .null, .int 0, .int 0, .int 0, .int 0, .int 0, .int 0, .int 0, .int 0, .int 0, .int 0, .int 0, .null, .null, .int 0, .null, .int 0, .null, .null, .null, .null, .int 0, .int 0, .int 0, .int 0]))]) H.size q → AL s q := BF (cb := [[(m0, .inr (5, [.int 0, .null, .null, .null, .null, .int 0, .int 0, .null, .int 0, .int 0, .int 0, .int 0, .int 0, .int 0, .int 0, .int 0, .int 0, .int 0, .int 0, .null, .null, .int 0, .null, .int 0, .null, .null, .null, .null, .int 0, .int 0, .int 0, .int 0]))]]) hBD hS hA [1] rfl
  refine va_callv (va_runI (As := []) (rest := [.ref m0]) ⟨hx, hb, hml, hown, hts⟩ (c_X5_init l dC dI cy H.size m0) (cwI 0 hts gL_law_X5_init rfl rfl rfl (hts (.initialized RX5) (wm 5 rfl)) (hts (.methodLink RL 125 yX5_init) (List.mem_append_left _ (List.mem_append_left _ (List.mem_append_left _ (List.mem_append_left _ (List.mem_append_left _ (List.mem_append_left _ (List.mem_append_left _ (List.mem_append_left _ (List.mem_append_left _ (List.mem_append_left _ (List.mem_append_left _ (List.mem_append_left _ (List.mem_append_right _ (List.mem_append_right _ (List.mem_append_left _ (List.mem_of_getElem? (l := wsL_law0_r3) (i := 19) rfl))))))))))))))))) (hts (.instanceMethod yX5_init) (List.mem_append_left _ (List.mem_append_left _ (List.mem_append_left _ (List.mem_append_left _ (List.mem_append_left _ (List.mem_append_left _ (List.mem_append_left _ (List.mem_append_left _ (List.mem_append_left _ (List.mem_append_left _ (List.mem_append_left _ (List.mem_append_left _ (List.mem_append_right _ (List.mem_append_right _ (List.mem_append_left _ (List.mem_of_getElem? (l := wsL_law0_r3) (i := 20) rfl))))))))))))))))) rfl (by decide +kernel) ⟨Nat.le_of_ble_eq_true rfl, Nat.le_of_ble_eq_true rfl⟩) ⟨bl_N, pr_N hPc hE hDc hN⟩ rfl rfl hl.1 rfl (lv_room (Nat.le_of_ble_eq_true rfl)) dL_law_12 ⟨Nat.le_of_ble_eq_true rfl, Nat.le_of_ble_eq_true rfl⟩) hS (fun q _ h => hFc q h) hFc (fun u t H1 locs ht hvm hw hB9 hz1 hk1 hS => ?_)
  obtain ⟨a, rfl⟩ : ∃ a, a = u := ⟨_, rfl⟩
  obtain ⟨hP1, hD1⟩ := hB9
  rw [ht] at hP1
  obtain ⟨hB2, hBD2⟩ := BJ (cb := [[(m0, .inr (5, [.int 0, .null, .null, .null, .null, .int 0, .int 0, .null, .int 0, .int 0, .int 0, .int 0, .int 0, .int 0, .int 0, .int 0, .int 0, .int 0, .int 0, .null, .null, .int 0, .null, .int 0, .null, .null, .null, .null, .int 0, .int 0, .int 0, .int 0]))]]) (rb := [K9]) (nb := [wMdl cy m0 a (upd (fun _ => 0) 9 (-1)) (upr (fun _ _ => 0) 1 (upd (fun _ => 0) 1 8))]) hB hBD [1] [0] rfl rfl (by decide) (by decide) hk1 hFc hP1 hD1
  have hP : va_P (dC, dI) vwCl (K9 ++ wMdl cy m0 a (upd (fun _ => 0) 9 (-1)) (upr (fun _ _ => 0) 1 (upd (fun _ => 0) 1 8))) H1 := gl_P.mpr hB2
  have hD : va_D (AL s) (K9 ++ wMdl cy m0 a (upd (fun _ => 0) 9 (-1)) (upr (fun _ _ => 0) 1 (upd (fun _ => 0) 1 8))) := gl_D.mpr hBD2
  clear hz1 hk1 hP1 hD1 hB hBD hPc hDc hFc hB2 hBD2 hPK hDK
  generalize H1 = H at hP hS ⊢
  refine lv_astore_n (lv' := [(2, .ref m0), (1, .ref d0), (0, .ref b)]) hx hb dL_law_15 rfl hl (by decide) rfl (fun ls hl => ?_)
  refine lv_iconst (v := 1) hx hb dL_law_16 (by decide) ?_
  refine vn_newl hx hb (hts (.arrayClass .long) (wm 6 rfl)) hK 3 rfl hP hD hS hA (Nat.le_of_ble_eq_true rfl) (Nat.le_of_ble_eq_true rfl) dL_law_17 (fun ol H hP hD hS => ?_)
  refine lv_astore_n (lv' := [(3, .ref ol), (2, .ref m0), (1, .ref d0), (0, .ref b)]) hx hb dL_law_19 rfl hl (by decide) rfl (fun ls hl => ?_)
  refine lv_iconst (v := 1) hx hb dL_law_20 (by decide) ?_
  refine vn_newd hx hb (hts (.arrayClass .double) (wm 7 rfl)) hK 4 rfl hP hD hS hA (Nat.le_of_ble_eq_true rfl) (Nat.le_of_ble_eq_true rfl) dL_law_21 (fun od H hP hD hS => ?_)
  have hB : BP (dC, dI) vwCl [K9, wMdl cy m0 a (upd (fun _ => 0) 9 (-1)) (upr (fun _ _ => 0) 1 (upd (fun _ => 0) 1 8)), oL cy ol 0, oD cy od 0] H := gl_P.mp (by
    show va_P (dC, dI) vwCl (K9 ++ (wMdl cy m0 a (upd (fun _ => 0) 9 (-1)) (upr (fun _ _ => 0) 1 (upd (fun _ => 0) 1 8)) ++ (oL cy ol 0 ++ oD cy od 0))) H
    rw [← List.append_assoc, ← List.append_assoc]; exact hP)
  have hBD : BD (AL s) [K9, wMdl cy m0 a (upd (fun _ => 0) 9 (-1)) (upr (fun _ _ => 0) 1 (upd (fun _ => 0) 1 8)), oL cy ol 0, oD cy od 0] := gl_D.mp (by
    show va_D (AL s) (K9 ++ (wMdl cy m0 a (upd (fun _ => 0) 9 (-1)) (upr (fun _ _ => 0) 1 (upd (fun _ => 0) 1 8)) ++ (oL cy ol 0 ++ oD cy od 0)))
    rw [← List.append_assoc, ← List.append_assoc]; exact hD)
  refine lv_astore (lv' := [(4, .ref od), (3, .ref ol), (2, .ref m0), (1, .ref d0), (0, .ref b)]) hx hb dL_law_23 hl (by decide) rfl (fun ls hl => ?_)
  refine lv_iconst (v := 0) hx hb dL_law_25 (by decide) ?_
  refine lv_istore (lv' := [(5, .int 0), (4, .ref od), (3, .ref ol), (2, .ref m0), (1, .ref d0), (0, .ref b)]) hx hb dL_law_26 hl (by decide) rfl (fun ls hl => ?_)
  have hB : BP (dC, dI) vwCl [K9, oL cy ol 0, oD cy od 0, wMdl cy m0 a (upd (fun _ => 0) 9 (-1)) (upr (fun _ _ => 0) 1 (upd (fun _ => 0) 1 8))] H := hB.sub [0, 2, 3, 1] rfl
  have hBD : BD (AL s) [K9, oL cy ol 0, oD cy od 0, wMdl cy m0 a (upd (fun _ => 0) 9 (-1)) (upr (fun _ _ => 0) 1 (upd (fun _ => 0) 1 8))] := hBD.sub [0, 2, 3, 1] (by decide) rfl
  subst hKw
  exact law_loop ⟨hx, hb, hml, hown, hts, hX, hbl, hE, hXV, hZ, hV, hst⟩ hr hlocks hL (κ := (d0, o, bc, bt, bv, rg, cs, bs, ta, tb, z, bq, rt)) 513 0 _ _ _ _ _ 0 0 H _ ls (by omega) (by omega) (Nat.le_of_ble_eq_true rfl) (Nat.le_of_ble_eq_true rfl) rel_0 ⟨hB, hBD, hS⟩ hl

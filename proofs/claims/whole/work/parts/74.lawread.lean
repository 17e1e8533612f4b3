/-! PART 74: the law's own methods: rows, the reads -/
theorem vn_ofH {l : Launch} {y : MethodName} {ws ws' : List Cond} {rm : Room} {Pc : Array Value → State → Prop} {Qc : Array Value → State → Outcome → State → Prop} {mc ms : Nat} {free : Addr → Prop} {cc : ByteArray} {maxL : Nat} {ret : Option FieldType} {hh : List (Nat × Nat × Nat × Nat)}
    (hy : plainName y.cls = true) (hw : ws = Cond.codeWith y cc maxL ret hh :: ws')
    (body : ∀ p e s m args below meth c s₁, BodyLoose p l y (headSpec ws rm) cc maxL ret e s m args below meth c s₁ → c.maxLocals = maxL → Pc args s →
      W p l e (headSpec ws rm).room s m args below meth c s.heap [] 0 0 (MQ below Qc args s mc ms free) (entryFrame m args maxL)) : Met l y ws rm Pc Qc mc ms free := by
  refine MetFree.of_bodyS (code := cc) (maxLocals := maxL) (ret := ret) hy ?_ ?_
  · intro args s m h hn
    obtain ⟨m9, meth, c, hn9, h1, h2, h3, h4, -, h5, h6, -⟩ := Cond.codeWith_spec (atoms_spec (ws := ws) h _ (by rw [hw]; exact List.mem_cons_self))
    cases hn.symm.trans hn9
    exact ⟨meth, c, h1, h2, h3, h4, h5, h6⟩
  · intro p e s m args below meth c s₁ B hml hP _
    have hh0 : s₁.heap = s.heap := by rw [B.state]; rfl
    obtain ⟨t, a1, o, b1, b2, b3⟩ := body p e s m args below meth c s₁ B hml hP s₁ hh0 (Stand.of_body B)
    exact ⟨t, o, a1, b1, b2, ⟨b3.1, b3.2⟩⟩
section VLAST
variable {p : Program} {l : Launch} {e : Env} {R : Room} {s : State} {m : MethodId} {args : Array Value} {below : List Frame} {meth : Method} {c : Code} {H : Heap} {locs : List Loc} {cells slots : Nat} {Q : State → Prop}
variable {cc : ByteArray} {pc a : Nat} {ls : Array Slot} {rest : List Value} {D : va_G} {cl : List vw_C} {A : Nat → Prop} {tys : List (ClassId × FieldType)} {ws : va_W} {H0 : Heap}
theorem vn_one {D : va_G} {cl : List vw_C} {ws : va_W} {H : Heap} {a q0 : Nat} {cA : ClassId} {x y z : vp_A} (ha : ws[q0]? = some (a, .inl (cA, z))) (hP : va_P D cl (ws.set q0 (a, .inl (cA, x))) H) (e : vp_cell cA x = vp_cell cA y) : va_P D cl (ws.set q0 (a, .inl (cA, y))) H := by
  have hl : q0 < ws.length := (List.getElem?_eq_some_iff.mp ha).1
  have h := vn_set hP (List.getElem?_set_self hl) e
  rw [List.set_set] at h
  exact h
/-- a long, or a double, is stored into a row of one -/
theorem vn_last (hexec : p.tables.exec = Jvm.exec) (hb : c.code = cc) (hK : va_K D cl tys s) (hP : va_P D cl ws H) (hD : va_D A ws) (hS : va_S A H0 H locs) (q0 t0 : Nat) {cA : ClassId} {f : Nat → Int64} (ha : ws[q0]? = some (a, .inl (cA, 1, .inr (.inl f)))) (ht : tys[t0]? = some (cA, .long)) {x : Int64} (hdg : decode cc pc = .ok (.lastore, 1))
    (kk : ∀ (H1 : Heap) (locs1 : List Loc), va_P D cl (ws.set q0 (a, .inl (cA, 1, .inr (.inl (fun _ => x))))) H1 → va_D A (ws.set q0 (a, .inl (cA, 1, .inr (.inl (fun _ => x))))) → va_S A H0 H1 locs1 → W p l e R s m args below meth c H1 locs1 cells slots Q (F0 m (pc + 1) ls rest)) : W p l e R s m args below meth c H locs cells slots Q (F0 m pc ls (.long x :: .int 0 :: .ref a :: rest)) := by
  refine va_last hexec hb hK hP hD hS q0 t0 ha ht (i := 0) (by unfold vp_in; decide) hdg (fun H1 locs1 h2 _ h4 => ?_)
  refine kk H1 locs1 (vn_one ha h2 ?_) (hD.set ha) h4
  rw [vp_cell_l, vp_cell_l]
  unfold arrV
  congr 2
  funext j
  have hj : j.val = 0 := by have := j.isLt; omega
  show Value.long (vp_updL f (0 : Int32).toNatClampNeg x j.val) = Value.long x
  rw [hj]
  rfl
theorem vn_dast (hexec : p.tables.exec = Jvm.exec) (hb : c.code = cc) (hK : va_K D cl tys s) (hP : va_P D cl ws H) (hD : va_D A ws) (hS : va_S A H0 H locs) (q0 t0 : Nat) {cA : ClassId} {f : Nat → UInt64} (ha : ws[q0]? = some (a, .inl (cA, 1, .inr (.inr (.inr (.inl f)))))) (ht : tys[t0]? = some (cA, .double)) {x : UInt64} (hdg : decode cc pc = .ok (.dastore, 1))
    (kk : ∀ (H1 : Heap) (locs1 : List Loc), va_P D cl (ws.set q0 (a, .inl (cA, 1, .inr (.inr (.inr (.inl (fun _ => x))))))) H1 → va_D A (ws.set q0 (a, .inl (cA, 1, .inr (.inr (.inr (.inl (fun _ => x))))))) → va_S A H0 H1 locs1 → W p l e R s m args below meth c H1 locs1 cells slots Q (F0 m (pc + 1) ls rest)) : W p l e R s m args below meth c H locs cells slots Q (F0 m pc ls (.double x :: .int 0 :: .ref a :: rest)) := by
  refine va_dast hexec hb hK hP hD hS q0 t0 ha ht (i := 0) (by unfold vp_in; decide) hdg (fun H1 locs1 h2 _ h4 => ?_)
  refine kk H1 locs1 (vn_one ha h2 ?_) (hD.set ha) h4
  unfold vp_cell arrV
  dsimp only
  congr 2
  funext j
  have hj : j.val = 0 := by have := j.isLt; omega
  rw [hj]
  rfl
end VLAST
/-- no exception of the class is another's kind -/
abbrev ncL : List (String × String) := [("java/lang/IllegalArgumentException", "java/lang/IllegalStateException"), ("java/lang/IllegalArgumentException", "java/lang/IndexOutOfBoundsException"), ("java/lang/IllegalArgumentException", "java/lang/UnsupportedOperationException"), ("java/lang/IllegalArgumentException", "java/util/NoSuchElementException"), ("java/lang/IllegalStateException", "java/lang/IllegalArgumentException"), ("java/lang/IllegalStateException", "java/lang/IndexOutOfBoundsException"), ("java/lang/IllegalStateException", "java/lang/UnsupportedOperationException"), ("java/lang/IllegalStateException", "java/util/NoSuchElementException"), ("java/lang/IndexOutOfBoundsException", "java/lang/IllegalArgumentException"), ("java/lang/IndexOutOfBoundsException", "java/lang/IllegalStateException"), ("java/lang/IndexOutOfBoundsException", "java/lang/UnsupportedOperationException"), ("java/lang/IndexOutOfBoundsException", "java/util/NoSuchElementException"), ("java/lang/UnsupportedOperationException", "java/lang/IllegalArgumentException"), ("java/lang/UnsupportedOperationException", "java/lang/IllegalStateException"), ("java/lang/UnsupportedOperationException", "java/lang/IndexOutOfBoundsException"), ("java/lang/UnsupportedOperationException", "java/util/NoSuchElementException"), ("java/util/NoSuchElementException", "java/lang/IllegalArgumentException"), ("java/util/NoSuchElementException", "java/lang/IllegalStateException"), ("java/util/NoSuchElementException", "java/lang/IndexOutOfBoundsException"), ("java/util/NoSuchElementException", "java/lang/UnsupportedOperationException")]
def CV (U : State) : Prop := ∀ x ∈ ncL, va_Nc x.1 x.2 U
theorem CV.warm {s U : State} (hW : s.WarmedH U.vm) (h : CV s) : CV U := fun x hx => va_Nc.moved hW.alike (h x hx)
theorem CV.same {s U : State} (hv : s.vm = U.vm) (h : CV s) : CV U := fun x hx => va_Nc.moved (by rw [hv]; exact Vm.Alike.refl _) (h x hx)
theorem CV.n {U : State} (h : CV U) (i : Nat) {E T : String} (hx : ncL[i]? = some (E, T)) : va_Nc E T U := h (E, T) (List.mem_of_getElem? hx)
section PREL
variable {dC : Nat → ClassId} {dI : Nat → Nat → Nat} {cy : Nat → ClassId} {av : List Value} {W : va_W} {sz : Nat} {s : State} {H : Heap} {A : Nat → Prop} {locs : List Loc}
/-- the start of a method of the law -/
abbrev pL (dC : Nat → ClassId) (dI : Nat → Nat → Nat) (cy : Nat → ClassId) (W : va_W) (sz : Nat) (U : State) : Prop := U.heap.size = sz ∧ va_P (dC, dI) vwCl W U.heap ∧ EV dC dI cy U ∧ va_D (fun _ => True) W ∧ XV U ∧ ZQ (va_A W sz) U U.heap ∧ CV U
theorem bl_L : FrameBlind (va_Pc av (pL dC dI cy W sz)) := fun a U g mk q => ⟨q.1, q.2.1, q.2.2.1, EV.same (s := U) rfl q.2.2.2.1, q.2.2.2.2.1, XV.same (s := U) rfl q.2.2.2.2.2.1, ZQ.same (s := U) rfl q.2.2.2.2.2.2.1, CV.same (s := U) rfl q.2.2.2.2.2.2.2⟩
theorem pr_L (hP : va_P (dC, dI) vwCl W H) (hE : EV dC dI cy s) (hD : va_D A W) (hX : XV s) (hZ : ZQ A s s.heap) (hS : va_S A s.heap H locs) (hF : ∀ q, va_A W H.size q → A q) (hV : CV s) : ∀ U : State, U.heap = H → s.WarmedH U.vm → va_Pc av (pL dC dI cy W H.size) av.toArray U := fun U hU hW => ⟨rfl, by rw [hU], by rw [hU]; exact hP, hE.warm hW, hD.weaken (fun _ _ _ _ => trivial), hX.warm hW, by rw [hU]; exact hZ.go hS hW hF, hV.warm hW⟩
end PREL
set_option maxHeartbeats 1000000 in
set_option maxRecDepth 100000 in
/-- the law's period -/
theorem c_L_period (l : Launch) (hst : l.stackTraces = false) (dC : Nat → ClassId) (dI : Nat → Nat → Nat) (cy : Nat → ClassId) (sz : Nat) (d0 : Nat) (o : Nat → Nat) (F : Nat → Int32) (bc : Nat → Nat) (G : vG) (n : Nat) (hn : n ≤ 8) (sc : Int32) (oq : Nat) (y : Int64) (p0 : Int32) : Met l yL_period wsL_period ({ frames := 8, cells := 1, slots := 6, locals := 124 }) (va_Pc [.ref d0, .int p0, .ref oq] (pL dC dI cy (wObj d0 o F ++ (wCfg cy (o 0) bc G (nI n) sc ++ ([(oq, .inl (cy 3, 1, .inr (.inl (fun _ => y))))]))) sz)) (va_Qi (fun (r : Int32) (z : Int64) => r = cT n p0 ∧ (cT n p0 = 0 → z = (per G p0.toNatClampNeg).toInt64)) (fun (z : Int64) t => va_P (dC, dI) vwCl (wObj d0 o F ++ (wCfg cy (o 0) bc G (nI n) sc ++ ([(oq, .inl (cy 3, 1, .inr (.inl (fun _ => z))))]))) t.heap ∧ va_D (va_A (wObj d0 o F ++ (wCfg cy (o 0) bc G (nI n) sc ++ ([(oq, .inl (cy 3, 1, .inr (.inl (fun _ => y))))]))) sz) (wObj d0 o F ++ (wCfg cy (o 0) bc G (nI n) sc ++ ([(oq, .inl (cy 3, 1, .inr (.inl (fun _ => z))))])))) (va_A (wObj d0 o F ++ (wCfg cy (o 0) bc G (nI n) sc ++ ([(oq, .inl (cy 3, 1, .inr (.inl (fun _ => y))))]))) sz)) 1 6 (va_A (wObj d0 o F ++ (wCfg cy (o 0) bc G (nI n) sc ++ ([(oq, .inl (cy 3, 1, .inr (.inl (fun _ => y))))]))) sz) := by
  refine vn_ofH (cc := cL_period) (maxL := 4) (ret := some .int) (hh := [(0, 9, 12, 28)]) (by decide) rfl ?_
  intro p e s m args below meth c s₁ B hml hv
  obtain ⟨rfl, hsz, hP, hE, hD0, hX, hZ, hV⟩ := hv
  have hK := hE.1
  subst hsz
  have hD := hD0.self (sz := s.heap.size)
  generalize hAe : va_A (wObj d0 o F ++ (wCfg cy (o 0) bc G (nI n) sc ++ ([(oq, .inl (cy 3, 1, .inr (.inl (fun _ => y))))]))) s.heap.size = A at hD hZ ⊢
  have hA : ∀ q : Nat, s.heap.size ≤ q → A q := fun q h => by rw [← hAe]; exact Or.inr h
  have hS : va_S A s.heap s.heap [] := va_S.rf
  have hP : va_P (dC, dI) vwCl (wObj d0 o F ++ (wCfg cy (o 0) bc G (nI n) sc ++ ([(oq, .inl (cy 3, 1, .inr (.inl (fun _ => y))))]))) s.heap := hP
  have hx := B.exec
  have hb := B.bytes
  have hr := B.returns
  have hts := atoms_spec (ws := wsL_period) B.pre
  have hown : s.vm.findClass RL = some m.cls := findClass_of_methodNamed B.named
  have htb := vx_table (x := yL_period) B (hts (.codeWith yL_period cL_period 4 (some .int) [(0, 9, 12, 28)]) (List.mem_of_getElem? (i := 0) rfl))
  have hl := lv_entry ([.ref d0, .int p0, .ref oq]) (n := 4) (Nat.le_of_ble_eq_true rfl)
  rw [lg_entry_eq]
  generalize (lg_sl ([.ref d0, .int p0, .ref oq]) ++ List.replicate (4 - (lg_sl ([.ref d0, .int p0, .ref oq])).length) Slot.unset).toArray = ls at hl ⊢
  have hl : lv_has ls 4 [(0, .ref d0), (1, .int p0), (2, .ref oq)] := hl
  refine lv_aload_n hx hb dL_period_0 rfl (lv_at hl 2 rfl) ?_
  refine lv_iconst (v := 0) hx hb dL_period_1 (by decide) ?_
  refine lv_aload_n hx hb dL_period_2 rfl (lv_at hl 0 rfl) ?_
  refine lv_iload_n hx hb dL_period_3 rfl (lv_at hl 1 rfl) ?_
  refine vx_calli (vx_runV (As := [.int p0]) (rest := [.int 0, .ref oq]) ⟨hx, hb, hml, hown, hts⟩ (c_X4_period l hst dC dI cy s.heap.size d0 o F bc G n hn sc p0) (cwV 1 hts gL_period_X4_period rfl rfl rfl (by decide +kernel) ⟨Nat.le_of_ble_eq_true rfl, Nat.le_of_ble_eq_true rfl⟩) ⟨bl_R, va_recv hK (hP.sub (ws' := wObj d0 o F ++ (wCfg cy (o 0) bc G (nI n) sc)) [0, 1, 2, 3, 4, 5, 6, 7, 8] rfl) (ci := 4) (q0 := 0) rfl rfl, pr_R (hP.sub (ws' := wObj d0 o F ++ (wCfg cy (o 0) bc G (nI n) sc)) [0, 1, 2, 3, 4, 5, 6, 7, 8] rfl) hE hX hZ hS hA⟩ rfl rfl hl.1 rfl (lv_room (Nat.le_of_ble_eq_true rfl)) dL_period_4 ⟨Nat.le_of_ble_eq_true rfl, Nat.le_of_ble_eq_true rfl⟩) hS (fun q _ h => hA q (Nat.le_trans hS.1 h)) (fun q h => hA q (Nat.le_trans hS.1 h)) (fun q _ h => hA q (Nat.le_trans hS.1 h)) (fun E ce q9 u t H1 locs ht hvm hpx hBX hz1 hk1 hS hce hcv hcl => ?_) (fun r u t H1 locs ht hvm hw hB hz1 hk1 hS => ?_)
  · have hP : va_P (dC, dI) vwCl (wObj d0 o F ++ (wCfg cy (o 0) bc G (nI n) sc ++ ([(oq, .inl (cy 3, 1, .inr (.inl (fun _ => y))))]))) H1 := hP.kept (fun k q hk => hk1 q.1 ((hP k q hk).lt) (Nat.not_le.mpr ((hP k q hk).lt)))
    obtain ⟨rfl, hc9⟩ := hBX
    refine vx_catch (name := "java/lang/IndexOutOfBoundsException") hown [] ⟨0, 9, 12, 28⟩ [] (htb.trans rfl) (fun z hz => by simp at hz) (by decide) (by decide) (hts (.classLink RL 28 "java/lang/IndexOutOfBoundsException") (by decide +kernel)) (va_Nw.use rfl (hX.c 2 rfl)) hce hcv hcl ?_
    refine lv_astore_n (lv' := (3, .ref q9) :: [(0, .ref d0), (1, .int p0), (2, .ref oq)]) hx hb dL_period_12 rfl hl (by decide) rfl (fun ls hl => ?_)
    refine lv_iconst (v := 1) hx hb dL_period_13 (by decide) ?_
    exact W.iret (v := 1) hx hb hr (fun t ht hW => ⟨⟨1, y, rfl, ⟨hc9.symm, fun h9 => absurd (hc9.symm.trans h9) (by decide)⟩, by rw [ht]; exact hP, hD⟩, hS.F ht⟩) hS.2.2 dL_period_14
  obtain ⟨hc9, rfl⟩ := hw
  have hP : va_P (dC, dI) vwCl (wObj d0 o F ++ (wCfg cy (o 0) bc G (nI n) sc ++ ([(oq, .inl (cy 3, 1, .inr (.inl (fun _ => y))))]))) H1 := hP.kept (fun k q hk => hk1 q.1 ((hP k q hk).lt) (Nat.not_le.mpr ((hP k q hk).lt)))
  clear hz1 hk1
  generalize H1 = H at hP hS ⊢
  refine lv_i2l hx hb dL_period_7 rfl ?_
  refine vn_last hx hb hK hP hD hS 9 3 rfl rfl dL_period_8 (fun H locs hP hD hS => ?_)
  have hP : va_P (dC, dI) vwCl (wObj d0 o F ++ (wCfg cy (o 0) bc G (nI n) sc ++ ([(oq, .inl (cy 3, 1, .inr (.inl (fun _ => (per G p0.toNatClampNeg).toInt64))))]))) H := hP
  have hD : va_D A (wObj d0 o F ++ (wCfg cy (o 0) bc G (nI n) sc ++ ([(oq, .inl (cy 3, 1, .inr (.inl (fun _ => (per G p0.toNatClampNeg).toInt64))))]))) := hD
  refine lv_goto (tgt := 15) hx hb dL_period_9 (by decide) ?_
  refine lv_iconst (v := 0) hx hb dL_period_15 (by decide) ?_
  exact W.iret (v := 0) hx hb hr (fun t ht hW => ⟨⟨0, _, rfl, ⟨hc9.symm, fun _ => rfl⟩, by rw [ht]; exact hP, hD⟩, hS.F ht⟩) hS.2.2 dL_period_16
set_option maxHeartbeats 1000000 in
set_option maxRecDepth 100000 in
/-- the law's deadline -/
theorem c_L_deadline (l : Launch) (hst : l.stackTraces = false) (dC : Nat → ClassId) (dI : Nat → Nat → Nat) (cy : Nat → ClassId) (sz : Nat) (d0 : Nat) (o : Nat → Nat) (F : Nat → Int32) (bc : Nat → Nat) (G : vG) (n : Nat) (hn : n ≤ 8) (sc : Int32) (oq : Nat) (y : Int64) (p0 : Int32) : Met l yL_deadline wsL_deadline ({ frames := 8, cells := 1, slots := 6, locals := 124 }) (va_Pc [.ref d0, .int p0, .ref oq] (pL dC dI cy (wObj d0 o F ++ (wCfg cy (o 0) bc G (nI n) sc ++ ([(oq, .inl (cy 3, 1, .inr (.inl (fun _ => y))))]))) sz)) (va_Qi (fun (r : Int32) (z : Int64) => r = cT n p0 ∧ (cT n p0 = 0 → z = (G 1 p0.toNatClampNeg).toInt64)) (fun (z : Int64) t => va_P (dC, dI) vwCl (wObj d0 o F ++ (wCfg cy (o 0) bc G (nI n) sc ++ ([(oq, .inl (cy 3, 1, .inr (.inl (fun _ => z))))]))) t.heap ∧ va_D (va_A (wObj d0 o F ++ (wCfg cy (o 0) bc G (nI n) sc ++ ([(oq, .inl (cy 3, 1, .inr (.inl (fun _ => y))))]))) sz) (wObj d0 o F ++ (wCfg cy (o 0) bc G (nI n) sc ++ ([(oq, .inl (cy 3, 1, .inr (.inl (fun _ => z))))])))) (va_A (wObj d0 o F ++ (wCfg cy (o 0) bc G (nI n) sc ++ ([(oq, .inl (cy 3, 1, .inr (.inl (fun _ => y))))]))) sz)) 1 6 (va_A (wObj d0 o F ++ (wCfg cy (o 0) bc G (nI n) sc ++ ([(oq, .inl (cy 3, 1, .inr (.inl (fun _ => y))))]))) sz) := by
  refine vn_ofH (cc := cL_deadline) (maxL := 4) (ret := some .int) (hh := [(0, 9, 12, 28)]) (by decide) rfl ?_
  intro p e s m args below meth c s₁ B hml hv
  obtain ⟨rfl, hsz, hP, hE, hD0, hX, hZ, hV⟩ := hv
  have hK := hE.1
  subst hsz
  have hD := hD0.self (sz := s.heap.size)
  generalize hAe : va_A (wObj d0 o F ++ (wCfg cy (o 0) bc G (nI n) sc ++ ([(oq, .inl (cy 3, 1, .inr (.inl (fun _ => y))))]))) s.heap.size = A at hD hZ ⊢
  have hA : ∀ q : Nat, s.heap.size ≤ q → A q := fun q h => by rw [← hAe]; exact Or.inr h
  have hS : va_S A s.heap s.heap [] := va_S.rf
  have hP : va_P (dC, dI) vwCl (wObj d0 o F ++ (wCfg cy (o 0) bc G (nI n) sc ++ ([(oq, .inl (cy 3, 1, .inr (.inl (fun _ => y))))]))) s.heap := hP
  have hx := B.exec
  have hb := B.bytes
  have hr := B.returns
  have hts := atoms_spec (ws := wsL_deadline) B.pre
  have hown : s.vm.findClass RL = some m.cls := findClass_of_methodNamed B.named
  have htb := vx_table (x := yL_deadline) B (hts (.codeWith yL_deadline cL_deadline 4 (some .int) [(0, 9, 12, 28)]) (List.mem_of_getElem? (i := 0) rfl))
  have hl := lv_entry ([.ref d0, .int p0, .ref oq]) (n := 4) (Nat.le_of_ble_eq_true rfl)
  rw [lg_entry_eq]
  generalize (lg_sl ([.ref d0, .int p0, .ref oq]) ++ List.replicate (4 - (lg_sl ([.ref d0, .int p0, .ref oq])).length) Slot.unset).toArray = ls at hl ⊢
  have hl : lv_has ls 4 [(0, .ref d0), (1, .int p0), (2, .ref oq)] := hl
  refine lv_aload_n hx hb dL_deadline_0 rfl (lv_at hl 2 rfl) ?_
  refine lv_iconst (v := 0) hx hb dL_deadline_1 (by decide) ?_
  refine lv_aload_n hx hb dL_deadline_2 rfl (lv_at hl 0 rfl) ?_
  refine lv_iload_n hx hb dL_deadline_3 rfl (lv_at hl 1 rfl) ?_
  refine vx_calli (vx_runV (As := [.int p0]) (rest := [.int 0, .ref oq]) ⟨hx, hb, hml, hown, hts⟩ (c_X4_deadline l hst dC dI cy s.heap.size d0 o F bc G n hn sc p0) (cwV 1 hts gL_deadline_X4_deadline rfl rfl rfl (by decide +kernel) ⟨Nat.le_of_ble_eq_true rfl, Nat.le_of_ble_eq_true rfl⟩) ⟨bl_R, va_recv hK (hP.sub (ws' := wObj d0 o F ++ (wCfg cy (o 0) bc G (nI n) sc)) [0, 1, 2, 3, 4, 5, 6, 7, 8] rfl) (ci := 4) (q0 := 0) rfl rfl, pr_R (hP.sub (ws' := wObj d0 o F ++ (wCfg cy (o 0) bc G (nI n) sc)) [0, 1, 2, 3, 4, 5, 6, 7, 8] rfl) hE hX hZ hS hA⟩ rfl rfl hl.1 rfl (lv_room (Nat.le_of_ble_eq_true rfl)) dL_deadline_4 ⟨Nat.le_of_ble_eq_true rfl, Nat.le_of_ble_eq_true rfl⟩) hS (fun q _ h => hA q (Nat.le_trans hS.1 h)) (fun q h => hA q (Nat.le_trans hS.1 h)) (fun q _ h => hA q (Nat.le_trans hS.1 h)) (fun E ce q9 u t H1 locs ht hvm hpx hBX hz1 hk1 hS hce hcv hcl => ?_) (fun r u t H1 locs ht hvm hw hB hz1 hk1 hS => ?_)
  · have hP : va_P (dC, dI) vwCl (wObj d0 o F ++ (wCfg cy (o 0) bc G (nI n) sc ++ ([(oq, .inl (cy 3, 1, .inr (.inl (fun _ => y))))]))) H1 := hP.kept (fun k q hk => hk1 q.1 ((hP k q hk).lt) (Nat.not_le.mpr ((hP k q hk).lt)))
    obtain ⟨rfl, hc9⟩ := hBX
    refine vx_catch (name := "java/lang/IndexOutOfBoundsException") hown [] ⟨0, 9, 12, 28⟩ [] (htb.trans rfl) (fun z hz => by simp at hz) (by decide) (by decide) (hts (.classLink RL 28 "java/lang/IndexOutOfBoundsException") (by decide +kernel)) (va_Nw.use rfl (hX.c 2 rfl)) hce hcv hcl ?_
    refine lv_astore_n (lv' := (3, .ref q9) :: [(0, .ref d0), (1, .int p0), (2, .ref oq)]) hx hb dL_deadline_12 rfl hl (by decide) rfl (fun ls hl => ?_)
    refine lv_iconst (v := 1) hx hb dL_deadline_13 (by decide) ?_
    exact W.iret (v := 1) hx hb hr (fun t ht hW => ⟨⟨1, y, rfl, ⟨hc9.symm, fun h9 => absurd (hc9.symm.trans h9) (by decide)⟩, by rw [ht]; exact hP, hD⟩, hS.F ht⟩) hS.2.2 dL_deadline_14
  obtain ⟨hc9, rfl⟩ := hw
  have hP : va_P (dC, dI) vwCl (wObj d0 o F ++ (wCfg cy (o 0) bc G (nI n) sc ++ ([(oq, .inl (cy 3, 1, .inr (.inl (fun _ => y))))]))) H1 := hP.kept (fun k q hk => hk1 q.1 ((hP k q hk).lt) (Nat.not_le.mpr ((hP k q hk).lt)))
  clear hz1 hk1
  generalize H1 = H at hP hS ⊢
  refine lv_i2l hx hb dL_deadline_7 rfl ?_
  refine vn_last hx hb hK hP hD hS 9 3 rfl rfl dL_deadline_8 (fun H locs hP hD hS => ?_)
  have hP : va_P (dC, dI) vwCl (wObj d0 o F ++ (wCfg cy (o 0) bc G (nI n) sc ++ ([(oq, .inl (cy 3, 1, .inr (.inl (fun _ => (G 1 p0.toNatClampNeg).toInt64))))]))) H := hP
  have hD : va_D A (wObj d0 o F ++ (wCfg cy (o 0) bc G (nI n) sc ++ ([(oq, .inl (cy 3, 1, .inr (.inl (fun _ => (G 1 p0.toNatClampNeg).toInt64))))]))) := hD
  refine lv_goto (tgt := 15) hx hb dL_deadline_9 (by decide) ?_
  refine lv_iconst (v := 0) hx hb dL_deadline_15 (by decide) ?_
  exact W.iret (v := 0) hx hb hr (fun t ht hW => ⟨⟨0, _, rfl, ⟨hc9.symm, fun _ => rfl⟩, by rw [ht]; exact hP, hD⟩, hS.F ht⟩) hS.2.2 dL_deadline_16
set_option maxHeartbeats 1000000 in
set_option maxRecDepth 100000 in
/-- the law's virtualDeadline -/
theorem c_L_virtualDeadline (l : Launch) (hst : l.stackTraces = false) (dC : Nat → ClassId) (dI : Nat → Nat → Nat) (cy : Nat → ClassId) (sz : Nat) (d0 : Nat) (o : Nat → Nat) (F : Nat → Int32) (bc : Nat → Nat) (G : vG) (n : Nat) (hn : n ≤ 8) (sc : Int32) (oq : Nat) (y : Int64) (p0 : Int32) : Met l yL_virtualDeadline wsL_virtualDeadline ({ frames := 8, cells := 1, slots := 6, locals := 124 }) (va_Pc [.ref d0, .int p0, .ref oq] (pL dC dI cy (wObj d0 o F ++ (wCfg cy (o 0) bc G (nI n) sc ++ ([(oq, .inl (cy 3, 1, .inr (.inl (fun _ => y))))]))) sz)) (va_Qi (fun (r : Int32) (z : Int64) => r = cT n p0 ∧ (cT n p0 = 0 → z = (vdl G sc p0.toNatClampNeg).toInt64)) (fun (z : Int64) t => va_P (dC, dI) vwCl (wObj d0 o F ++ (wCfg cy (o 0) bc G (nI n) sc ++ ([(oq, .inl (cy 3, 1, .inr (.inl (fun _ => z))))]))) t.heap ∧ va_D (va_A (wObj d0 o F ++ (wCfg cy (o 0) bc G (nI n) sc ++ ([(oq, .inl (cy 3, 1, .inr (.inl (fun _ => y))))]))) sz) (wObj d0 o F ++ (wCfg cy (o 0) bc G (nI n) sc ++ ([(oq, .inl (cy 3, 1, .inr (.inl (fun _ => z))))])))) (va_A (wObj d0 o F ++ (wCfg cy (o 0) bc G (nI n) sc ++ ([(oq, .inl (cy 3, 1, .inr (.inl (fun _ => y))))]))) sz)) 1 6 (va_A (wObj d0 o F ++ (wCfg cy (o 0) bc G (nI n) sc ++ ([(oq, .inl (cy 3, 1, .inr (.inl (fun _ => y))))]))) sz) := by
  refine vn_ofH (cc := cL_virtualDeadline) (maxL := 4) (ret := some .int) (hh := [(0, 9, 12, 28)]) (by decide) rfl ?_
  intro p e s m args below meth c s₁ B hml hv
  obtain ⟨rfl, hsz, hP, hE, hD0, hX, hZ, hV⟩ := hv
  have hK := hE.1
  subst hsz
  have hD := hD0.self (sz := s.heap.size)
  generalize hAe : va_A (wObj d0 o F ++ (wCfg cy (o 0) bc G (nI n) sc ++ ([(oq, .inl (cy 3, 1, .inr (.inl (fun _ => y))))]))) s.heap.size = A at hD hZ ⊢
  have hA : ∀ q : Nat, s.heap.size ≤ q → A q := fun q h => by rw [← hAe]; exact Or.inr h
  have hS : va_S A s.heap s.heap [] := va_S.rf
  have hP : va_P (dC, dI) vwCl (wObj d0 o F ++ (wCfg cy (o 0) bc G (nI n) sc ++ ([(oq, .inl (cy 3, 1, .inr (.inl (fun _ => y))))]))) s.heap := hP
  have hx := B.exec
  have hb := B.bytes
  have hr := B.returns
  have hts := atoms_spec (ws := wsL_virtualDeadline) B.pre
  have hown : s.vm.findClass RL = some m.cls := findClass_of_methodNamed B.named
  have htb := vx_table (x := yL_virtualDeadline) B (hts (.codeWith yL_virtualDeadline cL_virtualDeadline 4 (some .int) [(0, 9, 12, 28)]) (List.mem_of_getElem? (i := 0) rfl))
  have hl := lv_entry ([.ref d0, .int p0, .ref oq]) (n := 4) (Nat.le_of_ble_eq_true rfl)
  rw [lg_entry_eq]
  generalize (lg_sl ([.ref d0, .int p0, .ref oq]) ++ List.replicate (4 - (lg_sl ([.ref d0, .int p0, .ref oq])).length) Slot.unset).toArray = ls at hl ⊢
  have hl : lv_has ls 4 [(0, .ref d0), (1, .int p0), (2, .ref oq)] := hl
  refine lv_aload_n hx hb dL_virtualDeadline_0 rfl (lv_at hl 2 rfl) ?_
  refine lv_iconst (v := 0) hx hb dL_virtualDeadline_1 (by decide) ?_
  refine lv_aload_n hx hb dL_virtualDeadline_2 rfl (lv_at hl 0 rfl) ?_
  refine lv_iload_n hx hb dL_virtualDeadline_3 rfl (lv_at hl 1 rfl) ?_
  refine vx_calli (vx_runV (As := [.int p0]) (rest := [.int 0, .ref oq]) ⟨hx, hb, hml, hown, hts⟩ (c_X4_virtualDeadline l hst dC dI cy s.heap.size d0 o F bc G n hn sc p0) (cwV 1 hts gL_virtualDeadline_X4_virtualDeadline rfl rfl rfl (by decide +kernel) ⟨Nat.le_of_ble_eq_true rfl, Nat.le_of_ble_eq_true rfl⟩) ⟨bl_R, va_recv hK (hP.sub (ws' := wObj d0 o F ++ (wCfg cy (o 0) bc G (nI n) sc)) [0, 1, 2, 3, 4, 5, 6, 7, 8] rfl) (ci := 4) (q0 := 0) rfl rfl, pr_R (hP.sub (ws' := wObj d0 o F ++ (wCfg cy (o 0) bc G (nI n) sc)) [0, 1, 2, 3, 4, 5, 6, 7, 8] rfl) hE hX hZ hS hA⟩ rfl rfl hl.1 rfl (lv_room (Nat.le_of_ble_eq_true rfl)) dL_virtualDeadline_4 ⟨Nat.le_of_ble_eq_true rfl, Nat.le_of_ble_eq_true rfl⟩) hS (fun q _ h => hA q (Nat.le_trans hS.1 h)) (fun q h => hA q (Nat.le_trans hS.1 h)) (fun q _ h => hA q (Nat.le_trans hS.1 h)) (fun E ce q9 u t H1 locs ht hvm hpx hBX hz1 hk1 hS hce hcv hcl => ?_) (fun r u t H1 locs ht hvm hw hB hz1 hk1 hS => ?_)
  · have hP : va_P (dC, dI) vwCl (wObj d0 o F ++ (wCfg cy (o 0) bc G (nI n) sc ++ ([(oq, .inl (cy 3, 1, .inr (.inl (fun _ => y))))]))) H1 := hP.kept (fun k q hk => hk1 q.1 ((hP k q hk).lt) (Nat.not_le.mpr ((hP k q hk).lt)))
    obtain ⟨rfl, hc9⟩ := hBX
    refine vx_catch (name := "java/lang/IndexOutOfBoundsException") hown [] ⟨0, 9, 12, 28⟩ [] (htb.trans rfl) (fun z hz => by simp at hz) (by decide) (by decide) (hts (.classLink RL 28 "java/lang/IndexOutOfBoundsException") (by decide +kernel)) (va_Nw.use rfl (hX.c 2 rfl)) hce hcv hcl ?_
    refine lv_astore_n (lv' := (3, .ref q9) :: [(0, .ref d0), (1, .int p0), (2, .ref oq)]) hx hb dL_virtualDeadline_12 rfl hl (by decide) rfl (fun ls hl => ?_)
    refine lv_iconst (v := 1) hx hb dL_virtualDeadline_13 (by decide) ?_
    exact W.iret (v := 1) hx hb hr (fun t ht hW => ⟨⟨1, y, rfl, ⟨hc9.symm, fun h9 => absurd (hc9.symm.trans h9) (by decide)⟩, by rw [ht]; exact hP, hD⟩, hS.F ht⟩) hS.2.2 dL_virtualDeadline_14
  obtain ⟨hc9, rfl⟩ := hw
  have hP : va_P (dC, dI) vwCl (wObj d0 o F ++ (wCfg cy (o 0) bc G (nI n) sc ++ ([(oq, .inl (cy 3, 1, .inr (.inl (fun _ => y))))]))) H1 := hP.kept (fun k q hk => hk1 q.1 ((hP k q hk).lt) (Nat.not_le.mpr ((hP k q hk).lt)))
  clear hz1 hk1
  generalize H1 = H at hP hS ⊢
  refine lv_i2l hx hb dL_virtualDeadline_7 rfl ?_
  refine vn_last hx hb hK hP hD hS 9 3 rfl rfl dL_virtualDeadline_8 (fun H locs hP hD hS => ?_)
  have hP : va_P (dC, dI) vwCl (wObj d0 o F ++ (wCfg cy (o 0) bc G (nI n) sc ++ ([(oq, .inl (cy 3, 1, .inr (.inl (fun _ => (vdl G sc p0.toNatClampNeg).toInt64))))]))) H := hP
  have hD : va_D A (wObj d0 o F ++ (wCfg cy (o 0) bc G (nI n) sc ++ ([(oq, .inl (cy 3, 1, .inr (.inl (fun _ => (vdl G sc p0.toNatClampNeg).toInt64))))]))) := hD
  refine lv_goto (tgt := 15) hx hb dL_virtualDeadline_9 (by decide) ?_
  refine lv_iconst (v := 0) hx hb dL_virtualDeadline_15 (by decide) ?_
  exact W.iret (v := 0) hx hb hr (fun t ht hW => ⟨⟨0, _, rfl, ⟨hc9.symm, fun _ => rfl⟩, by rw [ht]; exact hP, hD⟩, hS.F ht⟩) hS.2.2 dL_virtualDeadline_16
set_option maxHeartbeats 1000000 in
set_option maxRecDepth 100000 in
/-- the law's level -/
theorem c_L_level (l : Launch) (hst : l.stackTraces = false) (dC : Nat → ClassId) (dI : Nat → Nat → Nat) (cy : Nat → ClassId) (sz : Nat) (d0 : Nat) (o : Nat → Nat) (F : Nat → Int32) (bc : Nat → Nat) (G : vG) (n : Nat) (hn : n ≤ 8) (sc : Int32) (oq : Nat) (y : Int64) (p0 : Int32) : Met l yL_level wsL_level ({ frames := 8, cells := 1, slots := 6, locals := 124 }) (va_Pc [.ref d0, .int p0, .ref oq] (pL dC dI cy (wObj d0 o F ++ (wCfg cy (o 0) bc G (nI n) sc ++ ([(oq, .inl (cy 3, 1, .inr (.inl (fun _ => y))))]))) sz)) (va_Qi (fun (r : Int32) (z : Int64) => r = cT n p0 ∧ (cT n p0 = 0 → z = (G 6 p0.toNatClampNeg).toInt64)) (fun (z : Int64) t => va_P (dC, dI) vwCl (wObj d0 o F ++ (wCfg cy (o 0) bc G (nI n) sc ++ ([(oq, .inl (cy 3, 1, .inr (.inl (fun _ => z))))]))) t.heap ∧ va_D (va_A (wObj d0 o F ++ (wCfg cy (o 0) bc G (nI n) sc ++ ([(oq, .inl (cy 3, 1, .inr (.inl (fun _ => y))))]))) sz) (wObj d0 o F ++ (wCfg cy (o 0) bc G (nI n) sc ++ ([(oq, .inl (cy 3, 1, .inr (.inl (fun _ => z))))])))) (va_A (wObj d0 o F ++ (wCfg cy (o 0) bc G (nI n) sc ++ ([(oq, .inl (cy 3, 1, .inr (.inl (fun _ => y))))]))) sz)) 1 6 (va_A (wObj d0 o F ++ (wCfg cy (o 0) bc G (nI n) sc ++ ([(oq, .inl (cy 3, 1, .inr (.inl (fun _ => y))))]))) sz) := by
  refine vn_ofH (cc := cL_level) (maxL := 4) (ret := some .int) (hh := [(0, 9, 12, 28)]) (by decide) rfl ?_
  intro p e s m args below meth c s₁ B hml hv
  obtain ⟨rfl, hsz, hP, hE, hD0, hX, hZ, hV⟩ := hv
  have hK := hE.1
  subst hsz
  have hD := hD0.self (sz := s.heap.size)
  generalize hAe : va_A (wObj d0 o F ++ (wCfg cy (o 0) bc G (nI n) sc ++ ([(oq, .inl (cy 3, 1, .inr (.inl (fun _ => y))))]))) s.heap.size = A at hD hZ ⊢
  have hA : ∀ q : Nat, s.heap.size ≤ q → A q := fun q h => by rw [← hAe]; exact Or.inr h
  have hS : va_S A s.heap s.heap [] := va_S.rf
  have hP : va_P (dC, dI) vwCl (wObj d0 o F ++ (wCfg cy (o 0) bc G (nI n) sc ++ ([(oq, .inl (cy 3, 1, .inr (.inl (fun _ => y))))]))) s.heap := hP
  have hx := B.exec
  have hb := B.bytes
  have hr := B.returns
  have hts := atoms_spec (ws := wsL_level) B.pre
  have hown : s.vm.findClass RL = some m.cls := findClass_of_methodNamed B.named
  have htb := vx_table (x := yL_level) B (hts (.codeWith yL_level cL_level 4 (some .int) [(0, 9, 12, 28)]) (List.mem_of_getElem? (i := 0) rfl))
  have hl := lv_entry ([.ref d0, .int p0, .ref oq]) (n := 4) (Nat.le_of_ble_eq_true rfl)
  rw [lg_entry_eq]
  generalize (lg_sl ([.ref d0, .int p0, .ref oq]) ++ List.replicate (4 - (lg_sl ([.ref d0, .int p0, .ref oq])).length) Slot.unset).toArray = ls at hl ⊢
  have hl : lv_has ls 4 [(0, .ref d0), (1, .int p0), (2, .ref oq)] := hl
  refine lv_aload_n hx hb dL_level_0 rfl (lv_at hl 2 rfl) ?_
  refine lv_iconst (v := 0) hx hb dL_level_1 (by decide) ?_
  refine lv_aload_n hx hb dL_level_2 rfl (lv_at hl 0 rfl) ?_
  refine lv_iload_n hx hb dL_level_3 rfl (lv_at hl 1 rfl) ?_
  refine vx_calli (vx_runV (As := [.int p0]) (rest := [.int 0, .ref oq]) ⟨hx, hb, hml, hown, hts⟩ (c_X4_level l hst dC dI cy s.heap.size d0 o F bc G n hn sc p0) (cwV 1 hts gL_level_X4_level rfl rfl rfl (by decide +kernel) ⟨Nat.le_of_ble_eq_true rfl, Nat.le_of_ble_eq_true rfl⟩) ⟨bl_R, va_recv hK (hP.sub (ws' := wObj d0 o F ++ (wCfg cy (o 0) bc G (nI n) sc)) [0, 1, 2, 3, 4, 5, 6, 7, 8] rfl) (ci := 4) (q0 := 0) rfl rfl, pr_R (hP.sub (ws' := wObj d0 o F ++ (wCfg cy (o 0) bc G (nI n) sc)) [0, 1, 2, 3, 4, 5, 6, 7, 8] rfl) hE hX hZ hS hA⟩ rfl rfl hl.1 rfl (lv_room (Nat.le_of_ble_eq_true rfl)) dL_level_4 ⟨Nat.le_of_ble_eq_true rfl, Nat.le_of_ble_eq_true rfl⟩) hS (fun q _ h => hA q (Nat.le_trans hS.1 h)) (fun q h => hA q (Nat.le_trans hS.1 h)) (fun q _ h => hA q (Nat.le_trans hS.1 h)) (fun E ce q9 u t H1 locs ht hvm hpx hBX hz1 hk1 hS hce hcv hcl => ?_) (fun r u t H1 locs ht hvm hw hB hz1 hk1 hS => ?_)
  · have hP : va_P (dC, dI) vwCl (wObj d0 o F ++ (wCfg cy (o 0) bc G (nI n) sc ++ ([(oq, .inl (cy 3, 1, .inr (.inl (fun _ => y))))]))) H1 := hP.kept (fun k q hk => hk1 q.1 ((hP k q hk).lt) (Nat.not_le.mpr ((hP k q hk).lt)))
    obtain ⟨rfl, hc9⟩ := hBX
    refine vx_catch (name := "java/lang/IndexOutOfBoundsException") hown [] ⟨0, 9, 12, 28⟩ [] (htb.trans rfl) (fun z hz => by simp at hz) (by decide) (by decide) (hts (.classLink RL 28 "java/lang/IndexOutOfBoundsException") (by decide +kernel)) (va_Nw.use rfl (hX.c 2 rfl)) hce hcv hcl ?_
    refine lv_astore_n (lv' := (3, .ref q9) :: [(0, .ref d0), (1, .int p0), (2, .ref oq)]) hx hb dL_level_12 rfl hl (by decide) rfl (fun ls hl => ?_)
    refine lv_iconst (v := 1) hx hb dL_level_13 (by decide) ?_
    exact W.iret (v := 1) hx hb hr (fun t ht hW => ⟨⟨1, y, rfl, ⟨hc9.symm, fun h9 => absurd (hc9.symm.trans h9) (by decide)⟩, by rw [ht]; exact hP, hD⟩, hS.F ht⟩) hS.2.2 dL_level_14
  obtain ⟨hc9, rfl⟩ := hw
  have hP : va_P (dC, dI) vwCl (wObj d0 o F ++ (wCfg cy (o 0) bc G (nI n) sc ++ ([(oq, .inl (cy 3, 1, .inr (.inl (fun _ => y))))]))) H1 := hP.kept (fun k q hk => hk1 q.1 ((hP k q hk).lt) (Nat.not_le.mpr ((hP k q hk).lt)))
  clear hz1 hk1
  generalize H1 = H at hP hS ⊢
  refine lv_i2l hx hb dL_level_7 rfl ?_
  refine vn_last hx hb hK hP hD hS 9 3 rfl rfl dL_level_8 (fun H locs hP hD hS => ?_)
  have hP : va_P (dC, dI) vwCl (wObj d0 o F ++ (wCfg cy (o 0) bc G (nI n) sc ++ ([(oq, .inl (cy 3, 1, .inr (.inl (fun _ => (G 6 p0.toNatClampNeg).toInt64))))]))) H := hP
  have hD : va_D A (wObj d0 o F ++ (wCfg cy (o 0) bc G (nI n) sc ++ ([(oq, .inl (cy 3, 1, .inr (.inl (fun _ => (G 6 p0.toNatClampNeg).toInt64))))]))) := hD
  refine lv_goto (tgt := 15) hx hb dL_level_9 (by decide) ?_
  refine lv_iconst (v := 0) hx hb dL_level_15 (by decide) ?_
  exact W.iret (v := 0) hx hb hr (fun t ht hW => ⟨⟨0, _, rfl, ⟨hc9.symm, fun _ => rfl⟩, by rw [ht]; exact hP, hD⟩, hS.F ht⟩) hS.2.2 dL_level_16

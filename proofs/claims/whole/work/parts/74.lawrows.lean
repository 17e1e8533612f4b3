/-! PART 74: the law's own methods: rows -/
theorem vn_ofH {l : Launch} {y : MethodName} {ws ws' : List Cond} {rm : Room} {Pc : Array Value → State → Prop} {Qc : Array Value → State → Outcome → State → Prop} {mc ms : Nat} {free : Addr → Prop} {cc : ByteArray} {maxL : Nat} {ret : Option FieldType} {hh : List (Nat × Nat × Nat × Nat)}
    (hy : plainName y.cls = true) (hw : ws = Cond.codeWith y cc maxL ret hh :: ws')
    (body : ∀ p e s m args below meth c s₁, BodyLoose p l y (headSpec ws rm) cc maxL ret e s m args below meth c s₁ → c.maxLocals = maxL → Pc args s →
      W p l e (headSpec ws rm).room s m args below meth c s.heap [] 0 0 (MQ below Qc args s mc ms free) (entryFrame m args maxL)) : Met l y ws rm Pc Qc mc ms free := by
  refine MetFree.of_bodyS (code := cc) (maxLocals := maxL) (ret := ret) hy ?_ ?_
  · intro args s m h hn
    obtain ⟨m9, meth, c, hn9, h1, h2, h3, h4, -, h5, h6, -⟩ := Cond.codeWith_spec (atoms_spec (ws := ws) h _ (by rw [hw]; exact List.mem_cons_self))
    cases hn.symm.trans hn9
    exact ⟨meth, c, h1, h2, h3, h4, h5, h6⟩
  · intro p e s m args below meth c s₁ B hml hP _
    have hh0 : s₁.heap = s.heap := by rw [B.state]; rfl
    obtain ⟨t, a1, o, b1, b2, b3⟩ := body p e s m args below meth c s₁ B hml hP s₁ hh0 (Stand.of_body B)
    exact ⟨t, o, a1, b1, b2, ⟨b3.1, b3.2⟩⟩
section VLAST
variable {p : Program} {l : Launch} {e : Env} {R : Room} {s : State} {m : MethodId} {args : Array Value} {below : List Frame} {meth : Method} {c : Code} {H : Heap} {locs : List Loc} {cells slots : Nat} {Q : State → Prop}
variable {cc : ByteArray} {pc a : Nat} {ls : Array Slot} {rest : List Value} {D : va_G} {cl : List vw_C} {A : Nat → Prop} {tys : List (ClassId × FieldType)} {ws : va_W} {H0 : Heap}
theorem vn_snoc {ws : va_W} {q : Nat × va_E} : (ws ++ [q])[ws.length]? = some q := by
  rw [List.getElem?_append_right (Nat.le_refl _), Nat.sub_self]; rfl
theorem vn_sets {ws : va_W} {q q' : Nat × va_E} : (ws ++ [q]).set ws.length q' = ws ++ [q'] := by
  rw [List.set_append_right _ _ (Nat.le_refl _), Nat.sub_self]; rfl
theorem vn_one {D : va_G} {cl : List vw_C} {ws : va_W} {H : Heap} {a : Nat} {cA : ClassId} {x y : vp_A} (hP : va_P D cl (ws ++ [(a, .inl (cA, x))]) H) (e : vp_cell cA x = vp_cell cA y) : va_P D cl (ws ++ [(a, .inl (cA, y))]) H := by
  have h := vn_set hP vn_snoc e
  rw [vn_sets] at h
  exact h
/-- a long, or a double, is stored into a row of one -/
theorem vn_last (hexec : p.tables.exec = Jvm.exec) (hb : c.code = cc) (hK : va_K D cl tys s) {cA : ClassId} {f : Nat → Int64} (hP : va_P D cl (ws ++ [(a, .inl (cA, 1, .inr (.inl f)))]) H) (hD : va_D A (ws ++ [(a, .inl (cA, 1, .inr (.inl f)))])) (hS : va_S A H0 H locs) (t0 : Nat) (ht : tys[t0]? = some (cA, .long)) {x : Int64} (hdg : decode cc pc = .ok (.lastore, 1))
    (kk : ∀ (H1 : Heap) (locs1 : List Loc), va_P D cl (ws ++ [(a, .inl (cA, 1, .inr (.inl (fun _ => x))))]) H1 → va_D A (ws ++ [(a, .inl (cA, 1, .inr (.inl (fun _ => x))))]) → va_S A H0 H1 locs1 → W p l e R s m args below meth c H1 locs1 cells slots Q (F0 m (pc + 1) ls rest)) : W p l e R s m args below meth c H locs cells slots Q (F0 m pc ls (.long x :: .int 0 :: .ref a :: rest)) := by
  refine va_last hexec hb hK hP hD hS ws.length t0 vn_snoc ht (i := 0) (by unfold vp_in; decide) hdg (fun H1 locs1 h2 h3 h4 => ?_)
  rw [vn_sets] at h2
  have h5 := hD.set (e := .inl (cA, 1, .inr (.inl (fun _ => x)))) vn_snoc
  rw [vn_sets] at h5
  refine kk H1 locs1 (vn_one h2 ?_) h5 h4
  rw [vp_cell_l, vp_cell_l]
  unfold arrV
  congr 2
  funext j
  have hj : j.val = 0 := by have := j.isLt; omega
  show Value.long (vp_updL f (0 : Int32).toNatClampNeg x j.val) = Value.long x
  rw [hj]
  rfl
theorem vn_dast (hexec : p.tables.exec = Jvm.exec) (hb : c.code = cc) (hK : va_K D cl tys s) {cA : ClassId} {f : Nat → UInt64} (hP : va_P D cl (ws ++ [(a, .inl (cA, 1, .inr (.inr (.inr (.inl f)))))]) H) (hD : va_D A (ws ++ [(a, .inl (cA, 1, .inr (.inr (.inr (.inl f)))))])) (hS : va_S A H0 H locs) (t0 : Nat) (ht : tys[t0]? = some (cA, .double)) {x : UInt64} (hdg : decode cc pc = .ok (.dastore, 1))
    (kk : ∀ (H1 : Heap) (locs1 : List Loc), va_P D cl (ws ++ [(a, .inl (cA, 1, .inr (.inr (.inr (.inl (fun _ => x))))))]) H1 → va_D A (ws ++ [(a, .inl (cA, 1, .inr (.inr (.inr (.inl (fun _ => x))))))]) → va_S A H0 H1 locs1 → W p l e R s m args below meth c H1 locs1 cells slots Q (F0 m (pc + 1) ls rest)) : W p l e R s m args below meth c H locs cells slots Q (F0 m pc ls (.double x :: .int 0 :: .ref a :: rest)) := by
  refine va_dast hexec hb hK hP hD hS ws.length t0 vn_snoc ht (i := 0) (by unfold vp_in; decide) hdg (fun H1 locs1 h2 h3 h4 => ?_)
  rw [vn_sets] at h2
  have h5 := hD.set (e := .inl (cA, 1, .inr (.inr (.inr (.inl (fun _ => x)))))) vn_snoc
  rw [vn_sets] at h5
  refine kk H1 locs1 (vn_one h2 ?_) h5 h4
  unfold vp_cell arrV
  dsimp only
  congr 2
  funext j
  have hj : j.val = 0 := by have := j.isLt; omega
  rw [hj]
  rfl
end VLAST
/-- no exception of the class is another's kind -/
abbrev ncL : List (String × String) := [("java/lang/IllegalArgumentException", "java/lang/IllegalStateException"), ("java/lang/IllegalArgumentException", "java/lang/IndexOutOfBoundsException"), ("java/lang/IllegalArgumentException", "java/lang/UnsupportedOperationException"), ("java/lang/IllegalArgumentException", "java/util/NoSuchElementException"), ("java/lang/IllegalStateException", "java/lang/IllegalArgumentException"), ("java/lang/IllegalStateException", "java/lang/IndexOutOfBoundsException"), ("java/lang/IllegalStateException", "java/lang/UnsupportedOperationException"), ("java/lang/IllegalStateException", "java/util/NoSuchElementException"), ("java/lang/IndexOutOfBoundsException", "java/lang/IllegalArgumentException"), ("java/lang/IndexOutOfBoundsException", "java/lang/IllegalStateException"), ("java/lang/IndexOutOfBoundsException", "java/lang/UnsupportedOperationException"), ("java/lang/IndexOutOfBoundsException", "java/util/NoSuchElementException"), ("java/lang/UnsupportedOperationException", "java/lang/IllegalArgumentException"), ("java/lang/UnsupportedOperationException", "java/lang/IllegalStateException"), ("java/lang/UnsupportedOperationException", "java/lang/IndexOutOfBoundsException"), ("java/lang/UnsupportedOperationException", "java/util/NoSuchElementException"), ("java/util/NoSuchElementException", "java/lang/IllegalArgumentException"), ("java/util/NoSuchElementException", "java/lang/IllegalStateException"), ("java/util/NoSuchElementException", "java/lang/IndexOutOfBoundsException"), ("java/util/NoSuchElementException", "java/lang/UnsupportedOperationException")]
def CV (U : State) : Prop := ∀ x ∈ ncL, va_Nc x.1 x.2 U
theorem CV.warm {s U : State} (hW : s.WarmedH U.vm) (h : CV s) : CV U := fun x hx => va_Nc.moved hW.alike (h x hx)
theorem CV.same {s U : State} (hv : s.vm = U.vm) (h : CV s) : CV U := fun x hx => va_Nc.moved (by rw [hv]; exact Vm.Alike.refl _) (h x hx)
theorem CV.n {U : State} (h : CV U) (i : Nat) {E T : String} (hx : ncL[i]? = some (E, T)) : va_Nc E T U := h (E, T) (List.mem_of_getElem? hx)
section PREL
variable {dC : Nat → ClassId} {dI : Nat → Nat → Nat} {cy : Nat → ClassId} {av : List Value} {W : va_W} {sz : Nat} {s : State} {H : Heap} {A : Nat → Prop} {locs : List Loc}
/-- the start of a method of the law -/
abbrev pL (dC : Nat → ClassId) (dI : Nat → Nat → Nat) (cy : Nat → ClassId) (W : va_W) (sz : Nat) (U : State) : Prop := U.heap.size = sz ∧ va_P (dC, dI) vwCl W U.heap ∧ EV dC dI cy U ∧ va_D (fun _ => True) W ∧ XV U ∧ ZQ (va_A W sz) U U.heap ∧ CV U
theorem bl_L : FrameBlind (va_Pc av (pL dC dI cy W sz)) := fun a U g mk q => ⟨q.1, q.2.1, q.2.2.1, EV.same (s := U) rfl q.2.2.2.1, q.2.2.2.2.1, XV.same (s := U) rfl q.2.2.2.2.2.1, ZQ.same (s := U) rfl q.2.2.2.2.2.2.1, CV.same (s := U) rfl q.2.2.2.2.2.2.2⟩
theorem pr_L (hP : va_P (dC, dI) vwCl W H) (hE : EV dC dI cy s) (hD : va_D A W) (hX : XV s) (hZ : ZQ A s s.heap) (hS : va_S A s.heap H locs) (hF : ∀ q, va_A W H.size q → A q) (hV : CV s) : ∀ U : State, U.heap = H → s.WarmedH U.vm → va_Pc av (pL dC dI cy W H.size) av.toArray U := fun U hU hW => ⟨rfl, by rw [hU], by rw [hU]; exact hP, hE.warm hW, hD.weaken (fun _ _ _ _ => trivial), hX.warm hW, by rw [hU]; exact hZ.go hS hW hF, hV.warm hW⟩
end PREL
/-- where the class's cells lie -/
abbrev KA : Type := Nat × (Nat → Nat) × (Nat → Nat) × (Nat → Nat) × (Nat → Nat) × Nat × (Nat → Nat) × (Nat → Nat → Nat) × Nat × Nat × (Nat → Nat) × (Nat → Nat) × (Nat → Nat)
/-- the whole state of the class: object, current, trial, ring; saved; text; simulation -/
abbrev CS : Type := AdmS × (vG × Nat × Int32) × ((Nat → Int32) × (Nat → Int32) × Nat × Int32) × ((Nat → Int32) × (vG × Nat × Int32) × vG × vG)
def bK (cy : Nat → ClassId) (κ : KA) (σ : CS) : List va_W := match κ, σ with
  | (d0, o, bc, bt, bv, rg, cs, bs, ta, tb, z, bq, rt), ((F, (G, n, sc), (Gt, nt, sct), (x, kk, RG, rn, RS)), (Gv, nv9, scv), (C, N, L, fl), (M, (Gz, nz, scz), Q, T)) => [wObj d0 o F, wCfg cy (o 0) bc G (nI n) sc, wCfg cy (o 1) bt Gt (nI nt) sct, wHis cy (o 3) rg x kk cs bs RG rn RS, wCfg cy (o 2) bv Gv (nI nv9) scv, wTxt cy (o 4) ta tb C N (nI L) fl, wSim (o 5) z M, wCfg cy (z 0) bq Gz (nI nz) scz, wArr cy z rt Q T]
def wK (cy : Nat → ClassId) (κ : KA) (σ : CS) : va_W := glue (bK cy κ σ)
abbrev oL (cy : Nat → ClassId) (oq : Nat) (y : Int64) : va_W := [(oq, .inl (cy 3, 1, .inr (.inl (fun _ => y))))]
abbrev oD (cy : Nat → ClassId) (oq : Nat) (y : UInt64) : va_W := [(oq, .inl (cy 4, 1, .inr (.inr (.inr (.inl (fun _ => y))))))]
theorem wK_snoc (cy : Nat → ClassId) (κ : KA) (σ : CS) (o9 : va_W) : glue (bK cy κ σ ++ [o9]) = wK cy κ σ ++ o9 := by
  obtain ⟨d0, o, bc, bt, bv, rg, cs, bs, ta, tb, z, bq, rt⟩ := κ
  obtain ⟨⟨F, ⟨G, n, sc⟩, ⟨Gt, nt, sct⟩, x, kk, RG, rn, RS⟩, ⟨Gv, nv9, scv⟩, ⟨C, N, L, fl⟩, M, ⟨Gz, nz, scz⟩, Q, T⟩ := σ
  exact glue_snoc _ _ _
theorem wKo_P {dC : Nat → ClassId} {dI : Nat → Nat → Nat} {cy : Nat → ClassId} {κ : KA} {σ : CS} {o9 : va_W} {H : Heap} : va_P (dC, dI) vwCl (wK cy κ σ ++ o9) H ↔ BP (dC, dI) vwCl (bK cy κ σ ++ [o9]) H := by
  rw [← wK_snoc]; exact gl_P
theorem wKo_D {A : Nat → Prop} {cy : Nat → ClassId} {κ : KA} {σ : CS} {o9 : va_W} : va_D A (wK cy κ σ ++ o9) ↔ BD A (bK cy κ σ ++ [o9]) := by
  rw [← wK_snoc]; exact gl_D
/-- what the class's methods want of its state -/
def KOk (σ : CS) : Prop := match σ with
  | ((F, (G, n, sc), (Gt, nt, sct), (x, kk, RG, rn, RS)), (Gv, nv9, scv), (C, N, L, fl), (M, (Gz, nz, scz), Q, T)) => n ≤ 8 ∧ nt ≤ 8 ∧ x < 6 ∧ kk ≤ 6 ∧ (∀ j, j < 6 → rn j ≤ 8) ∧ nv9 ≤ 8 ∧ L ≤ 30 ∧ nz ≤ 8 ∧ okG G n ∧ scOk sc ∧ dok G n sc 0 ∧ dok G n sc 1 ∧ (∀ i, i < 8 → ¬ Q 5 i < 0)
/-- a method of the law that puts its answer into the row of longs, or of doubles -/
def metL (l : Launch) (yy : MethodName) (ws : List Cond) (rm : Room) (av : List Value) (dC : Nat → ClassId) (dI : Nat → Nat → Nat) (cy : Nat → ClassId) (κ : KA) (oq sz : Nat) (σ : CS) (y : Int64) (post : Int32 → CS × Int64 → Prop) (mc ms : Nat) : Prop :=
  Met l yy ws rm (va_Pc av (pL dC dI cy (wK cy κ σ ++ oL cy oq y) sz)) (va_Qi post (fun (u : CS × Int64) t => va_P (dC, dI) vwCl (wK cy κ u.1 ++ oL cy oq u.2) t.heap ∧ va_D (va_A (wK cy κ σ ++ oL cy oq y) sz) (wK cy κ u.1 ++ oL cy oq u.2)) (va_A (wK cy κ σ ++ oL cy oq y) sz)) mc ms (va_A (wK cy κ σ ++ oL cy oq y) sz)
def metD (l : Launch) (yy : MethodName) (ws : List Cond) (rm : Room) (av : List Value) (dC : Nat → ClassId) (dI : Nat → Nat → Nat) (cy : Nat → ClassId) (κ : KA) (oq sz : Nat) (σ : CS) (y : UInt64) (post : Int32 → CS × UInt64 → Prop) (mc ms : Nat) : Prop :=
  Met l yy ws rm (va_Pc av (pL dC dI cy (wK cy κ σ ++ oD cy oq y) sz)) (va_Qi post (fun (u : CS × UInt64) t => va_P (dC, dI) vwCl (wK cy κ u.1 ++ oD cy oq u.2) t.heap ∧ va_D (va_A (wK cy κ σ ++ oD cy oq y) sz) (wK cy κ u.1 ++ oD cy oq u.2)) (va_A (wK cy κ σ ++ oD cy oq y) sz)) mc ms (va_A (wK cy κ σ ++ oD cy oq y) sz)
/-- a read: nothing changes but the row -/
def rdL (σ : CS) (code : Int32) (val : Int64) (r : Int32) (u : CS × Int64) : Prop := u.1 = σ ∧ r = code ∧ (code = 0 → u.2 = val)
def rdD (σ : CS) (code : Int32) (val : UInt64) (r : Int32) (u : CS × UInt64) : Prop := u.1 = σ ∧ r = code ∧ (code = 0 → u.2 = val)
/-- a change: it throws nothing and does what post says, or throws -/
def wrL (σ : CS) (post : Int32 → CS → Prop) (xp : Int32 → CS → Prop) (r : Int32) (u : CS × Int64) : Prop := (r = 0 ∧ ∃ v, post v u.1 ∧ u.2 = v.toInt64) ∨ (¬ r = 0 ∧ xp r u.1)
def b2l (r : Int32) : Int64 := if r = 0 then 0 else 1
theorem f2d_n {x : UInt32} (h : pn32 x) : vf_n64 (FP.f2d x) := by
  have hf := pn32_fin h
  rw [FP.f2d_core ((FP.Core.notNaN_iff32 x).mpr (fun z => by
    obtain ⟨s, c, q, e⟩ := hf
    rw [e] at z
    cases z))]
  exact nn64 (FP.Core.f2d_fin hf)

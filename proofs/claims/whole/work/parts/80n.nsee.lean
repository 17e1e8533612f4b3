/-! PART 80n: NoSuchElementException: its own words, its throw, what rests on it (vx_ctorMadeN, vx_throwN: the kit's vx_ctorMadeS, vx_throwSW, turned to another constructor) -/
def six13 : ByteArray := ⟨#[0x2a, 0x2b, 0xb7, 0x00, 0x0d, 0xb1]⟩
theorem six13_0 : decode six13 0 = .ok (.aload_n 0, 1) := by decide +kernel
theorem six13_1 : decode six13 1 = .ok (.aload_n 1, 1) := by decide +kernel
theorem six13_2 : decode six13 2 = .ok (.invokespecial 13, 3) := by decide +kernel
theorem six13_5 : decode six13 5 = .ok (.return_, 1) := by decide +kernel
def ownAtomsN (own : String) (ic : Nat) (X Y : String) (r : List String) : List Cond :=
  Bundle.throwableAtoms ++ Bundle.throwableSAtoms ++ Bundle.passSAtoms X Y 13 six13 ++ Bundle.chainSAtoms Y r ++
  [.methodLink own ic (Bundle.initS X), .instantiable X 6, .castable X X, .selects X Bundle.tFill0 Bundle.tFill0, .selects X Bundle.tFill Bundle.tFill,
   .lays X Bundle.tN "cause" "Ljava/lang/Throwable;", .lays X Bundle.tN "stackTrace" Bundle.steD, .lays X Bundle.tN "suppressedExceptions" Bundle.listD, .lays X Bundle.tN "detailMessage" "Ljava/lang/String;",
   .isRef (.static Bundle.tN "UNASSIGNED_STACK" Bundle.steD), .isRef (.static Bundle.tN "SUPPRESSED_SENTINEL" Bundle.listD),
   .fieldLink Bundle.tN 198 Bundle.tN "backtrace" "Ljava/lang/Object;", .lays Bundle.tN Bundle.tN "backtrace" "Ljava/lang/Object;", .lays X Bundle.tN "backtrace" "Ljava/lang/Object;"]
def vx_atN (own : String) (ic : Nat) (X Y : String) (r : List String) : List Cond := (ownAtomsN own ic X Y r).filter vx_no
theorem chainN {args : Array Value} {s : State} {pl : Platform} (hpl : pl.magicAccessors = ({} : Platform).magicAccessors) {top : MethodId} (htop : s.methodNamed? (Bundle.initS Bundle.tN) = some top) (r : List String) (X Y : String) (hX : Bundle.fit X = true) (hY : Bundle.fit Y = true) (hn : ∀ n ∈ r, Bundle.fit n = true)
    (h1 : ∀ c ∈ Bundle.passSAtoms X Y 13 six13, c.before args s = true) (h2 : ∀ c ∈ Bundle.chainSAtoms Y r, c.before args s = true) :
      ∃ (P1 : PassC) (Ps : List PassC), Ps.length = r.length + 1 ∧ P1.LinksS pl s ∧ (∀ P, P ∈ Ps → P.LinksS pl s) ∧ s.methodNamed? (Bundle.initS X) = some P1.m ∧
        P1.sup = firstOf top (Ps.map (·.toPassT)) ∧ PassesOn top (Ps.map (·.toPassT)) := by
  obtain ⟨P, L, hm, hs⟩ := PassC.ofS_atoms (args := args) (s := s) hpl (X := X) (Y := Y) (Bundle.fit_spec hX).1 (Bundle.fit_spec hY).2 six13_0 six13_1 six13_2 six13_5 h1
  obtain ⟨P', Ps, hlen, L', hL, hm', hsup, hpass⟩ := Bundle.chainS (args := args) hpl htop r Y hY hn h2
  refine ⟨P, P' :: Ps, by simp [hlen], L, ?_, hm, Option.some.inj (hs.symm.trans hm'), hsup, hpass⟩
  intro Q hQ
  rcases List.mem_cons.mp hQ with rfl | hQ
  · exact L'
  · exact hL Q hQ
section VXK
variable {p : Program} {l : Launch} {e : Env} {R : Room} {s : State} {m₀ : MethodId} {args : Array Value} {below : List Frame} {meth : Method} {c : Code} {W : State} {locs : List Loc} {cells slots : Nat}
set_option maxHeartbeats 1000000 in
theorem vx_ctorMadeN (X : Stand p l e R s m₀ args below meth c W locs cells slots) (hexec : p.tables.exec = Jvm.exec) (htr : e.platform.stackTraces = false) {own cls Y0 : String} {names : List String} {ic : Nat}
    (hown : s.vm.findClass own = some m₀.cls) (hcls : Bundle.fit cls = true) (hY0 : Bundle.fit Y0 = true) (hnames : ∀ n ∈ names, Bundle.fit n = true)
    (h : ∀ a ∈ ownAtomsN own ic cls Y0 names, a.before args s = true)
    (hlocs : ∀ x ∈ locs, ∀ cell, s.heap[x.base]? = some cell → cell.vm.isStatics = false)
    {a : Addr} {cX : ClassId} {kX : Class} (hfoundX : s.vm.findClass cls = some cX) (hkX : s.vm.classes[cX]? = some kX) (hcell : W.heap[a]? = some (freshCell cX kX)) (hnew : s.heap.size ≤ a)
    {msg : Value} (hmsg : msg.isRef = true)
    {g : JFrame} (hg : g.method = m₀) (hsize : g.locals.size = c.maxLocals) {rest : List Value} (hstack : g.stack = msg :: .ref a :: .ref a :: rest)
    (hd6 : decode c.code g.pc = .ok (.invokespecial ic, 3))
    (hRframes : names.length + 4 < R.frames) (hRlocals : 2 * g.monitorRoom + ((Value.ref a :: rest).map fun v => v.category).sum + (13 * (names.length + 2) + 42) ≤ R.locals) :
    ∃ (V : State) (ce : Cell) (L : List Loc), Stand p l e R s m₀ args below meth c (V.setCell a ce) (locs ++ L) cells slots ∧ (∀ y ∈ L, y.base = a) ∧ a < V.heap.size ∧ ce.cls = cX ∧ ce.vm = .none ∧
      ∀ target, Steps p.tables e below ((V.setCell a ce).setTop { g with stack := .ref a :: rest, pc := g.pc + 3 }) target → Steps p.tables e below (W.setTop g) target := by
  have howns : e.platform.frameOwnsMonitors = true := by rw [X.admits.platform]
  have hfin : e.platform.finalization = false := by rw [X.admits.platform]
  have hpl : e.platform.magicAccessors = ({} : Platform).magicAccessors := by rw [X.admits.platform]
  have a' : ∀ x, x ∈ ownAtomsN own ic cls Y0 names → x.holds args s none s [] = true := fun x hx => h x hx
  obtain ⟨T, Z0, L, -, Y⟩ := ThrowableC.of_atoms (args := args) howns hfin hpl (fun x hx => h x (by simp [ownAtomsN, hx]))
  obtain ⟨Z, M, LZ, LM, hnZ⟩ := Init0T.ofS_atoms (args := args) hpl L Y (fun x hx => h x (by simp [ownAtomsN, hx]))
  obtain ⟨P1, Ps, hlen, L1, hL, hP1m, hlink1, hlink⟩ := chainN (args := args) hpl hnZ names cls Y0 hcls hY0 hnames (fun x hx => h x (by simp [ownAtomsN, hx])) (fun x hx => h x (by simp [ownAtomsN, hx]))
  have hfound : s.vm.findClass cls = some P1.m.cls := findClass_of_methodNamed hP1m
  cases Option.some.inj (hfoundX.symm.trans hfound)
  obtain ⟨c1, kX', hc1, hk, hord, -, -, hn6⟩ := Cond.instantiable_spec (a' (.instantiable cls 6) (by simp [ownAtomsN]))
  cases Option.some.inj (hc1.symm.trans hfound)
  cases Option.some.inj (hkX.symm.trans hk)
  have hsel0 : selectMethod e.platform s.vm P1.m.cls T.fill0 = .method T.fill0 := by
    obtain ⟨c2, r2, m2, q1, q2, q3, q4, -⟩ := Cond.selects_spec (a' (.selects cls Bundle.tFill0 Bundle.tFill0) (by simp [ownAtomsN]))
    cases Option.some.inj (q1.symm.trans hfound)
    cases Option.some.inj (q2.symm.trans (State.methodFound?_of_named Y.fill0 (by decide)))
    cases Option.some.inj (q3.symm.trans Y.fill0)
    rw [Launch.admits_selectMethod X.admits]; exact q4
  have hselF : selectMethod e.platform s.vm P1.m.cls T.fill = .method T.fill := by
    obtain ⟨c2, r2, m2, q1, q2, q3, q4, -⟩ := Cond.selects_spec (a' (.selects cls Bundle.tFill Bundle.tFill) (by simp [ownAtomsN]))
    cases Option.some.inj (q1.symm.trans hfound)
    cases Option.some.inj (q2.symm.trans (State.methodFound?_of_named Y.fill (by decide)))
    cases Option.some.inj (q3.symm.trans Y.fill)
    rw [Launch.admits_selectMethod X.admits]; exact q4
  obtain ⟨cellS0, hcS0, hiss⟩ := Y.statics
  obtain ⟨u0, hu0⟩ := Cond.staticRefV Y.unassigned L.unassignedStatic L.statics hcS0 hiss (a' (.isRef (.static Bundle.tN "UNASSIGNED_STACK" Bundle.steD)) (by simp [ownAtomsN]))
  obtain ⟨sen, hsen⟩ := Cond.staticRefV Y.sentinel L.sentinelStatic L.statics hcS0 hiss (a' (.isRef (.static Bundle.tN "SUPPRESSED_SENTINEL" Bundle.listD)) (by simp [ownAtomsN]))
  obtain ⟨ci198, i198, fB, hk198, hg198, ha198, hsB, -, hnB, htB, hffB⟩ := Cond.ownField (t := .object "java/lang/Object") Y.found L.cls (by decide +kernel) (a' (.fieldLink Bundle.tN 198 Bundle.tN "backtrace" "Ljava/lang/Object;") (by simp [ownAtomsN])) (a' (.lays Bundle.tN Bundle.tN "backtrace" "Ljava/lang/Object;") (by simp [ownAtomsN])) e.platform hpl
  obtain ⟨cellS, hcS', heS, -, hkeep⟩ := X.same.2.2.2.2.2 T.aS cellS0 hcS0
  have hcellS : W.heap[T.aS]? = some cellS := hcS'
  have hout' : ∀ i, (⟨T.aS, i⟩ : Loc) ∉ locs := fun i hmem => by
    have := hlocs _ hmem cellS0 hcS0
    rw [hiss] at this; cases this
  have hknownS : cellS.vm ≠ .unknown := by
    rw [heS]; intro hu
    rw [show cellS0.vm = .unknown from hu] at hiss
    cases hiss
  have hneS : T.aS ≠ a := Nat.ne_of_lt (Nat.lt_of_lt_of_le (Array.getElem?_eq_some_iff.mp hcS0).1 hnew)
  obtain ⟨iM, hffM⟩ := Y.msg
  obtain ⟨tyC, dC, hdC, hdnC⟩ := Cond.laysAt hfound hk Y.cause (a' (.lays cls Bundle.tN "cause" "Ljava/lang/Throwable;") (by simp [ownAtomsN]))
  obtain ⟨tyS, dS, hdS, hdnS⟩ := Cond.laysAt hfound hk Y.stack (a' (.lays cls Bundle.tN "stackTrace" Bundle.steD) (by simp [ownAtomsN]))
  obtain ⟨tyP, dP, hdP, hdnP⟩ := Cond.laysAt hfound hk Y.supp (a' (.lays cls Bundle.tN "suppressedExceptions" Bundle.listD) (by simp [ownAtomsN]))
  obtain ⟨tyM, dM, hdM, hdnM⟩ := Cond.laysAt hfound hk hffM (a' (.lays cls Bundle.tN "detailMessage" "Ljava/lang/String;") (by simp [ownAtomsN]))
  obtain ⟨tyB, dB, hdB, hdnB⟩ := Cond.laysAt hfound hk hffB (a' (.lays cls Bundle.tN "backtrace" "Ljava/lang/Object;") (by simp [ownAtomsN]))
  have bC := Cond.laysApart hdB hdC hdnB hdnC (by rw [hnB, Y.causeName]; decide)
  have bS := Cond.laysApart hdB hdS hdnB hdnS (by rw [hnB, Y.stackName]; decide)
  have bP := Cond.laysApart hdB hdP hdnB hdnP (by rw [hnB, Y.suppName]; decide)
  have hskip : SkipFacts T e.platform s (fun u => u) u0 ((preparedCellV T.toThrowableT (freshCell P1.m.cls kX) a u0 sen).withEntry W.cur) :=
    ⟨{ ci198 := ci198, i198 := i198, fBack := fB }, ⟨hk198, hg198, ha198, hsB⟩, by
      have := fresh_default (c := P1.m.cls) tyB
      rw [htB] at this
      simpa [preparedCellV, Cell.setSlot, Cell.withEntry, Array.getElem?_setIfInBounds, bC, bS, bP, bC.symm, bS.symm, bP.symm, defaultValue] using this, fun _ _ => rfl⟩
  obtain ⟨tm, methC, cdC, kC, vm₁, hnC, -, -, -, -, -, -, -, hW₁, st1⟩ := Steps.initColdS (tb := p.tables) (e := e) (below := below) (s := s) (U := W) X.here hexec X.warmed hpl hown (t := Bundle.initS cls) rfl rfl (Bundle.fit_spec hcls).2
    (a' (.methodLink own ic (Bundle.initS cls)) (by simp [ownAtomsN])) (h (.instanceMethod (Bundle.initS cls)) (by simp [ownAtomsN, Bundle.passSAtoms])) (bytes := six13) (maxL := 2) (h (.code (Bundle.initS cls) six13 2 none) (by simp [ownAtomsN, Bundle.passSAtoms]))
    (f := g) hg (a := a) (msg := msg) (rest := .ref a :: rest) hstack hd6
  cases Option.some.inj (hnC.symm.trans hP1m)
  have X₁ := X.noted hW₁
  obtain ⟨vm₂, X₂, st2⟩ := X₁.ctorMessageOffV hexec (g := { g with stack := .ref a :: rest }) hg hsize T L Z LZ M LM (P1 :: Ps)
    (fun P hP => by rcases List.mem_cons.mp hP with rfl | hP; exact L1; exact hL P hP) ⟨hlink1, hlink⟩ (u0 := u0) (sen := sen) (self := a) hmsg (cell := freshCell P1.m.cls kX) (cellS := cellS)
    hcell (fun _ => by simp) (by simp) rfl rfl hsel0 hselF hcellS hneS hknownS (by rw [hkeep _ (hout' _)]; exact hu0) (by rw [hkeep _ (hout' _)]; exact hsen)
    (Takes.of_laid hk hord tyC (by rw [Y.causeType]; rfl)) (Takes.of_laid hk hord tyS (by rw [Y.stackType]; exact fits_refV_array _ u0)) (Takes.of_laid hk hord tyP (by rw [Y.suppType]; exact fits_refV_object _ sen))
    (Takes.of_laid hk hord tyM (by rw [Y.msgType]; exact fits_refV_object _ ⟨msg, hmsg⟩)) Y.objLocals hskip htr [] hd6
    (by simp only [List.length_cons, hlen]; omega) (by simp only [List.length_cons, hlen]; exact hRlocals)
  have hlt : a < ((W.setVm vm₁).setVm vm₂).heap.size := (Array.getElem?_eq_some_iff.mp hcell).1
  refine ⟨(W.setVm vm₁).setVm vm₂, _, _, X₂, fun y hy => ?_, hlt, rfl, rfl, fun target hwalk => st1 _ (fun acts => ?_)⟩
  · simp only [List.mem_cons, List.not_mem_nil, or_false] at hy
    rcases hy with rfl | rfl | rfl | rfl | rfl <;> rfl
  · rw [doInvoke_state]
    exact st2 _ hwalk
end VXK
section EndsN
variable {p : Program} {l : Launch} {e : Env} {R : Room} {s : State} {m : MethodId} {args : Array Value} {below : List Frame} {meth : Method} {c : Code} {H : Heap} {locs : List Loc} {cells slots : Nat} {Q : State → Prop}
variable {mc ms : Nat} {free : Addr → Prop} {A0 A1 : Nat → Prop} {H0 : Heap} {a : Array Value} {ls : Array Slot} {st0 rest : List Value}
variable {Qc : Array Value → State → Outcome → State → Prop} {XC : String → State → State → Prop}
theorem vx_throwN {cc : ByteArray} {pc : Nat} (hexec : p.tables.exec = Jvm.exec) (hb : c.code = cc) (hl : l.stackTraces = false) {own cls Y0 text : String} {names : List String} {ik is ic mc ms sa : Nat} {A : Nat → Prop}
    (hown : s.vm.findClass own = some m.cls) (hcls : Bundle.fit cls = true) (hY0 : Bundle.fit Y0 = true) (hnames : ∀ n ∈ names, Bundle.fit n = true)
    (hk : (Cond.classLink own ik cls).before args s = true) (hini : (Cond.initialized cls).before args s = true) (hstr : vk_R own is text sa s) (hat : ∀ w ∈ vx_atN own ic cls Y0 names, w.before args s = true)
    (hgood : ∀ w ∈ Cond.classLink own ik cls :: Cond.initialized cls :: vx_atN own ic cls Y0 names, vx_ot w = true)
    (hU : vx_Zq Bundle.tN "UNASSIGNED_STACK" Bundle.steD A s s.heap) (hN : vx_Zq Bundle.tN "SUPPRESSED_SENTINEL" Bundle.listD A s s.heap) (hS : va_S A s.heap H locs) (hsize : ls.size = c.maxLocals)
    (d0 : decode cc pc = .ok (.new ik, 3)) (d3 : decode cc (pc + 3) = .ok (.dup, 1)) (d4 : decode cc (pc + 4) = .ok (.ldc_w is, 3)) (d7 : decode cc (pc + 7) = .ok (.invokespecial ic, 3)) (d10 : decode cc (pc + 10) = .ok (.athrow, 1))
    (hout : ∀ x ∈ c.exceptionTable.toList, covers x (pc + 10) = false)
    (hRframes : names.length + 4 < R.frames) (hRlocals : (rest.map fun v => v.category).sum + (13 * (names.length + 2) + 43) ≤ R.locals) (hRcells : cells + 1 ≤ R.cells) (hRslots : slots + 6 ≤ R.slots) (hlocks : meth.locks = false)
    (hx : ∀ t : State, s.vm.Alike t.vm → H.size ≤ t.heap.size → (∀ q : Nat, q < H.size → t.heap[q]? = H[q]?) → XC cls s t)
    (hf : ∀ z ∈ locs, free z.base) (hc : cells + 1 ≤ mc) (hs : slots + 6 ≤ ms) :
    W p l e R s m args below meth c H locs cells slots (vx_MQ below Qc XC args s mc ms free) (F0 m pc ls rest) := by
  intro T hT X
  have htr : e.platform.stackTraces = false := (show e.platform.stackTraces = l.stackTraces by rw [X.admits.platform]).trans hl
  have Y := vx_rebase X (R' := { frames := R.frames, locals := R.locals, cells := 1, slots := 6 }) (Nat.le_refl _) (Nat.le_refl _) hRcells hRslots
  obtain ⟨s', hA⟩ : ∃ z, z = (T.setVm s.vm).setFrames (.invoking m args :: below) := ⟨_, rfl⟩
  rw [← hA] at Y
  have hvm : s'.vm = s.vm := by rw [hA]; rfl
  have hhp : s'.heap = H := by rw [hA]; exact hT
  have hW0 : s.WarmedH s'.vm := by rw [hvm]; exact State.WarmedH.refl s
  have hat' : ∀ w ∈ vx_atN own ic cls Y0 names, w.before args s' = true := fun w hw => vx_ot_at hW0 hvm.symm (hgood w (List.mem_cons_of_mem _ (List.mem_cons_of_mem _ hw))) (hat w hw)
  have hk' : (Cond.classLink own ik cls).before args s' = true := vx_ot_at hW0 hvm.symm (hgood _ List.mem_cons_self) hk
  have hini' : (Cond.initialized cls).before args s' = true := vx_ot_at hW0 hvm.symm (hgood _ (List.mem_cons_of_mem _ List.mem_cons_self)) hini
  have hU' : vx_Zq Bundle.tN "UNASSIGNED_STACK" Bundle.steD A s' s'.heap := by rw [hhp]; exact vx_Zq.moved hW0.alike (hU.kept hS.2.1)
  have hN' : vx_Zq Bundle.tN "SUPPRESSED_SENTINEL" Bundle.listD A s' s'.heap := by rw [hhp]; exact vx_Zq.moved hW0.alike (hN.kept hS.2.1)
  have h : ∀ w ∈ ownAtomsN own ic cls Y0 names, w.before args s' = true := vx_own hat' (vx_isRefq hU'.1) (vx_isRefq hN'.1) hU'.2.word hN'.2.word
  have hown' : s'.vm.findClass own = some m.cls := by rw [hvm]; exact hown
  have hins : (Cond.instantiable cls 6).before args s' = true := h _ (by simp [ownAtomsN])
  obtain ⟨vm₁, cX, kX, hfX, hkX, -, -, X₁, st1⟩ := Y.newCold hexec (own := own) (C := cls) (index := ik) (n := 6) hown' hk' hins hini'
    (g := F0 m pc ls rest) rfl (by rw [hb]; exact d0) (Nat.le_refl _) (Nat.le_refl _)
  generalize hT1 : (T.setVm vm₁).pushCell { cls := cX, slots := kX.instanceTypes.map defaultValue, vm := .none } = T1 at X₁ st1
  have hcat : (Value.ref T.heap.size).category = 1 := rfl
  have hcellA : T1.heap[T.heap.size]? = some (freshCell cX kX) := by rw [← hT1]; exact State.heap_pushCell_size _ _
  have d3' : decode c.code (pc + 3) = .ok (.dup, 1) := by rw [hb]; exact d3
  have d4' : decode c.code (pc + 4) = .ok (.ldc_w is, 3) := by rw [hb]; exact d4
  have hstr' : vk_R own is text sa s' := vk_R.warm hW0 hstr
  obtain ⟨V, ce, L9, X₂, hL9, hlt9, hcc, hcv, st2⟩ := vx_ctorMadeN X₁ hexec htr (own := own) (cls := cls) (Y0 := Y0) (names := names) (ic := ic) hown' hcls hY0 hnames h (fun x hx => nomatch hx) hfX hkX hcellA (by rw [hhp, hT]; exact Nat.le_refl _) (msg := .ref sa) rfl
    (g := { method := m, pc := pc + 7, locals := ls, stack := .ref sa :: .ref T.heap.size :: .ref T.heap.size :: rest, locked := none }) rfl hsize (rest := rest) rfl
    (by rw [hb]; exact d7) hRframes (by simp only [List.map_cons, List.sum_cons, hcat]; omega)
  obtain ⟨hwalk, hrun, hend, hW, hsame0⟩ := X₂.athrowLeaves hexec (g := { method := m, pc := pc + 10, locals := ls, stack := .ref T.heap.size :: rest, locked := none }) rfl rfl rfl hout (a := T.heap.size) (rest := rest) rfl (by rw [hb]; exact d10) hlocks
  have hsteps := st2 _ hwalk
  have hce : ((V.setCell T.heap.size ce).setFrames (.throwing T.heap.size :: below)).heap[T.heap.size]? = some ce := heapAt_setCell_self (s := V) ce hlt9
  generalize (V.setCell T.heap.size ce).setFrames (.throwing T.heap.size :: below) = U at hrun hend hW hsame0 hsteps hce
  have hsame : s'.sameButNew ({ U with vm := s'.vm } : State) [] (0 + 1) (0 + 6) := hsame0.weaken (fun y hy hlt' => by
    exfalso
    have hb9 : y.base = T.heap.size := hL9 y (by simpa using hy)
    rw [hb9, hhp, hT] at hlt'
    exact Nat.lt_irrefl _ hlt') (Nat.le_refl _) (Nat.le_refl _)
  obtain ⟨f1, f2⟩ := vx_frame hsame
  rw [hhp] at f1 f2
  have hWs : s.WarmedH U.vm := State.WarmedH.trans hW0 hW
  have hcl : s.vm.findClass cls = some ce.cls := by
    rw [hcc, ← hvm]
    exact hfX
  have hall : s.sameButNew ({ U with vm := s.vm } : State) locs mc ms := by
    subst hA
    obtain ⟨e1, e2⟩ := hsame
    rw [State.setFrames_setFrames] at e1
    have h2 : (T.setVm s.vm).sameButNew ({ U with vm := s.vm } : State) [] (0 + 1) (0 + 6) := ⟨e1, e2⟩
    have h3 := X.same.trans h2
    rw [List.append_nil] at h3
    exact h3.mono hc hs
  refine ⟨U, ?_, .threw T.heap.size, hrun, hend, Or.inr ⟨T.heap.size, rfl, cls, ce, locs, hx U hWs.alike f1 (fun q hq => f2 q hq (fun z hz => nomatch hz)), hce, hcv, hcl, hWs, hall, hf⟩⟩
  refine st1 _ ?_
  show Steps p.tables e below (T1.setTop { method := m, pc := pc + 3, locals := ls, stack := .ref T.heap.size :: rest, locked := none }) _
  jvm_step X₁.here [X₁.here.top, hexec, d3', Value.category]
  exact X₁.ldcStringW hexec (own := own) (text := text) (index := is) (a := sa) hown' hstr'.1 hstr'.2
    (g := { method := m, pc := pc + 4, locals := ls, stack := .ref T.heap.size :: .ref T.heap.size :: rest, locked := none }) rfl d4' _ hsteps
end EndsN
def wnX4_requireRejection : List Cond := .code yX4_requireRejection cX4_requireRejection 1 none :: ([.classLink RX4 273 "java/util/NoSuchElementException", .initialized "java/util/NoSuchElementException", .fieldLink RX4 282 "DeadlineAdmission" "hasRejection" "Z"] ++ wsX40 ++ (vx_atN RX4 277 "java/util/NoSuchElementException" "java/lang/RuntimeException" ["java/lang/Exception"]).filter goodWord)
def wnX4_rejectionMode : List Cond := .code yX4_rejectionMode cX4_rejectionMode 1 (some .int) :: ([.fieldLink RX4 235 "DeadlineAdmission" "rejectedMode" "I", .methodLink RX4 232 yX4_requireRejection, .instanceMethod yX4_requireRejection, .selects RX4 yX4_requireRejection yX4_requireRejection, .initialized RX4, .code yX4_requireRejection cX4_requireRejection 1 none, .classLink RX4 273 "java/util/NoSuchElementException", .initialized "java/util/NoSuchElementException", .fieldLink RX4 282 "DeadlineAdmission" "hasRejection" "Z"] ++ wsX40 ++ (vx_atN RX4 277 "java/util/NoSuchElementException" "java/lang/RuntimeException" ["java/lang/Exception"]).filter goodWord)
def wnX4_rejectionLength : List Cond := .code yX4_rejectionLength cX4_rejectionLength 1 (some .int) :: ([.fieldLink RX4 238 "DeadlineAdmission" "rejectedLength" "I", .methodLink RX4 232 yX4_requireRejection, .instanceMethod yX4_requireRejection, .selects RX4 yX4_requireRejection yX4_requireRejection, .initialized RX4, .code yX4_requireRejection cX4_requireRejection 1 none, .classLink RX4 273 "java/util/NoSuchElementException", .initialized "java/util/NoSuchElementException", .fieldLink RX4 282 "DeadlineAdmission" "hasRejection" "Z"] ++ wsX40 ++ (vx_atN RX4 277 "java/util/NoSuchElementException" "java/lang/RuntimeException" ["java/lang/Exception"]).filter goodWord)
def wnX4_rejectionDemand : List Cond := .code yX4_rejectionDemand cX4_rejectionDemand 1 (some .int) :: ([.fieldLink RX4 241 "DeadlineAdmission" "rejectedDemand" "I", .methodLink RX4 232 yX4_requireRejection, .instanceMethod yX4_requireRejection, .selects RX4 yX4_requireRejection yX4_requireRejection, .initialized RX4, .code yX4_requireRejection cX4_requireRejection 1 none, .classLink RX4 273 "java/util/NoSuchElementException", .initialized "java/util/NoSuchElementException", .fieldLink RX4 282 "DeadlineAdmission" "hasRejection" "Z"] ++ wsX40 ++ (vx_atN RX4 277 "java/util/NoSuchElementException" "java/lang/RuntimeException" ["java/lang/Exception"]).filter goodWord)
def wnX4_response : List Cond := .code yX4_response cX4_response 2 (some .int) :: ([.classLink RX4 273 "java/util/NoSuchElementException", .initialized "java/util/NoSuchElementException", .fieldLink RX4 39 "DeadlineAdmission" "simulation" "LDeadlineAdmission$Simulation;", .methodLink RX4 114 yX4_requireTask, .instanceMethod yX4_requireTask, .selects RX4 yX4_requireTask yX4_requireTask, .initialized RX4, .code yX4_requireTask cX4_requireTask 2 none, .classLink RX4 227 "java/lang/IndexOutOfBoundsException", .initialized "java/lang/IndexOutOfBoundsException", .fieldLink RX4 12 "DeadlineAdmission" "current" "LDeadlineAdmission$Configuration;", .methodLink RX4 255 yX4_requireSimulation, .instanceMethod yX4_requireSimulation, .selects RX4 yX4_requireSimulation yX4_requireSimulation, .code yX4_requireSimulation cX4_requireSimulation 1 none, .classLink RX4 62 "java/lang/IllegalStateException", .initialized "java/lang/IllegalStateException", .fieldLink RX4 145 "DeadlineAdmission" "hasSimulation" "Z"] ++ wsX40 ++ wsX20 ++ wsX00 ++ (vx_atN RX4 277 "java/util/NoSuchElementException" "java/lang/RuntimeException" ["java/lang/Exception"]).filter goodWord ++ (vx_atS RX4 231 "java/lang/IndexOutOfBoundsException" ["java/lang/RuntimeException", "java/lang/Exception"]).filter goodWord ++ (vx_atS RX4 66 "java/lang/IllegalStateException" ["java/lang/RuntimeException", "java/lang/Exception"]).filter goodWord)
def wnL_rejectionMode : List Cond := .codeWith yL_rejectionMode cL_rejectionMode 3 (some .int) [(0, 8, 11, 92)] :: ([.classLink RL 92 "java/util/NoSuchElementException", .methodLink RL 89 yX4_rejectionMode, .instanceMethod yX4_rejectionMode, .selects RX4 yX4_rejectionMode yX4_rejectionMode, .initialized RX4, .code yX4_rejectionMode cX4_rejectionMode 1 (some .int), .fieldLink RX4 235 "DeadlineAdmission" "rejectedMode" "I", .methodLink RX4 232 yX4_requireRejection, .instanceMethod yX4_requireRejection, .selects RX4 yX4_requireRejection yX4_requireRejection, .code yX4_requireRejection cX4_requireRejection 1 none, .classLink RX4 273 "java/util/NoSuchElementException", .initialized "java/util/NoSuchElementException", .fieldLink RX4 282 "DeadlineAdmission" "hasRejection" "Z"] ++ wsX40 ++ (vx_atN RX4 277 "java/util/NoSuchElementException" "java/lang/RuntimeException" ["java/lang/Exception"]).filter goodWord)
def wnL_rejectionLength : List Cond := .codeWith yL_rejectionLength cL_rejectionLength 3 (some .int) [(0, 8, 11, 92)] :: ([.classLink RL 92 "java/util/NoSuchElementException", .methodLink RL 94 yX4_rejectionLength, .instanceMethod yX4_rejectionLength, .selects RX4 yX4_rejectionLength yX4_rejectionLength, .initialized RX4, .code yX4_rejectionLength cX4_rejectionLength 1 (some .int), .fieldLink RX4 238 "DeadlineAdmission" "rejectedLength" "I", .methodLink RX4 232 yX4_requireRejection, .instanceMethod yX4_requireRejection, .selects RX4 yX4_requireRejection yX4_requireRejection, .code yX4_requireRejection cX4_requireRejection 1 none, .classLink RX4 273 "java/util/NoSuchElementException", .initialized "java/util/NoSuchElementException", .fieldLink RX4 282 "DeadlineAdmission" "hasRejection" "Z"] ++ wsX40 ++ (vx_atN RX4 277 "java/util/NoSuchElementException" "java/lang/RuntimeException" ["java/lang/Exception"]).filter goodWord)
def wnL_rejectionDemand : List Cond := .codeWith yL_rejectionDemand cL_rejectionDemand 3 (some .int) [(0, 8, 11, 92)] :: ([.classLink RL 92 "java/util/NoSuchElementException", .methodLink RL 97 yX4_rejectionDemand, .instanceMethod yX4_rejectionDemand, .selects RX4 yX4_rejectionDemand yX4_rejectionDemand, .initialized RX4, .code yX4_rejectionDemand cX4_rejectionDemand 1 (some .int), .fieldLink RX4 241 "DeadlineAdmission" "rejectedDemand" "I", .methodLink RX4 232 yX4_requireRejection, .instanceMethod yX4_requireRejection, .selects RX4 yX4_requireRejection yX4_requireRejection, .code yX4_requireRejection cX4_requireRejection 1 none, .classLink RX4 273 "java/util/NoSuchElementException", .initialized "java/util/NoSuchElementException", .fieldLink RX4 282 "DeadlineAdmission" "hasRejection" "Z"] ++ wsX40 ++ (vx_atN RX4 277 "java/util/NoSuchElementException" "java/lang/RuntimeException" ["java/lang/Exception"]).filter goodWord)
def wnL_response : List Cond := .codeWith yL_response cL_response 4 (some .int) [(0, 9, 12, 28), (0, 9, 15, 15), (0, 9, 18, 92)] :: ((wsL_response_r1 ++ wsL_response_r2) ++ wsX40 ++ wsX20 ++ wsX00 ++ (vx_atN RX4 277 "java/util/NoSuchElementException" "java/lang/RuntimeException" ["java/lang/Exception"]).filter goodWord ++ (vx_atS RX4 231 "java/lang/IndexOutOfBoundsException" ["java/lang/RuntimeException", "java/lang/Exception"]).filter goodWord ++ (vx_atS RX4 66 "java/lang/IllegalStateException" ["java/lang/RuntimeException", "java/lang/Exception"]).filter goodWord)
def wnL_law : List Cond := wsL_law0 ++ (vx_atS RX4 55 "java/lang/IllegalArgumentException" ["java/lang/RuntimeException", "java/lang/Exception"]).filter goodWord ++ (vx_atS RX4 66 "java/lang/IllegalStateException" ["java/lang/RuntimeException", "java/lang/Exception"]).filter goodWord ++ (vx_atS RX4 231 "java/lang/IndexOutOfBoundsException" ["java/lang/RuntimeException", "java/lang/Exception"]).filter goodWord ++ (vx_atS RX4 181 "java/lang/UnsupportedOperationException" ["java/lang/RuntimeException", "java/lang/Exception"]).filter goodWord ++ (vx_atN RX4 277 "java/util/NoSuchElementException" "java/lang/RuntimeException" ["java/lang/Exception"]).filter goodWord
theorem ngN_NSEE : ∀ w ∈ (vx_atN RX4 277 "java/util/NoSuchElementException" "java/lang/RuntimeException" ["java/lang/Exception"]).filter (fun w => !goodWord w), w ∈ [Cond.castable "java/util/NoSuchElementException" "java/util/NoSuchElementException", Cond.declares (Bundle.initS "java/lang/RuntimeException"), Cond.declares (Bundle.initS "java/lang/Exception"), Cond.declares (Bundle.initS "java/lang/Throwable")] := by decide +kernel
theorem otN_NSEE : ∀ w ∈ Cond.classLink RX4 273 "java/util/NoSuchElementException" :: Cond.initialized "java/util/NoSuchElementException" :: vx_atN RX4 277 "java/util/NoSuchElementException" "java/lang/RuntimeException" ["java/lang/Exception"], vx_ot w = true := by decide +kernel
set_option maxRecDepth 20000 in
theorem hhX4_rejectionMode_X4_requireRejection : GoodIn wnX4_rejectionMode wnX4_requireRejection := goodIn_ca (goodIn_r _ [6, 7, 8, 9, 10, 11, 12, 13, 14, 15, 16, 17, 18, 19, 20, 21] (by decide +kernel) (by decide +kernel)) (goodIn_sub (fun _ h => List.mem_cons_of_mem _ (List.mem_append_right _ h)) (by decide +kernel))
set_option maxRecDepth 20000 in
theorem hX4_rejectionMode_X4_requireRejection : GoodIn wnX4_rejectionMode (wsV RX4 232 RX4 yX4_requireRejection wnX4_requireRejection) := goodIn_app (goodIn_of _ (by decide +kernel)) hhX4_rejectionMode_X4_requireRejection
set_option maxRecDepth 20000 in
theorem hhX4_rejectionLength_X4_requireRejection : GoodIn wnX4_rejectionLength wnX4_requireRejection := goodIn_ca (goodIn_r _ [6, 7, 8, 9, 10, 11, 12, 13, 14, 15, 16, 17, 18, 19, 20, 21] (by decide +kernel) (by decide +kernel)) (goodIn_sub (fun _ h => List.mem_cons_of_mem _ (List.mem_append_right _ h)) (by decide +kernel))
set_option maxRecDepth 20000 in
theorem hX4_rejectionLength_X4_requireRejection : GoodIn wnX4_rejectionLength (wsV RX4 232 RX4 yX4_requireRejection wnX4_requireRejection) := goodIn_app (goodIn_of _ (by decide +kernel)) hhX4_rejectionLength_X4_requireRejection
set_option maxRecDepth 20000 in
theorem hhX4_rejectionDemand_X4_requireRejection : GoodIn wnX4_rejectionDemand wnX4_requireRejection := goodIn_ca (goodIn_r _ [6, 7, 8, 9, 10, 11, 12, 13, 14, 15, 16, 17, 18, 19, 20, 21] (by decide +kernel) (by decide +kernel)) (goodIn_sub (fun _ h => List.mem_cons_of_mem _ (List.mem_append_right _ h)) (by decide +kernel))
set_option maxRecDepth 20000 in
theorem hX4_rejectionDemand_X4_requireRejection : GoodIn wnX4_rejectionDemand (wsV RX4 232 RX4 yX4_requireRejection wnX4_requireRejection) := goodIn_app (goodIn_of _ (by decide +kernel)) hhX4_rejectionDemand_X4_requireRejection
set_option maxRecDepth 20000 in
theorem hhX4_response_X4_requireTask : GoodIn wnX4_response wsX4_requireTask := goodIn_ca (goodIn_r _ [8, 9, 10, 11, 19, 20, 21, 22, 23, 24, 25, 26, 27, 28, 29, 30, 46, 47, 48, 49, 50, 51, 52, 53, 54] (by decide +kernel) (by decide +kernel)) (goodIn_sub (fun _ h => List.mem_cons_of_mem _ (List.mem_append_left _ (List.mem_append_right _ h))) (by decide +kernel))
set_option maxRecDepth 20000 in
theorem hX4_response_X4_requireTask : GoodIn wnX4_response (wsV RX4 114 RX4 yX4_requireTask wsX4_requireTask) := goodIn_app (goodIn_of _ (by decide +kernel)) hhX4_response_X4_requireTask
set_option maxRecDepth 20000 in
theorem hhX4_response_X4_requireSimulation : GoodIn wnX4_response wsX4_requireSimulation := goodIn_ca (goodIn_r _ [15, 16, 17, 18, 19, 20, 21, 22, 23, 24, 25, 26, 27, 28, 29, 30] (by decide +kernel) (by decide +kernel)) (goodIn_sub (fun _ h => List.mem_cons_of_mem _ (List.mem_append_right _ h)) (by decide +kernel))
set_option maxRecDepth 20000 in
theorem hX4_response_X4_requireSimulation : GoodIn wnX4_response (wsV RX4 255 RX4 yX4_requireSimulation wsX4_requireSimulation) := goodIn_app (goodIn_of _ (by decide +kernel)) hhX4_response_X4_requireSimulation
set_option maxRecDepth 20000 in
theorem hhL_rejectionMode_X4_rejectionMode : GoodIn wnL_rejectionMode wnX4_rejectionMode := goodIn_ca (goodIn_r _ [6, 7, 8, 9, 10, 5, 11, 12, 13, 14, 15, 16, 17, 18, 19, 20, 21, 22, 23, 24, 25, 26] (by decide +kernel) (by decide +kernel)) (goodIn_sub (fun _ h => List.mem_cons_of_mem _ (List.mem_append_right _ h)) (by decide +kernel))
set_option maxRecDepth 20000 in
theorem hL_rejectionMode_X4_rejectionMode : GoodIn wnL_rejectionMode (wsV RL 89 RX4 yX4_rejectionMode wnX4_rejectionMode) := goodIn_app (goodIn_of _ (by decide +kernel)) hhL_rejectionMode_X4_rejectionMode
set_option maxRecDepth 20000 in
theorem hhL_rejectionLength_X4_rejectionLength : GoodIn wnL_rejectionLength wnX4_rejectionLength := goodIn_ca (goodIn_r _ [6, 7, 8, 9, 10, 5, 11, 12, 13, 14, 15, 16, 17, 18, 19, 20, 21, 22, 23, 24, 25, 26] (by decide +kernel) (by decide +kernel)) (goodIn_sub (fun _ h => List.mem_cons_of_mem _ (List.mem_append_right _ h)) (by decide +kernel))
set_option maxRecDepth 20000 in
theorem hL_rejectionLength_X4_rejectionLength : GoodIn wnL_rejectionLength (wsV RL 94 RX4 yX4_rejectionLength wnX4_rejectionLength) := goodIn_app (goodIn_of _ (by decide +kernel)) hhL_rejectionLength_X4_rejectionLength
set_option maxRecDepth 20000 in
theorem hhL_rejectionDemand_X4_rejectionDemand : GoodIn wnL_rejectionDemand wnX4_rejectionDemand := goodIn_ca (goodIn_r _ [6, 7, 8, 9, 10, 5, 11, 12, 13, 14, 15, 16, 17, 18, 19, 20, 21, 22, 23, 24, 25, 26] (by decide +kernel) (by decide +kernel)) (goodIn_sub (fun _ h => List.mem_cons_of_mem _ (List.mem_append_right _ h)) (by decide +kernel))
set_option maxRecDepth 20000 in
theorem hL_rejectionDemand_X4_rejectionDemand : GoodIn wnL_rejectionDemand (wsV RL 97 RX4 yX4_rejectionDemand wnX4_rejectionDemand) := goodIn_app (goodIn_of _ (by decide +kernel)) hhL_rejectionDemand_X4_rejectionDemand
set_option maxRecDepth 20000 in
theorem hhL_response_X4_response : GoodIn wnL_response wnX4_response := goodIn_ca (goodIn_ca (goodIn_ca (goodIn_r _ [8, 9, 10, 11, 12, 13, 14, 7, 15, 16, 17, 18, 19, 20, 21, 22, 23, 24, 25, 26, 27, 28, 29, 30, 31, 32, 33, 34, 35, 36, 37, 38, 39, 40, 41, 42, 43, 44, 45, 46, 47, 48, 49, 50, 51, 52, 53, 54, 55, 56, 57, 58, 59, 60, 61] (by decide +kernel) (by decide +kernel)) (goodIn_sub (fun _ h => List.mem_cons_of_mem _ (List.mem_append_left _ (List.mem_append_left _ (List.mem_append_right _ h)))) (by decide +kernel))) (goodIn_sub (fun _ h => List.mem_cons_of_mem _ (List.mem_append_left _ (List.mem_append_right _ h))) (by decide +kernel))) (goodIn_sub (fun _ h => List.mem_cons_of_mem _ (List.mem_append_right _ h)) (by decide +kernel))
set_option maxRecDepth 20000 in
theorem hL_response_X4_response : GoodIn wnL_response (wsV RL 116 RX4 yX4_response wnX4_response) := goodIn_app (goodIn_of _ (by decide +kernel)) hhL_response_X4_response
set_option maxHeartbeats 1000000 in
set_option maxRecDepth 100000 in
/-- requireRejection -/
theorem c_N4_requireRejection (l : Launch) (hst : l.stackTraces = false) (dC : Nat → ClassId) (dI : Nat → Nat → Nat) (cy : Nat → ClassId) (sz : Nat) (d0 : Nat) (o : Nat → Nat) (F : Nat → Int32) : vx_Met l yX4_requireRejection wnX4_requireRejection ({ frames := 6, cells := 1, slots := 6, locals := 82 }) (va_Pc [.ref d0] (pR dC dI cy (wObj d0 o F) sz)) (va_Qv (fun (_ : Unit) => c01 (F 8) = 0) (fun (_ : Unit) (_ : State) => True) (fun q => sz ≤ q)) (vx_X (fun (_ : Unit) => True) (fun (E : String) (_ : Unit) (_ : State) => E = "java/util/NoSuchElementException" ∧ c01 (F 8) = 1) (fun q => sz ≤ q)) 1 6 (fun q => sz ≤ q) := by
  refine vx_ofW (cc := cX4_requireRejection) (maxL := 1) (ret := none) (by decide) rfl ?_
  intro p e s m args below meth c s₁ B hml hnt hv
  obtain ⟨rfl, hsz, hP, hE, hX, hZ⟩ := hv
  have hK := hE.1
  subst hsz
  have hS : va_S (fun q => s.heap.size ≤ q) s.heap s.heap [] := va_S.rf
  have hA : ∀ q : Nat, s.heap.size ≤ q → (fun q => s.heap.size ≤ q) q := fun q h => h
  have hP : va_P (dC, dI) vwCl (wObj d0 o F) s.heap := hP
  have hx := B.exec
  have hb := B.bytes
  have hr := B.returns
  have hts := atoms_spec (ws := wnX4_requireRejection) B.pre
  have hown : s.vm.findClass RX4 = some m.cls := findClass_of_methodNamed B.named
  have hlocks := B.notSynchronized
  have hin4 : ∀ w ∈ u_ws RX4 TX4 12, w ∈ wnX4_requireRejection := by decide +kernel
  have f_282 := hts (.fieldLink RX4 282 "DeadlineAdmission" "hasRejection" "Z") (by decide +kernel)
  have hl := lv_entry ([.ref d0]) (n := 1) (Nat.le_of_ble_eq_true rfl)
  rw [lg_entry_eq]
  generalize (lg_sl ([.ref d0]) ++ List.replicate (1 - (lg_sl ([.ref d0])).length) Slot.unset).toArray = ls at hl ⊢
  have hl : lv_has ls 1 [(0, .ref d0)] := hl
  refine lv_aload_n hx hb dX4_requireRejection_0 rfl (lv_at hl 0 rfl) ?_
  refine va_get (D := (dC, dI)) (ci := 4) (v := .int (F 8)) (C := RX4) (T := TX4) (N := 12) hx hb hts hin4 hown hK hP 0 rfl rfl 8 (by decide) f_282 (fun _ h9 => h9) rfl dX4_requireRejection_1 ?_
  refine lv_if_ne (tgt := 18) hx hb dX4_requireRejection_4 (by decide) (fun c_4 => ?_) (fun c_4 => ?_)
  · refine vx_ret ?_
    refine W.widen (k := 1) (n := 6) (Nat.le_of_ble_eq_true rfl) (Nat.le_of_ble_eq_true rfl) ?_
    exact W.vret hx hb hr (fun t ht hW => ⟨⟨(), rfl, (if_neg c_4), trivial⟩, hS.F ht⟩) hS.2.2 dX4_requireRejection_18
  · obtain ⟨sa, hsa⟩ := hX.s 18 (k := 285) (t := "no task has been rejected") rfl
    exact vx_throwN (Y0 := "java/lang/RuntimeException") (names := ["java/lang/Exception"]) hx hb hst hown (by decide +kernel) (by decide +kernel) (by decide +kernel) (hts (.classLink RX4 273 "java/util/NoSuchElementException") (by decide +kernel)) (hts (.initialized "java/util/NoSuchElementException") (by decide +kernel)) hsa (vx_hat (fun w h => hts w (List.mem_cons_of_mem _ (List.mem_append_right _ h))) ngN_NSEE (vx_c (va_Nw.use rfl (hX.c 4 rfl)) (vx_c (va_Nw.use rfl (hX.d 0 rfl)) (vx_c (va_Nw.use rfl (hX.d 1 rfl)) (vx_c (va_Nw.use rfl (hX.d 2 rfl)) vx_n))))) otN_NSEE hZ.1 hZ.2 hS (hl.1.trans hml.symm) dX4_requireRejection_7 dX4_requireRejection_10 dX4_requireRejection_11 dX4_requireRejection_14 dX4_requireRejection_17 (fun x hx9 => (hnt x hx9).elim) (Nat.le_of_ble_eq_true rfl) (Nat.le_of_ble_eq_true rfl) (Nat.le_of_ble_eq_true rfl) (Nat.le_of_ble_eq_true rfl) hlocks (fun t hvm hz hk => ⟨(), trivial, ⟨rfl, if_pos c_4⟩, ⟨Nat.le_trans hS.1 hz, fun q h1 h2 => (hk q (Nat.lt_of_lt_of_le h1 hS.1)).trans (hS.2.1 q h1 h2)⟩⟩) hS.2.2 (Nat.le_of_ble_eq_true rfl) (Nat.le_of_ble_eq_true rfl)
set_option maxHeartbeats 1000000 in
set_option maxRecDepth 100000 in
/-- rejectionMode -/
theorem c_N4_rejectionMode (l : Launch) (hst : l.stackTraces = false) (dC : Nat → ClassId) (dI : Nat → Nat → Nat) (cy : Nat → ClassId) (sz : Nat) (d0 : Nat) (o : Nat → Nat) (F : Nat → Int32) : vx_Met l yX4_rejectionMode wnX4_rejectionMode ({ frames := 7, cells := 1, slots := 6, locals := 102 }) (va_Pc [.ref d0] (pR dC dI cy (wObj d0 o F) sz)) (va_Qi (fun (r : Int32) (_ : Unit) => c01 (F 8) = 0 ∧ r = F 9) (fun (_ : Unit) (_ : State) => True) (fun q => sz ≤ q)) (vx_X (fun (_ : Unit) => True) (fun (E : String) (_ : Unit) (_ : State) => E = "java/util/NoSuchElementException" ∧ c01 (F 8) = 1) (fun q => sz ≤ q)) 1 6 (fun q => sz ≤ q) := by
  refine vx_ofW (cc := cX4_rejectionMode) (maxL := 1) (ret := some .int) (by decide) rfl ?_
  intro p e s m args below meth c s₁ B hml hnt hv
  obtain ⟨rfl, hsz, hP, hE, hX, hZ⟩ := hv
  have hK := hE.1
  subst hsz
  have hS : va_S (fun q => s.heap.size ≤ q) s.heap s.heap [] := va_S.rf
  have hA : ∀ q : Nat, s.heap.size ≤ q → (fun q => s.heap.size ≤ q) q := fun q h => h
  have hP : va_P (dC, dI) vwCl (wObj d0 o F) s.heap := hP
  have hx := B.exec
  have hb := B.bytes
  have hr := B.returns
  have hts := atoms_spec (ws := wnX4_rejectionMode) B.pre
  have hown : s.vm.findClass RX4 = some m.cls := findClass_of_methodNamed B.named
  have hlocks := B.notSynchronized
  have hin4 : ∀ w ∈ u_ws RX4 TX4 12, w ∈ wnX4_rejectionMode := by decide +kernel
  have f_235 := hts (.fieldLink RX4 235 "DeadlineAdmission" "rejectedMode" "I") (by decide +kernel)
  have hl := lv_entry ([.ref d0]) (n := 1) (Nat.le_of_ble_eq_true rfl)
  rw [lg_entry_eq]
  generalize (lg_sl ([.ref d0]) ++ List.replicate (1 - (lg_sl ([.ref d0])).length) Slot.unset).toArray = ls at hl ⊢
  have hl : lv_has ls 1 [(0, .ref d0)] := hl
  refine lv_aload_n hx hb dX4_rejectionMode_0 rfl (lv_at hl 0 rfl) ?_
  refine vx_callv (vx_runV (As := []) (rest := []) ⟨hx, hb, hml, hown, hts⟩ (c_N4_requireRejection l hst dC dI cy s.heap.size d0 o F) (cwV 0 hts hX4_rejectionMode_X4_requireRejection rfl rfl rfl (by decide +kernel) ⟨Nat.le_of_ble_eq_true rfl, Nat.le_of_ble_eq_true rfl⟩) ⟨bl_R, va_recv hK hP (ci := 4) (q0 := 0) rfl rfl, pr_R hP hE hX hZ hS hA⟩ rfl rfl hl.1 rfl (lv_room (Nat.le_of_ble_eq_true rfl)) dX4_rejectionMode_1 ⟨Nat.le_of_ble_eq_true rfl, Nat.le_of_ble_eq_true rfl⟩) hS (fun q _ h => hA q (Nat.le_trans hS.1 h)) (fun q h => hA q (Nat.le_trans hS.1 h)) (fun q _ h => hA q (Nat.le_trans hS.1 h)) (fun E ce q9 u t H1 locs ht hvm hpx hBX hz1 hk1 hS hce hcv hcl => ?_) (fun u t H1 locs ht hvm hw hB hz1 hk1 hS => ?_)
  · exact vx_out (fun x hx9 => (hnt x hx9).elim) hlocks hce hcv hcl (fun t ht hvm => ⟨(), trivial, hBX, hS.F ht⟩) hS.2.2 (Nat.le_of_ble_eq_true rfl) (Nat.le_of_ble_eq_true rfl)
  have hs9 := hw
  have hP : va_P (dC, dI) vwCl (wObj d0 o F) H1 := hP.kept (fun k q hk => hk1 q.1 ((hP k q hk).lt) (Nat.not_le.mpr ((hP k q hk).lt)))
  clear hz1 hk1
  generalize H1 = H at hP hS ⊢
  refine lv_aload_n hx hb dX4_rejectionMode_4 rfl (lv_at hl 0 rfl) ?_
  refine va_get (D := (dC, dI)) (ci := 4) (v := .int (F 9)) (C := RX4) (T := TX4) (N := 12) hx hb hts hin4 hown hK hP 0 rfl rfl 9 (by decide) f_235 (fun _ h9 => h9) rfl dX4_rejectionMode_5 ?_
  refine vx_ret ?_
  refine W.widen (k := 1) (n := 6) (Nat.le_of_ble_eq_true rfl) (Nat.le_of_ble_eq_true rfl) ?_
  exact W.iret (v := F 9) hx hb hr (fun t ht hW => ⟨⟨F 9, (), rfl, ⟨hs9, rfl⟩, trivial⟩, hS.F ht⟩) hS.2.2 dX4_rejectionMode_8
set_option maxHeartbeats 1000000 in
set_option maxRecDepth 100000 in
/-- rejectionLength -/
theorem c_N4_rejectionLength (l : Launch) (hst : l.stackTraces = false) (dC : Nat → ClassId) (dI : Nat → Nat → Nat) (cy : Nat → ClassId) (sz : Nat) (d0 : Nat) (o : Nat → Nat) (F : Nat → Int32) : vx_Met l yX4_rejectionLength wnX4_rejectionLength ({ frames := 7, cells := 1, slots := 6, locals := 102 }) (va_Pc [.ref d0] (pR dC dI cy (wObj d0 o F) sz)) (va_Qi (fun (r : Int32) (_ : Unit) => c01 (F 8) = 0 ∧ r = F 10) (fun (_ : Unit) (_ : State) => True) (fun q => sz ≤ q)) (vx_X (fun (_ : Unit) => True) (fun (E : String) (_ : Unit) (_ : State) => E = "java/util/NoSuchElementException" ∧ c01 (F 8) = 1) (fun q => sz ≤ q)) 1 6 (fun q => sz ≤ q) := by
  refine vx_ofW (cc := cX4_rejectionLength) (maxL := 1) (ret := some .int) (by decide) rfl ?_
  intro p e s m args below meth c s₁ B hml hnt hv
  obtain ⟨rfl, hsz, hP, hE, hX, hZ⟩ := hv
  have hK := hE.1
  subst hsz
  have hS : va_S (fun q => s.heap.size ≤ q) s.heap s.heap [] := va_S.rf
  have hA : ∀ q : Nat, s.heap.size ≤ q → (fun q => s.heap.size ≤ q) q := fun q h => h
  have hP : va_P (dC, dI) vwCl (wObj d0 o F) s.heap := hP
  have hx := B.exec
  have hb := B.bytes
  have hr := B.returns
  have hts := atoms_spec (ws := wnX4_rejectionLength) B.pre
  have hown : s.vm.findClass RX4 = some m.cls := findClass_of_methodNamed B.named
  have hlocks := B.notSynchronized
  have hin4 : ∀ w ∈ u_ws RX4 TX4 12, w ∈ wnX4_rejectionLength := by decide +kernel
  have f_238 := hts (.fieldLink RX4 238 "DeadlineAdmission" "rejectedLength" "I") (by decide +kernel)
  have hl := lv_entry ([.ref d0]) (n := 1) (Nat.le_of_ble_eq_true rfl)
  rw [lg_entry_eq]
  generalize (lg_sl ([.ref d0]) ++ List.replicate (1 - (lg_sl ([.ref d0])).length) Slot.unset).toArray = ls at hl ⊢
  have hl : lv_has ls 1 [(0, .ref d0)] := hl
  refine lv_aload_n hx hb dX4_rejectionLength_0 rfl (lv_at hl 0 rfl) ?_
  refine vx_callv (vx_runV (As := []) (rest := []) ⟨hx, hb, hml, hown, hts⟩ (c_N4_requireRejection l hst dC dI cy s.heap.size d0 o F) (cwV 0 hts hX4_rejectionLength_X4_requireRejection rfl rfl rfl (by decide +kernel) ⟨Nat.le_of_ble_eq_true rfl, Nat.le_of_ble_eq_true rfl⟩) ⟨bl_R, va_recv hK hP (ci := 4) (q0 := 0) rfl rfl, pr_R hP hE hX hZ hS hA⟩ rfl rfl hl.1 rfl (lv_room (Nat.le_of_ble_eq_true rfl)) dX4_rejectionLength_1 ⟨Nat.le_of_ble_eq_true rfl, Nat.le_of_ble_eq_true rfl⟩) hS (fun q _ h => hA q (Nat.le_trans hS.1 h)) (fun q h => hA q (Nat.le_trans hS.1 h)) (fun q _ h => hA q (Nat.le_trans hS.1 h)) (fun E ce q9 u t H1 locs ht hvm hpx hBX hz1 hk1 hS hce hcv hcl => ?_) (fun u t H1 locs ht hvm hw hB hz1 hk1 hS => ?_)
  · exact vx_out (fun x hx9 => (hnt x hx9).elim) hlocks hce hcv hcl (fun t ht hvm => ⟨(), trivial, hBX, hS.F ht⟩) hS.2.2 (Nat.le_of_ble_eq_true rfl) (Nat.le_of_ble_eq_true rfl)
  have hs9 := hw
  have hP : va_P (dC, dI) vwCl (wObj d0 o F) H1 := hP.kept (fun k q hk => hk1 q.1 ((hP k q hk).lt) (Nat.not_le.mpr ((hP k q hk).lt)))
  clear hz1 hk1
  generalize H1 = H at hP hS ⊢
  refine lv_aload_n hx hb dX4_rejectionLength_4 rfl (lv_at hl 0 rfl) ?_
  refine va_get (D := (dC, dI)) (ci := 4) (v := .int (F 10)) (C := RX4) (T := TX4) (N := 12) hx hb hts hin4 hown hK hP 0 rfl rfl 10 (by decide) f_238 (fun _ h9 => h9) rfl dX4_rejectionLength_5 ?_
  refine vx_ret ?_
  refine W.widen (k := 1) (n := 6) (Nat.le_of_ble_eq_true rfl) (Nat.le_of_ble_eq_true rfl) ?_
  exact W.iret (v := F 10) hx hb hr (fun t ht hW => ⟨⟨F 10, (), rfl, ⟨hs9, rfl⟩, trivial⟩, hS.F ht⟩) hS.2.2 dX4_rejectionLength_8
set_option maxHeartbeats 1000000 in
set_option maxRecDepth 100000 in
/-- rejectionDemand -/
theorem c_N4_rejectionDemand (l : Launch) (hst : l.stackTraces = false) (dC : Nat → ClassId) (dI : Nat → Nat → Nat) (cy : Nat → ClassId) (sz : Nat) (d0 : Nat) (o : Nat → Nat) (F : Nat → Int32) : vx_Met l yX4_rejectionDemand wnX4_rejectionDemand ({ frames := 7, cells := 1, slots := 6, locals := 102 }) (va_Pc [.ref d0] (pR dC dI cy (wObj d0 o F) sz)) (va_Qi (fun (r : Int32) (_ : Unit) => c01 (F 8) = 0 ∧ r = F 11) (fun (_ : Unit) (_ : State) => True) (fun q => sz ≤ q)) (vx_X (fun (_ : Unit) => True) (fun (E : String) (_ : Unit) (_ : State) => E = "java/util/NoSuchElementException" ∧ c01 (F 8) = 1) (fun q => sz ≤ q)) 1 6 (fun q => sz ≤ q) := by
  refine vx_ofW (cc := cX4_rejectionDemand) (maxL := 1) (ret := some .int) (by decide) rfl ?_
  intro p e s m args below meth c s₁ B hml hnt hv
  obtain ⟨rfl, hsz, hP, hE, hX, hZ⟩ := hv
  have hK := hE.1
  subst hsz
  have hS : va_S (fun q => s.heap.size ≤ q) s.heap s.heap [] := va_S.rf
  have hA : ∀ q : Nat, s.heap.size ≤ q → (fun q => s.heap.size ≤ q) q := fun q h => h
  have hP : va_P (dC, dI) vwCl (wObj d0 o F) s.heap := hP
  have hx := B.exec
  have hb := B.bytes
  have hr := B.returns
  have hts := atoms_spec (ws := wnX4_rejectionDemand) B.pre
  have hown : s.vm.findClass RX4 = some m.cls := findClass_of_methodNamed B.named
  have hlocks := B.notSynchronized
  have hin4 : ∀ w ∈ u_ws RX4 TX4 12, w ∈ wnX4_rejectionDemand := by decide +kernel
  have f_241 := hts (.fieldLink RX4 241 "DeadlineAdmission" "rejectedDemand" "I") (by decide +kernel)
  have hl := lv_entry ([.ref d0]) (n := 1) (Nat.le_of_ble_eq_true rfl)
  rw [lg_entry_eq]
  generalize (lg_sl ([.ref d0]) ++ List.replicate (1 - (lg_sl ([.ref d0])).length) Slot.unset).toArray = ls at hl ⊢
  have hl : lv_has ls 1 [(0, .ref d0)] := hl
  refine lv_aload_n hx hb dX4_rejectionDemand_0 rfl (lv_at hl 0 rfl) ?_
  refine vx_callv (vx_runV (As := []) (rest := []) ⟨hx, hb, hml, hown, hts⟩ (c_N4_requireRejection l hst dC dI cy s.heap.size d0 o F) (cwV 0 hts hX4_rejectionDemand_X4_requireRejection rfl rfl rfl (by decide +kernel) ⟨Nat.le_of_ble_eq_true rfl, Nat.le_of_ble_eq_true rfl⟩) ⟨bl_R, va_recv hK hP (ci := 4) (q0 := 0) rfl rfl, pr_R hP hE hX hZ hS hA⟩ rfl rfl hl.1 rfl (lv_room (Nat.le_of_ble_eq_true rfl)) dX4_rejectionDemand_1 ⟨Nat.le_of_ble_eq_true rfl, Nat.le_of_ble_eq_true rfl⟩) hS (fun q _ h => hA q (Nat.le_trans hS.1 h)) (fun q h => hA q (Nat.le_trans hS.1 h)) (fun q _ h => hA q (Nat.le_trans hS.1 h)) (fun E ce q9 u t H1 locs ht hvm hpx hBX hz1 hk1 hS hce hcv hcl => ?_) (fun u t H1 locs ht hvm hw hB hz1 hk1 hS => ?_)
  · exact vx_out (fun x hx9 => (hnt x hx9).elim) hlocks hce hcv hcl (fun t ht hvm => ⟨(), trivial, hBX, hS.F ht⟩) hS.2.2 (Nat.le_of_ble_eq_true rfl) (Nat.le_of_ble_eq_true rfl)
  have hs9 := hw
  have hP : va_P (dC, dI) vwCl (wObj d0 o F) H1 := hP.kept (fun k q hk => hk1 q.1 ((hP k q hk).lt) (Nat.not_le.mpr ((hP k q hk).lt)))
  clear hz1 hk1
  generalize H1 = H at hP hS ⊢
  refine lv_aload_n hx hb dX4_rejectionDemand_4 rfl (lv_at hl 0 rfl) ?_
  refine va_get (D := (dC, dI)) (ci := 4) (v := .int (F 11)) (C := RX4) (T := TX4) (N := 12) hx hb hts hin4 hown hK hP 0 rfl rfl 11 (by decide) f_241 (fun _ h9 => h9) rfl dX4_rejectionDemand_5 ?_
  refine vx_ret ?_
  refine W.widen (k := 1) (n := 6) (Nat.le_of_ble_eq_true rfl) (Nat.le_of_ble_eq_true rfl) ?_
  exact W.iret (v := F 11) hx hb hr (fun t ht hW => ⟨⟨F 11, (), rfl, ⟨hs9, rfl⟩, trivial⟩, hS.F ht⟩) hS.2.2 dX4_rejectionDemand_8
set_option maxHeartbeats 1000000 in
set_option maxRecDepth 100000 in
/-- response -/
theorem c_N4_response (l : Launch) (hst : l.stackTraces = false) (dC : Nat → ClassId) (dI : Nat → Nat → Nat) (cy : Nat → ClassId) (sz : Nat) (d0 : Nat) (o : Nat → Nat) (F : Nat → Int32) (bc : Nat → Nat) (G : vG) (n : Nat) (hn : n ≤ 8) (sc : Int32) (z : Nat → Nat) (M : Nat → Int32) (GR : Nat → Int32) (hGR : ∀ i, i < 8 → ¬ GR i < 0) (p0 : Int32) : vx_Met l yX4_response wnX4_response ({ frames := 7, cells := 3, slots := 18, locals := 103 }) (va_Pc [.ref d0, .int p0] (pR dC dI cy (wObj d0 o F ++ (wCfg cy (o 0) bc G (nI n) sc ++ (wSim (o 5) z M ++ ([((z 5), .inl ((cy 0), 8, .inl GR))])))) sz)) (va_Qi (fun (r : Int32) (_ : Unit) => cRes n (F 7) GR p0 = 0 ∧ r = GR p0.toNatClampNeg) (fun (_ : Unit) (_ : State) => True) (fun q => sz ≤ q)) (vx_X (fun (_ : Unit) => True) (fun (E : String) (_ : Unit) (_ : State) => (E = "java/lang/IndexOutOfBoundsException" ∧ cRes n (F 7) GR p0 = 1) ∨ (E = "java/lang/IllegalStateException" ∧ cRes n (F 7) GR p0 = 2) ∨ (E = "java/util/NoSuchElementException" ∧ cRes n (F 7) GR p0 = 3)) (fun q => sz ≤ q)) 3 18 (fun q => sz ≤ q) := by
  refine vx_ofW (cc := cX4_response) (maxL := 2) (ret := some .int) (by decide) rfl ?_
  intro p e s m args below meth c s₁ B hml hnt hv
  obtain ⟨rfl, hsz, hP, hE, hX, hZ⟩ := hv
  have hK := hE.1
  subst hsz
  have hS : va_S (fun q => s.heap.size ≤ q) s.heap s.heap [] := va_S.rf
  have hA : ∀ q : Nat, s.heap.size ≤ q → (fun q => s.heap.size ≤ q) q := fun q h => h
  have hP : va_P (dC, dI) vwCl (wObj d0 o F ++ (wCfg cy (o 0) bc G (nI n) sc ++ (wSim (o 5) z M ++ ([((z 5), .inl ((cy 0), 8, .inl GR))])))) s.heap := hP
  have hx := B.exec
  have hb := B.bytes
  have hr := B.returns
  have hts := atoms_spec (ws := wnX4_response) B.pre
  have hown : s.vm.findClass RX4 = some m.cls := findClass_of_methodNamed B.named
  have hlocks := B.notSynchronized
  have hin2 : ∀ w ∈ u_ws RX2 TX2 15, w ∈ wnX4_response := by decide +kernel
  have hin4 : ∀ w ∈ u_ws RX4 TX4 12, w ∈ wnX4_response := by decide +kernel
  have f_270 := va_Nw.use (A := ([.ref d0, .int p0].toArray)) rfl (hE.f 17 rfl)
  have f_39 := hts (.fieldLink RX4 39 "DeadlineAdmission" "simulation" "LDeadlineAdmission$Simulation;") (by decide +kernel)
  have hl := lv_entry ([.ref d0, .int p0]) (n := 2) (Nat.le_of_ble_eq_true rfl)
  rw [lg_entry_eq]
  generalize (lg_sl ([.ref d0, .int p0]) ++ List.replicate (2 - (lg_sl ([.ref d0, .int p0])).length) Slot.unset).toArray = ls at hl ⊢
  have hl : lv_has ls 2 [(0, .ref d0), (1, .int p0)] := hl
  refine lv_aload_n hx hb dX4_response_0 rfl (lv_at hl 0 rfl) ?_
  refine lv_iload_n hx hb dX4_response_1 rfl (lv_at hl 1 rfl) ?_
  refine vx_callv (vx_runV (As := [.int p0]) (rest := []) ⟨hx, hb, hml, hown, hts⟩ (c_X4_requireTask l hst dC dI cy s.heap.size d0 o F bc G n hn sc p0) (cwV 1 hts hX4_response_X4_requireTask rfl rfl rfl (by decide +kernel) ⟨Nat.le_of_ble_eq_true rfl, Nat.le_of_ble_eq_true rfl⟩) ⟨bl_R, va_recv hK (hP.sub (ws' := wObj d0 o F ++ (wCfg cy (o 0) bc G (nI n) sc)) [0, 1, 2, 3, 4, 5, 6, 7, 8] rfl) (ci := 4) (q0 := 0) rfl rfl, pr_R (hP.sub (ws' := wObj d0 o F ++ (wCfg cy (o 0) bc G (nI n) sc)) [0, 1, 2, 3, 4, 5, 6, 7, 8] rfl) hE hX hZ hS hA⟩ rfl rfl hl.1 rfl (lv_room (Nat.le_of_ble_eq_true rfl)) dX4_response_2 ⟨Nat.le_of_ble_eq_true rfl, Nat.le_of_ble_eq_true rfl⟩) hS (fun q _ h => hA q (Nat.le_trans hS.1 h)) (fun q h => hA q (Nat.le_trans hS.1 h)) (fun q _ h => hA q (Nat.le_trans hS.1 h)) (fun E ce q9 u t H1 locs ht hvm hpx hBX hz1 hk1 hS hce hcv hcl => ?_) (fun u t H1 locs ht hvm hw hB hz1 hk1 hS => ?_)
  · exact vx_out (fun x hx9 => (hnt x hx9).elim) hlocks hce hcv hcl (fun t ht hvm => ⟨(), trivial, (Or.inl ⟨hBX.1, if_neg (fun h => absurd (hBX.2.symm.trans h) (by decide))⟩), hS.F ht⟩) hS.2.2 (Nat.le_of_ble_eq_true rfl) (Nat.le_of_ble_eq_true rfl)
  obtain ⟨i, hin, rfl⟩ := cT_get hn hw
  have hP : va_P (dC, dI) vwCl (wObj d0 o F ++ (wCfg cy (o 0) bc G (nI n) sc ++ (wSim (o 5) z M ++ ([((z 5), .inl ((cy 0), 8, .inl GR))])))) H1 := hP.kept (fun k q hk => hk1 q.1 ((hP k q hk).lt) (Nat.not_le.mpr ((hP k q hk).lt)))
  clear hz1 hk1
  generalize H1 = H at hP hS ⊢
  refine lv_aload_n hx hb dX4_response_5 rfl (lv_at hl 0 rfl) ?_
  refine vx_callv (vx_runV (As := []) (rest := []) ⟨hx, hb, hml, hown, hts⟩ (c_X4_requireSimulation l hst dC dI cy H.size d0 o F) (cwV 0 hts hX4_response_X4_requireSimulation rfl rfl rfl (by decide +kernel) ⟨Nat.le_of_ble_eq_true rfl, Nat.le_of_ble_eq_true rfl⟩) ⟨bl_R, va_recv hK (hP.sub (ws' := wObj d0 o F) [0] rfl) (ci := 4) (q0 := 0) rfl rfl, pr_R (hP.sub (ws' := wObj d0 o F) [0] rfl) hE hX hZ hS hA⟩ rfl rfl hl.1 rfl (lv_room (Nat.le_of_ble_eq_true rfl)) dX4_response_6 ⟨Nat.le_of_ble_eq_true rfl, Nat.le_of_ble_eq_true rfl⟩) hS (fun q _ h => hA q (Nat.le_trans hS.1 h)) (fun q h => hA q (Nat.le_trans hS.1 h)) (fun q _ h => hA q (Nat.le_trans hS.1 h)) (fun E ce q9 u t H1 locs ht hvm hpx hBX hz1 hk1 hS hce hcv hcl => ?_) (fun u t H1 locs ht hvm hw hB hz1 hk1 hS => ?_)
  · exact vx_out (fun x hx9 => (hnt x hx9).elim) hlocks hce hcv hcl (fun t ht hvm => ⟨(), trivial, (Or.inr (Or.inl ⟨hBX.1, by rw [cRes, if_pos (cT_ok hn hin), if_pos (c01_1 hBX.2)]⟩)), hS.F ht⟩) hS.2.2 (Nat.le_of_ble_eq_true rfl) (Nat.le_of_ble_eq_true rfl)
  have hs9 := hw
  have hP : va_P (dC, dI) vwCl (wObj d0 o F ++ (wCfg cy (o 0) bc G (nI n) sc ++ (wSim (o 5) z M ++ ([((z 5), .inl ((cy 0), 8, .inl GR))])))) H1 := hP.kept (fun k q hk => hk1 q.1 ((hP k q hk).lt) (Nat.not_le.mpr ((hP k q hk).lt)))
  clear hz1 hk1
  generalize H1 = H at hP hS ⊢
  refine lv_aload_n hx hb dX4_response_9 rfl (lv_at hl 0 rfl) ?_
  refine va_get (D := (dC, dI)) (ci := 4) (v := .ref (o 5)) (C := RX4) (T := TX4) (N := 12) hx hb hts hin4 hown hK hP 0 rfl rfl 5 (by decide) f_39 (fun _ h9 => h9) rfl dX4_response_10 ?_
  refine va_getN (D := (dC, dI)) (ci := 2) (v := .ref (z 5)) (C := RX2) (T := TX2) (N := 15) hx hb hts hin2 hown hK hP 9 rfl rfl 5 (by decide) f_270 (fun _ h9 => h9) rfl dX4_response_13 ?_
  refine lv_iload_n hx hb dX4_response_16 rfl (lv_at hl 1 rfl) ?_
  refine wI_alv (v := GR i) hx hb hK hP 10 0 rfl rfl i rfl (by omega) (by decide) rfl dX4_response_17 ?_
  refine lv_if_ne (tgt := 32) hx hb dX4_response_18 (by decide) (fun c_18 => ?_) (fun c_18 => ?_)
  · refine lv_aload_n hx hb dX4_response_32 rfl (lv_at hl 0 rfl) ?_
    refine va_get (D := (dC, dI)) (ci := 4) (v := .ref (o 5)) (C := RX4) (T := TX4) (N := 12) hx hb hts hin4 hown hK hP 0 rfl rfl 5 (by decide) f_39 (fun _ h9 => h9) rfl dX4_response_33 ?_
    refine va_getN (D := (dC, dI)) (ci := 2) (v := .ref (z 5)) (C := RX2) (T := TX2) (N := 15) hx hb hts hin2 hown hK hP 9 rfl rfl 5 (by decide) f_270 (fun _ h9 => h9) rfl dX4_response_36 ?_
    refine lv_iload_n hx hb dX4_response_39 rfl (lv_at hl 1 rfl) ?_
    refine wI_alv (v := GR i) hx hb hK hP 10 0 rfl rfl i rfl (by omega) (by decide) rfl dX4_response_40 ?_
    refine vx_ret ?_
    refine W.widen (k := 3) (n := 18) (Nat.le_of_ble_eq_true rfl) (Nat.le_of_ble_eq_true rfl) ?_
    exact W.iret (v := GR i) hx hb hr (fun t ht hW => ⟨⟨GR i, (), rfl, ⟨by rw [cRes, if_pos (cT_ok hn hin), if_neg (c01_0 hs9), nI_clamp (by omega), if_neg (fun h => c_18 (Int32.le_antisymm h (Int32.not_lt.mp (hGR i (by omega)))))], by rw [nI_clamp (by omega)]⟩, trivial⟩, hS.F ht⟩) hS.2.2 dX4_response_41
  · obtain ⟨sa, hsa⟩ := hX.s 15 (k := 275) (t := "no job of the task was completed") rfl
    exact vx_throwN (Y0 := "java/lang/RuntimeException") (names := ["java/lang/Exception"]) hx hb hst hown (by decide +kernel) (by decide +kernel) (by decide +kernel) (hts (.classLink RX4 273 "java/util/NoSuchElementException") (by decide +kernel)) (hts (.initialized "java/util/NoSuchElementException") (by decide +kernel)) hsa (vx_hat (fun w h => hts w (List.mem_cons_of_mem _ (List.mem_append_left _ (List.mem_append_left _ (List.mem_append_right _ h))))) ngN_NSEE (vx_c (va_Nw.use rfl (hX.c 4 rfl)) (vx_c (va_Nw.use rfl (hX.d 0 rfl)) (vx_c (va_Nw.use rfl (hX.d 1 rfl)) (vx_c (va_Nw.use rfl (hX.d 2 rfl)) vx_n))))) otN_NSEE hZ.1 hZ.2 hS (hl.1.trans hml.symm) dX4_response_21 dX4_response_24 dX4_response_25 dX4_response_28 dX4_response_31 (fun x hx9 => (hnt x hx9).elim) (Nat.le_of_ble_eq_true rfl) (Nat.le_of_ble_eq_true rfl) (Nat.le_of_ble_eq_true rfl) (Nat.le_of_ble_eq_true rfl) hlocks (fun t hvm hz hk => ⟨(), trivial, Or.inr (Or.inr ⟨rfl, by rw [cRes, if_pos (cT_ok hn hin), if_neg (c01_0 hs9), nI_clamp (by omega), c_18]; rfl⟩), ⟨Nat.le_trans hS.1 hz, fun q h1 h2 => (hk q (Nat.lt_of_lt_of_le h1 hS.1)).trans (hS.2.1 q h1 h2)⟩⟩) hS.2.2 (Nat.le_of_ble_eq_true rfl) (Nat.le_of_ble_eq_true rfl)
set_option maxHeartbeats 1000000 in
set_option maxRecDepth 100000 in
/-- the law's rejectionMode -/
theorem c_NL_rejectionMode (l : Launch) (hst : l.stackTraces = false) (dC : Nat → ClassId) (dI : Nat → Nat → Nat) (cy : Nat → ClassId) (sz : Nat) (d0 : Nat) (o bc bt bv : Nat → Nat) (rg : Nat) (cs : Nat → Nat) (bs : Nat → Nat → Nat) (ta tb : Nat) (z bq rt : Nat → Nat) (F : Nat → Int32) (G : vG) (n : Nat) (sc : Int32) (Gt : vG) (nt : Nat) (sct : Int32) (x kk : Nat) (RG : Nat → vG) (rn : Nat → Nat) (RS : Nat → Int32) (Gv : vG) (nv9 : Nat) (scv : Int32) (C N : Nat → Int32) (L : Nat) (fl : Int32) (M : Nat → Int32) (Gz : vG) (nz : Nat) (scz : Int32) (Q T : vG) (hk : KOk ((F, (G, n, sc), (Gt, nt, sct), (x, kk, RG, rn, RS)), (Gv, nv9, scv), (C, N, L, fl), (M, (Gz, nz, scz), Q, T))) (oq : Nat) (y : Int64) : metL l yL_rejectionMode wnL_rejectionMode ({ frames := 8, cells := 1, slots := 6, locals := 122 }) [.ref d0, .ref oq] dC dI cy (d0, o, bc, bt, bv, rg, cs, bs, ta, tb, z, bq, rt) oq sz ((F, (G, n, sc), (Gt, nt, sct), (x, kk, RG, rn, RS)), (Gv, nv9, scv), (C, N, L, fl), (M, (Gz, nz, scz), Q, T)) y (rdL ((F, (G, n, sc), (Gt, nt, sct), (x, kk, RG, rn, RS)), (Gv, nv9, scv), (C, N, L, fl), (M, (Gz, nz, scz), Q, T)) (c01 (F 8)) ((F 9).toInt64)) 1 6 := by
  unfold metL
  refine vn_ofH (cc := cL_rejectionMode) (maxL := 3) (ret := some .int) (hh := [(0, 8, 11, 92)]) (by decide) rfl ?_
  intro p e s m args below meth c s₁ B hml hv
  obtain ⟨rfl, hsz, hP, hE, hD0, hX, hZ, hV⟩ := hv
  have hK := hE.1
  subst hsz
  have hD := hD0.self (sz := s.heap.size)
  generalize hAe : va_A (wK cy (d0, o, bc, bt, bv, rg, cs, bs, ta, tb, z, bq, rt) ((F, (G, n, sc), (Gt, nt, sct), (x, kk, RG, rn, RS)), (Gv, nv9, scv), (C, N, L, fl), (M, (Gz, nz, scz), Q, T)) ++ oL cy oq y) s.heap.size = A at hD hZ ⊢
  have hA : ∀ q : Nat, s.heap.size ≤ q → A q := fun q h => by rw [← hAe]; exact Or.inr h
  have hS : va_S A s.heap s.heap [] := va_S.rf
  obtain ⟨hn, hnt, hx6, hkk, hrn, hnv, hL, hnz, hG, hsc, hd0, hd1, hGR⟩ := hk
  have hB : BP (dC, dI) vwCl [wObj d0 o F, wCfg cy (o 0) bc G (nI n) sc, wCfg cy (o 1) bt Gt (nI nt) sct, wHis cy (o 3) rg x kk cs bs RG rn RS, wCfg cy (o 2) bv Gv (nI nv9) scv, wTxt cy (o 4) ta tb C N (nI L) fl, wSim (o 5) z M, wCfg cy (z 0) bq Gz (nI nz) scz, wArr cy z rt Q T, oL cy oq y] s.heap := wKo_P.mp hP
  have hBD : BD A [wObj d0 o F, wCfg cy (o 0) bc G (nI n) sc, wCfg cy (o 1) bt Gt (nI nt) sct, wHis cy (o 3) rg x kk cs bs RG rn RS, wCfg cy (o 2) bv Gv (nI nv9) scv, wTxt cy (o 4) ta tb C N (nI L) fl, wSim (o 5) z M, wCfg cy (z 0) bq Gz (nI nz) scz, wArr cy z rt Q T, oL cy oq y] := wKo_D.mp hD
  have hx := B.exec
  have hb := B.bytes
  have hr := B.returns
  have hts := atoms_spec (ws := wnL_rejectionMode) B.pre
  have hown : s.vm.findClass RL = some m.cls := findClass_of_methodNamed B.named
  have htb := vx_table (x := yL_rejectionMode) B (hts (.codeWith yL_rejectionMode cL_rejectionMode 3 (some .int) [(0, 8, 11, 92)]) (List.mem_of_getElem? (i := 0) rfl))
  have hl := lv_entry ([.ref d0, .ref oq]) (n := 3) (Nat.le_of_ble_eq_true rfl)
  rw [lg_entry_eq]
  generalize (lg_sl ([.ref d0, .ref oq]) ++ List.replicate (3 - (lg_sl ([.ref d0, .ref oq])).length) Slot.unset).toArray = ls at hl ⊢
  have hl : lv_has ls 3 [(0, .ref d0), (1, .ref oq)] := hl
  refine lv_aload_n hx hb dL_rejectionMode_0 rfl (lv_at hl 1 rfl) ?_
  refine lv_iconst (v := 0) hx hb dL_rejectionMode_1 (by decide) ?_
  refine lv_aload_n hx hb dL_rejectionMode_2 rfl (lv_at hl 0 rfl) ?_
  have hPc : va_P (dC, dI) vwCl (wObj d0 o F) s.heap := gl_P.mpr (hB.sub (bs' := [wObj d0 o F]) [0] rfl)
  refine vx_calli (vx_runV (As := []) (rest := [.int 0, .ref oq]) ⟨hx, hb, hml, hown, hts⟩ (c_N4_rejectionMode l hst dC dI cy s.heap.size d0 o F) (cwV 0 hts hL_rejectionMode_X4_rejectionMode rfl rfl rfl (by decide +kernel) ⟨Nat.le_of_ble_eq_true rfl, Nat.le_of_ble_eq_true rfl⟩) ⟨bl_R, va_recv hK hPc (ci := 4) (q0 := 0) rfl rfl, pr_R hPc hE hX hZ hS hA⟩ rfl rfl hl.1 rfl (lv_room (Nat.le_of_ble_eq_true rfl)) dL_rejectionMode_3 ⟨Nat.le_of_ble_eq_true rfl, Nat.le_of_ble_eq_true rfl⟩) hS (fun q _ h => hA q (Nat.le_trans hS.1 h)) (fun q h => hA q (Nat.le_trans hS.1 h)) (fun q _ h => hA q (Nat.le_trans hS.1 h)) (fun E ce q9 u t H1 locs ht hvm hpx hBX hz1 hk1 hS hce hcv hcl => ?_) (fun r u t H1 locs ht hvm hw hB9 hz1 hk1 hS => ?_)
  · have hP : va_P (dC, dI) vwCl (wK cy (d0, o, bc, bt, bv, rg, cs, bs, ta, tb, z, bq, rt) ((F, (G, n, sc), (Gt, nt, sct), (x, kk, RG, rn, RS)), (Gv, nv9, scv), (C, N, L, fl), (M, (Gz, nz, scz), Q, T)) ++ oL cy oq y) H1 := wKo_P.mpr (hB.kept (fun q h => hk1 q h (Nat.not_le.mpr h)))
    obtain ⟨rfl, hc9⟩ := hBX
    refine vx_catch (name := "java/util/NoSuchElementException") hown [] ⟨0, 8, 11, 92⟩ [] (htb.trans rfl) (fun z hz => by simp at hz) (by decide) (by decide) (hts (.classLink RL 92 "java/util/NoSuchElementException") (by decide +kernel)) (va_Nw.use rfl (hX.c 4 rfl)) hce hcv hcl ?_
    refine lv_astore_n (lv' := (2, .ref q9) :: [(0, .ref d0), (1, .ref oq)]) hx hb dL_rejectionMode_11 rfl hl (by decide) rfl (fun ls hl => ?_)
    refine lv_iconst (v := 1) hx hb dL_rejectionMode_12 (by decide) ?_
    exact W.iret (v := 1) hx hb hr (fun t ht hW => ⟨⟨1, (((F, (G, n, sc), (Gt, nt, sct), (x, kk, RG, rn, RS)), (Gv, nv9, scv), (C, N, L, fl), (M, (Gz, nz, scz), Q, T)), y), rfl, ⟨rfl, hc9.symm, fun h9 => absurd (hc9.symm.trans h9) (by decide)⟩, by rw [ht]; exact hP, hD⟩, hS.F ht⟩) hS.2.2 dL_rejectionMode_13
  obtain ⟨hc9, rfl⟩ := hw
  have hP : va_P (dC, dI) vwCl (wK cy (d0, o, bc, bt, bv, rg, cs, bs, ta, tb, z, bq, rt) ((F, (G, n, sc), (Gt, nt, sct), (x, kk, RG, rn, RS)), (Gv, nv9, scv), (C, N, L, fl), (M, (Gz, nz, scz), Q, T)) ++ oL cy oq y) H1 := wKo_P.mpr (hB.kept (fun q h => hk1 q h (Nat.not_le.mpr h)))
  clear hz1 hk1
  generalize H1 = H at hP hS ⊢
  refine lv_i2l hx hb dL_rejectionMode_6 rfl ?_
  refine vn_last hx hb hK hP hD hS 3 rfl dL_rejectionMode_7 (fun H locs hP hD hS => ?_)
  refine lv_goto (tgt := 14) hx hb dL_rejectionMode_8 (by decide) ?_
  refine lv_iconst (v := 0) hx hb dL_rejectionMode_14 (by decide) ?_
  exact W.iret (v := 0) hx hb hr (fun t ht hW => ⟨⟨0, (((F, (G, n, sc), (Gt, nt, sct), (x, kk, RG, rn, RS)), (Gv, nv9, scv), (C, N, L, fl), (M, (Gz, nz, scz), Q, T)), _), rfl, ⟨rfl, hc9.symm, fun _ => rfl⟩, by rw [ht]; exact hP, hD⟩, hS.F ht⟩) hS.2.2 dL_rejectionMode_15
set_option maxHeartbeats 1000000 in
set_option maxRecDepth 100000 in
/-- the law's rejectionLength -/
theorem c_NL_rejectionLength (l : Launch) (hst : l.stackTraces = false) (dC : Nat → ClassId) (dI : Nat → Nat → Nat) (cy : Nat → ClassId) (sz : Nat) (d0 : Nat) (o bc bt bv : Nat → Nat) (rg : Nat) (cs : Nat → Nat) (bs : Nat → Nat → Nat) (ta tb : Nat) (z bq rt : Nat → Nat) (F : Nat → Int32) (G : vG) (n : Nat) (sc : Int32) (Gt : vG) (nt : Nat) (sct : Int32) (x kk : Nat) (RG : Nat → vG) (rn : Nat → Nat) (RS : Nat → Int32) (Gv : vG) (nv9 : Nat) (scv : Int32) (C N : Nat → Int32) (L : Nat) (fl : Int32) (M : Nat → Int32) (Gz : vG) (nz : Nat) (scz : Int32) (Q T : vG) (hk : KOk ((F, (G, n, sc), (Gt, nt, sct), (x, kk, RG, rn, RS)), (Gv, nv9, scv), (C, N, L, fl), (M, (Gz, nz, scz), Q, T))) (oq : Nat) (y : Int64) : metL l yL_rejectionLength wnL_rejectionLength ({ frames := 8, cells := 1, slots := 6, locals := 122 }) [.ref d0, .ref oq] dC dI cy (d0, o, bc, bt, bv, rg, cs, bs, ta, tb, z, bq, rt) oq sz ((F, (G, n, sc), (Gt, nt, sct), (x, kk, RG, rn, RS)), (Gv, nv9, scv), (C, N, L, fl), (M, (Gz, nz, scz), Q, T)) y (rdL ((F, (G, n, sc), (Gt, nt, sct), (x, kk, RG, rn, RS)), (Gv, nv9, scv), (C, N, L, fl), (M, (Gz, nz, scz), Q, T)) (c01 (F 8)) ((F 10).toInt64)) 1 6 := by
  unfold metL
  refine vn_ofH (cc := cL_rejectionLength) (maxL := 3) (ret := some .int) (hh := [(0, 8, 11, 92)]) (by decide) rfl ?_
  intro p e s m args below meth c s₁ B hml hv
  obtain ⟨rfl, hsz, hP, hE, hD0, hX, hZ, hV⟩ := hv
  have hK := hE.1
  subst hsz
  have hD := hD0.self (sz := s.heap.size)
  generalize hAe : va_A (wK cy (d0, o, bc, bt, bv, rg, cs, bs, ta, tb, z, bq, rt) ((F, (G, n, sc), (Gt, nt, sct), (x, kk, RG, rn, RS)), (Gv, nv9, scv), (C, N, L, fl), (M, (Gz, nz, scz), Q, T)) ++ oL cy oq y) s.heap.size = A at hD hZ ⊢
  have hA : ∀ q : Nat, s.heap.size ≤ q → A q := fun q h => by rw [← hAe]; exact Or.inr h
  have hS : va_S A s.heap s.heap [] := va_S.rf
  obtain ⟨hn, hnt, hx6, hkk, hrn, hnv, hL, hnz, hG, hsc, hd0, hd1, hGR⟩ := hk
  have hB : BP (dC, dI) vwCl [wObj d0 o F, wCfg cy (o 0) bc G (nI n) sc, wCfg cy (o 1) bt Gt (nI nt) sct, wHis cy (o 3) rg x kk cs bs RG rn RS, wCfg cy (o 2) bv Gv (nI nv9) scv, wTxt cy (o 4) ta tb C N (nI L) fl, wSim (o 5) z M, wCfg cy (z 0) bq Gz (nI nz) scz, wArr cy z rt Q T, oL cy oq y] s.heap := wKo_P.mp hP
  have hBD : BD A [wObj d0 o F, wCfg cy (o 0) bc G (nI n) sc, wCfg cy (o 1) bt Gt (nI nt) sct, wHis cy (o 3) rg x kk cs bs RG rn RS, wCfg cy (o 2) bv Gv (nI nv9) scv, wTxt cy (o 4) ta tb C N (nI L) fl, wSim (o 5) z M, wCfg cy (z 0) bq Gz (nI nz) scz, wArr cy z rt Q T, oL cy oq y] := wKo_D.mp hD
  have hx := B.exec
  have hb := B.bytes
  have hr := B.returns
  have hts := atoms_spec (ws := wnL_rejectionLength) B.pre
  have hown : s.vm.findClass RL = some m.cls := findClass_of_methodNamed B.named
  have htb := vx_table (x := yL_rejectionLength) B (hts (.codeWith yL_rejectionLength cL_rejectionLength 3 (some .int) [(0, 8, 11, 92)]) (List.mem_of_getElem? (i := 0) rfl))
  have hl := lv_entry ([.ref d0, .ref oq]) (n := 3) (Nat.le_of_ble_eq_true rfl)
  rw [lg_entry_eq]
  generalize (lg_sl ([.ref d0, .ref oq]) ++ List.replicate (3 - (lg_sl ([.ref d0, .ref oq])).length) Slot.unset).toArray = ls at hl ⊢
  have hl : lv_has ls 3 [(0, .ref d0), (1, .ref oq)] := hl
  refine lv_aload_n hx hb dL_rejectionLength_0 rfl (lv_at hl 1 rfl) ?_
  refine lv_iconst (v := 0) hx hb dL_rejectionLength_1 (by decide) ?_
  refine lv_aload_n hx hb dL_rejectionLength_2 rfl (lv_at hl 0 rfl) ?_
  have hPc : va_P (dC, dI) vwCl (wObj d0 o F) s.heap := gl_P.mpr (hB.sub (bs' := [wObj d0 o F]) [0] rfl)
  refine vx_calli (vx_runV (As := []) (rest := [.int 0, .ref oq]) ⟨hx, hb, hml, hown, hts⟩ (c_N4_rejectionLength l hst dC dI cy s.heap.size d0 o F) (cwV 0 hts hL_rejectionLength_X4_rejectionLength rfl rfl rfl (by decide +kernel) ⟨Nat.le_of_ble_eq_true rfl, Nat.le_of_ble_eq_true rfl⟩) ⟨bl_R, va_recv hK hPc (ci := 4) (q0 := 0) rfl rfl, pr_R hPc hE hX hZ hS hA⟩ rfl rfl hl.1 rfl (lv_room (Nat.le_of_ble_eq_true rfl)) dL_rejectionLength_3 ⟨Nat.le_of_ble_eq_true rfl, Nat.le_of_ble_eq_true rfl⟩) hS (fun q _ h => hA q (Nat.le_trans hS.1 h)) (fun q h => hA q (Nat.le_trans hS.1 h)) (fun q _ h => hA q (Nat.le_trans hS.1 h)) (fun E ce q9 u t H1 locs ht hvm hpx hBX hz1 hk1 hS hce hcv hcl => ?_) (fun r u t H1 locs ht hvm hw hB9 hz1 hk1 hS => ?_)
  · have hP : va_P (dC, dI) vwCl (wK cy (d0, o, bc, bt, bv, rg, cs, bs, ta, tb, z, bq, rt) ((F, (G, n, sc), (Gt, nt, sct), (x, kk, RG, rn, RS)), (Gv, nv9, scv), (C, N, L, fl), (M, (Gz, nz, scz), Q, T)) ++ oL cy oq y) H1 := wKo_P.mpr (hB.kept (fun q h => hk1 q h (Nat.not_le.mpr h)))
    obtain ⟨rfl, hc9⟩ := hBX
    refine vx_catch (name := "java/util/NoSuchElementException") hown [] ⟨0, 8, 11, 92⟩ [] (htb.trans rfl) (fun z hz => by simp at hz) (by decide) (by decide) (hts (.classLink RL 92 "java/util/NoSuchElementException") (by decide +kernel)) (va_Nw.use rfl (hX.c 4 rfl)) hce hcv hcl ?_
    refine lv_astore_n (lv' := (2, .ref q9) :: [(0, .ref d0), (1, .ref oq)]) hx hb dL_rejectionLength_11 rfl hl (by decide) rfl (fun ls hl => ?_)
    refine lv_iconst (v := 1) hx hb dL_rejectionLength_12 (by decide) ?_
    exact W.iret (v := 1) hx hb hr (fun t ht hW => ⟨⟨1, (((F, (G, n, sc), (Gt, nt, sct), (x, kk, RG, rn, RS)), (Gv, nv9, scv), (C, N, L, fl), (M, (Gz, nz, scz), Q, T)), y), rfl, ⟨rfl, hc9.symm, fun h9 => absurd (hc9.symm.trans h9) (by decide)⟩, by rw [ht]; exact hP, hD⟩, hS.F ht⟩) hS.2.2 dL_rejectionLength_13
  obtain ⟨hc9, rfl⟩ := hw
  have hP : va_P (dC, dI) vwCl (wK cy (d0, o, bc, bt, bv, rg, cs, bs, ta, tb, z, bq, rt) ((F, (G, n, sc), (Gt, nt, sct), (x, kk, RG, rn, RS)), (Gv, nv9, scv), (C, N, L, fl), (M, (Gz, nz, scz), Q, T)) ++ oL cy oq y) H1 := wKo_P.mpr (hB.kept (fun q h => hk1 q h (Nat.not_le.mpr h)))
  clear hz1 hk1
  generalize H1 = H at hP hS ⊢
  refine lv_i2l hx hb dL_rejectionLength_6 rfl ?_
  refine vn_last hx hb hK hP hD hS 3 rfl dL_rejectionLength_7 (fun H locs hP hD hS => ?_)
  refine lv_goto (tgt := 14) hx hb dL_rejectionLength_8 (by decide) ?_
  refine lv_iconst (v := 0) hx hb dL_rejectionLength_14 (by decide) ?_
  exact W.iret (v := 0) hx hb hr (fun t ht hW => ⟨⟨0, (((F, (G, n, sc), (Gt, nt, sct), (x, kk, RG, rn, RS)), (Gv, nv9, scv), (C, N, L, fl), (M, (Gz, nz, scz), Q, T)), _), rfl, ⟨rfl, hc9.symm, fun _ => rfl⟩, by rw [ht]; exact hP, hD⟩, hS.F ht⟩) hS.2.2 dL_rejectionLength_15
set_option maxHeartbeats 1000000 in
set_option maxRecDepth 100000 in
/-- the law's rejectionDemand -/
theorem c_NL_rejectionDemand (l : Launch) (hst : l.stackTraces = false) (dC : Nat → ClassId) (dI : Nat → Nat → Nat) (cy : Nat → ClassId) (sz : Nat) (d0 : Nat) (o bc bt bv : Nat → Nat) (rg : Nat) (cs : Nat → Nat) (bs : Nat → Nat → Nat) (ta tb : Nat) (z bq rt : Nat → Nat) (F : Nat → Int32) (G : vG) (n : Nat) (sc : Int32) (Gt : vG) (nt : Nat) (sct : Int32) (x kk : Nat) (RG : Nat → vG) (rn : Nat → Nat) (RS : Nat → Int32) (Gv : vG) (nv9 : Nat) (scv : Int32) (C N : Nat → Int32) (L : Nat) (fl : Int32) (M : Nat → Int32) (Gz : vG) (nz : Nat) (scz : Int32) (Q T : vG) (hk : KOk ((F, (G, n, sc), (Gt, nt, sct), (x, kk, RG, rn, RS)), (Gv, nv9, scv), (C, N, L, fl), (M, (Gz, nz, scz), Q, T))) (oq : Nat) (y : Int64) : metL l yL_rejectionDemand wnL_rejectionDemand ({ frames := 8, cells := 1, slots := 6, locals := 122 }) [.ref d0, .ref oq] dC dI cy (d0, o, bc, bt, bv, rg, cs, bs, ta, tb, z, bq, rt) oq sz ((F, (G, n, sc), (Gt, nt, sct), (x, kk, RG, rn, RS)), (Gv, nv9, scv), (C, N, L, fl), (M, (Gz, nz, scz), Q, T)) y (rdL ((F, (G, n, sc), (Gt, nt, sct), (x, kk, RG, rn, RS)), (Gv, nv9, scv), (C, N, L, fl), (M, (Gz, nz, scz), Q, T)) (c01 (F 8)) ((F 11).toInt64)) 1 6 := by
  unfold metL
  refine vn_ofH (cc := cL_rejectionDemand) (maxL := 3) (ret := some .int) (hh := [(0, 8, 11, 92)]) (by decide) rfl ?_
  intro p e s m args below meth c s₁ B hml hv
  obtain ⟨rfl, hsz, hP, hE, hD0, hX, hZ, hV⟩ := hv
  have hK := hE.1
  subst hsz
  have hD := hD0.self (sz := s.heap.size)
  generalize hAe : va_A (wK cy (d0, o, bc, bt, bv, rg, cs, bs, ta, tb, z, bq, rt) ((F, (G, n, sc), (Gt, nt, sct), (x, kk, RG, rn, RS)), (Gv, nv9, scv), (C, N, L, fl), (M, (Gz, nz, scz), Q, T)) ++ oL cy oq y) s.heap.size = A at hD hZ ⊢
  have hA : ∀ q : Nat, s.heap.size ≤ q → A q := fun q h => by rw [← hAe]; exact Or.inr h
  have hS : va_S A s.heap s.heap [] := va_S.rf
  obtain ⟨hn, hnt, hx6, hkk, hrn, hnv, hL, hnz, hG, hsc, hd0, hd1, hGR⟩ := hk
  have hB : BP (dC, dI) vwCl [wObj d0 o F, wCfg cy (o 0) bc G (nI n) sc, wCfg cy (o 1) bt Gt (nI nt) sct, wHis cy (o 3) rg x kk cs bs RG rn RS, wCfg cy (o 2) bv Gv (nI nv9) scv, wTxt cy (o 4) ta tb C N (nI L) fl, wSim (o 5) z M, wCfg cy (z 0) bq Gz (nI nz) scz, wArr cy z rt Q T, oL cy oq y] s.heap := wKo_P.mp hP
  have hBD : BD A [wObj d0 o F, wCfg cy (o 0) bc G (nI n) sc, wCfg cy (o 1) bt Gt (nI nt) sct, wHis cy (o 3) rg x kk cs bs RG rn RS, wCfg cy (o 2) bv Gv (nI nv9) scv, wTxt cy (o 4) ta tb C N (nI L) fl, wSim (o 5) z M, wCfg cy (z 0) bq Gz (nI nz) scz, wArr cy z rt Q T, oL cy oq y] := wKo_D.mp hD
  have hx := B.exec
  have hb := B.bytes
  have hr := B.returns
  have hts := atoms_spec (ws := wnL_rejectionDemand) B.pre
  have hown : s.vm.findClass RL = some m.cls := findClass_of_methodNamed B.named
  have htb := vx_table (x := yL_rejectionDemand) B (hts (.codeWith yL_rejectionDemand cL_rejectionDemand 3 (some .int) [(0, 8, 11, 92)]) (List.mem_of_getElem? (i := 0) rfl))
  have hl := lv_entry ([.ref d0, .ref oq]) (n := 3) (Nat.le_of_ble_eq_true rfl)
  rw [lg_entry_eq]
  generalize (lg_sl ([.ref d0, .ref oq]) ++ List.replicate (3 - (lg_sl ([.ref d0, .ref oq])).length) Slot.unset).toArray = ls at hl ⊢
  have hl : lv_has ls 3 [(0, .ref d0), (1, .ref oq)] := hl
  refine lv_aload_n hx hb dL_rejectionDemand_0 rfl (lv_at hl 1 rfl) ?_
  refine lv_iconst (v := 0) hx hb dL_rejectionDemand_1 (by decide) ?_
  refine lv_aload_n hx hb dL_rejectionDemand_2 rfl (lv_at hl 0 rfl) ?_
  have hPc : va_P (dC, dI) vwCl (wObj d0 o F) s.heap := gl_P.mpr (hB.sub (bs' := [wObj d0 o F]) [0] rfl)
  refine vx_calli (vx_runV (As := []) (rest := [.int 0, .ref oq]) ⟨hx, hb, hml, hown, hts⟩ (c_N4_rejectionDemand l hst dC dI cy s.heap.size d0 o F) (cwV 0 hts hL_rejectionDemand_X4_rejectionDemand rfl rfl rfl (by decide +kernel) ⟨Nat.le_of_ble_eq_true rfl, Nat.le_of_ble_eq_true rfl⟩) ⟨bl_R, va_recv hK hPc (ci := 4) (q0 := 0) rfl rfl, pr_R hPc hE hX hZ hS hA⟩ rfl rfl hl.1 rfl (lv_room (Nat.le_of_ble_eq_true rfl)) dL_rejectionDemand_3 ⟨Nat.le_of_ble_eq_true rfl, Nat.le_of_ble_eq_true rfl⟩) hS (fun q _ h => hA q (Nat.le_trans hS.1 h)) (fun q h => hA q (Nat.le_trans hS.1 h)) (fun q _ h => hA q (Nat.le_trans hS.1 h)) (fun E ce q9 u t H1 locs ht hvm hpx hBX hz1 hk1 hS hce hcv hcl => ?_) (fun r u t H1 locs ht hvm hw hB9 hz1 hk1 hS => ?_)
  · have hP : va_P (dC, dI) vwCl (wK cy (d0, o, bc, bt, bv, rg, cs, bs, ta, tb, z, bq, rt) ((F, (G, n, sc), (Gt, nt, sct), (x, kk, RG, rn, RS)), (Gv, nv9, scv), (C, N, L, fl), (M, (Gz, nz, scz), Q, T)) ++ oL cy oq y) H1 := wKo_P.mpr (hB.kept (fun q h => hk1 q h (Nat.not_le.mpr h)))
    obtain ⟨rfl, hc9⟩ := hBX
    refine vx_catch (name := "java/util/NoSuchElementException") hown [] ⟨0, 8, 11, 92⟩ [] (htb.trans rfl) (fun z hz => by simp at hz) (by decide) (by decide) (hts (.classLink RL 92 "java/util/NoSuchElementException") (by decide +kernel)) (va_Nw.use rfl (hX.c 4 rfl)) hce hcv hcl ?_
    refine lv_astore_n (lv' := (2, .ref q9) :: [(0, .ref d0), (1, .ref oq)]) hx hb dL_rejectionDemand_11 rfl hl (by decide) rfl (fun ls hl => ?_)
    refine lv_iconst (v := 1) hx hb dL_rejectionDemand_12 (by decide) ?_
    exact W.iret (v := 1) hx hb hr (fun t ht hW => ⟨⟨1, (((F, (G, n, sc), (Gt, nt, sct), (x, kk, RG, rn, RS)), (Gv, nv9, scv), (C, N, L, fl), (M, (Gz, nz, scz), Q, T)), y), rfl, ⟨rfl, hc9.symm, fun h9 => absurd (hc9.symm.trans h9) (by decide)⟩, by rw [ht]; exact hP, hD⟩, hS.F ht⟩) hS.2.2 dL_rejectionDemand_13
  obtain ⟨hc9, rfl⟩ := hw
  have hP : va_P (dC, dI) vwCl (wK cy (d0, o, bc, bt, bv, rg, cs, bs, ta, tb, z, bq, rt) ((F, (G, n, sc), (Gt, nt, sct), (x, kk, RG, rn, RS)), (Gv, nv9, scv), (C, N, L, fl), (M, (Gz, nz, scz), Q, T)) ++ oL cy oq y) H1 := wKo_P.mpr (hB.kept (fun q h => hk1 q h (Nat.not_le.mpr h)))
  clear hz1 hk1
  generalize H1 = H at hP hS ⊢
  refine lv_i2l hx hb dL_rejectionDemand_6 rfl ?_
  refine vn_last hx hb hK hP hD hS 3 rfl dL_rejectionDemand_7 (fun H locs hP hD hS => ?_)
  refine lv_goto (tgt := 14) hx hb dL_rejectionDemand_8 (by decide) ?_
  refine lv_iconst (v := 0) hx hb dL_rejectionDemand_14 (by decide) ?_
  exact W.iret (v := 0) hx hb hr (fun t ht hW => ⟨⟨0, (((F, (G, n, sc), (Gt, nt, sct), (x, kk, RG, rn, RS)), (Gv, nv9, scv), (C, N, L, fl), (M, (Gz, nz, scz), Q, T)), _), rfl, ⟨rfl, hc9.symm, fun _ => rfl⟩, by rw [ht]; exact hP, hD⟩, hS.F ht⟩) hS.2.2 dL_rejectionDemand_15
set_option maxHeartbeats 1000000 in
set_option maxRecDepth 100000 in
/-- the law's response -/
theorem c_NL_response (l : Launch) (hst : l.stackTraces = false) (dC : Nat → ClassId) (dI : Nat → Nat → Nat) (cy : Nat → ClassId) (sz : Nat) (d0 : Nat) (o bc bt bv : Nat → Nat) (rg : Nat) (cs : Nat → Nat) (bs : Nat → Nat → Nat) (ta tb : Nat) (z bq rt : Nat → Nat) (F : Nat → Int32) (G : vG) (n : Nat) (sc : Int32) (Gt : vG) (nt : Nat) (sct : Int32) (x kk : Nat) (RG : Nat → vG) (rn : Nat → Nat) (RS : Nat → Int32) (Gv : vG) (nv9 : Nat) (scv : Int32) (C N : Nat → Int32) (L : Nat) (fl : Int32) (M : Nat → Int32) (Gz : vG) (nz : Nat) (scz : Int32) (Q T : vG) (hk : KOk ((F, (G, n, sc), (Gt, nt, sct), (x, kk, RG, rn, RS)), (Gv, nv9, scv), (C, N, L, fl), (M, (Gz, nz, scz), Q, T))) (oq : Nat) (y : Int64) (p0 : Int32) : metL l yL_response wnL_response ({ frames := 8, cells := 3, slots := 18, locals := 124 }) [.ref d0, .int p0, .ref oq] dC dI cy (d0, o, bc, bt, bv, rg, cs, bs, ta, tb, z, bq, rt) oq sz ((F, (G, n, sc), (Gt, nt, sct), (x, kk, RG, rn, RS)), (Gv, nv9, scv), (C, N, L, fl), (M, (Gz, nz, scz), Q, T)) y (rdL ((F, (G, n, sc), (Gt, nt, sct), (x, kk, RG, rn, RS)), (Gv, nv9, scv), (C, N, L, fl), (M, (Gz, nz, scz), Q, T)) (cRes n (F 7) (Q 5) p0) ((Q 5 p0.toNatClampNeg).toInt64)) 3 18 := by
  unfold metL
  refine vn_ofH (cc := cL_response) (maxL := 4) (ret := some .int) (hh := [(0, 9, 12, 28), (0, 9, 15, 15), (0, 9, 18, 92)]) (by decide) rfl ?_
  intro p e s m args below meth c s₁ B hml hv
  obtain ⟨rfl, hsz, hP, hE, hD0, hX, hZ, hV⟩ := hv
  have hK := hE.1
  subst hsz
  have hD := hD0.self (sz := s.heap.size)
  generalize hAe : va_A (wK cy (d0, o, bc, bt, bv, rg, cs, bs, ta, tb, z, bq, rt) ((F, (G, n, sc), (Gt, nt, sct), (x, kk, RG, rn, RS)), (Gv, nv9, scv), (C, N, L, fl), (M, (Gz, nz, scz), Q, T)) ++ oL cy oq y) s.heap.size = A at hD hZ ⊢
  have hA : ∀ q : Nat, s.heap.size ≤ q → A q := fun q h => by rw [← hAe]; exact Or.inr h
  have hS : va_S A s.heap s.heap [] := va_S.rf
  obtain ⟨hn, hnt, hx6, hkk, hrn, hnv, hL, hnz, hG, hsc, hd0, hd1, hGR⟩ := hk
  have hB : BP (dC, dI) vwCl [wObj d0 o F, wCfg cy (o 0) bc G (nI n) sc, wCfg cy (o 1) bt Gt (nI nt) sct, wHis cy (o 3) rg x kk cs bs RG rn RS, wCfg cy (o 2) bv Gv (nI nv9) scv, wTxt cy (o 4) ta tb C N (nI L) fl, wSim (o 5) z M, wCfg cy (z 0) bq Gz (nI nz) scz, wArr cy z rt Q T, oL cy oq y] s.heap := wKo_P.mp hP
  have hBD : BD A [wObj d0 o F, wCfg cy (o 0) bc G (nI n) sc, wCfg cy (o 1) bt Gt (nI nt) sct, wHis cy (o 3) rg x kk cs bs RG rn RS, wCfg cy (o 2) bv Gv (nI nv9) scv, wTxt cy (o 4) ta tb C N (nI L) fl, wSim (o 5) z M, wCfg cy (z 0) bq Gz (nI nz) scz, wArr cy z rt Q T, oL cy oq y] := wKo_D.mp hD
  have hx := B.exec
  have hb := B.bytes
  have hr := B.returns
  have hts := atoms_spec (ws := wnL_response) B.pre
  have hown : s.vm.findClass RL = some m.cls := findClass_of_methodNamed B.named
  have htb := vx_table (x := yL_response) B (hts (.codeWith yL_response cL_response 4 (some .int) [(0, 9, 12, 28), (0, 9, 15, 15), (0, 9, 18, 92)]) (List.mem_of_getElem? (i := 0) rfl))
  have hl := lv_entry ([.ref d0, .int p0, .ref oq]) (n := 4) (Nat.le_of_ble_eq_true rfl)
  rw [lg_entry_eq]
  generalize (lg_sl ([.ref d0, .int p0, .ref oq]) ++ List.replicate (4 - (lg_sl ([.ref d0, .int p0, .ref oq])).length) Slot.unset).toArray = ls at hl ⊢
  have hl : lv_has ls 4 [(0, .ref d0), (1, .int p0), (2, .ref oq)] := hl
  refine lv_aload_n hx hb dL_response_0 rfl (lv_at hl 2 rfl) ?_
  refine lv_iconst (v := 0) hx hb dL_response_1 (by decide) ?_
  refine lv_aload_n hx hb dL_response_2 rfl (lv_at hl 0 rfl) ?_
  refine lv_iload_n hx hb dL_response_3 rfl (lv_at hl 1 rfl) ?_
  have hPc : va_P (dC, dI) vwCl (wObj d0 o F ++ (wCfg cy (o 0) bc G (nI n) sc ++ (wSim (o 5) z M ++ ([((z 5), .inl ((cy 0), 8, .inl (Q 5)))])))) s.heap := (hB _ (List.mem_of_getElem? (i := 0) rfl)).app ((hB _ (List.mem_of_getElem? (i := 1) rfl)).app ((hB _ (List.mem_of_getElem? (i := 6) rfl)).app ((hB _ (List.mem_of_getElem? (i := 8) rfl)).sub [4] rfl)))
  refine vx_calli (vx_runV (As := [.int p0]) (rest := [.int 0, .ref oq]) ⟨hx, hb, hml, hown, hts⟩ (c_N4_response l hst dC dI cy s.heap.size d0 o F bc G n hn sc z M (Q 5) hGR p0) (cwV 1 hts hL_response_X4_response rfl rfl rfl (by decide +kernel) ⟨Nat.le_of_ble_eq_true rfl, Nat.le_of_ble_eq_true rfl⟩) ⟨bl_R, va_recv hK hPc (ci := 4) (q0 := 0) rfl rfl, pr_R hPc hE hX hZ hS hA⟩ rfl rfl hl.1 rfl (lv_room (Nat.le_of_ble_eq_true rfl)) dL_response_4 ⟨Nat.le_of_ble_eq_true rfl, Nat.le_of_ble_eq_true rfl⟩) hS (fun q _ h => hA q (Nat.le_trans hS.1 h)) (fun q h => hA q (Nat.le_trans hS.1 h)) (fun q _ h => hA q (Nat.le_trans hS.1 h)) (fun E ce q9 u t H1 locs ht hvm hpx hBX hz1 hk1 hS hce hcv hcl => ?_) (fun r u t H1 locs ht hvm hw hB9 hz1 hk1 hS => ?_)
  · have hP : va_P (dC, dI) vwCl (wK cy (d0, o, bc, bt, bv, rg, cs, bs, ta, tb, z, bq, rt) ((F, (G, n, sc), (Gt, nt, sct), (x, kk, RG, rn, RS)), (Gv, nv9, scv), (C, N, L, fl), (M, (Gz, nz, scz), Q, T)) ++ oL cy oq y) H1 := wKo_P.mpr (hB.kept (fun q h => hk1 q h (Nat.not_le.mpr h)))
    rcases hBX with ⟨rfl, hc9⟩ | ⟨rfl, hc9⟩ | ⟨rfl, hc9⟩
    · refine vx_catch (name := "java/lang/IndexOutOfBoundsException") hown [] ⟨0, 9, 12, 28⟩ [⟨0, 9, 15, 15⟩, ⟨0, 9, 18, 92⟩] (htb.trans rfl) (fun z hz => by simp at hz) (by decide) (by decide) (hts (.classLink RL 28 "java/lang/IndexOutOfBoundsException") (by decide +kernel)) (va_Nw.use rfl (hX.c 2 rfl)) hce hcv hcl ?_
      refine lv_astore_n (lv' := (3, .ref q9) :: [(0, .ref d0), (1, .int p0), (2, .ref oq)]) hx hb dL_response_12 rfl hl (by decide) rfl (fun ls hl => ?_)
      refine lv_iconst (v := 1) hx hb dL_response_13 (by decide) ?_
      exact W.iret (v := 1) hx hb hr (fun t ht hW => ⟨⟨1, (((F, (G, n, sc), (Gt, nt, sct), (x, kk, RG, rn, RS)), (Gv, nv9, scv), (C, N, L, fl), (M, (Gz, nz, scz), Q, T)), y), rfl, ⟨rfl, hc9.symm, fun h9 => absurd (hc9.symm.trans h9) (by decide)⟩, by rw [ht]; exact hP, hD⟩, hS.F ht⟩) hS.2.2 dL_response_14
    · refine vx_catch (name := "java/lang/IllegalStateException") hown [⟨0, 9, 12, 28⟩] ⟨0, 9, 15, 15⟩ [⟨0, 9, 18, 92⟩] (htb.trans rfl) (List.forall_mem_cons.mpr ⟨Or.inr ⟨by decide, _, hts (.classLink RL 28 "java/lang/IndexOutOfBoundsException") (by decide +kernel), hV.n 5 rfl⟩, fun z hz => by simp at hz⟩) (by decide) (by decide) (hts (.classLink RL 15 "java/lang/IllegalStateException") (by decide +kernel)) (va_Nw.use rfl (hX.c 1 rfl)) hce hcv hcl ?_
      refine lv_astore_n (lv' := (3, .ref q9) :: [(0, .ref d0), (1, .int p0), (2, .ref oq)]) hx hb dL_response_15 rfl hl (by decide) rfl (fun ls hl => ?_)
      refine lv_iconst (v := 2) hx hb dL_response_16 (by decide) ?_
      exact W.iret (v := 2) hx hb hr (fun t ht hW => ⟨⟨2, (((F, (G, n, sc), (Gt, nt, sct), (x, kk, RG, rn, RS)), (Gv, nv9, scv), (C, N, L, fl), (M, (Gz, nz, scz), Q, T)), y), rfl, ⟨rfl, hc9.symm, fun h9 => absurd (hc9.symm.trans h9) (by decide)⟩, by rw [ht]; exact hP, hD⟩, hS.F ht⟩) hS.2.2 dL_response_17
    · refine vx_catch (name := "java/util/NoSuchElementException") hown [⟨0, 9, 12, 28⟩, ⟨0, 9, 15, 15⟩] ⟨0, 9, 18, 92⟩ [] (htb.trans rfl) (List.forall_mem_cons.mpr ⟨Or.inr ⟨by decide, _, hts (.classLink RL 28 "java/lang/IndexOutOfBoundsException") (by decide +kernel), hV.n 18 rfl⟩, List.forall_mem_cons.mpr ⟨Or.inr ⟨by decide, _, hts (.classLink RL 15 "java/lang/IllegalStateException") (by decide +kernel), hV.n 17 rfl⟩, fun z hz => by simp at hz⟩⟩) (by decide) (by decide) (hts (.classLink RL 92 "java/util/NoSuchElementException") (by decide +kernel)) (va_Nw.use rfl (hX.c 4 rfl)) hce hcv hcl ?_
      refine lv_astore_n (lv' := (3, .ref q9) :: [(0, .ref d0), (1, .int p0), (2, .ref oq)]) hx hb dL_response_18 rfl hl (by decide) rfl (fun ls hl => ?_)
      refine lv_iconst (v := 3) hx hb dL_response_19 (by decide) ?_
      exact W.iret (v := 3) hx hb hr (fun t ht hW => ⟨⟨3, (((F, (G, n, sc), (Gt, nt, sct), (x, kk, RG, rn, RS)), (Gv, nv9, scv), (C, N, L, fl), (M, (Gz, nz, scz), Q, T)), y), rfl, ⟨rfl, hc9.symm, fun h9 => absurd (hc9.symm.trans h9) (by decide)⟩, by rw [ht]; exact hP, hD⟩, hS.F ht⟩) hS.2.2 dL_response_20
  obtain ⟨hc9, rfl⟩ := hw
  have hP : va_P (dC, dI) vwCl (wK cy (d0, o, bc, bt, bv, rg, cs, bs, ta, tb, z, bq, rt) ((F, (G, n, sc), (Gt, nt, sct), (x, kk, RG, rn, RS)), (Gv, nv9, scv), (C, N, L, fl), (M, (Gz, nz, scz), Q, T)) ++ oL cy oq y) H1 := wKo_P.mpr (hB.kept (fun q h => hk1 q h (Nat.not_le.mpr h)))
  clear hz1 hk1
  generalize H1 = H at hP hS ⊢
  refine lv_i2l hx hb dL_response_7 rfl ?_
  refine vn_last hx hb hK hP hD hS 3 rfl dL_response_8 (fun H locs hP hD hS => ?_)
  refine lv_goto (tgt := 21) hx hb dL_response_9 (by decide) ?_
  refine lv_iconst (v := 0) hx hb dL_response_21 (by decide) ?_
  exact W.iret (v := 0) hx hb hr (fun t ht hW => ⟨⟨0, (((F, (G, n, sc), (Gt, nt, sct), (x, kk, RG, rn, RS)), (Gv, nv9, scv), (C, N, L, fl), (M, (Gz, nz, scz), Q, T)), _), rfl, ⟨rfl, hc9.symm, fun _ => rfl⟩, by rw [ht]; exact hP, hD⟩, hS.F ht⟩) hS.2.2 dL_response_22

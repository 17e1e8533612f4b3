/-! PART 10: the mathematical words for a configuration, the environment of every contract. G k i: row k (0 period, 1 deadline, 2 low budget, 3 high budget, 4 importance, 5 greatest level, 6 level) of task i. -/
abbrev vG : Type := Nat → Nat → Int32
def per (G : vG) (i : Nat) : Int32 := if G 0 i * (G 6 i + 1) < 1 then 1 else G 0 i * (G 6 i + 1)
def vdl (G : vG) (sc : Int32) (i : Nat) : Int32 := if G 3 i = 0 then G 1 i else if G 1 i * sc / 8 ≤ G 2 i then G 2 i else G 1 i * sc / 8
def loD (G : vG) (i : Nat) (t first cycle : Int32) : Int32 := if first ≤ t then G 2 i * (1 + (t - first) / cycle) else 0
def hiD (G : vG) (i : Nat) (t gap cycle : Int32) : Int32 := if gap ≤ t then (if gap ≤ t - t / cycle * cycle ∧ t - t / cycle * cycle < G 1 i ∧ 0 < G 2 i + gap - (t - t / cycle * cycle) then G 3 i * (1 + (t - gap) / cycle) - (G 2 i + gap - (t - t / cycle * cycle)) else G 3 i * (1 + (t - gap) / cycle)) else 0
def dem (G : vG) (sc mode t : Int32) (i : Nat) : Int32 := if mode = 0 then loD G i t (vdl G sc i) (per G i) else if G 3 i ≤ 0 then 0 else hiD G i t (G 1 i - vdl G sc i) (per G i)
def tdem (G : vG) (n : Nat) (sc mode t : Int32) : Int32 := bx_sum (dem G sc mode t) n
/-- the first of k numbers from t on that f exceeds, else 0 -/
def ffr (f : Int32 → Int32) : Nat → Nat → Int32
  | 0, _ => 0
  | k + 1, t => if f (nI t) ≤ nI t then ffr f k (t + 1) else nI t
def ffail (G : vG) (n : Nat) (sc mode : Int32) : Int32 := ffr (tdem G n sc mode) 200 1
def sched (G : vG) (n : Nat) (sc : Int32) : Prop := ffail G n sc 0 = 0 ∧ ffail G n sc 1 = 0
/-- the greatest scale of at most k with which the tasks are schedulable, else 0 -/
def gsc (G : vG) (n : Nat) : Nat → Nat
  | 0 => 0
  | k + 1 => if ffail G n (nI (k + 1)) 0 = 0 ∧ ffail G n (nI (k + 1)) 1 = 0 then k + 1 else gsc G n k
def gscale (G : vG) (n : Nat) : Nat := gsc G n 8
/-- the weakest of the first i tasks -/
def wk (G : vG) : Nat → Option Nat
  | 0 => none
  | i + 1 => if G 5 i ≤ G 6 i then wk G i else match wk G i with
    | none => some i
    | some j => if G 4 j ≤ G 4 i then some j else some i
def wkI (o : Option Nat) : Int32 := match o with
  | none => -1
  | some j => nI j
theorem wk_lt (G : vG) : ∀ (i j : Nat), wk G i = some j → j < i := by
  intro i
  induction i with
  | zero => intro j h; simp [wk] at h
  | succ i ih =>
    intro j h
    unfold wk at h
    split at h
    · exact Nat.lt_succ_of_lt (ih j h)
    · split at h
      · cases h; exact Nat.lt_succ_self _
      · rename_i j0 hj
        split at h
        · cases h; exact Nat.lt_succ_of_lt (ih _ hj)
        · cases h; exact Nat.lt_succ_self _
def up2 (G : vG) (k i : Nat) (x : Int32) : vG := fun k' => if k' = k then upd (G k) i x else G k'
/-- task i gets the column x -/
def setc (G : vG) (i : Nat) (x : Nat → Int32) : vG := fun k => upd (G k) i (x k)
/-- the greatest V + q * P below the limit, of the first i tasks, 0 if none -/
def gtp (G : vG) (sc lim : Int32) : Nat → Int32
  | 0 => 0
  | i + 1 => if lim ≤ vdl G sc i then gtp G sc lim i else (if gtp G sc lim i < vdl G sc i + (lim - 1 - vdl G sc i) / per G i * per G i then vdl G sc i + (lim - 1 - vdl G sc i) / per G i * per G i else gtp G sc lim i)
def ltp (G : vG) (sc : Int32) : Nat → Int32
  | 0 => 200
  | i + 1 => if vdl G sc i < ltp G sc i then vdl G sc i else ltp G sc i
theorem per_pos (G : vG) (i : Nat) : ¬ per G i = 0 := by
  unfold per
  split
  · decide
  · rename_i h
    intro h0
    rw [h0] at h
    exact h (by decide)
theorem nadd {x y : Int32} {a b : Nat} (hx : x = nI a) (hy : y = nI b) : x + y = nI (a + b) := by rw [hx, hy]; exact nI_add _ _
theorem nmul {x y : Int32} {a b : Nat} (hx : x = nI a) (hy : y = nI b) : x * y = nI (a * b) := by rw [hx, hy]; exact pk_mul _ _
theorem nsub {x y : Int32} {a b : Nat} (hx : x = nI a) (hy : y = nI b) (h : b ≤ a) : x - y = nI (a - b) := by rw [hx, hy]; exact pk_sub h
section WI
variable {p : Program} {l : Launch} {e : Env} {R : Room} {s : State} {m : MethodId} {args : Array Value} {below : List Frame} {meth : Method} {c : Code} {H : Heap} {locs : List Loc} {cells slots : Nat} {Q : State → Prop}
variable {D : va_G} {cl : List vw_C} {ws : va_W} {tys : List (ClassId × FieldType)} {A : Nat → Prop} {H0 : Heap} {cc : ByteArray} {pc a : Nat} {ls : Array Slot} {rest : List Value}
/-- an int row is read at a natural place -/
theorem wI_ald (hexec : p.tables.exec = Jvm.exec) (hb : c.code = cc) (hK : va_K D cl tys s) (hP : va_P D cl ws H) (q0 t0 : Nat) {cA : ClassId} {n : Nat} {f : Nat → Int32} (ha : ws[q0]? = some (a, .inl (cA, n, .inl f))) (ht : tys[t0]? = some (cA, .int)) {i : Int32} (j : Nat) (hi : i = nI j) (hj : j < n) (hn : n < 2147483648) (hdg : decode cc pc = .ok (.iaload, 1))
    (kk : W p l e R s m args below meth c H locs cells slots Q (F0 m (pc + 1) ls (.int (f j) :: rest))) : W p l e R s m args below meth c H locs cells slots Q (F0 m pc ls (.int i :: .ref a :: rest)) := by
  subst hi
  refine va_iald hexec hb hK hP q0 t0 ha ht (vp_in_nI hj hn) hdg ?_
  rw [nI_clamp (Nat.lt_trans hj hn)]
  exact kk
/-- .. under another name -/
theorem wI_alv {v : Int32} (hexec : p.tables.exec = Jvm.exec) (hb : c.code = cc) (hK : va_K D cl tys s) (hP : va_P D cl ws H) (q0 t0 : Nat) {cA : ClassId} {n : Nat} {f : Nat → Int32} (ha : ws[q0]? = some (a, .inl (cA, n, .inl f))) (ht : tys[t0]? = some (cA, .int)) {i : Int32} (j : Nat) (hi : i = nI j) (hj : j < n) (hn : n < 2147483648) (hv : f j = v) (hdg : decode cc pc = .ok (.iaload, 1))
    (kk : W p l e R s m args below meth c H locs cells slots Q (F0 m (pc + 1) ls (.int v :: rest))) : W p l e R s m args below meth c H locs cells slots Q (F0 m pc ls (.int i :: .ref a :: rest)) := by
  subst hv
  exact wI_ald hexec hb hK hP q0 t0 ha ht j hi hj hn hdg kk
/-- .. and written -/
theorem wI_ast (hexec : p.tables.exec = Jvm.exec) (hb : c.code = cc) (hK : va_K D cl tys s) (hP : va_P D cl ws H) (hD : va_D A ws) (hS : va_S A H0 H locs) (q0 t0 : Nat) {cA : ClassId} {n : Nat} {f : Nat → Int32} (ha : ws[q0]? = some (a, .inl (cA, n, .inl f))) (ht : tys[t0]? = some (cA, .int)) {i : Int32} (j : Nat) (hi : i = nI j) {x : Int32} (hj : j < n) (hn : n < 2147483648) (hdg : decode cc pc = .ok (.iastore, 1))
    (kk : ∀ (H1 : Heap) (locs1 : List Loc), va_P D cl (ws.set q0 (a, .inl (cA, n, .inl (upd f j x)))) H1 → va_D A (ws.set q0 (a, .inl (cA, n, .inl (upd f j x)))) → va_S A H0 H1 locs1 → W p l e R s m args below meth c H1 locs1 cells slots Q (F0 m (pc + 1) ls rest)) : W p l e R s m args below meth c H locs cells slots Q (F0 m pc ls (.int x :: .int i :: .ref a :: rest)) := by
  subst hi
  have h1 := nI_clamp (Nat.lt_trans hj hn)
  refine va_iast hexec hb hK hP hD hS q0 t0 ha ht (vp_in_nI hj hn) hdg (fun H1 locs1 h2 h3 h4 => ?_)
  rw [h1] at h2 h3
  exact kk H1 locs1 h2 h3 h4
end WI
/-- the links between nest mates -/
def nestF : List (String × Nat × String × String × String × String) := [("DeadlineAdmission$Simulation", 126, "DeadlineAdmission$Configuration", "deadline", "[I", "DeadlineAdmission"), ("DeadlineAdmission", 160, "DeadlineAdmission$Configuration", "deadline", "[I", "DeadlineAdmission"), ("DeadlineAdmission$Simulation", 113, "DeadlineAdmission$Configuration", "lowBudget", "[I", "DeadlineAdmission"), ("DeadlineAdmission", 170, "DeadlineAdmission$Configuration", "lowBudget", "[I", "DeadlineAdmission"), ("DeadlineAdmission$Simulation", 110, "DeadlineAdmission$Configuration", "highBudget", "[I", "DeadlineAdmission"), ("DeadlineAdmission", 182, "DeadlineAdmission$Configuration", "highBudget", "[I", "DeadlineAdmission"), ("DeadlineAdmission", 120, "DeadlineAdmission$Configuration", "importance", "[I", "DeadlineAdmission"), ("DeadlineAdmission", 127, "DeadlineAdmission$Configuration", "greatestLevel", "[I", "DeadlineAdmission"), ("DeadlineAdmission", 132, "DeadlineAdmission$Configuration", "level", "[I", "DeadlineAdmission"), ("DeadlineAdmission", 58, "DeadlineAdmission$Configuration", "count", "I", "DeadlineAdmission"), ("DeadlineAdmission$Simulation", 92, "DeadlineAdmission$Configuration", "count", "I", "DeadlineAdmission"), ("DeadlineAdmission$Simulation", 120, "DeadlineAdmission$Configuration", "scale", "I", "DeadlineAdmission"), ("DeadlineAdmission", 154, "DeadlineAdmission$Configuration", "scale", "I", "DeadlineAdmission"), ("DeadlineAdmission", 137, "DeadlineAdmission$History", "kept", "I", "DeadlineAdmission"), ("DeadlineAdmission", 96, "DeadlineAdmission$TaskText", "numbers", "[I", "DeadlineAdmission"), ("DeadlineAdmission", 106, "DeadlineAdmission$TaskText", "length", "I", "DeadlineAdmission"), ("DeadlineAdmission", 91, "DeadlineAdmission$TaskText", "fault", "I", "DeadlineAdmission"), ("DeadlineAdmission", 270, "DeadlineAdmission$Simulation", "greatestResponse", "[I", "DeadlineAdmission"), ("DeadlineAdmission", 252, "DeadlineAdmission$Simulation", "lateJobs", "I", "DeadlineAdmission"), ("DeadlineAdmission", 258, "DeadlineAdmission$Simulation", "completedJobs", "I", "DeadlineAdmission"), ("DeadlineAdmission", 261, "DeadlineAdmission$Simulation", "droppedJobs", "I", "DeadlineAdmission"), ("DeadlineAdmission", 264, "DeadlineAdmission$Simulation", "highSwitches", "I", "DeadlineAdmission"), ("DeadlineAdmission", 267, "DeadlineAdmission$Simulation", "unitsWithoutJob", "I", "DeadlineAdmission")]
def nestM : List (String × Nat × MethodName × String) := [("DeadlineAdmission", 11, ⟨"DeadlineAdmission$Configuration", "<init>", "()V"⟩, "DeadlineAdmission"), ("DeadlineAdmission$History", 17, ⟨"DeadlineAdmission$Configuration", "<init>", "()V"⟩, "DeadlineAdmission"), ("DeadlineAdmission", 31, ⟨"DeadlineAdmission$TaskText", "<init>", "()V"⟩, "DeadlineAdmission"), ("DeadlineAdmission", 38, ⟨"DeadlineAdmission$Simulation", "<init>", "()V"⟩, "DeadlineAdmission"), ("DeadlineAdmission$Simulation", 11, ⟨"DeadlineAdmission$Configuration", "<init>", "()V"⟩, "DeadlineAdmission")]
/-- array classes: cy 0 int[], 1 Configuration[], 2 int[][], 3 long[], 4 double[] -/
abbrev tysL (cy : Nat → ClassId) : List (ClassId × FieldType) := [(cy 0, .int), (cy 1, .object "DeadlineAdmission$Configuration"), (cy 2, .array .int), (cy 3, .long), (cy 4, .double)]
/-- what every contract takes of the tables -/
def EV (dC : Nat → ClassId) (dI : Nat → Nat → Nat) (cy : Nat → ClassId) (U : State) : Prop := va_K (dC, dI) vwCl (tysL cy) U ∧ (∀ x ∈ nestF, va_Nw (.fieldLinkNest x.1 x.2.1 x.2.2.1 x.2.2.2.1 x.2.2.2.2.1 x.2.2.2.2.2) U) ∧ ∀ x ∈ nestM, va_Nw (.methodLinkNest x.1 x.2.1 x.2.2.1 x.2.2.2) U
theorem EV.warm {dC : Nat → ClassId} {dI : Nat → Nat → Nat} {cy : Nat → ClassId} {s U : State} (hW : s.WarmedH U.vm) (h : EV dC dI cy s) : EV dC dI cy U := ⟨va_K.moved hW.alike h.1, fun x hx => va_Nw.warmF hW (h.2.1 x hx), fun x hx => va_Nw.warmM hW (h.2.2 x hx)⟩
theorem EV.same {dC : Nat → ClassId} {dI : Nat → Nat → Nat} {cy : Nat → ClassId} {s U : State} (hv : s.vm = U.vm) (h : EV dC dI cy s) : EV dC dI cy U := ⟨va_K.moved (by rw [hv]; exact Vm.Alike.refl _) h.1, fun x hx => va_Nw.same rfl hv (h.2.1 x hx), fun x hx => va_Nw.same rfl hv (h.2.2 x hx)⟩
theorem EV.f {dC : Nat → ClassId} {dI : Nat → Nat → Nat} {cy : Nat → ClassId} {U : State} (h : EV dC dI cy U) (i : Nat) {x : String × Nat × String × String × String × String} (hx : nestF[i]? = some x) : va_Nw (.fieldLinkNest x.1 x.2.1 x.2.2.1 x.2.2.2.1 x.2.2.2.2.1 x.2.2.2.2.2) U := h.2.1 x (List.mem_of_getElem? hx)
theorem EV.m {dC : Nat → ClassId} {dI : Nat → Nat → Nat} {cy : Nat → ClassId} {U : State} (h : EV dC dI cy U) (i : Nat) {x : String × Nat × MethodName × String} (hx : nestM[i]? = some x) : va_Nw (.methodLinkNest x.1 x.2.1 x.2.2.1 x.2.2.2) U := h.2.2 x (List.mem_of_getElem? hx)
section PRE
variable {dC : Nat → ClassId} {dI : Nat → Nat → Nat} {cy : Nat → ClassId} {av : List Value} {W : va_W} {sz : Nat} {s : State} {H : Heap} {A : Nat → Prop}
abbrev pIn (dC : Nat → ClassId) (dI : Nat → Nat → Nat) (cy : Nat → ClassId) (W : va_W) (sz : Nat) (U : State) : Prop := U.heap.size = sz ∧ va_P (dC, dI) vwCl W U.heap ∧ EV dC dI cy U ∧ va_D (fun _ => True) W
theorem bl_ro : FrameBlind (va_Pc av (fun U => va_P (dC, dI) vwCl W U.heap ∧ EV dC dI cy U)) := fun a U g mk q => ⟨q.1, q.2.1, EV.same (s := U) rfl q.2.2⟩
theorem pr_ro (hP : va_P (dC, dI) vwCl W H) (hE : EV dC dI cy s) : ∀ U : State, U.heap = H → s.WarmedH U.vm → va_Pc av (fun U => va_P (dC, dI) vwCl W U.heap ∧ EV dC dI cy U) av.toArray U := fun U hU hW => ⟨rfl, by rw [hU]; exact hP, hE.warm hW⟩
theorem bl_in : FrameBlind (va_Pc av (pIn dC dI cy W sz)) := fun a U g mk q => ⟨q.1, q.2.1, q.2.2.1, EV.same (s := U) rfl q.2.2.2.1, q.2.2.2.2⟩
theorem pr_in (hP : va_P (dC, dI) vwCl W H) (hE : EV dC dI cy s) (hD : va_D A W) : ∀ U : State, U.heap = H → s.WarmedH U.vm → va_Pc av (pIn dC dI cy W H.size) av.toArray U := fun U hU hW => ⟨rfl, by rw [hU], by rw [hU]; exact hP, hE.warm hW, hD.weaken (fun _ _ _ _ => trivial)⟩
end PRE
/-- the cells of a Configuration: the object at c0, its seven rows at b 0 .. b 6 -/
abbrev wCfg (cy : Nat → ClassId) (c0 : Nat) (b : Nat → Nat) (G : vG) (n sc : Int32) : va_W := [(c0, .inr (0, [.ref (b 0), .ref (b 1), .ref (b 2), .ref (b 3), .ref (b 4), .ref (b 5), .ref (b 6), .int n, .int sc])), (b 0, .inl (cy 0, 8, .inl (G 0))), (b 1, .inl (cy 0, 8, .inl (G 1))), (b 2, .inl (cy 0, 8, .inl (G 2))), (b 3, .inl (cy 0, 8, .inl (G 3))), (b 4, .inl (cy 0, 8, .inl (G 4))), (b 5, .inl (cy 0, 8, .inl (G 5))), (b 6, .inl (cy 0, 8, .inl (G 6)))]

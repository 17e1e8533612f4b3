/-! PART 73: worlds of blocks -/
/-- blocks side by side -/
def glue : List va_W → va_W
  | [] => []
  | [b] => b
  | b :: c :: r => b ++ glue (c :: r)
def BP (D : va_G) (cl : List vw_C) (bs : List va_W) (H : Heap) : Prop := ∀ b ∈ bs, va_P D cl b H
def BD (A : Nat → Prop) (bs : List va_W) : Prop := (∀ (i j : Nat) (b c : va_W), bs[i]? = some b → bs[j]? = some c → i ≠ j → ∀ p ∈ b, ∀ q ∈ c, p.1 ≠ q.1) ∧ ∀ b ∈ bs, va_D A b
theorem vP_mem {D : va_G} {cl : List vw_C} {ws : va_W} {H : Heap} : va_P D cl ws H ↔ ∀ q ∈ ws, va_at D cl q H :=
  ⟨fun h q hq => (List.getElem?_of_mem hq).elim (fun k hk => h k q hk), fun h _ q hk => h q (List.mem_of_getElem? hk)⟩
theorem vP_app {D : va_G} {cl : List vw_C} {a b : va_W} {H : Heap} : va_P D cl (a ++ b) H ↔ va_P D cl a H ∧ va_P D cl b H := by
  constructor
  · intro h
    have h1 := vP_mem.mp h
    exact ⟨vP_mem.mpr (fun q hq => h1 q (List.mem_append_left _ hq)), vP_mem.mpr (fun q hq => h1 q (List.mem_append_right _ hq))⟩
  · rintro ⟨h1, h2⟩
    exact h1.app h2
theorem vD_left {A : Nat → Prop} {a b : va_W} (h : va_D A (a ++ b)) : va_D A a := by
  have key : ∀ (k : Nat) (q : Nat × va_E), a[k]? = some q → (a ++ b)[k]? = some q := fun k q hk => by
    rw [List.getElem?_append_left (List.getElem?_eq_some_iff.mp hk).1]; exact hk
  exact ⟨fun i j x y hi hj e => h.1 i j x y (key i x hi) (key j y hj) e, fun k q hk => h.2 k q (key k q hk)⟩
theorem vD_right {A : Nat → Prop} {a b : va_W} (h : va_D A (a ++ b)) : va_D A b := by
  have key : ∀ (k : Nat) (q : Nat × va_E), b[k]? = some q → (a ++ b)[a.length + k]? = some q := fun k q hk => by
    rw [List.getElem?_append_right (Nat.le_add_right _ _), Nat.add_sub_cancel_left]; exact hk
  refine ⟨fun i j x y hi hj e => ?_, fun k q hk => h.2 _ q (key k q hk)⟩
  have := h.1 _ _ x y (key i x hi) (key j y hj) e
  omega
theorem vD_cross {A : Nat → Prop} {a b : va_W} (h : va_D A (a ++ b)) : ∀ p ∈ a, ∀ q ∈ b, p.1 ≠ q.1 := by
  intro p hp q hq e
  obtain ⟨i, hi⟩ := List.getElem?_of_mem hp
  obtain ⟨j, hj⟩ := List.getElem?_of_mem hq
  have hl := (List.getElem?_eq_some_iff.mp hi).1
  have h1 : (a ++ b)[i]? = some p := by rw [List.getElem?_append_left hl]; exact hi
  have h2 : (a ++ b)[a.length + j]? = some q := by rw [List.getElem?_append_right (Nat.le_add_right _ _), Nat.add_sub_cancel_left]; exact hj
  have := h.1 _ _ p q h1 h2 e
  omega
theorem vD_app {A : Nat → Prop} {a b : va_W} (h1 : va_D A a) (h2 : va_D A b) (hx : ∀ p ∈ a, ∀ q ∈ b, p.1 ≠ q.1) : va_D A (a ++ b) :=
  h1.app h2 (fun _ _ p q hp hq => hx p (List.mem_of_getElem? hp) q (List.mem_of_getElem? hq))
theorem glue_mem : ∀ {bs : List va_W} {q : Nat × va_E}, q ∈ glue bs ↔ ∃ b ∈ bs, q ∈ b
  | [], q => by simp [glue]
  | [b], q => by simp [glue]
  | b :: c :: r, q => by
    rw [glue, List.mem_append, glue_mem (bs := c :: r)]
    simp
theorem gl_P {D : va_G} {cl : List vw_C} {bs : List va_W} {H : Heap} : va_P D cl (glue bs) H ↔ BP D cl bs H := by
  constructor
  · intro h b hb
    exact vP_mem.mpr (fun q hq => vP_mem.mp h q (glue_mem.mpr ⟨b, hb, hq⟩))
  · intro h
    refine vP_mem.mpr (fun q hq => ?_)
    obtain ⟨b, hb, hq⟩ := glue_mem.mp hq
    exact vP_mem.mp (h b hb) q hq
theorem gl_D {A : Nat → Prop} : ∀ {bs : List va_W}, va_D A (glue bs) ↔ BD A bs
  | [] => ⟨fun _ => ⟨fun i j b c h => by simp at h, fun b h => by simp at h⟩, fun _ => ⟨fun i j p q h => by simp [glue] at h, fun k q h => by simp [glue] at h⟩⟩
  | [b] => by
    constructor
    · intro h
      refine ⟨fun i j x y hi hj e => ?_, fun x hx => ?_⟩
      · have h1 := (List.getElem?_eq_some_iff.mp hi).1
        have h2 := (List.getElem?_eq_some_iff.mp hj).1
        simp at h1 h2
        omega
      · simp at hx; subst hx; exact h
    · intro h
      exact h.2 b List.mem_cons_self
  | b :: c :: r => by
    rw [glue]
    constructor
    · intro h
      have h1 := gl_D.mp (vD_right h)
      have h2 := vD_cross h
      refine ⟨fun i j x y hi hj e p hp q hq => ?_, fun x hx => ?_⟩
      · cases i with
        | zero =>
          cases j with
          | zero => exact absurd rfl e
          | succ j =>
            rw [List.getElem?_cons_zero] at hi
            rw [List.getElem?_cons_succ] at hj
            cases hi
            exact h2 p hp q (glue_mem.mpr ⟨y, List.mem_of_getElem? hj, hq⟩)
        | succ i =>
          rw [List.getElem?_cons_succ] at hi
          cases j with
          | zero =>
            rw [List.getElem?_cons_zero] at hj
            cases hj
            exact (h2 q hq p (glue_mem.mpr ⟨x, List.mem_of_getElem? hi, hp⟩)).symm
          | succ j =>
            rw [List.getElem?_cons_succ] at hj
            exact h1.1 i j x y hi hj (by omega) p hp q hq
      · rcases List.mem_cons.mp hx with rfl | hx
        · exact vD_left h
        · exact h1.2 x hx
    · intro h
      refine vD_app (h.2 b List.mem_cons_self) (gl_D.mpr ⟨fun i j x y hi hj e => h.1 (i + 1) (j + 1) x y (by rw [List.getElem?_cons_succ]; exact hi) (by rw [List.getElem?_cons_succ]; exact hj) (by omega), fun x hx => h.2 x (List.mem_cons_of_mem _ hx)⟩) (fun p hp q hq => ?_)
      obtain ⟨y, hy, hq⟩ := glue_mem.mp hq
      obtain ⟨j, hj⟩ := List.getElem?_of_mem hy
      exact h.1 0 (j + 1) b y rfl (by rw [List.getElem?_cons_succ]; exact hj) (by omega) p hp q hq
theorem glue_snoc : ∀ (r : List va_W) (b o : va_W), glue ((b :: r) ++ [o]) = glue (b :: r) ++ o
  | [], b, o => rfl
  | c :: r, b, o => by
    show b ++ glue ((c :: r) ++ [o]) = (b ++ glue (c :: r)) ++ o
    rw [glue_snoc r c o, List.append_assoc]
theorem sel_at {bs bs' : List va_W} {is : List Nat} (hs : is.map (fun i => bs[i]?) = bs'.map some) (k : Nat) (b : va_W) (hk : bs'[k]? = some b) : ∃ i, is[k]? = some i ∧ bs[i]? = some b := by
  have h1 : (is.map (fun i => bs[i]?))[k]? = some (some b) := by rw [hs, List.getElem?_map, hk]; rfl
  rw [List.getElem?_map] at h1
  cases hi : is[k]? with
  | none => rw [hi] at h1; cases h1
  | some i => rw [hi] at h1; exact ⟨i, rfl, Option.some.inj h1⟩
theorem BP.sub {D : va_G} {cl : List vw_C} {bs bs' : List va_W} {H : Heap} (h : BP D cl bs H) (is : List Nat) (hs : is.map (fun i => bs[i]?) = bs'.map some) : BP D cl bs' H := by
  intro b hb
  obtain ⟨k, hk⟩ := List.getElem?_of_mem hb
  obtain ⟨i, -, h2⟩ := sel_at hs k b hk
  exact h b (List.mem_of_getElem? h2)
theorem BD.sub {A : Nat → Prop} {bs bs' : List va_W} (h : BD A bs) (is : List Nat) (hn : va_nd is = true) (hs : is.map (fun i => bs[i]?) = bs'.map some) : BD A bs' := by
  refine ⟨fun i j b c hi hj e => ?_, fun b hb => ?_⟩
  · obtain ⟨i1, g1, g2⟩ := sel_at hs i b hi
    obtain ⟨j1, g3, g4⟩ := sel_at hs j c hj
    exact h.1 i1 j1 b c g2 g4 (fun z => e (va_nd_inj is hn i j i1 g1 (by rw [z]; exact g3)))
  · obtain ⟨k, hk⟩ := List.getElem?_of_mem hb
    obtain ⟨i, -, h2⟩ := sel_at hs k b hk
    exact h.2 b (List.mem_of_getElem? h2)
theorem BP.kept {D : va_G} {cl : List vw_C} {bs : List va_W} {H H1 : Heap} (h : BP D cl bs H) (hk : ∀ q : Nat, q < H.size → H1[q]? = H[q]?) : BP D cl bs H1 := fun b hb => (h b hb).kept (fun k q hq => hk q.1 ((h b hb) k q hq).lt)
theorem BD.weaken {A B : Nat → Prop} {bs : List va_W} (h : BD A bs) (hAB : ∀ q, A q → B q) : BD B bs := ⟨h.1, fun b hb => (h.2 b hb).weaken (fun _ q _ g => hAB q.1 g)⟩
theorem vA_glue {cb : List va_W} {sz q : Nat} : va_A (glue cb) sz q → (∃ b ∈ cb, ∃ e, (q, e) ∈ b) ∨ sz ≤ q := by
  rintro (⟨k, e, h⟩ | h)
  · obtain ⟨b, hb, hq⟩ := glue_mem.mp (List.mem_of_getElem? h)
    exact Or.inl ⟨b, hb, e, hq⟩
  · exact Or.inr h
theorem BF {A0 : Nat → Prop} {bs cb : List va_W} {H0 H : Heap} {locs : List Loc} (hD : BD A0 bs) (hS : va_S A0 H0 H locs) (hA : ∀ q, H0.size ≤ q → A0 q) (isC : List Nat) (hC : isC.map (fun i => bs[i]?) = cb.map some) : ∀ q, va_A (glue cb) H.size q → A0 q := by
  intro q h
  rcases vA_glue h with ⟨b, hb, e, hq⟩ | h
  · obtain ⟨k, hk⟩ := List.getElem?_of_mem hb
    obtain ⟨i, -, h2⟩ := sel_at hC k b hk
    obtain ⟨j, hj⟩ := List.getElem?_of_mem hq
    exact (hD.2 b (List.mem_of_getElem? h2)).2 j (q, e) hj
  · exact hA q (Nat.le_trans hS.1 h)
/-- behind a call: the other blocks, and the callee's -/
theorem BJ {A0 : Nat → Prop} {D : va_G} {cl : List vw_C} {bs cb rb nb : List va_W} {H H1 : Heap} (hP : BP D cl bs H) (hD : BD A0 bs) (isC isR : List Nat) (hC : isC.map (fun i => bs[i]?) = cb.map some) (hR : isR.map (fun i => bs[i]?) = rb.map some) (hn : va_nd isR = true) (hdis : ∀ i ∈ isR, i ∉ isC)
    (hk : ∀ q : Nat, q < H.size → ¬ va_A (glue cb) H.size q → H1[q]? = H[q]?) (hF : ∀ q, va_A (glue cb) H.size q → A0 q) (hP1 : va_P D cl (glue nb) H1) (hD1 : va_D (va_A (glue cb) H.size) (glue nb)) : BP D cl (rb ++ nb) H1 ∧ BD A0 (rb ++ nb) := by
  have apart : ∀ b ∈ rb, ∀ q ∈ b, q.1 < H.size ∧ ¬ va_A (glue cb) H.size q.1 := by
    intro b hb q hq
    obtain ⟨k, hk⟩ := List.getElem?_of_mem hb
    obtain ⟨i, h1, h2⟩ := sel_at hR k b hk
    obtain ⟨j, hj⟩ := List.getElem?_of_mem hq
    have hl := ((hP b (List.mem_of_getElem? h2)) j q hj).lt
    refine ⟨hl, fun h => ?_⟩
    rcases vA_glue h with ⟨c, hc, e, hqc⟩ | h
    · obtain ⟨k2, hk2⟩ := List.getElem?_of_mem hc
      obtain ⟨i2, h3, h4⟩ := sel_at hC k2 c hk2
      exact hD.1 i i2 b c h2 h4 (fun z => hdis i (List.mem_of_getElem? h1) (by rw [z]; exact List.mem_of_getElem? h3)) q hq (q.1, e) hqc rfl
    · omega
  have hP1' := gl_P.mp hP1
  have hD1' := gl_D.mp hD1
  have hDr := hD.sub isR hn hR
  have cross : ∀ b ∈ rb, ∀ c ∈ nb, ∀ p ∈ b, ∀ q ∈ c, p.1 ≠ q.1 := by
    intro b hb c hc p hp q hq e
    obtain ⟨j, hj⟩ := List.getElem?_of_mem hq
    exact (apart b hb p hp).2 (by rw [e]; exact (hD1'.2 c hc).2 j q hj)
  refine ⟨fun b hb => ?_, fun i j b c hi hj e => ?_, fun b hb => ?_⟩
  · rcases List.mem_append.mp hb with h | h
    · obtain ⟨k, hk2⟩ := List.getElem?_of_mem h
      obtain ⟨i, -, h2⟩ := sel_at hR k b hk2
      refine (hP b (List.mem_of_getElem? h2)).kept (fun k q hq => ?_)
      have := apart b h q (List.mem_of_getElem? hq)
      exact hk q.1 this.1 this.2
    · exact hP1' b h
  · by_cases li : i < rb.length <;> by_cases lj : j < rb.length
    · rw [List.getElem?_append_left li] at hi
      rw [List.getElem?_append_left lj] at hj
      exact hDr.1 i j b c hi hj e
    · rw [List.getElem?_append_left li] at hi
      rw [List.getElem?_append_right (by omega)] at hj
      exact cross b (List.mem_of_getElem? hi) c (List.mem_of_getElem? hj)
    · rw [List.getElem?_append_right (by omega)] at hi
      rw [List.getElem?_append_left lj] at hj
      exact fun p hp q hq z => cross c (List.mem_of_getElem? hj) b (List.mem_of_getElem? hi) q hq p hp z.symm
    · rw [List.getElem?_append_right (by omega)] at hi hj
      exact hD1'.1 _ _ b c hi hj (by omega)
  · rcases List.mem_append.mp hb with h | h
    · exact hDr.2 b h
    · exact (hD1'.2 b h).weaken (fun _ q _ g => hF q.1 g)

/-! PART 64: the reference's jobs as a list -/
abbrev Job : Type := Int32 × Int32 × Int32 × Int32
def jat (R : vG) (x : Nat) : Job := (R 24 x, R 25 x, R 26 x, R 27 x)
def jl (R : vG) (m : Nat) : List Job := (List.range m).map (jat R)
theorem jl_len (R : vG) (m : Nat) : (jl R m).length = m := by simp [jl]
theorem jl_get (R : vG) (m x : Nat) : (jl R m)[x]? = if x < m then some (jat R x) else none := by
  unfold jl
  rw [List.getElem?_map]
  by_cases h : x < m
  · rw [if_pos h, List.getElem?_range h]; rfl
  · rw [if_neg h, List.getElem?_eq_none (by simp; omega)]; rfl
theorem jl_ext {R R' : vG} {m : Nat} (h : ∀ x, x < m → jat R x = jat R' x) : jl R m = jl R' m := List.map_congr_left (fun x hx => h x (List.mem_range.mp hx))
theorem jl_s (R : vG) (m : Nat) : jl R (m + 1) = jl R m ++ [jat R m] := by simp [jl, List.range_succ]
theorem jl_mem {R : vG} {m : Nat} {x : Job} (h : x ∈ jl R m) : ∃ y, y < m ∧ x = jat R y := by
  obtain ⟨y, hy, e⟩ := List.mem_map.mp h
  exact ⟨y, List.mem_range.mp hy, e.symm⟩
theorem jl_add (R : vG) (m : Nat) (a b c d : Int32) : jl (jAdd R m a b c d) (m + 1) = jl R m ++ [(a, b, c, d)] := by
  rw [jl_s]
  have e1 : jat (jAdd R m a b c d) m = (a, b, c, d) := by
    show (upd (R 24) m a m, upd (R 25) m b m, upd (R 26) m c m, upd (R 27) m d m) = _
    simp only [pk_us]
  have e2 : jl (jAdd R m a b c d) m = jl R m := jl_ext (fun x hx => by
    show (upd (R 24) m a x, upd (R 25) m b x, upd (R 26) m c x, upd (R 27) m d x) = _
    rw [pk_un (by omega), pk_un (by omega), pk_un (by omega), pk_un (by omega)]; rfl)
  rw [e1, e2]
theorem jl_cong {R R' : vG} {m : Nat} (h : ∀ k, 24 ≤ k → k < 28 → R' k = R k) : jl R' m = jl R m := jl_ext (fun x _ => by
  show (R' 24 x, R' 25 x, R' 26 x, R' 27 x) = _
  rw [h 24 (by omega) (by omega), h 25 (by omega) (by omega), h 26 (by omega) (by omega), h 27 (by omega) (by omega)]; rfl)
theorem jl_shf (R : vG) (j m : Nat) (hj : j ≤ m) : jl (jShf R j m) m = (jl R (m + 1)).eraseIdx j := by
  apply List.ext_getElem?
  intro x
  rw [List.getElem?_eraseIdx, jl_get, jl_get, jl_get]
  by_cases h : x < m
  · rw [if_pos h]
    by_cases h2 : x < j
    · rw [if_pos h2, if_pos (by omega)]
      show some (shf (R 24) j m x, shf (R 25) j m x, shf (R 26) j m x, shf (R 27) j m x) = _
      simp only [shf]
      rw [if_neg (by omega), if_neg (by omega), if_neg (by omega), if_neg (by omega)]; rfl
    · rw [if_neg h2, if_pos (by omega)]
      show some (shf (R 24) j m x, shf (R 25) j m x, shf (R 26) j m x, shf (R 27) j m x) = _
      simp only [shf]
      rw [if_pos (by omega), if_pos (by omega), if_pos (by omega), if_pos (by omega)]; rfl
  · rw [if_neg h, if_neg (by omega), if_neg (by omega)]
theorem jl_drop (R : vG) (m e : Nat) (h : e < m) : (jl R m).drop e = jat R e :: (jl R m).drop (e + 1) := by
  have h1 : e < (jl R m).length := by rw [jl_len]; exact h
  have h2 : (jl R m)[e] = jat R e := by
    have := jl_get R m e
    rw [if_pos h, List.getElem?_eq_getElem h1] at this
    exact Option.some.inj this
  rw [List.drop_eq_getElem_cons h1, h2]
theorem jl_split (R : vG) (m e : Nat) (h : e < m) : jl R m = (jl R m).take e ++ jat R e :: (jl R m).drop (e + 1) := by
  have h3 := (List.take_append_drop e (jl R m)).symm
  rw [jl_drop R m e h] at h3
  exact h3
theorem jl_run (R : vG) (m e : Nat) (h : e < m) : jl (ran1 e R) m = (jl R m).take e ++ (R 24 e, R 25 e, R 26 e + 1, R 27 e) :: (jl R m).drop (e + 1) := by
  rw [jl_split (ran1 e R) m e h]
  have e1 : jat (ran1 e R) e = (R 24 e, R 25 e, R 26 e + 1, R 27 e) := by
    show (R 24 e, R 25 e, upd (R 26) e (R 26 e + 1) e, R 27 e) = _
    rw [pk_us]
  have e2 : ∀ x, x ≠ e → jat (ran1 e R) x = jat R x := fun x hx => by
    show (R 24 x, R 25 x, upd (R 26) e (R 26 e + 1) x, R 27 x) = _
    rw [pk_un hx]; rfl
  rw [e1]
  congr 1
  · apply List.ext_getElem?
    intro x
    rw [List.getElem?_take, List.getElem?_take, jl_get, jl_get]
    by_cases h1 : x < e
    · rw [if_pos h1, if_pos h1, e2 x (by omega)]
    · rw [if_neg h1, if_neg h1]
  · congr 1
    apply List.ext_getElem?
    intro x
    rw [List.getElem?_drop, List.getElem?_drop, jl_get, jl_get, e2 _ (by omega)]
/-- is it a job of a critical task -/
def hiJ (G : vG) (x : Job) : Bool := decide (¬ G 3 x.1.toNatClampNeg ≤ 0)
/-- behind the steps of the change to high mode -/
theorem bh_list : ∀ (q m : Nat) (s : MSt), q ≤ m → m < 2000 → s.1 28 = nI m →
    ∃ m', m' ≤ m ∧ (bhR q s).1 28 = nI m' ∧ jl (bhR q s).2 m' = ((jl s.2 m).take q).filter (hiJ (Gs (s.2 1))) ++ (jl s.2 m).drop q ∧
      (bhR q s).1 16 = s.1 16 + nI (((jl s.2 m).take q).filter (fun x => !hiJ (Gs (s.2 1)) x)).length ∧
      (∀ k, k ≠ 16 → k ≠ 28 → (bhR q s).1 k = s.1 k) ∧ ∀ k, k < 24 → (bhR q s).2 k = s.2 k := by
  intro q
  induction q with
  | zero =>
    intro m s _ _ h
    refine ⟨m, Nat.le_refl m, h, by simp [bhR], ?_, fun _ _ _ => rfl, fun _ _ => rfl⟩
    show s.1 16 = s.1 16 + nI 0
    rw [nI_0, Int32.add_zero]
  | succ q ih =>
    intro m s hq hm h
    obtain ⟨m, rfl⟩ : ∃ z, m = z + 1 := ⟨m - 1, by omega⟩
    have hsp := jl_split s.2 (m + 1) q (by omega)
    have hlen : ((jl s.2 (m + 1)).take q).length = q := by rw [List.length_take, jl_len]; omega
    have htk : (jl s.2 (m + 1)).take (q + 1) = (jl s.2 (m + 1)).take q ++ [jat s.2 q] := by
      rw [List.take_add_one, jl_get, if_pos (by omega)]; rfl
    by_cases g : Gs (s.2 1) 3 (s.2 24 q).toNatClampNeg ≤ 0
    · have hh : hiJ (Gs (s.2 1)) (jat s.2 q) = false := decide_eq_false (fun w => w g)
      have e1 : (fgt q (upd s.1 16 (s.1 16 + 1), s.2)).1 28 = nI m := by
        show s.1 28 - 1 = _
        rw [h, nI_pred]
      have e2 : jl (fgt q (upd s.1 16 (s.1 16 + 1), s.2)).2 m = (jl s.2 (m + 1)).take q ++ (jl s.2 (m + 1)).drop (q + 1) := by
        show jl (jShf s.2 q (s.1 28 - 1).toNatClampNeg) m = _
        rw [cm1 (I := s.1) h (by omega), jl_shf _ _ _ (by omega), List.eraseIdx_eq_take_drop_succ]
      obtain ⟨m', h1, h2, h3, h4, h5, h6⟩ := ih m (fgt q (upd s.1 16 (s.1 16 + 1), s.2)) (by omega) (by omega) e1
      have e0 : bhR (q + 1) s = bhR q (fgt q (upd s.1 16 (s.1 16 + 1), s.2)) := by simp only [bhR]; rw [if_pos g]
      have e6 : (fgt q (upd s.1 16 (s.1 16 + 1), s.2)).2 1 = s.2 1 := rfl
      have e7 : (jl (fgt q (upd s.1 16 (s.1 16 + 1), s.2)).2 m).take q = (jl s.2 (m + 1)).take q := by rw [e2, List.take_append_of_le_length (by omega), List.take_of_length_le (by omega)]
      have e8 : (jl (fgt q (upd s.1 16 (s.1 16 + 1), s.2)).2 m).drop q = (jl s.2 (m + 1)).drop (q + 1) := by rw [e2, List.drop_append_of_le_length (by omega), List.drop_of_length_le (by omega), List.nil_append]
      rw [e0]
      refine ⟨m', by omega, h2, ?_, ?_, ?_, ?_⟩
      · rw [h3, e6, e7, e8, htk, List.filter_append]; simp [hh]
      · rw [h4, e6, e7, htk, List.filter_append, List.length_append]
        have e9 : ([jat s.2 q].filter (fun x => !hiJ (Gs (s.2 1)) x)).length = 1 := by simp [hh]
        rw [e9]
        show s.1 16 + 1 + nI _ = _
        rw [← nI_add, Int32.add_assoc, Int32.add_comm (nI _) (nI 1)]; rfl
      · intro k hk1 hk2
        rw [h5 k hk1 hk2]
        show upd (upd s.1 16 (s.1 16 + 1)) 28 _ k = _
        rw [pk_un hk2, pk_un hk1]
      · intro k hk
        rw [h6 k hk]
        show upr (upr (upr (upr s.2 24 _) 25 _) 26 _) 27 _ k = _
        simp only [upr]
        rw [if_neg (by omega), if_neg (by omega), if_neg (by omega), if_neg (by omega)]
    · have hh : hiJ (Gs (s.2 1)) (jat s.2 q) = true := decide_eq_true g
      obtain ⟨m', h1, h2, h3, h4, h5, h6⟩ := ih (m + 1) s (by omega) hm h
      have e0 : bhR (q + 1) s = bhR q s := by simp only [bhR]; rw [if_neg g]
      rw [e0]
      refine ⟨m', h1, h2, ?_, ?_, h5, h6⟩
      · rw [h3, htk, List.filter_append]
        have e9 : (jl s.2 (m + 1)).drop q = jat s.2 q :: (jl s.2 (m + 1)).drop (q + 1) := jl_drop s.2 (m + 1) q (by omega)
        rw [e9]
        simp [hh]
      · rw [h4, htk, List.filter_append]; simp [hh]
/-- sums -/
def sumN (f : Nat → Nat) : Nat → Nat
  | 0 => 0
  | n + 1 => sumN f n + f n
theorem sumN_congr {f g : Nat → Nat} : ∀ {n : Nat}, (∀ i, i < n → f i = g i) → sumN f n = sumN g n := by
  intro n
  induction n with
  | zero => intro _; rfl
  | succ n ih => intro h; simp only [sumN]; rw [ih (fun i hi => h i (by omega)), h n (by omega)]
theorem sumN_one {f g : Nat → Nat} {i0 a : Nat} : ∀ {n : Nat}, (i0 < n → g i0 = f i0 + a) → (∀ i, i < n → i ≠ i0 → g i = f i) → sumN g n = sumN f n + (if i0 < n then a else 0) := by
  intro n
  induction n with
  | zero => intro _ _; rfl
  | succ n ih =>
    intro h0 h1
    simp only [sumN]
    rw [ih (fun h => h0 (by omega)) (fun i hi => h1 i (by omega))]
    by_cases e : n = i0
    · subst e; rw [h0 (by omega), if_neg (by omega), if_pos (by omega)]; omega
    · rw [h1 n (by omega) e]
      by_cases h : i0 < n
      · rw [if_pos h, if_pos (by omega)]; omega
      · rw [if_neg h, if_neg (by omega)]; omega
theorem sumN_front (g : Nat → Nat) : ∀ j, sumN g (j + 1) = g 0 + sumN (fun k => g (k + 1)) j := by
  intro j
  induction j with
  | zero => simp only [sumN]; omega
  | succ j ih =>
    have e : sumN g (j + 1 + 1) = sumN g (j + 1) + g (j + 1) := rfl
    rw [e, ih]
    simp only [sumN]
    omega
def isJ (i : Nat) (x : Job) : Bool := decide (x.1 = nI i)
/-- a count over all jobs is the sum of the counts over the tasks' jobs -/
theorem cnt_sum (p : Job → Bool) {n : Nat} (hn : n ≤ 8) : ∀ (L : List Job), (∀ x ∈ L, ∃ i, i < n ∧ x.1 = nI i) → (L.filter p).length = sumN (fun i => ((L.filter (isJ i)).filter p).length) n := by
  intro L
  induction L with
  | nil =>
    intro _
    have : ∀ n, sumN (fun i => ((([] : List Job).filter (isJ i)).filter p).length) n = 0 := by
      intro n
      induction n with
      | zero => rfl
      | succ n ih => simp only [sumN]; rw [ih]; rfl
    rw [this]; rfl
  | cons x L ih =>
    intro h
    obtain ⟨i0, hi0, e0⟩ := h x (List.mem_cons_self)
    have ih' := ih (fun y hy => h y (List.mem_cons_of_mem _ hy))
    have hx0 : isJ i0 x = true := decide_eq_true e0
    have hs := sumN_one (f := fun i => ((L.filter (isJ i)).filter p).length) (g := fun i => (((x :: L).filter (isJ i)).filter p).length) (i0 := i0) (a := if p x = true then 1 else 0) (n := n) (fun _ => by
      show (((x :: L).filter (isJ i0)).filter p).length = _
      rw [List.filter_cons_of_pos hx0]
      by_cases hp : p x = true
      · rw [List.filter_cons_of_pos hp, if_pos hp, List.length_cons]
      · rw [List.filter_cons_of_neg hp, if_neg hp, Nat.add_zero]) (fun i hi hne => by
      have hf : ¬ isJ i x = true := fun q => hne ((nI_eq (by omega) (by omega)).mp ((of_decide_eq_true q).symm.trans e0))
      show (((x :: L).filter (isJ i)).filter p).length = _
      rw [List.filter_cons_of_neg hf])
    rw [hs, if_pos hi0, ← ih']
    by_cases hp : p x = true
    · rw [List.filter_cons_of_pos hp, if_pos hp, List.length_cons]
    · rw [List.filter_cons_of_neg hp, if_neg hp, Nat.add_zero]

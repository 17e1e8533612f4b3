/-! PART 66: the class's simulation beside the reference's: which job runs -/
theorem ect_spec {G : vG} {sc : Int32} {M : Nat → Int32} {Q : vG} : ∀ i, i ≤ 8 → ((ect G sc M Q i).1 = -1 ∧ ∀ j, j < i → Q 1 j ≤ 0) ∨ ∃ j, j < i ∧ ect G sc M Q i = (nI j, eff G sc M Q j) ∧ ¬ Q 1 j ≤ 0 ∧ ∀ j', j' < i → ¬ Q 1 j' ≤ 0 → eff G sc M Q j < eff G sc M Q j' ∨ (eff G sc M Q j ≤ eff G sc M Q j' ∧ j ≤ j') := by
  intro i
  induction i with
  | zero => intro _; exact Or.inl ⟨rfl, fun j hj => absurd hj (Nat.not_lt_zero j)⟩
  | succ i ih =>
    intro hi
    simp only [ect]
    by_cases h0 : Q 1 i ≤ 0
    · rw [if_pos h0]
      rcases ih (by omega) with ⟨a, b⟩ | ⟨j, a, b, c, d⟩
      · refine Or.inl ⟨a, fun j hj => ?_⟩
        rcases Nat.lt_or_ge j i with z | z
        · exact b j z
        · rw [show j = i by omega]; exact h0
      · refine Or.inr ⟨j, by omega, b, c, fun j' hj' g => ?_⟩
        rcases Nat.lt_or_ge j' i with z | z
        · exact d j' z g
        · exact absurd (by rw [show j' = i by omega]; exact h0) g
    · rw [if_neg h0]
      rcases ih (by omega) with ⟨a, b⟩ | ⟨j, a, b, c, d⟩
      · rw [if_pos (by rw [a]; decide)]
        refine Or.inr ⟨i, by omega, rfl, h0, fun j' hj' g => ?_⟩
        rcases Nat.lt_or_ge j' i with z | z
        · exact absurd (b j' z) g
        · rw [show j' = i by omega]; exact Or.inr ⟨Int32.le_refl _, Nat.le_refl _⟩
      · rw [b, if_neg (show ¬ (nI j, eff G sc M Q j).1 < 0 from nI_pos (by omega))]
        by_cases h1 : eff G sc M Q j ≤ eff G sc M Q i
        · rw [if_pos (show (nI j, eff G sc M Q j).2 ≤ eff G sc M Q i from h1)]
          refine Or.inr ⟨j, by omega, rfl, c, fun j' hj' g => ?_⟩
          rcases Nat.lt_or_ge j' i with z | z
          · exact d j' z g
          · rw [show j' = i by omega]; exact Or.inr ⟨h1, by omega⟩
        · rw [if_neg (show ¬ (nI j, eff G sc M Q j).2 ≤ eff G sc M Q i from h1)]
          refine Or.inr ⟨i, by omega, rfl, h0, fun j' hj' g => ?_⟩
          rcases Nat.lt_or_ge j' i with z | z
          · left
            have h2 := d j' z g
            rw [Int32.le_iff_toInt_le] at h1
            rw [Int32.lt_iff_toInt_lt, Int32.le_iff_toInt_le] at h2
            rw [Int32.lt_iff_toInt_lt]
            omega
          · rw [show j' = i by omega]; exact Or.inr ⟨Int32.le_refl _, Nat.le_refl _⟩
theorem ear_spec {d t : Nat → Int32} {dn tn : Nat → Nat} : ∀ j, (∀ x, x ≤ j → d x = nI (dn x) ∧ dn x < 10000 ∧ t x = nI (tn x) ∧ tn x < 8) → ∀ x, x ≤ j → dn (ear d t j) < dn x ∨ (dn (ear d t j) = dn x ∧ tn (ear d t j) ≤ tn x) := by
  intro j
  induction j with
  | zero => intro _ x hx; rw [show x = 0 by omega]; exact Or.inr ⟨rfl, Nat.le_refl _⟩
  | succ j ih =>
    intro h x hx
    have ih' := ih (fun x hx => h x (by omega))
    have hle := ear_le d t j
    obtain ⟨a1, a2, a3, a4⟩ := h (j + 1) (by omega)
    obtain ⟨b1, b2, b3, b4⟩ := h (ear d t j) (by omega)
    have hs : (d (j + 1) - d (ear d t j)).toInt = (dn (j + 1) : Int) - dn (ear d t j) := by rw [a1, b1]; exact pk_sub_toInt (by omega) (by omega)
    have i1 : d (j + 1) - d (ear d t j) < 0 ↔ dn (j + 1) < dn (ear d t j) := by rw [Int32.lt_iff_toInt_lt, hs, Int32.toInt_zero]; omega
    have i2 : d (j + 1) - d (ear d t j) = 0 ↔ dn (j + 1) = dn (ear d t j) := by rw [← Int32.toInt_inj, hs, Int32.toInt_zero]; omega
    have i3 : t (j + 1) < t (ear d t j) ↔ tn (j + 1) < tn (ear d t j) := by rw [a3, b3]; exact nI_ltI (by omega) (by omega)
    simp only [ear]
    by_cases g : d (j + 1) - d (ear d t j) < 0 ∨ (d (j + 1) - d (ear d t j) = 0 ∧ t (j + 1) < t (ear d t j))
    · rw [if_pos g]
      rw [i1, i2, i3] at g
      rcases Nat.lt_or_ge x (j + 1) with z | z
      · have := ih' x (by omega); omega
      · rw [show x = j + 1 by omega]; exact Or.inr ⟨rfl, Nat.le_refl _⟩
    · rw [if_neg g]
      rw [i1, i2, i3] at g
      rcases Nat.lt_or_ge x (j + 1) with z | z
      · exact ih' x (by omega)
      · rw [show x = j + 1 by omega]; omega
theorem TR_le {G Q T : vG} {L : List Job} {u i c r : Nat} (hp : 1 ≤ Pn G i) (h : 0 < c → Q 2 i = nI r ∧ Pn G i ∣ r ∧ u ≤ r + c * Pn G i ∧ r + c * Pn G i < u + Pn G i) : c ≤ u ∧ (0 < c → r < u + 1) := by
  rcases Nat.eq_zero_or_pos c with z | z
  · exact ⟨by omega, fun w => absurd w (by omega)⟩
  · obtain ⟨_, _, _, g⟩ := h z
    obtain ⟨k, rfl⟩ : ∃ k, c = k + 1 := ⟨c - 1, by omega⟩
    have e : (k + 1) * Pn G i = k * Pn G i + Pn G i := Nat.succ_mul _ _
    have e2 : k ≤ k * Pn G i := Nat.le_mul_of_pos_right k hp
    exact ⟨by omega, fun _ => by omega⟩
theorem que_len (i r p c : Nat) (q3 : Int32) (t : Nat → Int32) : (que i r p c q3 t).length = c := by simp [que]
theorem que_get {i r p c : Nat} {q3 : Int32} {t : Nat → Int32} {k : Nat} (h : k < c) : (que i r p c q3 t)[k]? = some (qjob i r p q3 t k) := by simp [que, h]
theorem que_cons (i r p c : Nat) (q3 : Int32) (t : Nat → Int32) : que i r p (c + 1) q3 t = qjob i r p q3 t 0 :: (List.range c).map (fun k => qjob i r p q3 t (k + 1)) := by
  unfold que
  rw [List.range_succ_eq_map, List.map_cons, List.map_map]
  rfl
theorem qjob_0 (i r p : Nat) (q3 : Int32) (t : Nat → Int32) : qjob i r p q3 t 0 = (nI i, nI r, q3, t r) := by simp [qjob]
set_option maxHeartbeats 1000000 in
/-- the job that the reference runs is the oldest one of the task that the class runs -/
theorem run_head {G : vG} {n : Nat} {S0 : MSt} {ov : Int32} {hz : Nat} {u m : Nat} {s : SSt} {q : MSt} {sc : Int32} (hG : okG G n) (hn : n ≤ 8) (hu : u < 1000) (hs : scOk sc) (hag : agr (Gs (S0.2 1)) G n) (hsc : S0.2 1 1 = sc) (hm : m < 1700) (hC : CN G n S0 ov hz s q) (em : q.1 28 = nI (m + 1)) (hT : ∀ i, i < n → TR G s.2.1 s.2.2 (jl q.2 (m + 1)) (u + 1) i) (hL : ∀ x ∈ jl q.2 (m + 1), ∃ i, i < n ∧ x.1 = nI i) :
    ∃ i c r, i < n ∧ (ect G sc s.1 s.2.1 n).1 = nI i ∧ s.2.1 1 i = nI (c + 1) ∧ s.2.1 2 i = nI r ∧ Pn G i ∣ r ∧ u + 1 ≤ r + (c + 1) * Pn G i ∧ r + (c + 1) * Pn G i < u + 1 + Pn G i ∧ earS q < m + 1 ∧ jat q.2 (earS q) = (nI i, nI r, s.2.1 3 i, s.2.2 i r) ∧
      ((jl q.2 (m + 1)).take (earS q)).filter (isJ i) = [] ∧ ((jl q.2 (m + 1)).drop (earS q + 1)).filter (isJ i) = (List.range c).map (fun k => qjob i r (Pn G i) (s.2.1 3 i) (s.2.2 i) (k + 1)) := by
  obtain ⟨c1, c2, c3, c4, c5, c6, c7, c8, c9, c10, c11, c12, c13, c14⟩ := hC
  have eS : q.2 1 = S0.2 1 := c14 1 (by decide)
  obtain ⟨wf, hw⟩ : ∃ wf : Nat → Nat × Nat, ∀ i, i < n → (s.2.1 1 i = nI (wf i).1 ∧ (0 < (wf i).1 → s.2.1 2 i = nI (wf i).2 ∧ Pn G i ∣ (wf i).2 ∧ u + 1 ≤ (wf i).2 + (wf i).1 * Pn G i ∧ (wf i).2 + (wf i).1 * Pn G i < u + 1 + Pn G i) ∧ (jl q.2 (m + 1)).filter (isJ i) = que i (wf i).2 (Pn G i) (wf i).1 (s.2.1 3 i) (s.2.2 i)) := by
    have hh : ∀ i, ∃ w : Nat × Nat, i < n → (s.2.1 1 i = nI w.1 ∧ (0 < w.1 → s.2.1 2 i = nI w.2 ∧ Pn G i ∣ w.2 ∧ u + 1 ≤ w.2 + w.1 * Pn G i ∧ w.2 + w.1 * Pn G i < u + 1 + Pn G i) ∧ (jl q.2 (m + 1)).filter (isJ i) = que i w.2 (Pn G i) w.1 (s.2.1 3 i) (s.2.2 i)) := by
      intro i
      by_cases h : i < n
      · obtain ⟨c, r, h1, h2, h3⟩ := hT i h
        exact ⟨(c, r), fun _ => ⟨h1, h2, h3⟩⟩
      · exact ⟨(0, 0), fun z => absurd z h⟩
    exact ⟨fun i => (hh i).choose, fun i => (hh i).choose_spec⟩
  have hP : ∀ i, i < n → 1 ≤ Pn G i := fun i hi => (per_nat (hG i hi)).2.1
  have hcb : ∀ i, i < n → (wf i).1 ≤ u + 1 ∧ (0 < (wf i).1 → (wf i).2 < u + 2) := fun i hi => by
    obtain ⟨g1, g2⟩ := TR_le (Q := s.2.1) (T := s.2.2) (L := []) (hP i hi) (hw i hi).2.1
    exact ⟨g1, g2⟩
  obtain ⟨Wf, hW⟩ : ∃ Wf : Nat → Nat, ∀ i, i < n → ((if s.1 6 = 0 then vdl G sc i else G 1 i) = nI (Wf i) ∧ Wf i ≤ 40) := by
    have hh : ∀ i, ∃ w : Nat, i < n → ((if s.1 6 = 0 then vdl G sc i else G 1 i) = nI w ∧ w ≤ 40) := by
      intro i
      by_cases h : i < n
      · by_cases g : s.1 6 = 0
        · obtain ⟨a, _, b⟩ := vdl_nat (hG i h) hs
          exact ⟨Vn G sc i, fun _ => ⟨by rw [if_pos g]; exact a, b⟩⟩
        · obtain ⟨P, D, L9, H9, im, mo, lv, e0, e1, e2, e3, e4, e5, e6, h1⟩ := hG i h
          exact ⟨D, fun _ => ⟨by rw [if_neg g]; exact e1, by omega⟩⟩
      · exact ⟨0, fun z => absurd z h⟩
    exact ⟨fun i => (hh i).choose, fun i => (hh i).choose_spec⟩
  have heff : ∀ i, i < n → 0 < (wf i).1 → eff G sc s.1 s.2.1 i = nI ((wf i).2 + Wf i) := fun i hi hc => by
    unfold eff
    rw [(hW i hi).1, ((hw i hi).2.1 hc).1, nI_add]
  have hjob : ∀ y, y < m + 1 → ∃ t k, t < n ∧ k < (wf t).1 ∧ jat q.2 y = qjob t (wf t).2 (Pn G t) (s.2.1 3 t) (s.2.2 t) k := fun y hy => by
    have h1 : jat q.2 y ∈ jl q.2 (m + 1) := List.mem_map.mpr ⟨y, List.mem_range.mpr hy, rfl⟩
    obtain ⟨t, ht, et⟩ := hL _ h1
    have h2 : jat q.2 y ∈ (jl q.2 (m + 1)).filter (isJ t) := List.mem_filter.mpr ⟨h1, isJ_eq et⟩
    rw [(hw t ht).2.2] at h2
    obtain ⟨k, hk, ek⟩ := List.mem_map.mp h2
    exact ⟨t, k, ht, List.mem_range.mp hk, ek.symm⟩
  have hkey : ∀ y t k, t < n → k < (wf t).1 → jat q.2 y = qjob t (wf t).2 (Pn G t) (s.2.1 3 t) (s.2.2 t) k → djl q.1 q.2 y = nI ((wf t).2 + k * Pn G t + Wf t) ∧ (wf t).2 + k * Pn G t + Wf t < 10000 ∧ q.2 24 y = nI t := fun y t k ht hk e => by
    have e1 : q.2 24 y = nI t := congrArg (·.1) e
    have e2 : q.2 25 y = nI ((wf t).2 + k * Pn G t) := congrArg (·.2.1) e
    refine ⟨?_, ?_, e1⟩
    · unfold djl
      rw [e2, e1, nI_clamp (by omega), c2, eS, hsc, hag 1 (by decide) t ht, vdl_agr hag ht]
      have : (if s.1 6 = 1 then G 1 t else vdl G sc t) = nI (Wf t) := by
        rw [← (hW t ht).1]
        rcases c1 with z | z
        · rw [if_neg (by rw [z]; decide), if_pos z]
        · rw [if_pos z, if_neg (by rw [z]; decide)]
      rw [this, nI_add]
    · have g := ((hw t ht).2.1 (by omega)).2.2.2
      have h1 : k * Pn G t ≤ (wf t).1 * Pn G t := Nat.mul_le_mul_right _ (by omega)
      have h2 := (per_nat (hG t ht)).2.2
      have h3 := (hW t ht).2
      omega
  have hear := ear_spec (d := djl q.1 q.2) (t := q.2 24) (dn := fun y => (djl q.1 q.2 y).toNatClampNeg) (tn := fun y => (q.2 24 y).toNatClampNeg) m (fun y hy => by
    obtain ⟨t, k, ht, hk, e⟩ := hjob y (by omega)
    obtain ⟨a1, a2, a3⟩ := hkey y t k ht hk e
    refine ⟨?_, ?_, ?_, ?_⟩
    · show djl q.1 q.2 y = nI (djl q.1 q.2 y).toNatClampNeg
      rw [a1, nI_clamp (by omega)]
    · show (djl q.1 q.2 y).toNatClampNeg < 10000
      rw [a1, nI_clamp (by omega)]; exact a2
    · show q.2 24 y = nI (q.2 24 y).toNatClampNeg
      rw [a3, nI_clamp (by omega)]
    · show (q.2 24 y).toNatClampNeg < 8
      rw [a3, nI_clamp (by omega)]; omega)
  have ee : earS q = ear (djl q.1 q.2) (q.2 24) m := by unfold earS; rw [cm1 em (by omega)]
  have hle : earS q ≤ m := by rw [ee]; exact ear_le _ _ _
  rw [← ee] at hear
  obtain ⟨t, k, ht, hk, et⟩ := hjob (earS q) (by omega)
  obtain ⟨a1, a2, a3⟩ := hkey _ t k ht hk et
  have hct : ¬ s.2.1 1 t ≤ 0 := by rw [(hw t ht).1]; exact nI_nle (by omega) (by have := (hcb t ht).1; omega)
  rcases ect_spec (G := G) (sc := sc) (M := s.1) (Q := s.2.1) n hn with ⟨_, g⟩ | ⟨i, hi, eE, hq, hmin⟩
  · exact absurd (g t ht) hct
  have hci : 0 < (wf i).1 := by
    rcases Nat.eq_zero_or_pos (wf i).1 with z | z
    · exact absurd (by rw [(hw i hi).1, z]; decide) hq
    · exact z
  -- the head of the queue of i stands somewhere
  obtain ⟨y, hy, ey⟩ : ∃ y, y < m + 1 ∧ jat q.2 y = qjob i (wf i).2 (Pn G i) (s.2.1 3 i) (s.2.2 i) 0 := by
    have h1 : qjob i (wf i).2 (Pn G i) (s.2.1 3 i) (s.2.2 i) 0 ∈ (jl q.2 (m + 1)).filter (isJ i) := by
      rw [(hw i hi).2.2]; exact List.mem_map.mpr ⟨0, List.mem_range.mpr hci, rfl⟩
    obtain ⟨y, hy, e⟩ := jl_mem (List.mem_filter.mp h1).1
    exact ⟨y, hy, e.symm⟩
  obtain ⟨b1, b2, b3⟩ := hkey y i 0 hi hci ey
  have m1 := hear y (by omega)
  have m2 := hmin t ht hct
  rw [heff i hi hci, heff t ht (by omega)] at m2
  have hb1 := (hcb i hi).2 hci
  have hb2 := (hcb t ht).2 (by omega)
  have hw1 := (hW i hi).2
  have hw2 := (hW t ht).2
  rw [nI_ltI (by omega) (by omega), nI_leI (by omega) (by omega)] at m2
  have m1 : (wf t).2 + k * Pn G t + Wf t < (wf i).2 + 0 * Pn G i + Wf i ∨ ((wf t).2 + k * Pn G t + Wf t = (wf i).2 + 0 * Pn G i + Wf i ∧ t ≤ i) := by
    have m1 : (djl q.1 q.2 (earS q)).toNatClampNeg < (djl q.1 q.2 y).toNatClampNeg ∨ ((djl q.1 q.2 (earS q)).toNatClampNeg = (djl q.1 q.2 y).toNatClampNeg ∧ (q.2 24 (earS q)).toNatClampNeg ≤ (q.2 24 y).toNatClampNeg) := m1
    rw [a1, b1, a3, b3, nI_clamp (by omega), nI_clamp (by omega), nI_clamp (by omega), nI_clamp (by omega)] at m1
    exact m1
  rw [Nat.zero_mul] at m1
  have hkp : k * Pn G t = 0 := by omega
  have hti : t = i := by omega
  subst hti
  have hk0 : k = 0 := by
    rcases Nat.eq_zero_or_pos k with z | z
    · exact z
    · have := Nat.mul_pos z (hP t ht); omega
  subst hk0
  obtain ⟨c, hc⟩ : ∃ c, (wf t).1 = c + 1 := ⟨(wf t).1 - 1, by omega⟩
  obtain ⟨g1, g2, g3, g4⟩ := (hw t ht).2.1 hci
  have hf := (hw t ht).2.2
  rw [hc] at hf g3 g4
  have hsp := jl_split q.2 (m + 1) (earS q) (by omega)
  have hx : isJ t (jat q.2 (earS q)) = true := isJ_eq a3
  have hf2 : ((jl q.2 (m + 1)).take (earS q)).filter (isJ t) ++ jat q.2 (earS q) :: ((jl q.2 (m + 1)).drop (earS q + 1)).filter (isJ t) = que t (wf t).2 (Pn G t) (c + 1) (s.2.1 3 t) (s.2.2 t) := by
    rw [← hf]
    conv => rhs; rw [hsp]
    rw [List.filter_append, List.filter_cons_of_pos hx]
  have hnil : ((jl q.2 (m + 1)).take (earS q)).filter (isJ t) = [] := by
    generalize hA : ((jl q.2 (m + 1)).take (earS q)).filter (isJ t) = A at hf2
    have hl : A.length < c + 1 := by
      have := congrArg List.length hf2
      rw [List.length_append, List.length_cons, que_len] at this
      omega
    have h1 := congrArg (fun l => l[A.length]?) hf2
    rw [que_get hl, List.getElem?_append_right (Nat.le_refl _), Nat.sub_self, List.getElem?_cons_zero] at h1
    have h2 := Option.some.inj h1
    rw [et] at h2
    have h3 : nI ((wf t).2 + 0 * Pn G t) = nI ((wf t).2 + A.length * Pn G t) := congrArg (·.2.1) h2
    have h4 : A.length * Pn G t ≤ (c + 1) * Pn G t := Nat.mul_le_mul_right _ (by omega)
    have h5 := (per_nat (hG t ht)).2.2
    rw [nI_eq (by omega) (by omega)] at h3
    rw [Nat.zero_mul] at h3
    rcases Nat.eq_zero_or_pos A.length with z | z
    · exact List.eq_nil_of_length_eq_zero z
    · have := Nat.mul_pos z (hP t ht); omega
  refine ⟨t, c, (wf t).2, ht, by rw [eE], by rw [(hw t ht).1, hc], g1, g2, g3, g4, by omega, by rw [et, qjob_0], hnil, ?_⟩
  rw [hnil, List.nil_append, que_cons] at hf2
  exact (List.cons.inj hf2).2

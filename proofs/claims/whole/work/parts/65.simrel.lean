/-! PART 65: the class's simulation beside the reference's: releases -/
def qjob (i r p : Nat) (q3 : Int32) (t : Nat → Int32) (k : Nat) : Job := (nI i, nI (r + k * p), if k = 0 then q3 else 0, t (r + k * p))
/-- the waiting jobs of a task -/
def que (i r p c : Nat) (q3 : Int32) (t : Nat → Int32) : List Job := (List.range c).map (qjob i r p q3 t)
def TR (G Q T : vG) (L : List Job) (u i : Nat) : Prop := ∃ c r : Nat, Q 1 i = nI c ∧ (0 < c → Q 2 i = nI r ∧ Pn G i ∣ r ∧ u ≤ r + c * Pn G i ∧ r + c * Pn G i < u + Pn G i) ∧ L.filter (isJ i) = que i r (Pn G i) c (Q 3 i) (T i)
/-- the numbers of both sides; S0: the reference's start -/
def CN (G : vG) (n : Nat) (S0 : MSt) (ov : Int32) (hz : Nat) (s : SSt) (q : MSt) : Prop :=
  (s.1 6 = 0 ∨ s.1 6 = 1) ∧ q.1 29 = s.1 6 ∧ (s.1 6 = 1 → ∀ i, i < n → G 3 i ≤ 0 → s.2.1 1 i = 0) ∧ q.1 30 = s.1 7 ∧ s.1 8 = ov ∧ s.1 9 = nI hz ∧ q.1 31 = s.1 10 ∧ q.1 15 = s.1 11 ∧ q.1 16 = s.1 12 ∧ q.1 17 = s.1 13 ∧ q.1 18 = s.1 14 ∧ (∀ i, i < 8 → q.2 19 i = s.2.1 5 i) ∧ (∀ k, k < 15 → q.1 k = S0.1 k) ∧ ∀ k, k < 19 → q.2 k = S0.2 k
def CR (G : vG) (n : Nat) (S0 : MSt) (ov : Int32) (hz : Nat) (tf : Nat → Nat) (b : Nat) (s : SSt) (q : MSt) : Prop :=
  CN G n S0 ov hz s q ∧ ∃ m, m ≤ b ∧ q.1 28 = nI m ∧ (∀ i, i < n → TR G s.2.1 s.2.2 (jl q.2 m) (tf i) i) ∧ ∀ x ∈ jl q.2 m, ∃ i, i < n ∧ x.1 = nI i
theorem CR_tf {G : vG} {n : Nat} {S0 : MSt} {ov : Int32} {hz : Nat} {tf tg : Nat → Nat} {b : Nat} {s : SSt} {q : MSt} (h : CR G n S0 ov hz tf b s q) (e : ∀ i, i < n → tf i = tg i) : CR G n S0 ov hz tg b s q := by
  obtain ⟨hC, m, h1, h2, h3, h4⟩ := h
  exact ⟨hC, m, h1, h2, fun i hi => by rw [← e i hi]; exact h3 i hi, h4⟩
theorem CR_b {G : vG} {n : Nat} {S0 : MSt} {ov : Int32} {hz : Nat} {tf : Nat → Nat} {b c : Nat} {s : SSt} {q : MSt} (h : CR G n S0 ov hz tf b s q) (e : b ≤ c) : CR G n S0 ov hz tf c s q := by
  obtain ⟨hC, m, h1, h2, h3, h4⟩ := h
  exact ⟨hC, m, by omega, h2, h3, h4⟩
theorem up2_k {G : vG} {k k' i : Nat} {x : Int32} (h : k' ≠ k) : up2 G k i x k' = G k' := if_neg h
theorem up2_j {G : vG} {k k' i j : Nat} {x : Int32} (h : j ≠ i) : up2 G k i x k' j = G k' j := by
  simp only [up2]
  split
  · rename_i e; subst e; exact pk_un h
  · rfl
theorem drM_ne {G : vG} {i k : Nat} {M : Nat → Int32} (h : k ≠ 7) : drM G i M k = M k := by
  unfold drM
  split
  · rfl
  · exact pk_un h
theorem drI_ne {G : vG} {i k : Nat} {I : Nat → Int32} (h : k ≠ 30) : drI G i I k = I k := by
  unfold drI
  split
  · rfl
  · exact pk_un h
theorem relQ_ne {Q : vG} {i u k j : Nat} (h : j ≠ i) : relQ Q i u k j = Q k j := by
  unfold relQ
  rw [up2_j h]
  split
  · rw [up2_j h, up2_j h]
  · rfl
theorem relQ_5 {Q : vG} {i u j : Nat} : relQ Q i u 5 j = Q 5 j := by
  unfold relQ
  rw [up2_k (by decide)]
  split
  · rw [up2_k (by decide), up2_k (by decide)]
  · rfl
theorem relQ_1 {Q : vG} {i u : Nat} : relQ Q i u 1 i = Q 1 i + 1 := by unfold relQ; exact up2_at
theorem relQ_20 {Q : vG} {i u : Nat} (h : Q 1 i = 0) : relQ Q i u 2 i = nI u ∧ relQ Q i u 3 i = 0 := by
  unfold relQ
  refine ⟨?_, ?_⟩
  · rw [if_pos h, up2_k (by decide), up2_k (by decide)]; exact up2_at
  · rw [if_pos h, up2_k (by decide)]; exact up2_at
theorem relQ_2n {Q : vG} {i u : Nat} (h : ¬ Q 1 i = 0) : relQ Q i u 2 i = Q 2 i ∧ relQ Q i u 3 i = Q 3 i := by
  unfold relQ
  refine ⟨?_, ?_⟩
  · rw [if_neg h, up2_k (by decide)]
  · rw [if_neg h, up2_k (by decide)]
theorem que_s (i r p c : Nat) (q3 : Int32) (t : Nat → Int32) : que i r p (c + 1) q3 t = que i r p c q3 t ++ [qjob i r p q3 t c] := by simp [que, List.range_succ]
theorem que_T {i r p c : Nat} {q3 : Int32} {t t' : Nat → Int32} (h : ∀ k, k < c → t (r + k * p) = t' (r + k * p)) : que i r p c q3 t = que i r p c q3 t' := List.map_congr_left (fun k hk => by simp only [qjob]; rw [h k (List.mem_range.mp hk)])
theorem isJ_ne {i j : Nat} {x : Job} (hi : i < 8) (hj : j < 8) (e : x.1 = nI i) (h : j ≠ i) : ¬ isJ j x = true := fun q => h ((nI_eq (by omega) (by omega)).mp ((of_decide_eq_true q).symm.trans e))
theorem isJ_eq {i : Nat} {x : Job} (e : x.1 = nI i) : isJ i x = true := decide_eq_true e
set_option maxHeartbeats 1000000 in
/-- a task releases what is due, on both sides -/
theorem rel_step {G : vG} {n : Nat} {S0 : MSt} {ov : Int32} {hz : Nat} {tf : Nat → Nat} {b u i : Nat} {s : SSt} {q : MSt} (hG : okG G n) (hn : n ≤ 8) (hu : u < 1000) (hag : agr (Gs (S0.2 1)) G n) (hi : i < n) (htf : tf i = u) (hb : b < 1700) (h : CR G n S0 ov hz tf b s q) : CR G n S0 ov hz (fun j => if j = i then u + 1 else tf j) (b + 1) (rls1 G u i s) (rls1R u ov i q) := by
  obtain ⟨hC, m, hm, em, hT, hL⟩ := h
  obtain ⟨c1, c2, c3, c4, c5, c6, c7, c8, c9, c10, c11, c12, c13, c14⟩ := hC
  have eS : q.2 1 = S0.2 1 := c14 1 (by decide)
  have eP : per (Gs (q.2 1)) i = per G i := by rw [eS]; exact per_agr hag hi
  have e3 : Gs (q.2 1) 3 i = G 3 i := by rw [eS]; exact hag 3 (by decide) i hi
  have e2 : Gs (q.2 1) 2 i = G 2 i := by rw [eS]; exact hag 2 (by decide) i hi
  obtain ⟨hp, hp1, hp2⟩ := per_nat (hG i hi)
  have eR : nI u - nI u / per G i * per G i = nI (u % Pn G i) := by rw [hp]; exact pk_rem (by omega) (by omega) (by omega)
  have hother : ∀ (Q' T' : vG) (L' : List Job), (∀ j, j < n → j ≠ i → TR G Q' T' L' (tf j) j) → TR G Q' T' L' (u + 1) i → ∀ j, j < n → TR G Q' T' L' ((fun j => if j = i then u + 1 else tf j) j) j := by
    intro Q' T' L' ha hb j hj
    show TR G Q' T' L' (if j = i then u + 1 else tf j) j
    by_cases e : j = i
    · rw [if_pos e, e]; exact hb
    · rw [if_neg e]; exact ha j hj e
  unfold rls1 rls1R
  rw [eP, eR]
  by_cases hd : u % Pn G i = 0
  · have hd0 : nI (u % Pn G i) = 0 := by rw [hd]; rfl
    rw [if_pos hd0, if_pos hd0, c2, e3]
    have hpu : Pn G i ∣ u := Nat.dvd_of_mod_eq_zero hd
    by_cases hx : s.1 6 = 1 ∧ G 3 i ≤ 0
    · rw [if_pos hx, if_pos hx]
      refine ⟨⟨c1, c2, c3, c4, c5, c6, c7, c8, ?_, c10, c11, c12, fun k hk => (pk_un (by omega)).trans (c13 k hk), c14⟩, m, by omega, em, ?_, hL⟩
      · show q.1 16 + 1 = s.1 12 + 1
        rw [c9]
      · refine hother _ _ _ (fun j hj _ => hT j hj) ?_
        obtain ⟨c, r, h1, h2, h3⟩ := hT i hi
        have h0 : c = 0 := by
          have := c3 hx.1 i hi hx.2
          rw [h1] at this
          rcases Nat.eq_zero_or_pos c with z | z
          · exact z
          · exfalso
            have h5 := (h2 z).2.2.2
            have : c ≤ 2000 := by
              have h6 : c ≤ c * Pn G i := Nat.le_mul_of_pos_right c hp1
              rw [htf] at h5
              omega
            exact nI_ne0 z (by omega) ‹nI c = 0›
        exact ⟨c, r, h1, fun z => absurd z (by omega), h3⟩
    · rw [if_neg hx, if_neg hx]
      have end9 : rnd (Gs (q.2 1)) i q.1 ov = nds G i s.1 := by unfold rnd nds; rw [e3, e2, c4, c5]
      have em9 : (q.1 28).toNatClampNeg = m := by rw [em]; exact nI_clamp (by omega)
      refine ⟨⟨?_, ?_, ?_, ?_, ?_, ?_, ?_, ?_, ?_, ?_, ?_, ?_, ?_, ?_⟩, m + 1, by omega, ?_, ?_, ?_⟩
      · show drM G i s.1 6 = 0 ∨ drM G i s.1 6 = 1
        rw [drM_ne (by decide)]; exact c1
      · show drI (Gs (q.2 1)) i (upd q.1 28 (q.1 28 + 1)) 29 = drM G i s.1 6
        rw [drM_ne (by decide), drI_ne (by decide)]; exact c2
      · show drM G i s.1 6 = 1 → ∀ j, j < n → G 3 j ≤ 0 → relQ s.2.1 i u 1 j = 0
        rw [drM_ne (by decide)]
        intro g1 j hj g2
        by_cases e : j = i
        · exact absurd ⟨g1, by rw [← e]; exact g2⟩ hx
        · rw [relQ_ne e]; exact c3 g1 j hj g2
      · show drI (Gs (q.2 1)) i (upd q.1 28 (q.1 28 + 1)) 30 = drM G i s.1 7
        unfold drI drM
        rw [e3]
        by_cases g : G 3 i ≤ 0
        · rw [if_pos g, if_pos g]; exact c4
        · rw [if_neg g, if_neg g, pk_us, pk_us]
          show drw (q.1 30) = _
          rw [c4]
      · show drM G i s.1 8 = ov
        rw [drM_ne (by decide)]; exact c5
      · show drM G i s.1 9 = _
        rw [drM_ne (by decide)]; exact c6
      · show drI (Gs (q.2 1)) i (upd q.1 28 (q.1 28 + 1)) 31 = drM G i s.1 10
        rw [drM_ne (by decide), drI_ne (by decide)]; exact c7
      · show drI (Gs (q.2 1)) i (upd q.1 28 (q.1 28 + 1)) 15 = drM G i s.1 11
        rw [drM_ne (by decide), drI_ne (by decide)]; exact c8
      · show drI (Gs (q.2 1)) i (upd q.1 28 (q.1 28 + 1)) 16 = drM G i s.1 12
        rw [drM_ne (by decide), drI_ne (by decide)]; exact c9
      · show drI (Gs (q.2 1)) i (upd q.1 28 (q.1 28 + 1)) 17 = drM G i s.1 13
        rw [drM_ne (by decide), drI_ne (by decide)]; exact c10
      · show drI (Gs (q.2 1)) i (upd q.1 28 (q.1 28 + 1)) 18 = drM G i s.1 14
        rw [drM_ne (by decide), drI_ne (by decide)]; exact c11
      · intro j hj
        show q.2 19 j = relQ s.2.1 i u 5 j
        rw [relQ_5]; exact c12 j hj
      · intro k hk
        show drI (Gs (q.2 1)) i (upd q.1 28 (q.1 28 + 1)) k = _
        rw [drI_ne (by omega), pk_un (by omega)]; exact c13 k hk
      · intro k hk
        show upr (upr (upr (upr q.2 24 _) 25 _) 26 _) 27 _ k = _
        simp only [upr]
        rw [if_neg (by omega), if_neg (by omega), if_neg (by omega), if_neg (by omega)]; exact c14 k hk
      · show drI (Gs (q.2 1)) i (upd q.1 28 (q.1 28 + 1)) 28 = _
        rw [drI_ne (by decide), pk_us, em]; exact nI_1 m
      · have eL : jl (rAdd i u ov q).2 (m + 1) = jl q.2 m ++ [(nI i, nI u, 0, nds G i s.1)] := by
          show jl (jAdd q.2 (q.1 28).toNatClampNeg (nI i) (nI u) 0 (rnd (Gs (q.2 1)) i q.1 ov)) (m + 1) = _
          rw [em9, end9]; exact jl_add _ _ _ _ _ _
        rw [eL]
        refine hother _ _ _ (fun j hj hne => ?_) ?_
        · obtain ⟨c, r, h1, h2, h3⟩ := hT j hj
          refine ⟨c, r, (relQ_ne hne).trans h1, fun z => ⟨(relQ_ne hne).trans (h2 z).1, (h2 z).2⟩, ?_⟩
          rw [List.filter_append, List.filter_cons_of_neg (isJ_ne (i := i) (by omega) (by omega) rfl hne), List.filter_nil, List.append_nil, h3]
          show que j r (Pn G j) c (s.2.1 3 j) (s.2.2 j) = que j r (Pn G j) c (relQ s.2.1 i u 3 j) (up2 s.2.2 i u (nds G i s.1) j)
          rw [relQ_ne hne, up2_k hne]
        · obtain ⟨c, r, h1, h2, h3⟩ := hT i hi
          have eF : (jl q.2 m ++ [(nI i, nI u, 0, nds G i s.1)]).filter (isJ i) = que i r (Pn G i) c (s.2.1 3 i) (s.2.2 i) ++ [(nI i, nI u, 0, nds G i s.1)] := by
            rw [List.filter_append, List.filter_cons_of_pos (isJ_eq rfl), List.filter_nil, h3]
          have eQ1 : relQ s.2.1 i u 1 i = nI (c + 1) := by rw [relQ_1, h1]; exact nI_1 c
          have eTu : up2 s.2.2 i u (nds G i s.1) i u = nds G i s.1 := up2_at
          rcases Nat.eq_zero_or_pos c with z | z
          · subst z
            obtain ⟨q2, q3⟩ := relQ_20 (Q := s.2.1) (i := i) (u := u) (h1.trans rfl)
            refine ⟨1, u, eQ1, fun _ => ⟨q2, hpu, by omega, by omega⟩, ?_⟩
            rw [eF]
            show que i r (Pn G i) 0 (s.2.1 3 i) (s.2.2 i) ++ [(nI i, nI u, 0, nds G i s.1)] = que i u (Pn G i) 1 (relQ s.2.1 i u 3 i) (up2 s.2.2 i u (nds G i s.1) i)
            rw [q3]
            show [(nI i, nI u, 0, nds G i s.1)] = [qjob i u (Pn G i) 0 (up2 s.2.2 i u (nds G i s.1) i) 0]
            simp only [qjob, Nat.zero_mul, Nat.add_zero, eTu, ↓reduceIte]
          · obtain ⟨g1, g2, g3, g4⟩ := h2 z
            rw [htf] at g3 g4
            have hcp : c ≤ c * Pn G i := Nat.le_mul_of_pos_right c hp1
            have hq1 : ¬ s.2.1 1 i = 0 := by rw [h1]; exact nI_ne0 z (by omega)
            have hru : r + c * Pn G i = u := by
              have d1 : Pn G i ∣ r + c * Pn G i - u := Nat.dvd_sub (Nat.dvd_add g2 (Nat.dvd_mul_left _ _)) hpu
              have := Nat.eq_zero_of_dvd_of_lt d1 (by omega)
              omega
            obtain ⟨q2, q3⟩ := relQ_2n (u := u) hq1
            have hsm : (c + 1) * Pn G i = c * Pn G i + Pn G i := Nat.succ_mul c (Pn G i)
            refine ⟨c + 1, r, eQ1, fun _ => ⟨q2.trans g1, g2, by omega, by omega⟩, ?_⟩
            rw [eF]
            show que i r (Pn G i) c (s.2.1 3 i) (s.2.2 i) ++ [(nI i, nI u, 0, nds G i s.1)] = que i r (Pn G i) (c + 1) (relQ s.2.1 i u 3 i) (up2 s.2.2 i u (nds G i s.1) i)
            rw [q3, que_s]
            have e9 : qjob i r (Pn G i) (s.2.1 3 i) (up2 s.2.2 i u (nds G i s.1) i) c = (nI i, nI u, 0, nds G i s.1) := by
              simp only [qjob]
              rw [hru, eTu, if_neg (by omega)]
            rw [e9, que_T (t := s.2.2 i) (t' := up2 s.2.2 i u (nds G i s.1) i) (fun k hk => ?_)]
            have hk9 : k * Pn G i < c * Pn G i := Nat.mul_lt_mul_of_pos_right hk (by omega)
            show _ = up2 s.2.2 i u (nds G i s.1) i (r + k * Pn G i)
            exact (up2_j (by omega)).symm
      · intro x hx9
        have eL : jl (rAdd i u ov q).2 (m + 1) = jl q.2 m ++ [(nI i, nI u, 0, nds G i s.1)] := by
          show jl (jAdd q.2 (q.1 28).toNatClampNeg (nI i) (nI u) 0 (rnd (Gs (q.2 1)) i q.1 ov)) (m + 1) = _
          rw [em9, end9]; exact jl_add _ _ _ _ _ _
        rw [eL] at hx9
        rcases List.mem_append.mp hx9 with g | g
        · exact hL x g
        · rw [List.mem_singleton] at g
          exact ⟨i, hi, by rw [g]⟩
  · have hd0 : ¬ nI (u % Pn G i) = 0 := nI_ne0 (by omega) (by have := Nat.mod_le u (Pn G i); omega)
    rw [if_neg hd0, if_neg hd0]
    refine ⟨⟨c1, c2, c3, c4, c5, c6, c7, c8, c9, c10, c11, c12, c13, c14⟩, m, by omega, em, hother _ _ _ (fun j hj _ => hT j hj) ?_, hL⟩
    obtain ⟨c, r, h1, h2, h3⟩ := hT i hi
    refine ⟨c, r, h1, fun z => ?_, h3⟩
    obtain ⟨g1, g2, g3, g4⟩ := h2 z
    rw [htf] at g3 g4
    refine ⟨g1, g2, ?_, by omega⟩
    have : u ≠ r + c * Pn G i := fun w => hd (by rw [w]; exact Nat.mod_eq_zero_of_dvd (Nat.dvd_add g2 (Nat.dvd_mul_left _ _)))
    omega
theorem rel_all {G : vG} {n : Nat} {S0 : MSt} {ov : Int32} {hz : Nat} {u : Nat} (hG : okG G n) (hn : n ≤ 8) (hu : u < 1000) (hag : agr (Gs (S0.2 1)) G n) : ∀ (j i b : Nat) (tf : Nat → Nat) (s : SSt) (q : MSt), i + j = n → b + j < 1700 → (∀ k, k < n → tf k = if k < i then u + 1 else u) → CR G n S0 ov hz tf b s q → CR G n S0 ov hz (fun _ => u + 1) (b + j) (rls G u j i s) (rlsR u ov j i q) := by
  intro j
  induction j with
  | zero =>
    intro i b tf s q h1 h2 h3 h
    exact CR_tf h (fun k hk => by rw [h3 k hk, if_pos (by omega)])
  | succ j ih =>
    intro i b tf s q h1 h2 h3 h
    have hs := rel_step hG hn hu hag (i := i) (by omega) (by rw [h3 i (by omega), if_neg (by omega)]) (by omega) h
    have := ih (i + 1) (b + 1) _ _ _ (by omega) (by omega) (fun k hk => by
      show (if k = i then u + 1 else tf k) = _
      by_cases e : k = i
      · rw [if_pos e, if_pos (by omega)]
      · rw [if_neg e, h3 k hk]
        by_cases g : k < i
        · rw [if_pos g, if_pos (by omega)]
        · rw [if_neg g, if_neg (by omega)]) hs
    rw [show b + (j + 1) = b + 1 + j by omega]
    exact this

/-! PART 67: the class's simulation beside the reference's: a unit -/
theorem cplM_at {G : vG} {i : Nat} {tm : Int32} {M : Nat → Int32} {Q : vG} : cplM G i tm M Q 11 = M 11 + 1 ∧ cplM G i tm M Q 10 = M 10 + (if tm - Q 2 i ≤ G 1 i then 0 else if M 9 < Q 2 i + G 1 i then 0 else 1) ∧ ∀ k, k ≠ 10 → k ≠ 11 → cplM G i tm M Q k = M k := by
  unfold cplM cnl
  by_cases h : tm - Q 2 i ≤ G 1 i
  · rw [if_pos h, if_pos h]
    exact ⟨pk_us, by rw [pk_un (by decide), Int32.add_zero], fun k _ h2 => pk_un h2⟩
  · rw [if_neg h, if_neg h]
    have e9 : upd M 11 (M 11 + 1) 9 = M 9 := rfl
    rw [e9]
    by_cases g : M 9 < Q 2 i + G 1 i
    · rw [if_pos g, if_pos g]
      exact ⟨pk_us, by rw [pk_un (by decide), Int32.add_zero], fun k _ h2 => pk_un h2⟩
    · rw [if_neg g, if_neg g]
      exact ⟨by rw [pk_un (by decide), pk_us], by rw [pk_us]; rfl, fun k h1 h2 => by rw [pk_un h1, pk_un h2]⟩
theorem dpp_at {G : vG} {M : Nat → Int32} {Q : vG} {cf : Nat → Nat} : ∀ j, (∀ i, i < j → Q 1 i = nI (cf i)) → (dpp G j (M, Q)).1 12 = M 12 + nI (sumN (fun i => if G 3 i ≤ 0 then cf i else 0) j) ∧ (∀ k, k ≠ 12 → (dpp G j (M, Q)).1 k = M k) ∧ (∀ i, (dpp G j (M, Q)).2 1 i = if i < j ∧ G 3 i ≤ 0 then 0 else Q 1 i) ∧ ∀ k, k ≠ 1 → (dpp G j (M, Q)).2 k = Q k := by
  intro j
  induction j with
  | zero =>
    intro _
    refine ⟨?_, fun _ _ => rfl, fun i => by rw [if_neg (by omega)]; rfl, fun _ _ => rfl⟩
    show M 12 = M 12 + nI 0
    rw [nI_0, Int32.add_zero]
  | succ j ih =>
    intro h
    obtain ⟨h1, h2, h3, h4⟩ := ih (fun i hi => h i (by omega))
    simp only [dpp]
    by_cases g : G 3 j ≤ 0
    · rw [if_pos g]
      have e1 : (dpp G j (M, Q)).2 1 j = nI (cf j) := by rw [h3 j, if_neg (by omega)]; exact h j (by omega)
      refine ⟨?_, ?_, ?_, ?_⟩
      · show upd (dpp G j (M, Q)).1 12 ((dpp G j (M, Q)).1 12 + (dpp G j (M, Q)).2 1 j) 12 = _
        rw [pk_us, h1, e1, Int32.add_assoc, nI_add]
        simp only [sumN]
        rw [if_pos g]
      · intro k hk
        show upd (dpp G j (M, Q)).1 12 ((dpp G j (M, Q)).1 12 + (dpp G j (M, Q)).2 1 j) k = _
        rw [pk_un hk]; exact h2 k hk
      · intro i
        show up2 (dpp G j (M, Q)).2 1 j 0 1 i = _
        by_cases e : i = j
        · subst e; rw [up2_at, if_pos ⟨by omega, g⟩]
        · rw [up2_j e, h3 i]
          by_cases z : i < j ∧ G 3 i ≤ 0
          · rw [if_pos z, if_pos ⟨by omega, z.2⟩]
          · rw [if_neg z, if_neg (fun w => z ⟨by omega, w.2⟩)]
      · intro k hk
        show up2 (dpp G j (M, Q)).2 1 j 0 k = _
        rw [up2_k hk]; exact h4 k hk
    · rw [if_neg g]
      refine ⟨?_, h2, ?_, h4⟩
      · rw [h1]; simp only [sumN]; rw [if_neg g, Nat.add_zero]
      · intro i
        rw [h3 i]
        by_cases z : i < j ∧ G 3 i ≤ 0
        · rw [if_pos z, if_pos ⟨by omega, z.2⟩]
        · rw [if_neg z, if_neg (fun w => z ⟨by rcases Nat.lt_or_ge i j with y | y; exact y; exact absurd (by rw [← show i = j by omega]; exact w.2) g, w.2⟩)]
theorem jl_19 (R : vG) (f : Nat → Int32) (m : Nat) : jl (upr R 19 f) m = jl R m := jl_cong (R := R) (R' := upr R 19 f) (fun k h1 h2 => by show (if k = 19 then f else R k) = R k; rw [if_neg (by omega)])
theorem split_erase {α : Type} {L1 L2 : List α} {x : α} {e : Nat} (h : L1.length = e) : (L1 ++ x :: L2).eraseIdx e = L1 ++ L2 := by
  rw [List.eraseIdx_eq_take_drop_succ, List.take_append_of_le_length (by omega), List.take_of_length_le (by omega)]
  have : (L1 ++ x :: L2).drop (e + 1) = L2 := by
    have h2 : L1 ++ x :: L2 = (L1 ++ [x]) ++ L2 := by simp
    rw [h2, List.drop_append_of_le_length (by simp; omega), List.drop_of_length_le (by simp; omega), List.nil_append]
  rw [this]
theorem filter_swap {α : Type} (p q : α → Bool) (L : List α) : (L.filter p).filter q = (L.filter q).filter p := by
  rw [List.filter_filter, List.filter_filter]
  congr 1
  funext x
  exact Bool.and_comm _ _
theorem hiJ_of {G G' : vG} {n j : Nat} {x : Job} (hn : n ≤ 8) (hag : agr G' G n) (hj : j < n) (h : isJ j x = true) : hiJ G' x = decide (¬ G 3 j ≤ 0) := by
  unfold hiJ
  rw [of_decide_eq_true h, nI_clamp (by omega), hag 3 (by decide) j hj]
theorem filt_all {α : Type} {p : α → Bool} {L : List α} (h : ∀ x ∈ L, p x = true) : L.filter p = L := List.filter_eq_self.mpr h
theorem filt_none {α : Type} {p : α → Bool} {L : List α} (h : ∀ x ∈ L, p x = false) : L.filter p = [] := List.filter_eq_nil_iff.mpr (fun x hx => by rw [h x hx]; decide)
set_option maxHeartbeats 2000000 in
/-- a unit's run, on both sides -/
theorem run_step {G : vG} {n : Nat} {S0 : MSt} {ov : Int32} {hz : Nat} {u b : Nat} {s : SSt} {q : MSt} {sc : Int32} (hG : okG G n) (hn : n ≤ 8) (hu : u < 1000) (hs : scOk sc) (hag : agr (Gs (S0.2 1)) G n) (hsc : S0.2 1 1 = sc) (hb : b < 1700) (h : CR G n S0 ov hz (fun _ => u + 1) b s q) : CR G n S0 ov hz (fun _ => u + 1) b (stpB G sc n u s) (runR u (nI hz) q) := by
  obtain ⟨hC, m, hm, em, hT, hL⟩ := h
  have hP : ∀ i, i < n → 1 ≤ Pn G i := fun i hi => (per_nat (hG i hi)).2.1
  rcases Nat.eq_zero_or_pos m with hm0 | hm0
  · subst hm0
    have e1 : (ect G sc s.1 s.2.1 n).1 < 0 := by
      rcases ect_spec (G := G) (sc := sc) (M := s.1) (Q := s.2.1) n hn with ⟨g, _⟩ | ⟨i, hi, eE, hq, _⟩
      · rw [g]; decide
      · exfalso
        obtain ⟨c, r, h1, h2, h3⟩ := hT i hi
        have : c = 0 := by
          have := congrArg List.length h3
          rw [que_len] at this
          exact this.symm
        exact hq (by rw [h1, this]; decide)
    unfold stpB runR
    rw [if_pos e1, if_pos (show q.1 28 = 0 by rw [em]; rfl)]
    obtain ⟨c1, c2, c3, c4, c5, c6, c7, c8, c9, c10, c11, c12, c13, c14⟩ := hC
    refine ⟨⟨c1, c2, c3, c4, c5, c6, c7, c8, c9, c10, ?_, c12, fun k hk => (pk_un (by omega)).trans (c13 k hk), c14⟩, 0, hm, em, hT, hL⟩
    show q.1 18 + 1 = s.1 14 + 1
    rw [c11]
  obtain ⟨m, rfl⟩ : ∃ z, m = z + 1 := ⟨m - 1, by omega⟩
  obtain ⟨i, c, r, hi, eE, q1, q2, g2, g3, g4, hle, ej, hF1, hF2⟩ := run_head hG hn hu hs hag hsc (by omega) hC em hT hL
  obtain ⟨c1, c2, c3, c4, c5, c6, c7, c8, c9, c10, c11, c12, c13, c14⟩ := hC
  have eS : q.2 1 = S0.2 1 := c14 1 (by decide)
  generalize hee : earS q = e at hle ej hF1 hF2
  have j1 : q.2 24 e = nI i := congrArg (·.1) ej
  have j2 : q.2 25 e = nI r := congrArg (·.2.1) ej
  have j3 : q.2 26 e = s.2.1 3 i := congrArg (·.2.2.1) ej
  have j4 : q.2 27 e = s.2.2 i r := congrArg (·.2.2.2) ej
  have ji : (q.2 24 e).toNatClampNeg = i := by rw [j1]; exact nI_clamp (by omega)
  have hp := per_nat (hG i hi)
  have hr : r < 2000 := by
    have h1 : Pn G i ≤ (c + 1) * Pn G i := Nat.le_mul_of_pos_left _ (by omega)
    omega
  have hsp := jl_split q.2 (m + 1) e hle
  have hl1 : ((jl q.2 (m + 1)).take e).length = e := by rw [List.length_take, jl_len]; omega
  have hrun := jl_run q.2 (m + 1) e hle
  rw [j1, j2, j3, j4] at hrun
  -- the other tasks' jobs
  have hoth : ∀ j, j < n → j ≠ i → (jl q.2 (m + 1)).filter (isJ j) = ((jl q.2 (m + 1)).take e ++ (jl q.2 (m + 1)).drop (e + 1)).filter (isJ j) := fun j hj hne => by
    conv => lhs; rw [hsp]
    rw [List.filter_append, List.filter_cons_of_neg (isJ_ne (i := i) (by omega) (by omega) j1 hne), List.filter_append]
  have hLm : ∀ x ∈ (jl q.2 (m + 1)).take e ++ (jl q.2 (m + 1)).drop (e + 1), ∃ i, i < n ∧ x.1 = nI i := fun x hx => by
    rcases List.mem_append.mp hx with z | z
    · exact hL x (List.mem_of_mem_take z)
    · exact hL x (List.mem_of_mem_drop z)
  have hLr : ∀ x ∈ jl (ran1 e q.2) (m + 1), ∃ i, i < n ∧ x.1 = nI i := fun x hx => by
    rw [hrun] at hx
    rcases List.mem_append.mp hx with z | z
    · exact hLm x (List.mem_append.mpr (Or.inl z))
    · rcases List.mem_cons.mp z with z | z
      · exact ⟨i, hi, by rw [z]⟩
      · exact hLm x (List.mem_append.mpr (Or.inr z))
  have hTr : ∀ j, j < n → TR G (up2 s.2.1 3 i (s.2.1 3 i + 1)) s.2.2 (jl (ran1 e q.2) (m + 1)) (u + 1) j := fun j hj => by
    by_cases hne : j = i
    · subst hne
      refine ⟨c + 1, r, by rw [up2_k (by decide)]; exact q1, fun _ => ⟨by rw [up2_k (by decide)]; exact q2, g2, g3, g4⟩, ?_⟩
      rw [hrun, List.filter_append, hF1, List.nil_append, List.filter_cons_of_pos (isJ_eq rfl), hF2, up2_at, que_cons, qjob_0]
      congr 1
    · obtain ⟨c', r', h1, h2, h3⟩ := hT j hj
      refine ⟨c', r', by rw [up2_k (by decide)]; exact h1, fun z => ⟨by rw [up2_k (by decide)]; exact (h2 z).1, (h2 z).2⟩, ?_⟩
      rw [hrun, List.filter_append, List.filter_cons_of_neg (isJ_ne (i := i) (by omega) (by omega) rfl hne), ← List.filter_append, ← hoth j hj hne, h3, up2_j hne]
  unfold stpB runR
  rw [if_neg (show ¬ (ect G sc s.1 s.2.1 n).1 < 0 by rw [eE]; exact nI_pos (by omega)), if_neg (show ¬ q.1 28 = 0 by rw [em]; exact nI_ne0 (by omega) (by omega)), hee, eE, nI_clamp (by omega)]
  unfold runO runR1
  rw [j3, j4, q2, nI_clamp (show r < 2 ^ 31 by omega), ji]
  have eG : ∀ k, k < 7 → Gs (q.2 1) k i = G k i := fun k hk => by rw [eS]; exact hag k hk i hi
  rw [eG 3 (by decide), eG 2 (by decide), c2]
  have em1 : (q.1 28 - 1).toNatClampNeg = m := cm1 em (by omega)
  by_cases hcond : s.2.1 3 i + 1 = s.2.2 i r
  · rw [if_pos hcond, if_pos hcond]
    obtain ⟨k11, k10, kk⟩ := cplM_at (G := G) (i := i) (tm := nI u + 1) (M := s.1) (Q := up2 s.2.1 3 i (s.2.1 3 i + 1))
    have eq2 : up2 s.2.1 3 i (s.2.1 3 i + 1) 2 i = nI r := by rw [up2_k (by decide)]; exact q2
    have eL : jl (endR e (nI u + 1) (nI hz) (q.1, ran1 e q.2)).2 m = (jl q.2 (m + 1)).take e ++ (jl q.2 (m + 1)).drop (e + 1) := by
      show jl (jShf (upr (ran1 e q.2) 19 _) e (q.1 28 - 1).toNatClampNeg) m = _
      rw [em1, jl_shf _ _ _ (by omega), jl_19, hrun]
      exact split_erase hl1
    have x1 : ∀ k, k ≠ 15 → k ≠ 28 → k ≠ 31 → (endR e (nI u + 1) (nI hz) (q.1, ran1 e q.2)).1 k = q.1 k := fun k a1 a2 a3 => by
      show upd (upd (upd q.1 15 _) 28 _) 31 _ k = _
      rw [pk_un a3, pk_un a2, pk_un a1]
    refine ⟨⟨?_, ?_, ?_, ?_, ?_, ?_, ?_, ?_, ?_, ?_, ?_, ?_, ?_, ?_⟩, m, by omega, ?_, ?_, ?_⟩
    · show cplM G i (nI u + 1) s.1 (up2 s.2.1 3 i (s.2.1 3 i + 1)) 6 = 0 ∨ cplM G i (nI u + 1) s.1 (up2 s.2.1 3 i (s.2.1 3 i + 1)) 6 = 1
      rw [kk 6 (by decide) (by decide)]; exact c1
    · show _ = cplM G i (nI u + 1) s.1 (up2 s.2.1 3 i (s.2.1 3 i + 1)) 6
      rw [kk 6 (by decide) (by decide), x1 29 (by decide) (by decide) (by decide)]; exact c2
    · show cplM G i (nI u + 1) s.1 (up2 s.2.1 3 i (s.2.1 3 i + 1)) 6 = 1 → ∀ j, j < n → G 3 j ≤ 0 → cplQ G i (nI u + 1) (up2 s.2.1 3 i (s.2.1 3 i + 1)) 1 j = 0
      rw [kk 6 (by decide) (by decide)]
      intro w1 j hj w2
      have hji : j ≠ i := fun z => by
        have := c3 w1 j hj w2
        rw [z, q1] at this
        exact nI_ne0 (by omega) (by have := (TR_le (Q := s.2.1) (T := s.2.2) (L := []) (u := u + 1) (hP i hi) (fun _ => ⟨q2, g2, g3, g4⟩)).1; omega) this
      unfold cplQ
      rw [up2_k (by decide), up2_k (by decide), up2_j hji, up2_k (by decide), up2_k (by decide)]
      exact c3 w1 j hj w2
    · show _ = cplM G i (nI u + 1) s.1 (up2 s.2.1 3 i (s.2.1 3 i + 1)) 7
      rw [kk 7 (by decide) (by decide), x1 30 (by decide) (by decide) (by decide)]; exact c4
    · show cplM G i (nI u + 1) s.1 (up2 s.2.1 3 i (s.2.1 3 i + 1)) 8 = _
      rw [kk 8 (by decide) (by decide)]; exact c5
    · show cplM G i (nI u + 1) s.1 (up2 s.2.1 3 i (s.2.1 3 i + 1)) 9 = _
      rw [kk 9 (by decide) (by decide)]; exact c6
    · show q.1 31 + (if nI u + 1 - q.2 25 e ≤ Gs (q.2 1) 1 (q.2 24 e).toNatClampNeg then 0 else if nI hz < q.2 25 e + Gs (q.2 1) 1 (q.2 24 e).toNatClampNeg then 0 else 1) = cplM G i (nI u + 1) s.1 (up2 s.2.1 3 i (s.2.1 3 i + 1)) 10
      rw [k10, eq2, c6, ji, j2, eG 1 (by decide), c7]
    · show q.1 15 + 1 = cplM G i (nI u + 1) s.1 (up2 s.2.1 3 i (s.2.1 3 i + 1)) 11
      rw [k11, c8]
    · show _ = cplM G i (nI u + 1) s.1 (up2 s.2.1 3 i (s.2.1 3 i + 1)) 12
      rw [kk 12 (by decide) (by decide), x1 16 (by decide) (by decide) (by decide)]; exact c9
    · show _ = cplM G i (nI u + 1) s.1 (up2 s.2.1 3 i (s.2.1 3 i + 1)) 13
      rw [kk 13 (by decide) (by decide), x1 17 (by decide) (by decide) (by decide)]; exact c10
    · show _ = cplM G i (nI u + 1) s.1 (up2 s.2.1 3 i (s.2.1 3 i + 1)) 14
      rw [kk 14 (by decide) (by decide), x1 18 (by decide) (by decide) (by decide)]; exact c11
    · intro j hj
      show upd (q.2 19) (q.2 24 e).toNatClampNeg (if nI u + 1 - q.2 25 e ≤ q.2 19 (q.2 24 e).toNatClampNeg then q.2 19 (q.2 24 e).toNatClampNeg else nI u + 1 - q.2 25 e) j = cplQ G i (nI u + 1) (up2 s.2.1 3 i (s.2.1 3 i + 1)) 5 j
      unfold cplQ
      rw [up2_k (by decide), up2_k (by decide), up2_k (by decide), ji, j2, eq2]
      by_cases e9 : j = i
      · subst e9
        rw [pk_us, up2_at, up2_k (by decide), c12 j hj]
        by_cases w : nI u + 1 - nI r ≤ s.2.1 5 j
        · rw [if_pos w, if_neg (Int32.not_lt.mpr w)]
        · rw [if_neg w, if_pos (Int32.not_le.mp w)]
      · rw [pk_un e9, up2_j e9, up2_k (by decide)]; exact c12 j hj
    · intro k hk
      by_cases w : k = 15
      · omega
      · rw [x1 k w (by omega) (by omega)]; exact c13 k hk
    · intro k hk
      show upr (upr (upr (upr (upr (ran1 e q.2) 19 _) 24 _) 25 _) 26 _) 27 _ k = _
      simp only [upr, ran1]
      rw [if_neg (by omega), if_neg (by omega), if_neg (by omega), if_neg (by omega), if_neg (by omega), if_neg (by omega)]; exact c14 k hk
    · show q.1 28 - 1 = _
      rw [em, nI_pred]
    · rw [eL]
      intro j hj
      show TR G (cplQ G i (nI u + 1) (up2 s.2.1 3 i (s.2.1 3 i + 1))) s.2.2 _ (u + 1) j
      by_cases hne : j = i
      · subst hne
        have hsm : (c + 1) * Pn G j = c * Pn G j + Pn G j := Nat.succ_mul c (Pn G j)
        have a1 : cplQ G j (nI u + 1) (up2 s.2.1 3 j (s.2.1 3 j + 1)) 1 j = nI c := by
          unfold cplQ
          rw [up2_k (by decide), up2_k (by decide), up2_at, up2_k (by decide), q1]; exact nI_pred c
        have a2 : cplQ G j (nI u + 1) (up2 s.2.1 3 j (s.2.1 3 j + 1)) 2 j = nI (r + Pn G j) := by
          unfold cplQ
          rw [up2_k (by decide), up2_at, eq2, hp.1, nI_add]
        have a3 : cplQ G j (nI u + 1) (up2 s.2.1 3 j (s.2.1 3 j + 1)) 3 j = 0 := by
          unfold cplQ
          exact up2_at
        refine ⟨c, r + Pn G j, a1, fun _ => ⟨a2, Nat.dvd_add g2 (Nat.dvd_refl _), by omega, by omega⟩, ?_⟩
        rw [List.filter_append, hF1, List.nil_append, hF2, a3]
        refine List.map_congr_left (fun k hk => ?_)
        have e9 : r + (k + 1) * Pn G j = r + Pn G j + k * Pn G j := by rw [Nat.succ_mul]; omega
        simp only [qjob]
        rw [e9, if_neg (by omega)]
        by_cases w : k = 0
        · rw [if_pos w]
        · rw [if_neg w]
      · obtain ⟨c', r', h1, h2, h3⟩ := hT j hj
        have b1 : cplQ G i (nI u + 1) (up2 s.2.1 3 i (s.2.1 3 i + 1)) 1 j = s.2.1 1 j := by
          unfold cplQ
          rw [up2_j hne, up2_j hne, up2_j hne, up2_j hne, up2_j hne]
        have b2 : cplQ G i (nI u + 1) (up2 s.2.1 3 i (s.2.1 3 i + 1)) 2 j = s.2.1 2 j := by
          unfold cplQ
          rw [up2_j hne, up2_j hne, up2_j hne, up2_j hne, up2_j hne]
        have b3 : cplQ G i (nI u + 1) (up2 s.2.1 3 i (s.2.1 3 i + 1)) 3 j = s.2.1 3 j := by
          unfold cplQ
          rw [up2_j hne, up2_j hne, up2_j hne, up2_j hne, up2_j hne]
        refine ⟨c', r', b1.trans h1, fun z => ⟨b2.trans (h2 z).1, (h2 z).2⟩, ?_⟩
        rw [← hoth j hj hne, h3, b3]
    · rw [eL]; exact hLm
  · rw [if_neg hcond, if_neg hcond]
    by_cases hsw : s.1 6 = 0 ∧ ¬ G 3 i ≤ 0 ∧ s.2.1 3 i + 1 = G 2 i
    · rw [if_pos hsw, if_pos hsw]
      have hcf : ∀ j, j < n → up2 s.2.1 3 i (s.2.1 3 i + 1) 1 j = nI (up2 s.2.1 3 i (s.2.1 3 i + 1) 1 j).toNatClampNeg := fun j hj => by
        obtain ⟨c', r', h1, h2, _⟩ := hTr j hj
        have := (TR_le (Q := up2 s.2.1 3 i (s.2.1 3 i + 1)) (T := s.2.2) (L := []) (hP j hj) h2).1
        rw [h1, nI_clamp (by omega)]
      obtain ⟨d1, d2, d3, d4⟩ := dpp_at (G := G) (M := upd (upd s.1 6 1) 13 (s.1 13 + 1)) (Q := up2 s.2.1 3 i (s.2.1 3 i + 1)) (cf := fun j => (up2 s.2.1 3 i (s.2.1 3 i + 1) 1 j).toNatClampNeg) n hcf
      obtain ⟨m', k1, k2, k3, k4, k5, k6⟩ := bh_list (m + 1) (m + 1) (upd (upd q.1 17 (q.1 17 + 1)) 29 1, ran1 e q.2) (Nat.le_refl _) (by omega) em
      have eb : becH (q.1, ran1 e q.2) = bhR (m + 1) (upd (upd q.1 17 (q.1 17 + 1)) 29 1, ran1 e q.2) := by
        unfold becH
        show bhR (q.1 28).toNatClampNeg _ = _
        rw [em, nI_clamp (by omega)]
      rw [eb]
      have et : (jl (ran1 e q.2) (m + 1)).take (m + 1) = jl (ran1 e q.2) (m + 1) := List.take_of_length_le (by rw [jl_len]; omega)
      have ed : (jl (ran1 e q.2) (m + 1)).drop (m + 1) = [] := List.drop_of_length_le (by rw [jl_len]; omega)
      have eR1 : (ran1 e q.2) 1 = S0.2 1 := eS
      have k3 : jl (bhR (m + 1) (upd (upd q.1 17 (q.1 17 + 1)) 29 1, ran1 e q.2)).2 m' = (jl (ran1 e q.2) (m + 1)).filter (hiJ (Gs (S0.2 1))) := by
        rw [k3]
        show List.filter (hiJ (Gs (ran1 e q.2 1))) (List.take (m + 1) (jl (ran1 e q.2) (m + 1))) ++ List.drop (m + 1) (jl (ran1 e q.2) (m + 1)) = _
        rw [et, ed, List.append_nil, eR1]
      have k4 : (bhR (m + 1) (upd (upd q.1 17 (q.1 17 + 1)) 29 1, ran1 e q.2)).1 16 = q.1 16 + nI ((jl (ran1 e q.2) (m + 1)).filter (fun x => !hiJ (Gs (S0.2 1)) x)).length := by
        rw [k4]
        show q.1 16 + nI (List.filter (fun x => !hiJ (Gs (ran1 e q.2 1)) x) (List.take (m + 1) (jl (ran1 e q.2) (m + 1)))).length = _
        rw [et, eR1]
      have hcnt9 : ((jl (ran1 e q.2) (m + 1)).filter (fun x => !hiJ (Gs (S0.2 1)) x)).length = sumN (fun j => if G 3 j ≤ 0 then (up2 s.2.1 3 i (s.2.1 3 i + 1) 1 j).toNatClampNeg else 0) n := by
        rw [cnt_sum _ hn _ hLr]
        refine sumN_congr (fun j hj => ?_)
        obtain ⟨c', r', h1, h2, h3⟩ := hTr j hj
        have hb9 := (TR_le (Q := up2 s.2.1 3 i (s.2.1 3 i + 1)) (T := s.2.2) (L := []) (hP j hj) h2).1
        have hx : ∀ x ∈ (jl (ran1 e q.2) (m + 1)).filter (isJ j), hiJ (Gs (S0.2 1)) x = decide (¬ G 3 j ≤ 0) := fun x hx => hiJ_of hn hag hj (List.mem_filter.mp hx).2
        by_cases w : G 3 j ≤ 0
        · rw [if_pos w, filt_all (fun x hx9 => by rw [hx x hx9, decide_eq_false (fun z => z w)]; rfl), h3, que_len, h1, nI_clamp (by omega)]
        · rw [if_neg w, filt_none (fun x hx9 => by rw [hx x hx9, decide_eq_true w]; rfl)]; rfl
      refine ⟨⟨?_, ?_, ?_, ?_, ?_, ?_, ?_, ?_, ?_, ?_, ?_, ?_, ?_, ?_⟩, m', by omega, k2, ?_, ?_⟩
      · right
        show (dpp G n (upd (upd s.1 6 1) 13 (s.1 13 + 1), up2 s.2.1 3 i (s.2.1 3 i + 1))).1 6 = 1
        rw [d2 6 (by decide)]; rfl
      · show _ = (dpp G n (upd (upd s.1 6 1) 13 (s.1 13 + 1), up2 s.2.1 3 i (s.2.1 3 i + 1))).1 6
        rw [d2 6 (by decide), k5 29 (by decide) (by decide)]; rfl
      · intro _ j hj w
        show (dpp G n (upd (upd s.1 6 1) 13 (s.1 13 + 1), up2 s.2.1 3 i (s.2.1 3 i + 1))).2 1 j = 0
        rw [d3 j, if_pos ⟨hj, w⟩]
      · show _ = (dpp G n (upd (upd s.1 6 1) 13 (s.1 13 + 1), up2 s.2.1 3 i (s.2.1 3 i + 1))).1 7
        rw [d2 7 (by decide), k5 30 (by decide) (by decide)]; exact c4
      · show (dpp G n (upd (upd s.1 6 1) 13 (s.1 13 + 1), up2 s.2.1 3 i (s.2.1 3 i + 1))).1 8 = _
        rw [d2 8 (by decide)]; exact c5
      · show (dpp G n (upd (upd s.1 6 1) 13 (s.1 13 + 1), up2 s.2.1 3 i (s.2.1 3 i + 1))).1 9 = _
        rw [d2 9 (by decide)]; exact c6
      · show _ = (dpp G n (upd (upd s.1 6 1) 13 (s.1 13 + 1), up2 s.2.1 3 i (s.2.1 3 i + 1))).1 10
        rw [d2 10 (by decide), k5 31 (by decide) (by decide)]; exact c7
      · show _ = (dpp G n (upd (upd s.1 6 1) 13 (s.1 13 + 1), up2 s.2.1 3 i (s.2.1 3 i + 1))).1 11
        rw [d2 11 (by decide), k5 15 (by decide) (by decide)]; exact c8
      · show _ = (dpp G n (upd (upd s.1 6 1) 13 (s.1 13 + 1), up2 s.2.1 3 i (s.2.1 3 i + 1))).1 12
        rw [d1, k4, hcnt9]
        show q.1 16 + _ = s.1 12 + _
        rw [c9]
      · show _ = (dpp G n (upd (upd s.1 6 1) 13 (s.1 13 + 1), up2 s.2.1 3 i (s.2.1 3 i + 1))).1 13
        rw [d2 13 (by decide), k5 17 (by decide) (by decide)]
        show q.1 17 + 1 = s.1 13 + 1
        rw [c10]
      · show _ = (dpp G n (upd (upd s.1 6 1) 13 (s.1 13 + 1), up2 s.2.1 3 i (s.2.1 3 i + 1))).1 14
        rw [d2 14 (by decide), k5 18 (by decide) (by decide)]; exact c11
      · intro j hj
        show _ = (dpp G n (upd (upd s.1 6 1) 13 (s.1 13 + 1), up2 s.2.1 3 i (s.2.1 3 i + 1))).2 5 j
        rw [d4 5 (by decide), k6 19 (by decide), up2_k (by decide)]; exact c12 j hj
      · intro k hk
        rw [k5 k (by omega) (by omega)]
        show upd (upd q.1 17 _) 29 _ k = _
        rw [pk_un (by omega), pk_un (by omega)]; exact c13 k hk
      · intro k hk
        rw [k6 k (by omega)]
        show upr q.2 26 _ k = _
        simp only [upr]
        rw [if_neg (by omega)]; exact c14 k hk
      · rw [k3]
        intro j hj
        show TR G (dpp G n (upd (upd s.1 6 1) 13 (s.1 13 + 1), up2 s.2.1 3 i (s.2.1 3 i + 1))).2 s.2.2 _ (u + 1) j
        obtain ⟨c', r', h1, h2, h3⟩ := hTr j hj
        have hx : ∀ x ∈ (jl (ran1 e q.2) (m + 1)).filter (isJ j), hiJ (Gs (S0.2 1)) x = decide (¬ G 3 j ≤ 0) := fun x hx => hiJ_of hn hag hj (List.mem_filter.mp hx).2
        by_cases w : G 3 j ≤ 0
        · refine ⟨0, r', by rw [d3 j, if_pos ⟨hj, w⟩]; rfl, fun z => absurd z (by omega), ?_⟩
          rw [filter_swap, filt_none (fun x hx9 => by rw [hx x hx9, decide_eq_false (fun z => z w)])]; rfl
        · refine ⟨c', r', by rw [d3 j, if_neg (fun z => w z.2)]; exact h1, fun z => ⟨by rw [d4 2 (by decide)]; exact (h2 z).1, (h2 z).2⟩, ?_⟩
          rw [filter_swap, filt_all (fun x hx9 => by rw [hx x hx9, decide_eq_true w]), h3, d4 3 (by decide)]
      · rw [k3]
        exact fun x hx => hLr x (List.mem_filter.mp hx).1
    · rw [if_neg hsw, if_neg hsw]
      refine ⟨⟨c1, c2, ?_, c4, c5, c6, c7, c8, c9, c10, c11, ?_, c13, ?_⟩, m + 1, hm, em, hTr, hLr⟩
      · intro w1 j hj w2
        show up2 s.2.1 3 i (s.2.1 3 i + 1) 1 j = 0
        rw [up2_k (by decide)]; exact c3 w1 j hj w2
      · intro j hj
        show q.2 19 j = up2 s.2.1 3 i (s.2.1 3 i + 1) 5 j
        rw [up2_k (by decide)]; exact c12 j hj
      · intro k hk
        show upr q.2 26 _ k = _
        simp only [upr]
        rw [if_neg (by omega)]; exact c14 k hk

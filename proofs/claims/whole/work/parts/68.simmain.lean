/-! PART 68: the class's simulation and the reference's answer alike -/
/-- is the job late at the end -/
def ltJ (G : vG) (hz : Int32) (x : Job) : Bool := decide (¬ hz < x.2.1 + G 1 x.1.toNatClampNeg)
theorem latR_cnt (s : MSt) (hz : Int32) : ∀ j, latR s hz j = s.1 31 + nI ((jl s.2 j).filter (ltJ (Gs (s.2 1)) hz)).length := by
  intro j
  induction j with
  | zero => show s.1 31 = s.1 31 + nI 0; rw [nI_0, Int32.add_zero]
  | succ j ih =>
    simp only [latR]
    rw [ih, jl_s, List.filter_append, List.length_append, ← nI_add, ← Int32.add_assoc]
    congr 1
    by_cases h : hz < s.2 25 j + Gs (s.2 1) 1 (s.2 24 j).toNatClampNeg
    · have : ltJ (Gs (s.2 1)) hz (jat s.2 j) = false := decide_eq_false (fun q => q h)
      rw [if_pos h]; simp [this]; rfl
    · have : ltJ (Gs (s.2 1)) hz (jat s.2 j) = true := decide_eq_true h
      rw [if_neg h]; simp [this]; rfl
theorem cnl_at {G : vG} {i : Nat} {rel : Int32} {M : Nat → Int32} : cnl G i rel M 10 = M 10 + (if M 9 < rel + G 1 i then 0 else 1) ∧ ∀ k, k ≠ 10 → cnl G i rel M k = M k := by
  unfold cnl
  by_cases h : M 9 < rel + G 1 i
  · rw [if_pos h, if_pos h]; exact ⟨by rw [Int32.add_zero], fun _ _ => rfl⟩
  · rw [if_neg h, if_neg h]; exact ⟨pk_us, fun _ hk => pk_un hk⟩
/-- the late ones of the waiting jobs of a task -/
theorem clt_cnt {G G' Q T : vG} {n i r hz : Nat} (hi : i < n) (hn : n ≤ 8) (hag : agr G' G n) (hq : Q 2 i = nI r) (hp : per G i = nI (Pn G i)) : ∀ (j q : Nat) (M : Nat → Int32), M 9 = nI hz → clt G Q i j q M 10 = M 10 + nI (((List.range' q j).map (qjob i r (Pn G i) (Q 3 i) (T i))).filter (ltJ G' (nI hz))).length ∧ ∀ k, k ≠ 10 → clt G Q i j q M k = M k := by
  intro j
  induction j with
  | zero => intro q M _; exact ⟨by show M 10 = M 10 + nI 0; rw [nI_0, Int32.add_zero], fun _ _ => rfl⟩
  | succ j ih =>
    intro q M h9
    obtain ⟨a1, a2⟩ := cnl_at (G := G) (i := i) (rel := Q 2 i + nI q * per G i) (M := M)
    obtain ⟨b1, b2⟩ := ih (q + 1) (cnl G i (Q 2 i + nI q * per G i) M) (by rw [a2 9 (by decide)]; exact h9)
    simp only [clt]
    refine ⟨?_, fun k hk => (b2 k hk).trans (a2 k hk)⟩
    rw [b1, a1, List.range'_succ, List.map_cons, h9]
    have e1 : Q 2 i + nI q * per G i = nI (r + q * Pn G i) := by rw [hq, hp, pk_mul, nI_add]
    have e2 : ltJ G' (nI hz) (qjob i r (Pn G i) (Q 3 i) (T i) q) = decide (¬ nI hz < nI (r + q * Pn G i) + G 1 i) := by
      unfold ltJ
      show decide (¬ nI hz < nI (r + q * Pn G i) + G' 1 (nI i).toNatClampNeg) = _
      rw [nI_clamp (by omega), hag 1 (by decide) i hi]
    rw [e1]
    by_cases w : nI hz < nI (r + q * Pn G i) + G 1 i
    · rw [if_pos w, List.filter_cons_of_neg (by rw [e2, decide_eq_false (fun z => z w)]; decide), Int32.add_zero]
    · rw [if_neg w, List.filter_cons_of_pos (by rw [e2]; exact decide_eq_true w), List.length_cons, Int32.add_assoc, ← nI_add, Int32.add_comm (nI _) (nI 1)]; rfl
theorem clp_cnt {G Q : vG} {n hz : Nat} {f : Nat → Nat} (hf : ∀ i, i < n → ∀ M : Nat → Int32, M 9 = nI hz → clt G Q i (Q 1 i).toNatClampNeg 0 M 10 = M 10 + nI (f i) ∧ ∀ k, k ≠ 10 → clt G Q i (Q 1 i).toNatClampNeg 0 M k = M k) : ∀ (j i : Nat) (M : Nat → Int32), i + j = n → M 9 = nI hz → clp G Q j i M 10 = M 10 + nI (sumN (fun k => f (i + k)) j) ∧ ∀ k, k ≠ 10 → clp G Q j i M k = M k := by
  intro j
  induction j with
  | zero => intro i M _ _; exact ⟨by show M 10 = M 10 + nI 0; rw [nI_0, Int32.add_zero], fun _ _ => rfl⟩
  | succ j ih =>
    intro i M h h9
    obtain ⟨a1, a2⟩ := hf i (by omega) M h9
    obtain ⟨b1, b2⟩ := ih (i + 1) (clt G Q i (Q 1 i).toNatClampNeg 0 M) (by omega) (by rw [a2 9 (by decide)]; exact h9)
    simp only [clp]
    refine ⟨?_, fun k hk => (b2 k hk).trans (a2 k hk)⟩
    rw [b1, a1, Int32.add_assoc, nI_add, sumN_front]
    congr 2
    show f i + sumN (fun k => f (i + 1 + k)) j = f (i + 0) + sumN (fun k => f (i + (k + 1))) j
    rw [Nat.add_zero]
    congr 1
    exact sumN_congr (fun k _ => by rw [show i + 1 + k = i + (k + 1) by omega])
theorem fin_rel {G : vG} {n : Nat} {S0 : MSt} {ov : Int32} {hz : Nat} {u b : Nat} {s : SSt} {q : MSt} (hG : okG G n) (hn : n ≤ 8) (hu : u < 1000) (hag : agr (Gs (S0.2 1)) G n) (hb : b < 1700) (h : CR G n S0 ov hz (fun _ => u) b s q) : clp G s.2.1 n 0 s.1 10 = latR q (nI hz) (q.1 28).toNatClampNeg ∧ ∀ k, k ≠ 10 → clp G s.2.1 n 0 s.1 k = s.1 k := by
  obtain ⟨hC, m, hm, em, hT, hL⟩ := h
  obtain ⟨c1, c2, c3, c4, c5, c6, c7, c8, c9, c10, c11, c12, c13, c14⟩ := hC
  have eS : q.2 1 = S0.2 1 := c14 1 (by decide)
  have hf : ∀ i, i < n → ∀ M : Nat → Int32, M 9 = nI hz → clt G s.2.1 i (s.2.1 1 i).toNatClampNeg 0 M 10 = M 10 + nI (((jl q.2 m).filter (isJ i)).filter (ltJ (Gs (S0.2 1)) (nI hz))).length ∧ ∀ k, k ≠ 10 → clt G s.2.1 i (s.2.1 1 i).toNatClampNeg 0 M k = M k := fun i hi M h9 => by
    obtain ⟨c, r, h1, h2, h3⟩ := hT i hi
    have hp := per_nat (hG i hi)
    have hb9 : c ≤ u := (TR_le (Q := s.2.1) (T := s.2.2) (L := []) hp.2.1 h2).1
    rw [h1, nI_clamp (by omega), h3]
    rcases Nat.eq_zero_or_pos c with z | z
    · subst z
      exact ⟨by show M 10 = M 10 + nI 0; rw [nI_0, Int32.add_zero], fun _ _ => rfl⟩
    · have := clt_cnt (T := s.2.2) (hz := hz) hi hn hag (h2 z).1 hp.1 c 0 M h9
      rw [← List.range_eq_range'] at this
      exact this
  obtain ⟨a1, a2⟩ := clp_cnt hf n 0 s.1 (by omega) c6
  refine ⟨?_, a2⟩
  rw [a1, em, nI_clamp (by omega), latR_cnt, c7, eS, cnt_sum _ hn _ hL]
  congr 2
  exact sumN_congr (fun k _ => by rw [Nat.zero_add])
theorem ect_zero {G : vG} {n : Nat} {S0 : MSt} {ov : Int32} {hz : Nat} {u b : Nat} {s : SSt} {q : MSt} {sc : Int32} (hG : okG G n) (hn : n ≤ 8) (hu : u < 1000) (hb : b < 1700) (h : CR G n S0 ov hz (fun _ => u) b s q) : (ect G sc s.1 s.2.1 n).1 < 0 ↔ q.1 28 = 0 := by
  obtain ⟨hC, m, hm, em, hT, hL⟩ := h
  constructor
  · intro g
    rcases Nat.eq_zero_or_pos m with z | z
    · rw [em, z]; rfl
    · exfalso
      have h1 : jat q.2 0 ∈ jl q.2 m := List.mem_map.mpr ⟨0, List.mem_range.mpr z, rfl⟩
      obtain ⟨t, ht, et⟩ := hL _ h1
      have h2 : jat q.2 0 ∈ (jl q.2 m).filter (isJ t) := List.mem_filter.mpr ⟨h1, isJ_eq et⟩
      obtain ⟨c, r, g1, g2, g3⟩ := hT t ht
      have hc : 0 < c := by
        rcases Nat.eq_zero_or_pos c with w | w
        · rw [g3, w] at h2; exact absurd h2 (List.not_mem_nil)
        · exact w
      have hb9 : c ≤ u := (TR_le (Q := s.2.1) (T := s.2.2) (L := []) (per_nat (hG t ht)).2.1 g2).1
      rcases ect_spec (G := G) (sc := sc) (M := s.1) (Q := s.2.1) n hn with ⟨_, y⟩ | ⟨i, hi, eE, _, _⟩
      · exact absurd (y t ht) (by rw [g1]; exact nI_nle hc (by omega))
      · rw [eE] at g; exact nI_pos (by omega) g
  · intro g
    have hm0 : m = 0 := by
      rw [em] at g
      rcases Nat.eq_zero_or_pos m with z | z
      · exact z
      · exact absurd g (nI_ne0 z (by omega))
    subst hm0
    rcases ect_spec (G := G) (sc := sc) (M := s.1) (Q := s.2.1) n hn with ⟨y, _⟩ | ⟨i, hi, eE, hq, _⟩
    · rw [y]; decide
    · exfalso
      obtain ⟨c, r, h1, h2, h3⟩ := hT i hi
      have : c = 0 := by
        have := congrArg List.length h3
        rw [que_len] at this
        exact this.symm
      exact hq (by rw [h1, this]; decide)
theorem CR_job {G : vG} {n : Nat} {S0 : MSt} {ov : Int32} {hz : Nat} {tf : Nat → Nat} {b : Nat} {s : SSt} {q : MSt} (hb : b ≤ 1690) (h : CR G n S0 ov hz tf b s q) : jobOk n (S0.2 1) q := by
  obtain ⟨hC, m, hm, em, hT, hL⟩ := h
  refine ⟨hC.2.2.2.2.2.2.2.2.2.2.2.2.2 1 (by decide), m, by omega, em, fun y hy => ?_⟩
  exact hL (jat q.2 y) (List.mem_map.mpr ⟨y, List.mem_range.mpr hy, rfl⟩)
/-- the mode is left when nothing waits -/
theorem mode_step {G : vG} {n : Nat} {S0 : MSt} {ov : Int32} {hz : Nat} {u b : Nat} {s : SSt} {q : MSt} {sc : Int32} (hG : okG G n) (hn : n ≤ 8) (hu : u < 1000) (hb : b < 1700) (h : CR G n S0 ov hz (fun _ => u) b s q) : CR G n S0 ov hz (fun _ => u) b (if (ect G sc s.1 s.2.1 n).1 < 0 then upd s.1 6 0 else s.1, s.2.1, s.2.2) (upd q.1 29 (if q.1 28 = 0 then 0 else q.1 29), q.2) := by
  have hz9 := ect_zero (sc := sc) hG hn hu hb h
  obtain ⟨hC, m, hm, em, hT, hL⟩ := h
  obtain ⟨c1, c2, c3, c4, c5, c6, c7, c8, c9, c10, c11, c12, c13, c14⟩ := hC
  by_cases g : q.1 28 = 0
  · rw [if_pos (hz9.mpr g), if_pos g]
    refine ⟨⟨Or.inl rfl, rfl, fun w => absurd (show (0 : Int32) = 1 from w) (by decide), c4, c5, c6, c7, c8, c9, c10, c11, c12, fun k hk => (pk_un (by omega)).trans (c13 k hk), c14⟩, m, hm, em, hT, hL⟩
  · rw [if_neg (fun w => g (hz9.mp w)), if_neg g, upd_self]
    exact ⟨⟨c1, c2, c3, c4, c5, c6, c7, c8, c9, c10, c11, c12, c13, c14⟩, m, hm, em, hT, hL⟩
/-- both sides, unit by unit -/
theorem sim_rel {G : vG} {n : Nat} {sc : Int32} {I : Nat → Int32} {R : vG} {M : Nat → Int32} {Q T : vG} {sd ov : Int32} {hz : Nat} (hG : okG G n) (hn : n ≤ 8) (hs : scOk sc) (hag : agr (Gs (R 1)) G n) (hsc : R 1 1 = sc) (hh : hz ≤ 200) : ∀ u, u ≤ hz → CR G n (simR0 I R sd) ov hz (fun _ => u) (8 * u) (sts G sc n (sim0 M Q T sd ov hz) u) (stsR ov n hz (simR0 I R sd) u) ∧
    (u < hz → CR G n (simR0 I R sd) ov hz (fun _ => u + 1) (8 * u + n) (stpA G sc n u (sts G sc n (sim0 M Q T sd ov hz) u)) (stAR ov n u (stsR ov n hz (simR0 I R sd) u))) := by
  have hstep : ∀ u, u < hz → CR G n (simR0 I R sd) ov hz (fun _ => u) (8 * u) (sts G sc n (sim0 M Q T sd ov hz) u) (stsR ov n hz (simR0 I R sd) u) → CR G n (simR0 I R sd) ov hz (fun _ => u + 1) (8 * u + n) (stpA G sc n u (sts G sc n (sim0 M Q T sd ov hz) u)) (stAR ov n u (stsR ov n hz (simR0 I R sd) u)) := fun u hu h => by
    unfold stpA stAR
    exact rel_all hG hn (by omega) hag n 0 (8 * u) (fun _ => u) _ _ (by omega) (by omega) (fun k hk => by rw [if_neg (by omega)]) (mode_step (sc := sc) hG hn (by omega) (by omega) h)
  intro u
  induction u with
  | zero =>
    intro _
    have h0 : CR G n (simR0 I R sd) ov hz (fun _ => 0) (8 * 0) (sts G sc n (sim0 M Q T sd ov hz) 0) (stsR ov n hz (simR0 I R sd) 0) := by
      refine ⟨⟨Or.inl rfl, rfl, fun w => absurd (show (0 : Int32) = 1 from w) (by decide), rfl, rfl, rfl, rfl, rfl, rfl, rfl, rfl, ?_, fun _ _ => rfl, fun _ _ => rfl⟩, 0, Nat.le_refl _, rfl, ?_, ?_⟩
      · intro i hi
        show (if i < 8 then (0 : Int32) else R 19 i) = (if (5 = 1 ∨ 5 = 5) ∧ i < 8 then 0 else Q 5 i)
        rw [if_pos hi, if_pos ⟨Or.inr rfl, hi⟩]
      · intro i hi
        refine ⟨0, 0, ?_, fun w => absurd w (by decide), rfl⟩
        show (if (1 = 1 ∨ 1 = 5) ∧ i < 8 then (0 : Int32) else Q 1 i) = _
        rw [if_pos ⟨Or.inl rfl, by omega⟩]; rfl
      · intro x hx
        exact absurd hx (List.not_mem_nil)
    exact ⟨h0, fun hu => hstep 0 hu h0⟩
  | succ u ih =>
    intro hu
    have h1 := (ih (by omega)).2 (by omega)
    have h2 : CR G n (simR0 I R sd) ov hz (fun _ => u + 1) (8 * (u + 1)) (sts G sc n (sim0 M Q T sd ov hz) (u + 1)) (stsR ov n hz (simR0 I R sd) (u + 1)) := CR_b (run_step hG hn (by omega) hs hag hsc (by omega) h1) (by omega)
    exact ⟨h2, fun w => hstep (u + 1) w h2⟩
/-- .. and what follows: the class's run meets what it needs, the reference's too, and they answer alike -/
theorem sim_main {G : vG} {n : Nat} {sc : Int32} {I : Nat → Int32} {R : vG} {M : Nat → Int32} {Q T : vG} {sd ov : Int32} {hz : Nat} (hG : okG G n) (hn : n ≤ 8) (hs : scOk sc) (hag : agr (Gs (R 1)) G n) (hsc : R 1 1 = sc) (hh : hz ≤ 200) :
    simOk G sc n hz (sim0 M Q T sd ov hz) ∧ simOkR ov n hz (simR0 I R sd) ∧
    ∃ s q, s = simE G n (sts G sc n (sim0 M Q T sd ov hz) hz) ∧ q = simRE hz (stsR ov n hz (simR0 I R sd) hz) ∧ q.1 31 = s.1 10 ∧ q.1 15 = s.1 11 ∧ q.1 16 = s.1 12 ∧ q.1 17 = s.1 13 ∧ q.1 18 = s.1 14 ∧ (∀ i, i < 8 → q.2 19 i = s.2.1 5 i) ∧ (∀ k, k < 15 → q.1 k = (simR0 I R sd).1 k) ∧ ∀ k, k < 19 → q.2 k = R k := by
  have hR := sim_rel (I := I) (R := R) (M := M) (Q := Q) (T := T) (sd := sd) (ov := ov) (hz := hz) hG hn hs hag hsc hh
  refine ⟨⟨fun u hu => (hR u hu).1.1.2.2.2.2.2.1, fun u hu i hi e => ?_, fun i hi => ?_⟩, ⟨fun u hu => CR_job (by omega) (hR u hu).1, fun u hu => CR_job (by omega) ((hR u (by omega)).2 hu)⟩, _, _, rfl, rfl, ?_⟩
  · obtain ⟨hC, m, hm, em, hT, hL⟩ := (hR u (by omega)).2 hu
    rcases ect_spec (G := G) (sc := sc) (M := (stpA G sc n u (sts G sc n (sim0 M Q T sd ov hz) u)).1) (Q := (stpA G sc n u (sts G sc n (sim0 M Q T sd ov hz) u)).2.1) n hn with ⟨y, _⟩ | ⟨j, hj, eE, hq, _⟩
    · rw [y] at e
      exact absurd (show (-1 : Int32) < 0 by decide) (by rw [e]; exact nI_pos (by omega))
    · rw [eE] at e
      have : j = i := (nI_eq (by omega) (by omega)).mp e
      subst this
      obtain ⟨c, r, h1, h2, h3⟩ := hT j hj
      have hc : 0 < c := by
        rcases Nat.eq_zero_or_pos c with w | w
        · exact absurd (by rw [h1, w]; decide) hq
        · exact w
      have hb9 := (TR_le (Q := (stpA G sc n u (sts G sc n (sim0 M Q T sd ov hz) u)).2.1) (T := T) (L := []) (per_nat (hG j hj)).2.1 h2)
      have h4 : r + c * Pn G j < u + 1 + Pn G j := (h2 hc).2.2.2
      have h5 : Pn G j ≤ c * Pn G j := Nat.le_mul_of_pos_left _ hc
      exact ⟨r, by omega, (h2 hc).1⟩
  · obtain ⟨hC, m, hm, em, hT, hL⟩ := (hR hz (Nat.le_refl _)).1
    obtain ⟨c, r, h1, h2, h3⟩ := hT i hi
    have hb9 : c ≤ hz := (TR_le (Q := (sts G sc n (sim0 M Q T sd ov hz) hz).2.1) (T := T) (L := []) (per_nat (hG i hi)).2.1 h2).1
    exact ⟨c, by omega, h1⟩
  · have h := (hR hz (Nat.le_refl _)).1
    obtain ⟨f1, f2⟩ := fin_rel hG hn (by omega) hag (by omega) h
    obtain ⟨hC, _⟩ := h
    obtain ⟨c1, c2, c3, c4, c5, c6, c7, c8, c9, c10, c11, c12, c13, c14⟩ := hC
    refine ⟨?_, ?_, ?_, ?_, ?_, c12, fun k hk => ?_, fun k hk => ?_⟩
    · exact f1.symm
    · exact c8.trans (f2 11 (by decide)).symm
    · exact c9.trans (f2 12 (by decide)).symm
    · exact c10.trans (f2 13 (by decide)).symm
    · exact c11.trans (f2 14 (by decide)).symm
    · show upd _ 31 _ k = _
      rw [pk_un (by omega)]; exact c13 k hk
    · show (stsR ov n hz (simR0 I R sd) hz).2 k = _
      rw [c14 k hk]
      show upr R 19 _ k = _
      simp only [upr]
      rw [if_neg (by omega)]

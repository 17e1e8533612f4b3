/-! PART 77: demands as natural numbers; the greatest scale; the responses are not negative -/
theorem gsc_le (G : vG) (n : Nat) : ∀ k, gsc G n k ≤ k := by
  intro k
  induction k with
  | zero => exact Nat.le_refl _
  | succ k ih =>
    simp only [gsc]
    split
    · exact Nat.le_refl _
    · omega
theorem gsc_sched {G : vG} {n : Nat} : ∀ k, ¬ gsc G n k = 0 → ffail G n (nI (gsc G n k)) 0 = 0 ∧ ffail G n (nI (gsc G n k)) 1 = 0 := by
  intro k
  induction k with
  | zero => intro h; exact absurd rfl h
  | succ k ih =>
    intro h
    by_cases g : ffail G n (nI (k + 1)) 0 = 0 ∧ ffail G n (nI (k + 1)) 1 = 0
    · have e : gsc G n (k + 1) = k + 1 := by simp only [gsc]; rw [if_pos g]
      rw [e]; exact g
    · have e : gsc G n (k + 1) = gsc G n k := by simp only [gsc]; rw [if_neg g]
      rw [e] at h ⊢; exact ih h
theorem gsc_pos {G : vG} {n s : Nat} (h1 : 1 ≤ s) (h2 : ffail G n (nI s) 0 = 0) (h3 : ffail G n (nI s) 1 = 0) : ∀ k, s ≤ k → ¬ gsc G n k = 0 := by
  intro k
  induction k with
  | zero => intro h; omega
  | succ k ih =>
    intro h
    simp only [gsc]
    split
    · omega
    · rename_i g
      rcases Nat.lt_or_ge k s with q | q
      · exfalso
        have : s = k + 1 := by omega
        subst this
        exact g ⟨h2, h3⟩
      · exact ih q
theorem gscale_sc {G : vG} {n : Nat} (h : ¬ gscale G n = 0) : scOk (nI (gscale G n)) := ⟨gscale G n, rfl, by omega, gsc_le G n 8⟩
theorem ffr_0 {f : Int32 → Int32} : ∀ k t, 1 ≤ t → t + k ≤ 1000 → (ffr f k t = 0 ↔ ∀ j, t ≤ j → j < t + k → f (nI j) ≤ nI j) := by
  intro k
  induction k with
  | zero => intro t _ _; exact ⟨fun _ j h1 h2 => by omega, fun _ => rfl⟩
  | succ k ih =>
    intro t h1 h2
    simp only [ffr]
    constructor
    · intro h j h3 h4
      by_cases g : f (nI t) ≤ nI t
      · rw [if_pos g] at h
        rcases Nat.eq_or_lt_of_le h3 with q | q
        · subst q; exact g
        · exact (ih (t + 1) (by omega) (by omega)).mp h j (by omega) (by omega)
      · rw [if_neg g] at h
        exact absurd h (nI_ne0 (by omega) (by omega))
    · intro h
      rw [if_pos (h t (Nat.le_refl _) (by omega))]
      exact (ih (t + 1) (by omega) (by omega)).mpr (fun j h3 h4 => h j (by omega) (by omega))
theorem ffail_0 {G : vG} {n : Nat} {sc mode : Int32} : ffail G n sc mode = 0 ↔ ∀ t, 1 ≤ t → t ≤ 200 → tdem G n sc mode (nI t) ≤ nI t := by
  unfold ffail
  rw [ffr_0 200 1 (by omega) (by omega)]
  exact ⟨fun h t h1 h2 => h t h1 (by omega), fun h t h1 h2 => h t h1 (by omega)⟩
def dsu9 (f : Nat → Nat) : Nat → Nat
  | 0 => 0
  | n + 1 => dsu9 f n + f n
theorem bx_dsu9 {f : Nat → Int32} {g : Nat → Nat} : ∀ n, (∀ j, j < n → f j = nI (g j)) → bx_sum f n = nI (dsu9 g n) := by
  intro n
  induction n with
  | zero => intro _; rfl
  | succ n ih =>
    intro h
    simp only [bx_sum, dsu9]
    rw [ih (fun j hj => h j (by omega)), h n (by omega), nI_add]
theorem dsu9_le {g : Nat → Nat} {B : Nat} : ∀ n, (∀ j, j < n → g j ≤ B) → dsu9 g n ≤ n * B := by
  intro n
  induction n with
  | zero => intro _; exact Nat.zero_le _
  | succ n ih =>
    intro h
    have h1 := ih (fun j hj => h j (by omega))
    have h2 := h n (by omega)
    simp only [dsu9]
    rw [Nat.succ_mul]
    omega
theorem vdl_D {G : vG} {sc : Int32} {i D : Nat} (h : okT G i) (hs : scOk sc) (hD : G 1 i = nI D) (hD9 : D ≤ 40) : ∃ v : Nat, vdl G sc i = nI v ∧ v ≤ D := by
  obtain ⟨s, rfl, hs1, hs8⟩ := hs
  obtain ⟨P, D0, L, H, im, mo, lv, e0, e1, e2, e3, e4, e5, e6, h1⟩ := h
  have e9 : D0 = D := (nI_eq (by omega) (by omega)).mp (e1.symm.trans hD)
  subst e9
  unfold vdl
  split
  · exact ⟨D0, e1, Nat.le_refl _⟩
  · have hm : D0 * s ≤ 40 * 8 := Nat.mul_le_mul (by omega) hs8
    have e9 : G 1 i * nI s / 8 = nI (D0 * s / 8) := by
      rw [e1, pk_mul]
      exact pk_div (d := 8) (by omega) (by omega) (by omega)
    rw [e9, e2]
    split
    · exact ⟨L, rfl, by omega⟩
    · have h8 : D0 * s / 8 ≤ D0 := by
        have : D0 * s ≤ D0 * 8 := Nat.mul_le_mul (Nat.le_refl D0) hs8
        omega
      exact ⟨D0 * s / 8, rfl, h8⟩
theorem one_nI (q : Nat) : (1 : Int32) + nI q = nI (1 + q) := nI_add 1 q
theorem dem_nat {G : vG} {sc mode : Int32} {t i : Nat} (h : okT G i) (hs : scOk sc) (ht : t ≤ 200) : ∃ d : Nat, dem G sc mode (nI t) i = nI d ∧ d ≤ 10000 := by
  obtain ⟨ep, hp1, hp2⟩ := per_nat h
  generalize Pn G i = P9 at ep hp1 hp2
  have h9 := h
  obtain ⟨P, D, L, H, im, mo, lv, e0, e1, e2, e3, e4, e5, e6, h1⟩ := h
  obtain ⟨v, ev, hv⟩ := vdl_D h9 hs e1 (by omega)
  have mulB : ∀ a q : Nat, a ≤ 40 → q ≤ 200 → a * (1 + q) ≤ 10000 := fun a q ha hq => by
    have := Nat.mul_le_mul ha (show 1 + q ≤ 201 by omega)
    omega
  unfold dem
  split
  · unfold loD
    rw [ev, ep, e2]
    split
    · rename_i g
      have g2 : v ≤ t := (nI_leI (by omega) (by omega)).mp g
      have hq : (t - v) / P9 ≤ 200 := Nat.le_trans (Nat.div_le_self _ _) (by omega)
      refine ⟨L * (1 + (t - v) / P9), ?_, mulB L _ (by omega) hq⟩
      rw [pk_sub g2, pk_div (by omega) (by omega) (by omega), one_nI, pk_mul]
    · exact ⟨0, rfl, by omega⟩
  · split
    · exact ⟨0, rfl, by omega⟩
    · rename_i hh
      have hH : 0 < H := by
        rcases Nat.eq_zero_or_pos H with z | z
        · exact absurd (by rw [e3, z]; decide) hh
        · exact z
      have hL : L ≤ H := by omega
      rw [ev, e1, pk_sub hv]
      unfold hiD
      rw [ep, e3, e2, e1, pk_rem (by omega) (by omega) (by omega)]
      have hr : t % P9 ≤ 200 := Nat.le_trans (Nat.mod_le _ _) ht
      generalize t % P9 = r at hr ⊢
      split
      · rename_i g
        have g2 : D - v ≤ t := (nI_leI (by omega) (by omega)).mp g
        have hq : (t - (D - v)) / P9 ≤ 200 := Nat.le_trans (Nat.div_le_self _ _) (by omega)
        have eq9 : nI H * (1 + (nI t - nI (D - v)) / nI P9) = nI (H * (1 + (t - (D - v)) / P9)) := by
          rw [pk_sub g2, pk_div (by omega) (by omega) (by omega), one_nI, pk_mul]
        have hB := mulB H _ (by omega) hq
        rw [eq9]
        split
        · rename_i g3
          obtain ⟨g4, g5, g6⟩ := g3
          have k4 : D - v ≤ r := (nI_leI (by omega) (by omega)).mp g4
          have eg : nI L + nI (D - v) = nI (L + (D - v)) := nI_add _ _
          rw [eg] at g6 ⊢
          rcases Nat.lt_or_ge (L + (D - v)) r with q | q
          · exfalso
            have := pk_sneg (by omega) q
            exact absurd (Int32.lt_trans g6 this) (by decide)
          · rw [pk_sub q]
            have hful : H ≤ H * (1 + (t - (D - v)) / P9) := Nat.le_mul_of_pos_right _ (Nat.lt_of_lt_of_le Nat.zero_lt_one (Nat.le_add_right 1 _))
            rw [pk_sub (by omega)]
            exact ⟨_, rfl, by omega⟩
        · exact ⟨_, rfl, hB⟩
      · exact ⟨0, rfl, by omega⟩
def dN (G : vG) (sc mode : Int32) (t i : Nat) : Nat := (dem G sc mode (nI t) i).toNatClampNeg
theorem dN_eq {G : vG} {sc mode : Int32} {t i : Nat} (h : okT G i) (hs : scOk sc) (ht : t ≤ 200) : dem G sc mode (nI t) i = nI (dN G sc mode t i) ∧ dN G sc mode t i ≤ 10000 := by
  obtain ⟨d, e, hd⟩ := dem_nat (mode := mode) h hs ht
  unfold dN
  rw [e, nI_clamp (by omega)]
  exact ⟨rfl, hd⟩
theorem tdem_nat {G : vG} {n : Nat} {sc mode : Int32} {t : Nat} (h : okG G n) (hn : n ≤ 8) (hs : scOk sc) (ht : t ≤ 200) : tdem G n sc mode (nI t) = nI (dsu9 (dN G sc mode t) n) ∧ dsu9 (dN G sc mode t) n ≤ 80000 := by
  refine ⟨bx_dsu9 n (fun j hj => (dN_eq (h j hj) hs ht).1), ?_⟩
  have := dsu9_le (g := dN G sc mode t) (B := 10000) n (fun j hj => (dN_eq (h j hj) hs ht).2)
  omega
theorem dok_of {G : vG} {n : Nat} {sc mode : Int32} (h : okG G n) (hn : n ≤ 8) (hs : scOk sc) (hf : ffail G n sc mode = 0) : dok G n sc mode := by
  intro t h1 h2
  obtain ⟨e, hb⟩ := tdem_nat (mode := mode) h hn hs h2
  have := ffail_0.mp hf t h1 h2
  rw [e] at this
  exact ⟨_, (nI_leI (by omega) (by omega)).mp this, e⟩
theorem dem_col {G G' : vG} {i j : Nat} {sc mode t : Int32} (h : ∀ k, G k i = G' k j) : dem G sc mode t i = dem G' sc mode t j := by
  have hv : vdl G sc i = vdl G' sc j := by unfold vdl; rw [h 1, h 2, h 3]
  have hp : per G i = per G' j := by unfold per; rw [h 0, h 6]
  unfold dem loD hiD
  rw [hv, hp, h 1, h 2, h 3]
theorem dem_rm {G : vG} {r n : Nat} {sc mode t : Int32} {j : Nat} : dem (rmG G r n) sc mode t j = if r ≤ j ∧ j + 1 < n then dem G sc mode t (j + 1) else dem G sc mode t j := by
  by_cases h : r ≤ j ∧ j + 1 < n
  · rw [if_pos h]
    exact dem_col (fun k => if_pos h)
  · rw [if_neg h]
    exact dem_col (fun k => if_neg h)
theorem dsu9_rm {g g' : Nat → Nat} {i m : Nat} (hg : ∀ j, j < m → g' j = if i ≤ j then g (j + 1) else g j) : ∀ k, k ≤ m → (k ≤ i → dsu9 g' k = dsu9 g k) ∧ (i < k → dsu9 g' k + g i = dsu9 g (k + 1)) := by
  intro k
  induction k with
  | zero => intro _; exact ⟨fun _ => rfl, fun h => by omega⟩
  | succ k ih =>
    intro hk
    obtain ⟨h1, h2⟩ := ih (by omega)
    have hgk := hg k (by omega)
    refine ⟨fun h => ?_, fun h => ?_⟩
    · simp only [dsu9]
      rw [h1 (by omega), hgk, if_neg (by omega)]
    · rw [if_pos (by omega)] at hgk
      rcases Nat.eq_or_lt_of_le (show i ≤ k by omega) with q | q
      · subst q
        have h3 := h1 (Nat.le_refl _)
        simp only [dsu9] at h3 ⊢
        omega
      · have h3 := h2 q
        simp only [dsu9] at h3 ⊢
        omega
/-- without one of its tasks a configuration is schedulable still -/
theorem gs_rm {G : vG} {m i : Nat} (h : okG G (m + 1)) (hm : m + 1 ≤ 8) (hi : i < m + 1) (hg : ¬ gscale G (m + 1) = 0) : ¬ gscale (rmG G i (m + 1)) m = 0 := by
  have hsc := gscale_sc hg
  have h8 := gsc_le G (m + 1) 8
  have hok := okG_rm (r := i) h
  obtain ⟨f0, f1⟩ := gsc_sched 8 hg
  have key : ∀ mode : Int32, ffail G (m + 1) (nI (gsc G (m + 1) 8)) mode = 0 → ffail (rmG G i (m + 1)) m (nI (gsc G (m + 1) 8)) mode = 0 := by
    intro mode hf
    refine ffail_0.mpr (fun t h1 h2 => ?_)
    have a := ffail_0.mp hf t h1 h2
    have a2 := tdem_nat (mode := mode) h hm hsc h2
    have b2 := tdem_nat (mode := mode) hok (by omega) hsc h2
    have e9 : nI (gscale G (m + 1)) = nI (gsc G (m + 1) 8) := rfl
    rw [e9] at a2 b2
    rw [a2.1] at a
    rw [b2.1]
    have a3 := (nI_leI (by omega) (by omega)).mp a
    refine nI_le ?_ (by omega)
    have hs := dsu9_rm (g := dN G (nI (gsc G (m + 1) 8)) mode t) (g' := dN (rmG G i (m + 1)) (nI (gsc G (m + 1) 8)) mode t) (i := i) (m := m) (fun j hj => by
      unfold dN
      rw [dem_rm]
      by_cases q : i ≤ j
      · rw [if_pos ⟨q, by omega⟩, if_pos q]
      · rw [if_neg (by omega), if_neg q]) m (Nat.le_refl _)
    rcases Nat.lt_or_ge i m with q | q
    · have := hs.2 q
      omega
    · have h4 := hs.1 q
      have h5 : dsu9 (dN G (nI (gsc G (m + 1) 8)) mode t) (m + 1) = dsu9 (dN G (nI (gsc G (m + 1) 8)) mode t) m + dN G (nI (gsc G (m + 1) 8)) mode t m := rfl
      omega
  have h0 : ¬ gsc G (m + 1) 8 = 0 := hg
  exact gsc_pos (s := gsc G (m + 1) 8) (by omega) (key 0 f0) (key 1 f1) 8 h8
/-- the greatest responses -/
def nnQ (Q : vG) : Prop := ∀ i, i < 8 → ¬ Q 5 i < 0
theorem up2_5 (Q : vG) {k : Nat} (i : Nat) (x : Int32) (h : ¬ 5 = k) : up2 Q k i x 5 = Q 5 := if_neg h
theorem nn_relQ {Q : vG} {i u : Nat} (h : nnQ Q) : nnQ (relQ Q i u) := by
  intro j hj
  have e : relQ Q i u 5 = Q 5 := by
    unfold relQ
    rw [up2_5 _ _ _ (by decide)]
    split
    · rw [up2_5 _ _ _ (by decide), up2_5 _ _ _ (by decide)]
    · rfl
  rw [e]; exact h j hj
theorem nn_rls {G : vG} {u : Nat} : ∀ (j i : Nat) (s : SSt), nnQ s.2.1 → nnQ (rls G u j i s).2.1 := by
  intro j
  induction j with
  | zero => intro i s h; exact h
  | succ j ih =>
    intro i s h
    simp only [rls]
    refine ih (i + 1) _ ?_
    unfold rls1
    split
    · split
      · exact h
      · exact nn_relQ h
    · exact h
theorem nn_dpp {G : vG} : ∀ (i : Nat) (s : (Nat → Int32) × vG), nnQ s.2 → nnQ (dpp G i s).2 := by
  intro i
  induction i with
  | zero => intro s h; exact h
  | succ i ih =>
    intro s h
    simp only [dpp]
    split
    · intro j hj
      show ¬ up2 (dpp G i s).2 1 i 0 5 j < 0
      rw [up2_5 _ _ _ (by decide)]
      exact ih s h j hj
    · exact ih s h
theorem nn_up {Q : vG} {k i : Nat} {x : Int32} (hk : ¬ 5 = k) (h : nnQ Q) : nnQ (up2 Q k i x) := fun j hj => by rw [up2_5 _ _ _ hk]; exact h j hj
theorem nn_cpl {G : vG} {i : Nat} {tm : Int32} {Q : vG} (h : nnQ Q) : nnQ (cplQ G i tm Q) := by
  unfold cplQ
  refine nn_up (by decide) (nn_up (by decide) (nn_up (by decide) (fun j hj => ?_)))
  show ¬ upd (Q 5) i _ j < 0
  by_cases e : j = i
  · subst e
    rw [pk_us]
    split
    · rename_i g
      exact fun q => h j hj (Int32.lt_trans g q)
    · exact h j hj
  · rw [pk_un e]; exact h j hj
theorem nn_runO {G : vG} {n i u : Nat} {s : SSt} (h : nnQ s.2.1) : nnQ (runO G n i u s).2.1 := by
  unfold runO
  split
  · exact nn_cpl (nn_up (by decide) h)
  · split
    · exact nn_dpp n _ (nn_up (by decide) h)
    · exact nn_up (by decide) h
theorem nn_sts {G : vG} {sc : Int32} {n : Nat} {s : SSt} (h : nnQ s.2.1) : ∀ u, nnQ (sts G sc n s u).2.1 := by
  intro u
  induction u with
  | zero => exact h
  | succ u ih =>
    simp only [sts]
    have h1 : nnQ (stpA G sc n u (sts G sc n s u)).2.1 := by
      unfold stpA
      exact nn_rls n 0 _ ih
    unfold stpB
    split
    · exact h1
    · exact nn_runO h1
theorem nn_sim {G : vG} {sc : Int32} {n hz : Nat} {M : Nat → Int32} {Q T : vG} {sd ov : Int32} : nnQ (simE G n (sts G sc n (sim0 M Q T sd ov hz) hz)).2.1 := by
  refine nn_sts (s := sim0 M Q T sd ov hz) (fun i hi => ?_) hz
  show ¬ (if (5 = 1 ∨ 5 = 5) ∧ i < 8 then (0 : Int32) else Q 5 i) < 0
  rw [if_pos ⟨Or.inr rfl, hi⟩]
  decide

/-! PART 18: the words for the descending test; the test points as natural numbers -/
def scOk (sc : Int32) : Prop := ∃ s : Nat, sc = nI s ∧ 1 ≤ s ∧ s ≤ 8
def Vn (G : vG) (sc : Int32) (i : Nat) : Nat := (vdl G sc i).toNatClampNeg
def Pn (G : vG) (i : Nat) : Nat := (per G i).toNatClampNeg
theorem per_nat {G : vG} {i : Nat} (h : okT G i) : per G i = nI (Pn G i) ∧ 1 ≤ Pn G i ∧ Pn G i ≤ 120 := by
  have e := per_ok h
  obtain ⟨P, D, L, H, im, mo, lv, e0, e1, e2, e3, e4, e5, e6, h1⟩ := h
  have hp : 1 ≤ P * (lv + 1) := Nat.mul_pos (by omega) (by omega)
  have hq : P * (lv + 1) ≤ 40 * 3 := Nat.mul_le_mul (by omega) (by omega)
  have e9 : per G i = nI (P * (lv + 1)) := by rw [e, e0, e6, nI_1, pk_mul]
  have e8 : Pn G i = P * (lv + 1) := by unfold Pn; rw [e9, nI_clamp (by omega)]
  rw [e8]
  exact ⟨e9, hp, by omega⟩
theorem vdl_nat {G : vG} {sc : Int32} {i : Nat} (h : okT G i) (hs : scOk sc) : vdl G sc i = nI (Vn G sc i) ∧ 1 ≤ Vn G sc i ∧ Vn G sc i ≤ 40 := by
  obtain ⟨s, rfl, hs1, hs8⟩ := hs
  obtain ⟨P, D, L, H, im, mo, lv, e0, e1, e2, e3, e4, e5, e6, h1⟩ := h
  have key : ∃ v : Nat, vdl G (nI s) i = nI v ∧ 1 ≤ v ∧ v ≤ 40 := by
    unfold vdl
    split
    · exact ⟨D, e1, by omega, by omega⟩
    · have hm : D * s ≤ 40 * 8 := Nat.mul_le_mul (by omega) hs8
      have e9 : G 1 i * nI s / 8 = nI (D * s / 8) := by
        rw [e1, pk_mul]
        exact pk_div (d := 8) (by omega) (by omega) (by omega)
      rw [e9, e2]
      split
      · exact ⟨L, rfl, by omega, by omega⟩
      · rename_i hh
        have h7 : ¬ D * s / 8 ≤ L := fun q => hh (nI_le q (by omega))
        have h8 : D * s / 8 ≤ D := by
          have : D * s ≤ D * 8 := Nat.mul_le_mul (Nat.le_refl D) hs8
          omega
        exact ⟨D * s / 8, rfl, by omega, by omega⟩
  obtain ⟨v, e9, h1, h2⟩ := key
  have e8 : Vn G (nI s) i = v := by unfold Vn; rw [e9, nI_clamp (by omega)]
  rw [e8]
  exact ⟨e9, h1, h2⟩
/-- is t a test point of one of the first i tasks -/
def rpI (G : vG) (sc t : Int32) : Nat → Bool
  | 0 => false
  | i + 1 => rpI G sc t i || (decide (¬ t < vdl G sc i) && decide (t - vdl G sc i - (t - vdl G sc i) / per G i * per G i = 0))
/-- the same over natural numbers -/
def RP (G : vG) (sc : Int32) (n t : Nat) : Prop := ∃ i, i < n ∧ Vn G sc i ≤ t ∧ (t - Vn G sc i) % Pn G i = 0
theorem rpI_RP {G : vG} {sc : Int32} (hs : scOk sc) {t : Nat} (ht : t < 100000) : ∀ {n : Nat}, okG G n → (rpI G sc (nI t) n = true ↔ RP G sc n t) := by
  intro n
  induction n with
  | zero => intro _; exact ⟨fun h => Bool.noConfusion h, fun ⟨i, hi, _⟩ => absurd hi (Nat.not_lt_zero i)⟩
  | succ n ih =>
    intro ho
    have h1 := ih (fun i hi => ho i (Nat.lt_succ_of_lt hi))
    obtain ⟨eV, v1, v2⟩ := vdl_nat (ho n (Nat.lt_succ_self n)) hs
    obtain ⟨eP, p1, p2⟩ := per_nat (ho n (Nat.lt_succ_self n))
    simp only [rpI, Bool.or_eq_true, Bool.and_eq_true, decide_eq_true_eq]
    rw [h1]
    have h2 : (¬ nI t < vdl G sc n ∧ nI t - vdl G sc n - (nI t - vdl G sc n) / per G n * per G n = 0) ↔ (Vn G sc n ≤ t ∧ (t - Vn G sc n) % Pn G n = 0) := by
      rw [eV, eP]
      constructor
      · rintro ⟨a, b⟩
        have a1 : Vn G sc n ≤ t := by
          rcases Nat.lt_or_ge t (Vn G sc n) with q | q
          · exact absurd (nI_lt q (by omega)) a
          · exact q
        rw [pk_sub a1, pk_rem (by omega) (by omega) (by omega)] at b
        have hlt := Nat.mod_lt (t - Vn G sc n) (show 0 < Pn G n by omega)
        exact ⟨a1, (nI_eq (b := 0) (by omega) (by omega)).mp b⟩
      · rintro ⟨a, b⟩
        refine ⟨nI_nlt a (by omega), ?_⟩
        rw [pk_sub a, pk_rem (by omega) (by omega) (by omega), b]
        rfl
    rw [h2]
    constructor
    · rintro (⟨i, hi, hr⟩ | hr)
      · exact ⟨i, Nat.lt_succ_of_lt hi, hr⟩
      · exact ⟨n, Nat.lt_succ_self n, hr⟩
    · rintro ⟨i, hi, hr⟩
      rcases Nat.lt_or_ge i n with q | q
      · exact Or.inl ⟨i, q, hr⟩
      · rw [show i = n by omega] at hr
        exact Or.inr hr
/-- the greatest test point of at most p, 0 if there is none -/
def pbN (f : Nat → Bool) : Nat → Nat
  | 0 => 0
  | p + 1 => if f (p + 1) = true then p + 1 else pbN f p
theorem pbN_le (f : Nat → Bool) : ∀ p, pbN f p ≤ p := by
  intro p
  induction p with
  | zero => exact Nat.le_refl 0
  | succ p ih =>
    simp only [pbN]
    split <;> omega
theorem pbN_is (f : Nat → Bool) : ∀ p, pbN f p = 0 ∨ f (pbN f p) = true := by
  intro p
  induction p with
  | zero => exact Or.inl rfl
  | succ p ih =>
    simp only [pbN]
    split
    · rename_i h; exact Or.inr h
    · exact ih
theorem pbN_max (f : Nat → Bool) : ∀ p t, pbN f p < t → t ≤ p → f t = false := by
  intro p
  induction p with
  | zero => intro t h1 h2; omega
  | succ p ih =>
    intro t h1 h2
    simp only [pbN] at h1
    split at h1
    · omega
    · rename_i h
      rcases Nat.lt_or_ge p t with q | q
      · rw [show t = p + 1 by omega]
        cases hf : f (p + 1)
        · rfl
        · exact absurd hf h
      · exact ih t h1 q
theorem pbN_uniq {f : Nat → Bool} {p g : Nat} (h1 : g ≤ p) (h2 : g = 0 ∨ f g = true) (h3 : ∀ t, g < t → t ≤ p → f t = false) : pbN f p = g := by
  rcases Nat.lt_trichotomy (pbN f p) g with q | q | q
  · have a := pbN_max f p g q h1
    rcases h2 with z | z
    · omega
    · rw [z] at a; exact Bool.noConfusion a
  · exact q
  · have a := h3 (pbN f p) q (pbN_le f p)
    rcases pbN_is f p with z | z
    · omega
    · rw [z] at a; exact Bool.noConfusion a
theorem mulmod (V P t : Nat) (hP : 0 < P) (h : V ≤ t) : (V + (t - V) / P * P - V) % P = 0 ∧ V + (t - V) / P * P ≤ t ∧ ∀ x, V + (t - V) / P * P < x → x ≤ t → ¬ (x - V) % P = 0 := by
  have h1 : (t - V) / P * P ≤ t - V := Nat.div_mul_le_self _ _
  refine ⟨by rw [Nat.add_sub_cancel_left]; exact Nat.mul_mod_left _ _, by omega, ?_⟩
  intro x hx hxt hm
  have h2 : x - V = (x - V) / P * P := by
    have := Nat.div_add_mod (x - V) P
    rw [hm, Nat.add_zero, Nat.mul_comm] at this
    exact this.symm
  have h3 : (x - V) / P ≤ (t - V) / P := Nat.div_le_div_right (by omega)
  have h4 : (x - V) / P * P ≤ (t - V) / P * P := Nat.mul_le_mul h3 (Nat.le_refl P)
  omega
/-- the class's greatest test point below a limit is that number -/
theorem gtp_nat {G : vG} {sc : Int32} (hs : scOk sc) {lim : Nat} (hl : lim < 100000) : ∀ {n : Nat}, okG G n → ∃ g : Nat, gtp G sc (nI lim) n = nI g ∧ (g = 0 ∨ (g < lim ∧ RP G sc n g)) ∧ ∀ t, g < t → t < lim → ¬ RP G sc n t := by
  intro n
  induction n with
  | zero => intro _; exact ⟨0, rfl, Or.inl rfl, fun t _ _ ⟨i, hi, _⟩ => absurd hi (Nat.not_lt_zero i)⟩
  | succ n ih =>
    intro ho
    obtain ⟨g, eg, hg, hm⟩ := ih (fun i hi => ho i (Nat.lt_succ_of_lt hi))
    obtain ⟨eV, v1, v2⟩ := vdl_nat (ho n (Nat.lt_succ_self n)) hs
    obtain ⟨eP, p1, p2⟩ := per_nat (ho n (Nat.lt_succ_self n))
    have hup : ∀ t, RP G sc n t → RP G sc (n + 1) t := fun t ⟨i, hi, hr⟩ => ⟨i, Nat.lt_succ_of_lt hi, hr⟩
    have hdn : ∀ t, RP G sc (n + 1) t → RP G sc n t ∨ (Vn G sc n ≤ t ∧ (t - Vn G sc n) % Pn G n = 0) := fun t ⟨i, hi, hr⟩ => by
      rcases Nat.lt_or_ge i n with q | q
      · exact Or.inl ⟨i, q, hr⟩
      · rw [show i = n by omega] at hr; exact Or.inr hr
    have hgb : g < 100000 := by rcases hg with z | z <;> omega
    simp only [gtp]
    rw [eV, eP, eg]
    by_cases hc : lim ≤ Vn G sc n
    · rw [if_pos (nI_le hc (by omega))]
      refine ⟨g, rfl, hg.imp id (fun z => ⟨z.1, hup g z.2⟩), fun t h1 h2 h3 => ?_⟩
      rcases hdn t h3 with z | z
      · exact hm t h1 h2 z
      · omega
    · rw [if_neg (fun q => hc ((nI_leI (by omega) (by omega)).mp q))]
      have e1 : nI lim - 1 = nI (lim - 1) := nsub rfl rfl (by omega)
      have e2 : nI lim - 1 - nI (Vn G sc n) = nI (lim - 1 - Vn G sc n) := by rw [e1]; exact pk_sub (by omega)
      have hdl : (lim - 1 - Vn G sc n) / Pn G n * Pn G n ≤ lim - 1 - Vn G sc n := Nat.div_mul_le_self _ _
      have e3 : nI (Vn G sc n) + (nI lim - 1 - nI (Vn G sc n)) / nI (Pn G n) * nI (Pn G n) = nI (Vn G sc n + (lim - 1 - Vn G sc n) / Pn G n * Pn G n) := by
        rw [e2, pk_div (by omega) (by omega) (by omega), pk_mul, nI_add]
      rw [e3]
      obtain ⟨m1, m2, m3⟩ := mulmod (Vn G sc n) (Pn G n) (lim - 1) (by omega) (by omega)
      generalize Vn G sc n + (lim - 1 - Vn G sc n) / Pn G n * Pn G n = x at m1 m2 m3 ⊢
      have hxV : RP G sc (n + 1) x ∨ x < Vn G sc n := by
        rcases Nat.lt_or_ge x (Vn G sc n) with q | q
        · exact Or.inr q
        · exact Or.inl ⟨n, Nat.lt_succ_self n, q, m1⟩
      by_cases hx : g < x
      · rw [if_pos (nI_lt hx (by omega))]
        refine ⟨x, rfl, ?_, fun t h1 h2 h3 => ?_⟩
        · rcases hxV with z | z
          · exact Or.inr ⟨by omega, z⟩
          · exfalso
            have := m3 (Vn G sc n) z (by omega)
            rw [Nat.sub_self, Nat.zero_mod] at this
            exact this rfl
        · rcases hdn t h3 with z | z
          · exact hm t (by omega) h2 z
          · exact m3 t h1 (by omega) z.2
      · rw [if_neg (fun q => hx ((nI_ltI (by omega) (by omega)).mp q))]
        refine ⟨g, rfl, hg.imp id (fun z => ⟨z.1, hup g z.2⟩), fun t h1 h2 h3 => ?_⟩
        rcases hdn t h3 with z | z
        · exact hm t h1 h2 z
        · exact m3 t (by omega) (by omega) z.2
theorem gtp_pb {G : vG} {sc : Int32} {n lim : Nat} (hs : scOk sc) (hl : lim < 100000) (h0 : 1 ≤ lim) (ho : okG G n) : gtp G sc (nI lim) n = nI (pbN (fun t => rpI G sc (nI t) n) (lim - 1)) := by
  obtain ⟨g, eg, hg, hm⟩ := gtp_nat hs hl ho
  rw [eg]
  congr 1
  refine (pbN_uniq (f := fun t => rpI G sc (nI t) n) ?_ ?_ ?_).symm
  · rcases hg with z | z <;> omega
  · exact hg.imp id (fun z => (rpI_RP hs (by omega) ho).mpr z.2)
  · intro t h1 h2
    cases hf : rpI G sc (nI t) n
    · rfl
    · exact absurd ((rpI_RP hs (by omega) ho).mp hf) (hm t h1 (by omega))
/-- the least virtual deadline -/
theorem ltp_nat {G : vG} {sc : Int32} (hs : scOk sc) : ∀ {n : Nat}, okG G n → ∃ l : Nat, ltp G sc n = nI l ∧ 1 ≤ l ∧ l ≤ 200 ∧ (∀ i, i < n → l ≤ Vn G sc i) ∧ (n = 0 ∨ ∃ i, i < n ∧ l = Vn G sc i) := by
  intro n
  induction n with
  | zero => intro _; exact ⟨200, rfl, by omega, by omega, fun i hi => absurd hi (Nat.not_lt_zero i), Or.inl rfl⟩
  | succ n ih =>
    intro ho
    obtain ⟨l, el, h1, h2, h3, h4⟩ := ih (fun i hi => ho i (Nat.lt_succ_of_lt hi))
    obtain ⟨eV, v1, v2⟩ := vdl_nat (ho n (Nat.lt_succ_self n)) hs
    simp only [ltp]
    rw [eV, el]
    by_cases hc : Vn G sc n < l
    · rw [if_pos (nI_lt hc (by omega))]
      refine ⟨Vn G sc n, rfl, v1, by omega, fun i hi => ?_, Or.inr ⟨n, Nat.lt_succ_self n, rfl⟩⟩
      rcases Nat.lt_or_ge i n with q | q
      · have := h3 i q; omega
      · rw [show i = n by omega]; exact Nat.le_refl _
    · rw [if_neg (fun q => hc ((nI_ltI (by omega) (by omega)).mp q))]
      refine ⟨l, rfl, h1, h2, fun i hi => ?_, Or.inr ?_⟩
      · rcases Nat.lt_or_ge i n with q | q
        · exact h3 i q
        · rw [show i = n by omega]; omega
      · rcases h4 with z | ⟨i, hi, e⟩
        · subst z
          have : l = 200 := by have e9 : nI l = nI 200 := el.symm; exact (nI_eq (by omega) (by omega)).mp e9
          omega
        · exact ⟨i, Nat.lt_succ_of_lt hi, e⟩
/-- the first number from 1 on that is a test point is the least virtual deadline -/
theorem ltp_first {G : vG} {sc : Int32} {n : Nat} (hs : scOk sc) (ho : okG G n) (h0 : 0 < n) : ∃ l : Nat, ltp G sc n = nI l ∧ 1 ≤ l ∧ l ≤ 40 ∧ rpI G sc (nI l) n = true ∧ ∀ t, t < l → rpI G sc (nI t) n = false := by
  obtain ⟨l, el, h1, h2, h3, h4⟩ := ltp_nat hs ho
  rcases h4 with z | ⟨i, hi, e⟩
  · omega
  · obtain ⟨eV, v1, v2⟩ := vdl_nat (ho i hi) hs
    refine ⟨l, el, h1, by omega, (rpI_RP hs (by omega) ho).mpr ⟨i, hi, by omega, by rw [e, Nat.sub_self, Nat.zero_mod]⟩, fun t ht => ?_⟩
    cases hf : rpI G sc (nI t) n
    · rfl
    · obtain ⟨j, hj, hv, -⟩ := (rpI_RP hs (by omega) ho).mp hf
      have := h3 j hj
      omega
/-- the point behind a point of the descending test, 0 behind the last -/
def dnext (G : vG) (n : Nat) (sc p : Int32) : Int32 := if p < tdem G n sc 0 p then 0 else if tdem G n sc 0 p ≤ ltp G sc n then 0 else if p ≤ tdem G n sc 0 p then gtp G sc p n else tdem G n sc 0 p
/-- the points fall -/
theorem dnext_lt {G : vG} {sc : Int32} {n p : Nat} (hs : scOk sc) (ho : okG G n) (h0 : 1 ≤ p) (hp : p ≤ 200) : ∃ q : Nat, dnext G n sc (nI p) = nI q ∧ q < p := by
  unfold dnext
  split
  · exact ⟨0, rfl, by omega⟩
  · rename_i h1
    split
    · exact ⟨0, rfl, by omega⟩
    · rename_i h2
      split
      · rw [gtp_pb hs (by omega) h0 ho]
        have := pbN_le (fun t => rpI G sc (nI t) n) (p - 1)
        exact ⟨_, rfl, by omega⟩
      · rename_i h3
        obtain ⟨l, el, l1, l2, -⟩ := ltp_nat hs ho
        have hnn : ¬ tdem G n sc 0 (nI p) < 0 := fun q => h2 (by
          rw [el]
          rw [Int32.lt_iff_toInt_lt] at q
          rw [Int32.le_iff_toInt_le, nI_toInt (by omega)]
          have : (0 : Int32).toInt = 0 := by decide
          omega)
        obtain ⟨x, hx, ex⟩ := nI_of hnn
        rw [ex] at h3 ⊢
        refine ⟨x, rfl, ?_⟩
        rcases Nat.lt_or_ge x p with q | q
        · exact q
        · exact absurd (nI_le q hx) h3
/-- how many points follow, this one among them -/
def dcnt (G : vG) (n : Nat) (sc : Int32) : Nat → Int32 → Nat
  | 0, _ => 0
  | f + 1, p => if p ≤ 0 then 0 else dcnt G n sc f (dnext G n sc p) + 1
/-- point k from p on -/
def dpt (G : vG) (n : Nat) (sc : Int32) : Nat → Int32 → Int32
  | 0, p => p
  | k + 1, p => if p ≤ 0 then 0 else dpt G n sc k (dnext G n sc p)
def dlen (G : vG) (n : Nat) (sc : Int32) : Nat := dcnt G n sc 200 (gtp G sc 201 n)
def dpoint (G : vG) (n : Nat) (sc : Int32) (k : Nat) : Int32 := dpt G n sc k (gtp G sc 201 n)

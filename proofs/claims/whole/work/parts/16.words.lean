/-! PART 16: the words for the public reads, common to class and reference -/
theorem isT {n : Nat} (hn : n ≤ 8) (p0 : Int32) : (¬ p0 < 0 ∧ ¬ nI n - 1 < p0) → ∃ i, i < n ∧ p0 = nI i := by
  intro h
  obtain ⟨j, hj, rfl⟩ := nI_of h.1
  refine ⟨j, ?_, rfl⟩
  rcases Nat.lt_or_ge j n with q | q
  · exact q
  · exfalso
    apply h.2
    rcases Nat.eq_zero_or_pos n with e | e
    · subst e; rw [Int32.lt_iff_toInt_lt, nI_toInt hj]; have : (nI 0 - 1).toInt = -1 := by decide
      omega
    · rw [show nI n - 1 = nI (n - 1) from nsub rfl rfl e]
      exact nI_lt (by omega) hj
/-- is there no such task: the code of the exception -/
def cT (n : Nat) (p0 : Int32) : Int32 := if p0 < 0 ∨ nI n ≤ p0 then 1 else 0
theorem cT_ok {n i : Nat} (hn : n ≤ 8) (h : i < n) : cT n (nI i) = 0 := by
  unfold cT
  rw [if_neg]
  rintro (q | q)
  · exact nI_pos (by omega) q
  · exact nI_ge h (by omega) q
theorem cT_no {n : Nat} (hn : n ≤ 8) {p0 : Int32} (h : ¬ (¬ p0 < 0 ∧ ¬ nI n - 1 < p0)) : cT n p0 = 1 := by
  unfold cT
  rw [if_pos]
  by_cases q : p0 < 0
  · exact Or.inl q
  · refine Or.inr ?_
    obtain ⟨j, hj, rfl⟩ := nI_of q
    rcases Nat.lt_or_ge j n with r | r
    · exfalso
      apply h
      refine ⟨q, ?_⟩
      rw [show nI n - 1 = nI (n - 1) from nsub rfl rfl (by omega)]
      exact nI_nlt (by omega) (by omega)
    · exact nI_le r hj
theorem nb10 {P : Prop} [Decidable P] (h : ¬ (if P then (1 : Int32) else 0) = 0) : P := Decidable.not_not.mp (fun q => h (b10.mpr q))
/-- the code of a wrong mode -/
def cM (p0 : Int32) : Int32 := if p0 = 0 ∨ p0 = 1 then 0 else 1
theorem mode_of {p0 : Int32} (h : ¬ p0 < 0 ∧ ¬ 1 < p0) : p0 = 0 ∨ p0 = 1 := by
  obtain ⟨j, hj, rfl⟩ := nI_of h.1
  have : ¬ 1 < j := fun q => h.2 (nI_lt (a := 1) q hj)
  rcases (show j = 0 ∨ j = 1 by omega) with rfl | rfl
  · exact Or.inl rfl
  · exact Or.inr rfl
theorem mode_no {p0 : Int32} (h : ¬ (¬ p0 < 0 ∧ ¬ 1 < p0)) : ¬ (p0 = 0 ∨ p0 = 1) := by
  rintro (rfl | rfl)
  · exact h (by decide)
  · exact h (by decide)
theorem cM_ok {p0 : Int32} (h : p0 = 0 ∨ p0 = 1) : cM p0 = 0 := if_pos h
theorem cM_no {p0 : Int32} (h : ¬ (p0 = 0 ∨ p0 = 1)) : cM p0 = 1 := if_neg h
abbrev inr (v lo hi : Int32) : Prop := ¬ v < lo ∧ ¬ hi < v
def cDem (p0 p1 : Int32) : Int32 := if cM p0 = 0 ∧ inr p1 0 200 then 0 else 1
def cPas (p0 p1 : Int32) : Int32 := if cM p0 = 0 ∧ inr p1 1 8 then 0 else 1
def cBud (G : vG) (n : Nat) (p0 p1 : Int32) : Int32 := if cT n p0 = 0 then (if cM p1 = 0 then (if p1 = 1 ∧ G 3 p0.toNatClampNeg ≤ 0 then 3 else 0) else 2) else 1
def vBud (G : vG) (p0 p1 : Int32) : Int32 := if p1 = 0 then G 2 p0.toNatClampNeg else G 3 p0.toNatClampNeg
/-- the tightest interval: k numbers from t on, the best and the least so far -/
def tgr (f : Int32 → Int32) : Nat → Nat → Int32 → Int32 → Int32
  | 0, _, b, _ => b
  | k + 1, t, b, l => if l ≤ nI t - f (nI t) then tgr f k (t + 1) b l else tgr f k (t + 1) (nI t) (nI t - f (nI t))
def tgh (G : vG) (n : Nat) (sc mode : Int32) : Int32 := tgr (tdem G n sc mode) 199 2 1 (1 - tdem G n sc mode 1)
def slk (G : vG) (n : Nat) (sc mode : Int32) : Int32 := tgh G n sc mode - tdem G n sc mode (tgh G n sc mode)
/-- the scales with which the tasks are schedulable: k from t on -/
def fsr (G : vG) (n : Nat) : Nat → Nat → Int32 → Int32
  | 0, _, s => s
  | k + 1, t, s => fsr G n k (t + 1) (if ffail G n (nI t) 0 = 0 ∧ ffail G n (nI t) 1 = 0 then s ||| (1 <<< (nI t &&& 31)) else s)
def fsc (G : vG) (n : Nat) : Int32 := fsr G n 8 1 0
theorem tgh_agr {G G' : vG} {n : Nat} (h : agr G G' n) : tgh G n = tgh G' n := by funext sc mode; simp only [tgh, tdem_agr h]
theorem slk_agr {G G' : vG} {n : Nat} (h : agr G G' n) : slk G n = slk G' n := by funext sc mode; simp only [slk, tgh_agr h, tdem_agr h]
theorem fsr_agr {G G' : vG} {n : Nat} (h : agr G G' n) : ∀ (k t : Nat) (s : Int32), fsr G n k t s = fsr G' n k t s := by
  intro k
  induction k with
  | zero => intro t s; rfl
  | succ k ih => intro t s; simp only [fsr, ffail_agr h, ih]
theorem fsc_agr {G G' : vG} {n : Nat} (h : agr G G' n) : fsc G n = fsc G' n := fsr_agr h 8 1 0
def cRes (n : Nat) (sim : Int32) (resp : Nat → Int32) (p0 : Int32) : Int32 := if cT n p0 = 0 then (if sim = 0 then 2 else (if resp p0.toNatClampNeg ≤ 0 then 3 else 0)) else 1
def c01 (x : Int32) : Int32 := if x = 0 then 1 else 0

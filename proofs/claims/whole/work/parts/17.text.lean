/-! PART 17: the words for task texts, common to class and reference: tx the characters, L their number -/
/-- the character at a place, -1 behind the end -/
def hrr (tx : Nat → Int32) (L p : Nat) : Int32 := if L ≤ p then -1 else tx p
abbrev isd (tx : Nat → Int32) (L p : Nat) : Prop := inr (hrr tx L p) 48 57
/-- how many digits of a number stand at a place -/
def rlen (tx : Nat → Int32) (L p : Nat) : Nat := if isd tx L p then (if isd tx L (p + 1) then 2 else 1) else 0
def rval (tx : Nat → Int32) (L p : Nat) : Int32 := if isd tx L p then (if isd tx L (p + 1) then (hrr tx L p - 48) * 10 + hrr tx L (p + 1) - 48 else hrr tx L p - 48) else 0
/-- behind number k: is all well, and the place -/
def pst (tx : Nat → Int32) (L : Nat) : Nat → Bool × Nat
  | 0 => (decide (0 < rlen tx L 0), rlen tx L 0)
  | k + 1 => if (pst tx L k).1 = true then (if hrr tx L (pst tx L k).2 = 44 then (decide (0 < rlen tx L ((pst tx L k).2 + 1)), (pst tx L k).2 + 1 + rlen tx L ((pst tx L k).2 + 1)) else (false, (pst tx L k).2)) else (false, (pst tx L k).2)
/-- where number k begins -/
def psp (tx : Nat → Int32) (L : Nat) : Nat → Nat
  | 0 => 0
  | k + 1 => (pst tx L k).2 + 1
def nv (tx : Nat → Int32) (L k : Nat) : Int32 := rval tx L (psp tx L k)
/-- the fault position, -1 if there is none -/
def flt (tx : Nat → Int32) (L : Nat) : Int32 := if (pst tx L 5).1 = true ∧ (pst tx L 5).2 = L then -1 else nI (pst tx L 5).2
theorem rlen_le (tx : Nat → Int32) (L p : Nat) : rlen tx L p ≤ 2 := by
  unfold rlen
  split
  · split <;> omega
  · omega
theorem hrr_out {tx : Nat → Int32} {L p : Nat} (h : L ≤ p) : hrr tx L p = -1 := if_pos h
theorem hrr_in {tx : Nat → Int32} {L p : Nat} (h : p < L) : hrr tx L p = tx p := if_neg (by omega)
theorem isd_lt {tx : Nat → Int32} {L p : Nat} (h : isd tx L p) : p < L := by
  rcases Nat.lt_or_ge p L with q | q
  · exact q
  · exfalso
    have h1 := h.1
    rw [hrr_out q] at h1
    exact h1 (by decide)
theorem rlen_end (tx : Nat → Int32) (L p : Nat) (h : p ≤ L) : p + rlen tx L p ≤ L := by
  unfold rlen
  split
  · rename_i h1
    split
    · rename_i h2; have := isd_lt h2; omega
    · have := isd_lt h1; omega
  · omega
theorem pst_end (tx : Nat → Int32) (L : Nat) : ∀ k, (pst tx L k).2 ≤ L := by
  intro k
  induction k with
  | zero => have := rlen_end tx L 0 (by omega); simp only [pst]; omega
  | succ k ih =>
    simp only [pst]
    split
    · split
      · rename_i h1 h2
        have hl : (pst tx L k).2 < L := by
          rcases Nat.lt_or_ge (pst tx L k).2 L with q | q
          · exact q
          · rw [hrr_out q] at h2; exact absurd h2 (by decide)
        exact rlen_end tx L _ hl
      · exact ih
    · exact ih
theorem pst_no {tx : Nat → Int32} {L k : Nat} (h : (pst tx L k).1 = false) : ∀ j, k ≤ j → pst tx L j = (false, (pst tx L k).2) := by
  intro j
  induction j with
  | zero => intro hj; rw [show k = 0 by omega] at h ⊢; exact Prod.ext h rfl
  | succ j ih =>
    intro hj
    rcases Nat.lt_or_ge j k with q | q
    · rw [show j + 1 = k by omega]; exact Prod.ext h rfl
    · simp only [pst]
      rw [ih q]
      rfl

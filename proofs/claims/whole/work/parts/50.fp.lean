/-! PART 50: floating point numbers: halves, doubles, fractions, comparisons -/

def mk64 (E m : Nat) : UInt64 := UInt64.ofNat (E * 4503599627370496 + m)
theorem mk64_toNat {E m : Nat} (hE : E < 2048) (hm : m < 4503599627370496) : (mk64 E m).toNat = E * 4503599627370496 + m := by
  unfold mk64
  rw [UInt64.toNat_ofNat']
  exact Nat.mod_eq_of_lt (by omega)
theorem mk64_of {x : UInt64} : x = mk64 (x.toNat / 4503599627370496) (x.toNat % 4503599627370496) := by
  unfold mk64
  rw [show x.toNat / 4503599627370496 * 4503599627370496 + x.toNat % 4503599627370496 = x.toNat from by rw [Nat.mul_comm]; exact Nat.div_add_mod _ _]
  exact (UInt64.ofNat_toNat).symm
theorem tails64 : FP.Core.b64.tails = 4503599627370496 := by decide
theorem exps64 : FP.Core.b64.exps = 2048 := by decide
theorem qmin64 : FP.Core.b64.qmin = -1074 := by decide
theorem val_mk64 {E m : Nat} (h1 : 1 ≤ E) (h2 : E ≤ 2048 - 2) (hm : m < 4503599627370496) : FP.Core.val64 (mk64 E m) = .fin false (4503599627370496 + m) ((E : Int) - 1075) := by
  unfold FP.Core.val64
  rw [mk64_toNat (by omega) hm]
  have e : E * 4503599627370496 + m = FP.Core.assemble FP.Core.b64 false E m := by
    unfold FP.Core.assemble
    rw [tails64]
    simp
  rw [e, FP.Core.decode_assemble _ _ _ _ (by rw [exps64]; omega) (by rw [tails64]; exact hm), exps64, if_neg (by omega), if_neg (by omega), tails64, qmin64]
  congr 1
  omega
theorem val_ne64 {E m : Nat} (h1 : 1 ≤ E) (h2 : E ≤ 2048 - 2) (hm : m < 4503599627370496) : FP.Core.val64 (mk64 E m) ≠ .nan := by
  rw [val_mk64 h1 h2 hm]; exact FP.Core.Datum.noConfusion
theorem fits_mk64 {E m : Nat} (h1 : 1 ≤ E) (h2 : E ≤ 2048 - 2) (hm : m < 4503599627370496) : FP.Core.fits FP.Core.b64 (.fin false (4503599627370496 + m) ((E : Int) - 1075)) := by
  rw [← val_mk64 h1 h2 hm]; exact FP.Core.val64_fits _
theorem val_two64 : FP.Core.val64 4611686018427387904 = .fin false 4503599627370496 (-(52 - 1)) := by decide +kernel
theorem half_mk64 {E m : Nat} (h1 : 2 ≤ E) (h2 : E ≤ 2048 - 2) (hm : m < 4503599627370496) : FP.ddiv (mk64 E m) 4611686018427387904 = mk64 (E - 1) m := by
  have key : FP.Core.val64 (FP.ddiv (mk64 E m) 4611686018427387904) = .fin false (4503599627370496 + m) (((E - 1 : Nat) : Int) - 1075) := by
    rw [FP.Core.val64_ddiv, val_mk64 (by omega) h2 hm, val_two64]
    show (if 4503599627370496 = 0 then (if 4503599627370496 + m = 0 then FP.Core.Datum.nan else .inf (false != false)) else FP.Core.roundRatio FP.Core.b64 (false != false) (4503599627370496 + m) 4503599627370496 ((E : Int) - 1075 - -(52 - 1))) = _
    rw [if_neg (by decide)]
    exact FP.Core.roundRatio_exact FP.Core.good_b64 (by decide) (fits_mk64 (E := E - 1) (m := m) (by omega) (by omega) hm) (by rw [show ((E : Int) - 1075 - -(52 - 1) - (((E - 1 : Nat) : Int) - 1075)).toNat = 52 by omega, show ((((E - 1 : Nat) : Int) - 1075) - ((E : Int) - 1075 - -(52 - 1))).toNat = 0 by omega]; simp)
  refine FP.Core.val64_inj ?_ ?_
  · rw [key]; exact FP.Core.Datum.noConfusion
  · rw [key, val_mk64 (by omega) (by omega) hm]
theorem dbl_mk64 {E m : Nat} (h1 : 1 ≤ E) (h2 : E ≤ 2048 - 3) (hm : m < 4503599627370496) : FP.dmul (mk64 E m) 4611686018427387904 = mk64 (E + 1) m := by
  have key : FP.Core.val64 (FP.dmul (mk64 E m) 4611686018427387904) = .fin false (4503599627370496 + m) (((E + 1 : Nat) : Int) - 1075) := by
    rw [FP.Core.val64_dmul, val_mk64 h1 (by omega) hm, val_two64]
    show FP.Core.roundRatio FP.Core.b64 (false != false) ((4503599627370496 + m) * 4503599627370496) 1 ((E : Int) - 1075 + -(52 - 1)) = _
    exact FP.Core.roundRatio_exact FP.Core.good_b64 (by decide) (fits_mk64 (E := E + 1) (m := m) (by omega) (by omega) hm) (by rw [show ((E : Int) - 1075 + -(52 - 1) - (((E + 1 : Nat) : Int) - 1075)).toNat = 0 by omega, show ((((E + 1 : Nat) : Int) - 1075) - ((E : Int) - 1075 + -(52 - 1))).toNat = 52 by omega]; simp)
  refine FP.Core.val64_inj ?_ ?_
  · rw [key]; exact FP.Core.Datum.noConfusion
  · rw [key, val_mk64 (by omega) (by omega) hm]
theorem key_mk64 {E m : Nat} (h2 : E ≤ 2048 - 2) (hm : m < 4503599627370496) (hX : E < 2048 / 2 * 2) : FP.Core.dkey (mk64 E m) = ((E * 4503599627370496 + m : Nat) : Int) := by
  unfold FP.Core.dkey
  rw [mk64_toNat (by omega) hm, if_neg (by omega)]
theorem cmp_lt64 {E m E2 : Nat} (h1 : 1 ≤ E) (h2 : E ≤ 2048 - 2) (hm : m < 4503599627370496) (g1 : 1 ≤ E2) (g2 : E2 ≤ 2048 - 2) (h : E < E2) : FP.dcmp (mk64 E m) (mk64 E2 0) = some .lt := by
  refine (FP.Core.dcmp_lt_key (val_ne64 h1 h2 hm) (val_ne64 g1 g2 (by decide))).mpr ?_
  rw [key_mk64 h2 hm (by omega), key_mk64 g2 (by decide) (by omega)]
  have : (E + 1) * 4503599627370496 ≤ E2 * 4503599627370496 := Nat.mul_le_mul_right _ h
  omega
theorem cmp_nlt64 {E m E2 : Nat} (h1 : 1 ≤ E) (h2 : E ≤ 2048 - 2) (hm : m < 4503599627370496) (g1 : 1 ≤ E2) (g2 : E2 ≤ 2048 - 2) (h : E2 ≤ E) : FP.dcmp (mk64 E m) (mk64 E2 0) = some .eq ∨ FP.dcmp (mk64 E m) (mk64 E2 0) = some .gt := by
  obtain ⟨o, ho⟩ := FP.Core.dcmp_of_notNaN ((FP.Core.notNaN_iff _).mpr (val_ne64 h1 h2 hm)) ((FP.Core.notNaN_iff _).mpr (val_ne64 g1 g2 (show 0 < 4503599627370496 by decide)))
  cases o with
  | eq => exact Or.inl ho
  | gt => exact Or.inr ho
  | lt =>
    have h9 := (FP.Core.dcmp_lt_key (val_ne64 h1 h2 hm) (val_ne64 g1 g2 (by decide))).mp ho
    rw [key_mk64 h2 hm (by omega), key_mk64 g2 (by decide) (by omega)] at h9
    have : E2 * 4503599627370496 ≤ E * 4503599627370496 := Nat.mul_le_mul_right _ h
    omega
theorem cmp_064 {E m : Nat} (h1 : 1 ≤ E) (h2 : E ≤ 2048 - 2) (hm : m < 4503599627370496) : FP.dcmp (mk64 E m) 0 = some .gt := by
  refine (FP.Core.dcmp_gt_key (val_ne64 h1 h2 hm) (show FP.Core.val64 0 ≠ .nan by decide +kernel)).mpr ?_
  rw [key_mk64 h2 hm (by omega), show FP.Core.dkey 0 = 0 from by decide +kernel]
  have : 1 * 4503599627370496 ≤ E * 4503599627370496 := Nat.mul_le_mul_right _ h1
  omega
/-- the fraction of a number from 1 to 2, in whole units -/
theorem frac64 {m : Nat} (hm : m < 4503599627370496) : FP.Core.DFin (FP.dsub (mk64 1023 m) 4607182418800017408) ∧ FP.Core.DFin (FP.dmul (FP.dsub (mk64 1023 m) 4607182418800017408) 4841369599423283200) ∧ FP.Core.Whole (m : Int) (FP.Core.val64 (FP.dmul (FP.dsub (mk64 1023 m) 4607182418800017408) 4841369599423283200)) := by
  have hone : FP.Core.val64 4607182418800017408 = .fin false 4503599627370496 (-52) := by decide +kernel
  have hbig : FP.Core.val64 4841369599423283200 = .fin false 4503599627370496 0 := by decide +kernel
  have e1 : FP.Core.val64 (FP.dsub (mk64 1023 m) 4607182418800017408) = FP.Core.roundRatio FP.Core.b64 false m 1 (-52) := by
    rw [FP.Core.val64_dsub, val_mk64 (by decide) (by decide) hm, hone, show ((1023 : Nat) : Int) - 1075 = -52 by decide]
    show FP.Core.roundRatio FP.Core.b64 (FP.Core.sumSign false (!false) (FP.Core.sumUnits false (4503599627370496 + m) (-52) (!false) 4503599627370496 (-52) (min (-52) (-52)))) (FP.Core.sumUnits false (4503599627370496 + m) (-52) (!false) 4503599627370496 (-52) (min (-52) (-52))).natAbs 1 (min (-52) (-52)) = _
    have e2 : FP.Core.sumUnits false (4503599627370496 + m) (-52) (!false) 4503599627370496 (-52) (min (-52) (-52)) = (m : Int) := by
      show ((((4503599627370496 + m) * 2 ^ ((-52 : Int) - min (-52) (-52)).toNat : Nat) : Int)) + -((4503599627370496 * 2 ^ ((-52 : Int) - min (-52) (-52)).toNat : Nat) : Int) = _
      rw [show ((-52 : Int) - min (-52) (-52)).toNat = 0 by decide]
      simp only [Nat.pow_zero, Nat.mul_one]
      omega
    rw [e2, show (min (-52) (-52) : Int) = -52 by decide, Int.natAbs_natCast]
    congr 1
    unfold FP.Core.sumSign
    split
    · rfl
    · exact decide_eq_false (by omega)
  rcases Nat.eq_zero_or_pos m with h0 | h0
  · subst h0
    have e3 : FP.Core.val64 (FP.dsub (mk64 1023 0) 4607182418800017408) = .fin false 0 (-1074) := by rw [e1]; decide
    have e4 : FP.Core.val64 (FP.dmul (FP.dsub (mk64 1023 0) 4607182418800017408) 4841369599423283200) = .fin false 0 (-1074) := by rw [FP.Core.val64_dmul, e3, hbig]; decide
    refine ⟨⟨_, _, _, e3⟩, ⟨_, _, _, e4⟩, ?_⟩
    rw [e4]
    show FP.Core.signed false (0 * 2 ^ (-1074 : Int).toNat) = ((0 : Nat) : Int) * _
    rw [Nat.zero_mul, Int.natCast_zero, Int.zero_mul]
    rfl
  · have hl : m.log2 < 52 := (Nat.log2_lt (by omega)).mpr (by show m < 2 ^ 52; omega)
    have hl1 : 2 ^ m.log2 ≤ m := Nat.log2_self_le (by omega)
    have hl2 : m < 2 ^ (m.log2 + 1) := Nat.lt_log2_self
    obtain ⟨k, hk⟩ : ∃ k, m.log2 + k = 52 := ⟨52 - m.log2, by omega⟩
    have hc1 : 4503599627370496 ≤ m * 2 ^ k := by
      have : 2 ^ m.log2 * 2 ^ k ≤ m * 2 ^ k := Nat.mul_le_mul_right _ hl1
      rw [← Nat.pow_add, hk] at this
      exact this
    have hc2 : m * 2 ^ k < 2 ^ (52 + 1) := by
      have : m * 2 ^ k < 2 ^ (m.log2 + 1) * 2 ^ k := Nat.mul_lt_mul_of_pos_right hl2 (Nat.two_pow_pos k)
      rw [← Nat.pow_add, show m.log2 + 1 + k = 52 + 1 by omega] at this
      exact this
    have hf : ∀ q : Int, -1074 ≤ q → q ≤ 0 → FP.Core.fits FP.Core.b64 (.fin false (m * 2 ^ k) q) := fun q a b => ⟨hc2, by rw [qmin64]; exact a, Int.le_trans b (by decide), Or.inr (by rw [tails64]; exact hc1)⟩
    have e3 : FP.Core.val64 (FP.dsub (mk64 1023 m) 4607182418800017408) = .fin false (m * 2 ^ k) (-52 - k) := by
      rw [e1]
      exact FP.Core.roundRatio_exact FP.Core.good_b64 (by decide) (hf _ (by omega) (by omega)) (by rw [show ((-52 : Int) - (-52 - (k : Int))).toNat = k by omega, show ((-52 - (k : Int)) - -52).toNat = 0 by omega]; simp)
    have e4 : FP.Core.val64 (FP.dmul (FP.dsub (mk64 1023 m) 4607182418800017408) 4841369599423283200) = .fin false (m * 2 ^ k) (-(k : Int)) := by
      rw [FP.Core.val64_dmul, e3, hbig]
      show FP.Core.roundRatio FP.Core.b64 (false != false) (m * 2 ^ k * 4503599627370496) 1 (-52 - (k : Int) + 0) = _
      exact FP.Core.roundRatio_exact FP.Core.good_b64 (by decide) (hf _ (by omega) (by omega)) (by rw [show (-52 - (k : Int) + 0 - -(k : Int)).toNat = 0 by omega, show (-(k : Int) - (-52 - (k : Int) + 0)).toNat = 52 by omega]; simp)
    refine ⟨⟨_, _, _, e3⟩, ⟨_, _, _, e4⟩, ?_⟩
    rw [e4]
    show FP.Core.signed false (m * 2 ^ k * 2 ^ (-(k : Int)).toNat) = (m : Int) * ((2 ^ (- -(k : Int)).toNat : Nat) : Int)
    rw [show (-(k : Int)).toNat = 0 by omega, show (- -(k : Int)).toNat = k by omega, Nat.pow_zero, Nat.mul_one]
    show ((m * 2 ^ k : Nat) : Int) = _
    rw [Int.natCast_mul]
theorem nn64 {r : UInt64} (h : FP.Core.DFin r) : vf_n64 r := by
  have h1 := (FP.Core.fin_bits r).mp h
  unfold vf_n64
  rw [UInt64.le_iff_toNat_le, UInt64.toNat_and]
  show r.toNat &&& 9223372036854775807 ≤ _
  rw [show (9223372036854775807 : Nat) = 2 ^ (64 - 1) - 1 from by decide, Nat.and_two_pow_sub_one_eq_mod]
  exact Nat.le_of_lt h1
theorem fin_mk64 {E m : Nat} (h1 : 1 ≤ E) (h2 : E ≤ 2048 - 2) (hm : m < 4503599627370496) : FP.Core.DFin (mk64 E m) := ⟨_, _, _, val_mk64 h1 h2 hm⟩

def mk32 (E m : Nat) : UInt32 := UInt32.ofNat (E * 8388608 + m)
theorem mk32_toNat {E m : Nat} (hE : E < 256) (hm : m < 8388608) : (mk32 E m).toNat = E * 8388608 + m := by
  unfold mk32
  rw [UInt32.toNat_ofNat']
  exact Nat.mod_eq_of_lt (by omega)
theorem mk32_of {x : UInt32} : x = mk32 (x.toNat / 8388608) (x.toNat % 8388608) := by
  unfold mk32
  rw [show x.toNat / 8388608 * 8388608 + x.toNat % 8388608 = x.toNat from by rw [Nat.mul_comm]; exact Nat.div_add_mod _ _]
  exact (UInt32.ofNat_toNat).symm
theorem tails32 : FP.Core.b32.tails = 8388608 := by decide
theorem exps32 : FP.Core.b32.exps = 256 := by decide
theorem qmin32 : FP.Core.b32.qmin = -149 := by decide
theorem val_mk32 {E m : Nat} (h1 : 1 ≤ E) (h2 : E ≤ 256 - 2) (hm : m < 8388608) : FP.Core.val32 (mk32 E m) = .fin false (8388608 + m) ((E : Int) - 150) := by
  unfold FP.Core.val32
  rw [mk32_toNat (by omega) hm]
  have e : E * 8388608 + m = FP.Core.assemble FP.Core.b32 false E m := by
    unfold FP.Core.assemble
    rw [tails32]
    simp
  rw [e, FP.Core.decode_assemble _ _ _ _ (by rw [exps32]; omega) (by rw [tails32]; exact hm), exps32, if_neg (by omega), if_neg (by omega), tails32, qmin32]
  congr 1
  omega
theorem val_ne32 {E m : Nat} (h1 : 1 ≤ E) (h2 : E ≤ 256 - 2) (hm : m < 8388608) : FP.Core.val32 (mk32 E m) ≠ .nan := by
  rw [val_mk32 h1 h2 hm]; exact FP.Core.Datum.noConfusion
theorem fits_mk32 {E m : Nat} (h1 : 1 ≤ E) (h2 : E ≤ 256 - 2) (hm : m < 8388608) : FP.Core.fits FP.Core.b32 (.fin false (8388608 + m) ((E : Int) - 150)) := by
  rw [← val_mk32 h1 h2 hm]; exact FP.Core.val32_fits _
theorem val_two32 : FP.Core.val32 1073741824 = .fin false 8388608 (-(23 - 1)) := by decide +kernel
theorem half_mk32 {E m : Nat} (h1 : 2 ≤ E) (h2 : E ≤ 256 - 2) (hm : m < 8388608) : FP.fdiv (mk32 E m) 1073741824 = mk32 (E - 1) m := by
  have key : FP.Core.val32 (FP.fdiv (mk32 E m) 1073741824) = .fin false (8388608 + m) (((E - 1 : Nat) : Int) - 150) := by
    rw [FP.Core.val32_fdiv, val_mk32 (by omega) h2 hm, val_two32]
    show (if 8388608 = 0 then (if 8388608 + m = 0 then FP.Core.Datum.nan else .inf (false != false)) else FP.Core.roundRatio FP.Core.b32 (false != false) (8388608 + m) 8388608 ((E : Int) - 150 - -(23 - 1))) = _
    rw [if_neg (by decide)]
    exact FP.Core.roundRatio_exact FP.Core.good_b32 (by decide) (fits_mk32 (E := E - 1) (m := m) (by omega) (by omega) hm) (by rw [show ((E : Int) - 150 - -(23 - 1) - (((E - 1 : Nat) : Int) - 150)).toNat = 23 by omega, show ((((E - 1 : Nat) : Int) - 150) - ((E : Int) - 150 - -(23 - 1))).toNat = 0 by omega]; simp)
  refine FP.Core.val32_inj ?_ ?_
  · rw [key]; exact FP.Core.Datum.noConfusion
  · rw [key, val_mk32 (by omega) (by omega) hm]
theorem dbl_mk32 {E m : Nat} (h1 : 1 ≤ E) (h2 : E ≤ 256 - 3) (hm : m < 8388608) : FP.fmul (mk32 E m) 1073741824 = mk32 (E + 1) m := by
  have key : FP.Core.val32 (FP.fmul (mk32 E m) 1073741824) = .fin false (8388608 + m) (((E + 1 : Nat) : Int) - 150) := by
    rw [FP.Core.val32_fmul, val_mk32 h1 (by omega) hm, val_two32]
    show FP.Core.roundRatio FP.Core.b32 (false != false) ((8388608 + m) * 8388608) 1 ((E : Int) - 150 + -(23 - 1)) = _
    exact FP.Core.roundRatio_exact FP.Core.good_b32 (by decide) (fits_mk32 (E := E + 1) (m := m) (by omega) (by omega) hm) (by rw [show ((E : Int) - 150 + -(23 - 1) - (((E + 1 : Nat) : Int) - 150)).toNat = 0 by omega, show ((((E + 1 : Nat) : Int) - 150) - ((E : Int) - 150 + -(23 - 1))).toNat = 23 by omega]; simp)
  refine FP.Core.val32_inj ?_ ?_
  · rw [key]; exact FP.Core.Datum.noConfusion
  · rw [key, val_mk32 (by omega) (by omega) hm]
theorem key_mk32 {E m : Nat} (h2 : E ≤ 256 - 2) (hm : m < 8388608) (hX : E < 256 / 2 * 2) : FP.Core.fkey (mk32 E m) = ((E * 8388608 + m : Nat) : Int) := by
  unfold FP.Core.fkey
  rw [mk32_toNat (by omega) hm, if_neg (by omega)]
theorem cmp_lt32 {E m E2 : Nat} (h1 : 1 ≤ E) (h2 : E ≤ 256 - 2) (hm : m < 8388608) (g1 : 1 ≤ E2) (g2 : E2 ≤ 256 - 2) (h : E < E2) : FP.fcmp (mk32 E m) (mk32 E2 0) = some .lt := by
  refine (FP.Core.fcmp_lt_key (val_ne32 h1 h2 hm) (val_ne32 g1 g2 (by decide))).mpr ?_
  rw [key_mk32 h2 hm (by omega), key_mk32 g2 (by decide) (by omega)]
  have : (E + 1) * 8388608 ≤ E2 * 8388608 := Nat.mul_le_mul_right _ h
  omega
theorem cmp_nlt32 {E m E2 : Nat} (h1 : 1 ≤ E) (h2 : E ≤ 256 - 2) (hm : m < 8388608) (g1 : 1 ≤ E2) (g2 : E2 ≤ 256 - 2) (h : E2 ≤ E) : FP.fcmp (mk32 E m) (mk32 E2 0) = some .eq ∨ FP.fcmp (mk32 E m) (mk32 E2 0) = some .gt := by
  obtain ⟨o, ho⟩ := FP.Core.fcmp_of_notNaN ((FP.Core.notNaN_iff32 _).mpr (val_ne32 h1 h2 hm)) ((FP.Core.notNaN_iff32 _).mpr (val_ne32 g1 g2 (show 0 < 8388608 by decide)))
  cases o with
  | eq => exact Or.inl ho
  | gt => exact Or.inr ho
  | lt =>
    have h9 := (FP.Core.fcmp_lt_key (val_ne32 h1 h2 hm) (val_ne32 g1 g2 (by decide))).mp ho
    rw [key_mk32 h2 hm (by omega), key_mk32 g2 (by decide) (by omega)] at h9
    have : E2 * 8388608 ≤ E * 8388608 := Nat.mul_le_mul_right _ h
    omega
theorem cmp_032 {E m : Nat} (h1 : 1 ≤ E) (h2 : E ≤ 256 - 2) (hm : m < 8388608) : FP.fcmp (mk32 E m) 0 = some .gt := by
  refine (FP.Core.fcmp_gt_key (val_ne32 h1 h2 hm) (show FP.Core.val32 0 ≠ .nan by decide +kernel)).mpr ?_
  rw [key_mk32 h2 hm (by omega), show FP.Core.fkey 0 = 0 from by decide +kernel]
  have : 1 * 8388608 ≤ E * 8388608 := Nat.mul_le_mul_right _ h1
  omega
/-- the fraction of a number from 1 to 2, in whole units -/
theorem frac32 {m : Nat} (hm : m < 8388608) : FP.Core.FFin (FP.fsub (mk32 127 m) 1065353216) ∧ FP.Core.FFin (FP.fmul (FP.fsub (mk32 127 m) 1065353216) 1258291200) ∧ FP.Core.Whole (m : Int) (FP.Core.val32 (FP.fmul (FP.fsub (mk32 127 m) 1065353216) 1258291200)) := by
  have hone : FP.Core.val32 1065353216 = .fin false 8388608 (-23) := by decide +kernel
  have hbig : FP.Core.val32 1258291200 = .fin false 8388608 0 := by decide +kernel
  have e1 : FP.Core.val32 (FP.fsub (mk32 127 m) 1065353216) = FP.Core.roundRatio FP.Core.b32 false m 1 (-23) := by
    rw [FP.Core.val32_fsub, val_mk32 (by decide) (by decide) hm, hone, show ((127 : Nat) : Int) - 150 = -23 by decide]
    show FP.Core.roundRatio FP.Core.b32 (FP.Core.sumSign false (!false) (FP.Core.sumUnits false (8388608 + m) (-23) (!false) 8388608 (-23) (min (-23) (-23)))) (FP.Core.sumUnits false (8388608 + m) (-23) (!false) 8388608 (-23) (min (-23) (-23))).natAbs 1 (min (-23) (-23)) = _
    have e2 : FP.Core.sumUnits false (8388608 + m) (-23) (!false) 8388608 (-23) (min (-23) (-23)) = (m : Int) := by
      show ((((8388608 + m) * 2 ^ ((-23 : Int) - min (-23) (-23)).toNat : Nat) : Int)) + -((8388608 * 2 ^ ((-23 : Int) - min (-23) (-23)).toNat : Nat) : Int) = _
      rw [show ((-23 : Int) - min (-23) (-23)).toNat = 0 by decide]
      simp only [Nat.pow_zero, Nat.mul_one]
      omega
    rw [e2, show (min (-23) (-23) : Int) = -23 by decide, Int.natAbs_natCast]
    congr 1
    unfold FP.Core.sumSign
    split
    · rfl
    · exact decide_eq_false (by omega)
  rcases Nat.eq_zero_or_pos m with h0 | h0
  · subst h0
    have e3 : FP.Core.val32 (FP.fsub (mk32 127 0) 1065353216) = .fin false 0 (-149) := by rw [e1]; decide
    have e4 : FP.Core.val32 (FP.fmul (FP.fsub (mk32 127 0) 1065353216) 1258291200) = .fin false 0 (-149) := by rw [FP.Core.val32_fmul, e3, hbig]; decide
    refine ⟨⟨_, _, _, e3⟩, ⟨_, _, _, e4⟩, ?_⟩
    rw [e4]
    show FP.Core.signed false (0 * 2 ^ (-149 : Int).toNat) = ((0 : Nat) : Int) * _
    rw [Nat.zero_mul, Int.natCast_zero, Int.zero_mul]
    rfl
  · have hl : m.log2 < 23 := (Nat.log2_lt (by omega)).mpr (by show m < 2 ^ 23; omega)
    have hl1 : 2 ^ m.log2 ≤ m := Nat.log2_self_le (by omega)
    have hl2 : m < 2 ^ (m.log2 + 1) := Nat.lt_log2_self
    obtain ⟨k, hk⟩ : ∃ k, m.log2 + k = 23 := ⟨23 - m.log2, by omega⟩
    have hc1 : 8388608 ≤ m * 2 ^ k := by
      have : 2 ^ m.log2 * 2 ^ k ≤ m * 2 ^ k := Nat.mul_le_mul_right _ hl1
      rw [← Nat.pow_add, hk] at this
      exact this
    have hc2 : m * 2 ^ k < 2 ^ (23 + 1) := by
      have : m * 2 ^ k < 2 ^ (m.log2 + 1) * 2 ^ k := Nat.mul_lt_mul_of_pos_right hl2 (Nat.two_pow_pos k)
      rw [← Nat.pow_add, show m.log2 + 1 + k = 23 + 1 by omega] at this
      exact this
    have hf : ∀ q : Int, -149 ≤ q → q ≤ 0 → FP.Core.fits FP.Core.b32 (.fin false (m * 2 ^ k) q) := fun q a b => ⟨hc2, by rw [qmin32]; exact a, Int.le_trans b (by decide), Or.inr (by rw [tails32]; exact hc1)⟩
    have e3 : FP.Core.val32 (FP.fsub (mk32 127 m) 1065353216) = .fin false (m * 2 ^ k) (-23 - k) := by
      rw [e1]
      exact FP.Core.roundRatio_exact FP.Core.good_b32 (by decide) (hf _ (by omega) (by omega)) (by rw [show ((-23 : Int) - (-23 - (k : Int))).toNat = k by omega, show ((-23 - (k : Int)) - -23).toNat = 0 by omega]; simp)
    have e4 : FP.Core.val32 (FP.fmul (FP.fsub (mk32 127 m) 1065353216) 1258291200) = .fin false (m * 2 ^ k) (-(k : Int)) := by
      rw [FP.Core.val32_fmul, e3, hbig]
      show FP.Core.roundRatio FP.Core.b32 (false != false) (m * 2 ^ k * 8388608) 1 (-23 - (k : Int) + 0) = _
      exact FP.Core.roundRatio_exact FP.Core.good_b32 (by decide) (hf _ (by omega) (by omega)) (by rw [show (-23 - (k : Int) + 0 - -(k : Int)).toNat = 0 by omega, show (-(k : Int) - (-23 - (k : Int) + 0)).toNat = 23 by omega]; simp)
    refine ⟨⟨_, _, _, e3⟩, ⟨_, _, _, e4⟩, ?_⟩
    rw [e4]
    show FP.Core.signed false (m * 2 ^ k * 2 ^ (-(k : Int)).toNat) = (m : Int) * ((2 ^ (- -(k : Int)).toNat : Nat) : Int)
    rw [show (-(k : Int)).toNat = 0 by omega, show (- -(k : Int)).toNat = k by omega, Nat.pow_zero, Nat.mul_one]
    show ((m * 2 ^ k : Nat) : Int) = _
    rw [Int.natCast_mul]
theorem nn32 {r : UInt32} (h : FP.Core.FFin r) : vf_n32 r := by
  have h1 := (FP.Core.fin_bits32 r).mp h
  unfold vf_n32
  rw [UInt32.le_iff_toNat_le, UInt32.toNat_and]
  show r.toNat &&& 2147483647 ≤ _
  rw [show (2147483647 : Nat) = 2 ^ (32 - 1) - 1 from by decide, Nat.and_two_pow_sub_one_eq_mod]
  exact Nat.le_of_lt h1
theorem fin_mk32 {E m : Nat} (h1 : 1 ≤ E) (h2 : E ≤ 256 - 2) (hm : m < 8388608) : FP.Core.FFin (mk32 E m) := ⟨_, _, _, val_mk32 h1 h2 hm⟩

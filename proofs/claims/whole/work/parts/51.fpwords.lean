/-! PART 51: the words for utilization and load; bits -/
section WF
variable {p : Program} {l : Launch} {e : Env} {R : Room} {s : State} {m : MethodId} {args : Array Value} {below : List Frame} {meth : Method} {c : Code} {H : Heap} {locs : List Loc} {cells slots : Nat} {Q : State → Prop}
variable {cc : ByteArray} {pc : Nat} {ls : Array Slot} {rest : List Value}
/-- ldc_w of a float -/
theorem lv_ldcwf (hexec : p.tables.exec = Jvm.exec) (hb : c.code = cc) {own : String} {index : Nat} {v : UInt32} (hown : s.vm.findClass own = some m.cls) (hconst : (Jvm.Cond.constantFloat own index v).before args s = true) (hdg : decode cc pc = .ok (.ldc_w index, 3)) (k : W p l e R s m args below meth c H locs cells slots Q (F0 m (pc + 3) ls (.float v :: rest))) : W p l e R s m args below meth c H locs cells slots Q (F0 m pc ls rest) := by
  intro T hT X
  obtain ⟨t, a, b⟩ := k T hT X
  refine ⟨t, ?_, b⟩
  obtain ⟨k9, cf, hk, hcf, hcp⟩ := Cond.constantFloat_spec hown hconst
  obtain ⟨k', hk', he⟩ := X.warmed.alike.2.2 _ _ hk
  have hdg' : decode c.code (F0 m pc ls rest).pc = .ok (.ldc_w index, 3) := by rw [hb]; exact hdg
  jvm_step X.here [hexec, hdg', ldc_w.wp_float (s := T) (f := F0 m pc ls rest) X.here.top hk' (by rw [he]; exact hcf) hcp]
  exact a
end WF
theorem dc0 : FP.dconst0 = 0 := rfl
theorem fc0 : FP.fconst0 = 0 := rfl
theorem dc1 : FP.dconst1 = mk64 1023 0 := by decide +kernel
theorem fc1 : FP.fconst1 = mk32 127 0 := by decide +kernel
theorem fc2 : FP.fconst2 = 1073741824 := rfl
theorem dtwo : (4611686018427387904 : UInt64) = mk64 1024 0 := by decide +kernel
theorem ftwo : (1073741824 : UInt32) = mk32 128 0 := by decide +kernel
theorem cv_lt {o : Option Ordering} {op : CmpOp} (h : o = some .lt) : Op.cmpValue o op = -1 := by rw [h]; rfl
theorem cv_gt {o : Option Ordering} {op : CmpOp} (h : o = some .gt) : Op.cmpValue o op = 1 := by rw [h]; rfl
theorem cv_ge {o : Option Ordering} {op : CmpOp} (h : o = some .eq ∨ o = some .gt) : 0 ≤ Op.cmpValue o op := by rcases h with h | h <;> rw [h] <;> cases op <;> decide
theorem cl2_64 {E m : Nat} (h1 : 1 ≤ E) (h2 : E ≤ 2046) (hm : m < 4503599627370496) : Op.cmpValue (FP.dcmp (mk64 E m) 4611686018427387904) .l < 0 ↔ E < 1024 := by
  rw [dtwo]
  constructor
  · intro h
    rcases Nat.lt_or_ge E 1024 with q | q
    · exact q
    · exact absurd h (Int32.not_lt.mpr (cv_ge (cmp_nlt64 h1 h2 hm (by decide) (by decide) q)))
  · intro h; rw [cv_lt (cmp_lt64 h1 h2 hm (by decide) (by decide) h)]; decide
theorem cg1_64 {E m : Nat} (h1 : 1 ≤ E) (h2 : E ≤ 2046) (hm : m < 4503599627370496) : 0 ≤ Op.cmpValue (FP.dcmp (mk64 E m) FP.dconst1) .g ↔ 1023 ≤ E := by
  rw [dc1]
  constructor
  · intro h
    rcases Nat.lt_or_ge E 1023 with q | q
    · rw [cv_lt (cmp_lt64 h1 h2 hm (by decide) (by decide) q)] at h; exact absurd h (by decide)
    · exact q
  · intro h; exact cv_ge (cmp_nlt64 h1 h2 hm (by decide) (by decide) h)
theorem cl2_32 {E m : Nat} (h1 : 1 ≤ E) (h2 : E ≤ 254) (hm : m < 8388608) : Op.cmpValue (FP.fcmp (mk32 E m) FP.fconst2) .l < 0 ↔ E < 128 := by
  rw [fc2, ftwo]
  constructor
  · intro h
    rcases Nat.lt_or_ge E 128 with q | q
    · exact q
    · exact absurd h (Int32.not_lt.mpr (cv_ge (cmp_nlt32 h1 h2 hm (by decide) (by decide) q)))
  · intro h; rw [cv_lt (cmp_lt32 h1 h2 hm (by decide) (by decide) h)]; decide
theorem cg1_32 {E m : Nat} (h1 : 1 ≤ E) (h2 : E ≤ 254) (hm : m < 8388608) : 0 ≤ Op.cmpValue (FP.fcmp (mk32 E m) FP.fconst1) .g ↔ 127 ≤ E := by
  rw [fc1]
  constructor
  · intro h
    rcases Nat.lt_or_ge E 127 with q | q
    · rw [cv_lt (cmp_lt32 h1 h2 hm (by decide) (by decide) q)] at h; exact absurd h (by decide)
    · exact q
  · intro h; exact cv_ge (cmp_nlt32 h1 h2 hm (by decide) (by decide) h)
/-- 0 or a positive normal number -/
def pn64 (x : UInt64) : Prop := x = 0 ∨ (4503599627370496 ≤ x.toNat ∧ x.toNat < 9218868437227405312)
def pn32 (x : UInt32) : Prop := x = 0 ∨ (8388608 ≤ x.toNat ∧ x.toNat < 2139095040)
theorem pn64_mk {x : UInt64} (h : pn64 x) (h0 : ¬ x = 0) : ∃ E m, 1 ≤ E ∧ E ≤ 2046 ∧ m < 4503599627370496 ∧ x = mk64 E m := by
  rcases h with h | ⟨h1, h2⟩
  · exact absurd h h0
  · exact ⟨x.toNat / 4503599627370496, x.toNat % 4503599627370496, by omega, by omega, Nat.mod_lt _ (by decide), mk64_of⟩
theorem pn32_mk {x : UInt32} (h : pn32 x) (h0 : ¬ x = 0) : ∃ E m, 1 ≤ E ∧ E ≤ 254 ∧ m < 8388608 ∧ x = mk32 E m := by
  rcases h with h | ⟨h1, h2⟩
  · exact absurd h h0
  · exact ⟨x.toNat / 8388608, x.toNat % 8388608, by omega, by omega, Nat.mod_lt _ (by decide), mk32_of⟩
theorem pn64_fin {x : UInt64} (h : pn64 x) : FP.Core.DFin x := by
  rw [FP.Core.fin_bits]
  rcases h with h | ⟨h1, h2⟩
  · rw [h]; decide
  · omega
theorem pn32_fin {x : UInt32} (h : pn32 x) : FP.Core.FFin x := by
  rw [FP.Core.fin_bits32]
  rcases h with h | ⟨h1, h2⟩
  · rw [h]; decide
  · omega
theorem pn64_0 {x : UInt64} (h : pn64 x) : 0 < Op.cmpValue (FP.dcmp x FP.dconst0) .g ↔ ¬ x = 0 := by
  rw [dc0]
  constructor
  · intro q e; rw [e] at q; revert q; decide +kernel
  · intro q
    obtain ⟨E, m, a, b, c, rfl⟩ := pn64_mk h q
    rw [cv_gt (cmp_064 a b c)]; decide
theorem pn32_0 {x : UInt32} (h : pn32 x) : 0 < Op.cmpValue (FP.fcmp x FP.fconst0) .g ↔ ¬ x = 0 := by
  rw [fc0]
  constructor
  · intro q e; rw [e] at q; revert q; decide +kernel
  · intro q
    obtain ⟨E, m, a, b, c, rfl⟩ := pn32_mk h q
    rw [cv_gt (cmp_032 a b c)]; decide
theorem sh64 : ∀ E, E < 2048 → (nI E).toInt64 <<< (Int32.toInt64 52 &&& 63) = Int64.ofNat (E * 4503599627370496) := by decide +kernel
theorem sh32 : ∀ E, E < 256 → (nI E) <<< (23 &&& 31 : Int32) = Int32.ofNat (E * 8388608) := by decide +kernel
theorem bits64 {E m : Nat} (hE : E < 2048) (hm : m < 4503599627370496) : (nI E).toInt64 <<< (Int32.toInt64 52 &&& 63) + FP.d2l (FP.dmul (FP.dsub (mk64 1023 m) FP.dconst1) 4841369599423283200) = (mk64 E m).toInt64 := by
  have h9 : FP.d2l (FP.dmul (FP.dsub (mk64 1023 m) FP.dconst1) 4841369599423283200) = Int64.ofNat m := FP.Core.d2l_int (a := Int64.ofNat m) (by rw [Int64.toInt_ofNat_of_lt (by omega)]; exact (frac64 hm).2.2)
  rw [sh64 E hE, h9, ← Int64.ofNat_add]
  rfl
theorem bits32 {E m : Nat} (hE : E < 256) (hm : m < 8388608) : (nI E) <<< (23 &&& 31 : Int32) + FP.f2i (FP.fmul (FP.fsub (mk32 127 m) FP.fconst1) 1258291200) = (mk32 E m).toInt32 := by
  have h9 : FP.f2i (FP.fmul (FP.fsub (mk32 127 m) FP.fconst1) 1258291200) = Int32.ofNat m := FP.Core.f2i_int (a := Int32.ofNat m) (by rw [Int32.toInt_ofNat_of_lt (by omega)]; exact (frac32 hm).2.2)
  rw [sh32 E hE, h9, ← Int32.ofNat_add]
  rfl
/-- the utilization of the first i tasks -/
def utl (G : vG) (mode : Int32) : Nat → UInt64
  | 0 => FP.dconst0
  | i + 1 => if mode = 0 then FP.dadd (utl G mode i) (FP.ddiv (FP.i2d (G 2 i)) (FP.i2d (per G i))) else if G 3 i ≤ 0 then utl G mode i else FP.dadd (utl G mode i) (FP.ddiv (FP.i2d (G 3 i)) (FP.i2d (per G i)))
/-- the greatest quotient of k intervals from t on, or g -/
def ldr (f : Int32 → Int32) : Nat → Nat → UInt32 → UInt32
  | 0, _, g => g
  | k + 1, t, g => ldr f k (t + 1) (if Op.cmpValue (FP.fcmp (FP.fdiv (FP.i2f (f (nI t))) (FP.i2f (nI t))) g) .l ≤ 0 then g else FP.fdiv (FP.i2f (f (nI t))) (FP.i2f (nI t)))
def lod (G : vG) (n : Nat) (sc mode : Int32) : UInt32 := ldr (tdem G n sc mode) 200 1 FP.fconst0
theorem dq_all : (List.range 41).all (fun a => (List.range 121).all (fun b => decide (a = 0) || decide (b < a) || (decide (4503599627370496 ≤ (FP.ddiv (FP.i2d (nI a)) (FP.i2d (nI b))).toNat) && decide ((FP.ddiv (FP.i2d (nI a)) (FP.i2d (nI b))).toNat < 4611686018427387904)))) = true := by decide +kernel
theorem dq {a b : Nat} (h1 : 1 ≤ a) (h2 : a ≤ b) (h3 : a ≤ 40) (h4 : b ≤ 120) : 4503599627370496 ≤ (FP.ddiv (FP.i2d (nI a)) (FP.i2d (nI b))).toNat ∧ (FP.ddiv (FP.i2d (nI a)) (FP.i2d (nI b))).toNat < 4611686018427387904 := by
  have h := List.all_eq_true.mp (List.all_eq_true.mp dq_all a (List.mem_range.mpr (by omega))) b (List.mem_range.mpr (by omega))
  simp only [Bool.or_eq_true, Bool.and_eq_true, decide_eq_true_eq] at h
  rcases h with (h | h) | h
  · omega
  · omega
  · exact h
theorem dsum {x y : UInt64} {K : Nat} (hx : x = 0 ∨ 4503599627370496 ≤ x.toNat) (hx2 : x.toNat < K * 4503599627370496) (hK : 1024 ≤ K) (hK2 : K ≤ 1040) (hy : 4503599627370496 ≤ y.toNat) (hy2 : y.toNat < 4611686018427387904) : 4503599627370496 ≤ (FP.dadd x y).toNat ∧ (FP.dadd x y).toNat < (K + 2) * 4503599627370496 := by
  have px : pn64 x := hx.imp id (fun h => ⟨h, by omega⟩)
  have py : pn64 y := Or.inr ⟨hy, by omega⟩
  have fx := pn64_fin px
  have fy := pn64_fin py
  have hs : (FP.dadd x y).toNat % 2 ^ 63 < (K + 2) * 2 ^ 52 := FP.Core.dadd_mag (a := x) (b := y) (K := K) (by omega) (by omega) (by omega)
  have hfin : FP.Core.DFin (FP.dadd x y) := by rw [FP.Core.fin_bits]; omega
  have hne : FP.Core.val64 (FP.dadd x y) ≠ .nan := hfin.ne_nan
  have zx : 0 ≤ FP.Core.zval FP.Core.b64 (FP.Core.val64 x) := FP.Core.zval_nonneg fx.ne_nan (by omega)
  have hge := FP.Core.sum_ge FP.Core.good_b64 (V := FP.Core.val64 y) fx fy (FP.Core.val64_fits x) (FP.Core.val64_fits y) (FP.Core.val64_fits y) fy.ne_nan (by omega)
  have hge : FP.Core.zval FP.Core.b64 (FP.Core.val64 y) ≤ FP.Core.zval FP.Core.b64 (FP.Core.val64 (FP.dadd x y)) := by rw [show FP.Core.val64 (FP.dadd x y) = _ from FP.Core.val64_dadd x y]; exact hge
  have hnl : ¬ FP.Core.dkey (FP.dadd x y) < FP.Core.dkey y := by
    rw [← FP.Core.dcmp_lt_key hne fy.ne_nan, FP.Core.dcmp_zval hne fy.ne_nan]
    intro q
    have q2 : compare (FP.Core.zval FP.Core.b64 (FP.Core.val64 (FP.dadd x y))) (FP.Core.zval FP.Core.b64 (FP.Core.val64 y)) = .lt := Option.some.inj q
    have := Int.compare_eq_lt.mp q2
    omega
  have ky : FP.Core.dkey y = (y.toNat : Int) := by unfold FP.Core.dkey; rw [if_neg (by omega)]
  rw [ky] at hnl
  have ks : ¬ 2 ^ 63 ≤ (FP.dadd x y).toNat := fun q => by
    apply hnl
    unfold FP.Core.dkey
    rw [if_pos q]
    omega
  unfold FP.Core.dkey at hnl
  rw [if_neg ks] at hnl
  omega
theorem per_nI {G : vG} {i P lv : Nat} (h : okT G i) (e0 : G 0 i = nI P) (e6 : G 6 i = nI lv) : per G i = nI (P * (lv + 1)) := by rw [per_ok h, e0, e6]; exact nmul rfl (nI_1 lv)
theorem utl_ok {G : vG} {n : Nat} {mode : Int32} (hG : okG G n) (hn : n ≤ 8) : ∀ i, i ≤ n → (utl G mode i = 0 ∨ 4503599627370496 ≤ (utl G mode i).toNat) ∧ (utl G mode i).toNat < (1024 + 2 * i) * 4503599627370496 := by
  intro i
  induction i with
  | zero => intro _; exact ⟨Or.inl rfl, by show (FP.dconst0).toNat < _; decide⟩
  | succ i ih =>
    intro hi
    obtain ⟨ha, hb⟩ := ih (by omega)
    obtain ⟨P, D, L, H, im, mo, lv, e0, e1, e2, e3, e4, e5, e6, h1, h2, h3, h4, h5, h6, h7, h8, h9, h10, h11⟩ := hG i (by omega)
    have hp := per_nI (hG i (by omega)) e0 e6
    have hP1 : P * 1 ≤ P * (lv + 1) := Nat.mul_le_mul_left _ (by omega)
    have hP2 : P * (lv + 1) ≤ 40 * 3 := Nat.mul_le_mul (by omega) (by omega)
    simp only [utl]
    split
    · rw [e2, hp]
      have hq := dq (a := L) (b := P * (lv + 1)) (by omega) (by omega) (by omega) (by omega)
      have := dsum ha hb (by omega) (by omega) hq.1 hq.2
      exact ⟨Or.inr this.1, Nat.lt_of_lt_of_le this.2 (Nat.mul_le_mul_right _ (by omega))⟩
    · split
      · exact ⟨ha, Nat.lt_of_lt_of_le hb (Nat.mul_le_mul_right _ (by omega))⟩
      · rename_i hm hh
        have hH : ¬ H = 0 := fun z => hh (by rw [e3, z]; decide)
        rw [e3, hp]
        have hq := dq (a := H) (b := P * (lv + 1)) (by omega) (by omega) (by omega) (by omega)
        have := dsum ha hb (by omega) (by omega) hq.1 hq.2
        exact ⟨Or.inr this.1, Nat.lt_of_lt_of_le this.2 (Nat.mul_le_mul_right _ (by omega))⟩
theorem utl_pn {G : vG} {n i : Nat} {mode : Int32} (hG : okG G n) (hn : n ≤ 8) (hi : i ≤ n) : pn64 (utl G mode i) := (utl_ok hG hn i hi).1.imp id (fun h => ⟨h, by have := (utl_ok (mode := mode) hG hn i hi).2; omega⟩)
theorem qlo {G : vG} {n i : Nat} (hG : okG G n) (hi : i < n) : pn64 (FP.ddiv (FP.i2d (G 2 i)) (FP.i2d (per G i))) := by
  obtain ⟨P, D, L, H, im, mo, lv, e0, e1, e2, e3, e4, e5, e6, h1, h2, h3, h4, h5, h6, h7, h8, h9, h10, h11⟩ := hG i hi
  have hp := per_nI (hG i hi) e0 e6
  have hP1 : P * 1 ≤ P * (lv + 1) := Nat.mul_le_mul_left _ (by omega)
  have hP2 : P * (lv + 1) ≤ 40 * 3 := Nat.mul_le_mul (by omega) (by omega)
  rw [e2, hp]
  have hq := dq (a := L) (b := P * (lv + 1)) (by omega) (by omega) (by omega) (by omega)
  exact Or.inr ⟨hq.1, by omega⟩
theorem qhi {G : vG} {n i : Nat} (hG : okG G n) (hi : i < n) (hh : ¬ G 3 i ≤ 0) : pn64 (FP.ddiv (FP.i2d (G 3 i)) (FP.i2d (per G i))) := by
  obtain ⟨P, D, L, H, im, mo, lv, e0, e1, e2, e3, e4, e5, e6, h1, h2, h3, h4, h5, h6, h7, h8, h9, h10, h11⟩ := hG i hi
  have hp := per_nI (hG i hi) e0 e6
  have hP1 : P * 1 ≤ P * (lv + 1) := Nat.mul_le_mul_left _ (by omega)
  have hP2 : P * (lv + 1) ≤ 40 * 3 := Nat.mul_le_mul (by omega) (by omega)
  have hH : ¬ H = 0 := fun z => hh (by rw [e3, z]; decide)
  rw [e3, hp]
  have hq := dq (a := H) (b := P * (lv + 1)) (by omega) (by omega) (by omega) (by omega)
  exact Or.inr ⟨hq.1, by omega⟩
theorem utl_agr {G G' : vG} {n : Nat} {mode : Int32} (h : agr G G' n) : ∀ i, i ≤ n → utl G mode i = utl G' mode i := by
  intro i
  induction i with
  | zero => intro _; rfl
  | succ i ih => intro hi; simp only [utl, ih (by omega), per_agr h (show i < n by omega), h 2 (by decide) i (by omega), h 3 (by decide) i (by omega)]
theorem fq_all : (List.range 201).all (fun b => (List.range (b + 1)).all (fun a => decide (b = 0) || (decide ((FP.fdiv (FP.i2f (nI a)) (FP.i2f (nI b))).toNat = 0) || decide (8388608 ≤ (FP.fdiv (FP.i2f (nI a)) (FP.i2f (nI b))).toNat)) && decide ((FP.fdiv (FP.i2f (nI a)) (FP.i2f (nI b))).toNat < 1073741824))) = true := by decide +kernel
theorem fq {a b : Nat} (h1 : 1 ≤ b) (h2 : a ≤ b) (h3 : b ≤ 200) : pn32 (FP.fdiv (FP.i2f (nI a)) (FP.i2f (nI b))) := by
  have h := List.all_eq_true.mp (List.all_eq_true.mp fq_all b (List.mem_range.mpr (by omega))) a (List.mem_range.mpr (by omega))
  simp only [Bool.or_eq_true, Bool.and_eq_true, decide_eq_true_eq] at h
  rcases h with h | ⟨h | h, h9⟩
  · omega
  · exact Or.inl (UInt32.toNat_inj.mp (by rw [h]; rfl))
  · exact Or.inr ⟨h, by omega⟩
/-- every demand is at most its interval -/
def dok (G : vG) (n : Nat) (sc mode : Int32) : Prop := ∀ t, 1 ≤ t → t ≤ 200 → ∃ d : Nat, d ≤ t ∧ tdem G n sc mode (nI t) = nI d
theorem ldq {G : vG} {n t : Nat} {sc mode : Int32} (h : dok G n sc mode) (h1 : 1 ≤ t) (h2 : t ≤ 200) : pn32 (FP.fdiv (FP.i2f (tdem G n sc mode (nI t))) (FP.i2f (nI t))) := by
  obtain ⟨d, hd, e⟩ := h t h1 h2
  rw [e]; exact fq h1 hd h2
theorem ldr_pn {G : vG} {n : Nat} {sc mode : Int32} (h : dok G n sc mode) : ∀ k t g, 1 ≤ t → t + k ≤ 201 → pn32 g → pn32 (ldr (tdem G n sc mode) k t g) := by
  intro k
  induction k with
  | zero => intro t g _ _ hg; exact hg
  | succ k ih =>
    intro t g h1 h2 hg
    simp only [ldr]
    refine ih (t + 1) _ (by omega) (by omega) ?_
    split
    · exact hg
    · exact ldq h h1 (by omega)
theorem lod_pn {G : vG} {n : Nat} {sc mode : Int32} (h : dok G n sc mode) : pn32 (lod G n sc mode) := ldr_pn h 200 1 _ (by decide) (by decide) (Or.inl rfl)

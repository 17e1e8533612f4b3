/-! PART 25: the reference, changes -/
/-- lowering the level of task i at most k times: the rows, how often -/
def lwG (n i : Nat) : Nat → vG → vG × Nat
  | 0, G => (G, 0)
  | k + 1, G => if gscale (up2 G 6 i (G 6 i - 1)) n = 0 then (G, 0) else ((lwG n i k (up2 G 6 i (G 6 i - 1))).1, (lwG n i k (up2 G 6 i (G 6 i - 1))).2 + 1)
def upS (n : Nat) (im : Int32) (i : Nat) (s : vG × Nat) : vG × Nat := if s.1 4 i = im then ((lwG n i (s.1 6 i).toNatClampNeg s.1).1, s.2 + (lwG n i (s.1 6 i).toNatClampNeg s.1).2) else s
/-- j tasks from i on -/
def upJ (n : Nat) (im : Int32) : Nat → Nat → vG × Nat → vG × Nat
  | 0, _, s => s
  | j + 1, i, s => upJ n im j (i + 1) (upS n im i s)
/-- the importances below k, from above -/
def upA (n : Nat) : Nat → vG × Nat → vG × Nat
  | 0, s => s
  | k + 1, s => upA n k (upJ n (nI k) n 0 s)
def upgr (n : Nat) (G : vG) : vG × Nat := upA n 10 (G, 0)
/-- a row of s without place r, as far as place i -/
def wd1 (S : Nat → Int32) (base r i : Nat) : Nat → Int32 := fun j => if base + r ≤ j ∧ j < base + i then S (j + 1) else S j
theorem wd1_0 (S : Nat → Int32) (base r : Nat) : wd1 S base r r = S := by funext j; simp only [wd1]; rw [if_neg (by omega)]
theorem wd1_s (S : Nat → Int32) (base r i : Nat) (h : r ≤ i) : upd (wd1 S base r i) (base + i) (wd1 S base r i (base + i + 1)) = wd1 S base r (i + 1) := by
  funext j
  simp only [upd, wd1]
  by_cases e : j = base + i
  · subst e
    rw [if_pos rfl, if_neg (by omega), if_pos (by omega)]
  · rw [if_neg e]
    by_cases h1 : base + r ≤ j ∧ j < base + i
    · rw [if_pos h1, if_pos (by omega)]
    · rw [if_neg h1, if_neg (by omega)]
/-- .. of all rows below q -/
def wdq (S : Nat → Int32) (r : Nat) : Nat → (Nat → Int32)
  | 0 => S
  | q + 1 => wd1 (wdq S r q) (2 + 8 * q) r 7
theorem wdq_low (S : Nat → Int32) (r : Nat) : ∀ q j, j < 2 → wdq S r q j = S j := by
  intro q
  induction q with
  | zero => intro j _; rfl
  | succ q ih =>
    intro j hj
    simp only [wdq, wd1]
    rw [if_neg (by omega)]
    exact ih j hj
theorem wdq_at (S : Nat → Int32) (r : Nat) (hr : r < 8) : ∀ q k j, j < 8 → wdq S r q (2 + 8 * k + j) = if k < q ∧ r ≤ j ∧ j < 7 then S (2 + 8 * k + j + 1) else S (2 + 8 * k + j) := by
  intro q
  induction q with
  | zero => intro k j _; rw [if_neg (by omega)]; rfl
  | succ q ih =>
    intro k j hj
    simp only [wdq, wd1]
    by_cases e : k = q
    · subst e
      by_cases h1 : r ≤ j ∧ j < 7
      · rw [if_pos (by omega), if_pos (by omega), show 2 + 8 * k + j + 1 = 2 + 8 * k + (j + 1) by omega, ih k (j + 1) (by omega), if_neg (by omega)]
      · rw [if_neg (by omega), if_neg (by omega), ih k j hj, if_neg (by omega)]
    · rw [if_neg (by omega), ih k j hj]
      by_cases h1 : k < q ∧ r ≤ j ∧ j < 7
      · rw [if_pos h1, if_pos (by omega)]
      · rw [if_neg h1, if_neg (by omega)]
theorem agr_wd {S : Nat → Int32} {G : vG} {n r : Nat} {x : Int32} (hn : n < 8) (hr : r ≤ n) (h : agr (Gs S) G (n + 1)) : agr (Gs (upd (wdq S r 7) 0 x)) (rmG G r (n + 1)) n := by
  intro k hk j hj
  show upd (wdq S r 7) 0 x (2 + 8 * k + j) = _
  rw [pk_un (by omega), wdq_at S r (by omega) 7 k j (by omega)]
  simp only [rmG]
  by_cases h1 : r ≤ j ∧ j + 1 < n + 1
  · rw [if_pos (by omega), if_pos h1]; exact h k hk (j + 1) (by omega)
  · rw [if_neg (by omega), if_neg h1]; exact h k hk j (by omega)
theorem okG_rm {G : vG} {n r : Nat} (h : okG G (n + 1)) : okG (rmG G r (n + 1)) n := by
  intro i hi
  by_cases h1 : r ≤ i ∧ i + 1 < n + 1
  · obtain ⟨P, D, L, H, im, mo, lv, e0, e1, e2, e3, e4, e5, e6, hr⟩ := h (i + 1) (by omega)
    refine ⟨P, D, L, H, im, mo, lv, ?_, ?_, ?_, ?_, ?_, ?_, ?_, hr⟩ <;> simp only [rmG] <;> rw [if_pos h1] <;> assumption
  · obtain ⟨P, D, L, H, im, mo, lv, e0, e1, e2, e3, e4, e5, e6, hr⟩ := h i (by omega)
    refine ⟨P, D, L, H, im, mo, lv, ?_, ?_, ?_, ?_, ?_, ?_, ?_, hr⟩ <;> simp only [rmG] <;> rw [if_neg h1] <;> assumption
/-- what a recorded change leaves: the new row S', the old one kept in the history -/
def recd (I : Nat → Int32) (R : vG) (ch : Nat) (S' : Nat → Int32) : (Nat → Int32) × vG := (upd (upd (upd I 0 0) 5 (nI (hcnt ch))) 14 0, upr (upr (upr R 1 S') 2 (cpR (R 1) (R 2) 58)) 4 (hrec (R 4) (cpR (R 1) (R 2) 58) ch))
def qApp (I : Nat → Int32) (R : vG) (L : Nat) (p0 r : Int32) (u : (Nat → Int32) × vG) : Prop :=
  (¬ inr p0 33 126 ∧ u = (upd I 0 1, R)) ∨ (inr p0 33 126 ∧ L = 30 ∧ u = (upd I 0 2, R)) ∨ (inr p0 33 126 ∧ L < 30 ∧ r = nI (L + 1) ∧ u = (upd (upd I 0 0) 8 (nI (L + 1)), upr R 7 (upd (R 7) L p0)))
def qUndo (I : Nat → Int32) (R : vG) (ch : Nat) (r : Int32) (u : (Nat → Int32) × vG) : Prop :=
  (ch = 0 ∧ u = (upd I 0 1, R)) ∨ (∃ c, ch = c + 1 ∧ r = nI c ∧ u = (upd (upd (upd I 0 0) 5 (nI c)) 14 0, upr R 1 (cpR (fun k => R 4 (58 * c + k)) (R 1) 58)))
def qRest (I : Nat → Int32) (R : vG) (ch : Nat) (r : Int32) (u : (Nat → Int32) × vG) : Prop :=
  (I 6 = 0 ∧ u = (upd I 0 1, R)) ∨ (¬ I 6 = 0 ∧ r = R 3 0 ∧ u = recd I R ch (cpR (R 3) (R 1) 58))
def qSetL (I : Nat → Int32) (R : vG) (n : Nat) (G : vG) (ch : Nat) (p0 p1 r : Int32) (u : (Nat → Int32) × vG) : Prop :=
  (cT n p0 = 1 ∧ u = (upd I 0 1, R)) ∨ (∃ i, i < n ∧ p0 = nI i ∧ ((¬ inr p1 0 (G 5 i) ∧ u = (upd I 0 2, R)) ∨
    (inr p1 0 (G 5 i) ∧ gscale (up2 G 6 i p1) n = 0 ∧ ∃ S' : Nat → Int32, u = (upd I 0 3, upr (upr R 1 S') 2 (cpR (R 1) (R 2) 58)) ∧ ∀ j, j < 58 → S' j = R 1 j) ∨
    (inr p1 0 (G 5 i) ∧ ¬ gscale (up2 G 6 i p1) n = 0 ∧ r = G 6 i ∧ ∃ S' : Nat → Int32, u = recd I R ch S' ∧ S' 0 = nI n ∧ S' 1 = nI (gscale (up2 G 6 i p1) n) ∧ agr (Gs S') (up2 G 6 i p1) n)))
def qWith (I : Nat → Int32) (R : vG) (n : Nat) (G : vG) (ch : Nat) (p0 r : Int32) (u : (Nat → Int32) × vG) : Prop :=
  (cT n p0 = 1 ∧ u = (upd I 0 1, R)) ∨ (∃ i m, n = m + 1 ∧ i < n ∧ p0 = nI i ∧ r = nI m ∧ ∃ S' : Nat → Int32, u = recd I R ch S' ∧ S' 0 = nI m ∧ S' 1 = (if gscale (rmG G i n) m = 0 then 1 else nI (gscale (rmG G i n) m)) ∧ agr (Gs S') (rmG G i n) m)
def qUpg (I : Nat → Int32) (R : vG) (n : Nat) (G : vG) (ch : Nat) (r : Int32) (u : (Nat → Int32) × vG) : Prop :=
  r = nI (upgr n G).2 ∧ ∃ S' : Nat → Int32, u = recd I R ch S' ∧ S' 0 = nI n ∧ S' 1 = (if gscale (upgr n G).1 n = 0 then 1 else nI (gscale (upgr n G).1 n)) ∧ agr (Gs S') (upgr n G).1 n
set_option maxHeartbeats 1000000 in
set_option maxRecDepth 100000 in
/-- passes -/
theorem c_X5_passes (l : Launch) (dC : Nat → ClassId) (dI : Nat → Nat → Nat) (cy : Nat → ClassId) (sz : Nat) (m0 : Nat) (a : Nat → Nat) (I : Nat → Int32) (R : vG) (n : Nat) (hn : n ≤ 8) (hS0 : R 1 0 = nI n) (hG : okG (Gs (R 1)) n) (p0 p1 : Int32) : Met l yX5_passes wsX5_passes ({ frames := 6, cells := 0, slots := 0, locals := 137 }) (va_Pc [.ref m0, .int p0, .int p1] (pIn dC dI cy (wMdl cy m0 a I R) sz)) (va_Qi (fun (r : Int32) (u : Nat → Int32) => u = upd I 0 (cPas p0 p1) ∧ (cPas p0 p1 = 0 → r = (if ffail (Gs (R 1)) n p1 p0 = 0 then 1 else 0))) (fun (u : Nat → Int32) t => va_P (dC, dI) vwCl (wMdl cy m0 a u R) t.heap ∧ va_D (va_A (wMdl cy m0 a I R) sz) (wMdl cy m0 a u R)) (va_A (wMdl cy m0 a I R) sz)) 0 0 (va_A (wMdl cy m0 a I R) sz) := by
  refine Met.ofW (cc := cX5_passes) (maxL := 5) (ret := some .boolean) (by decide) rfl ?_
  intro p e s m args below meth c s₁ B hml hv
  obtain ⟨rfl, hsz, hP, hE, hD0⟩ := hv
  have hK := hE.1
  subst hsz
  have hD := hD0.self (sz := s.heap.size)
  generalize hAe : va_A (wMdl cy m0 a I R) s.heap.size = A at hD ⊢
  have hA : ∀ q : Nat, s.heap.size ≤ q → A q := fun q h => by rw [← hAe]; exact Or.inr h
  have hS : va_S A s.heap s.heap [] := va_S.rf
  have hP : va_P (dC, dI) vwCl (wMdl cy m0 a I R) s.heap := hP
  have hx := B.exec
  have hb := B.bytes
  have hr := B.returns
  have hts := atoms_spec (ws := wsX5_passes) B.pre
  have hown : s.vm.findClass RX5 = some m.cls := findClass_of_methodNamed B.named
  have hlocks := B.notSynchronized
  have hin5 : ∀ w ∈ u_ws RX5 TX5 32, w ∈ wsX5_passes := by decide +kernel
  have f_50 := hts (.fieldLink RX5 50 "DeadlineAdmissionModel" "thrown" "I") (by decide +kernel)
  have f_9 := hts (.fieldLink RX5 9 "DeadlineAdmissionModel" "s" "[I") (by decide +kernel)
  have hl := lv_entry ([.ref m0, .int p0, .int p1]) (n := 5) (Nat.le_of_ble_eq_true rfl)
  rw [lg_entry_eq]
  generalize (lg_sl ([.ref m0, .int p0, .int p1]) ++ List.replicate (5 - (lg_sl ([.ref m0, .int p0, .int p1])).length) Slot.unset).toArray = ls at hl ⊢
  have hl : lv_has ls 5 [(0, .ref m0), (1, .int p0), (2, .int p1)] := hl
  refine lv_aload_n hx hb dX5_passes_0 rfl (lv_at hl 0 rfl) ?_
  refine lv_iload_n hx hb dX5_passes_1 rfl (lv_at hl 1 rfl) ?_
  refine lv_iconst (v := 0) hx hb dX5_passes_2 (by decide) ?_
  refine lv_iconst (v := 1) hx hb dX5_passes_3 (by decide) ?_
  refine vp_callSi (va_runS (As := [.int p0, .int 0, .int 1]) (rest := [.ref m0]) ⟨hx, hb, hml, hown, hts⟩ (c_X5_in l p0 0 1) (cwS 3 hts gX5_passes_X5_in rfl rfl rfl (by decide +kernel) ⟨Nat.le_of_ble_eq_true rfl, Nat.le_of_ble_eq_true rfl⟩) ⟨fun a U g mk q => q, fun U hU hW => ⟨rfl, trivial⟩⟩ rfl rfl hl.1 rfl (lv_room (Nat.le_of_ble_eq_true rfl)) dX5_passes_4 ⟨Nat.le_of_ble_eq_true rfl, Nat.le_of_ble_eq_true rfl⟩).run (fun r e_r => ?_)
  subst e_r
  refine lv_if_eq (tgt := 24) hx hb dX5_passes_7 (by decide) (fun c_7 => ?_) (fun c_7 => ?_)
  · refine lv_iconst (v := 1) hx hb dX5_passes_24 (by decide) ?_
    refine va_put (D := (dC, dI)) (ci := 5) (v := .int 1) (ty := .int) (C := RX5) (T := TX5) (N := 32) hx hb hts hin5 tyX5 tyX5_ok nmX5 hown hK hP hD hS 0 rfl rfl 0 (by decide) f_50 (fun _ h9 => h9) rfl (by decide +kernel) rfl rfl (Nat.le_of_ble_eq_true rfl) dX5_passes_25 (fun H locs hP hD hS => ?_)
    have hP : va_P (dC, dI) vwCl (wMdl cy m0 a (upd I 0 1) R) H := hP
    have hD : va_D A (wMdl cy m0 a (upd I 0 1) R) := hD
    refine lv_aload_n hx hb dX5_passes_28 rfl (lv_at hl 0 rfl) ?_
    refine va_get (D := (dC, dI)) (ci := 5) (v := .int 1) (C := RX5) (T := TX5) (N := 32) hx hb hts hin5 hown hK hP 0 rfl rfl 0 (by decide) f_50 (fun _ h9 => h9) rfl dX5_passes_29 ?_
    refine lv_iconst (v := 1) hx hb dX5_passes_32 (by decide) ?_
    refine lv_icmp_ne (tgt := 38) hx hb dX5_passes_33 (by decide) (fun h0 => absurd h0 (by decide)) (fun _ => ?_)
    refine lv_iconst (v := 0) hx hb dX5_passes_36 (by decide) ?_
    have hP9 : va_P (dC, dI) vwCl (wMdl cy m0 a (upd I 0 1) R) H := hP
    have hD9 : va_D A (wMdl cy m0 a (upd I 0 1) R) := hD
    exact W.zret (v := 0) hx hb hr (by decide) (fun t ht hW => ⟨⟨0, (upd I 0 1), rfl, (by have e9 : cPas p0 p1 = 1 := if_neg (fun h => absurd ((cM_no (mode_no (b10.mp c_7))).symm.trans h.1) (by decide)); exact ⟨by rw [e9], fun h => absurd (e9.symm.trans h) (by decide)⟩), by rw [ht]; exact hP9, hD9⟩, hS.F ht⟩) hS.2.2 dX5_passes_37
  · refine lv_iload_n hx hb dX5_passes_10 rfl (lv_at hl 2 rfl) ?_
    refine lv_iconst (v := 1) hx hb dX5_passes_11 (by decide) ?_
    refine lv_bipush (v := 8) hx hb dX5_passes_12 (by decide) ?_
    refine vp_callSi (va_runS (As := [.int p1, .int 1, .int 8]) (rest := [.ref m0]) ⟨hx, hb, hml, hown, hts⟩ (c_X5_in l p1 1 8) (cwS 3 hts gX5_passes_X5_in rfl rfl rfl (by decide +kernel) ⟨Nat.le_of_ble_eq_true rfl, Nat.le_of_ble_eq_true rfl⟩) ⟨fun a U g mk q => q, fun U hU hW => ⟨rfl, trivial⟩⟩ rfl rfl hl.1 rfl (lv_room (Nat.le_of_ble_eq_true rfl)) dX5_passes_14 ⟨Nat.le_of_ble_eq_true rfl, Nat.le_of_ble_eq_true rfl⟩).run (fun r e_r => ?_)
    subst e_r
    refine lv_if_eq (tgt := 24) hx hb dX5_passes_17 (by decide) (fun c_17 => ?_) (fun c_17 => ?_)
    · refine lv_iconst (v := 1) hx hb dX5_passes_24 (by decide) ?_
      refine va_put (D := (dC, dI)) (ci := 5) (v := .int 1) (ty := .int) (C := RX5) (T := TX5) (N := 32) hx hb hts hin5 tyX5 tyX5_ok nmX5 hown hK hP hD hS 0 rfl rfl 0 (by decide) f_50 (fun _ h9 => h9) rfl (by decide +kernel) rfl rfl (Nat.le_of_ble_eq_true rfl) dX5_passes_25 (fun H locs hP hD hS => ?_)
      have hP : va_P (dC, dI) vwCl (wMdl cy m0 a (upd I 0 1) R) H := hP
      have hD : va_D A (wMdl cy m0 a (upd I 0 1) R) := hD
      refine lv_aload_n hx hb dX5_passes_28 rfl (lv_at hl 0 rfl) ?_
      refine va_get (D := (dC, dI)) (ci := 5) (v := .int 1) (C := RX5) (T := TX5) (N := 32) hx hb hts hin5 hown hK hP 0 rfl rfl 0 (by decide) f_50 (fun _ h9 => h9) rfl dX5_passes_29 ?_
      refine lv_iconst (v := 1) hx hb dX5_passes_32 (by decide) ?_
      refine lv_icmp_ne (tgt := 38) hx hb dX5_passes_33 (by decide) (fun h0 => absurd h0 (by decide)) (fun _ => ?_)
      refine lv_iconst (v := 0) hx hb dX5_passes_36 (by decide) ?_
      have hP9 : va_P (dC, dI) vwCl (wMdl cy m0 a (upd I 0 1) R) H := hP
      have hD9 : va_D A (wMdl cy m0 a (upd I 0 1) R) := hD
      exact W.zret (v := 0) hx hb hr (by decide) (fun t ht hW => ⟨⟨0, (upd I 0 1), rfl, (by have e9 : cPas p0 p1 = 1 := if_neg (fun h => b10.mp c_17 h.2); exact ⟨by rw [e9], fun h => absurd (e9.symm.trans h) (by decide)⟩), by rw [ht]; exact hP9, hD9⟩, hS.F ht⟩) hS.2.2 dX5_passes_37
    · refine lv_iconst (v := 0) hx hb dX5_passes_20 (by decide) ?_
      refine lv_goto (tgt := 25) hx hb dX5_passes_21 (by decide) ?_
      refine va_put (D := (dC, dI)) (ci := 5) (v := .int 0) (ty := .int) (C := RX5) (T := TX5) (N := 32) hx hb hts hin5 tyX5 tyX5_ok nmX5 hown hK hP hD hS 0 rfl rfl 0 (by decide) f_50 (fun _ h9 => h9) rfl (by decide +kernel) rfl rfl (Nat.le_of_ble_eq_true rfl) dX5_passes_25 (fun H locs hP hD hS => ?_)
      have hP : va_P (dC, dI) vwCl (wMdl cy m0 a (upd I 0 0) R) H := hP
      have hD : va_D A (wMdl cy m0 a (upd I 0 0) R) := hD
      refine lv_aload_n hx hb dX5_passes_28 rfl (lv_at hl 0 rfl) ?_
      refine va_get (D := (dC, dI)) (ci := 5) (v := .int 0) (C := RX5) (T := TX5) (N := 32) hx hb hts hin5 hown hK hP 0 rfl rfl 0 (by decide) f_50 (fun _ h9 => h9) rfl dX5_passes_29 ?_
      refine lv_iconst (v := 1) hx hb dX5_passes_32 (by decide) ?_
      refine lv_icmp_ne (tgt := 38) hx hb dX5_passes_33 (by decide) (fun _ => ?_) (fun h0 => absurd h0 (by decide))
      refine lv_aload_n hx hb dX5_passes_38 rfl (lv_at hl 0 rfl) ?_
      refine va_get (D := (dC, dI)) (ci := 5) (v := .ref (a 1)) (C := RX5) (T := TX5) (N := 32) hx hb hts hin5 hown hK hP 0 rfl rfl 1 (by decide) f_9 (fun _ h9 => h9) rfl dX5_passes_39 ?_
      refine lv_iconst (v := 1) hx hb dX5_passes_42 (by decide) ?_
      refine wI_alv (v := R 1 1) hx hb hK hP 1 0 rfl rfl 1 rfl (by omega) (by decide) rfl dX5_passes_43 ?_
      refine lv_istore_n (lv' := [(3, .int (R 1 1)), (0, .ref m0), (1, .int p0), (2, .int p1)]) hx hb dX5_passes_44 rfl hl (by decide) rfl (fun ls hl => ?_)
      refine lv_aload_n hx hb dX5_passes_45 rfl (lv_at hl 1 rfl) ?_
      refine va_get (D := (dC, dI)) (ci := 5) (v := .ref (a 1)) (C := RX5) (T := TX5) (N := 32) hx hb hts hin5 hown hK hP 0 rfl rfl 1 (by decide) f_9 (fun _ h9 => h9) rfl dX5_passes_46 ?_
      refine lv_iconst (v := 1) hx hb dX5_passes_49 (by decide) ?_
      refine lv_iload_n hx hb dX5_passes_50 rfl (lv_at hl 3 rfl) ?_
      refine wI_ast hx hb hK hP hD hS 1 0 rfl rfl 1 rfl (by omega) (by decide) dX5_passes_51 (fun H locs hP hD hS => ?_)
      have hP : va_P (dC, dI) vwCl (wMdl cy m0 a (upd I 0 0) (upr R 1 (upd (R 1) 1 p1))) H := hP
      have hD : va_D A (wMdl cy m0 a (upd I 0 0) (upr R 1 (upd (R 1) 1 p1))) := hD
      refine lv_aload_n hx hb dX5_passes_52 rfl (lv_at hl 1 rfl) ?_
      refine lv_iload_n hx hb dX5_passes_53 rfl (lv_at hl 2 rfl) ?_
      refine vp_callSi (va_runV (As := [.int p0]) (rest := []) ⟨hx, hb, hml, hown, hts⟩ (c_X5_isPassing l dC dI cy m0 a (upd I 0 0) (upr R 1 (upd (R 1) 1 p1)) n hn hS0 (show okG (Gs (upd (R 1) 1 p1)) n from by rw [Gs_upd1]; exact hG) p0 (mode_of (nb10 c_7))) (cwV 1 hts gX5_passes_X5_isPassing rfl rfl rfl (by decide +kernel) ⟨Nat.le_of_ble_eq_true rfl, Nat.le_of_ble_eq_true rfl⟩) ⟨bl_ro, va_recv hK hP (ci := 5) (q0 := 0) rfl rfl, pr_ro hP hE⟩ rfl rfl hl.1 rfl (lv_room (Nat.le_of_ble_eq_true rfl)) dX5_passes_54 ⟨Nat.le_of_ble_eq_true rfl, Nat.le_of_ble_eq_true rfl⟩).run (fun r e_r => ?_)
      subst e_r
      refine lv_topi (fun y_ ey_ => ?_)
      obtain rfl : y_ = if ffail (Gs (upd (R 1) 1 p1)) n ((upd (R 1) 1 p1) 1) p0 = 0 then 1 else 0 := ey_
      refine lv_topi (fun y_ ey_ => ?_)
      obtain rfl : y_ = if ffail (Gs (R 1)) n p1 p0 = 0 then 1 else 0 := ey_.trans (by rw [Gs_upd1, pk_us])
      refine lv_istore (lv' := [(4, .int (if ffail (Gs (R 1)) n p1 p0 = 0 then 1 else 0)), (3, .int (R 1 1)), (0, .ref m0), (1, .int p0), (2, .int p1)]) hx hb dX5_passes_57 hl (by decide) rfl (fun ls hl => ?_)
      refine lv_aload_n hx hb dX5_passes_59 rfl (lv_at hl 2 rfl) ?_
      refine va_get (D := (dC, dI)) (ci := 5) (v := .ref (a 1)) (C := RX5) (T := TX5) (N := 32) hx hb hts hin5 hown hK hP 0 rfl rfl 1 (by decide) f_9 (fun _ h9 => h9) rfl dX5_passes_60 ?_
      refine lv_iconst (v := 1) hx hb dX5_passes_63 (by decide) ?_
      refine lv_iload_n hx hb dX5_passes_64 rfl (lv_at hl 1 rfl) ?_
      refine wI_ast hx hb hK hP hD hS 1 0 rfl rfl 1 rfl (by omega) (by decide) dX5_passes_65 (fun H locs hP hD hS => ?_)
      have hP : va_P (dC, dI) vwCl (wMdl cy m0 a (upd I 0 0) (upr R 1 (upd (upd (R 1) 1 p1) 1 (R 1 1)))) H := hP
      have hD : va_D A (wMdl cy m0 a (upd I 0 0) (upr R 1 (upd (upd (R 1) 1 p1) 1 (R 1 1)))) := hD
      refine lv_iload hx hb dX5_passes_66 (lv_at hl 0 rfl) ?_
      have hP9 : va_P (dC, dI) vwCl (wMdl cy m0 a (upd I 0 0) R) H := (by rw [upd_upd, upd_self] at hP; exact hP)
      have hD9 : va_D A (wMdl cy m0 a (upd I 0 0) R) := (by rw [upd_upd, upd_self] at hD; exact hD)
      exact W.zret (v := if ffail (Gs (R 1)) n p1 p0 = 0 then 1 else 0) hx hb hr (by split <;> rfl) (fun t ht hW => ⟨⟨if ffail (Gs (R 1)) n p1 p0 = 0 then 1 else 0, (upd I 0 0), rfl, (by have e9 : cPas p0 p1 = 0 := if_pos ⟨cM_ok (mode_of (nb10 c_7)), nb10 c_17⟩; exact ⟨by rw [e9], fun _ => rfl⟩), by rw [ht]; exact hP9, hD9⟩, hS.F ht⟩) hS.2.2 dX5_passes_68
set_option maxHeartbeats 1000000 in
set_option maxRecDepth 100000 in
/-- feasibleScales -/
theorem c_X5_feasibleScales (l : Launch) (dC : Nat → ClassId) (dI : Nat → Nat → Nat) (cy : Nat → ClassId) (sz : Nat) (m0 : Nat) (a : Nat → Nat) (I : Nat → Int32) (R : vG) (n : Nat) (hn : n ≤ 8) (hS0 : R 1 0 = nI n) (hG : okG (Gs (R 1)) n) : Met l yX5_feasibleScales wsX5_feasibleScales ({ frames := 6, cells := 0, slots := 0, locals := 137 }) (va_Pc [.ref m0] (pIn dC dI cy (wMdl cy m0 a I R) sz)) (va_Qi (fun (r : Int32) (u : Nat → Int32) => u = upd I 0 0 ∧ r = fsc (Gs (R 1)) n) (fun (u : Nat → Int32) t => va_P (dC, dI) vwCl (wMdl cy m0 a u R) t.heap ∧ va_D (va_A (wMdl cy m0 a I R) sz) (wMdl cy m0 a u R)) (va_A (wMdl cy m0 a I R) sz)) 0 0 (va_A (wMdl cy m0 a I R) sz) := by
  refine Met.ofW (cc := cX5_feasibleScales) (maxL := 4) (ret := some .int) (by decide) rfl ?_
  intro p e s m args below meth c s₁ B hml hv
  obtain ⟨rfl, hsz, hP, hE, hD0⟩ := hv
  have hK := hE.1
  subst hsz
  have hD := hD0.self (sz := s.heap.size)
  generalize hAe : va_A (wMdl cy m0 a I R) s.heap.size = A at hD ⊢
  have hA : ∀ q : Nat, s.heap.size ≤ q → A q := fun q h => by rw [← hAe]; exact Or.inr h
  have hS : va_S A s.heap s.heap [] := va_S.rf
  have hP : va_P (dC, dI) vwCl (wMdl cy m0 a I R) s.heap := hP
  have hx := B.exec
  have hb := B.bytes
  have hr := B.returns
  have hts := atoms_spec (ws := wsX5_feasibleScales) B.pre
  have hown : s.vm.findClass RX5 = some m.cls := findClass_of_methodNamed B.named
  have hlocks := B.notSynchronized
  have hin5 : ∀ w ∈ u_ws RX5 TX5 32, w ∈ wsX5_feasibleScales := by decide +kernel
  have f_50 := hts (.fieldLink RX5 50 "DeadlineAdmissionModel" "thrown" "I") (by decide +kernel)
  have f_9 := hts (.fieldLink RX5 9 "DeadlineAdmissionModel" "s" "[I") (by decide +kernel)
  have hl := lv_entry ([.ref m0]) (n := 4) (Nat.le_of_ble_eq_true rfl)
  rw [lg_entry_eq]
  generalize (lg_sl ([.ref m0]) ++ List.replicate (4 - (lg_sl ([.ref m0])).length) Slot.unset).toArray = ls at hl ⊢
  have hl : lv_has ls 4 [(0, .ref m0)] := hl
  refine lv_aload_n hx hb dX5_feasibleScales_0 rfl (lv_at hl 0 rfl) ?_
  refine lv_iconst (v := 0) hx hb dX5_feasibleScales_1 (by decide) ?_
  refine va_put (D := (dC, dI)) (ci := 5) (v := .int 0) (ty := .int) (C := RX5) (T := TX5) (N := 32) hx hb hts hin5 tyX5 tyX5_ok nmX5 hown hK hP hD hS 0 rfl rfl 0 (by decide) f_50 (fun _ h9 => h9) rfl (by decide +kernel) rfl rfl (Nat.le_of_ble_eq_true rfl) dX5_feasibleScales_2 (fun H locs hP hD hS => ?_)
  have hP : va_P (dC, dI) vwCl (wMdl cy m0 a (upd I 0 0) R) H := hP
  have hD : va_D A (wMdl cy m0 a (upd I 0 0) R) := hD
  refine lv_aload_n hx hb dX5_feasibleScales_5 rfl (lv_at hl 0 rfl) ?_
  refine va_get (D := (dC, dI)) (ci := 5) (v := .ref (a 1)) (C := RX5) (T := TX5) (N := 32) hx hb hts hin5 hown hK hP 0 rfl rfl 1 (by decide) f_9 (fun _ h9 => h9) rfl dX5_feasibleScales_6 ?_
  refine lv_iconst (v := 1) hx hb dX5_feasibleScales_9 (by decide) ?_
  refine wI_alv (v := R 1 1) hx hb hK hP 1 0 rfl rfl 1 rfl (by omega) (by decide) rfl dX5_feasibleScales_10 ?_
  refine lv_istore_n (lv' := [(1, .int (R 1 1)), (0, .ref m0)]) hx hb dX5_feasibleScales_11 rfl hl (by decide) rfl (fun ls hl => ?_)
  refine lv_iconst (v := 0) hx hb dX5_feasibleScales_12 (by decide) ?_
  refine lv_istore_n (lv' := [(2, .int 0), (1, .int (R 1 1)), (0, .ref m0)]) hx hb dX5_feasibleScales_13 rfl hl (by decide) rfl (fun ls hl => ?_)
  refine lv_iconst (v := 1) hx hb dX5_feasibleScales_14 (by decide) ?_
  refine lv_istore_n (lv' := [(3, .int 1), (2, .int 0), (1, .int (R 1 1)), (0, .ref m0)]) hx hb dX5_feasibleScales_15 rfl hl (by decide) rfl (fun ls hl => ?_)
  have loop16 : ∀ (k : Nat) (j : Nat) (t : Nat) (y : Int32) (se : Int32) (ls : Array Slot), t + j = 9 → j < k → fsr (Gs (R 1)) n j t se = fsc (Gs (R 1)) n → ∀ (H : Heap) (locs : List Loc), va_P (dC, dI) vwCl (wMdl cy m0 a (upd I 0 0) (upr R 1 (upd (R 1) 1 y))) H → va_D A (wMdl cy m0 a (upd I 0 0) (upr R 1 (upd (R 1) 1 y))) → va_S A s.heap H locs → lv_has ls 4 [(0, .ref m0), (1, .int (R 1 1)), (2, .int se), (3, .int (nI t))] → W p l e (headSpec wsX5_feasibleScales ({ frames := 6, cells := 0, slots := 0, locals := 137 }) |>.room) s m (([.ref m0].toArray)) below meth c H locs 0 0 (MQ below (va_Qi (fun (r : Int32) (u : Nat → Int32) => u = upd I 0 0 ∧ r = fsc (Gs (R 1)) n) (fun (u : Nat → Int32) t => va_P (dC, dI) vwCl (wMdl cy m0 a u R) t.heap ∧ va_D (A) (wMdl cy m0 a u R)) (A)) ([.ref m0].toArray) s 0 0 A) (F0 m 16 ls []) := by
    intro k
    induction k with
    | zero =>
      intro j t y se ls hi hk ef
      exfalso; omega
    | succ k ih16 =>
      intro j t y se ls hi hk ef H locs hP hD hS hl
      refine lv_iload_n hx hb dX5_feasibleScales_16 rfl (lv_at hl 3 rfl) ?_
      refine lv_bipush (v := 8) hx hb dX5_feasibleScales_17 (by decide) ?_
      refine lv_icmp_gt (tgt := 61) hx hb dX5_feasibleScales_19 (by decide) (fun c_19 => ?_) (fun c_19 => ?_)
      · have e_j : j = 0 := by have := (nI_ltI (a := 8) (b := t) (by omega) (by omega)).mp c_19; omega
        refine lv_aload_n hx hb dX5_feasibleScales_61 rfl (lv_at hl 0 rfl) ?_
        refine va_get (D := (dC, dI)) (ci := 5) (v := .ref (a 1)) (C := RX5) (T := TX5) (N := 32) hx hb hts hin5 hown hK hP 0 rfl rfl 1 (by decide) f_9 (fun _ h9 => h9) rfl dX5_feasibleScales_62 ?_
        refine lv_iconst (v := 1) hx hb dX5_feasibleScales_65 (by decide) ?_
        refine lv_iload_n hx hb dX5_feasibleScales_66 rfl (lv_at hl 1 rfl) ?_
        refine wI_ast hx hb hK hP hD hS 1 0 rfl rfl 1 rfl (by omega) (by decide) dX5_feasibleScales_67 (fun H locs hP hD hS => ?_)
        have hP : va_P (dC, dI) vwCl (wMdl cy m0 a (upd I 0 0) (upr R 1 (upd (upd (R 1) 1 y) 1 (R 1 1)))) H := hP
        have hD : va_D A (wMdl cy m0 a (upd I 0 0) (upr R 1 (upd (upd (R 1) 1 y) 1 (R 1 1)))) := hD
        rw [upd_upd] at hP hD
        have hP : va_P (dC, dI) vwCl (wMdl cy m0 a (upd I 0 0) (upr R 1 (upd (R 1) 1 (R 1 1)))) H := hP
        have hD : va_D A (wMdl cy m0 a (upd I 0 0) (upr R 1 (upd (R 1) 1 (R 1 1)))) := hD
        refine lv_iload_n hx hb dX5_feasibleScales_68 rfl (lv_at hl 2 rfl) ?_
        have hP9 : va_P (dC, dI) vwCl (wMdl cy m0 a (upd I 0 0) R) H := (by rw [upd_self] at hP; exact hP)
        have hD9 : va_D A (wMdl cy m0 a (upd I 0 0) R) := (by rw [upd_self] at hD; exact hD)
        exact W.iret (v := se) hx hb hr (fun t ht hW => ⟨⟨se, (upd I 0 0), rfl, ⟨rfl, by rw [← ef, e_j]; rfl⟩, by rw [ht]; exact hP9, hD9⟩, hS.F ht⟩) hS.2.2 dX5_feasibleScales_69
      · obtain ⟨j, rfl⟩ : ∃ z, j = z + 1 := ⟨j - 1, by have h : ¬ (8 < t) := fun h => c_19 ((nI_ltI (a := 8) (b := t) (by omega) (by omega)).mpr h); omega⟩
        refine lv_aload_n hx hb dX5_feasibleScales_22 rfl (lv_at hl 0 rfl) ?_
        refine va_get (D := (dC, dI)) (ci := 5) (v := .ref (a 1)) (C := RX5) (T := TX5) (N := 32) hx hb hts hin5 hown hK hP 0 rfl rfl 1 (by decide) f_9 (fun _ h9 => h9) rfl dX5_feasibleScales_23 ?_
        refine lv_iconst (v := 1) hx hb dX5_feasibleScales_26 (by decide) ?_
        refine lv_iload_n hx hb dX5_feasibleScales_27 rfl (lv_at hl 3 rfl) ?_
        refine wI_ast hx hb hK hP hD hS 1 0 rfl rfl 1 rfl (by omega) (by decide) dX5_feasibleScales_28 (fun H locs hP hD hS => ?_)
        have hP : va_P (dC, dI) vwCl (wMdl cy m0 a (upd I 0 0) (upr R 1 (upd (upd (R 1) 1 y) 1 (nI t)))) H := hP
        have hD : va_D A (wMdl cy m0 a (upd I 0 0) (upr R 1 (upd (upd (R 1) 1 y) 1 (nI t)))) := hD
        rw [upd_upd] at hP hD
        have hP : va_P (dC, dI) vwCl (wMdl cy m0 a (upd I 0 0) (upr R 1 (upd (R 1) 1 (nI t)))) H := hP
        have hD : va_D A (wMdl cy m0 a (upd I 0 0) (upr R 1 (upd (R 1) 1 (nI t)))) := hD
        refine lv_iload_n hx hb dX5_feasibleScales_29 rfl (lv_at hl 2 rfl) ?_
        refine lv_aload_n hx hb dX5_feasibleScales_30 rfl (lv_at hl 0 rfl) ?_
        refine lv_iconst (v := 0) hx hb dX5_feasibleScales_31 (by decide) ?_
        refine vp_callSi (va_runV (As := [.int 0]) (rest := [.int se]) ⟨hx, hb, hml, hown, hts⟩ (c_X5_isPassing l dC dI cy m0 a (upd I 0 0) (upr R 1 (upd (R 1) 1 (nI t))) n hn hS0 (show okG (Gs (upd (R 1) 1 (nI t))) n from by rw [Gs_upd1]; exact hG) 0 (Or.inl rfl)) (cwV 1 hts gX5_feasibleScales_X5_isPassing rfl rfl rfl (by decide +kernel) ⟨Nat.le_of_ble_eq_true rfl, Nat.le_of_ble_eq_true rfl⟩) ⟨bl_ro, va_recv hK hP (ci := 5) (q0 := 0) rfl rfl, pr_ro hP hE⟩ rfl rfl hl.1 rfl (lv_room (Nat.le_of_ble_eq_true rfl)) dX5_feasibleScales_32 ⟨Nat.le_of_ble_eq_true rfl, Nat.le_of_ble_eq_true rfl⟩).run (fun r e_r => ?_)
        subst e_r
        refine lv_topi (fun y_ ey_ => ?_)
        obtain rfl : y_ = if ffail (Gs (upd (R 1) 1 (nI t))) n ((upd (R 1) 1 (nI t)) 1) 0 = 0 then 1 else 0 := ey_
        refine lv_if_eq (tgt := 52) hx hb dX5_feasibleScales_35 (by decide) (fun c_35 => ?_) (fun c_35 => ?_)
        · have g1 : ¬ ffail (Gs (R 1)) n (nI t) 0 = 0 := by have h := b10.mp c_35; rw [Gs_upd1] at h; exact h
          refine lv_iconst (v := 0) hx hb dX5_feasibleScales_52 (by decide) ?_
          refine lv_ior hx hb dX5_feasibleScales_53 ?_
          refine lv_istore_n (lv' := [(2, .int (se ||| 0)), (0, .ref m0), (1, .int (R 1 1)), (3, .int (nI t))]) hx hb dX5_feasibleScales_54 rfl hl (by decide) rfl (fun ls hl => ?_)
          refine lv_iinc (v := nI (t + 1)) (lv' := [(3, .int (nI (t + 1))), (2, .int (se ||| 0)), (0, .ref m0), (1, .int (R 1 1))]) hx hb dX5_feasibleScales_55 hl (k := 3) rfl (nI_1 _) (by decide) rfl (fun ls hl => ?_)
          refine lv_goto (tgt := 16) hx hb dX5_feasibleScales_58 (by decide) ?_
          exact ih16 j (t + 1) _ _ ls (by omega) (by omega) (by rw [← ef, fsr, if_neg (fun h => g1 h.1), Int32.or_zero]) _ _ hP hD hS (lv_sub hl [2, 3, 1, 0] rfl)
        · have g1 : ffail (Gs (R 1)) n (nI t) 0 = 0 := by have h := nb10 c_35; rw [Gs_upd1] at h; exact h
          refine lv_aload_n hx hb dX5_feasibleScales_38 rfl (lv_at hl 0 rfl) ?_
          refine lv_iconst (v := 1) hx hb dX5_feasibleScales_39 (by decide) ?_
          refine vp_callSi (va_runV (As := [.int 1]) (rest := [.int se]) ⟨hx, hb, hml, hown, hts⟩ (c_X5_isPassing l dC dI cy m0 a (upd I 0 0) (upr R 1 (upd (R 1) 1 (nI t))) n hn hS0 (show okG (Gs (upd (R 1) 1 (nI t))) n from by rw [Gs_upd1]; exact hG) 1 (Or.inr rfl)) (cwV 1 hts gX5_feasibleScales_X5_isPassing rfl rfl rfl (by decide +kernel) ⟨Nat.le_of_ble_eq_true rfl, Nat.le_of_ble_eq_true rfl⟩) ⟨bl_ro, va_recv hK hP (ci := 5) (q0 := 0) rfl rfl, pr_ro hP hE⟩ rfl rfl hl.1 rfl (lv_room (Nat.le_of_ble_eq_true rfl)) dX5_feasibleScales_40 ⟨Nat.le_of_ble_eq_true rfl, Nat.le_of_ble_eq_true rfl⟩).run (fun r e_r => ?_)
          subst e_r
          refine lv_topi (fun y_ ey_ => ?_)
          obtain rfl : y_ = if ffail (Gs (upd (R 1) 1 (nI t))) n ((upd (R 1) 1 (nI t)) 1) 1 = 0 then 1 else 0 := ey_
          refine lv_if_eq (tgt := 52) hx hb dX5_feasibleScales_43 (by decide) (fun c_43 => ?_) (fun c_43 => ?_)
          · have g2 : ¬ ffail (Gs (R 1)) n (nI t) 1 = 0 := by have h := b10.mp c_43; rw [Gs_upd1] at h; exact h
            refine lv_iconst (v := 0) hx hb dX5_feasibleScales_52 (by decide) ?_
            refine lv_ior hx hb dX5_feasibleScales_53 ?_
            refine lv_istore_n (lv' := [(2, .int (se ||| 0)), (0, .ref m0), (1, .int (R 1 1)), (3, .int (nI t))]) hx hb dX5_feasibleScales_54 rfl hl (by decide) rfl (fun ls hl => ?_)
            refine lv_iinc (v := nI (t + 1)) (lv' := [(3, .int (nI (t + 1))), (2, .int (se ||| 0)), (0, .ref m0), (1, .int (R 1 1))]) hx hb dX5_feasibleScales_55 hl (k := 3) rfl (nI_1 _) (by decide) rfl (fun ls hl => ?_)
            refine lv_goto (tgt := 16) hx hb dX5_feasibleScales_58 (by decide) ?_
            exact ih16 j (t + 1) _ _ ls (by omega) (by omega) (by rw [← ef, fsr, if_neg (fun h => g2 h.2), Int32.or_zero]) _ _ hP hD hS (lv_sub hl [2, 3, 1, 0] rfl)
          · have g2 : ffail (Gs (R 1)) n (nI t) 1 = 0 := by have h := nb10 c_43; rw [Gs_upd1] at h; exact h
            refine lv_iconst (v := 1) hx hb dX5_feasibleScales_46 (by decide) ?_
            refine lv_iload_n hx hb dX5_feasibleScales_47 rfl (lv_at hl 3 rfl) ?_
            refine lv_ishl hx hb dX5_feasibleScales_48 ?_
            refine lv_goto (tgt := 53) hx hb dX5_feasibleScales_49 (by decide) ?_
            refine lv_ior hx hb dX5_feasibleScales_53 ?_
            refine lv_istore_n (lv' := [(2, .int (se ||| (1 <<< ((nI t) &&& 31)))), (0, .ref m0), (1, .int (R 1 1)), (3, .int (nI t))]) hx hb dX5_feasibleScales_54 rfl hl (by decide) rfl (fun ls hl => ?_)
            refine lv_iinc (v := nI (t + 1)) (lv' := [(3, .int (nI (t + 1))), (2, .int (se ||| (1 <<< ((nI t) &&& 31)))), (0, .ref m0), (1, .int (R 1 1))]) hx hb dX5_feasibleScales_55 hl (k := 3) rfl (nI_1 _) (by decide) rfl (fun ls hl => ?_)
            refine lv_goto (tgt := 16) hx hb dX5_feasibleScales_58 (by decide) ?_
            exact ih16 j (t + 1) _ _ ls (by omega) (by omega) (by rw [← ef, fsr, if_pos ⟨g1, g2⟩]) _ _ hP hD hS (lv_sub hl [2, 3, 1, 0] rfl)
  exact loop16 9 8 1 (R 1 1) 0 ls rfl (by omega) rfl _ _ (by rw [upd_self]; exact hP) (by rw [upd_self]; exact hD) hS (lv_sub hl [3, 2, 1, 0] rfl)
set_option maxHeartbeats 1000000 in
set_option maxRecDepth 100000 in
/-- a character is appended -/
theorem c_X5_appendCharacter (l : Launch) (dC : Nat → ClassId) (dI : Nat → Nat → Nat) (cy : Nat → ClassId) (sz : Nat) (m0 : Nat) (a : Nat → Nat) (I : Nat → Int32) (R : vG) (L : Nat) (hL : L ≤ 30) (hI8 : I 8 = nI L) (p0 : Int32) : Met l yX5_appendCharacter wsX5_appendCharacter ({ frames := 1, cells := 0, slots := 0, locals := 22 }) (va_Pc [.ref m0, .int p0] (pIn dC dI cy (wMdl cy m0 a I R) sz)) (va_Qi (fun (r : Int32) u => qApp I R L p0 r u) (fun (u : (Nat → Int32) × vG) t => va_P (dC, dI) vwCl (wMdl cy m0 a u.1 u.2) t.heap ∧ va_D (va_A (wMdl cy m0 a I R) sz) (wMdl cy m0 a u.1 u.2)) (va_A (wMdl cy m0 a I R) sz)) 0 0 (va_A (wMdl cy m0 a I R) sz) := by
  refine Met.ofW (cc := cX5_appendCharacter) (maxL := 2) (ret := some .int) (by decide) rfl ?_
  intro p e s m args below meth c s₁ B hml hv
  obtain ⟨rfl, hsz, hP, hE, hD0⟩ := hv
  have hK := hE.1
  subst hsz
  have hD := hD0.self (sz := s.heap.size)
  generalize hAe : va_A (wMdl cy m0 a I R) s.heap.size = A at hD ⊢
  have hA : ∀ q : Nat, s.heap.size ≤ q → A q := fun q h => by rw [← hAe]; exact Or.inr h
  have hS : va_S A s.heap s.heap [] := va_S.rf
  have hP : va_P (dC, dI) vwCl (wMdl cy m0 a I R) s.heap := hP
  have hx := B.exec
  have hb := B.bytes
  have hr := B.returns
  have hts := atoms_spec (ws := wsX5_appendCharacter) B.pre
  have hown : s.vm.findClass RX5 = some m.cls := findClass_of_methodNamed B.named
  have hlocks := B.notSynchronized
  have hin5 : ∀ w ∈ u_ws RX5 TX5 32, w ∈ wsX5_appendCharacter := by decide +kernel
  have f_130 := hts (.fieldLink RX5 130 "DeadlineAdmissionModel" "length" "I") (by decide +kernel)
  have f_22 := hts (.fieldLink RX5 22 "DeadlineAdmissionModel" "text" "[I") (by decide +kernel)
  have f_50 := hts (.fieldLink RX5 50 "DeadlineAdmissionModel" "thrown" "I") (by decide +kernel)
  have hl := lv_entry ([.ref m0, .int p0]) (n := 2) (Nat.le_of_ble_eq_true rfl)
  rw [lg_entry_eq]
  generalize (lg_sl ([.ref m0, .int p0]) ++ List.replicate (2 - (lg_sl ([.ref m0, .int p0])).length) Slot.unset).toArray = ls at hl ⊢
  have hl : lv_has ls 2 [(0, .ref m0), (1, .int p0)] := hl
  refine lv_aload_n hx hb dX5_appendCharacter_0 rfl (lv_at hl 0 rfl) ?_
  refine lv_iconst (v := 0) hx hb dX5_appendCharacter_1 (by decide) ?_
  refine va_put (D := (dC, dI)) (ci := 5) (v := .int 0) (ty := .int) (C := RX5) (T := TX5) (N := 32) hx hb hts hin5 tyX5 tyX5_ok nmX5 hown hK hP hD hS 0 rfl rfl 0 (by decide) f_50 (fun _ h9 => h9) rfl (by decide +kernel) rfl rfl (Nat.le_of_ble_eq_true rfl) dX5_appendCharacter_2 (fun H locs hP hD hS => ?_)
  have hP : va_P (dC, dI) vwCl (wMdl cy m0 a (upd I 0 0) R) H := hP
  have hD : va_D A (wMdl cy m0 a (upd I 0 0) R) := hD
  refine lv_iload_n hx hb dX5_appendCharacter_5 rfl (lv_at hl 1 rfl) ?_
  refine lv_bipush (v := 33) hx hb dX5_appendCharacter_6 (by decide) ?_
  refine lv_bipush (v := 126) hx hb dX5_appendCharacter_8 (by decide) ?_
  refine vp_callSi (va_runS (As := [.int p0, .int 33, .int 126]) (rest := []) ⟨hx, hb, hml, hown, hts⟩ (c_X5_in l p0 33 126) (cwS 3 hts gX5_appendCharacter_X5_in rfl rfl rfl (by decide +kernel) ⟨Nat.le_of_ble_eq_true rfl, Nat.le_of_ble_eq_true rfl⟩) ⟨fun a U g mk q => q, fun U hU hW => ⟨rfl, trivial⟩⟩ rfl rfl hl.1 rfl (lv_room (Nat.le_of_ble_eq_true rfl)) dX5_appendCharacter_10 ⟨Nat.le_of_ble_eq_true rfl, Nat.le_of_ble_eq_true rfl⟩).run (fun r e_r => ?_)
  subst e_r
  refine lv_topi (fun y_ ey_ => ?_)
  obtain rfl : y_ = if ¬ p0 < 33 ∧ ¬ 126 < p0 then 1 else 0 := ey_
  refine lv_if_ne (tgt := 22) hx hb dX5_appendCharacter_13 (by decide) (fun c_13 => ?_) (fun c_13 => ?_)
  · refine lv_aload_n hx hb dX5_appendCharacter_22 rfl (lv_at hl 0 rfl) ?_
    refine va_get (D := (dC, dI)) (ci := 5) (v := .int (I 8)) (C := RX5) (T := TX5) (N := 32) hx hb hts hin5 hown hK hP 0 rfl rfl 8 (by decide) f_130 (fun _ h9 => h9) rfl dX5_appendCharacter_23 ?_
    refine lv_bipush (v := 30) hx hb dX5_appendCharacter_26 (by decide) ?_
    refine lv_icmp_ne (tgt := 37) hx hb dX5_appendCharacter_28 (by decide) (fun c_28 => ?_) (fun c_28 => ?_)
    · have hl9 : L < 30 := by rcases Nat.lt_or_ge L 30 with q | q; exact q; exact absurd (by rw [hI8, show L = 30 by omega]; rfl) c_28
      refine lv_aload_n hx hb dX5_appendCharacter_37 rfl (lv_at hl 0 rfl) ?_
      refine va_get (D := (dC, dI)) (ci := 5) (v := .ref (a 7)) (C := RX5) (T := TX5) (N := 32) hx hb hts hin5 hown hK hP 0 rfl rfl 7 (by decide) f_22 (fun _ h9 => h9) rfl dX5_appendCharacter_38 ?_
      refine lv_aload_n hx hb dX5_appendCharacter_41 rfl (lv_at hl 0 rfl) ?_
      refine va_get (D := (dC, dI)) (ci := 5) (v := .int (I 8)) (C := RX5) (T := TX5) (N := 32) hx hb hts hin5 hown hK hP 0 rfl rfl 8 (by decide) f_130 (fun _ h9 => h9) rfl dX5_appendCharacter_42 ?_
      refine lv_iload_n hx hb dX5_appendCharacter_45 rfl (lv_at hl 1 rfl) ?_
      refine wI_ast hx hb hK hP hD hS 5 0 rfl rfl L hI8 (by omega) (by decide) dX5_appendCharacter_46 (fun H locs hP hD hS => ?_)
      have hP : va_P (dC, dI) vwCl (wMdl cy m0 a (upd I 0 0) (upr R 7 (upd (R 7) L p0))) H := hP
      have hD : va_D A (wMdl cy m0 a (upd I 0 0) (upr R 7 (upd (R 7) L p0))) := hD
      refine lv_aload_n hx hb dX5_appendCharacter_47 rfl (lv_at hl 0 rfl) ?_
      refine lv_dup hx hb dX5_appendCharacter_48 rfl ?_
      refine va_get (D := (dC, dI)) (ci := 5) (v := .int (I 8)) (C := RX5) (T := TX5) (N := 32) hx hb hts hin5 hown hK hP 0 rfl rfl 8 (by decide) f_130 (fun _ h9 => h9) rfl dX5_appendCharacter_49 ?_
      refine lv_iconst (v := 1) hx hb dX5_appendCharacter_52 (by decide) ?_
      refine lv_iadd hx hb dX5_appendCharacter_53 ?_
      refine lv_topi (fun y_ ey_ => ?_)
      obtain rfl : y_ = nI (L + 1) := ey_.trans (by rw [hI8]; exact nI_1 L)
      refine va_put (D := (dC, dI)) (ci := 5) (v := .int (nI (L + 1))) (ty := .int) (C := RX5) (T := TX5) (N := 32) hx hb hts hin5 tyX5 tyX5_ok nmX5 hown hK hP hD hS 0 rfl rfl 8 (by decide) f_130 (fun _ h9 => h9) rfl (by decide +kernel) rfl rfl (Nat.le_of_ble_eq_true rfl) dX5_appendCharacter_54 (fun H locs hP hD hS => ?_)
      have hP : va_P (dC, dI) vwCl (wMdl cy m0 a (upd (upd I 0 0) 8 (nI (L + 1))) (upr R 7 (upd (R 7) L p0))) H := hP
      have hD : va_D A (wMdl cy m0 a (upd (upd I 0 0) 8 (nI (L + 1))) (upr R 7 (upd (R 7) L p0))) := hD
      refine lv_aload_n hx hb dX5_appendCharacter_57 rfl (lv_at hl 0 rfl) ?_
      refine va_get (D := (dC, dI)) (ci := 5) (v := .int (nI (L + 1))) (C := RX5) (T := TX5) (N := 32) hx hb hts hin5 hown hK hP 0 rfl rfl 8 (by decide) f_130 (fun _ h9 => h9) rfl dX5_appendCharacter_58 ?_
      have hP9 : va_P (dC, dI) vwCl (wMdl cy m0 a (upd (upd I 0 0) 8 (nI (L + 1))) (upr R 7 (upd (R 7) L p0))) H := hP
      have hD9 : va_D A (wMdl cy m0 a (upd (upd I 0 0) 8 (nI (L + 1))) (upr R 7 (upd (R 7) L p0))) := hD
      exact W.iret (v := nI (L + 1)) hx hb hr (fun t ht hW => ⟨⟨nI (L + 1), (upd (upd I 0 0) 8 (nI (L + 1)), upr R 7 (upd (R 7) L p0)), rfl, (Or.inr (Or.inr ⟨nb10 c_13, hl9, rfl, rfl⟩)), by rw [ht]; exact hP9, hD9⟩, hS.F ht⟩) hS.2.2 dX5_appendCharacter_61
    · have hl9 : L = 30 := by rw [hI8] at c_28; exact (nI_eq (b := 30) (by omega) (by omega)).mp c_28
      refine lv_aload_n hx hb dX5_appendCharacter_31 rfl (lv_at hl 0 rfl) ?_
      refine lv_iconst (v := 2) hx hb dX5_appendCharacter_32 (by decide) ?_
      have hPc := hP.sub (ws' := wMdl cy m0 a (upd I 0 0) R) [0, 1, 2, 3, 4, 5, 6, 7, 8, 9, 10, 11, 12] rfl
      have hDc := hD.sub (ws' := wMdl cy m0 a (upd I 0 0) R) [0, 1, 2, 3, 4, 5, 6, 7, 8, 9, 10, 11, 12] (by decide) rfl
      have hFc := va_free (wc := wMdl cy m0 a (upd I 0 0) R) hD hS hA [0, 1, 2, 3, 4, 5, 6, 7, 8, 9, 10, 11, 12] rfl
      refine va_calli (va_runV (As := [.int 2]) (rest := []) ⟨hx, hb, hml, hown, hts⟩ (c_X5_fails l dC dI cy H.size m0 a (upd I 0 0) R 2  ) (cwV 1 hts gX5_appendCharacter_X5_fails rfl rfl rfl (by decide +kernel) ⟨Nat.le_of_ble_eq_true rfl, Nat.le_of_ble_eq_true rfl⟩) ⟨bl_in, va_recv hK hPc (ci := 5) (q0 := 0) rfl rfl, pr_in hPc hE hDc⟩ rfl rfl hl.1 rfl (lv_room (Nat.le_of_ble_eq_true rfl)) dX5_appendCharacter_33 ⟨Nat.le_of_ble_eq_true rfl, Nat.le_of_ble_eq_true rfl⟩) hS (fun q _ h => hFc q h) hFc (fun r u t H1 locs ht hvm hw hB hz1 hk1 hS => ?_)
      obtain rfl := hw
      obtain ⟨hP1, hD1⟩ := hB
      rw [ht] at hP1
      obtain ⟨hP, hD⟩ := va_join (wr := []) (w1 := wMdl cy m0 a (upd I 0 2) R) hP hD [0, 1, 2, 3, 4, 5, 6, 7, 8, 9, 10, 11, 12] [] rfl rfl (by decide) (by decide) hk1 hFc hP1 hD1
      have hP : va_P (dC, dI) vwCl (wMdl cy m0 a (upd I 0 2) R) H1 := hP.sub [0, 1, 2, 3, 4, 5, 6, 7, 8, 9, 10, 11, 12] rfl
      have hD : va_D A (wMdl cy m0 a (upd I 0 2) R) := hD.sub [0, 1, 2, 3, 4, 5, 6, 7, 8, 9, 10, 11, 12] (by decide) rfl
      clear hz1 hk1 hPc hDc hFc hP1 hD1
      generalize H1 = H at hP hS ⊢
      have hP9 : va_P (dC, dI) vwCl (wMdl cy m0 a (upd I 0 2) R) H := hP
      have hD9 : va_D A (wMdl cy m0 a (upd I 0 2) R) := hD
      exact W.iret (v := 0) hx hb hr (fun t ht hW => ⟨⟨0, (upd I 0 2, R), rfl, (Or.inr (Or.inl ⟨nb10 c_13, hl9, rfl⟩)), by rw [ht]; exact hP9, hD9⟩, hS.F ht⟩) hS.2.2 dX5_appendCharacter_36
  · refine lv_aload_n hx hb dX5_appendCharacter_16 rfl (lv_at hl 0 rfl) ?_
    refine lv_iconst (v := 1) hx hb dX5_appendCharacter_17 (by decide) ?_
    have hPc := hP.sub (ws' := wMdl cy m0 a (upd I 0 0) R) [0, 1, 2, 3, 4, 5, 6, 7, 8, 9, 10, 11, 12] rfl
    have hDc := hD.sub (ws' := wMdl cy m0 a (upd I 0 0) R) [0, 1, 2, 3, 4, 5, 6, 7, 8, 9, 10, 11, 12] (by decide) rfl
    have hFc := va_free (wc := wMdl cy m0 a (upd I 0 0) R) hD hS hA [0, 1, 2, 3, 4, 5, 6, 7, 8, 9, 10, 11, 12] rfl
    refine va_calli (va_runV (As := [.int 1]) (rest := []) ⟨hx, hb, hml, hown, hts⟩ (c_X5_fails l dC dI cy H.size m0 a (upd I 0 0) R 1  ) (cwV 1 hts gX5_appendCharacter_X5_fails rfl rfl rfl (by decide +kernel) ⟨Nat.le_of_ble_eq_true rfl, Nat.le_of_ble_eq_true rfl⟩) ⟨bl_in, va_recv hK hPc (ci := 5) (q0 := 0) rfl rfl, pr_in hPc hE hDc⟩ rfl rfl hl.1 rfl (lv_room (Nat.le_of_ble_eq_true rfl)) dX5_appendCharacter_18 ⟨Nat.le_of_ble_eq_true rfl, Nat.le_of_ble_eq_true rfl⟩) hS (fun q _ h => hFc q h) hFc (fun r u t H1 locs ht hvm hw hB hz1 hk1 hS => ?_)
    obtain rfl := hw
    obtain ⟨hP1, hD1⟩ := hB
    rw [ht] at hP1
    obtain ⟨hP, hD⟩ := va_join (wr := []) (w1 := wMdl cy m0 a (upd I 0 1) R) hP hD [0, 1, 2, 3, 4, 5, 6, 7, 8, 9, 10, 11, 12] [] rfl rfl (by decide) (by decide) hk1 hFc hP1 hD1
    have hP : va_P (dC, dI) vwCl (wMdl cy m0 a (upd I 0 1) R) H1 := hP.sub [0, 1, 2, 3, 4, 5, 6, 7, 8, 9, 10, 11, 12] rfl
    have hD : va_D A (wMdl cy m0 a (upd I 0 1) R) := hD.sub [0, 1, 2, 3, 4, 5, 6, 7, 8, 9, 10, 11, 12] (by decide) rfl
    clear hz1 hk1 hPc hDc hFc hP1 hD1
    generalize H1 = H at hP hS ⊢
    have hP9 : va_P (dC, dI) vwCl (wMdl cy m0 a (upd I 0 1) R) H := hP
    have hD9 : va_D A (wMdl cy m0 a (upd I 0 1) R) := hD
    exact W.iret (v := 0) hx hb hr (fun t ht hW => ⟨⟨0, (upd I 0 1, R), rfl, (Or.inl ⟨b10.mp c_13, rfl⟩), by rw [ht]; exact hP9, hD9⟩, hS.F ht⟩) hS.2.2 dX5_appendCharacter_21
set_option maxHeartbeats 1000000 in
set_option maxRecDepth 100000 in
/-- the tasks are saved -/
theorem c_X5_save (l : Launch) (dC : Nat → ClassId) (dI : Nat → Nat → Nat) (cy : Nat → ClassId) (sz : Nat) (m0 : Nat) (a : Nat → Nat) (I : Nat → Int32) (R : vG) : Met l yX5_save wsX5_save ({ frames := 0, cells := 0, slots := 0, locals := 0 }) (va_Pc [.ref m0] (pIn dC dI cy (wMdl cy m0 a I R) sz)) (va_Qv (fun _ => True) (fun (u : Unit) t => va_P (dC, dI) vwCl (wMdl cy m0 a (upd (upd I 0 0) 6 1) (upr R 3 (cpR (R 1) (R 3) 58))) t.heap ∧ va_D (va_A (wMdl cy m0 a I R) sz) (wMdl cy m0 a (upd (upd I 0 0) 6 1) (upr R 3 (cpR (R 1) (R 3) 58)))) (va_A (wMdl cy m0 a I R) sz)) 0 0 (va_A (wMdl cy m0 a I R) sz) := by
  refine Met.ofW (cc := cX5_save) (maxL := 2) (ret := none) (by decide) rfl ?_
  intro p e s m args below meth c s₁ B hml hv
  obtain ⟨rfl, hsz, hP, hE, hD0⟩ := hv
  have hK := hE.1
  subst hsz
  have hD := hD0.self (sz := s.heap.size)
  generalize hAe : va_A (wMdl cy m0 a I R) s.heap.size = A at hD ⊢
  have hA : ∀ q : Nat, s.heap.size ≤ q → A q := fun q h => by rw [← hAe]; exact Or.inr h
  have hS : va_S A s.heap s.heap [] := va_S.rf
  have hP : va_P (dC, dI) vwCl (wMdl cy m0 a I R) s.heap := hP
  have hx := B.exec
  have hb := B.bytes
  have hr := B.returns
  have hts := atoms_spec (ws := wsX5_save) B.pre
  have hown : s.vm.findClass RX5 = some m.cls := findClass_of_methodNamed B.named
  have hlocks := B.notSynchronized
  have hin5 : ∀ w ∈ u_ws RX5 TX5 32, w ∈ wsX5_save := by decide +kernel
  have f_16 := hts (.fieldLink RX5 16 "DeadlineAdmissionModel" "saved" "[I") (by decide +kernel)
  have f_239 := hts (.fieldLink RX5 239 "DeadlineAdmissionModel" "hasSaved" "Z") (by decide +kernel)
  have f_50 := hts (.fieldLink RX5 50 "DeadlineAdmissionModel" "thrown" "I") (by decide +kernel)
  have f_9 := hts (.fieldLink RX5 9 "DeadlineAdmissionModel" "s" "[I") (by decide +kernel)
  have hl := lv_entry ([.ref m0]) (n := 2) (Nat.le_of_ble_eq_true rfl)
  rw [lg_entry_eq]
  generalize (lg_sl ([.ref m0]) ++ List.replicate (2 - (lg_sl ([.ref m0])).length) Slot.unset).toArray = ls at hl ⊢
  have hl : lv_has ls 2 [(0, .ref m0)] := hl
  refine lv_aload_n hx hb dX5_save_0 rfl (lv_at hl 0 rfl) ?_
  refine lv_iconst (v := 0) hx hb dX5_save_1 (by decide) ?_
  refine va_put (D := (dC, dI)) (ci := 5) (v := .int 0) (ty := .int) (C := RX5) (T := TX5) (N := 32) hx hb hts hin5 tyX5 tyX5_ok nmX5 hown hK hP hD hS 0 rfl rfl 0 (by decide) f_50 (fun _ h9 => h9) rfl (by decide +kernel) rfl rfl (Nat.le_of_ble_eq_true rfl) dX5_save_2 (fun H locs hP hD hS => ?_)
  have hP : va_P (dC, dI) vwCl (wMdl cy m0 a (upd I 0 0) R) H := hP
  have hD : va_D A (wMdl cy m0 a (upd I 0 0) R) := hD
  refine lv_iconst (v := 0) hx hb dX5_save_5 (by decide) ?_
  refine lv_istore_n (lv' := [(1, .int 0), (0, .ref m0)]) hx hb dX5_save_6 rfl hl (by decide) rfl (fun ls hl => ?_)
  have loop7 : ∀ (k : Nat) (i : Nat) (ls : Array Slot), i ≤ 58 → 58 < i + k → ∀ (H : Heap) (locs : List Loc), va_P (dC, dI) vwCl (wMdl cy m0 a (upd I 0 0) (upr R 3 (cpR (R 1) (R 3) i))) H → va_D A (wMdl cy m0 a (upd I 0 0) (upr R 3 (cpR (R 1) (R 3) i))) → va_S A s.heap H locs → lv_has ls 2 [(0, .ref m0), (1, .int (nI i))] → W p l e (headSpec wsX5_save ({ frames := 0, cells := 0, slots := 0, locals := 0 }) |>.room) s m (([.ref m0].toArray)) below meth c H locs 0 0 (MQ below (va_Qv (fun _ => True) (fun (u : Unit) t => va_P (dC, dI) vwCl (wMdl cy m0 a (upd (upd I 0 0) 6 1) (upr R 3 (cpR (R 1) (R 3) 58))) t.heap ∧ va_D (A) (wMdl cy m0 a (upd (upd I 0 0) 6 1) (upr R 3 (cpR (R 1) (R 3) 58)))) (A)) ([.ref m0].toArray) s 0 0 A) (F0 m 7 ls []) := by
    intro k
    induction k with
    | zero =>
      intro i ls hi hk
      exfalso; omega
    | succ k ih7 =>
      intro i ls hi hk H locs hP hD hS hl
      refine lv_iload_n hx hb dX5_save_7 rfl (lv_at hl 1 rfl) ?_
      refine lv_bipush (v := 58) hx hb dX5_save_8 (by decide) ?_
      refine lv_icmp_ge (tgt := 31) hx hb dX5_save_10 (by decide) (fun c_10 => ?_) (fun c_10 => ?_)
      · have e_i : i = 58 := Nat.le_antisymm hi ((nI_leI (a := 58) (by omega) (by omega)).mp c_10)
        refine lv_aload_n hx hb dX5_save_31 rfl (lv_at hl 0 rfl) ?_
        refine lv_iconst (v := 1) hx hb dX5_save_32 (by decide) ?_
        refine va_put (D := (dC, dI)) (ci := 5) (v := .int 1) (ty := .boolean) (C := RX5) (T := TX5) (N := 32) hx hb hts hin5 tyX5 tyX5_ok nmX5 hown hK hP hD hS 0 rfl rfl 6 (by decide) f_239 (fun _ h9 => h9) rfl (by decide +kernel) (by decide) rfl (Nat.le_of_ble_eq_true rfl) dX5_save_33 (fun H locs hP hD hS => ?_)
        have hP : va_P (dC, dI) vwCl (wMdl cy m0 a (upd (upd I 0 0) 6 1) (upr R 3 (cpR (R 1) (R 3) i))) H := hP
        have hD : va_D A (wMdl cy m0 a (upd (upd I 0 0) 6 1) (upr R 3 (cpR (R 1) (R 3) i))) := hD
        have hP9 : va_P (dC, dI) vwCl (wMdl cy m0 a (upd (upd I 0 0) 6 1) (upr R 3 (cpR (R 1) (R 3) 58))) H := (by rw [e_i] at hP; exact hP)
        have hD9 : va_D A (wMdl cy m0 a (upd (upd I 0 0) 6 1) (upr R 3 (cpR (R 1) (R 3) 58))) := (by rw [e_i] at hD; exact hD)
        exact W.vret hx hb hr (fun t ht hW => ⟨⟨(), rfl, trivial, by rw [ht]; exact hP9, hD9⟩, hS.F ht⟩) hS.2.2 dX5_save_36
      · have hlt : i < 58 := Nat.lt_of_not_le (fun h => c_10 (nI_le (a := 58) h (by omega)))
        refine lv_aload_n hx hb dX5_save_13 rfl (lv_at hl 0 rfl) ?_
        refine va_get (D := (dC, dI)) (ci := 5) (v := .ref (a 3)) (C := RX5) (T := TX5) (N := 32) hx hb hts hin5 hown hK hP 0 rfl rfl 3 (by decide) f_16 (fun _ h9 => h9) rfl dX5_save_14 ?_
        refine lv_iload_n hx hb dX5_save_17 rfl (lv_at hl 1 rfl) ?_
        refine lv_aload_n hx hb dX5_save_18 rfl (lv_at hl 0 rfl) ?_
        refine va_get (D := (dC, dI)) (ci := 5) (v := .ref (a 1)) (C := RX5) (T := TX5) (N := 32) hx hb hts hin5 hown hK hP 0 rfl rfl 1 (by decide) f_9 (fun _ h9 => h9) rfl dX5_save_19 ?_
        refine lv_iload_n hx hb dX5_save_22 rfl (lv_at hl 1 rfl) ?_
        refine wI_alv (v := R 1 i) hx hb hK hP 1 0 rfl rfl i rfl (by omega) (by decide) rfl dX5_save_23 ?_
        refine wI_ast hx hb hK hP hD hS 3 0 rfl rfl i rfl (by omega) (by decide) dX5_save_24 (fun H locs hP hD hS => ?_)
        have hP : va_P (dC, dI) vwCl (wMdl cy m0 a (upd I 0 0) (upr R 3 (upd (cpR (R 1) (R 3) i) i (R 1 i)))) H := hP
        have hD : va_D A (wMdl cy m0 a (upd I 0 0) (upr R 3 (upd (cpR (R 1) (R 3) i) i (R 1 i)))) := hD
        refine lv_iinc (v := nI (i + 1)) (lv' := [(1, .int (nI (i + 1))), (0, .ref m0)]) hx hb dX5_save_25 hl (k := 1) rfl (nI_1 _) (by decide) rfl (fun ls hl => ?_)
        refine lv_goto (tgt := 7) hx hb dX5_save_28 (by decide) ?_
        exact ih7 (i + 1) ls (by omega) (by omega) _ _ (by rw [← cpR_s]; exact hP) (by rw [← cpR_s]; exact hD) hS (lv_sub hl [1, 0] rfl)
  exact loop7 59 0 ls (Nat.zero_le _) (by omega) _ _ (by rw [cpR_0]; exact hP) (by rw [cpR_0]; exact hD) hS (lv_sub hl [1, 0] rfl)
set_option maxHeartbeats 1000000 in
set_option maxRecDepth 100000 in
/-- the latest change is taken back -/
theorem c_X5_undo (l : Launch) (dC : Nat → ClassId) (dI : Nat → Nat → Nat) (cy : Nat → ClassId) (sz : Nat) (m0 : Nat) (a : Nat → Nat) (I : Nat → Int32) (R : vG) (ch : Nat) (hch : ch ≤ 6) (hI5 : I 5 = nI ch) : Met l yX5_undo wsX5_undo ({ frames := 1, cells := 0, slots := 0, locals := 21 }) (va_Pc [.ref m0] (pIn dC dI cy (wMdl cy m0 a I R) sz)) (va_Qi (fun (r : Int32) u => qUndo I R ch r u) (fun (u : (Nat → Int32) × vG) t => va_P (dC, dI) vwCl (wMdl cy m0 a u.1 u.2) t.heap ∧ va_D (va_A (wMdl cy m0 a I R) sz) (wMdl cy m0 a u.1 u.2)) (va_A (wMdl cy m0 a I R) sz)) 0 0 (va_A (wMdl cy m0 a I R) sz) := by
  refine Met.ofW (cc := cX5_undo) (maxL := 2) (ret := some .int) (by decide) rfl ?_
  intro p e s m args below meth c s₁ B hml hv
  obtain ⟨rfl, hsz, hP, hE, hD0⟩ := hv
  have hK := hE.1
  subst hsz
  have hD := hD0.self (sz := s.heap.size)
  generalize hAe : va_A (wMdl cy m0 a I R) s.heap.size = A at hD ⊢
  have hA : ∀ q : Nat, s.heap.size ≤ q → A q := fun q h => by rw [← hAe]; exact Or.inr h
  have hS : va_S A s.heap s.heap [] := va_S.rf
  have hP : va_P (dC, dI) vwCl (wMdl cy m0 a I R) s.heap := hP
  have hx := B.exec
  have hb := B.bytes
  have hr := B.returns
  have hts := atoms_spec (ws := wsX5_undo) B.pre
  have hown : s.vm.findClass RX5 = some m.cls := findClass_of_methodNamed B.named
  have hlocks := B.notSynchronized
  have hin5 : ∀ w ∈ u_ws RX5 TX5 32, w ∈ wsX5_undo := by decide +kernel
  have f_19 := hts (.fieldLink RX5 19 "DeadlineAdmissionModel" "history" "[I") (by decide +kernel)
  have f_50 := hts (.fieldLink RX5 50 "DeadlineAdmissionModel" "thrown" "I") (by decide +kernel)
  have f_57 := hts (.fieldLink RX5 57 "DeadlineAdmissionModel" "changes" "I") (by decide +kernel)
  have f_60 := hts (.fieldLink RX5 60 "DeadlineAdmissionModel" "isSimulated" "Z") (by decide +kernel)
  have f_9 := hts (.fieldLink RX5 9 "DeadlineAdmissionModel" "s" "[I") (by decide +kernel)
  have hl := lv_entry ([.ref m0]) (n := 2) (Nat.le_of_ble_eq_true rfl)
  rw [lg_entry_eq]
  generalize (lg_sl ([.ref m0]) ++ List.replicate (2 - (lg_sl ([.ref m0])).length) Slot.unset).toArray = ls at hl ⊢
  have hl : lv_has ls 2 [(0, .ref m0)] := hl
  refine lv_aload_n hx hb dX5_undo_0 rfl (lv_at hl 0 rfl) ?_
  refine lv_iconst (v := 0) hx hb dX5_undo_1 (by decide) ?_
  refine va_put (D := (dC, dI)) (ci := 5) (v := .int 0) (ty := .int) (C := RX5) (T := TX5) (N := 32) hx hb hts hin5 tyX5 tyX5_ok nmX5 hown hK hP hD hS 0 rfl rfl 0 (by decide) f_50 (fun _ h9 => h9) rfl (by decide +kernel) rfl rfl (Nat.le_of_ble_eq_true rfl) dX5_undo_2 (fun H locs hP hD hS => ?_)
  have hP : va_P (dC, dI) vwCl (wMdl cy m0 a (upd I 0 0) R) H := hP
  have hD : va_D A (wMdl cy m0 a (upd I 0 0) R) := hD
  refine lv_aload_n hx hb dX5_undo_5 rfl (lv_at hl 0 rfl) ?_
  refine va_get (D := (dC, dI)) (ci := 5) (v := .int (I 5)) (C := RX5) (T := TX5) (N := 32) hx hb hts hin5 hown hK hP 0 rfl rfl 5 (by decide) f_57 (fun _ h9 => h9) rfl dX5_undo_6 ?_
  refine lv_if_ne (tgt := 18) hx hb dX5_undo_9 (by decide) (fun c_9 => ?_) (fun c_9 => ?_)
  · obtain ⟨c9, rfl⟩ : ∃ z, ch = z + 1 := ⟨ch - 1, by rcases Nat.eq_zero_or_pos ch with q | q; exact absurd (by rw [hI5, q]; rfl) c_9; omega⟩
    refine lv_aload_n hx hb dX5_undo_18 rfl (lv_at hl 0 rfl) ?_
    refine lv_dup hx hb dX5_undo_19 rfl ?_
    refine va_get (D := (dC, dI)) (ci := 5) (v := .int (I 5)) (C := RX5) (T := TX5) (N := 32) hx hb hts hin5 hown hK hP 0 rfl rfl 5 (by decide) f_57 (fun _ h9 => h9) rfl dX5_undo_20 ?_
    refine lv_iconst (v := 1) hx hb dX5_undo_23 (by decide) ?_
    refine lv_isub hx hb dX5_undo_24 ?_
    refine lv_topi (fun y_ ey_ => ?_)
    obtain rfl : y_ = nI c9 := ey_.trans (by rw [hI5]; exact nI_pred c9)
    refine va_put (D := (dC, dI)) (ci := 5) (v := .int (nI c9)) (ty := .int) (C := RX5) (T := TX5) (N := 32) hx hb hts hin5 tyX5 tyX5_ok nmX5 hown hK hP hD hS 0 rfl rfl 5 (by decide) f_57 (fun _ h9 => h9) rfl (by decide +kernel) rfl rfl (Nat.le_of_ble_eq_true rfl) dX5_undo_25 (fun H locs hP hD hS => ?_)
    have hP : va_P (dC, dI) vwCl (wMdl cy m0 a (upd (upd I 0 0) 5 (nI c9)) R) H := hP
    have hD : va_D A (wMdl cy m0 a (upd (upd I 0 0) 5 (nI c9)) R) := hD
    refine lv_iconst (v := 0) hx hb dX5_undo_28 (by decide) ?_
    refine lv_istore_n (lv' := [(1, .int 0), (0, .ref m0)]) hx hb dX5_undo_29 rfl hl (by decide) rfl (fun ls hl => ?_)
    have loop30 : ∀ (k : Nat) (i : Nat) (ls : Array Slot), i ≤ 58 → 58 < i + k → ∀ (H : Heap) (locs : List Loc), va_P (dC, dI) vwCl (wMdl cy m0 a (upd (upd I 0 0) 5 (nI c9)) (upr R 1 (cpR (fun k => R 4 (58 * c9 + k)) (R 1) i))) H → va_D A (wMdl cy m0 a (upd (upd I 0 0) 5 (nI c9)) (upr R 1 (cpR (fun k => R 4 (58 * c9 + k)) (R 1) i))) → va_S A s.heap H locs → lv_has ls 2 [(0, .ref m0), (1, .int (nI i))] → W p l e (headSpec wsX5_undo ({ frames := 1, cells := 0, slots := 0, locals := 21 }) |>.room) s m (([.ref m0].toArray)) below meth c H locs 0 0 (MQ below (va_Qi (fun (r : Int32) u => qUndo I R (c9 + 1) r u) (fun (u : (Nat → Int32) × vG) t => va_P (dC, dI) vwCl (wMdl cy m0 a u.1 u.2) t.heap ∧ va_D (A) (wMdl cy m0 a u.1 u.2)) (A)) ([.ref m0].toArray) s 0 0 A) (F0 m 30 ls []) := by
      intro k
      induction k with
      | zero =>
        intro i ls hi hk
        exfalso; omega
      | succ k ih30 =>
        intro i ls hi hk H locs hP hD hS hl
        refine lv_iload_n hx hb dX5_undo_30 rfl (lv_at hl 1 rfl) ?_
        refine lv_bipush (v := 58) hx hb dX5_undo_31 (by decide) ?_
        refine lv_icmp_ge (tgt := 62) hx hb dX5_undo_33 (by decide) (fun c_33 => ?_) (fun c_33 => ?_)
        · have e_i : i = 58 := Nat.le_antisymm hi ((nI_leI (a := 58) (by omega) (by omega)).mp c_33)
          refine lv_aload_n hx hb dX5_undo_62 rfl (lv_at hl 0 rfl) ?_
          refine lv_iconst (v := 0) hx hb dX5_undo_63 (by decide) ?_
          refine va_put (D := (dC, dI)) (ci := 5) (v := .int 0) (ty := .boolean) (C := RX5) (T := TX5) (N := 32) hx hb hts hin5 tyX5 tyX5_ok nmX5 hown hK hP hD hS 0 rfl rfl 14 (by decide) f_60 (fun _ h9 => h9) rfl (by decide +kernel) (by decide) rfl (Nat.le_of_ble_eq_true rfl) dX5_undo_64 (fun H locs hP hD hS => ?_)
          have hP : va_P (dC, dI) vwCl (wMdl cy m0 a (upd (upd (upd I 0 0) 5 (nI c9)) 14 0) (upr R 1 (cpR (fun k => R 4 (58 * c9 + k)) (R 1) i))) H := hP
          have hD : va_D A (wMdl cy m0 a (upd (upd (upd I 0 0) 5 (nI c9)) 14 0) (upr R 1 (cpR (fun k => R 4 (58 * c9 + k)) (R 1) i))) := hD
          refine lv_aload_n hx hb dX5_undo_67 rfl (lv_at hl 0 rfl) ?_
          refine va_get (D := (dC, dI)) (ci := 5) (v := .int (nI c9)) (C := RX5) (T := TX5) (N := 32) hx hb hts hin5 hown hK hP 0 rfl rfl 5 (by decide) f_57 (fun _ h9 => h9) rfl dX5_undo_68 ?_
          have hP9 : va_P (dC, dI) vwCl (wMdl cy m0 a (upd (upd (upd I 0 0) 5 (nI c9)) 14 0) (upr R 1 (cpR (fun k => R 4 (58 * c9 + k)) (R 1) 58))) H := (by rw [e_i] at hP; exact hP)
          have hD9 : va_D A (wMdl cy m0 a (upd (upd (upd I 0 0) 5 (nI c9)) 14 0) (upr R 1 (cpR (fun k => R 4 (58 * c9 + k)) (R 1) 58))) := (by rw [e_i] at hD; exact hD)
          exact W.iret (v := nI c9) hx hb hr (fun t ht hW => ⟨⟨nI c9, (upd (upd (upd I 0 0) 5 (nI c9)) 14 0, upr R 1 (cpR (fun k => R 4 (58 * c9 + k)) (R 1) 58)), rfl, (Or.inr ⟨c9, rfl, rfl, rfl⟩), by rw [ht]; exact hP9, hD9⟩, hS.F ht⟩) hS.2.2 dX5_undo_71
        · have hlt : i < 58 := Nat.lt_of_not_le (fun h => c_33 (nI_le (a := 58) h (by omega)))
          refine lv_aload_n hx hb dX5_undo_36 rfl (lv_at hl 0 rfl) ?_
          refine va_get (D := (dC, dI)) (ci := 5) (v := .ref (a 1)) (C := RX5) (T := TX5) (N := 32) hx hb hts hin5 hown hK hP 0 rfl rfl 1 (by decide) f_9 (fun _ h9 => h9) rfl dX5_undo_37 ?_
          refine lv_iload_n hx hb dX5_undo_40 rfl (lv_at hl 1 rfl) ?_
          refine lv_aload_n hx hb dX5_undo_41 rfl (lv_at hl 0 rfl) ?_
          refine va_get (D := (dC, dI)) (ci := 5) (v := .ref (a 4)) (C := RX5) (T := TX5) (N := 32) hx hb hts hin5 hown hK hP 0 rfl rfl 4 (by decide) f_19 (fun _ h9 => h9) rfl dX5_undo_42 ?_
          refine lv_bipush (v := 58) hx hb dX5_undo_45 (by decide) ?_
          refine lv_aload_n hx hb dX5_undo_47 rfl (lv_at hl 0 rfl) ?_
          refine va_get (D := (dC, dI)) (ci := 5) (v := .int (nI c9)) (C := RX5) (T := TX5) (N := 32) hx hb hts hin5 hown hK hP 0 rfl rfl 5 (by decide) f_57 (fun _ h9 => h9) rfl dX5_undo_48 ?_
          refine lv_imul hx hb dX5_undo_51 ?_
          refine lv_iload_n hx hb dX5_undo_52 rfl (lv_at hl 1 rfl) ?_
          refine lv_iadd hx hb dX5_undo_53 ?_
          refine wI_alv (v := R 4 ((58 * c9) + i)) hx hb hK hP 4 0 rfl rfl ((58 * c9) + i) (nadd (nmul rfl rfl) rfl) (by omega) (by decide) rfl dX5_undo_54 ?_
          refine wI_ast hx hb hK hP hD hS 1 0 rfl rfl i rfl (by omega) (by decide) dX5_undo_55 (fun H locs hP hD hS => ?_)
          have hP : va_P (dC, dI) vwCl (wMdl cy m0 a (upd (upd I 0 0) 5 (nI c9)) (upr R 1 (upd (cpR (fun k => R 4 (58 * c9 + k)) (R 1) i) i (R 4 ((58 * c9) + i))))) H := hP
          have hD : va_D A (wMdl cy m0 a (upd (upd I 0 0) 5 (nI c9)) (upr R 1 (upd (cpR (fun k => R 4 (58 * c9 + k)) (R 1) i) i (R 4 ((58 * c9) + i))))) := hD
          refine lv_iinc (v := nI (i + 1)) (lv' := [(1, .int (nI (i + 1))), (0, .ref m0)]) hx hb dX5_undo_56 hl (k := 1) rfl (nI_1 _) (by decide) rfl (fun ls hl => ?_)
          refine lv_goto (tgt := 30) hx hb dX5_undo_59 (by decide) ?_
          exact ih30 (i + 1) ls (by omega) (by omega) _ _ (by rw [← cpR_s]; exact hP) (by rw [← cpR_s]; exact hD) hS (lv_sub hl [1, 0] rfl)
    exact loop30 59 0 ls (Nat.zero_le _) (by omega) _ _ (by rw [cpR_0]; exact hP) (by rw [cpR_0]; exact hD) hS (lv_sub hl [1, 0] rfl)
  · have ech : ch = 0 := by rw [hI5] at c_9; exact (nI_eq (b := 0) (by omega) (by omega)).mp c_9
    refine lv_aload_n hx hb dX5_undo_12 rfl (lv_at hl 0 rfl) ?_
    refine lv_iconst (v := 1) hx hb dX5_undo_13 (by decide) ?_
    have hPc := hP.sub (ws' := wMdl cy m0 a (upd I 0 0) R) [0, 1, 2, 3, 4, 5, 6, 7, 8, 9, 10, 11, 12] rfl
    have hDc := hD.sub (ws' := wMdl cy m0 a (upd I 0 0) R) [0, 1, 2, 3, 4, 5, 6, 7, 8, 9, 10, 11, 12] (by decide) rfl
    have hFc := va_free (wc := wMdl cy m0 a (upd I 0 0) R) hD hS hA [0, 1, 2, 3, 4, 5, 6, 7, 8, 9, 10, 11, 12] rfl
    refine va_calli (va_runV (As := [.int 1]) (rest := []) ⟨hx, hb, hml, hown, hts⟩ (c_X5_fails l dC dI cy H.size m0 a (upd I 0 0) R 1  ) (cwV 1 hts gX5_undo_X5_fails rfl rfl rfl (by decide +kernel) ⟨Nat.le_of_ble_eq_true rfl, Nat.le_of_ble_eq_true rfl⟩) ⟨bl_in, va_recv hK hPc (ci := 5) (q0 := 0) rfl rfl, pr_in hPc hE hDc⟩ rfl rfl hl.1 rfl (lv_room (Nat.le_of_ble_eq_true rfl)) dX5_undo_14 ⟨Nat.le_of_ble_eq_true rfl, Nat.le_of_ble_eq_true rfl⟩) hS (fun q _ h => hFc q h) hFc (fun r u t H1 locs ht hvm hw hB hz1 hk1 hS => ?_)
    obtain rfl := hw
    obtain ⟨hP1, hD1⟩ := hB
    rw [ht] at hP1
    obtain ⟨hP, hD⟩ := va_join (wr := []) (w1 := wMdl cy m0 a (upd I 0 1) R) hP hD [0, 1, 2, 3, 4, 5, 6, 7, 8, 9, 10, 11, 12] [] rfl rfl (by decide) (by decide) hk1 hFc hP1 hD1
    have hP : va_P (dC, dI) vwCl (wMdl cy m0 a (upd I 0 1) R) H1 := hP.sub [0, 1, 2, 3, 4, 5, 6, 7, 8, 9, 10, 11, 12] rfl
    have hD : va_D A (wMdl cy m0 a (upd I 0 1) R) := hD.sub [0, 1, 2, 3, 4, 5, 6, 7, 8, 9, 10, 11, 12] (by decide) rfl
    clear hz1 hk1 hPc hDc hFc hP1 hD1
    generalize H1 = H at hP hS ⊢
    have hP9 : va_P (dC, dI) vwCl (wMdl cy m0 a (upd I 0 1) R) H := hP
    have hD9 : va_D A (wMdl cy m0 a (upd I 0 1) R) := hD
    exact W.iret (v := 0) hx hb hr (fun t ht hW => ⟨⟨0, (upd I 0 1, R), rfl, (Or.inl ⟨ech, rfl⟩), by rw [ht]; exact hP9, hD9⟩, hS.F ht⟩) hS.2.2 dX5_undo_17
set_option maxHeartbeats 1000000 in
set_option maxRecDepth 100000 in
/-- what was saved is restored -/
theorem c_X5_restore (l : Launch) (dC : Nat → ClassId) (dI : Nat → Nat → Nat) (cy : Nat → ClassId) (sz : Nat) (m0 : Nat) (a : Nat → Nat) (I : Nat → Int32) (R : vG) (ch : Nat) (hch : ch ≤ 6) (hI5 : I 5 = nI ch) : Met l yX5_restore wsX5_restore ({ frames := 1, cells := 0, slots := 0, locals := 21 }) (va_Pc [.ref m0] (pIn dC dI cy (wMdl cy m0 a I R) sz)) (va_Qi (fun (r : Int32) u => qRest I R ch r u) (fun (u : (Nat → Int32) × vG) t => va_P (dC, dI) vwCl (wMdl cy m0 a u.1 u.2) t.heap ∧ va_D (va_A (wMdl cy m0 a I R) sz) (wMdl cy m0 a u.1 u.2)) (va_A (wMdl cy m0 a I R) sz)) 0 0 (va_A (wMdl cy m0 a I R) sz) := by
  refine Met.ofW (cc := cX5_restore) (maxL := 2) (ret := some .int) (by decide) rfl ?_
  intro p e s m args below meth c s₁ B hml hv
  obtain ⟨rfl, hsz, hP, hE, hD0⟩ := hv
  have hK := hE.1
  subst hsz
  have hD := hD0.self (sz := s.heap.size)
  generalize hAe : va_A (wMdl cy m0 a I R) s.heap.size = A at hD ⊢
  have hA : ∀ q : Nat, s.heap.size ≤ q → A q := fun q h => by rw [← hAe]; exact Or.inr h
  have hS : va_S A s.heap s.heap [] := va_S.rf
  have hP : va_P (dC, dI) vwCl (wMdl cy m0 a I R) s.heap := hP
  have hx := B.exec
  have hb := B.bytes
  have hr := B.returns
  have hts := atoms_spec (ws := wsX5_restore) B.pre
  have hown : s.vm.findClass RX5 = some m.cls := findClass_of_methodNamed B.named
  have hlocks := B.notSynchronized
  have hin5 : ∀ w ∈ u_ws RX5 TX5 32, w ∈ wsX5_restore := by decide +kernel
  have f_16 := hts (.fieldLink RX5 16 "DeadlineAdmissionModel" "saved" "[I") (by decide +kernel)
  have f_239 := hts (.fieldLink RX5 239 "DeadlineAdmissionModel" "hasSaved" "Z") (by decide +kernel)
  have f_50 := hts (.fieldLink RX5 50 "DeadlineAdmissionModel" "thrown" "I") (by decide +kernel)
  have f_9 := hts (.fieldLink RX5 9 "DeadlineAdmissionModel" "s" "[I") (by decide +kernel)
  have hl := lv_entry ([.ref m0]) (n := 2) (Nat.le_of_ble_eq_true rfl)
  rw [lg_entry_eq]
  generalize (lg_sl ([.ref m0]) ++ List.replicate (2 - (lg_sl ([.ref m0])).length) Slot.unset).toArray = ls at hl ⊢
  have hl : lv_has ls 2 [(0, .ref m0)] := hl
  refine lv_aload_n hx hb dX5_restore_0 rfl (lv_at hl 0 rfl) ?_
  refine lv_iconst (v := 0) hx hb dX5_restore_1 (by decide) ?_
  refine va_put (D := (dC, dI)) (ci := 5) (v := .int 0) (ty := .int) (C := RX5) (T := TX5) (N := 32) hx hb hts hin5 tyX5 tyX5_ok nmX5 hown hK hP hD hS 0 rfl rfl 0 (by decide) f_50 (fun _ h9 => h9) rfl (by decide +kernel) rfl rfl (Nat.le_of_ble_eq_true rfl) dX5_restore_2 (fun H locs hP hD hS => ?_)
  have hP : va_P (dC, dI) vwCl (wMdl cy m0 a (upd I 0 0) R) H := hP
  have hD : va_D A (wMdl cy m0 a (upd I 0 0) R) := hD
  refine lv_aload_n hx hb dX5_restore_5 rfl (lv_at hl 0 rfl) ?_
  refine va_get (D := (dC, dI)) (ci := 5) (v := .int (I 6)) (C := RX5) (T := TX5) (N := 32) hx hb hts hin5 hown hK hP 0 rfl rfl 6 (by decide) f_239 (fun _ h9 => h9) rfl dX5_restore_6 ?_
  refine lv_if_ne (tgt := 18) hx hb dX5_restore_9 (by decide) (fun c_9 => ?_) (fun c_9 => ?_)
  · refine lv_aload_n hx hb dX5_restore_18 rfl (lv_at hl 0 rfl) ?_
    have hPc := hP.sub (ws' := wMdl cy m0 a (upd I 0 0) R) [0, 1, 2, 3, 4, 5, 6, 7, 8, 9, 10, 11, 12] rfl
    have hDc := hD.sub (ws' := wMdl cy m0 a (upd I 0 0) R) [0, 1, 2, 3, 4, 5, 6, 7, 8, 9, 10, 11, 12] (by decide) rfl
    have hFc := va_free (wc := wMdl cy m0 a (upd I 0 0) R) hD hS hA [0, 1, 2, 3, 4, 5, 6, 7, 8, 9, 10, 11, 12] rfl
    refine va_callv (va_runV (As := []) (rest := []) ⟨hx, hb, hml, hown, hts⟩ (c_X5_keeps l dC dI cy H.size m0 a (upd I 0 0) R   ) (cwV 0 hts gX5_restore_X5_keeps rfl rfl rfl (by decide +kernel) ⟨Nat.le_of_ble_eq_true rfl, Nat.le_of_ble_eq_true rfl⟩) ⟨bl_in, va_recv hK hPc (ci := 5) (q0 := 0) rfl rfl, pr_in hPc hE hDc⟩ rfl rfl hl.1 rfl (lv_room (Nat.le_of_ble_eq_true rfl)) dX5_restore_19 ⟨Nat.le_of_ble_eq_true rfl, Nat.le_of_ble_eq_true rfl⟩) hS (fun q _ h => hFc q h) hFc (fun u t H1 locs ht hvm hw hB hz1 hk1 hS => ?_)
    obtain ⟨hP1, hD1⟩ := hB
    rw [ht] at hP1
    obtain ⟨hP, hD⟩ := va_join (wr := []) (w1 := wMdl cy m0 a (upd I 0 0) (upr R 2 (cpR (R 1) (R 2) 58))) hP hD [0, 1, 2, 3, 4, 5, 6, 7, 8, 9, 10, 11, 12] [] rfl rfl (by decide) (by decide) hk1 hFc hP1 hD1
    have hP : va_P (dC, dI) vwCl (wMdl cy m0 a (upd I 0 0) (upr R 2 (cpR (R 1) (R 2) 58))) H1 := hP.sub [0, 1, 2, 3, 4, 5, 6, 7, 8, 9, 10, 11, 12] rfl
    have hD : va_D A (wMdl cy m0 a (upd I 0 0) (upr R 2 (cpR (R 1) (R 2) 58))) := hD.sub [0, 1, 2, 3, 4, 5, 6, 7, 8, 9, 10, 11, 12] (by decide) rfl
    clear hz1 hk1 hPc hDc hFc hP1 hD1
    generalize H1 = H at hP hS ⊢
    refine lv_iconst (v := 0) hx hb dX5_restore_22 (by decide) ?_
    refine lv_istore_n (lv' := [(1, .int 0), (0, .ref m0)]) hx hb dX5_restore_23 rfl hl (by decide) rfl (fun ls hl => ?_)
    have loop24 : ∀ (k : Nat) (i : Nat) (ls : Array Slot), i ≤ 58 → 58 < i + k → ∀ (H : Heap) (locs : List Loc), va_P (dC, dI) vwCl (wMdl cy m0 a (upd I 0 0) (upr (upr R 1 (cpR (R 3) (R 1) i)) 2 (cpR (R 1) (R 2) 58))) H → va_D A (wMdl cy m0 a (upd I 0 0) (upr (upr R 1 (cpR (R 3) (R 1) i)) 2 (cpR (R 1) (R 2) 58))) → va_S A s.heap H locs → lv_has ls 2 [(0, .ref m0), (1, .int (nI i))] → W p l e (headSpec wsX5_restore ({ frames := 1, cells := 0, slots := 0, locals := 21 }) |>.room) s m (([.ref m0].toArray)) below meth c H locs 0 0 (MQ below (va_Qi (fun (r : Int32) u => qRest I R ch r u) (fun (u : (Nat → Int32) × vG) t => va_P (dC, dI) vwCl (wMdl cy m0 a u.1 u.2) t.heap ∧ va_D (A) (wMdl cy m0 a u.1 u.2)) (A)) ([.ref m0].toArray) s 0 0 A) (F0 m 24 ls []) := by
      intro k
      induction k with
      | zero =>
        intro i ls hi hk
        exfalso; omega
      | succ k ih24 =>
        intro i ls hi hk H locs hP hD hS hl
        refine lv_iload_n hx hb dX5_restore_24 rfl (lv_at hl 1 rfl) ?_
        refine lv_bipush (v := 58) hx hb dX5_restore_25 (by decide) ?_
        refine lv_icmp_ge (tgt := 48) hx hb dX5_restore_27 (by decide) (fun c_27 => ?_) (fun c_27 => ?_)
        · have e_i : i = 58 := Nat.le_antisymm hi ((nI_leI (a := 58) (by omega) (by omega)).mp c_27)
          rw [e_i] at hP hD hl
          refine lv_aload_n hx hb dX5_restore_48 rfl (lv_at hl 0 rfl) ?_
          have hPc := hP.sub (ws' := wMdl cy m0 a (upd I 0 0) (upr (upr R 1 (cpR (R 3) (R 1) 58)) 2 (cpR (R 1) (R 2) 58))) [0, 1, 2, 3, 4, 5, 6, 7, 8, 9, 10, 11, 12] rfl
          have hDc := hD.sub (ws' := wMdl cy m0 a (upd I 0 0) (upr (upr R 1 (cpR (R 3) (R 1) 58)) 2 (cpR (R 1) (R 2) 58))) [0, 1, 2, 3, 4, 5, 6, 7, 8, 9, 10, 11, 12] (by decide) rfl
          have hFc := va_free (wc := wMdl cy m0 a (upd I 0 0) (upr (upr R 1 (cpR (R 3) (R 1) 58)) 2 (cpR (R 1) (R 2) 58))) hD hS hA [0, 1, 2, 3, 4, 5, 6, 7, 8, 9, 10, 11, 12] rfl
          refine va_callv (va_runV (As := []) (rest := []) ⟨hx, hb, hml, hown, hts⟩ (c_X5_records l dC dI cy H.size m0 a (upd I 0 0) (upr (upr R 1 (cpR (R 3) (R 1) 58)) 2 (cpR (R 1) (R 2) 58))   ch hch hI5) (cwV 0 hts gX5_restore_X5_records rfl rfl rfl (by decide +kernel) ⟨Nat.le_of_ble_eq_true rfl, Nat.le_of_ble_eq_true rfl⟩) ⟨bl_in, va_recv hK hPc (ci := 5) (q0 := 0) rfl rfl, pr_in hPc hE hDc⟩ rfl rfl hl.1 rfl (lv_room (Nat.le_of_ble_eq_true rfl)) dX5_restore_49 ⟨Nat.le_of_ble_eq_true rfl, Nat.le_of_ble_eq_true rfl⟩) hS (fun q _ h => hFc q h) hFc (fun u t H1 locs ht hvm hw hB hz1 hk1 hS => ?_)
          obtain ⟨hP1, hD1⟩ := hB
          rw [ht] at hP1
          obtain ⟨hP, hD⟩ := va_join (wr := []) (w1 := wMdl cy m0 a (upd (upd (upd I 0 0) 5 (nI (hcnt ch))) 14 0) (upr (upr (upr R 1 (cpR (R 3) (R 1) 58)) 2 (cpR (R 1) (R 2) 58)) 4 (hrec (R 4) (cpR (R 1) (R 2) 58) ch))) hP hD [0, 1, 2, 3, 4, 5, 6, 7, 8, 9, 10, 11, 12] [] rfl rfl (by decide) (by decide) hk1 hFc hP1 hD1
          have hP : va_P (dC, dI) vwCl (wMdl cy m0 a (upd (upd (upd I 0 0) 5 (nI (hcnt ch))) 14 0) (upr (upr (upr R 1 (cpR (R 3) (R 1) 58)) 2 (cpR (R 1) (R 2) 58)) 4 (hrec (R 4) (cpR (R 1) (R 2) 58) ch))) H1 := hP.sub [0, 1, 2, 3, 4, 5, 6, 7, 8, 9, 10, 11, 12] rfl
          have hD : va_D A (wMdl cy m0 a (upd (upd (upd I 0 0) 5 (nI (hcnt ch))) 14 0) (upr (upr (upr R 1 (cpR (R 3) (R 1) 58)) 2 (cpR (R 1) (R 2) 58)) 4 (hrec (R 4) (cpR (R 1) (R 2) 58) ch))) := hD.sub [0, 1, 2, 3, 4, 5, 6, 7, 8, 9, 10, 11, 12] (by decide) rfl
          clear hz1 hk1 hPc hDc hFc hP1 hD1
          generalize H1 = H at hP hS ⊢
          refine lv_aload_n hx hb dX5_restore_52 rfl (lv_at hl 0 rfl) ?_
          refine va_get (D := (dC, dI)) (ci := 5) (v := .ref (a 1)) (C := RX5) (T := TX5) (N := 32) hx hb hts hin5 hown hK hP 0 rfl rfl 1 (by decide) f_9 (fun _ h9 => h9) rfl dX5_restore_53 ?_
          refine lv_iconst (v := 0) hx hb dX5_restore_56 (by decide) ?_
          refine wI_alv (v := (cpR (R 3) (R 1) 58) 0) hx hb hK hP 1 0 rfl rfl 0 rfl (by omega) (by decide) rfl dX5_restore_57 ?_
          have hP9 : va_P (dC, dI) vwCl (wMdl cy m0 a (upd (upd (upd I 0 0) 5 (nI (hcnt ch))) 14 0) (upr (upr (upr R 1 (cpR (R 3) (R 1) 58)) 2 (cpR (R 1) (R 2) 58)) 4 (hrec (R 4) (cpR (R 1) (R 2) 58) ch))) H := hP
          have hD9 : va_D A (wMdl cy m0 a (upd (upd (upd I 0 0) 5 (nI (hcnt ch))) 14 0) (upr (upr (upr R 1 (cpR (R 3) (R 1) 58)) 2 (cpR (R 1) (R 2) 58)) 4 (hrec (R 4) (cpR (R 1) (R 2) 58) ch))) := hD
          exact W.iret (v := (cpR (R 3) (R 1) 58) 0) hx hb hr (fun t ht hW => ⟨⟨(cpR (R 3) (R 1) 58) 0, (upd (upd (upd I 0 0) 5 (nI (hcnt ch))) 14 0, upr (upr (upr R 1 (cpR (R 3) (R 1) 58)) 2 (cpR (R 1) (R 2) 58)) 4 (hrec (R 4) (cpR (R 1) (R 2) 58) ch)), rfl, (Or.inr ⟨c_9, rfl, rfl⟩), by rw [ht]; exact hP9, hD9⟩, hS.F ht⟩) hS.2.2 dX5_restore_58
        · have hlt : i < 58 := Nat.lt_of_not_le (fun h => c_27 (nI_le (a := 58) h (by omega)))
          refine lv_aload_n hx hb dX5_restore_30 rfl (lv_at hl 0 rfl) ?_
          refine va_get (D := (dC, dI)) (ci := 5) (v := .ref (a 1)) (C := RX5) (T := TX5) (N := 32) hx hb hts hin5 hown hK hP 0 rfl rfl 1 (by decide) f_9 (fun _ h9 => h9) rfl dX5_restore_31 ?_
          refine lv_iload_n hx hb dX5_restore_34 rfl (lv_at hl 1 rfl) ?_
          refine lv_aload_n hx hb dX5_restore_35 rfl (lv_at hl 0 rfl) ?_
          refine va_get (D := (dC, dI)) (ci := 5) (v := .ref (a 3)) (C := RX5) (T := TX5) (N := 32) hx hb hts hin5 hown hK hP 0 rfl rfl 3 (by decide) f_16 (fun _ h9 => h9) rfl dX5_restore_36 ?_
          refine lv_iload_n hx hb dX5_restore_39 rfl (lv_at hl 1 rfl) ?_
          refine wI_alv (v := R 3 i) hx hb hK hP 3 0 rfl rfl i rfl (by omega) (by decide) rfl dX5_restore_40 ?_
          refine wI_ast hx hb hK hP hD hS 1 0 rfl rfl i rfl (by omega) (by decide) dX5_restore_41 (fun H locs hP hD hS => ?_)
          have hP : va_P (dC, dI) vwCl (wMdl cy m0 a (upd I 0 0) (upr (upr R 1 (upd (cpR (R 3) (R 1) i) i (R 3 i))) 2 (cpR (R 1) (R 2) 58))) H := hP
          have hD : va_D A (wMdl cy m0 a (upd I 0 0) (upr (upr R 1 (upd (cpR (R 3) (R 1) i) i (R 3 i))) 2 (cpR (R 1) (R 2) 58))) := hD
          refine lv_iinc (v := nI (i + 1)) (lv' := [(1, .int (nI (i + 1))), (0, .ref m0)]) hx hb dX5_restore_42 hl (k := 1) rfl (nI_1 _) (by decide) rfl (fun ls hl => ?_)
          refine lv_goto (tgt := 24) hx hb dX5_restore_45 (by decide) ?_
          exact ih24 (i + 1) ls (by omega) (by omega) _ _ (by rw [← cpR_s]; exact hP) (by rw [← cpR_s]; exact hD) hS (lv_sub hl [1, 0] rfl)
    exact loop24 59 0 ls (Nat.zero_le _) (by omega) _ _ (by rw [cpR_0]; exact hP) (by rw [cpR_0]; exact hD) hS (lv_sub hl [1, 0] rfl)
  · refine lv_aload_n hx hb dX5_restore_12 rfl (lv_at hl 0 rfl) ?_
    refine lv_iconst (v := 1) hx hb dX5_restore_13 (by decide) ?_
    have hPc := hP.sub (ws' := wMdl cy m0 a (upd I 0 0) R) [0, 1, 2, 3, 4, 5, 6, 7, 8, 9, 10, 11, 12] rfl
    have hDc := hD.sub (ws' := wMdl cy m0 a (upd I 0 0) R) [0, 1, 2, 3, 4, 5, 6, 7, 8, 9, 10, 11, 12] (by decide) rfl
    have hFc := va_free (wc := wMdl cy m0 a (upd I 0 0) R) hD hS hA [0, 1, 2, 3, 4, 5, 6, 7, 8, 9, 10, 11, 12] rfl
    refine va_calli (va_runV (As := [.int 1]) (rest := []) ⟨hx, hb, hml, hown, hts⟩ (c_X5_fails l dC dI cy H.size m0 a (upd I 0 0) R 1  ) (cwV 1 hts gX5_restore_X5_fails rfl rfl rfl (by decide +kernel) ⟨Nat.le_of_ble_eq_true rfl, Nat.le_of_ble_eq_true rfl⟩) ⟨bl_in, va_recv hK hPc (ci := 5) (q0 := 0) rfl rfl, pr_in hPc hE hDc⟩ rfl rfl hl.1 rfl (lv_room (Nat.le_of_ble_eq_true rfl)) dX5_restore_14 ⟨Nat.le_of_ble_eq_true rfl, Nat.le_of_ble_eq_true rfl⟩) hS (fun q _ h => hFc q h) hFc (fun r u t H1 locs ht hvm hw hB hz1 hk1 hS => ?_)
    obtain rfl := hw
    obtain ⟨hP1, hD1⟩ := hB
    rw [ht] at hP1
    obtain ⟨hP, hD⟩ := va_join (wr := []) (w1 := wMdl cy m0 a (upd I 0 1) R) hP hD [0, 1, 2, 3, 4, 5, 6, 7, 8, 9, 10, 11, 12] [] rfl rfl (by decide) (by decide) hk1 hFc hP1 hD1
    have hP : va_P (dC, dI) vwCl (wMdl cy m0 a (upd I 0 1) R) H1 := hP.sub [0, 1, 2, 3, 4, 5, 6, 7, 8, 9, 10, 11, 12] rfl
    have hD : va_D A (wMdl cy m0 a (upd I 0 1) R) := hD.sub [0, 1, 2, 3, 4, 5, 6, 7, 8, 9, 10, 11, 12] (by decide) rfl
    clear hz1 hk1 hPc hDc hFc hP1 hD1
    generalize H1 = H at hP hS ⊢
    have hP9 : va_P (dC, dI) vwCl (wMdl cy m0 a (upd I 0 1) R) H := hP
    have hD9 : va_D A (wMdl cy m0 a (upd I 0 1) R) := hD
    exact W.iret (v := 0) hx hb hr (fun t ht hW => ⟨⟨0, (upd I 0 1, R), rfl, (Or.inl ⟨c_9, rfl⟩), by rw [ht]; exact hP9, hD9⟩, hS.F ht⟩) hS.2.2 dX5_restore_17
set_option maxHeartbeats 1000000 in
set_option maxRecDepth 100000 in
/-- the level of a task is set -/
theorem c_X5_setLevel (l : Launch) (dC : Nat → ClassId) (dI : Nat → Nat → Nat) (cy : Nat → ClassId) (sz : Nat) (m0 : Nat) (a : Nat → Nat) (I : Nat → Int32) (R : vG) (n : Nat) (hn : n ≤ 8) (hS0 : R 1 0 = nI n) (G : vG) (hagr : agr (Gs (R 1)) G n) (hG0 : okG G n) (ch : Nat) (hch : ch ≤ 6) (hI5 : I 5 = nI ch) (p0 p1 : Int32) : Met l yX5_setLevel wsX5_setLevel ({ frames := 7, cells := 0, slots := 0, locals := 158 }) (va_Pc [.ref m0, .int p0, .int p1] (pIn dC dI cy (wMdl cy m0 a I R) sz)) (va_Qi (fun (r : Int32) u => qSetL I R n G ch p0 p1 r u) (fun (u : (Nat → Int32) × vG) t => va_P (dC, dI) vwCl (wMdl cy m0 a u.1 u.2) t.heap ∧ va_D (va_A (wMdl cy m0 a I R) sz) (wMdl cy m0 a u.1 u.2)) (va_A (wMdl cy m0 a I R) sz)) 0 0 (va_A (wMdl cy m0 a I R) sz) := by
  refine Met.ofW (cc := cX5_setLevel) (maxL := 4) (ret := some .int) (by decide) rfl ?_
  intro p e s m args below meth c s₁ B hml hv
  obtain ⟨rfl, hsz, hP, hE, hD0⟩ := hv
  have hK := hE.1
  subst hsz
  have hD := hD0.self (sz := s.heap.size)
  generalize hAe : va_A (wMdl cy m0 a I R) s.heap.size = A at hD ⊢
  have hA : ∀ q : Nat, s.heap.size ≤ q → A q := fun q h => by rw [← hAe]; exact Or.inr h
  have hS : va_S A s.heap s.heap [] := va_S.rf
  have hP : va_P (dC, dI) vwCl (wMdl cy m0 a I R) s.heap := hP
  have hx := B.exec
  have hb := B.bytes
  have hr := B.returns
  have hts := atoms_spec (ws := wsX5_setLevel) B.pre
  have hown : s.vm.findClass RX5 = some m.cls := findClass_of_methodNamed B.named
  have hlocks := B.notSynchronized
  have hin5 : ∀ w ∈ u_ws RX5 TX5 32, w ∈ wsX5_setLevel := by decide +kernel
  have f_50 := hts (.fieldLink RX5 50 "DeadlineAdmissionModel" "thrown" "I") (by decide +kernel)
  have f_9 := hts (.fieldLink RX5 9 "DeadlineAdmissionModel" "s" "[I") (by decide +kernel)
  have hl := lv_entry ([.ref m0, .int p0, .int p1]) (n := 4) (Nat.le_of_ble_eq_true rfl)
  rw [lg_entry_eq]
  generalize (lg_sl ([.ref m0, .int p0, .int p1]) ++ List.replicate (4 - (lg_sl ([.ref m0, .int p0, .int p1])).length) Slot.unset).toArray = ls at hl ⊢
  have hl : lv_has ls 4 [(0, .ref m0), (1, .int p0), (2, .int p1)] := hl
  refine lv_aload_n hx hb dX5_setLevel_0 rfl (lv_at hl 0 rfl) ?_
  refine lv_iconst (v := 0) hx hb dX5_setLevel_1 (by decide) ?_
  refine va_put (D := (dC, dI)) (ci := 5) (v := .int 0) (ty := .int) (C := RX5) (T := TX5) (N := 32) hx hb hts hin5 tyX5 tyX5_ok nmX5 hown hK hP hD hS 0 rfl rfl 0 (by decide) f_50 (fun _ h9 => h9) rfl (by decide +kernel) rfl rfl (Nat.le_of_ble_eq_true rfl) dX5_setLevel_2 (fun H locs hP hD hS => ?_)
  have hP : va_P (dC, dI) vwCl (wMdl cy m0 a (upd I 0 0) R) H := hP
  have hD : va_D A (wMdl cy m0 a (upd I 0 0) R) := hD
  refine lv_aload_n hx hb dX5_setLevel_5 rfl (lv_at hl 0 rfl) ?_
  refine lv_iload_n hx hb dX5_setLevel_6 rfl (lv_at hl 1 rfl) ?_
  refine vp_callSi (va_runV (As := [.int p0]) (rest := []) ⟨hx, hb, hml, hown, hts⟩ (c_X5_isTask l dC dI cy m0 a (upd I 0 0) R n hS0 p0) (cwV 1 hts gX5_setLevel_X5_isTask rfl rfl rfl (by decide +kernel) ⟨Nat.le_of_ble_eq_true rfl, Nat.le_of_ble_eq_true rfl⟩) ⟨bl_ro, va_recv hK hP (ci := 5) (q0 := 0) rfl rfl, pr_ro hP hE⟩ rfl rfl hl.1 rfl (lv_room (Nat.le_of_ble_eq_true rfl)) dX5_setLevel_7 ⟨Nat.le_of_ble_eq_true rfl, Nat.le_of_ble_eq_true rfl⟩).run (fun r e_r => ?_)
  subst e_r
  refine lv_topi (fun y_ ey_ => ?_)
  obtain rfl : y_ = if ¬ p0 < 0 ∧ ¬ nI n - 1 < p0 then 1 else 0 := ey_
  refine lv_if_ne (tgt := 19) hx hb dX5_setLevel_10 (by decide) (fun c_10 => ?_) (fun c_10 => ?_)
  · obtain ⟨i, hin, rfl⟩ := isT hn p0 (nb10 c_10)
    refine lv_iload_n hx hb dX5_setLevel_19 rfl (lv_at hl 2 rfl) ?_
    refine lv_iconst (v := 0) hx hb dX5_setLevel_20 (by decide) ?_
    refine lv_aload_n hx hb dX5_setLevel_21 rfl (lv_at hl 0 rfl) ?_
    refine va_get (D := (dC, dI)) (ci := 5) (v := .ref (a 1)) (C := RX5) (T := TX5) (N := 32) hx hb hts hin5 hown hK hP 0 rfl rfl 1 (by decide) f_9 (fun _ h9 => h9) rfl dX5_setLevel_22 ?_
    refine lv_bipush (v := 42) hx hb dX5_setLevel_25 (by decide) ?_
    refine lv_iload_n hx hb dX5_setLevel_27 rfl (lv_at hl 1 rfl) ?_
    refine lv_iadd hx hb dX5_setLevel_28 ?_
    refine wI_alv (v := Gs (R 1) 5 i) hx hb hK hP 1 0 rfl rfl (42 + i) (nadd rfl rfl) (by omega) (by decide) rfl dX5_setLevel_29 ?_
    refine vp_callSi (va_runS (As := [.int p1, .int 0, .int (Gs (R 1) 5 i)]) (rest := []) ⟨hx, hb, hml, hown, hts⟩ (c_X5_in l p1 0 (Gs (R 1) 5 i)) (cwS 3 hts gX5_setLevel_X5_in rfl rfl rfl (by decide +kernel) ⟨Nat.le_of_ble_eq_true rfl, Nat.le_of_ble_eq_true rfl⟩) ⟨fun a U g mk q => q, fun U hU hW => ⟨rfl, trivial⟩⟩ rfl rfl hl.1 rfl (lv_room (Nat.le_of_ble_eq_true rfl)) dX5_setLevel_30 ⟨Nat.le_of_ble_eq_true rfl, Nat.le_of_ble_eq_true rfl⟩).run (fun r e_r => ?_)
    subst e_r
    refine lv_topi (fun y_ ey_ => ?_)
    obtain rfl : y_ = if ¬ p1 < 0 ∧ ¬ (Gs (R 1) 5 i) < p1 then 1 else 0 := ey_
    refine lv_if_ne (tgt := 42) hx hb dX5_setLevel_33 (by decide) (fun c_33 => ?_) (fun c_33 => ?_)
    · have hp1 : inr p1 0 (G 5 i) := by have h := nb10 c_33; rw [hagr 5 (by decide) i hin] at h; exact h
      obtain ⟨lv, hlv8, rfl⟩ := nI_of hp1.1
      have hle : nI lv ≤ G 5 i := Int32.not_lt.mp hp1.2
      have hlv9 : lv < 8 := by obtain ⟨P, D, L, H, im, mo, lv0, e0, e1, e2, e3, e4, e5, e6, hr9⟩ := hG0 i hin; rw [e5] at hle; have := (nI_leI (by omega) (by omega)).mp hle; omega
      have ho1 : okG (up2 G 6 i (nI lv)) n := okG_lev hG0 rfl hle hlv9
      have hg1 : agr (Gs (upd (R 1) (50 + i) (nI lv))) (up2 G 6 i (nI lv)) n := agr_lev hn (by omega) hagr
      refine lv_aload_n hx hb dX5_setLevel_42 rfl (lv_at hl 0 rfl) ?_
      have hPc := hP.sub (ws' := wMdl cy m0 a (upd I 0 0) R) [0, 1, 2, 3, 4, 5, 6, 7, 8, 9, 10, 11, 12] rfl
      have hDc := hD.sub (ws' := wMdl cy m0 a (upd I 0 0) R) [0, 1, 2, 3, 4, 5, 6, 7, 8, 9, 10, 11, 12] (by decide) rfl
      have hFc := va_free (wc := wMdl cy m0 a (upd I 0 0) R) hD hS hA [0, 1, 2, 3, 4, 5, 6, 7, 8, 9, 10, 11, 12] rfl
      refine va_callv (va_runV (As := []) (rest := []) ⟨hx, hb, hml, hown, hts⟩ (c_X5_keeps l dC dI cy H.size m0 a (upd I 0 0) R   ) (cwV 0 hts gX5_setLevel_X5_keeps rfl rfl rfl (by decide +kernel) ⟨Nat.le_of_ble_eq_true rfl, Nat.le_of_ble_eq_true rfl⟩) ⟨bl_in, va_recv hK hPc (ci := 5) (q0 := 0) rfl rfl, pr_in hPc hE hDc⟩ rfl rfl hl.1 rfl (lv_room (Nat.le_of_ble_eq_true rfl)) dX5_setLevel_43 ⟨Nat.le_of_ble_eq_true rfl, Nat.le_of_ble_eq_true rfl⟩) hS (fun q _ h => hFc q h) hFc (fun u t H1 locs ht hvm hw hB hz1 hk1 hS => ?_)
      obtain ⟨hP1, hD1⟩ := hB
      rw [ht] at hP1
      obtain ⟨hP, hD⟩ := va_join (wr := []) (w1 := wMdl cy m0 a (upd I 0 0) (upr R 2 (cpR (R 1) (R 2) 58))) hP hD [0, 1, 2, 3, 4, 5, 6, 7, 8, 9, 10, 11, 12] [] rfl rfl (by decide) (by decide) hk1 hFc hP1 hD1
      have hP : va_P (dC, dI) vwCl (wMdl cy m0 a (upd I 0 0) (upr R 2 (cpR (R 1) (R 2) 58))) H1 := hP.sub [0, 1, 2, 3, 4, 5, 6, 7, 8, 9, 10, 11, 12] rfl
      have hD : va_D A (wMdl cy m0 a (upd I 0 0) (upr R 2 (cpR (R 1) (R 2) 58))) := hD.sub [0, 1, 2, 3, 4, 5, 6, 7, 8, 9, 10, 11, 12] (by decide) rfl
      clear hz1 hk1 hPc hDc hFc hP1 hD1
      generalize H1 = H at hP hS ⊢
      refine lv_aload_n hx hb dX5_setLevel_46 rfl (lv_at hl 0 rfl) ?_
      refine va_get (D := (dC, dI)) (ci := 5) (v := .ref (a 1)) (C := RX5) (T := TX5) (N := 32) hx hb hts hin5 hown hK hP 0 rfl rfl 1 (by decide) f_9 (fun _ h9 => h9) rfl dX5_setLevel_47 ?_
      refine lv_bipush (v := 50) hx hb dX5_setLevel_50 (by decide) ?_
      refine lv_iload_n hx hb dX5_setLevel_52 rfl (lv_at hl 1 rfl) ?_
      refine lv_iadd hx hb dX5_setLevel_53 ?_
      refine wI_alv (v := Gs (R 1) 6 i) hx hb hK hP 1 0 rfl rfl (50 + i) (nadd rfl rfl) (by omega) (by decide) rfl dX5_setLevel_54 ?_
      refine lv_istore_n (lv' := [(3, .int (Gs (R 1) 6 i)), (0, .ref m0), (1, .int (nI i)), (2, .int (nI lv))]) hx hb dX5_setLevel_55 rfl hl (by decide) rfl (fun ls hl => ?_)
      refine lv_aload_n hx hb dX5_setLevel_56 rfl (lv_at hl 1 rfl) ?_
      refine va_get (D := (dC, dI)) (ci := 5) (v := .ref (a 1)) (C := RX5) (T := TX5) (N := 32) hx hb hts hin5 hown hK hP 0 rfl rfl 1 (by decide) f_9 (fun _ h9 => h9) rfl dX5_setLevel_57 ?_
      refine lv_bipush (v := 50) hx hb dX5_setLevel_60 (by decide) ?_
      refine lv_iload_n hx hb dX5_setLevel_62 rfl (lv_at hl 2 rfl) ?_
      refine lv_iadd hx hb dX5_setLevel_63 ?_
      refine lv_iload_n hx hb dX5_setLevel_64 rfl (lv_at hl 3 rfl) ?_
      refine wI_ast hx hb hK hP hD hS 1 0 rfl rfl (50 + i) (nadd rfl rfl) (by omega) (by decide) dX5_setLevel_65 (fun H locs hP hD hS => ?_)
      have hP : va_P (dC, dI) vwCl (wMdl cy m0 a (upd I 0 0) (upr (upr R 1 (upd (R 1) (50 + i) (nI lv))) 2 (cpR (R 1) (R 2) 58))) H := hP
      have hD : va_D A (wMdl cy m0 a (upd I 0 0) (upr (upr R 1 (upd (R 1) (50 + i) (nI lv))) 2 (cpR (R 1) (R 2) 58))) := hD
      refine lv_aload_n hx hb dX5_setLevel_66 rfl (lv_at hl 1 rfl) ?_
      have hPc := hP.sub (ws' := wMdl cy m0 a (upd I 0 0) (upr (upr R 1 (upd (R 1) (50 + i) (nI lv))) 2 (cpR (R 1) (R 2) 58))) [0, 1, 2, 3, 4, 5, 6, 7, 8, 9, 10, 11, 12] rfl
      have hDc := hD.sub (ws' := wMdl cy m0 a (upd I 0 0) (upr (upr R 1 (upd (R 1) (50 + i) (nI lv))) 2 (cpR (R 1) (R 2) 58))) [0, 1, 2, 3, 4, 5, 6, 7, 8, 9, 10, 11, 12] (by decide) rfl
      have hFc := va_free (wc := wMdl cy m0 a (upd I 0 0) (upr (upr R 1 (upd (R 1) (50 + i) (nI lv))) 2 (cpR (R 1) (R 2) 58))) hD hS hA [0, 1, 2, 3, 4, 5, 6, 7, 8, 9, 10, 11, 12] rfl
      refine va_calli (va_runV (As := []) (rest := []) ⟨hx, hb, hml, hown, hts⟩ (c_X5_scales l dC dI cy H.size m0 a (upd I 0 0) (upr (upr R 1 (upd (R 1) (50 + i) (nI lv))) 2 (cpR (R 1) (R 2) 58)) n hn (show (upd (R 1) (50 + i) (nI lv)) 0 = nI n from by rw [pk_un (by omega)]; exact hS0) (okG_agr hg1.symm ho1)) (cwV 0 hts gX5_setLevel_X5_scales rfl rfl rfl (by decide +kernel) ⟨Nat.le_of_ble_eq_true rfl, Nat.le_of_ble_eq_true rfl⟩) ⟨bl_in, va_recv hK hPc (ci := 5) (q0 := 0) rfl rfl, pr_in hPc hE hDc⟩ rfl rfl hl.1 rfl (lv_room (Nat.le_of_ble_eq_true rfl)) dX5_setLevel_67 ⟨Nat.le_of_ble_eq_true rfl, Nat.le_of_ble_eq_true rfl⟩) hS (fun q _ h => hFc q h) hFc (fun r u t H1 locs ht hvm hw hB hz1 hk1 hS => ?_)
      obtain ⟨rfl, rfl⟩ := hw
      obtain ⟨hP1, hD1⟩ := hB
      rw [ht] at hP1
      obtain ⟨hP, hD⟩ := va_join (wr := []) (w1 := wMdl cy m0 a (upd I 0 0) (upr (upr R 1 (upd (upd (R 1) (50 + i) (nI lv)) 1 (if gscale (Gs (upd (R 1) (50 + i) (nI lv))) n = 0 then 1 else nI (gscale (Gs (upd (R 1) (50 + i) (nI lv))) n)))) 2 (cpR (R 1) (R 2) 58))) hP hD [0, 1, 2, 3, 4, 5, 6, 7, 8, 9, 10, 11, 12] [] rfl rfl (by decide) (by decide) hk1 hFc hP1 hD1
      have hP : va_P (dC, dI) vwCl (wMdl cy m0 a (upd I 0 0) (upr (upr R 1 (upd (upd (R 1) (50 + i) (nI lv)) 1 (if gscale (Gs (upd (R 1) (50 + i) (nI lv))) n = 0 then 1 else nI (gscale (Gs (upd (R 1) (50 + i) (nI lv))) n)))) 2 (cpR (R 1) (R 2) 58))) H1 := hP.sub [0, 1, 2, 3, 4, 5, 6, 7, 8, 9, 10, 11, 12] rfl
      have hD : va_D A (wMdl cy m0 a (upd I 0 0) (upr (upr R 1 (upd (upd (R 1) (50 + i) (nI lv)) 1 (if gscale (Gs (upd (R 1) (50 + i) (nI lv))) n = 0 then 1 else nI (gscale (Gs (upd (R 1) (50 + i) (nI lv))) n)))) 2 (cpR (R 1) (R 2) 58))) := hD.sub [0, 1, 2, 3, 4, 5, 6, 7, 8, 9, 10, 11, 12] (by decide) rfl
      clear hz1 hk1 hPc hDc hFc hP1 hD1
      generalize H1 = H at hP hS ⊢
      refine lv_topi (fun y_ ey_ => ?_)
      obtain rfl : y_ = if gscale (Gs (upd (R 1) (50 + i) (nI lv))) n = 0 then 0 else 1 := ey_
      refine lv_if_ne (tgt := 83) hx hb dX5_setLevel_70 (by decide) (fun c_70 => ?_) (fun c_70 => ?_)
      · have g0 : ¬ gscale (Gs (upd (R 1) (50 + i) (nI lv))) n = 0 := fun h => c_70 (b01.mpr h)
        have g1 : ¬ gscale (up2 G 6 i (nI lv)) n = 0 := by rw [← gscale_agr hg1]; exact g0
        refine lv_aload_n hx hb dX5_setLevel_83 rfl (lv_at hl 1 rfl) ?_
        have hPc := hP.sub (ws' := wMdl cy m0 a (upd I 0 0) (upr (upr R 1 (upd (upd (R 1) (50 + i) (nI lv)) 1 (if gscale (Gs (upd (R 1) (50 + i) (nI lv))) n = 0 then 1 else nI (gscale (Gs (upd (R 1) (50 + i) (nI lv))) n)))) 2 (cpR (R 1) (R 2) 58))) [0, 1, 2, 3, 4, 5, 6, 7, 8, 9, 10, 11, 12] rfl
        have hDc := hD.sub (ws' := wMdl cy m0 a (upd I 0 0) (upr (upr R 1 (upd (upd (R 1) (50 + i) (nI lv)) 1 (if gscale (Gs (upd (R 1) (50 + i) (nI lv))) n = 0 then 1 else nI (gscale (Gs (upd (R 1) (50 + i) (nI lv))) n)))) 2 (cpR (R 1) (R 2) 58))) [0, 1, 2, 3, 4, 5, 6, 7, 8, 9, 10, 11, 12] (by decide) rfl
        have hFc := va_free (wc := wMdl cy m0 a (upd I 0 0) (upr (upr R 1 (upd (upd (R 1) (50 + i) (nI lv)) 1 (if gscale (Gs (upd (R 1) (50 + i) (nI lv))) n = 0 then 1 else nI (gscale (Gs (upd (R 1) (50 + i) (nI lv))) n)))) 2 (cpR (R 1) (R 2) 58))) hD hS hA [0, 1, 2, 3, 4, 5, 6, 7, 8, 9, 10, 11, 12] rfl
        refine va_callv (va_runV (As := []) (rest := []) ⟨hx, hb, hml, hown, hts⟩ (c_X5_records l dC dI cy H.size m0 a (upd I 0 0) (upr (upr R 1 (upd (upd (R 1) (50 + i) (nI lv)) 1 (if gscale (Gs (upd (R 1) (50 + i) (nI lv))) n = 0 then 1 else nI (gscale (Gs (upd (R 1) (50 + i) (nI lv))) n)))) 2 (cpR (R 1) (R 2) 58))   ch hch hI5) (cwV 0 hts gX5_setLevel_X5_records rfl rfl rfl (by decide +kernel) ⟨Nat.le_of_ble_eq_true rfl, Nat.le_of_ble_eq_true rfl⟩) ⟨bl_in, va_recv hK hPc (ci := 5) (q0 := 0) rfl rfl, pr_in hPc hE hDc⟩ rfl rfl hl.1 rfl (lv_room (Nat.le_of_ble_eq_true rfl)) dX5_setLevel_84 ⟨Nat.le_of_ble_eq_true rfl, Nat.le_of_ble_eq_true rfl⟩) hS (fun q _ h => hFc q h) hFc (fun u t H1 locs ht hvm hw hB hz1 hk1 hS => ?_)
        obtain ⟨hP1, hD1⟩ := hB
        rw [ht] at hP1
        obtain ⟨hP, hD⟩ := va_join (wr := []) (w1 := wMdl cy m0 a (upd (upd (upd I 0 0) 5 (nI (hcnt ch))) 14 0) (upr (upr (upr R 1 (upd (upd (R 1) (50 + i) (nI lv)) 1 (if gscale (Gs (upd (R 1) (50 + i) (nI lv))) n = 0 then 1 else nI (gscale (Gs (upd (R 1) (50 + i) (nI lv))) n)))) 2 (cpR (R 1) (R 2) 58)) 4 (hrec (R 4) (cpR (R 1) (R 2) 58) ch))) hP hD [0, 1, 2, 3, 4, 5, 6, 7, 8, 9, 10, 11, 12] [] rfl rfl (by decide) (by decide) hk1 hFc hP1 hD1
        have hP : va_P (dC, dI) vwCl (wMdl cy m0 a (upd (upd (upd I 0 0) 5 (nI (hcnt ch))) 14 0) (upr (upr (upr R 1 (upd (upd (R 1) (50 + i) (nI lv)) 1 (if gscale (Gs (upd (R 1) (50 + i) (nI lv))) n = 0 then 1 else nI (gscale (Gs (upd (R 1) (50 + i) (nI lv))) n)))) 2 (cpR (R 1) (R 2) 58)) 4 (hrec (R 4) (cpR (R 1) (R 2) 58) ch))) H1 := hP.sub [0, 1, 2, 3, 4, 5, 6, 7, 8, 9, 10, 11, 12] rfl
        have hD : va_D A (wMdl cy m0 a (upd (upd (upd I 0 0) 5 (nI (hcnt ch))) 14 0) (upr (upr (upr R 1 (upd (upd (R 1) (50 + i) (nI lv)) 1 (if gscale (Gs (upd (R 1) (50 + i) (nI lv))) n = 0 then 1 else nI (gscale (Gs (upd (R 1) (50 + i) (nI lv))) n)))) 2 (cpR (R 1) (R 2) 58)) 4 (hrec (R 4) (cpR (R 1) (R 2) 58) ch))) := hD.sub [0, 1, 2, 3, 4, 5, 6, 7, 8, 9, 10, 11, 12] (by decide) rfl
        clear hz1 hk1 hPc hDc hFc hP1 hD1
        generalize H1 = H at hP hS ⊢
        refine lv_iload_n hx hb dX5_setLevel_87 rfl (lv_at hl 0 rfl) ?_
        have hP9 : va_P (dC, dI) vwCl (wMdl cy m0 a (upd (upd (upd I 0 0) 5 (nI (hcnt ch))) 14 0) (upr (upr (upr R 1 (upd (upd (R 1) (50 + i) (nI lv)) 1 (if gscale (Gs (upd (R 1) (50 + i) (nI lv))) n = 0 then 1 else nI (gscale (Gs (upd (R 1) (50 + i) (nI lv))) n)))) 2 (cpR (R 1) (R 2) 58)) 4 (hrec (R 4) (cpR (R 1) (R 2) 58) ch))) H := hP
        have hD9 : va_D A (wMdl cy m0 a (upd (upd (upd I 0 0) 5 (nI (hcnt ch))) 14 0) (upr (upr (upr R 1 (upd (upd (R 1) (50 + i) (nI lv)) 1 (if gscale (Gs (upd (R 1) (50 + i) (nI lv))) n = 0 then 1 else nI (gscale (Gs (upd (R 1) (50 + i) (nI lv))) n)))) 2 (cpR (R 1) (R 2) 58)) 4 (hrec (R 4) (cpR (R 1) (R 2) 58) ch))) := hD
        exact W.iret (v := Gs (R 1) 6 i) hx hb hr (fun t ht hW => ⟨⟨Gs (R 1) 6 i, (upd (upd (upd I 0 0) 5 (nI (hcnt ch))) 14 0, upr (upr (upr R 1 (upd (upd (R 1) (50 + i) (nI lv)) 1 (if gscale (Gs (upd (R 1) (50 + i) (nI lv))) n = 0 then 1 else nI (gscale (Gs (upd (R 1) (50 + i) (nI lv))) n)))) 2 (cpR (R 1) (R 2) 58)) 4 (hrec (R 4) (cpR (R 1) (R 2) 58) ch)), rfl, (Or.inr ⟨i, hin, rfl, Or.inr (Or.inr ⟨hp1, g1, hagr 6 (by decide) i hin, upd (upd (R 1) (50 + i) (nI lv)) 1 (if gscale (Gs (upd (R 1) (50 + i) (nI lv))) n = 0 then 1 else nI (gscale (Gs (upd (R 1) (50 + i) (nI lv))) n)), rfl, by rw [pk_un (by omega), pk_un (by omega)]; exact hS0, by rw [pk_us, if_neg g0, gscale_agr hg1], by rw [Gs_upd1]; exact hg1⟩)⟩), by rw [ht]; exact hP9, hD9⟩, hS.F ht⟩) hS.2.2 dX5_setLevel_88
      · have g0 := b01.mp c_70
        have g1 : gscale (up2 G 6 i (nI lv)) n = 0 := by rw [← gscale_agr hg1]; exact g0
        refine lv_aload_n hx hb dX5_setLevel_73 rfl (lv_at hl 1 rfl) ?_
        have hPc := hP.sub (ws' := wMdl cy m0 a (upd I 0 0) (upr (upr R 1 (upd (upd (R 1) (50 + i) (nI lv)) 1 (if gscale (Gs (upd (R 1) (50 + i) (nI lv))) n = 0 then 1 else nI (gscale (Gs (upd (R 1) (50 + i) (nI lv))) n)))) 2 (cpR (R 1) (R 2) 58))) [0, 1, 2, 3, 4, 5, 6, 7, 8, 9, 10, 11, 12] rfl
        have hDc := hD.sub (ws' := wMdl cy m0 a (upd I 0 0) (upr (upr R 1 (upd (upd (R 1) (50 + i) (nI lv)) 1 (if gscale (Gs (upd (R 1) (50 + i) (nI lv))) n = 0 then 1 else nI (gscale (Gs (upd (R 1) (50 + i) (nI lv))) n)))) 2 (cpR (R 1) (R 2) 58))) [0, 1, 2, 3, 4, 5, 6, 7, 8, 9, 10, 11, 12] (by decide) rfl
        have hFc := va_free (wc := wMdl cy m0 a (upd I 0 0) (upr (upr R 1 (upd (upd (R 1) (50 + i) (nI lv)) 1 (if gscale (Gs (upd (R 1) (50 + i) (nI lv))) n = 0 then 1 else nI (gscale (Gs (upd (R 1) (50 + i) (nI lv))) n)))) 2 (cpR (R 1) (R 2) 58))) hD hS hA [0, 1, 2, 3, 4, 5, 6, 7, 8, 9, 10, 11, 12] rfl
        refine va_callv (va_runV (As := []) (rest := []) ⟨hx, hb, hml, hown, hts⟩ (c_X5_goesBack l dC dI cy H.size m0 a (upd I 0 0) (upr (upr R 1 (upd (upd (R 1) (50 + i) (nI lv)) 1 (if gscale (Gs (upd (R 1) (50 + i) (nI lv))) n = 0 then 1 else nI (gscale (Gs (upd (R 1) (50 + i) (nI lv))) n)))) 2 (cpR (R 1) (R 2) 58))   ) (cwV 0 hts gX5_setLevel_X5_goesBack rfl rfl rfl (by decide +kernel) ⟨Nat.le_of_ble_eq_true rfl, Nat.le_of_ble_eq_true rfl⟩) ⟨bl_in, va_recv hK hPc (ci := 5) (q0 := 0) rfl rfl, pr_in hPc hE hDc⟩ rfl rfl hl.1 rfl (lv_room (Nat.le_of_ble_eq_true rfl)) dX5_setLevel_74 ⟨Nat.le_of_ble_eq_true rfl, Nat.le_of_ble_eq_true rfl⟩) hS (fun q _ h => hFc q h) hFc (fun u t H1 locs ht hvm hw hB hz1 hk1 hS => ?_)
        obtain ⟨hP1, hD1⟩ := hB
        rw [ht] at hP1
        obtain ⟨hP, hD⟩ := va_join (wr := []) (w1 := wMdl cy m0 a (upd I 0 0) (upr (upr R 1 (cpR (cpR (R 1) (R 2) 58) (upd (upd (R 1) (50 + i) (nI lv)) 1 (if gscale (Gs (upd (R 1) (50 + i) (nI lv))) n = 0 then 1 else nI (gscale (Gs (upd (R 1) (50 + i) (nI lv))) n))) 58)) 2 (cpR (R 1) (R 2) 58))) hP hD [0, 1, 2, 3, 4, 5, 6, 7, 8, 9, 10, 11, 12] [] rfl rfl (by decide) (by decide) hk1 hFc hP1 hD1
        have hP : va_P (dC, dI) vwCl (wMdl cy m0 a (upd I 0 0) (upr (upr R 1 (cpR (cpR (R 1) (R 2) 58) (upd (upd (R 1) (50 + i) (nI lv)) 1 (if gscale (Gs (upd (R 1) (50 + i) (nI lv))) n = 0 then 1 else nI (gscale (Gs (upd (R 1) (50 + i) (nI lv))) n))) 58)) 2 (cpR (R 1) (R 2) 58))) H1 := hP.sub [0, 1, 2, 3, 4, 5, 6, 7, 8, 9, 10, 11, 12] rfl
        have hD : va_D A (wMdl cy m0 a (upd I 0 0) (upr (upr R 1 (cpR (cpR (R 1) (R 2) 58) (upd (upd (R 1) (50 + i) (nI lv)) 1 (if gscale (Gs (upd (R 1) (50 + i) (nI lv))) n = 0 then 1 else nI (gscale (Gs (upd (R 1) (50 + i) (nI lv))) n))) 58)) 2 (cpR (R 1) (R 2) 58))) := hD.sub [0, 1, 2, 3, 4, 5, 6, 7, 8, 9, 10, 11, 12] (by decide) rfl
        clear hz1 hk1 hPc hDc hFc hP1 hD1
        generalize H1 = H at hP hS ⊢
        refine lv_aload_n hx hb dX5_setLevel_77 rfl (lv_at hl 1 rfl) ?_
        refine lv_iconst (v := 3) hx hb dX5_setLevel_78 (by decide) ?_
        have hPc := hP.sub (ws' := wMdl cy m0 a (upd I 0 0) (upr (upr R 1 (cpR (cpR (R 1) (R 2) 58) (upd (upd (R 1) (50 + i) (nI lv)) 1 (if gscale (Gs (upd (R 1) (50 + i) (nI lv))) n = 0 then 1 else nI (gscale (Gs (upd (R 1) (50 + i) (nI lv))) n))) 58)) 2 (cpR (R 1) (R 2) 58))) [0, 1, 2, 3, 4, 5, 6, 7, 8, 9, 10, 11, 12] rfl
        have hDc := hD.sub (ws' := wMdl cy m0 a (upd I 0 0) (upr (upr R 1 (cpR (cpR (R 1) (R 2) 58) (upd (upd (R 1) (50 + i) (nI lv)) 1 (if gscale (Gs (upd (R 1) (50 + i) (nI lv))) n = 0 then 1 else nI (gscale (Gs (upd (R 1) (50 + i) (nI lv))) n))) 58)) 2 (cpR (R 1) (R 2) 58))) [0, 1, 2, 3, 4, 5, 6, 7, 8, 9, 10, 11, 12] (by decide) rfl
        have hFc := va_free (wc := wMdl cy m0 a (upd I 0 0) (upr (upr R 1 (cpR (cpR (R 1) (R 2) 58) (upd (upd (R 1) (50 + i) (nI lv)) 1 (if gscale (Gs (upd (R 1) (50 + i) (nI lv))) n = 0 then 1 else nI (gscale (Gs (upd (R 1) (50 + i) (nI lv))) n))) 58)) 2 (cpR (R 1) (R 2) 58))) hD hS hA [0, 1, 2, 3, 4, 5, 6, 7, 8, 9, 10, 11, 12] rfl
        refine va_calli (va_runV (As := [.int 3]) (rest := []) ⟨hx, hb, hml, hown, hts⟩ (c_X5_fails l dC dI cy H.size m0 a (upd I 0 0) (upr (upr R 1 (cpR (cpR (R 1) (R 2) 58) (upd (upd (R 1) (50 + i) (nI lv)) 1 (if gscale (Gs (upd (R 1) (50 + i) (nI lv))) n = 0 then 1 else nI (gscale (Gs (upd (R 1) (50 + i) (nI lv))) n))) 58)) 2 (cpR (R 1) (R 2) 58)) 3  ) (cwV 1 hts gX5_setLevel_X5_fails rfl rfl rfl (by decide +kernel) ⟨Nat.le_of_ble_eq_true rfl, Nat.le_of_ble_eq_true rfl⟩) ⟨bl_in, va_recv hK hPc (ci := 5) (q0 := 0) rfl rfl, pr_in hPc hE hDc⟩ rfl rfl hl.1 rfl (lv_room (Nat.le_of_ble_eq_true rfl)) dX5_setLevel_79 ⟨Nat.le_of_ble_eq_true rfl, Nat.le_of_ble_eq_true rfl⟩) hS (fun q _ h => hFc q h) hFc (fun r u t H1 locs ht hvm hw hB hz1 hk1 hS => ?_)
        obtain rfl := hw
        obtain ⟨hP1, hD1⟩ := hB
        rw [ht] at hP1
        obtain ⟨hP, hD⟩ := va_join (wr := []) (w1 := wMdl cy m0 a (upd I 0 3) (upr (upr R 1 (cpR (cpR (R 1) (R 2) 58) (upd (upd (R 1) (50 + i) (nI lv)) 1 (if gscale (Gs (upd (R 1) (50 + i) (nI lv))) n = 0 then 1 else nI (gscale (Gs (upd (R 1) (50 + i) (nI lv))) n))) 58)) 2 (cpR (R 1) (R 2) 58))) hP hD [0, 1, 2, 3, 4, 5, 6, 7, 8, 9, 10, 11, 12] [] rfl rfl (by decide) (by decide) hk1 hFc hP1 hD1
        have hP : va_P (dC, dI) vwCl (wMdl cy m0 a (upd I 0 3) (upr (upr R 1 (cpR (cpR (R 1) (R 2) 58) (upd (upd (R 1) (50 + i) (nI lv)) 1 (if gscale (Gs (upd (R 1) (50 + i) (nI lv))) n = 0 then 1 else nI (gscale (Gs (upd (R 1) (50 + i) (nI lv))) n))) 58)) 2 (cpR (R 1) (R 2) 58))) H1 := hP.sub [0, 1, 2, 3, 4, 5, 6, 7, 8, 9, 10, 11, 12] rfl
        have hD : va_D A (wMdl cy m0 a (upd I 0 3) (upr (upr R 1 (cpR (cpR (R 1) (R 2) 58) (upd (upd (R 1) (50 + i) (nI lv)) 1 (if gscale (Gs (upd (R 1) (50 + i) (nI lv))) n = 0 then 1 else nI (gscale (Gs (upd (R 1) (50 + i) (nI lv))) n))) 58)) 2 (cpR (R 1) (R 2) 58))) := hD.sub [0, 1, 2, 3, 4, 5, 6, 7, 8, 9, 10, 11, 12] (by decide) rfl
        clear hz1 hk1 hPc hDc hFc hP1 hD1
        generalize H1 = H at hP hS ⊢
        have hP9 : va_P (dC, dI) vwCl (wMdl cy m0 a (upd I 0 3) (upr (upr R 1 (cpR (cpR (R 1) (R 2) 58) (upd (upd (R 1) (50 + i) (nI lv)) 1 (if gscale (Gs (upd (R 1) (50 + i) (nI lv))) n = 0 then 1 else nI (gscale (Gs (upd (R 1) (50 + i) (nI lv))) n))) 58)) 2 (cpR (R 1) (R 2) 58))) H := hP
        have hD9 : va_D A (wMdl cy m0 a (upd I 0 3) (upr (upr R 1 (cpR (cpR (R 1) (R 2) 58) (upd (upd (R 1) (50 + i) (nI lv)) 1 (if gscale (Gs (upd (R 1) (50 + i) (nI lv))) n = 0 then 1 else nI (gscale (Gs (upd (R 1) (50 + i) (nI lv))) n))) 58)) 2 (cpR (R 1) (R 2) 58))) := hD
        exact W.iret (v := 0) hx hb hr (fun t ht hW => ⟨⟨0, (upd I 0 3, upr (upr R 1 (cpR (cpR (R 1) (R 2) 58) (upd (upd (R 1) (50 + i) (nI lv)) 1 (if gscale (Gs (upd (R 1) (50 + i) (nI lv))) n = 0 then 1 else nI (gscale (Gs (upd (R 1) (50 + i) (nI lv))) n))) 58)) 2 (cpR (R 1) (R 2) 58)), rfl, (Or.inr ⟨i, hin, rfl, Or.inr (Or.inl ⟨hp1, g1, cpR (cpR (R 1) (R 2) 58) (upd (upd (R 1) (50 + i) (nI lv)) 1 (if gscale (Gs (upd (R 1) (50 + i) (nI lv))) n = 0 then 1 else nI (gscale (Gs (upd (R 1) (50 + i) (nI lv))) n))) 58, rfl, fun j hj => by simp only [cpR]; rw [if_pos hj, if_pos hj]⟩)⟩), by rw [ht]; exact hP9, hD9⟩, hS.F ht⟩) hS.2.2 dX5_setLevel_82
    · have hp1 : ¬ inr p1 0 (G 5 i) := by have h := b10.mp c_33; rw [hagr 5 (by decide) i hin] at h; exact h
      refine lv_aload_n hx hb dX5_setLevel_36 rfl (lv_at hl 0 rfl) ?_
      refine lv_iconst (v := 2) hx hb dX5_setLevel_37 (by decide) ?_
      have hPc := hP.sub (ws' := wMdl cy m0 a (upd I 0 0) R) [0, 1, 2, 3, 4, 5, 6, 7, 8, 9, 10, 11, 12] rfl
      have hDc := hD.sub (ws' := wMdl cy m0 a (upd I 0 0) R) [0, 1, 2, 3, 4, 5, 6, 7, 8, 9, 10, 11, 12] (by decide) rfl
      have hFc := va_free (wc := wMdl cy m0 a (upd I 0 0) R) hD hS hA [0, 1, 2, 3, 4, 5, 6, 7, 8, 9, 10, 11, 12] rfl
      refine va_calli (va_runV (As := [.int 2]) (rest := []) ⟨hx, hb, hml, hown, hts⟩ (c_X5_fails l dC dI cy H.size m0 a (upd I 0 0) R 2  ) (cwV 1 hts gX5_setLevel_X5_fails rfl rfl rfl (by decide +kernel) ⟨Nat.le_of_ble_eq_true rfl, Nat.le_of_ble_eq_true rfl⟩) ⟨bl_in, va_recv hK hPc (ci := 5) (q0 := 0) rfl rfl, pr_in hPc hE hDc⟩ rfl rfl hl.1 rfl (lv_room (Nat.le_of_ble_eq_true rfl)) dX5_setLevel_38 ⟨Nat.le_of_ble_eq_true rfl, Nat.le_of_ble_eq_true rfl⟩) hS (fun q _ h => hFc q h) hFc (fun r u t H1 locs ht hvm hw hB hz1 hk1 hS => ?_)
      obtain rfl := hw
      obtain ⟨hP1, hD1⟩ := hB
      rw [ht] at hP1
      obtain ⟨hP, hD⟩ := va_join (wr := []) (w1 := wMdl cy m0 a (upd I 0 2) R) hP hD [0, 1, 2, 3, 4, 5, 6, 7, 8, 9, 10, 11, 12] [] rfl rfl (by decide) (by decide) hk1 hFc hP1 hD1
      have hP : va_P (dC, dI) vwCl (wMdl cy m0 a (upd I 0 2) R) H1 := hP.sub [0, 1, 2, 3, 4, 5, 6, 7, 8, 9, 10, 11, 12] rfl
      have hD : va_D A (wMdl cy m0 a (upd I 0 2) R) := hD.sub [0, 1, 2, 3, 4, 5, 6, 7, 8, 9, 10, 11, 12] (by decide) rfl
      clear hz1 hk1 hPc hDc hFc hP1 hD1
      generalize H1 = H at hP hS ⊢
      have hP9 : va_P (dC, dI) vwCl (wMdl cy m0 a (upd I 0 2) R) H := hP
      have hD9 : va_D A (wMdl cy m0 a (upd I 0 2) R) := hD
      exact W.iret (v := 0) hx hb hr (fun t ht hW => ⟨⟨0, (upd I 0 2, R), rfl, (Or.inr ⟨i, hin, rfl, Or.inl ⟨hp1, rfl⟩⟩), by rw [ht]; exact hP9, hD9⟩, hS.F ht⟩) hS.2.2 dX5_setLevel_41
  · refine lv_aload_n hx hb dX5_setLevel_13 rfl (lv_at hl 0 rfl) ?_
    refine lv_iconst (v := 1) hx hb dX5_setLevel_14 (by decide) ?_
    have hPc := hP.sub (ws' := wMdl cy m0 a (upd I 0 0) R) [0, 1, 2, 3, 4, 5, 6, 7, 8, 9, 10, 11, 12] rfl
    have hDc := hD.sub (ws' := wMdl cy m0 a (upd I 0 0) R) [0, 1, 2, 3, 4, 5, 6, 7, 8, 9, 10, 11, 12] (by decide) rfl
    have hFc := va_free (wc := wMdl cy m0 a (upd I 0 0) R) hD hS hA [0, 1, 2, 3, 4, 5, 6, 7, 8, 9, 10, 11, 12] rfl
    refine va_calli (va_runV (As := [.int 1]) (rest := []) ⟨hx, hb, hml, hown, hts⟩ (c_X5_fails l dC dI cy H.size m0 a (upd I 0 0) R 1  ) (cwV 1 hts gX5_setLevel_X5_fails rfl rfl rfl (by decide +kernel) ⟨Nat.le_of_ble_eq_true rfl, Nat.le_of_ble_eq_true rfl⟩) ⟨bl_in, va_recv hK hPc (ci := 5) (q0 := 0) rfl rfl, pr_in hPc hE hDc⟩ rfl rfl hl.1 rfl (lv_room (Nat.le_of_ble_eq_true rfl)) dX5_setLevel_15 ⟨Nat.le_of_ble_eq_true rfl, Nat.le_of_ble_eq_true rfl⟩) hS (fun q _ h => hFc q h) hFc (fun r u t H1 locs ht hvm hw hB hz1 hk1 hS => ?_)
    obtain rfl := hw
    obtain ⟨hP1, hD1⟩ := hB
    rw [ht] at hP1
    obtain ⟨hP, hD⟩ := va_join (wr := []) (w1 := wMdl cy m0 a (upd I 0 1) R) hP hD [0, 1, 2, 3, 4, 5, 6, 7, 8, 9, 10, 11, 12] [] rfl rfl (by decide) (by decide) hk1 hFc hP1 hD1
    have hP : va_P (dC, dI) vwCl (wMdl cy m0 a (upd I 0 1) R) H1 := hP.sub [0, 1, 2, 3, 4, 5, 6, 7, 8, 9, 10, 11, 12] rfl
    have hD : va_D A (wMdl cy m0 a (upd I 0 1) R) := hD.sub [0, 1, 2, 3, 4, 5, 6, 7, 8, 9, 10, 11, 12] (by decide) rfl
    clear hz1 hk1 hPc hDc hFc hP1 hD1
    generalize H1 = H at hP hS ⊢
    have hP9 : va_P (dC, dI) vwCl (wMdl cy m0 a (upd I 0 1) R) H := hP
    have hD9 : va_D A (wMdl cy m0 a (upd I 0 1) R) := hD
    exact W.iret (v := 0) hx hb hr (fun t ht hW => ⟨⟨0, (upd I 0 1, R), rfl, (Or.inl ⟨cT_no hn (b10.mp c_10), rfl⟩), by rw [ht]; exact hP9, hD9⟩, hS.F ht⟩) hS.2.2 dX5_setLevel_18
set_option maxHeartbeats 1000000 in
set_option maxRecDepth 100000 in
/-- a task is removed -/
theorem c_X5_withdraw (l : Launch) (dC : Nat → ClassId) (dI : Nat → Nat → Nat) (cy : Nat → ClassId) (sz : Nat) (m0 : Nat) (a : Nat → Nat) (I : Nat → Int32) (R : vG) (n : Nat) (hn : n ≤ 8) (hS0 : R 1 0 = nI n) (G : vG) (hagr : agr (Gs (R 1)) G n) (hG0 : okG G n) (ch : Nat) (hch : ch ≤ 6) (hI5 : I 5 = nI ch) (p0 : Int32) : Met l yX5_withdraw wsX5_withdraw ({ frames := 7, cells := 0, slots := 0, locals := 158 }) (va_Pc [.ref m0, .int p0] (pIn dC dI cy (wMdl cy m0 a I R) sz)) (va_Qi (fun (r : Int32) u => qWith I R n G ch p0 r u) (fun (u : (Nat → Int32) × vG) t => va_P (dC, dI) vwCl (wMdl cy m0 a u.1 u.2) t.heap ∧ va_D (va_A (wMdl cy m0 a I R) sz) (wMdl cy m0 a u.1 u.2)) (va_A (wMdl cy m0 a I R) sz)) 0 0 (va_A (wMdl cy m0 a I R) sz) := by
  refine Met.ofW (cc := cX5_withdraw) (maxL := 4) (ret := some .int) (by decide) rfl ?_
  intro p e s m args below meth c s₁ B hml hv
  obtain ⟨rfl, hsz, hP, hE, hD0⟩ := hv
  have hK := hE.1
  subst hsz
  have hD := hD0.self (sz := s.heap.size)
  generalize hAe : va_A (wMdl cy m0 a I R) s.heap.size = A at hD ⊢
  have hA : ∀ q : Nat, s.heap.size ≤ q → A q := fun q h => by rw [← hAe]; exact Or.inr h
  have hS : va_S A s.heap s.heap [] := va_S.rf
  have hP : va_P (dC, dI) vwCl (wMdl cy m0 a I R) s.heap := hP
  have hx := B.exec
  have hb := B.bytes
  have hr := B.returns
  have hts := atoms_spec (ws := wsX5_withdraw) B.pre
  have hown : s.vm.findClass RX5 = some m.cls := findClass_of_methodNamed B.named
  have hlocks := B.notSynchronized
  have hin5 : ∀ w ∈ u_ws RX5 TX5 32, w ∈ wsX5_withdraw := by decide +kernel
  have f_50 := hts (.fieldLink RX5 50 "DeadlineAdmissionModel" "thrown" "I") (by decide +kernel)
  have f_9 := hts (.fieldLink RX5 9 "DeadlineAdmissionModel" "s" "[I") (by decide +kernel)
  have hl := lv_entry ([.ref m0, .int p0]) (n := 4) (Nat.le_of_ble_eq_true rfl)
  rw [lg_entry_eq]
  generalize (lg_sl ([.ref m0, .int p0]) ++ List.replicate (4 - (lg_sl ([.ref m0, .int p0])).length) Slot.unset).toArray = ls at hl ⊢
  have hl : lv_has ls 4 [(0, .ref m0), (1, .int p0)] := hl
  refine lv_aload_n hx hb dX5_withdraw_0 rfl (lv_at hl 0 rfl) ?_
  refine lv_iconst (v := 0) hx hb dX5_withdraw_1 (by decide) ?_
  refine va_put (D := (dC, dI)) (ci := 5) (v := .int 0) (ty := .int) (C := RX5) (T := TX5) (N := 32) hx hb hts hin5 tyX5 tyX5_ok nmX5 hown hK hP hD hS 0 rfl rfl 0 (by decide) f_50 (fun _ h9 => h9) rfl (by decide +kernel) rfl rfl (Nat.le_of_ble_eq_true rfl) dX5_withdraw_2 (fun H locs hP hD hS => ?_)
  have hP : va_P (dC, dI) vwCl (wMdl cy m0 a (upd I 0 0) R) H := hP
  have hD : va_D A (wMdl cy m0 a (upd I 0 0) R) := hD
  refine lv_aload_n hx hb dX5_withdraw_5 rfl (lv_at hl 0 rfl) ?_
  refine lv_iload_n hx hb dX5_withdraw_6 rfl (lv_at hl 1 rfl) ?_
  refine vp_callSi (va_runV (As := [.int p0]) (rest := []) ⟨hx, hb, hml, hown, hts⟩ (c_X5_isTask l dC dI cy m0 a (upd I 0 0) R n hS0 p0) (cwV 1 hts gX5_withdraw_X5_isTask rfl rfl rfl (by decide +kernel) ⟨Nat.le_of_ble_eq_true rfl, Nat.le_of_ble_eq_true rfl⟩) ⟨bl_ro, va_recv hK hP (ci := 5) (q0 := 0) rfl rfl, pr_ro hP hE⟩ rfl rfl hl.1 rfl (lv_room (Nat.le_of_ble_eq_true rfl)) dX5_withdraw_7 ⟨Nat.le_of_ble_eq_true rfl, Nat.le_of_ble_eq_true rfl⟩).run (fun r e_r => ?_)
  subst e_r
  refine lv_topi (fun y_ ey_ => ?_)
  obtain rfl : y_ = if ¬ p0 < 0 ∧ ¬ nI n - 1 < p0 then 1 else 0 := ey_
  refine lv_if_ne (tgt := 19) hx hb dX5_withdraw_10 (by decide) (fun c_10 => ?_) (fun c_10 => ?_)
  · obtain ⟨i, hin, rfl⟩ := isT hn p0 (nb10 c_10)
    obtain ⟨n, rfl⟩ : ∃ z, n = z + 1 := ⟨n - 1, by omega⟩
    refine lv_aload_n hx hb dX5_withdraw_19 rfl (lv_at hl 0 rfl) ?_
    have hPc := hP.sub (ws' := wMdl cy m0 a (upd I 0 0) R) [0, 1, 2, 3, 4, 5, 6, 7, 8, 9, 10, 11, 12] rfl
    have hDc := hD.sub (ws' := wMdl cy m0 a (upd I 0 0) R) [0, 1, 2, 3, 4, 5, 6, 7, 8, 9, 10, 11, 12] (by decide) rfl
    have hFc := va_free (wc := wMdl cy m0 a (upd I 0 0) R) hD hS hA [0, 1, 2, 3, 4, 5, 6, 7, 8, 9, 10, 11, 12] rfl
    refine va_callv (va_runV (As := []) (rest := []) ⟨hx, hb, hml, hown, hts⟩ (c_X5_keeps l dC dI cy H.size m0 a (upd I 0 0) R   ) (cwV 0 hts gX5_withdraw_X5_keeps rfl rfl rfl (by decide +kernel) ⟨Nat.le_of_ble_eq_true rfl, Nat.le_of_ble_eq_true rfl⟩) ⟨bl_in, va_recv hK hPc (ci := 5) (q0 := 0) rfl rfl, pr_in hPc hE hDc⟩ rfl rfl hl.1 rfl (lv_room (Nat.le_of_ble_eq_true rfl)) dX5_withdraw_20 ⟨Nat.le_of_ble_eq_true rfl, Nat.le_of_ble_eq_true rfl⟩) hS (fun q _ h => hFc q h) hFc (fun u t H1 locs ht hvm hw hB hz1 hk1 hS => ?_)
    obtain ⟨hP1, hD1⟩ := hB
    rw [ht] at hP1
    obtain ⟨hP, hD⟩ := va_join (wr := []) (w1 := wMdl cy m0 a (upd I 0 0) (upr R 2 (cpR (R 1) (R 2) 58))) hP hD [0, 1, 2, 3, 4, 5, 6, 7, 8, 9, 10, 11, 12] [] rfl rfl (by decide) (by decide) hk1 hFc hP1 hD1
    have hP : va_P (dC, dI) vwCl (wMdl cy m0 a (upd I 0 0) (upr R 2 (cpR (R 1) (R 2) 58))) H1 := hP.sub [0, 1, 2, 3, 4, 5, 6, 7, 8, 9, 10, 11, 12] rfl
    have hD : va_D A (wMdl cy m0 a (upd I 0 0) (upr R 2 (cpR (R 1) (R 2) 58))) := hD.sub [0, 1, 2, 3, 4, 5, 6, 7, 8, 9, 10, 11, 12] (by decide) rfl
    clear hz1 hk1 hPc hDc hFc hP1 hD1
    generalize H1 = H at hP hS ⊢
    refine lv_iconst (v := 2) hx hb dX5_withdraw_23 (by decide) ?_
    refine lv_istore_n (lv' := [(2, .int 2), (0, .ref m0), (1, .int (nI i))]) hx hb dX5_withdraw_24 rfl hl (by decide) rfl (fun ls hl => ?_)
    have loop25 : ∀ (k : Nat) (q : Nat) (ls : Array Slot), q ≤ 7 → 7 < q + k → ∀ (H : Heap) (locs : List Loc), va_P (dC, dI) vwCl (wMdl cy m0 a (upd I 0 0) (upr (upr R 1 (wdq (R 1) i q)) 2 (cpR (R 1) (R 2) 58))) H → va_D A (wMdl cy m0 a (upd I 0 0) (upr (upr R 1 (wdq (R 1) i q)) 2 (cpR (R 1) (R 2) 58))) → va_S A s.heap H locs → lv_has ls 4 [(0, .ref m0), (1, .int (nI i)), (2, .int (nI (2 + 8 * q)))] → W p l e (headSpec wsX5_withdraw ({ frames := 7, cells := 0, slots := 0, locals := 158 }) |>.room) s m (([.ref m0, .int (nI i)].toArray)) below meth c H locs 0 0 (MQ below (va_Qi (fun (r : Int32) u => qWith I R (n + 1) G ch (nI i) r u) (fun (u : (Nat → Int32) × vG) t => va_P (dC, dI) vwCl (wMdl cy m0 a u.1 u.2) t.heap ∧ va_D (A) (wMdl cy m0 a u.1 u.2)) (A)) ([.ref m0, .int (nI i)].toArray) s 0 0 A) (F0 m 25 ls []) := by
      intro k
      induction k with
      | zero =>
        intro q ls hq hk
        exfalso; omega
      | succ k ih25 =>
        intro q ls hq hk H locs hP hD hS hl
        refine lv_iload_n hx hb dX5_withdraw_25 rfl (lv_at hl 2 rfl) ?_
        refine lv_bipush (v := 58) hx hb dX5_withdraw_26 (by decide) ?_
        refine lv_icmp_ge (tgt := 69) hx hb dX5_withdraw_28 (by decide) (fun c_28 => ?_) (fun c_28 => ?_)
        · have e_q : q = 7 := by have := (nI_leI (a := 58) (b := 2 + 8 * q) (by omega) (by omega)).mp c_28; omega
          rw [e_q] at hP hD hl
          refine lv_aload_n hx hb dX5_withdraw_69 rfl (lv_at hl 0 rfl) ?_
          refine va_get (D := (dC, dI)) (ci := 5) (v := .ref (a 1)) (C := RX5) (T := TX5) (N := 32) hx hb hts hin5 hown hK hP 0 rfl rfl 1 (by decide) f_9 (fun _ h9 => h9) rfl dX5_withdraw_70 ?_
          refine lv_iconst (v := 0) hx hb dX5_withdraw_73 (by decide) ?_
          refine lv_dup2_11 hx hb dX5_withdraw_74 rfl rfl ?_
          refine wI_alv (v := nI (n + 1)) hx hb hK hP 1 0 rfl rfl 0 rfl (by omega) (by decide) (show (wdq (R 1) i 7) 0 = nI (n + 1) from by rw [wdq_low _ _ _ _ (by decide)]; exact hS0) dX5_withdraw_75 ?_
          refine lv_iconst (v := 1) hx hb dX5_withdraw_76 (by decide) ?_
          refine lv_isub hx hb dX5_withdraw_77 ?_
          refine lv_topi (fun y_ ey_ => ?_)
          obtain rfl : y_ = nI n := ey_.trans (nI_pred n)
          refine wI_ast hx hb hK hP hD hS 1 0 rfl rfl 0 rfl (by omega) (by decide) dX5_withdraw_78 (fun H locs hP hD hS => ?_)
          have hP : va_P (dC, dI) vwCl (wMdl cy m0 a (upd I 0 0) (upr (upr R 1 (upd (wdq (R 1) i 7) 0 (nI n))) 2 (cpR (R 1) (R 2) 58))) H := hP
          have hD : va_D A (wMdl cy m0 a (upd I 0 0) (upr (upr R 1 (upd (wdq (R 1) i 7) 0 (nI n))) 2 (cpR (R 1) (R 2) 58))) := hD
          have hg1 : agr (Gs (upd (wdq (R 1) i 7) 0 (nI n))) (rmG G i (n + 1)) n := agr_wd (by omega) (by omega) hagr
          refine lv_aload_n hx hb dX5_withdraw_79 rfl (lv_at hl 0 rfl) ?_
          have hPc := hP.sub (ws' := wMdl cy m0 a (upd I 0 0) (upr (upr R 1 (upd (wdq (R 1) i 7) 0 (nI n))) 2 (cpR (R 1) (R 2) 58))) [0, 1, 2, 3, 4, 5, 6, 7, 8, 9, 10, 11, 12] rfl
          have hDc := hD.sub (ws' := wMdl cy m0 a (upd I 0 0) (upr (upr R 1 (upd (wdq (R 1) i 7) 0 (nI n))) 2 (cpR (R 1) (R 2) 58))) [0, 1, 2, 3, 4, 5, 6, 7, 8, 9, 10, 11, 12] (by decide) rfl
          have hFc := va_free (wc := wMdl cy m0 a (upd I 0 0) (upr (upr R 1 (upd (wdq (R 1) i 7) 0 (nI n))) 2 (cpR (R 1) (R 2) 58))) hD hS hA [0, 1, 2, 3, 4, 5, 6, 7, 8, 9, 10, 11, 12] rfl
          refine va_calli (va_runV (As := []) (rest := []) ⟨hx, hb, hml, hown, hts⟩ (c_X5_scales l dC dI cy H.size m0 a (upd I 0 0) (upr (upr R 1 (upd (wdq (R 1) i 7) 0 (nI n))) 2 (cpR (R 1) (R 2) 58)) n (by omega) (show (upd (wdq (R 1) i 7) 0 (nI n)) 0 = nI n from rfl) (okG_agr hg1.symm (okG_rm hG0))) (cwV 0 hts gX5_withdraw_X5_scales rfl rfl rfl (by decide +kernel) ⟨Nat.le_of_ble_eq_true rfl, Nat.le_of_ble_eq_true rfl⟩) ⟨bl_in, va_recv hK hPc (ci := 5) (q0 := 0) rfl rfl, pr_in hPc hE hDc⟩ rfl rfl hl.1 rfl (lv_room (Nat.le_of_ble_eq_true rfl)) dX5_withdraw_80 ⟨Nat.le_of_ble_eq_true rfl, Nat.le_of_ble_eq_true rfl⟩) hS (fun q _ h => hFc q h) hFc (fun r u t H1 locs ht hvm hw hB hz1 hk1 hS => ?_)
          obtain ⟨rfl, rfl⟩ := hw
          obtain ⟨hP1, hD1⟩ := hB
          rw [ht] at hP1
          obtain ⟨hP, hD⟩ := va_join (wr := []) (w1 := wMdl cy m0 a (upd I 0 0) (upr (upr R 1 (upd (upd (wdq (R 1) i 7) 0 (nI n)) 1 (if gscale (Gs (upd (wdq (R 1) i 7) 0 (nI n))) n = 0 then 1 else nI (gscale (Gs (upd (wdq (R 1) i 7) 0 (nI n))) n)))) 2 (cpR (R 1) (R 2) 58))) hP hD [0, 1, 2, 3, 4, 5, 6, 7, 8, 9, 10, 11, 12] [] rfl rfl (by decide) (by decide) hk1 hFc hP1 hD1
          have hP : va_P (dC, dI) vwCl (wMdl cy m0 a (upd I 0 0) (upr (upr R 1 (upd (upd (wdq (R 1) i 7) 0 (nI n)) 1 (if gscale (Gs (upd (wdq (R 1) i 7) 0 (nI n))) n = 0 then 1 else nI (gscale (Gs (upd (wdq (R 1) i 7) 0 (nI n))) n)))) 2 (cpR (R 1) (R 2) 58))) H1 := hP.sub [0, 1, 2, 3, 4, 5, 6, 7, 8, 9, 10, 11, 12] rfl
          have hD : va_D A (wMdl cy m0 a (upd I 0 0) (upr (upr R 1 (upd (upd (wdq (R 1) i 7) 0 (nI n)) 1 (if gscale (Gs (upd (wdq (R 1) i 7) 0 (nI n))) n = 0 then 1 else nI (gscale (Gs (upd (wdq (R 1) i 7) 0 (nI n))) n)))) 2 (cpR (R 1) (R 2) 58))) := hD.sub [0, 1, 2, 3, 4, 5, 6, 7, 8, 9, 10, 11, 12] (by decide) rfl
          clear hz1 hk1 hPc hDc hFc hP1 hD1
          generalize H1 = H at hP hS ⊢
          refine lv_topi (fun y_ ey_ => ?_)
          obtain rfl : y_ = if gscale (Gs (upd (wdq (R 1) i 7) 0 (nI n))) n = 0 then 0 else 1 := ey_
          refine lv_istore_n (lv' := [(2, .int (if gscale (Gs (upd (wdq (R 1) i 7) 0 (nI n))) n = 0 then 0 else 1)), (0, .ref m0), (1, .int (nI i))]) hx hb dX5_withdraw_83 rfl hl (by decide) rfl (fun ls hl => ?_)
          refine lv_aload_n hx hb dX5_withdraw_84 rfl (lv_at hl 1 rfl) ?_
          have hPc := hP.sub (ws' := wMdl cy m0 a (upd I 0 0) (upr (upr R 1 (upd (upd (wdq (R 1) i 7) 0 (nI n)) 1 (if gscale (Gs (upd (wdq (R 1) i 7) 0 (nI n))) n = 0 then 1 else nI (gscale (Gs (upd (wdq (R 1) i 7) 0 (nI n))) n)))) 2 (cpR (R 1) (R 2) 58))) [0, 1, 2, 3, 4, 5, 6, 7, 8, 9, 10, 11, 12] rfl
          have hDc := hD.sub (ws' := wMdl cy m0 a (upd I 0 0) (upr (upr R 1 (upd (upd (wdq (R 1) i 7) 0 (nI n)) 1 (if gscale (Gs (upd (wdq (R 1) i 7) 0 (nI n))) n = 0 then 1 else nI (gscale (Gs (upd (wdq (R 1) i 7) 0 (nI n))) n)))) 2 (cpR (R 1) (R 2) 58))) [0, 1, 2, 3, 4, 5, 6, 7, 8, 9, 10, 11, 12] (by decide) rfl
          have hFc := va_free (wc := wMdl cy m0 a (upd I 0 0) (upr (upr R 1 (upd (upd (wdq (R 1) i 7) 0 (nI n)) 1 (if gscale (Gs (upd (wdq (R 1) i 7) 0 (nI n))) n = 0 then 1 else nI (gscale (Gs (upd (wdq (R 1) i 7) 0 (nI n))) n)))) 2 (cpR (R 1) (R 2) 58))) hD hS hA [0, 1, 2, 3, 4, 5, 6, 7, 8, 9, 10, 11, 12] rfl
          refine va_callv (va_runV (As := []) (rest := []) ⟨hx, hb, hml, hown, hts⟩ (c_X5_records l dC dI cy H.size m0 a (upd I 0 0) (upr (upr R 1 (upd (upd (wdq (R 1) i 7) 0 (nI n)) 1 (if gscale (Gs (upd (wdq (R 1) i 7) 0 (nI n))) n = 0 then 1 else nI (gscale (Gs (upd (wdq (R 1) i 7) 0 (nI n))) n)))) 2 (cpR (R 1) (R 2) 58))   ch hch hI5) (cwV 0 hts gX5_withdraw_X5_records rfl rfl rfl (by decide +kernel) ⟨Nat.le_of_ble_eq_true rfl, Nat.le_of_ble_eq_true rfl⟩) ⟨bl_in, va_recv hK hPc (ci := 5) (q0 := 0) rfl rfl, pr_in hPc hE hDc⟩ rfl rfl hl.1 rfl (lv_room (Nat.le_of_ble_eq_true rfl)) dX5_withdraw_85 ⟨Nat.le_of_ble_eq_true rfl, Nat.le_of_ble_eq_true rfl⟩) hS (fun q _ h => hFc q h) hFc (fun u t H1 locs ht hvm hw hB hz1 hk1 hS => ?_)
          obtain ⟨hP1, hD1⟩ := hB
          rw [ht] at hP1
          obtain ⟨hP, hD⟩ := va_join (wr := []) (w1 := wMdl cy m0 a (upd (upd (upd I 0 0) 5 (nI (hcnt ch))) 14 0) (upr (upr (upr R 1 (upd (upd (wdq (R 1) i 7) 0 (nI n)) 1 (if gscale (Gs (upd (wdq (R 1) i 7) 0 (nI n))) n = 0 then 1 else nI (gscale (Gs (upd (wdq (R 1) i 7) 0 (nI n))) n)))) 2 (cpR (R 1) (R 2) 58)) 4 (hrec (R 4) (cpR (R 1) (R 2) 58) ch))) hP hD [0, 1, 2, 3, 4, 5, 6, 7, 8, 9, 10, 11, 12] [] rfl rfl (by decide) (by decide) hk1 hFc hP1 hD1
          have hP : va_P (dC, dI) vwCl (wMdl cy m0 a (upd (upd (upd I 0 0) 5 (nI (hcnt ch))) 14 0) (upr (upr (upr R 1 (upd (upd (wdq (R 1) i 7) 0 (nI n)) 1 (if gscale (Gs (upd (wdq (R 1) i 7) 0 (nI n))) n = 0 then 1 else nI (gscale (Gs (upd (wdq (R 1) i 7) 0 (nI n))) n)))) 2 (cpR (R 1) (R 2) 58)) 4 (hrec (R 4) (cpR (R 1) (R 2) 58) ch))) H1 := hP.sub [0, 1, 2, 3, 4, 5, 6, 7, 8, 9, 10, 11, 12] rfl
          have hD : va_D A (wMdl cy m0 a (upd (upd (upd I 0 0) 5 (nI (hcnt ch))) 14 0) (upr (upr (upr R 1 (upd (upd (wdq (R 1) i 7) 0 (nI n)) 1 (if gscale (Gs (upd (wdq (R 1) i 7) 0 (nI n))) n = 0 then 1 else nI (gscale (Gs (upd (wdq (R 1) i 7) 0 (nI n))) n)))) 2 (cpR (R 1) (R 2) 58)) 4 (hrec (R 4) (cpR (R 1) (R 2) 58) ch))) := hD.sub [0, 1, 2, 3, 4, 5, 6, 7, 8, 9, 10, 11, 12] (by decide) rfl
          clear hz1 hk1 hPc hDc hFc hP1 hD1
          generalize H1 = H at hP hS ⊢
          refine lv_aload_n hx hb dX5_withdraw_88 rfl (lv_at hl 1 rfl) ?_
          refine va_get (D := (dC, dI)) (ci := 5) (v := .ref (a 1)) (C := RX5) (T := TX5) (N := 32) hx hb hts hin5 hown hK hP 0 rfl rfl 1 (by decide) f_9 (fun _ h9 => h9) rfl dX5_withdraw_89 ?_
          refine lv_iconst (v := 0) hx hb dX5_withdraw_92 (by decide) ?_
          refine wI_alv (v := nI n) hx hb hK hP 1 0 rfl rfl 0 rfl (by omega) (by decide) (show (upd (upd (wdq (R 1) i 7) 0 (nI n)) 1 (if gscale (Gs (upd (wdq (R 1) i 7) 0 (nI n))) n = 0 then 1 else nI (gscale (Gs (upd (wdq (R 1) i 7) 0 (nI n))) n))) 0 = nI n from rfl) dX5_withdraw_93 ?_
          have hP9 : va_P (dC, dI) vwCl (wMdl cy m0 a (upd (upd (upd I 0 0) 5 (nI (hcnt ch))) 14 0) (upr (upr (upr R 1 (upd (upd (wdq (R 1) i 7) 0 (nI n)) 1 (if gscale (Gs (upd (wdq (R 1) i 7) 0 (nI n))) n = 0 then 1 else nI (gscale (Gs (upd (wdq (R 1) i 7) 0 (nI n))) n)))) 2 (cpR (R 1) (R 2) 58)) 4 (hrec (R 4) (cpR (R 1) (R 2) 58) ch))) H := hP
          have hD9 : va_D A (wMdl cy m0 a (upd (upd (upd I 0 0) 5 (nI (hcnt ch))) 14 0) (upr (upr (upr R 1 (upd (upd (wdq (R 1) i 7) 0 (nI n)) 1 (if gscale (Gs (upd (wdq (R 1) i 7) 0 (nI n))) n = 0 then 1 else nI (gscale (Gs (upd (wdq (R 1) i 7) 0 (nI n))) n)))) 2 (cpR (R 1) (R 2) 58)) 4 (hrec (R 4) (cpR (R 1) (R 2) 58) ch))) := hD
          exact W.iret (v := nI n) hx hb hr (fun t ht hW => ⟨⟨nI n, (upd (upd (upd I 0 0) 5 (nI (hcnt ch))) 14 0, upr (upr (upr R 1 (upd (upd (wdq (R 1) i 7) 0 (nI n)) 1 (if gscale (Gs (upd (wdq (R 1) i 7) 0 (nI n))) n = 0 then 1 else nI (gscale (Gs (upd (wdq (R 1) i 7) 0 (nI n))) n)))) 2 (cpR (R 1) (R 2) 58)) 4 (hrec (R 4) (cpR (R 1) (R 2) 58) ch)), rfl, (Or.inr ⟨i, n, rfl, hin, rfl, rfl, upd (upd (wdq (R 1) i 7) 0 (nI n)) 1 (if gscale (Gs (upd (wdq (R 1) i 7) 0 (nI n))) n = 0 then 1 else nI (gscale (Gs (upd (wdq (R 1) i 7) 0 (nI n))) n)), rfl, rfl, by rw [pk_us, gscale_agr hg1], by rw [Gs_upd1]; exact hg1⟩), by rw [ht]; exact hP9, hD9⟩, hS.F ht⟩) hS.2.2 dX5_withdraw_94
        · have hql : q < 7 := by rcases Nat.lt_or_ge q 7 with h | h; exact h; exact absurd (nI_le (a := 58) (b := 2 + 8 * q) (by omega) (by omega)) c_28
          refine lv_iload_n hx hb dX5_withdraw_31 rfl (lv_at hl 1 rfl) ?_
          refine lv_istore_n (lv' := [(3, .int (nI i)), (0, .ref m0), (1, .int (nI i)), (2, .int (nI (2 + 8 * q)))]) hx hb dX5_withdraw_32 rfl hl (by decide) rfl (fun ls hl => ?_)
          have loop33 : ∀ (k : Nat) (z : Nat) (ls : Array Slot), z ≤ 7 → i ≤ z → 7 < z + k → ∀ (H : Heap) (locs : List Loc), va_P (dC, dI) vwCl (wMdl cy m0 a (upd I 0 0) (upr (upr R 1 (wd1 (wdq (R 1) i q) (2 + 8 * q) i z)) 2 (cpR (R 1) (R 2) 58))) H → va_D A (wMdl cy m0 a (upd I 0 0) (upr (upr R 1 (wd1 (wdq (R 1) i q) (2 + 8 * q) i z)) 2 (cpR (R 1) (R 2) 58))) → va_S A s.heap H locs → lv_has ls 4 [(0, .ref m0), (1, .int (nI i)), (2, .int (nI (2 + 8 * q))), (3, .int (nI z))] → W p l e (headSpec wsX5_withdraw ({ frames := 7, cells := 0, slots := 0, locals := 158 }) |>.room) s m (([.ref m0, .int (nI i)].toArray)) below meth c H locs 0 0 (MQ below (va_Qi (fun (r : Int32) u => qWith I R (n + 1) G ch (nI i) r u) (fun (u : (Nat → Int32) × vG) t => va_P (dC, dI) vwCl (wMdl cy m0 a u.1 u.2) t.heap ∧ va_D (A) (wMdl cy m0 a u.1 u.2)) (A)) ([.ref m0, .int (nI i)].toArray) s 0 0 A) (F0 m 33 ls []) := by
            intro k
            induction k with
            | zero =>
              intro z ls hz hiz hk2
              exfalso; omega
            | succ k ih33 =>
              intro z ls hz hiz hk2 H locs hP hD hS hl
              refine lv_iload_n hx hb dX5_withdraw_33 rfl (lv_at hl 3 rfl) ?_
              refine lv_bipush (v := 7) hx hb dX5_withdraw_34 (by decide) ?_
              refine lv_icmp_ge (tgt := 63) hx hb dX5_withdraw_36 (by decide) (fun c_36 => ?_) (fun c_36 => ?_)
              · have e_z : z = 7 := by have := (nI_leI (a := 7) (b := z) (by omega) (by omega)).mp c_36; omega
                rw [e_z] at hP hD hl
                refine lv_iinc (v := nI (2 + 8 * (q + 1))) (lv' := [(2, .int (nI (2 + 8 * (q + 1)))), (0, .ref m0), (1, .int (nI i)), (3, .int (nI 7))]) hx hb dX5_withdraw_63 hl (k := 2) rfl (by rw [show 2 + 8 * (q + 1) = 2 + 8 * q + 8 by omega]; exact nI_add (2 + 8 * q) 8) (by decide) rfl (fun ls hl => ?_)
                refine lv_goto (tgt := 25) hx hb dX5_withdraw_66 (by decide) ?_
                exact ih25 (q + 1) ls (by omega) (by omega) _ _ hP hD hS (lv_sub hl [1, 2, 0] rfl)
              · have hzl : z < 7 := by rcases Nat.lt_or_ge z 7 with h | h; exact h; exact absurd (nI_le (a := 7) (b := z) (by omega) (by omega)) c_36
                refine lv_aload_n hx hb dX5_withdraw_39 rfl (lv_at hl 0 rfl) ?_
                refine va_get (D := (dC, dI)) (ci := 5) (v := .ref (a 1)) (C := RX5) (T := TX5) (N := 32) hx hb hts hin5 hown hK hP 0 rfl rfl 1 (by decide) f_9 (fun _ h9 => h9) rfl dX5_withdraw_40 ?_
                refine lv_iload_n hx hb dX5_withdraw_43 rfl (lv_at hl 2 rfl) ?_
                refine lv_iload_n hx hb dX5_withdraw_44 rfl (lv_at hl 3 rfl) ?_
                refine lv_iadd hx hb dX5_withdraw_45 ?_
                refine lv_aload_n hx hb dX5_withdraw_46 rfl (lv_at hl 0 rfl) ?_
                refine va_get (D := (dC, dI)) (ci := 5) (v := .ref (a 1)) (C := RX5) (T := TX5) (N := 32) hx hb hts hin5 hown hK hP 0 rfl rfl 1 (by decide) f_9 (fun _ h9 => h9) rfl dX5_withdraw_47 ?_
                refine lv_iload_n hx hb dX5_withdraw_50 rfl (lv_at hl 2 rfl) ?_
                refine lv_iload_n hx hb dX5_withdraw_51 rfl (lv_at hl 3 rfl) ?_
                refine lv_iadd hx hb dX5_withdraw_52 ?_
                refine lv_iconst (v := 1) hx hb dX5_withdraw_53 (by decide) ?_
                refine lv_iadd hx hb dX5_withdraw_54 ?_
                refine wI_alv (v := (wd1 (wdq (R 1) i q) (2 + 8 * q) i z) (((2 + 8 * q) + z) + 1)) hx hb hK hP 1 0 rfl rfl (((2 + 8 * q) + z) + 1) (nadd (nadd rfl rfl) rfl) (by omega) (by decide) rfl dX5_withdraw_55 ?_
                refine wI_ast hx hb hK hP hD hS 1 0 rfl rfl ((2 + 8 * q) + z) (nadd rfl rfl) (by omega) (by decide) dX5_withdraw_56 (fun H locs hP hD hS => ?_)
                have hP : va_P (dC, dI) vwCl (wMdl cy m0 a (upd I 0 0) (upr (upr R 1 (upd (wd1 (wdq (R 1) i q) (2 + 8 * q) i z) ((2 + 8 * q) + z) ((wd1 (wdq (R 1) i q) (2 + 8 * q) i z) (((2 + 8 * q) + z) + 1)))) 2 (cpR (R 1) (R 2) 58))) H := hP
                have hD : va_D A (wMdl cy m0 a (upd I 0 0) (upr (upr R 1 (upd (wd1 (wdq (R 1) i q) (2 + 8 * q) i z) ((2 + 8 * q) + z) ((wd1 (wdq (R 1) i q) (2 + 8 * q) i z) (((2 + 8 * q) + z) + 1)))) 2 (cpR (R 1) (R 2) 58))) := hD
                refine lv_iinc (v := nI (z + 1)) (lv' := [(3, .int (nI (z + 1))), (0, .ref m0), (1, .int (nI i)), (2, .int (nI (2 + 8 * q)))]) hx hb dX5_withdraw_57 hl (k := 3) rfl (nI_1 _) (by decide) rfl (fun ls hl => ?_)
                refine lv_goto (tgt := 33) hx hb dX5_withdraw_60 (by decide) ?_
                exact ih33 (z + 1) ls (by omega) (by omega) (by omega) _ _ (by rw [← wd1_s _ _ _ _ hiz]; exact hP) (by rw [← wd1_s _ _ _ _ hiz]; exact hD) hS (lv_sub hl [1, 2, 3, 0] rfl)
          exact loop33 8 i ls (by omega) (Nat.le_refl _) (by omega) _ _ (by rw [wd1_0]; exact hP) (by rw [wd1_0]; exact hD) hS (lv_sub hl [1, 2, 3, 0] rfl)
    exact loop25 8 0 ls (Nat.zero_le _) (by omega) _ _ hP hD hS (lv_sub hl [1, 2, 0] rfl)
  · refine lv_aload_n hx hb dX5_withdraw_13 rfl (lv_at hl 0 rfl) ?_
    refine lv_iconst (v := 1) hx hb dX5_withdraw_14 (by decide) ?_
    have hPc := hP.sub (ws' := wMdl cy m0 a (upd I 0 0) R) [0, 1, 2, 3, 4, 5, 6, 7, 8, 9, 10, 11, 12] rfl
    have hDc := hD.sub (ws' := wMdl cy m0 a (upd I 0 0) R) [0, 1, 2, 3, 4, 5, 6, 7, 8, 9, 10, 11, 12] (by decide) rfl
    have hFc := va_free (wc := wMdl cy m0 a (upd I 0 0) R) hD hS hA [0, 1, 2, 3, 4, 5, 6, 7, 8, 9, 10, 11, 12] rfl
    refine va_calli (va_runV (As := [.int 1]) (rest := []) ⟨hx, hb, hml, hown, hts⟩ (c_X5_fails l dC dI cy H.size m0 a (upd I 0 0) R 1  ) (cwV 1 hts gX5_withdraw_X5_fails rfl rfl rfl (by decide +kernel) ⟨Nat.le_of_ble_eq_true rfl, Nat.le_of_ble_eq_true rfl⟩) ⟨bl_in, va_recv hK hPc (ci := 5) (q0 := 0) rfl rfl, pr_in hPc hE hDc⟩ rfl rfl hl.1 rfl (lv_room (Nat.le_of_ble_eq_true rfl)) dX5_withdraw_15 ⟨Nat.le_of_ble_eq_true rfl, Nat.le_of_ble_eq_true rfl⟩) hS (fun q _ h => hFc q h) hFc (fun r u t H1 locs ht hvm hw hB hz1 hk1 hS => ?_)
    obtain rfl := hw
    obtain ⟨hP1, hD1⟩ := hB
    rw [ht] at hP1
    obtain ⟨hP, hD⟩ := va_join (wr := []) (w1 := wMdl cy m0 a (upd I 0 1) R) hP hD [0, 1, 2, 3, 4, 5, 6, 7, 8, 9, 10, 11, 12] [] rfl rfl (by decide) (by decide) hk1 hFc hP1 hD1
    have hP : va_P (dC, dI) vwCl (wMdl cy m0 a (upd I 0 1) R) H1 := hP.sub [0, 1, 2, 3, 4, 5, 6, 7, 8, 9, 10, 11, 12] rfl
    have hD : va_D A (wMdl cy m0 a (upd I 0 1) R) := hD.sub [0, 1, 2, 3, 4, 5, 6, 7, 8, 9, 10, 11, 12] (by decide) rfl
    clear hz1 hk1 hPc hDc hFc hP1 hD1
    generalize H1 = H at hP hS ⊢
    have hP9 : va_P (dC, dI) vwCl (wMdl cy m0 a (upd I 0 1) R) H := hP
    have hD9 : va_D A (wMdl cy m0 a (upd I 0 1) R) := hD
    exact W.iret (v := 0) hx hb hr (fun t ht hW => ⟨⟨0, (upd I 0 1, R), rfl, (Or.inl ⟨cT_no hn (b10.mp c_10), rfl⟩), by rw [ht]; exact hP9, hD9⟩, hS.F ht⟩) hS.2.2 dX5_withdraw_18

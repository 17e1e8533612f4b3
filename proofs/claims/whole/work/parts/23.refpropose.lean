/-! PART 23: the reference: propose -/
abbrev told (p0 p1 p2 p3 p4 p5 : Int32) : Prop := inr p0 1 40 ∧ inr p1 1 p0 ∧ inr p2 1 p1 ∧ inr p4 0 9 ∧ ((p3 = 0 ∧ inr p5 0 2) ∨ (¬ p3 = 0 ∧ inr p3 p2 p1 ∧ p5 = 0))
/-- what a rejection records -/
def rjm (G : vG) (n : Nat) : Int32 := if ffail G n 8 0 = 0 then 1 else 0
def rjl (G : vG) (n : Nat) : Int32 := ffail G n 8 (rjm G n)
def rjd (G : vG) (n : Nat) : Int32 := tdem G n 8 (rjm G n) (rjl G n)
def rejI (I : Nat → Int32) (G : vG) (n : Nat) : Nat → Int32 := upd (upd (upd (upd I 10 1) 11 (rjm G n)) 12 (rjl G n)) 13 (rjd G n)
theorem rejI_agr {I : Nat → Int32} {G G' : vG} {n : Nat} (h : agr G G' n) : rejI I G n = rejI I G' n := by
  simp only [rejI, rjd, rjl, rjm, ffail_agr h, tdem_agr h]
theorem agr_col {S : Nat → Int32} {G : vG} {n : Nat} {p0 p1 p2 p3 p4 p5 x : Int32} (hn : n < 8) (h : agr (Gs S) G n) : agr (Gs (upd (upd (upd (upd (upd (upd (upd (upd S (2 + n) p0) (10 + n) p1) (18 + n) p2) (26 + n) p3) (34 + n) p4) (42 + n) p5) (50 + n) 0) 0 x)) (setc G n (colA p0 p1 p2 p3 p4 p5)) (n + 1) := by
  intro k hk j hj
  by_cases e : j = n
  · subst e
    rcases (show k = 0 ∨ k = 1 ∨ k = 2 ∨ k = 3 ∨ k = 4 ∨ k = 5 ∨ k = 6 by omega) with rfl | rfl | rfl | rfl | rfl | rfl | rfl <;> simp [Gs, setc, upd, colA]
  · have h9 := h k hk j (by omega)
    simp only [Gs] at h9
    simp only [Gs, setc, upd]
    rw [if_neg e, if_neg (by omega), if_neg (by omega), if_neg (by omega), if_neg (by omega), if_neg (by omega), if_neg (by omega), if_neg (by omega), if_neg (by omega)]
    exact h9
theorem okG_col {G : vG} {n : Nat} {p0 p1 p2 p3 p4 p5 : Int32} (ho : okG G n) (htd : told p0 p1 p2 p3 p4 p5) : okG (setc G n (colA p0 p1 p2 p3 p4 p5)) (n + 1) := by
  intro i hi
  by_cases e : i = n
  · subst e
    obtain ⟨⟨a1, a2⟩, ⟨b1, b2⟩, ⟨c1, c2⟩, ⟨d1, d2⟩, he⟩ := htd
    have lo : ∀ {x y : Int32}, ¬ x < y → ¬ y < 0 → ¬ x < 0 := fun h1 h2 h3 => by
      rw [Int32.lt_iff_toInt_lt] at *
      omega
    have h10 : ¬ (1 : Int32) < 0 := by decide
    obtain ⟨P, hP, rfl⟩ := nI_of (lo a1 h10)
    obtain ⟨D, hD, rfl⟩ := nI_of (lo b1 h10)
    obtain ⟨L, hL, rfl⟩ := nI_of (lo c1 h10)
    obtain ⟨m, hm, rfl⟩ := nI_of d1
    have f1 : ¬ P < 1 := fun q => a1 (nI_lt (b := 1) q (by omega))
    have f2 : ¬ 40 < P := fun q => a2 (nI_lt (a := 40) q hP)
    have f3 : ¬ D < 1 := fun q => b1 (nI_lt (b := 1) q (by omega))
    have f4 : ¬ P < D := fun q => b2 (nI_lt q hD)
    have f5 : ¬ L < 1 := fun q => c1 (nI_lt (b := 1) q (by omega))
    have f6 : ¬ D < L := fun q => c2 (nI_lt q hL)
    have f7 : ¬ 9 < m := fun q => d2 (nI_lt (a := 9) q hm)
    rcases he with ⟨rfl, e1, e2⟩ | ⟨g0, ⟨g1, g2⟩, rfl⟩
    · obtain ⟨o, ho2, rfl⟩ := nI_of e1
      have f8 : ¬ 2 < o := fun q => e2 (nI_lt (a := 2) q ho2)
      exact ⟨P, D, L, 0, m, o, 0, by simp [setc, upd, colA], by simp [setc, upd, colA], by simp [setc, upd, colA], by simp [setc, upd, colA]; rfl, by simp [setc, upd, colA], by simp [setc, upd, colA], by simp [setc, upd, colA]; rfl, by omega, by omega, by omega, by omega, by omega, by omega, Or.inl rfl, by omega, by omega, Or.inl rfl, by omega⟩
    · obtain ⟨q, hq, rfl⟩ := nI_of (lo g1 (nI_pos hL))
      have f8 : ¬ q < L := fun z => g1 (nI_lt z hL)
      have f9 : ¬ D < q := fun z => g2 (nI_lt z hq)
      exact ⟨P, D, L, q, m, 0, 0, by simp [setc, upd, colA], by simp [setc, upd, colA], by simp [setc, upd, colA], by simp [setc, upd, colA], by simp [setc, upd, colA], by simp [setc, upd, colA]; rfl, by simp [setc, upd, colA]; rfl, by omega, by omega, by omega, by omega, by omega, by omega, Or.inr ⟨by omega, by omega⟩, by omega, by omega, Or.inr rfl, by omega⟩
  · obtain ⟨P, D, L, H, im, mo, lv, e0, e1, e2, e3, e4, e5, e6, hr⟩ := ho i (by omega)
    refine ⟨P, D, L, H, im, mo, lv, ?_, ?_, ?_, ?_, ?_, ?_, ?_, hr⟩ <;> simp only [setc, upd] <;> rw [if_neg e] <;> assumption
theorem agr_lev {S : Nat → Int32} {G : vG} {n j : Nat} {x : Int32} (hn : n ≤ 8) (hj : j < 8) (h : agr (Gs S) G n) : agr (Gs (upd S (50 + j) x)) (up2 G 6 j x) n := by
  intro k hk i hi
  have h9 := h k hk i hi
  simp only [Gs] at h9
  by_cases e : k = 6
  · subst e
    show upd S (50 + j) x (2 + 8 * 6 + i) = upd (G 6) j x i
    by_cases e2 : i = j
    · subst e2; rw [show 2 + 8 * 6 + i = 50 + i by omega, pk_us, pk_us]
    · rw [pk_un (by omega), pk_un e2]; exact h9
  · simp only [up2]
    rw [if_neg e]
    show upd S (50 + j) x (2 + 8 * k + i) = _
    rw [pk_un (by omega)]
    exact h9
theorem agr_degS {Sc : Nat → Int32} {Gk : vG} {m j : Nat} {y : Int32} (hag : agr (Gs Sc) Gk m) (hw : wk Gk m = some j) (hm : m ≤ 8) : agr (Gs (upd (upd Sc 1 y) (50 + j) (Gs (upd Sc 1 y) 6 j + 1))) (degG Gk m) m := by
  have hj := wk_lt Gk m j hw
  have h1 : agr (Gs (upd Sc 1 y)) Gk m := by rw [Gs_upd1]; exact hag
  rw [h1 6 (by decide) j hj]
  simp only [degG, hw]
  exact agr_lev hm (by omega) h1
/-- the configuration that a proposal tries last -/
def pF (G : vG) (n : Nat) (p0 p1 p2 p3 p4 p5 : Int32) : vG := dgl (n + 1) 16 (setc G n (colA p0 p1 p2 p3 p4 p5))
/-- what the reference's propose does -/
def qPropose (I : Nat → Int32) (R : vG) (n : Nat) (G : vG) (ch : Nat) (p0 p1 p2 p3 p4 p5 r : Int32) (u : (Nat → Int32) × vG) : Prop :=
  (¬ told p0 p1 p2 p3 p4 p5 ∧ u = (upd I 0 1, R)) ∨ (told p0 p1 p2 p3 p4 p5 ∧ n = 8 ∧ u = (upd I 0 2, R)) ∨
  (told p0 p1 p2 p3 p4 p5 ∧ n < 8 ∧ ¬ gscale (pF G n p0 p1 p2 p3 p4 p5) (n + 1) = 0 ∧ r = nI n ∧ ∃ S' : Nat → Int32, u = (upd (upd (upd I 0 0) 5 (nI (hcnt ch))) 14 0, upr (upr (upr R 1 S') 2 (cpR (R 1) (R 2) 58)) 4 (hrec (R 4) (cpR (R 1) (R 2) 58) ch)) ∧ S' 0 = nI (n + 1) ∧ S' 1 = nI (gscale (pF G n p0 p1 p2 p3 p4 p5) (n + 1)) ∧ agr (Gs S') (pF G n p0 p1 p2 p3 p4 p5) (n + 1)) ∨
  (told p0 p1 p2 p3 p4 p5 ∧ n < 8 ∧ gscale (pF G n p0 p1 p2 p3 p4 p5) (n + 1) = 0 ∧ r = -1 ∧ ∃ S' : Nat → Int32, u = (rejI (upd I 0 0) (pF G n p0 p1 p2 p3 p4 p5) (n + 1), upr (upr R 1 S') 2 (cpR (R 1) (R 2) 58)) ∧ ∀ j, j < 58 → S' j = R 1 j)
set_option maxHeartbeats 1000000 in
set_option maxRecDepth 100000 in
/-- are the numbers in range -/
theorem c_X5_areTold (l : Launch) (p0 p1 p2 p3 p4 p5 : Int32) : Met l yX5_areTold wsX5_areTold ({ frames := 1, cells := 0, slots := 0, locals := 22 }) (va_Pc [.int p0, .int p1, .int p2, .int p3, .int p4, .int p5] (fun _ => True)) (vp_Si (fun r => (r = 1 ∧ told p0 p1 p2 p3 p4 p5) ∨ (r = 0 ∧ ¬ told p0 p1 p2 p3 p4 p5))) 0 0 (fun _ => False) := by
  refine Met.ofW (cc := cX5_areTold) (maxL := 7) (ret := some .boolean) (by decide) rfl ?_
  intro p e s m args below meth c s₁ B hml hv
  obtain ⟨rfl, -⟩ := hv
  have hx := B.exec
  have hb := B.bytes
  have hr := B.returns
  have hts := atoms_spec (ws := wsX5_areTold) B.pre
  have hown : s.vm.findClass RX5 = some m.cls := findClass_of_methodNamed B.named
  have hlocks := B.notSynchronized
  have hl := lv_entry ([.int p0, .int p1, .int p2, .int p3, .int p4, .int p5]) (n := 7) (Nat.le_of_ble_eq_true rfl)
  rw [lg_entry_eq]
  generalize (lg_sl ([.int p0, .int p1, .int p2, .int p3, .int p4, .int p5]) ++ List.replicate (7 - (lg_sl ([.int p0, .int p1, .int p2, .int p3, .int p4, .int p5])).length) Slot.unset).toArray = ls at hl ⊢
  have hl : lv_has ls 7 [(0, .int p0), (1, .int p1), (2, .int p2), (3, .int p3), (4, .int p4), (5, .int p5)] := hl
  refine lv_iload_n hx hb dX5_areTold_0 rfl (lv_at hl 0 rfl) ?_
  refine lv_iconst (v := 1) hx hb dX5_areTold_1 (by decide) ?_
  refine lv_bipush (v := 40) hx hb dX5_areTold_2 (by decide) ?_
  refine vp_callSi (va_runS (As := [.int p0, .int 1, .int 40]) (rest := []) ⟨hx, hb, hml, hown, hts⟩ (c_X5_in l p0 1 40) (cwS 3 hts gX5_areTold_X5_in rfl rfl rfl (by decide +kernel) ⟨Nat.le_of_ble_eq_true rfl, Nat.le_of_ble_eq_true rfl⟩) ⟨fun a U g mk q => q, fun U hU hW => ⟨rfl, trivial⟩⟩ rfl rfl hl.1 rfl (lv_room (Nat.le_of_ble_eq_true rfl)) dX5_areTold_4 ⟨Nat.le_of_ble_eq_true rfl, Nat.le_of_ble_eq_true rfl⟩).run (fun r e_r => ?_)
  subst e_r
  refine lv_if_eq (tgt := 43) hx hb dX5_areTold_7 (by decide) (fun c_7 => ?_) (fun c_7 => ?_)
  · refine lv_iconst (v := 0) hx hb dX5_areTold_43 (by decide) ?_
    refine lv_istore (lv' := [(6, .int 0), (0, .int p0), (1, .int p1), (2, .int p2), (3, .int p3), (4, .int p4), (5, .int p5)]) hx hb dX5_areTold_44 hl (by decide) rfl (fun ls hl => ?_)
    refine lv_iload hx hb dX5_areTold_46 (lv_at hl 0 rfl) ?_
    refine lv_if_eq (tgt := 86) hx hb dX5_areTold_48 (by decide) (fun _ => ?_) (fun h0 => absurd h0 (by decide))
    refine lv_iconst (v := 0) hx hb dX5_areTold_86 (by decide) ?_
    exact W.zret (v := 0) hx hb hr (by decide) (fun t ht hW => ⟨_, rfl, (Or.inr ⟨rfl, fun h => by obtain ⟨a1, a2, a3, a4, a5⟩ := h; exact b10.mp c_7 a1⟩), ht⟩) (fun q hq => absurd hq List.not_mem_nil) dX5_areTold_87
  · refine lv_iload_n hx hb dX5_areTold_10 rfl (lv_at hl 1 rfl) ?_
    refine lv_iconst (v := 1) hx hb dX5_areTold_11 (by decide) ?_
    refine lv_iload_n hx hb dX5_areTold_12 rfl (lv_at hl 0 rfl) ?_
    refine vp_callSi (va_runS (As := [.int p1, .int 1, .int p0]) (rest := []) ⟨hx, hb, hml, hown, hts⟩ (c_X5_in l p1 1 p0) (cwS 3 hts gX5_areTold_X5_in rfl rfl rfl (by decide +kernel) ⟨Nat.le_of_ble_eq_true rfl, Nat.le_of_ble_eq_true rfl⟩) ⟨fun a U g mk q => q, fun U hU hW => ⟨rfl, trivial⟩⟩ rfl rfl hl.1 rfl (lv_room (Nat.le_of_ble_eq_true rfl)) dX5_areTold_13 ⟨Nat.le_of_ble_eq_true rfl, Nat.le_of_ble_eq_true rfl⟩).run (fun r e_r => ?_)
    subst e_r
    refine lv_if_eq (tgt := 43) hx hb dX5_areTold_16 (by decide) (fun c_16 => ?_) (fun c_16 => ?_)
    · refine lv_iconst (v := 0) hx hb dX5_areTold_43 (by decide) ?_
      refine lv_istore (lv' := [(6, .int 0), (0, .int p0), (1, .int p1), (2, .int p2), (3, .int p3), (4, .int p4), (5, .int p5)]) hx hb dX5_areTold_44 hl (by decide) rfl (fun ls hl => ?_)
      refine lv_iload hx hb dX5_areTold_46 (lv_at hl 0 rfl) ?_
      refine lv_if_eq (tgt := 86) hx hb dX5_areTold_48 (by decide) (fun _ => ?_) (fun h0 => absurd h0 (by decide))
      refine lv_iconst (v := 0) hx hb dX5_areTold_86 (by decide) ?_
      exact W.zret (v := 0) hx hb hr (by decide) (fun t ht hW => ⟨_, rfl, (Or.inr ⟨rfl, fun h => by obtain ⟨a1, a2, a3, a4, a5⟩ := h; exact b10.mp c_16 a2⟩), ht⟩) (fun q hq => absurd hq List.not_mem_nil) dX5_areTold_87
    · refine lv_iload_n hx hb dX5_areTold_19 rfl (lv_at hl 2 rfl) ?_
      refine lv_iconst (v := 1) hx hb dX5_areTold_20 (by decide) ?_
      refine lv_iload_n hx hb dX5_areTold_21 rfl (lv_at hl 1 rfl) ?_
      refine vp_callSi (va_runS (As := [.int p2, .int 1, .int p1]) (rest := []) ⟨hx, hb, hml, hown, hts⟩ (c_X5_in l p2 1 p1) (cwS 3 hts gX5_areTold_X5_in rfl rfl rfl (by decide +kernel) ⟨Nat.le_of_ble_eq_true rfl, Nat.le_of_ble_eq_true rfl⟩) ⟨fun a U g mk q => q, fun U hU hW => ⟨rfl, trivial⟩⟩ rfl rfl hl.1 rfl (lv_room (Nat.le_of_ble_eq_true rfl)) dX5_areTold_22 ⟨Nat.le_of_ble_eq_true rfl, Nat.le_of_ble_eq_true rfl⟩).run (fun r e_r => ?_)
      subst e_r
      refine lv_if_eq (tgt := 43) hx hb dX5_areTold_25 (by decide) (fun c_25 => ?_) (fun c_25 => ?_)
      · refine lv_iconst (v := 0) hx hb dX5_areTold_43 (by decide) ?_
        refine lv_istore (lv' := [(6, .int 0), (0, .int p0), (1, .int p1), (2, .int p2), (3, .int p3), (4, .int p4), (5, .int p5)]) hx hb dX5_areTold_44 hl (by decide) rfl (fun ls hl => ?_)
        refine lv_iload hx hb dX5_areTold_46 (lv_at hl 0 rfl) ?_
        refine lv_if_eq (tgt := 86) hx hb dX5_areTold_48 (by decide) (fun _ => ?_) (fun h0 => absurd h0 (by decide))
        refine lv_iconst (v := 0) hx hb dX5_areTold_86 (by decide) ?_
        exact W.zret (v := 0) hx hb hr (by decide) (fun t ht hW => ⟨_, rfl, (Or.inr ⟨rfl, fun h => by obtain ⟨a1, a2, a3, a4, a5⟩ := h; exact b10.mp c_25 a3⟩), ht⟩) (fun q hq => absurd hq List.not_mem_nil) dX5_areTold_87
      · refine lv_iload hx hb dX5_areTold_28 (lv_at hl 4 rfl) ?_
        refine lv_iconst (v := 0) hx hb dX5_areTold_30 (by decide) ?_
        refine lv_bipush (v := 9) hx hb dX5_areTold_31 (by decide) ?_
        refine vp_callSi (va_runS (As := [.int p4, .int 0, .int 9]) (rest := []) ⟨hx, hb, hml, hown, hts⟩ (c_X5_in l p4 0 9) (cwS 3 hts gX5_areTold_X5_in rfl rfl rfl (by decide +kernel) ⟨Nat.le_of_ble_eq_true rfl, Nat.le_of_ble_eq_true rfl⟩) ⟨fun a U g mk q => q, fun U hU hW => ⟨rfl, trivial⟩⟩ rfl rfl hl.1 rfl (lv_room (Nat.le_of_ble_eq_true rfl)) dX5_areTold_33 ⟨Nat.le_of_ble_eq_true rfl, Nat.le_of_ble_eq_true rfl⟩).run (fun r e_r => ?_)
        subst e_r
        refine lv_if_eq (tgt := 43) hx hb dX5_areTold_36 (by decide) (fun c_36 => ?_) (fun c_36 => ?_)
        · refine lv_iconst (v := 0) hx hb dX5_areTold_43 (by decide) ?_
          refine lv_istore (lv' := [(6, .int 0), (0, .int p0), (1, .int p1), (2, .int p2), (3, .int p3), (4, .int p4), (5, .int p5)]) hx hb dX5_areTold_44 hl (by decide) rfl (fun ls hl => ?_)
          refine lv_iload hx hb dX5_areTold_46 (lv_at hl 0 rfl) ?_
          refine lv_if_eq (tgt := 86) hx hb dX5_areTold_48 (by decide) (fun _ => ?_) (fun h0 => absurd h0 (by decide))
          refine lv_iconst (v := 0) hx hb dX5_areTold_86 (by decide) ?_
          exact W.zret (v := 0) hx hb hr (by decide) (fun t ht hW => ⟨_, rfl, (Or.inr ⟨rfl, fun h => by obtain ⟨a1, a2, a3, a4, a5⟩ := h; exact b10.mp c_36 a4⟩), ht⟩) (fun q hq => absurd hq List.not_mem_nil) dX5_areTold_87
        · refine lv_iconst (v := 1) hx hb dX5_areTold_39 (by decide) ?_
          refine lv_goto (tgt := 44) hx hb dX5_areTold_40 (by decide) ?_
          refine lv_istore (lv' := [(6, .int 1), (0, .int p0), (1, .int p1), (2, .int p2), (3, .int p3), (4, .int p4), (5, .int p5)]) hx hb dX5_areTold_44 hl (by decide) rfl (fun ls hl => ?_)
          refine lv_iload hx hb dX5_areTold_46 (lv_at hl 0 rfl) ?_
          refine lv_if_eq (tgt := 86) hx hb dX5_areTold_48 (by decide) (fun h0 => absurd h0 (by decide)) (fun _ => ?_)
          refine lv_iload_n hx hb dX5_areTold_51 rfl (lv_at hl 4 rfl) ?_
          refine lv_if_ne (tgt := 68) hx hb dX5_areTold_52 (by decide) (fun c_52 => ?_) (fun c_52 => ?_)
          · refine lv_iload_n hx hb dX5_areTold_68 rfl (lv_at hl 4 rfl) ?_
            refine lv_iload_n hx hb dX5_areTold_69 rfl (lv_at hl 3 rfl) ?_
            refine lv_iload_n hx hb dX5_areTold_70 rfl (lv_at hl 2 rfl) ?_
            refine vp_callSi (va_runS (As := [.int p3, .int p2, .int p1]) (rest := []) ⟨hx, hb, hml, hown, hts⟩ (c_X5_in l p3 p2 p1) (cwS 3 hts gX5_areTold_X5_in rfl rfl rfl (by decide +kernel) ⟨Nat.le_of_ble_eq_true rfl, Nat.le_of_ble_eq_true rfl⟩) ⟨fun a U g mk q => q, fun U hU hW => ⟨rfl, trivial⟩⟩ rfl rfl hl.1 rfl (lv_room (Nat.le_of_ble_eq_true rfl)) dX5_areTold_71 ⟨Nat.le_of_ble_eq_true rfl, Nat.le_of_ble_eq_true rfl⟩).run (fun r e_r => ?_)
            subst e_r
            refine lv_if_eq (tgt := 86) hx hb dX5_areTold_74 (by decide) (fun c_74 => ?_) (fun c_74 => ?_)
            · refine lv_iconst (v := 0) hx hb dX5_areTold_86 (by decide) ?_
              exact W.zret (v := 0) hx hb hr (by decide) (fun t ht hW => ⟨_, rfl, (Or.inr ⟨rfl, fun h => by obtain ⟨a1, a2, a3, a4, a5⟩ := h; exact a5.elim (fun q => c_52 q.1) (fun q => b10.mp c_74 q.2.1)⟩), ht⟩) (fun q hq => absurd hq List.not_mem_nil) dX5_areTold_87
            · refine lv_iload hx hb dX5_areTold_77 (lv_at hl 6 rfl) ?_
              refine lv_if_ne (tgt := 86) hx hb dX5_areTold_79 (by decide) (fun c_79 => ?_) (fun c_79 => ?_)
              · refine lv_iconst (v := 0) hx hb dX5_areTold_86 (by decide) ?_
                exact W.zret (v := 0) hx hb hr (by decide) (fun t ht hW => ⟨_, rfl, (Or.inr ⟨rfl, fun h => by obtain ⟨a1, a2, a3, a4, a5⟩ := h; exact a5.elim (fun q => c_52 q.1) (fun q => c_79 q.2.2)⟩), ht⟩) (fun q hq => absurd hq List.not_mem_nil) dX5_areTold_87
              · refine lv_iconst (v := 1) hx hb dX5_areTold_82 (by decide) ?_
                refine lv_goto (tgt := 87) hx hb dX5_areTold_83 (by decide) ?_
                exact W.zret (v := 1) hx hb hr (by decide) (fun t ht hW => ⟨_, rfl, (Or.inl ⟨rfl, nb10 c_7, nb10 c_16, nb10 c_25, nb10 c_36, Or.inr ⟨c_52, nb10 c_74, c_79⟩⟩), ht⟩) (fun q hq => absurd hq List.not_mem_nil) dX5_areTold_87
          · refine lv_iload hx hb dX5_areTold_55 (lv_at hl 6 rfl) ?_
            refine lv_iconst (v := 0) hx hb dX5_areTold_57 (by decide) ?_
            refine lv_iconst (v := 2) hx hb dX5_areTold_58 (by decide) ?_
            refine vp_callSi (va_runS (As := [.int p5, .int 0, .int 2]) (rest := []) ⟨hx, hb, hml, hown, hts⟩ (c_X5_in l p5 0 2) (cwS 3 hts gX5_areTold_X5_in rfl rfl rfl (by decide +kernel) ⟨Nat.le_of_ble_eq_true rfl, Nat.le_of_ble_eq_true rfl⟩) ⟨fun a U g mk q => q, fun U hU hW => ⟨rfl, trivial⟩⟩ rfl rfl hl.1 rfl (lv_room (Nat.le_of_ble_eq_true rfl)) dX5_areTold_59 ⟨Nat.le_of_ble_eq_true rfl, Nat.le_of_ble_eq_true rfl⟩).run (fun r e_r => ?_)
            subst e_r
            refine lv_if_eq (tgt := 86) hx hb dX5_areTold_62 (by decide) (fun c_62 => ?_) (fun c_62 => ?_)
            · refine lv_iconst (v := 0) hx hb dX5_areTold_86 (by decide) ?_
              exact W.zret (v := 0) hx hb hr (by decide) (fun t ht hW => ⟨_, rfl, (Or.inr ⟨rfl, fun h => by obtain ⟨a1, a2, a3, a4, a5⟩ := h; exact a5.elim (fun q => b10.mp c_62 q.2) (fun q => q.1 c_52)⟩), ht⟩) (fun q hq => absurd hq List.not_mem_nil) dX5_areTold_87
            · refine lv_goto (tgt := 82) hx hb dX5_areTold_65 (by decide) ?_
              refine lv_iconst (v := 1) hx hb dX5_areTold_82 (by decide) ?_
              refine lv_goto (tgt := 87) hx hb dX5_areTold_83 (by decide) ?_
              exact W.zret (v := 1) hx hb hr (by decide) (fun t ht hW => ⟨_, rfl, (Or.inl ⟨rfl, nb10 c_7, nb10 c_16, nb10 c_25, nb10 c_36, Or.inl ⟨c_52, nb10 c_62⟩⟩), ht⟩) (fun q hq => absurd hq List.not_mem_nil) dX5_areTold_87
set_option maxHeartbeats 1000000 in
set_option maxRecDepth 100000 in
/-- a rejection is recorded, and the frame taken back -/
theorem c_X5_rejects (l : Launch) (dC : Nat → ClassId) (dI : Nat → Nat → Nat) (cy : Nat → ClassId) (sz : Nat) (m0 : Nat) (a : Nat → Nat) (I : Nat → Int32) (R : vG) (n : Nat) (hn : n ≤ 8) (hS0 : R 1 0 = nI n) (hG : okG (Gs (R 1)) n) : Met l yX5_rejects wsX5_rejects ({ frames := 6, cells := 0, slots := 0, locals := 137 }) (va_Pc [.ref m0] (pIn dC dI cy (wMdl cy m0 a I R) sz)) (va_Qi (fun (r : Int32) (u : Nat → Int32) => r = -1 ∧ u = rejI I (Gs (R 1)) n) (fun (u : Nat → Int32) t => va_P (dC, dI) vwCl (wMdl cy m0 a u (upr R 1 (cpR (R 2) (upd (R 1) 1 8) 58))) t.heap ∧ va_D (va_A (wMdl cy m0 a I R) sz) (wMdl cy m0 a u (upr R 1 (cpR (R 2) (upd (R 1) 1 8) 58)))) (va_A (wMdl cy m0 a I R) sz)) 0 0 (va_A (wMdl cy m0 a I R) sz) := by
  refine Met.ofW (cc := cX5_rejects) (maxL := 1) (ret := some .int) (by decide) rfl ?_
  intro p e s m args below meth c s₁ B hml hv
  obtain ⟨rfl, hsz, hP, hE, hD0⟩ := hv
  have hK := hE.1
  subst hsz
  have hD := hD0.self (sz := s.heap.size)
  generalize hAe : va_A (wMdl cy m0 a I R) s.heap.size = A at hD ⊢
  have hA : ∀ q : Nat, s.heap.size ≤ q → A q := fun q h => by rw [← hAe]; exact Or.inr h
  have hS : va_S A s.heap s.heap [] := va_S.rf
  have hP : va_P (dC, dI) vwCl (wMdl cy m0 a I R) s.heap := hP
  have hx := B.exec
  have hb := B.bytes
  have hr := B.returns
  have hts := atoms_spec (ws := wsX5_rejects) B.pre
  have hown : s.vm.findClass RX5 = some m.cls := findClass_of_methodNamed B.named
  have hlocks := B.notSynchronized
  have hin5 : ∀ w ∈ u_ws RX5 TX5 32, w ∈ wsX5_rejects := by decide +kernel
  have f_88 := hts (.fieldLink RX5 88 "DeadlineAdmissionModel" "wasRejected" "Z") (by decide +kernel)
  have f_9 := hts (.fieldLink RX5 9 "DeadlineAdmissionModel" "s" "[I") (by decide +kernel)
  have f_91 := hts (.fieldLink RX5 91 "DeadlineAdmissionModel" "rejectedMode" "I") (by decide +kernel)
  have f_94 := hts (.fieldLink RX5 94 "DeadlineAdmissionModel" "rejectedLength" "I") (by decide +kernel)
  have f_97 := hts (.fieldLink RX5 97 "DeadlineAdmissionModel" "rejectedDemand" "I") (by decide +kernel)
  have hl := lv_entry ([.ref m0]) (n := 1) (Nat.le_of_ble_eq_true rfl)
  rw [lg_entry_eq]
  generalize (lg_sl ([.ref m0]) ++ List.replicate (1 - (lg_sl ([.ref m0])).length) Slot.unset).toArray = ls at hl ⊢
  have hl : lv_has ls 1 [(0, .ref m0)] := hl
  refine lv_aload_n hx hb dX5_rejects_0 rfl (lv_at hl 0 rfl) ?_
  refine va_get (D := (dC, dI)) (ci := 5) (v := .ref (a 1)) (C := RX5) (T := TX5) (N := 32) hx hb hts hin5 hown hK hP 0 rfl rfl 1 (by decide) f_9 (fun _ h9 => h9) rfl dX5_rejects_1 ?_
  refine lv_iconst (v := 1) hx hb dX5_rejects_4 (by decide) ?_
  refine lv_bipush (v := 8) hx hb dX5_rejects_5 (by decide) ?_
  refine wI_ast hx hb hK hP hD hS 1 0 rfl rfl 1 rfl (by omega) (by decide) dX5_rejects_7 (fun H locs hP hD hS => ?_)
  have hP : va_P (dC, dI) vwCl (wMdl cy m0 a I (upr R 1 (upd (R 1) 1 8))) H := hP
  have hD : va_D A (wMdl cy m0 a I (upr R 1 (upd (R 1) 1 8))) := hD
  refine lv_aload_n hx hb dX5_rejects_8 rfl (lv_at hl 0 rfl) ?_
  refine lv_iconst (v := 1) hx hb dX5_rejects_9 (by decide) ?_
  refine va_put (D := (dC, dI)) (ci := 5) (v := .int 1) (ty := .boolean) (C := RX5) (T := TX5) (N := 32) hx hb hts hin5 tyX5 tyX5_ok nmX5 hown hK hP hD hS 0 rfl rfl 10 (by decide) f_88 (fun _ h9 => h9) rfl (by decide +kernel) (by decide) rfl (Nat.le_of_ble_eq_true rfl) dX5_rejects_10 (fun H locs hP hD hS => ?_)
  have hP : va_P (dC, dI) vwCl (wMdl cy m0 a (upd I 10 1) (upr R 1 (upd (R 1) 1 8))) H := hP
  have hD : va_D A (wMdl cy m0 a (upd I 10 1) (upr R 1 (upd (R 1) 1 8))) := hD
  refine lv_aload_n hx hb dX5_rejects_13 rfl (lv_at hl 0 rfl) ?_
  refine lv_aload_n hx hb dX5_rejects_14 rfl (lv_at hl 0 rfl) ?_
  refine lv_iconst (v := 0) hx hb dX5_rejects_15 (by decide) ?_
  refine vp_callSi (va_runV (As := [.int 0]) (rest := [.ref m0]) ⟨hx, hb, hml, hown, hts⟩ (c_X5_isPassing l dC dI cy m0 a (upd I 10 1) (upr R 1 (upd (R 1) 1 8)) n hn hS0 (show okG (Gs (upd (R 1) 1 8)) n from by rw [Gs_upd1]; exact hG) 0 (Or.inl rfl)) (cwV 1 hts gX5_rejects_X5_isPassing rfl rfl rfl (by decide +kernel) ⟨Nat.le_of_ble_eq_true rfl, Nat.le_of_ble_eq_true rfl⟩) ⟨bl_ro, va_recv hK hP (ci := 5) (q0 := 0) rfl rfl, pr_ro hP hE⟩ rfl rfl hl.1 rfl (lv_room (Nat.le_of_ble_eq_true rfl)) dX5_rejects_16 ⟨Nat.le_of_ble_eq_true rfl, Nat.le_of_ble_eq_true rfl⟩).run (fun r e_r => ?_)
  subst e_r
  refine lv_topi (fun y_ ey_ => ?_)
  obtain rfl : y_ = if ffail (Gs (upd (R 1) 1 8)) n ((upd (R 1) 1 8) 1) 0 = 0 then 1 else 0 := ey_
  refine lv_if_eq (tgt := 26) hx hb dX5_rejects_19 (by decide) (fun c_19 => ?_) (fun c_19 => ?_)
  · refine lv_iconst (v := 0) hx hb dX5_rejects_26 (by decide) ?_
    refine va_put (D := (dC, dI)) (ci := 5) (v := .int 0) (ty := .int) (C := RX5) (T := TX5) (N := 32) hx hb hts hin5 tyX5 tyX5_ok nmX5 hown hK hP hD hS 0 rfl rfl 11 (by decide) f_91 (fun _ h9 => h9) rfl (by decide +kernel) rfl rfl (Nat.le_of_ble_eq_true rfl) dX5_rejects_27 (fun H locs hP hD hS => ?_)
    have hP : va_P (dC, dI) vwCl (wMdl cy m0 a (upd (upd I 10 1) 11 0) (upr R 1 (upd (R 1) 1 8))) H := hP
    have hD : va_D A (wMdl cy m0 a (upd (upd I 10 1) 11 0) (upr R 1 (upd (R 1) 1 8))) := hD
    refine lv_aload_n hx hb dX5_rejects_30 rfl (lv_at hl 0 rfl) ?_
    refine lv_aload_n hx hb dX5_rejects_31 rfl (lv_at hl 0 rfl) ?_
    refine lv_aload_n hx hb dX5_rejects_32 rfl (lv_at hl 0 rfl) ?_
    refine va_get (D := (dC, dI)) (ci := 5) (v := .int 0) (C := RX5) (T := TX5) (N := 32) hx hb hts hin5 hown hK hP 0 rfl rfl 11 (by decide) f_91 (fun _ h9 => h9) rfl dX5_rejects_33 ?_
    refine vp_callSi (va_runV (As := [.int 0]) (rest := [.ref m0]) ⟨hx, hb, hml, hown, hts⟩ (c_X5_firstFailing l dC dI cy m0 a (upd (upd I 10 1) 11 0) (upr R 1 (upd (R 1) 1 8)) n hn hS0 (show okG (Gs (upd (R 1) 1 8)) n from by rw [Gs_upd1]; exact hG) 0 (Or.inl rfl)) (cwV 1 hts gX5_rejects_X5_firstFailing rfl rfl rfl (by decide +kernel) ⟨Nat.le_of_ble_eq_true rfl, Nat.le_of_ble_eq_true rfl⟩) ⟨bl_ro, va_recv hK hP (ci := 5) (q0 := 0) rfl rfl, pr_ro hP hE⟩ rfl rfl hl.1 rfl (lv_room (Nat.le_of_ble_eq_true rfl)) dX5_rejects_36 ⟨Nat.le_of_ble_eq_true rfl, Nat.le_of_ble_eq_true rfl⟩).run (fun r e_r => ?_)
    subst e_r
    refine lv_topi (fun y_ ey_ => ?_)
    obtain rfl : y_ = ffail (Gs (upd (R 1) 1 8)) n ((upd (R 1) 1 8) 1) 0 := ey_
    refine va_put (D := (dC, dI)) (ci := 5) (v := .int (ffail (Gs (upd (R 1) 1 8)) n ((upd (R 1) 1 8) 1) 0)) (ty := .int) (C := RX5) (T := TX5) (N := 32) hx hb hts hin5 tyX5 tyX5_ok nmX5 hown hK hP hD hS 0 rfl rfl 12 (by decide) f_94 (fun _ h9 => h9) rfl (by decide +kernel) rfl rfl (Nat.le_of_ble_eq_true rfl) dX5_rejects_39 (fun H locs hP hD hS => ?_)
    have hP : va_P (dC, dI) vwCl (wMdl cy m0 a (upd (upd (upd I 10 1) 11 0) 12 (ffail (Gs (upd (R 1) 1 8)) n ((upd (R 1) 1 8) 1) 0)) (upr R 1 (upd (R 1) 1 8))) H := hP
    have hD : va_D A (wMdl cy m0 a (upd (upd (upd I 10 1) 11 0) 12 (ffail (Gs (upd (R 1) 1 8)) n ((upd (R 1) 1 8) 1) 0)) (upr R 1 (upd (R 1) 1 8))) := hD
    refine lv_aload_n hx hb dX5_rejects_42 rfl (lv_at hl 0 rfl) ?_
    refine lv_aload_n hx hb dX5_rejects_43 rfl (lv_at hl 0 rfl) ?_
    refine lv_aload_n hx hb dX5_rejects_44 rfl (lv_at hl 0 rfl) ?_
    refine va_get (D := (dC, dI)) (ci := 5) (v := .int 0) (C := RX5) (T := TX5) (N := 32) hx hb hts hin5 hown hK hP 0 rfl rfl 11 (by decide) f_91 (fun _ h9 => h9) rfl dX5_rejects_45 ?_
    refine lv_aload_n hx hb dX5_rejects_48 rfl (lv_at hl 0 rfl) ?_
    refine va_get (D := (dC, dI)) (ci := 5) (v := .int (ffail (Gs (upd (R 1) 1 8)) n ((upd (R 1) 1 8) 1) 0)) (C := RX5) (T := TX5) (N := 32) hx hb hts hin5 hown hK hP 0 rfl rfl 12 (by decide) f_94 (fun _ h9 => h9) rfl dX5_rejects_49 ?_
    refine vp_callSi (va_runV (As := [.int 0, .int (ffail (Gs (upd (R 1) 1 8)) n ((upd (R 1) 1 8) 1) 0)]) (rest := [.ref m0]) ⟨hx, hb, hml, hown, hts⟩ (c_X5_demandOf l dC dI cy m0 a (upd (upd (upd I 10 1) 11 0) 12 (ffail (Gs (upd (R 1) 1 8)) n ((upd (R 1) 1 8) 1) 0)) (upr R 1 (upd (R 1) 1 8)) n hn hS0 (show okG (Gs (upd (R 1) 1 8)) n from by rw [Gs_upd1]; exact hG) 0 (ffail (Gs (upd (R 1) 1 8)) n ((upd (R 1) 1 8) 1) 0) (Or.inl rfl)) (cwV 2 hts gX5_rejects_X5_demandOf rfl rfl rfl (by decide +kernel) ⟨Nat.le_of_ble_eq_true rfl, Nat.le_of_ble_eq_true rfl⟩) ⟨bl_ro, va_recv hK hP (ci := 5) (q0 := 0) rfl rfl, pr_ro hP hE⟩ rfl rfl hl.1 rfl (lv_room (Nat.le_of_ble_eq_true rfl)) dX5_rejects_52 ⟨Nat.le_of_ble_eq_true rfl, Nat.le_of_ble_eq_true rfl⟩).run (fun r e_r => ?_)
    subst e_r
    refine lv_topi (fun y_ ey_ => ?_)
    obtain rfl : y_ = tdem (Gs (upd (R 1) 1 8)) n ((upd (R 1) 1 8) 1) 0 (ffail (Gs (upd (R 1) 1 8)) n ((upd (R 1) 1 8) 1) 0) := ey_
    refine va_put (D := (dC, dI)) (ci := 5) (v := .int (tdem (Gs (upd (R 1) 1 8)) n ((upd (R 1) 1 8) 1) 0 (ffail (Gs (upd (R 1) 1 8)) n ((upd (R 1) 1 8) 1) 0))) (ty := .int) (C := RX5) (T := TX5) (N := 32) hx hb hts hin5 tyX5 tyX5_ok nmX5 hown hK hP hD hS 0 rfl rfl 13 (by decide) f_97 (fun _ h9 => h9) rfl (by decide +kernel) rfl rfl (Nat.le_of_ble_eq_true rfl) dX5_rejects_55 (fun H locs hP hD hS => ?_)
    have hP : va_P (dC, dI) vwCl (wMdl cy m0 a (upd (upd (upd (upd I 10 1) 11 0) 12 (ffail (Gs (upd (R 1) 1 8)) n ((upd (R 1) 1 8) 1) 0)) 13 (tdem (Gs (upd (R 1) 1 8)) n ((upd (R 1) 1 8) 1) 0 (ffail (Gs (upd (R 1) 1 8)) n ((upd (R 1) 1 8) 1) 0))) (upr R 1 (upd (R 1) 1 8))) H := hP
    have hD : va_D A (wMdl cy m0 a (upd (upd (upd (upd I 10 1) 11 0) 12 (ffail (Gs (upd (R 1) 1 8)) n ((upd (R 1) 1 8) 1) 0)) 13 (tdem (Gs (upd (R 1) 1 8)) n ((upd (R 1) 1 8) 1) 0 (ffail (Gs (upd (R 1) 1 8)) n ((upd (R 1) 1 8) 1) 0))) (upr R 1 (upd (R 1) 1 8))) := hD
    refine lv_aload_n hx hb dX5_rejects_58 rfl (lv_at hl 0 rfl) ?_
    have hPc := hP.sub (ws' := wMdl cy m0 a (upd (upd (upd (upd I 10 1) 11 0) 12 (ffail (Gs (upd (R 1) 1 8)) n ((upd (R 1) 1 8) 1) 0)) 13 (tdem (Gs (upd (R 1) 1 8)) n ((upd (R 1) 1 8) 1) 0 (ffail (Gs (upd (R 1) 1 8)) n ((upd (R 1) 1 8) 1) 0))) (upr R 1 (upd (R 1) 1 8))) [0, 1, 2, 3, 4, 5, 6, 7, 8, 9, 10, 11, 12] rfl
    have hDc := hD.sub (ws' := wMdl cy m0 a (upd (upd (upd (upd I 10 1) 11 0) 12 (ffail (Gs (upd (R 1) 1 8)) n ((upd (R 1) 1 8) 1) 0)) 13 (tdem (Gs (upd (R 1) 1 8)) n ((upd (R 1) 1 8) 1) 0 (ffail (Gs (upd (R 1) 1 8)) n ((upd (R 1) 1 8) 1) 0))) (upr R 1 (upd (R 1) 1 8))) [0, 1, 2, 3, 4, 5, 6, 7, 8, 9, 10, 11, 12] (by decide) rfl
    have hFc := va_free (wc := wMdl cy m0 a (upd (upd (upd (upd I 10 1) 11 0) 12 (ffail (Gs (upd (R 1) 1 8)) n ((upd (R 1) 1 8) 1) 0)) 13 (tdem (Gs (upd (R 1) 1 8)) n ((upd (R 1) 1 8) 1) 0 (ffail (Gs (upd (R 1) 1 8)) n ((upd (R 1) 1 8) 1) 0))) (upr R 1 (upd (R 1) 1 8))) hD hS hA [0, 1, 2, 3, 4, 5, 6, 7, 8, 9, 10, 11, 12] rfl
    refine va_callv (va_runV (As := []) (rest := []) ⟨hx, hb, hml, hown, hts⟩ (c_X5_goesBack l dC dI cy H.size m0 a (upd (upd (upd (upd I 10 1) 11 0) 12 (ffail (Gs (upd (R 1) 1 8)) n ((upd (R 1) 1 8) 1) 0)) 13 (tdem (Gs (upd (R 1) 1 8)) n ((upd (R 1) 1 8) 1) 0 (ffail (Gs (upd (R 1) 1 8)) n ((upd (R 1) 1 8) 1) 0))) (upr R 1 (upd (R 1) 1 8))   ) (cwV 0 hts gX5_rejects_X5_goesBack rfl rfl rfl (by decide +kernel) ⟨Nat.le_of_ble_eq_true rfl, Nat.le_of_ble_eq_true rfl⟩) ⟨bl_in, va_recv hK hPc (ci := 5) (q0 := 0) rfl rfl, pr_in hPc hE hDc⟩ rfl rfl hl.1 rfl (lv_room (Nat.le_of_ble_eq_true rfl)) dX5_rejects_59 ⟨Nat.le_of_ble_eq_true rfl, Nat.le_of_ble_eq_true rfl⟩) hS (fun q _ h => hFc q h) hFc (fun u t H1 locs ht hvm hw hB hz1 hk1 hS => ?_)
    obtain ⟨hP1, hD1⟩ := hB
    rw [ht] at hP1
    obtain ⟨hP, hD⟩ := va_join (wr := []) (w1 := wMdl cy m0 a (upd (upd (upd (upd I 10 1) 11 0) 12 (ffail (Gs (upd (R 1) 1 8)) n ((upd (R 1) 1 8) 1) 0)) 13 (tdem (Gs (upd (R 1) 1 8)) n ((upd (R 1) 1 8) 1) 0 (ffail (Gs (upd (R 1) 1 8)) n ((upd (R 1) 1 8) 1) 0))) (upr R 1 (cpR (R 2) (upd (R 1) 1 8) 58))) hP hD [0, 1, 2, 3, 4, 5, 6, 7, 8, 9, 10, 11, 12] [] rfl rfl (by decide) (by decide) hk1 hFc hP1 hD1
    have hP : va_P (dC, dI) vwCl (wMdl cy m0 a (upd (upd (upd (upd I 10 1) 11 0) 12 (ffail (Gs (upd (R 1) 1 8)) n ((upd (R 1) 1 8) 1) 0)) 13 (tdem (Gs (upd (R 1) 1 8)) n ((upd (R 1) 1 8) 1) 0 (ffail (Gs (upd (R 1) 1 8)) n ((upd (R 1) 1 8) 1) 0))) (upr R 1 (cpR (R 2) (upd (R 1) 1 8) 58))) H1 := hP.sub [0, 1, 2, 3, 4, 5, 6, 7, 8, 9, 10, 11, 12] rfl
    have hD : va_D A (wMdl cy m0 a (upd (upd (upd (upd I 10 1) 11 0) 12 (ffail (Gs (upd (R 1) 1 8)) n ((upd (R 1) 1 8) 1) 0)) 13 (tdem (Gs (upd (R 1) 1 8)) n ((upd (R 1) 1 8) 1) 0 (ffail (Gs (upd (R 1) 1 8)) n ((upd (R 1) 1 8) 1) 0))) (upr R 1 (cpR (R 2) (upd (R 1) 1 8) 58))) := hD.sub [0, 1, 2, 3, 4, 5, 6, 7, 8, 9, 10, 11, 12] (by decide) rfl
    clear hz1 hk1 hPc hDc hFc hP1 hD1
    generalize H1 = H at hP hS ⊢
    refine lv_iconst (v := (-1)) hx hb dX5_rejects_62 (by decide) ?_
    have hP9 : va_P (dC, dI) vwCl (wMdl cy m0 a (rejI I (Gs (R 1)) n) (upr R 1 (cpR (R 2) (upd (R 1) 1 8) 58))) H := (by have g0 := b10.mp c_19; rw [Gs_upd1] at hP g0; rw [rejI, rjd, rjl, rjm, if_neg (show ¬ ffail (Gs (R 1)) n 8 0 = 0 from g0)]; exact hP)
    have hD9 : va_D A (wMdl cy m0 a (rejI I (Gs (R 1)) n) (upr R 1 (cpR (R 2) (upd (R 1) 1 8) 58))) := (by have g0 := b10.mp c_19; rw [Gs_upd1] at hD g0; rw [rejI, rjd, rjl, rjm, if_neg (show ¬ ffail (Gs (R 1)) n 8 0 = 0 from g0)]; exact hD)
    exact W.iret (v := (-1)) hx hb hr (fun t ht hW => ⟨⟨(-1), (rejI I (Gs (R 1)) n), rfl, ⟨rfl, rfl⟩, by rw [ht]; exact hP9, hD9⟩, hS.F ht⟩) hS.2.2 dX5_rejects_63
  · refine lv_iconst (v := 1) hx hb dX5_rejects_22 (by decide) ?_
    refine lv_goto (tgt := 27) hx hb dX5_rejects_23 (by decide) ?_
    refine va_put (D := (dC, dI)) (ci := 5) (v := .int 1) (ty := .int) (C := RX5) (T := TX5) (N := 32) hx hb hts hin5 tyX5 tyX5_ok nmX5 hown hK hP hD hS 0 rfl rfl 11 (by decide) f_91 (fun _ h9 => h9) rfl (by decide +kernel) rfl rfl (Nat.le_of_ble_eq_true rfl) dX5_rejects_27 (fun H locs hP hD hS => ?_)
    have hP : va_P (dC, dI) vwCl (wMdl cy m0 a (upd (upd I 10 1) 11 1) (upr R 1 (upd (R 1) 1 8))) H := hP
    have hD : va_D A (wMdl cy m0 a (upd (upd I 10 1) 11 1) (upr R 1 (upd (R 1) 1 8))) := hD
    refine lv_aload_n hx hb dX5_rejects_30 rfl (lv_at hl 0 rfl) ?_
    refine lv_aload_n hx hb dX5_rejects_31 rfl (lv_at hl 0 rfl) ?_
    refine lv_aload_n hx hb dX5_rejects_32 rfl (lv_at hl 0 rfl) ?_
    refine va_get (D := (dC, dI)) (ci := 5) (v := .int 1) (C := RX5) (T := TX5) (N := 32) hx hb hts hin5 hown hK hP 0 rfl rfl 11 (by decide) f_91 (fun _ h9 => h9) rfl dX5_rejects_33 ?_
    refine vp_callSi (va_runV (As := [.int 1]) (rest := [.ref m0]) ⟨hx, hb, hml, hown, hts⟩ (c_X5_firstFailing l dC dI cy m0 a (upd (upd I 10 1) 11 1) (upr R 1 (upd (R 1) 1 8)) n hn hS0 (show okG (Gs (upd (R 1) 1 8)) n from by rw [Gs_upd1]; exact hG) 1 (Or.inr rfl)) (cwV 1 hts gX5_rejects_X5_firstFailing rfl rfl rfl (by decide +kernel) ⟨Nat.le_of_ble_eq_true rfl, Nat.le_of_ble_eq_true rfl⟩) ⟨bl_ro, va_recv hK hP (ci := 5) (q0 := 0) rfl rfl, pr_ro hP hE⟩ rfl rfl hl.1 rfl (lv_room (Nat.le_of_ble_eq_true rfl)) dX5_rejects_36 ⟨Nat.le_of_ble_eq_true rfl, Nat.le_of_ble_eq_true rfl⟩).run (fun r e_r => ?_)
    subst e_r
    refine lv_topi (fun y_ ey_ => ?_)
    obtain rfl : y_ = ffail (Gs (upd (R 1) 1 8)) n ((upd (R 1) 1 8) 1) 1 := ey_
    refine va_put (D := (dC, dI)) (ci := 5) (v := .int (ffail (Gs (upd (R 1) 1 8)) n ((upd (R 1) 1 8) 1) 1)) (ty := .int) (C := RX5) (T := TX5) (N := 32) hx hb hts hin5 tyX5 tyX5_ok nmX5 hown hK hP hD hS 0 rfl rfl 12 (by decide) f_94 (fun _ h9 => h9) rfl (by decide +kernel) rfl rfl (Nat.le_of_ble_eq_true rfl) dX5_rejects_39 (fun H locs hP hD hS => ?_)
    have hP : va_P (dC, dI) vwCl (wMdl cy m0 a (upd (upd (upd I 10 1) 11 1) 12 (ffail (Gs (upd (R 1) 1 8)) n ((upd (R 1) 1 8) 1) 1)) (upr R 1 (upd (R 1) 1 8))) H := hP
    have hD : va_D A (wMdl cy m0 a (upd (upd (upd I 10 1) 11 1) 12 (ffail (Gs (upd (R 1) 1 8)) n ((upd (R 1) 1 8) 1) 1)) (upr R 1 (upd (R 1) 1 8))) := hD
    refine lv_aload_n hx hb dX5_rejects_42 rfl (lv_at hl 0 rfl) ?_
    refine lv_aload_n hx hb dX5_rejects_43 rfl (lv_at hl 0 rfl) ?_
    refine lv_aload_n hx hb dX5_rejects_44 rfl (lv_at hl 0 rfl) ?_
    refine va_get (D := (dC, dI)) (ci := 5) (v := .int 1) (C := RX5) (T := TX5) (N := 32) hx hb hts hin5 hown hK hP 0 rfl rfl 11 (by decide) f_91 (fun _ h9 => h9) rfl dX5_rejects_45 ?_
    refine lv_aload_n hx hb dX5_rejects_48 rfl (lv_at hl 0 rfl) ?_
    refine va_get (D := (dC, dI)) (ci := 5) (v := .int (ffail (Gs (upd (R 1) 1 8)) n ((upd (R 1) 1 8) 1) 1)) (C := RX5) (T := TX5) (N := 32) hx hb hts hin5 hown hK hP 0 rfl rfl 12 (by decide) f_94 (fun _ h9 => h9) rfl dX5_rejects_49 ?_
    refine vp_callSi (va_runV (As := [.int 1, .int (ffail (Gs (upd (R 1) 1 8)) n ((upd (R 1) 1 8) 1) 1)]) (rest := [.ref m0]) ⟨hx, hb, hml, hown, hts⟩ (c_X5_demandOf l dC dI cy m0 a (upd (upd (upd I 10 1) 11 1) 12 (ffail (Gs (upd (R 1) 1 8)) n ((upd (R 1) 1 8) 1) 1)) (upr R 1 (upd (R 1) 1 8)) n hn hS0 (show okG (Gs (upd (R 1) 1 8)) n from by rw [Gs_upd1]; exact hG) 1 (ffail (Gs (upd (R 1) 1 8)) n ((upd (R 1) 1 8) 1) 1) (Or.inr rfl)) (cwV 2 hts gX5_rejects_X5_demandOf rfl rfl rfl (by decide +kernel) ⟨Nat.le_of_ble_eq_true rfl, Nat.le_of_ble_eq_true rfl⟩) ⟨bl_ro, va_recv hK hP (ci := 5) (q0 := 0) rfl rfl, pr_ro hP hE⟩ rfl rfl hl.1 rfl (lv_room (Nat.le_of_ble_eq_true rfl)) dX5_rejects_52 ⟨Nat.le_of_ble_eq_true rfl, Nat.le_of_ble_eq_true rfl⟩).run (fun r e_r => ?_)
    subst e_r
    refine lv_topi (fun y_ ey_ => ?_)
    obtain rfl : y_ = tdem (Gs (upd (R 1) 1 8)) n ((upd (R 1) 1 8) 1) 1 (ffail (Gs (upd (R 1) 1 8)) n ((upd (R 1) 1 8) 1) 1) := ey_
    refine va_put (D := (dC, dI)) (ci := 5) (v := .int (tdem (Gs (upd (R 1) 1 8)) n ((upd (R 1) 1 8) 1) 1 (ffail (Gs (upd (R 1) 1 8)) n ((upd (R 1) 1 8) 1) 1))) (ty := .int) (C := RX5) (T := TX5) (N := 32) hx hb hts hin5 tyX5 tyX5_ok nmX5 hown hK hP hD hS 0 rfl rfl 13 (by decide) f_97 (fun _ h9 => h9) rfl (by decide +kernel) rfl rfl (Nat.le_of_ble_eq_true rfl) dX5_rejects_55 (fun H locs hP hD hS => ?_)
    have hP : va_P (dC, dI) vwCl (wMdl cy m0 a (upd (upd (upd (upd I 10 1) 11 1) 12 (ffail (Gs (upd (R 1) 1 8)) n ((upd (R 1) 1 8) 1) 1)) 13 (tdem (Gs (upd (R 1) 1 8)) n ((upd (R 1) 1 8) 1) 1 (ffail (Gs (upd (R 1) 1 8)) n ((upd (R 1) 1 8) 1) 1))) (upr R 1 (upd (R 1) 1 8))) H := hP
    have hD : va_D A (wMdl cy m0 a (upd (upd (upd (upd I 10 1) 11 1) 12 (ffail (Gs (upd (R 1) 1 8)) n ((upd (R 1) 1 8) 1) 1)) 13 (tdem (Gs (upd (R 1) 1 8)) n ((upd (R 1) 1 8) 1) 1 (ffail (Gs (upd (R 1) 1 8)) n ((upd (R 1) 1 8) 1) 1))) (upr R 1 (upd (R 1) 1 8))) := hD
    refine lv_aload_n hx hb dX5_rejects_58 rfl (lv_at hl 0 rfl) ?_
    have hPc := hP.sub (ws' := wMdl cy m0 a (upd (upd (upd (upd I 10 1) 11 1) 12 (ffail (Gs (upd (R 1) 1 8)) n ((upd (R 1) 1 8) 1) 1)) 13 (tdem (Gs (upd (R 1) 1 8)) n ((upd (R 1) 1 8) 1) 1 (ffail (Gs (upd (R 1) 1 8)) n ((upd (R 1) 1 8) 1) 1))) (upr R 1 (upd (R 1) 1 8))) [0, 1, 2, 3, 4, 5, 6, 7, 8, 9, 10, 11, 12] rfl
    have hDc := hD.sub (ws' := wMdl cy m0 a (upd (upd (upd (upd I 10 1) 11 1) 12 (ffail (Gs (upd (R 1) 1 8)) n ((upd (R 1) 1 8) 1) 1)) 13 (tdem (Gs (upd (R 1) 1 8)) n ((upd (R 1) 1 8) 1) 1 (ffail (Gs (upd (R 1) 1 8)) n ((upd (R 1) 1 8) 1) 1))) (upr R 1 (upd (R 1) 1 8))) [0, 1, 2, 3, 4, 5, 6, 7, 8, 9, 10, 11, 12] (by decide) rfl
    have hFc := va_free (wc := wMdl cy m0 a (upd (upd (upd (upd I 10 1) 11 1) 12 (ffail (Gs (upd (R 1) 1 8)) n ((upd (R 1) 1 8) 1) 1)) 13 (tdem (Gs (upd (R 1) 1 8)) n ((upd (R 1) 1 8) 1) 1 (ffail (Gs (upd (R 1) 1 8)) n ((upd (R 1) 1 8) 1) 1))) (upr R 1 (upd (R 1) 1 8))) hD hS hA [0, 1, 2, 3, 4, 5, 6, 7, 8, 9, 10, 11, 12] rfl
    refine va_callv (va_runV (As := []) (rest := []) ⟨hx, hb, hml, hown, hts⟩ (c_X5_goesBack l dC dI cy H.size m0 a (upd (upd (upd (upd I 10 1) 11 1) 12 (ffail (Gs (upd (R 1) 1 8)) n ((upd (R 1) 1 8) 1) 1)) 13 (tdem (Gs (upd (R 1) 1 8)) n ((upd (R 1) 1 8) 1) 1 (ffail (Gs (upd (R 1) 1 8)) n ((upd (R 1) 1 8) 1) 1))) (upr R 1 (upd (R 1) 1 8))   ) (cwV 0 hts gX5_rejects_X5_goesBack rfl rfl rfl (by decide +kernel) ⟨Nat.le_of_ble_eq_true rfl, Nat.le_of_ble_eq_true rfl⟩) ⟨bl_in, va_recv hK hPc (ci := 5) (q0 := 0) rfl rfl, pr_in hPc hE hDc⟩ rfl rfl hl.1 rfl (lv_room (Nat.le_of_ble_eq_true rfl)) dX5_rejects_59 ⟨Nat.le_of_ble_eq_true rfl, Nat.le_of_ble_eq_true rfl⟩) hS (fun q _ h => hFc q h) hFc (fun u t H1 locs ht hvm hw hB hz1 hk1 hS => ?_)
    obtain ⟨hP1, hD1⟩ := hB
    rw [ht] at hP1
    obtain ⟨hP, hD⟩ := va_join (wr := []) (w1 := wMdl cy m0 a (upd (upd (upd (upd I 10 1) 11 1) 12 (ffail (Gs (upd (R 1) 1 8)) n ((upd (R 1) 1 8) 1) 1)) 13 (tdem (Gs (upd (R 1) 1 8)) n ((upd (R 1) 1 8) 1) 1 (ffail (Gs (upd (R 1) 1 8)) n ((upd (R 1) 1 8) 1) 1))) (upr R 1 (cpR (R 2) (upd (R 1) 1 8) 58))) hP hD [0, 1, 2, 3, 4, 5, 6, 7, 8, 9, 10, 11, 12] [] rfl rfl (by decide) (by decide) hk1 hFc hP1 hD1
    have hP : va_P (dC, dI) vwCl (wMdl cy m0 a (upd (upd (upd (upd I 10 1) 11 1) 12 (ffail (Gs (upd (R 1) 1 8)) n ((upd (R 1) 1 8) 1) 1)) 13 (tdem (Gs (upd (R 1) 1 8)) n ((upd (R 1) 1 8) 1) 1 (ffail (Gs (upd (R 1) 1 8)) n ((upd (R 1) 1 8) 1) 1))) (upr R 1 (cpR (R 2) (upd (R 1) 1 8) 58))) H1 := hP.sub [0, 1, 2, 3, 4, 5, 6, 7, 8, 9, 10, 11, 12] rfl
    have hD : va_D A (wMdl cy m0 a (upd (upd (upd (upd I 10 1) 11 1) 12 (ffail (Gs (upd (R 1) 1 8)) n ((upd (R 1) 1 8) 1) 1)) 13 (tdem (Gs (upd (R 1) 1 8)) n ((upd (R 1) 1 8) 1) 1 (ffail (Gs (upd (R 1) 1 8)) n ((upd (R 1) 1 8) 1) 1))) (upr R 1 (cpR (R 2) (upd (R 1) 1 8) 58))) := hD.sub [0, 1, 2, 3, 4, 5, 6, 7, 8, 9, 10, 11, 12] (by decide) rfl
    clear hz1 hk1 hPc hDc hFc hP1 hD1
    generalize H1 = H at hP hS ⊢
    refine lv_iconst (v := (-1)) hx hb dX5_rejects_62 (by decide) ?_
    have hP9 : va_P (dC, dI) vwCl (wMdl cy m0 a (rejI I (Gs (R 1)) n) (upr R 1 (cpR (R 2) (upd (R 1) 1 8) 58))) H := (by have g0 := nb10 c_19; rw [Gs_upd1] at hP g0; rw [rejI, rjd, rjl, rjm, if_pos (show ffail (Gs (R 1)) n 8 0 = 0 from g0)]; exact hP)
    have hD9 : va_D A (wMdl cy m0 a (rejI I (Gs (R 1)) n) (upr R 1 (cpR (R 2) (upd (R 1) 1 8) 58))) := (by have g0 := nb10 c_19; rw [Gs_upd1] at hD g0; rw [rejI, rjd, rjl, rjm, if_pos (show ffail (Gs (R 1)) n 8 0 = 0 from g0)]; exact hD)
    exact W.iret (v := (-1)) hx hb hr (fun t ht hW => ⟨⟨(-1), (rejI I (Gs (R 1)) n), rfl, ⟨rfl, rfl⟩, by rw [ht]; exact hP9, hD9⟩, hS.F ht⟩) hS.2.2 dX5_rejects_63
set_option maxHeartbeats 1000000 in
set_option maxRecDepth 100000 in
/-- a proposal -/
theorem c_X5_propose (l : Launch) (dC : Nat → ClassId) (dI : Nat → Nat → Nat) (cy : Nat → ClassId) (sz : Nat) (m0 : Nat) (a : Nat → Nat) (I : Nat → Int32) (R : vG) (n : Nat) (hn : n ≤ 8) (hS0 : R 1 0 = nI n) (G : vG) (hagr : agr (Gs (R 1)) G n) (hG0 : okG G n) (ch : Nat) (hch : ch ≤ 6) (hI5 : I 5 = nI ch) (p0 p1 p2 p3 p4 p5 : Int32) : Met l yX5_propose wsX5_propose ({ frames := 7, cells := 0, slots := 0, locals := 158 }) (va_Pc [.ref m0, .int p0, .int p1, .int p2, .int p3, .int p4, .int p5] (pIn dC dI cy (wMdl cy m0 a I R) sz)) (va_Qi (fun (r : Int32) u => qPropose I R n G ch p0 p1 p2 p3 p4 p5 r u) (fun (u : (Nat → Int32) × vG) t => va_P (dC, dI) vwCl (wMdl cy m0 a u.1 u.2) t.heap ∧ va_D (va_A (wMdl cy m0 a I R) sz) (wMdl cy m0 a u.1 u.2)) (va_A (wMdl cy m0 a I R) sz)) 0 0 (va_A (wMdl cy m0 a I R) sz) := by
  refine Met.ofW (cc := cX5_propose) (maxL := 9) (ret := some .int) (by decide) rfl ?_
  intro p e s m args below meth c s₁ B hml hv
  obtain ⟨rfl, hsz, hP, hE, hD0⟩ := hv
  have hK := hE.1
  subst hsz
  have hD := hD0.self (sz := s.heap.size)
  generalize hAe : va_A (wMdl cy m0 a I R) s.heap.size = A at hD ⊢
  have hA : ∀ q : Nat, s.heap.size ≤ q → A q := fun q h => by rw [← hAe]; exact Or.inr h
  have hS : va_S A s.heap s.heap [] := va_S.rf
  have hP : va_P (dC, dI) vwCl (wMdl cy m0 a I R) s.heap := hP
  have hx := B.exec
  have hb := B.bytes
  have hr := B.returns
  have hts := atoms_spec (ws := wsX5_propose) B.pre
  have hown : s.vm.findClass RX5 = some m.cls := findClass_of_methodNamed B.named
  have hlocks := B.notSynchronized
  have hin5 : ∀ w ∈ u_ws RX5 TX5 32, w ∈ wsX5_propose := by decide +kernel
  have f_50 := hts (.fieldLink RX5 50 "DeadlineAdmissionModel" "thrown" "I") (by decide +kernel)
  have f_9 := hts (.fieldLink RX5 9 "DeadlineAdmissionModel" "s" "[I") (by decide +kernel)
  have hl := lv_entry ([.ref m0, .int p0, .int p1, .int p2, .int p3, .int p4, .int p5]) (n := 9) (Nat.le_of_ble_eq_true rfl)
  rw [lg_entry_eq]
  generalize (lg_sl ([.ref m0, .int p0, .int p1, .int p2, .int p3, .int p4, .int p5]) ++ List.replicate (9 - (lg_sl ([.ref m0, .int p0, .int p1, .int p2, .int p3, .int p4, .int p5])).length) Slot.unset).toArray = ls at hl ⊢
  have hl : lv_has ls 9 [(0, .ref m0), (1, .int p0), (2, .int p1), (3, .int p2), (4, .int p3), (5, .int p4), (6, .int p5)] := hl
  refine lv_aload_n hx hb dX5_propose_0 rfl (lv_at hl 0 rfl) ?_
  refine lv_iconst (v := 0) hx hb dX5_propose_1 (by decide) ?_
  refine va_put (D := (dC, dI)) (ci := 5) (v := .int 0) (ty := .int) (C := RX5) (T := TX5) (N := 32) hx hb hts hin5 tyX5 tyX5_ok nmX5 hown hK hP hD hS 0 rfl rfl 0 (by decide) f_50 (fun _ h9 => h9) rfl (by decide +kernel) rfl rfl (Nat.le_of_ble_eq_true rfl) dX5_propose_2 (fun H locs hP hD hS => ?_)
  have hP : va_P (dC, dI) vwCl (wMdl cy m0 a (upd I 0 0) R) H := hP
  have hD : va_D A (wMdl cy m0 a (upd I 0 0) R) := hD
  refine lv_iload_n hx hb dX5_propose_5 rfl (lv_at hl 1 rfl) ?_
  refine lv_iload_n hx hb dX5_propose_6 rfl (lv_at hl 2 rfl) ?_
  refine lv_iload_n hx hb dX5_propose_7 rfl (lv_at hl 3 rfl) ?_
  refine lv_iload hx hb dX5_propose_8 (lv_at hl 4 rfl) ?_
  refine lv_iload hx hb dX5_propose_10 (lv_at hl 5 rfl) ?_
  refine lv_iload hx hb dX5_propose_12 (lv_at hl 6 rfl) ?_
  refine vp_callSi (va_runS (As := [.int p0, .int p1, .int p2, .int p3, .int p4, .int p5]) (rest := []) ⟨hx, hb, hml, hown, hts⟩ (c_X5_areTold l p0 p1 p2 p3 p4 p5) (cwS 6 hts gX5_propose_X5_areTold rfl rfl rfl (by decide +kernel) ⟨Nat.le_of_ble_eq_true rfl, Nat.le_of_ble_eq_true rfl⟩) ⟨fun a U g mk q => q, fun U hU hW => ⟨rfl, trivial⟩⟩ rfl rfl hl.1 rfl (lv_room (Nat.le_of_ble_eq_true rfl)) dX5_propose_14 ⟨Nat.le_of_ble_eq_true rfl, Nat.le_of_ble_eq_true rfl⟩).run (fun rt e_rt => ?_)
  refine lv_if_ne (tgt := 26) hx hb dX5_propose_17 (by decide) (fun c_17 => ?_) (fun c_17 => ?_)
  · have htd : told p0 p1 p2 p3 p4 p5 := (e_rt.resolve_right (fun q => c_17 q.1)).2
    refine lv_aload_n hx hb dX5_propose_26 rfl (lv_at hl 0 rfl) ?_
    refine va_get (D := (dC, dI)) (ci := 5) (v := .ref (a 1)) (C := RX5) (T := TX5) (N := 32) hx hb hts hin5 hown hK hP 0 rfl rfl 1 (by decide) f_9 (fun _ h9 => h9) rfl dX5_propose_27 ?_
    refine lv_iconst (v := 0) hx hb dX5_propose_30 (by decide) ?_
    refine wI_alv (v := nI n) hx hb hK hP 1 0 rfl rfl 0 rfl (by omega) (by decide) hS0 dX5_propose_31 ?_
    refine lv_bipush (v := 8) hx hb dX5_propose_32 (by decide) ?_
    refine lv_icmp_ne (tgt := 43) hx hb dX5_propose_34 (by decide) (fun c_34 => ?_) (fun c_34 => ?_)
    · have hn9 : n < 8 := by rcases Nat.lt_or_ge n 8 with q | q; exact q; exact absurd (show nI n = 8 by rw [show n = 8 by omega]; rfl) c_34
      refine lv_aload_n hx hb dX5_propose_43 rfl (lv_at hl 0 rfl) ?_
      have hPc := hP.sub (ws' := wMdl cy m0 a (upd I 0 0) R) [0, 1, 2, 3, 4, 5, 6, 7, 8, 9, 10, 11, 12] rfl
      have hDc := hD.sub (ws' := wMdl cy m0 a (upd I 0 0) R) [0, 1, 2, 3, 4, 5, 6, 7, 8, 9, 10, 11, 12] (by decide) rfl
      have hFc := va_free (wc := wMdl cy m0 a (upd I 0 0) R) hD hS hA [0, 1, 2, 3, 4, 5, 6, 7, 8, 9, 10, 11, 12] rfl
      refine va_callv (va_runV (As := []) (rest := []) ⟨hx, hb, hml, hown, hts⟩ (c_X5_keeps l dC dI cy H.size m0 a (upd I 0 0) R   ) (cwV 0 hts gX5_propose_X5_keeps rfl rfl rfl (by decide +kernel) ⟨Nat.le_of_ble_eq_true rfl, Nat.le_of_ble_eq_true rfl⟩) ⟨bl_in, va_recv hK hPc (ci := 5) (q0 := 0) rfl rfl, pr_in hPc hE hDc⟩ rfl rfl hl.1 rfl (lv_room (Nat.le_of_ble_eq_true rfl)) dX5_propose_44 ⟨Nat.le_of_ble_eq_true rfl, Nat.le_of_ble_eq_true rfl⟩) hS (fun q _ h => hFc q h) hFc (fun u t H1 locs ht hvm hw hB hz1 hk1 hS => ?_)
      obtain ⟨hP1, hD1⟩ := hB
      rw [ht] at hP1
      obtain ⟨hP, hD⟩ := va_join (wr := []) (w1 := wMdl cy m0 a (upd I 0 0) (upr R 2 (cpR (R 1) (R 2) 58))) hP hD [0, 1, 2, 3, 4, 5, 6, 7, 8, 9, 10, 11, 12] [] rfl rfl (by decide) (by decide) hk1 hFc hP1 hD1
      have hP : va_P (dC, dI) vwCl (wMdl cy m0 a (upd I 0 0) (upr R 2 (cpR (R 1) (R 2) 58))) H1 := hP.sub [0, 1, 2, 3, 4, 5, 6, 7, 8, 9, 10, 11, 12] rfl
      have hD : va_D A (wMdl cy m0 a (upd I 0 0) (upr R 2 (cpR (R 1) (R 2) 58))) := hD.sub [0, 1, 2, 3, 4, 5, 6, 7, 8, 9, 10, 11, 12] (by decide) rfl
      clear hz1 hk1 hPc hDc hFc hP1 hD1
      generalize H1 = H at hP hS ⊢
      refine lv_aload_n hx hb dX5_propose_47 rfl (lv_at hl 0 rfl) ?_
      refine va_get (D := (dC, dI)) (ci := 5) (v := .ref (a 1)) (C := RX5) (T := TX5) (N := 32) hx hb hts hin5 hown hK hP 0 rfl rfl 1 (by decide) f_9 (fun _ h9 => h9) rfl dX5_propose_48 ?_
      refine lv_iconst (v := 0) hx hb dX5_propose_51 (by decide) ?_
      refine wI_alv (v := nI n) hx hb hK hP 1 0 rfl rfl 0 rfl (by omega) (by decide) hS0 dX5_propose_52 ?_
      refine lv_istore (lv' := [(7, .int (nI n)), (0, .ref m0), (1, .int p0), (2, .int p1), (3, .int p2), (4, .int p3), (5, .int p4), (6, .int p5)]) hx hb dX5_propose_53 hl (by decide) rfl (fun ls hl => ?_)
      refine lv_aload_n hx hb dX5_propose_55 rfl (lv_at hl 1 rfl) ?_
      refine va_get (D := (dC, dI)) (ci := 5) (v := .ref (a 1)) (C := RX5) (T := TX5) (N := 32) hx hb hts hin5 hown hK hP 0 rfl rfl 1 (by decide) f_9 (fun _ h9 => h9) rfl dX5_propose_56 ?_
      refine lv_iconst (v := 2) hx hb dX5_propose_59 (by decide) ?_
      refine lv_iload hx hb dX5_propose_60 (lv_at hl 0 rfl) ?_
      refine lv_iadd hx hb dX5_propose_62 ?_
      refine lv_iload_n hx hb dX5_propose_63 rfl (lv_at hl 2 rfl) ?_
      refine wI_ast hx hb hK hP hD hS 1 0 rfl rfl (2 + n) (nadd rfl rfl) (by omega) (by decide) dX5_propose_64 (fun H locs hP hD hS => ?_)
      have hP : va_P (dC, dI) vwCl (wMdl cy m0 a (upd I 0 0) (upr (upr R 1 (upd (R 1) (2 + n) p0)) 2 (cpR (R 1) (R 2) 58))) H := hP
      have hD : va_D A (wMdl cy m0 a (upd I 0 0) (upr (upr R 1 (upd (R 1) (2 + n) p0)) 2 (cpR (R 1) (R 2) 58))) := hD
      refine lv_aload_n hx hb dX5_propose_65 rfl (lv_at hl 1 rfl) ?_
      refine va_get (D := (dC, dI)) (ci := 5) (v := .ref (a 1)) (C := RX5) (T := TX5) (N := 32) hx hb hts hin5 hown hK hP 0 rfl rfl 1 (by decide) f_9 (fun _ h9 => h9) rfl dX5_propose_66 ?_
      refine lv_bipush (v := 10) hx hb dX5_propose_69 (by decide) ?_
      refine lv_iload hx hb dX5_propose_71 (lv_at hl 0 rfl) ?_
      refine lv_iadd hx hb dX5_propose_73 ?_
      refine lv_iload_n hx hb dX5_propose_74 rfl (lv_at hl 3 rfl) ?_
      refine wI_ast hx hb hK hP hD hS 1 0 rfl rfl (10 + n) (nadd rfl rfl) (by omega) (by decide) dX5_propose_75 (fun H locs hP hD hS => ?_)
      have hP : va_P (dC, dI) vwCl (wMdl cy m0 a (upd I 0 0) (upr (upr R 1 (upd (upd (R 1) (2 + n) p0) (10 + n) p1)) 2 (cpR (R 1) (R 2) 58))) H := hP
      have hD : va_D A (wMdl cy m0 a (upd I 0 0) (upr (upr R 1 (upd (upd (R 1) (2 + n) p0) (10 + n) p1)) 2 (cpR (R 1) (R 2) 58))) := hD
      refine lv_aload_n hx hb dX5_propose_76 rfl (lv_at hl 1 rfl) ?_
      refine va_get (D := (dC, dI)) (ci := 5) (v := .ref (a 1)) (C := RX5) (T := TX5) (N := 32) hx hb hts hin5 hown hK hP 0 rfl rfl 1 (by decide) f_9 (fun _ h9 => h9) rfl dX5_propose_77 ?_
      refine lv_bipush (v := 18) hx hb dX5_propose_80 (by decide) ?_
      refine lv_iload hx hb dX5_propose_82 (lv_at hl 0 rfl) ?_
      refine lv_iadd hx hb dX5_propose_84 ?_
      refine lv_iload_n hx hb dX5_propose_85 rfl (lv_at hl 4 rfl) ?_
      refine wI_ast hx hb hK hP hD hS 1 0 rfl rfl (18 + n) (nadd rfl rfl) (by omega) (by decide) dX5_propose_86 (fun H locs hP hD hS => ?_)
      have hP : va_P (dC, dI) vwCl (wMdl cy m0 a (upd I 0 0) (upr (upr R 1 (upd (upd (upd (R 1) (2 + n) p0) (10 + n) p1) (18 + n) p2)) 2 (cpR (R 1) (R 2) 58))) H := hP
      have hD : va_D A (wMdl cy m0 a (upd I 0 0) (upr (upr R 1 (upd (upd (upd (R 1) (2 + n) p0) (10 + n) p1) (18 + n) p2)) 2 (cpR (R 1) (R 2) 58))) := hD
      refine lv_aload_n hx hb dX5_propose_87 rfl (lv_at hl 1 rfl) ?_
      refine va_get (D := (dC, dI)) (ci := 5) (v := .ref (a 1)) (C := RX5) (T := TX5) (N := 32) hx hb hts hin5 hown hK hP 0 rfl rfl 1 (by decide) f_9 (fun _ h9 => h9) rfl dX5_propose_88 ?_
      refine lv_bipush (v := 26) hx hb dX5_propose_91 (by decide) ?_
      refine lv_iload hx hb dX5_propose_93 (lv_at hl 0 rfl) ?_
      refine lv_iadd hx hb dX5_propose_95 ?_
      refine lv_iload hx hb dX5_propose_96 (lv_at hl 5 rfl) ?_
      refine wI_ast hx hb hK hP hD hS 1 0 rfl rfl (26 + n) (nadd rfl rfl) (by omega) (by decide) dX5_propose_98 (fun H locs hP hD hS => ?_)
      have hP : va_P (dC, dI) vwCl (wMdl cy m0 a (upd I 0 0) (upr (upr R 1 (upd (upd (upd (upd (R 1) (2 + n) p0) (10 + n) p1) (18 + n) p2) (26 + n) p3)) 2 (cpR (R 1) (R 2) 58))) H := hP
      have hD : va_D A (wMdl cy m0 a (upd I 0 0) (upr (upr R 1 (upd (upd (upd (upd (R 1) (2 + n) p0) (10 + n) p1) (18 + n) p2) (26 + n) p3)) 2 (cpR (R 1) (R 2) 58))) := hD
      refine lv_aload_n hx hb dX5_propose_99 rfl (lv_at hl 1 rfl) ?_
      refine va_get (D := (dC, dI)) (ci := 5) (v := .ref (a 1)) (C := RX5) (T := TX5) (N := 32) hx hb hts hin5 hown hK hP 0 rfl rfl 1 (by decide) f_9 (fun _ h9 => h9) rfl dX5_propose_100 ?_
      refine lv_bipush (v := 34) hx hb dX5_propose_103 (by decide) ?_
      refine lv_iload hx hb dX5_propose_105 (lv_at hl 0 rfl) ?_
      refine lv_iadd hx hb dX5_propose_107 ?_
      refine lv_iload hx hb dX5_propose_108 (lv_at hl 6 rfl) ?_
      refine wI_ast hx hb hK hP hD hS 1 0 rfl rfl (34 + n) (nadd rfl rfl) (by omega) (by decide) dX5_propose_110 (fun H locs hP hD hS => ?_)
      have hP : va_P (dC, dI) vwCl (wMdl cy m0 a (upd I 0 0) (upr (upr R 1 (upd (upd (upd (upd (upd (R 1) (2 + n) p0) (10 + n) p1) (18 + n) p2) (26 + n) p3) (34 + n) p4)) 2 (cpR (R 1) (R 2) 58))) H := hP
      have hD : va_D A (wMdl cy m0 a (upd I 0 0) (upr (upr R 1 (upd (upd (upd (upd (upd (R 1) (2 + n) p0) (10 + n) p1) (18 + n) p2) (26 + n) p3) (34 + n) p4)) 2 (cpR (R 1) (R 2) 58))) := hD
      refine lv_aload_n hx hb dX5_propose_111 rfl (lv_at hl 1 rfl) ?_
      refine va_get (D := (dC, dI)) (ci := 5) (v := .ref (a 1)) (C := RX5) (T := TX5) (N := 32) hx hb hts hin5 hown hK hP 0 rfl rfl 1 (by decide) f_9 (fun _ h9 => h9) rfl dX5_propose_112 ?_
      refine lv_bipush (v := 42) hx hb dX5_propose_115 (by decide) ?_
      refine lv_iload hx hb dX5_propose_117 (lv_at hl 0 rfl) ?_
      refine lv_iadd hx hb dX5_propose_119 ?_
      refine lv_iload hx hb dX5_propose_120 (lv_at hl 7 rfl) ?_
      refine wI_ast hx hb hK hP hD hS 1 0 rfl rfl (42 + n) (nadd rfl rfl) (by omega) (by decide) dX5_propose_122 (fun H locs hP hD hS => ?_)
      have hP : va_P (dC, dI) vwCl (wMdl cy m0 a (upd I 0 0) (upr (upr R 1 (upd (upd (upd (upd (upd (upd (R 1) (2 + n) p0) (10 + n) p1) (18 + n) p2) (26 + n) p3) (34 + n) p4) (42 + n) p5)) 2 (cpR (R 1) (R 2) 58))) H := hP
      have hD : va_D A (wMdl cy m0 a (upd I 0 0) (upr (upr R 1 (upd (upd (upd (upd (upd (upd (R 1) (2 + n) p0) (10 + n) p1) (18 + n) p2) (26 + n) p3) (34 + n) p4) (42 + n) p5)) 2 (cpR (R 1) (R 2) 58))) := hD
      refine lv_aload_n hx hb dX5_propose_123 rfl (lv_at hl 1 rfl) ?_
      refine va_get (D := (dC, dI)) (ci := 5) (v := .ref (a 1)) (C := RX5) (T := TX5) (N := 32) hx hb hts hin5 hown hK hP 0 rfl rfl 1 (by decide) f_9 (fun _ h9 => h9) rfl dX5_propose_124 ?_
      refine lv_bipush (v := 50) hx hb dX5_propose_127 (by decide) ?_
      refine lv_iload hx hb dX5_propose_129 (lv_at hl 0 rfl) ?_
      refine lv_iadd hx hb dX5_propose_131 ?_
      refine lv_iconst (v := 0) hx hb dX5_propose_132 (by decide) ?_
      refine wI_ast hx hb hK hP hD hS 1 0 rfl rfl (50 + n) (nadd rfl rfl) (by omega) (by decide) dX5_propose_133 (fun H locs hP hD hS => ?_)
      have hP : va_P (dC, dI) vwCl (wMdl cy m0 a (upd I 0 0) (upr (upr R 1 (upd (upd (upd (upd (upd (upd (upd (R 1) (2 + n) p0) (10 + n) p1) (18 + n) p2) (26 + n) p3) (34 + n) p4) (42 + n) p5) (50 + n) 0)) 2 (cpR (R 1) (R 2) 58))) H := hP
      have hD : va_D A (wMdl cy m0 a (upd I 0 0) (upr (upr R 1 (upd (upd (upd (upd (upd (upd (upd (R 1) (2 + n) p0) (10 + n) p1) (18 + n) p2) (26 + n) p3) (34 + n) p4) (42 + n) p5) (50 + n) 0)) 2 (cpR (R 1) (R 2) 58))) := hD
      refine lv_aload_n hx hb dX5_propose_134 rfl (lv_at hl 1 rfl) ?_
      refine va_get (D := (dC, dI)) (ci := 5) (v := .ref (a 1)) (C := RX5) (T := TX5) (N := 32) hx hb hts hin5 hown hK hP 0 rfl rfl 1 (by decide) f_9 (fun _ h9 => h9) rfl dX5_propose_135 ?_
      refine lv_iconst (v := 0) hx hb dX5_propose_138 (by decide) ?_
      refine lv_dup2_11 hx hb dX5_propose_139 rfl rfl ?_
      refine wI_alv (v := nI n) hx hb hK hP 1 0 rfl rfl 0 rfl (by omega) (by decide) (show (upd (upd (upd (upd (upd (upd (upd (R 1) (2 + n) p0) (10 + n) p1) (18 + n) p2) (26 + n) p3) (34 + n) p4) (42 + n) p5) (50 + n) 0) 0 = nI n from by rw [pk_un (by omega), pk_un (by omega), pk_un (by omega), pk_un (by omega), pk_un (by omega), pk_un (by omega), pk_un (by omega)]; exact hS0) dX5_propose_140 ?_
      refine lv_iconst (v := 1) hx hb dX5_propose_141 (by decide) ?_
      refine lv_iadd hx hb dX5_propose_142 ?_
      refine lv_topi (fun y_ ey_ => ?_)
      obtain rfl : y_ = nI (n + 1) := ey_.trans (nI_1 n)
      refine wI_ast hx hb hK hP hD hS 1 0 rfl rfl 0 rfl (by omega) (by decide) dX5_propose_143 (fun H locs hP hD hS => ?_)
      have hP : va_P (dC, dI) vwCl (wMdl cy m0 a (upd I 0 0) (upr (upr R 1 (upd (upd (upd (upd (upd (upd (upd (upd (R 1) (2 + n) p0) (10 + n) p1) (18 + n) p2) (26 + n) p3) (34 + n) p4) (42 + n) p5) (50 + n) 0) 0 (nI (n + 1)))) 2 (cpR (R 1) (R 2) 58))) H := hP
      have hD : va_D A (wMdl cy m0 a (upd I 0 0) (upr (upr R 1 (upd (upd (upd (upd (upd (upd (upd (upd (R 1) (2 + n) p0) (10 + n) p1) (18 + n) p2) (26 + n) p3) (34 + n) p4) (42 + n) p5) (50 + n) 0) 0 (nI (n + 1)))) 2 (cpR (R 1) (R 2) 58))) := hD
      have loop144 : ∀ (k : Nat) (f : Nat) (Gk : vG) (Sc : Nat → Int32) (ls : Array Slot), f < k → Sc 0 = nI (n + 1) → agr (Gs Sc) Gk (n + 1) → okG Gk (n + 1) → mu Gk (n + 1) ≤ f → dgl (n + 1) f Gk = pF G n p0 p1 p2 p3 p4 p5 → ∀ (H : Heap) (locs : List Loc), va_P (dC, dI) vwCl (wMdl cy m0 a (upd I 0 0) (upr (upr R 1 Sc) 2 (cpR (R 1) (R 2) 58))) H → va_D A (wMdl cy m0 a (upd I 0 0) (upr (upr R 1 Sc) 2 (cpR (R 1) (R 2) 58))) → va_S A s.heap H locs → lv_has ls 9 [(0, .ref m0), (1, .int p0), (2, .int p1), (3, .int p2), (4, .int p3), (5, .int p4), (6, .int p5), (7, .int (nI n))] → W p l e (headSpec wsX5_propose ({ frames := 7, cells := 0, slots := 0, locals := 158 }) |>.room) s m (([.ref m0, .int p0, .int p1, .int p2, .int p3, .int p4, .int p5].toArray)) below meth c H locs 0 0 (MQ below (va_Qi (fun (r : Int32) u => qPropose I R n G ch p0 p1 p2 p3 p4 p5 r u) (fun (u : (Nat → Int32) × vG) t => va_P (dC, dI) vwCl (wMdl cy m0 a u.1 u.2) t.heap ∧ va_D (A) (wMdl cy m0 a u.1 u.2)) (A)) ([.ref m0, .int p0, .int p1, .int p2, .int p3, .int p4, .int p5].toArray) s 0 0 A) (F0 m 144 ls []) := by
        intro k
        induction k with
        | zero =>
          intro f Gk Sc ls hk hSc0 hag hok hmu hd
          exfalso; omega
        | succ k ih144 =>
          intro f Gk Sc ls hk hSc0 hag hok hmu hd H locs hP hD hS hl
          refine lv_aload_n hx hb dX5_propose_144 rfl (lv_at hl 0 rfl) ?_
          have hPc := hP.sub (ws' := wMdl cy m0 a (upd I 0 0) (upr (upr R 1 Sc) 2 (cpR (R 1) (R 2) 58))) [0, 1, 2, 3, 4, 5, 6, 7, 8, 9, 10, 11, 12] rfl
          have hDc := hD.sub (ws' := wMdl cy m0 a (upd I 0 0) (upr (upr R 1 Sc) 2 (cpR (R 1) (R 2) 58))) [0, 1, 2, 3, 4, 5, 6, 7, 8, 9, 10, 11, 12] (by decide) rfl
          have hFc := va_free (wc := wMdl cy m0 a (upd I 0 0) (upr (upr R 1 Sc) 2 (cpR (R 1) (R 2) 58))) hD hS hA [0, 1, 2, 3, 4, 5, 6, 7, 8, 9, 10, 11, 12] rfl
          refine va_calli (va_runV (As := []) (rest := []) ⟨hx, hb, hml, hown, hts⟩ (c_X5_scales l dC dI cy H.size m0 a (upd I 0 0) (upr (upr R 1 Sc) 2 (cpR (R 1) (R 2) 58)) (n + 1) (by omega) hSc0 (okG_agr hag.symm hok)) (cwV 0 hts gX5_propose_X5_scales rfl rfl rfl (by decide +kernel) ⟨Nat.le_of_ble_eq_true rfl, Nat.le_of_ble_eq_true rfl⟩) ⟨bl_in, va_recv hK hPc (ci := 5) (q0 := 0) rfl rfl, pr_in hPc hE hDc⟩ rfl rfl hl.1 rfl (lv_room (Nat.le_of_ble_eq_true rfl)) dX5_propose_145 ⟨Nat.le_of_ble_eq_true rfl, Nat.le_of_ble_eq_true rfl⟩) hS (fun q _ h => hFc q h) hFc (fun r u t H1 locs ht hvm hw hB hz1 hk1 hS => ?_)
          obtain ⟨rfl, rfl⟩ := hw
          obtain ⟨hP1, hD1⟩ := hB
          rw [ht] at hP1
          obtain ⟨hP, hD⟩ := va_join (wr := []) (w1 := wMdl cy m0 a (upd I 0 0) (upr (upr R 1 (upd Sc 1 (if gscale (Gs Sc) (n + 1) = 0 then 1 else nI (gscale (Gs Sc) (n + 1))))) 2 (cpR (R 1) (R 2) 58))) hP hD [0, 1, 2, 3, 4, 5, 6, 7, 8, 9, 10, 11, 12] [] rfl rfl (by decide) (by decide) hk1 hFc hP1 hD1
          have hP : va_P (dC, dI) vwCl (wMdl cy m0 a (upd I 0 0) (upr (upr R 1 (upd Sc 1 (if gscale (Gs Sc) (n + 1) = 0 then 1 else nI (gscale (Gs Sc) (n + 1))))) 2 (cpR (R 1) (R 2) 58))) H1 := hP.sub [0, 1, 2, 3, 4, 5, 6, 7, 8, 9, 10, 11, 12] rfl
          have hD : va_D A (wMdl cy m0 a (upd I 0 0) (upr (upr R 1 (upd Sc 1 (if gscale (Gs Sc) (n + 1) = 0 then 1 else nI (gscale (Gs Sc) (n + 1))))) 2 (cpR (R 1) (R 2) 58))) := hD.sub [0, 1, 2, 3, 4, 5, 6, 7, 8, 9, 10, 11, 12] (by decide) rfl
          clear hz1 hk1 hPc hDc hFc hP1 hD1
          generalize H1 = H at hP hS ⊢
          refine lv_topi (fun y_ ey_ => ?_)
          obtain rfl : y_ = if gscale (Gs Sc) (n + 1) = 0 then 0 else 1 := ey_
          refine lv_if_ne (tgt := 184) hx hb dX5_propose_148 (by decide) (fun c_148 => ?_) (fun c_148 => ?_)
          · have g0 : ¬ gscale (Gs Sc) (n + 1) = 0 := fun h => c_148 (b01.mpr h)
            have g1 : ¬ gscale Gk (n + 1) = 0 := by rw [← gscale_agr hag]; exact g0
            have hF : pF G n p0 p1 p2 p3 p4 p5 = Gk := by rw [← hd]; cases f with | zero => rfl | succ f => rw [dgl, if_neg g1]
            refine lv_aload_n hx hb dX5_propose_184 rfl (lv_at hl 0 rfl) ?_
            have hPc := hP.sub (ws' := wMdl cy m0 a (upd I 0 0) (upr (upr R 1 (upd Sc 1 (if gscale (Gs Sc) (n + 1) = 0 then 1 else nI (gscale (Gs Sc) (n + 1))))) 2 (cpR (R 1) (R 2) 58))) [0, 1, 2, 3, 4, 5, 6, 7, 8, 9, 10, 11, 12] rfl
            have hDc := hD.sub (ws' := wMdl cy m0 a (upd I 0 0) (upr (upr R 1 (upd Sc 1 (if gscale (Gs Sc) (n + 1) = 0 then 1 else nI (gscale (Gs Sc) (n + 1))))) 2 (cpR (R 1) (R 2) 58))) [0, 1, 2, 3, 4, 5, 6, 7, 8, 9, 10, 11, 12] (by decide) rfl
            have hFc := va_free (wc := wMdl cy m0 a (upd I 0 0) (upr (upr R 1 (upd Sc 1 (if gscale (Gs Sc) (n + 1) = 0 then 1 else nI (gscale (Gs Sc) (n + 1))))) 2 (cpR (R 1) (R 2) 58))) hD hS hA [0, 1, 2, 3, 4, 5, 6, 7, 8, 9, 10, 11, 12] rfl
            refine va_callv (va_runV (As := []) (rest := []) ⟨hx, hb, hml, hown, hts⟩ (c_X5_records l dC dI cy H.size m0 a (upd I 0 0) (upr (upr R 1 (upd Sc 1 (if gscale (Gs Sc) (n + 1) = 0 then 1 else nI (gscale (Gs Sc) (n + 1))))) 2 (cpR (R 1) (R 2) 58))   ch hch hI5) (cwV 0 hts gX5_propose_X5_records rfl rfl rfl (by decide +kernel) ⟨Nat.le_of_ble_eq_true rfl, Nat.le_of_ble_eq_true rfl⟩) ⟨bl_in, va_recv hK hPc (ci := 5) (q0 := 0) rfl rfl, pr_in hPc hE hDc⟩ rfl rfl hl.1 rfl (lv_room (Nat.le_of_ble_eq_true rfl)) dX5_propose_185 ⟨Nat.le_of_ble_eq_true rfl, Nat.le_of_ble_eq_true rfl⟩) hS (fun q _ h => hFc q h) hFc (fun u t H1 locs ht hvm hw hB hz1 hk1 hS => ?_)
            obtain ⟨hP1, hD1⟩ := hB
            rw [ht] at hP1
            obtain ⟨hP, hD⟩ := va_join (wr := []) (w1 := wMdl cy m0 a (upd (upd (upd I 0 0) 5 (nI (hcnt ch))) 14 0) (upr (upr (upr R 1 (upd Sc 1 (if gscale (Gs Sc) (n + 1) = 0 then 1 else nI (gscale (Gs Sc) (n + 1))))) 2 (cpR (R 1) (R 2) 58)) 4 (hrec (R 4) (cpR (R 1) (R 2) 58) ch))) hP hD [0, 1, 2, 3, 4, 5, 6, 7, 8, 9, 10, 11, 12] [] rfl rfl (by decide) (by decide) hk1 hFc hP1 hD1
            have hP : va_P (dC, dI) vwCl (wMdl cy m0 a (upd (upd (upd I 0 0) 5 (nI (hcnt ch))) 14 0) (upr (upr (upr R 1 (upd Sc 1 (if gscale (Gs Sc) (n + 1) = 0 then 1 else nI (gscale (Gs Sc) (n + 1))))) 2 (cpR (R 1) (R 2) 58)) 4 (hrec (R 4) (cpR (R 1) (R 2) 58) ch))) H1 := hP.sub [0, 1, 2, 3, 4, 5, 6, 7, 8, 9, 10, 11, 12] rfl
            have hD : va_D A (wMdl cy m0 a (upd (upd (upd I 0 0) 5 (nI (hcnt ch))) 14 0) (upr (upr (upr R 1 (upd Sc 1 (if gscale (Gs Sc) (n + 1) = 0 then 1 else nI (gscale (Gs Sc) (n + 1))))) 2 (cpR (R 1) (R 2) 58)) 4 (hrec (R 4) (cpR (R 1) (R 2) 58) ch))) := hD.sub [0, 1, 2, 3, 4, 5, 6, 7, 8, 9, 10, 11, 12] (by decide) rfl
            clear hz1 hk1 hPc hDc hFc hP1 hD1
            generalize H1 = H at hP hS ⊢
            refine lv_iload hx hb dX5_propose_188 (lv_at hl 7 rfl) ?_
            have hP9 : va_P (dC, dI) vwCl (wMdl cy m0 a (upd (upd (upd I 0 0) 5 (nI (hcnt ch))) 14 0) (upr (upr (upr R 1 (upd Sc 1 (if gscale (Gs Sc) (n + 1) = 0 then 1 else nI (gscale (Gs Sc) (n + 1))))) 2 (cpR (R 1) (R 2) 58)) 4 (hrec (R 4) (cpR (R 1) (R 2) 58) ch))) H := hP
            have hD9 : va_D A (wMdl cy m0 a (upd (upd (upd I 0 0) 5 (nI (hcnt ch))) 14 0) (upr (upr (upr R 1 (upd Sc 1 (if gscale (Gs Sc) (n + 1) = 0 then 1 else nI (gscale (Gs Sc) (n + 1))))) 2 (cpR (R 1) (R 2) 58)) 4 (hrec (R 4) (cpR (R 1) (R 2) 58) ch))) := hD
            exact W.iret (v := nI n) hx hb hr (fun t ht hW => ⟨⟨nI n, (upd (upd (upd I 0 0) 5 (nI (hcnt ch))) 14 0, upr (upr (upr R 1 (upd Sc 1 (if gscale (Gs Sc) (n + 1) = 0 then 1 else nI (gscale (Gs Sc) (n + 1))))) 2 (cpR (R 1) (R 2) 58)) 4 (hrec (R 4) (cpR (R 1) (R 2) 58) ch)), rfl, (Or.inr (Or.inr (Or.inl ⟨htd, hn9, by rw [hF]; exact g1, rfl, _, rfl, by rw [pk_un (by omega)]; exact hSc0, by rw [pk_us, if_neg g0, hF, gscale_agr hag], by rw [hF, Gs_upd1]; exact hag⟩))), by rw [ht]; exact hP9, hD9⟩, hS.F ht⟩) hS.2.2 dX5_propose_190
          · have g0 := b01.mp c_148
            have g1 : gscale Gk (n + 1) = 0 := by rw [← gscale_agr hag]; exact g0
            refine lv_aload_n hx hb dX5_propose_151 rfl (lv_at hl 0 rfl) ?_
            refine vp_callSi (va_runV (As := []) (rest := []) ⟨hx, hb, hml, hown, hts⟩ (c_X5_weakest l dC dI cy m0 a (upd I 0 0) (upr (upr R 1 (upd Sc 1 (if gscale (Gs Sc) (n + 1) = 0 then 1 else nI (gscale (Gs Sc) (n + 1))))) 2 (cpR (R 1) (R 2) 58)) (n + 1) (by omega) (show (upd Sc 1 (if gscale (Gs Sc) (n + 1) = 0 then 1 else nI (gscale (Gs Sc) (n + 1)))) 0 = nI (n + 1) from hSc0)) (cwV 0 hts gX5_propose_X5_weakest rfl rfl rfl (by decide +kernel) ⟨Nat.le_of_ble_eq_true rfl, Nat.le_of_ble_eq_true rfl⟩) ⟨bl_ro, va_recv hK hP (ci := 5) (q0 := 0) rfl rfl, pr_ro hP hE⟩ rfl rfl hl.1 rfl (lv_room (Nat.le_of_ble_eq_true rfl)) dX5_propose_152 ⟨Nat.le_of_ble_eq_true rfl, Nat.le_of_ble_eq_true rfl⟩).run (fun r e_r => ?_)
            subst e_r
            refine lv_topi (fun y_ ey_ => ?_)
            obtain rfl : y_ = wkI (wk (Gs (upd Sc 1 (if gscale (Gs Sc) (n + 1) = 0 then 1 else nI (gscale (Gs Sc) (n + 1))))) (n + 1)) := ey_
            refine lv_topi (fun y_ ey_ => ?_)
            obtain rfl : y_ = wkI (wk Gk (n + 1)) := ey_.trans (by rw [Gs_upd1, wk_agr hag _ (Nat.le_refl _)])
            refine lv_istore (lv' := [(8, .int (wkI (wk Gk (n + 1)))), (0, .ref m0), (1, .int p0), (2, .int p1), (3, .int p2), (4, .int p3), (5, .int p4), (6, .int p5), (7, .int (nI n))]) hx hb dX5_propose_155 hl (by decide) rfl (fun ls hl => ?_)
            refine lv_iload hx hb dX5_propose_157 (lv_at hl 0 rfl) ?_
            refine lv_if_ge (tgt := 167) hx hb dX5_propose_159 (by decide) (fun c_159 => ?_) (fun c_159 => ?_)
            · obtain ⟨j, hj⟩ : ∃ j, wk Gk (n + 1) = some j := by rcases h : wk Gk (n + 1) with _ | j; exact absurd c_159 (by rw [h]; decide); exact ⟨j, rfl⟩
              have hjl := wk_lt Gk (n + 1) j hj
              have ew : wkI (wk Gk (n + 1)) = nI j := by rw [hj]; rfl
              obtain ⟨f, rfl⟩ : ∃ z, f = z + 1 := ⟨f - 1, by have := mu_deg hok hj; omega⟩
              refine lv_aload_n hx hb dX5_propose_167 rfl (lv_at hl 1 rfl) ?_
              refine va_get (D := (dC, dI)) (ci := 5) (v := .ref (a 1)) (C := RX5) (T := TX5) (N := 32) hx hb hts hin5 hown hK hP 0 rfl rfl 1 (by decide) f_9 (fun _ h9 => h9) rfl dX5_propose_168 ?_
              refine lv_bipush (v := 50) hx hb dX5_propose_171 (by decide) ?_
              refine lv_iload hx hb dX5_propose_173 (lv_at hl 0 rfl) ?_
              refine lv_iadd hx hb dX5_propose_175 ?_
              refine lv_dup2_11 hx hb dX5_propose_176 rfl rfl ?_
              refine wI_alv (v := Gs (upd Sc 1 (if gscale (Gs Sc) (n + 1) = 0 then 1 else nI (gscale (Gs Sc) (n + 1)))) 6 j) hx hb hK hP 1 0 rfl rfl (50 + j) (nadd rfl ew) (by omega) (by decide) rfl dX5_propose_177 ?_
              refine lv_iconst (v := 1) hx hb dX5_propose_178 (by decide) ?_
              refine lv_iadd hx hb dX5_propose_179 ?_
              refine wI_ast hx hb hK hP hD hS 1 0 rfl rfl (50 + j) (nadd rfl ew) (by omega) (by decide) dX5_propose_180 (fun H locs hP hD hS => ?_)
              have hP : va_P (dC, dI) vwCl (wMdl cy m0 a (upd I 0 0) (upr (upr R 1 (upd (upd Sc 1 (if gscale (Gs Sc) (n + 1) = 0 then 1 else nI (gscale (Gs Sc) (n + 1)))) (50 + j) ((Gs (upd Sc 1 (if gscale (Gs Sc) (n + 1) = 0 then 1 else nI (gscale (Gs Sc) (n + 1)))) 6 j) + 1))) 2 (cpR (R 1) (R 2) 58))) H := hP
              have hD : va_D A (wMdl cy m0 a (upd I 0 0) (upr (upr R 1 (upd (upd Sc 1 (if gscale (Gs Sc) (n + 1) = 0 then 1 else nI (gscale (Gs Sc) (n + 1)))) (50 + j) ((Gs (upd Sc 1 (if gscale (Gs Sc) (n + 1) = 0 then 1 else nI (gscale (Gs Sc) (n + 1)))) 6 j) + 1))) 2 (cpR (R 1) (R 2) 58))) := hD
              refine lv_goto (tgt := 144) hx hb dX5_propose_181 (by decide) ?_
              exact ih144 f _ _ ls (by omega) (by rw [pk_un (by omega), pk_un (by omega)]; exact hSc0) (agr_degS hag hj (by omega)) (okG_deg hok) (by have := mu_deg hok hj; omega) (by rw [← hd, dgl, if_pos g1, hj]) _ _ hP hD hS (lv_sub hl [1, 2, 3, 4, 5, 6, 7, 8] rfl)
            · have hj : wk Gk (n + 1) = none := by rcases h : wk Gk (n + 1) with _ | j; rfl; exact absurd (by rw [h]; exact nI_pos' (n := j) (by have := wk_lt Gk (n + 1) j h; omega)) c_159
              have hF : pF G n p0 p1 p2 p3 p4 p5 = Gk := by rw [← hd]; cases f with | zero => rfl | succ f => rw [dgl, if_pos g1, hj]
              refine lv_aload_n hx hb dX5_propose_162 rfl (lv_at hl 1 rfl) ?_
              have hPc := hP.sub (ws' := wMdl cy m0 a (upd I 0 0) (upr (upr R 1 (upd Sc 1 (if gscale (Gs Sc) (n + 1) = 0 then 1 else nI (gscale (Gs Sc) (n + 1))))) 2 (cpR (R 1) (R 2) 58))) [0, 1, 2, 3, 4, 5, 6, 7, 8, 9, 10, 11, 12] rfl
              have hDc := hD.sub (ws' := wMdl cy m0 a (upd I 0 0) (upr (upr R 1 (upd Sc 1 (if gscale (Gs Sc) (n + 1) = 0 then 1 else nI (gscale (Gs Sc) (n + 1))))) 2 (cpR (R 1) (R 2) 58))) [0, 1, 2, 3, 4, 5, 6, 7, 8, 9, 10, 11, 12] (by decide) rfl
              have hFc := va_free (wc := wMdl cy m0 a (upd I 0 0) (upr (upr R 1 (upd Sc 1 (if gscale (Gs Sc) (n + 1) = 0 then 1 else nI (gscale (Gs Sc) (n + 1))))) 2 (cpR (R 1) (R 2) 58))) hD hS hA [0, 1, 2, 3, 4, 5, 6, 7, 8, 9, 10, 11, 12] rfl
              refine va_calli (va_runV (As := []) (rest := []) ⟨hx, hb, hml, hown, hts⟩ (c_X5_rejects l dC dI cy H.size m0 a (upd I 0 0) (upr (upr R 1 (upd Sc 1 (if gscale (Gs Sc) (n + 1) = 0 then 1 else nI (gscale (Gs Sc) (n + 1))))) 2 (cpR (R 1) (R 2) 58)) (n + 1) (by omega) (show (upd Sc 1 (if gscale (Gs Sc) (n + 1) = 0 then 1 else nI (gscale (Gs Sc) (n + 1)))) 0 = nI (n + 1) from hSc0) (show okG (Gs (upd Sc 1 (if gscale (Gs Sc) (n + 1) = 0 then 1 else nI (gscale (Gs Sc) (n + 1))))) (n + 1) from by rw [Gs_upd1]; exact okG_agr hag.symm hok)) (cwV 0 hts gX5_propose_X5_rejects rfl rfl rfl (by decide +kernel) ⟨Nat.le_of_ble_eq_true rfl, Nat.le_of_ble_eq_true rfl⟩) ⟨bl_in, va_recv hK hPc (ci := 5) (q0 := 0) rfl rfl, pr_in hPc hE hDc⟩ rfl rfl hl.1 rfl (lv_room (Nat.le_of_ble_eq_true rfl)) dX5_propose_163 ⟨Nat.le_of_ble_eq_true rfl, Nat.le_of_ble_eq_true rfl⟩) hS (fun q _ h => hFc q h) hFc (fun r u t H1 locs ht hvm hw hB hz1 hk1 hS => ?_)
              obtain ⟨I9, rfl⟩ : ∃ z, z = u := ⟨_, rfl⟩
              obtain ⟨rfl, eI9⟩ := hw
              have eI9 : I9 = rejI (upd I 0 0) (Gs (upd Sc 1 (if gscale (Gs Sc) (n + 1) = 0 then 1 else nI (gscale (Gs Sc) (n + 1))))) (n + 1) := eI9
              obtain ⟨hP1, hD1⟩ := hB
              rw [ht] at hP1
              obtain ⟨hP, hD⟩ := va_join (wr := []) (w1 := wMdl cy m0 a I9 (upr (upr R 1 (cpR (cpR (R 1) (R 2) 58) (upd (upd Sc 1 (if gscale (Gs Sc) (n + 1) = 0 then 1 else nI (gscale (Gs Sc) (n + 1)))) 1 8) 58)) 2 (cpR (R 1) (R 2) 58))) hP hD [0, 1, 2, 3, 4, 5, 6, 7, 8, 9, 10, 11, 12] [] rfl rfl (by decide) (by decide) hk1 hFc hP1 hD1
              have hP : va_P (dC, dI) vwCl (wMdl cy m0 a I9 (upr (upr R 1 (cpR (cpR (R 1) (R 2) 58) (upd (upd Sc 1 (if gscale (Gs Sc) (n + 1) = 0 then 1 else nI (gscale (Gs Sc) (n + 1)))) 1 8) 58)) 2 (cpR (R 1) (R 2) 58))) H1 := hP.sub [0, 1, 2, 3, 4, 5, 6, 7, 8, 9, 10, 11, 12] rfl
              have hD : va_D A (wMdl cy m0 a I9 (upr (upr R 1 (cpR (cpR (R 1) (R 2) 58) (upd (upd Sc 1 (if gscale (Gs Sc) (n + 1) = 0 then 1 else nI (gscale (Gs Sc) (n + 1)))) 1 8) 58)) 2 (cpR (R 1) (R 2) 58))) := hD.sub [0, 1, 2, 3, 4, 5, 6, 7, 8, 9, 10, 11, 12] (by decide) rfl
              clear hz1 hk1 hPc hDc hFc hP1 hD1
              generalize H1 = H at hP hS ⊢
              have hP9 : va_P (dC, dI) vwCl (wMdl cy m0 a I9 (upr (upr R 1 (cpR (cpR (R 1) (R 2) 58) (upd (upd Sc 1 (if gscale (Gs Sc) (n + 1) = 0 then 1 else nI (gscale (Gs Sc) (n + 1)))) 1 8) 58)) 2 (cpR (R 1) (R 2) 58))) H := hP
              have hD9 : va_D A (wMdl cy m0 a I9 (upr (upr R 1 (cpR (cpR (R 1) (R 2) 58) (upd (upd Sc 1 (if gscale (Gs Sc) (n + 1) = 0 then 1 else nI (gscale (Gs Sc) (n + 1)))) 1 8) 58)) 2 (cpR (R 1) (R 2) 58))) := hD
              exact W.iret (v := (-1)) hx hb hr (fun t ht hW => ⟨⟨(-1), (I9, upr (upr R 1 (cpR (cpR (R 1) (R 2) 58) (upd (upd Sc 1 (if gscale (Gs Sc) (n + 1) = 0 then 1 else nI (gscale (Gs Sc) (n + 1)))) 1 8) 58)) 2 (cpR (R 1) (R 2) 58)), rfl, (Or.inr (Or.inr (Or.inr ⟨htd, hn9, (by rw [hF]; exact g1), rfl, cpR (cpR (R 1) (R 2) 58) (upd (upd Sc 1 (if gscale (Gs Sc) (n + 1) = 0 then 1 else nI (gscale (Gs Sc) (n + 1)))) 1 8) 58, (by rw [eI9, hF, rejI_agr (show agr (Gs (upd Sc 1 (if gscale (Gs Sc) (n + 1) = 0 then 1 else nI (gscale (Gs Sc) (n + 1))))) Gk (n + 1) from by rw [Gs_upd1]; exact hag)]), fun j hj => by simp only [cpR]; rw [if_pos hj, if_pos hj]⟩))), by rw [ht]; exact hP9, hD9⟩, hS.F ht⟩) hS.2.2 dX5_propose_166
      exact loop144 17 16 _ _ ls (by omega) (pk_us) (agr_col hn9 hagr) (okG_col hG0 htd) (Nat.le_trans (mu_le (okG_col hG0 htd)) (by omega)) rfl _ _ hP hD hS (lv_sub hl [1, 2, 3, 4, 5, 6, 7, 0] rfl)
    · have hn9 : n = 8 := (nI_eq (b := 8) (by omega) (by omega)).mp c_34
      refine lv_aload_n hx hb dX5_propose_37 rfl (lv_at hl 0 rfl) ?_
      refine lv_iconst (v := 2) hx hb dX5_propose_38 (by decide) ?_
      have hPc := hP.sub (ws' := wMdl cy m0 a (upd I 0 0) R) [0, 1, 2, 3, 4, 5, 6, 7, 8, 9, 10, 11, 12] rfl
      have hDc := hD.sub (ws' := wMdl cy m0 a (upd I 0 0) R) [0, 1, 2, 3, 4, 5, 6, 7, 8, 9, 10, 11, 12] (by decide) rfl
      have hFc := va_free (wc := wMdl cy m0 a (upd I 0 0) R) hD hS hA [0, 1, 2, 3, 4, 5, 6, 7, 8, 9, 10, 11, 12] rfl
      refine va_calli (va_runV (As := [.int 2]) (rest := []) ⟨hx, hb, hml, hown, hts⟩ (c_X5_fails l dC dI cy H.size m0 a (upd I 0 0) R 2  ) (cwV 1 hts gX5_propose_X5_fails rfl rfl rfl (by decide +kernel) ⟨Nat.le_of_ble_eq_true rfl, Nat.le_of_ble_eq_true rfl⟩) ⟨bl_in, va_recv hK hPc (ci := 5) (q0 := 0) rfl rfl, pr_in hPc hE hDc⟩ rfl rfl hl.1 rfl (lv_room (Nat.le_of_ble_eq_true rfl)) dX5_propose_39 ⟨Nat.le_of_ble_eq_true rfl, Nat.le_of_ble_eq_true rfl⟩) hS (fun q _ h => hFc q h) hFc (fun r u t H1 locs ht hvm hw hB hz1 hk1 hS => ?_)
      obtain rfl := hw
      obtain ⟨hP1, hD1⟩ := hB
      rw [ht] at hP1
      obtain ⟨hP, hD⟩ := va_join (wr := []) (w1 := wMdl cy m0 a (upd I 0 2) R) hP hD [0, 1, 2, 3, 4, 5, 6, 7, 8, 9, 10, 11, 12] [] rfl rfl (by decide) (by decide) hk1 hFc hP1 hD1
      have hP : va_P (dC, dI) vwCl (wMdl cy m0 a (upd I 0 2) R) H1 := hP.sub [0, 1, 2, 3, 4, 5, 6, 7, 8, 9, 10, 11, 12] rfl
      have hD : va_D A (wMdl cy m0 a (upd I 0 2) R) := hD.sub [0, 1, 2, 3, 4, 5, 6, 7, 8, 9, 10, 11, 12] (by decide) rfl
      clear hz1 hk1 hPc hDc hFc hP1 hD1
      generalize H1 = H at hP hS ⊢
      have hP9 : va_P (dC, dI) vwCl (wMdl cy m0 a (upd I 0 2) R) H := hP
      have hD9 : va_D A (wMdl cy m0 a (upd I 0 2) R) := hD
      exact W.iret (v := 0) hx hb hr (fun t ht hW => ⟨⟨0, (upd I 0 2, R), rfl, (Or.inr (Or.inl ⟨htd, hn9, rfl⟩)), by rw [ht]; exact hP9, hD9⟩, hS.F ht⟩) hS.2.2 dX5_propose_42
  · have htd : ¬ told p0 p1 p2 p3 p4 p5 := (e_rt.resolve_left (fun q => absurd (q.1.symm.trans c_17) (by decide))).2
    refine lv_aload_n hx hb dX5_propose_20 rfl (lv_at hl 0 rfl) ?_
    refine lv_iconst (v := 1) hx hb dX5_propose_21 (by decide) ?_
    have hPc := hP.sub (ws' := wMdl cy m0 a (upd I 0 0) R) [0, 1, 2, 3, 4, 5, 6, 7, 8, 9, 10, 11, 12] rfl
    have hDc := hD.sub (ws' := wMdl cy m0 a (upd I 0 0) R) [0, 1, 2, 3, 4, 5, 6, 7, 8, 9, 10, 11, 12] (by decide) rfl
    have hFc := va_free (wc := wMdl cy m0 a (upd I 0 0) R) hD hS hA [0, 1, 2, 3, 4, 5, 6, 7, 8, 9, 10, 11, 12] rfl
    refine va_calli (va_runV (As := [.int 1]) (rest := []) ⟨hx, hb, hml, hown, hts⟩ (c_X5_fails l dC dI cy H.size m0 a (upd I 0 0) R 1  ) (cwV 1 hts gX5_propose_X5_fails rfl rfl rfl (by decide +kernel) ⟨Nat.le_of_ble_eq_true rfl, Nat.le_of_ble_eq_true rfl⟩) ⟨bl_in, va_recv hK hPc (ci := 5) (q0 := 0) rfl rfl, pr_in hPc hE hDc⟩ rfl rfl hl.1 rfl (lv_room (Nat.le_of_ble_eq_true rfl)) dX5_propose_22 ⟨Nat.le_of_ble_eq_true rfl, Nat.le_of_ble_eq_true rfl⟩) hS (fun q _ h => hFc q h) hFc (fun r u t H1 locs ht hvm hw hB hz1 hk1 hS => ?_)
    obtain rfl := hw
    obtain ⟨hP1, hD1⟩ := hB
    rw [ht] at hP1
    obtain ⟨hP, hD⟩ := va_join (wr := []) (w1 := wMdl cy m0 a (upd I 0 1) R) hP hD [0, 1, 2, 3, 4, 5, 6, 7, 8, 9, 10, 11, 12] [] rfl rfl (by decide) (by decide) hk1 hFc hP1 hD1
    have hP : va_P (dC, dI) vwCl (wMdl cy m0 a (upd I 0 1) R) H1 := hP.sub [0, 1, 2, 3, 4, 5, 6, 7, 8, 9, 10, 11, 12] rfl
    have hD : va_D A (wMdl cy m0 a (upd I 0 1) R) := hD.sub [0, 1, 2, 3, 4, 5, 6, 7, 8, 9, 10, 11, 12] (by decide) rfl
    clear hz1 hk1 hPc hDc hFc hP1 hD1
    generalize H1 = H at hP hS ⊢
    have hP9 : va_P (dC, dI) vwCl (wMdl cy m0 a (upd I 0 1) R) H := hP
    have hD9 : va_D A (wMdl cy m0 a (upd I 0 1) R) := hD
    exact W.iret (v := 0) hx hb hr (fun t ht hW => ⟨⟨0, (upd I 0 1, R), rfl, (Or.inl ⟨htd, rfl⟩), by rw [ht]; exact hP9, hD9⟩, hS.F ht⟩) hS.2.2 dX5_propose_25

/-! PART 46: History at any place; DeadlineAdmission, the steps of the calls -/
set_option maxHeartbeats 1000000 in
set_option maxRecDepth 100000 in
theorem c_X1_remember (l : Launch) (dC : Nat → ClassId) (dI : Nat → Nat → Nat) (cy : Nat → ClassId) (sz : Nat) (h0 rg : Nat) (kk : Nat) (cs : Nat → Nat) (bs : Nat → Nat → Nat) (RG : Nat → vG) (rn : Nat → Nat) (RS : Nat → Int32) (c1 : Nat) (b1 : Nat → Nat) (G1 : vG) (n1 : Nat) (sc1 : Int32) (hkk : kk ≤ 6) (hn1 : n1 ≤ 8) (x : Nat) (hx6 : x < 6) : Met l yX1_remember wsX1_remember ({ frames := 2, cells := 0, slots := 0, locals := 45 }) (va_Pc [.ref h0, .ref c1] (pIn dC dI cy (wHis cy h0 rg x kk cs bs RG rn RS ++ wCfg cy c1 b1 G1 (nI n1) sc1) sz)) (va_Qv (fun _ => True) (fun (u : Unit) t => va_P (dC, dI) vwCl (wHis cy h0 rg ((x + 1) % 6) (hcnt kk) cs bs (va_up RG x (cpG (RG x) G1 n1)) (va_up rn x n1) (va_up RS x sc1) ++ wCfg cy c1 b1 G1 (nI n1) sc1) t.heap ∧ va_D (va_A (wHis cy h0 rg x kk cs bs RG rn RS ++ wCfg cy c1 b1 G1 (nI n1) sc1) sz) (wHis cy h0 rg ((x + 1) % 6) (hcnt kk) cs bs (va_up RG x (cpG (RG x) G1 n1)) (va_up rn x n1) (va_up RS x sc1) ++ wCfg cy c1 b1 G1 (nI n1) sc1)) (va_A (wHis cy h0 rg x kk cs bs RG rn RS ++ wCfg cy c1 b1 G1 (nI n1) sc1) sz)) 0 0 (va_A (wHis cy h0 rg x kk cs bs RG rn RS ++ wCfg cy c1 b1 G1 (nI n1) sc1) sz) := by
  rcases (show x = 0 ∨ x = 1 ∨ x = 2 ∨ x = 3 ∨ x = 4 ∨ x = 5 by omega) with rfl | rfl | rfl | rfl | rfl | rfl
  · exact c_X1_remember_0 l dC dI cy sz h0 rg kk cs bs RG rn RS c1 b1 G1 n1 sc1 hkk hn1
  · exact c_X1_remember_1 l dC dI cy sz h0 rg kk cs bs RG rn RS c1 b1 G1 n1 sc1 hkk hn1
  · exact c_X1_remember_2 l dC dI cy sz h0 rg kk cs bs RG rn RS c1 b1 G1 n1 sc1 hkk hn1
  · exact c_X1_remember_3 l dC dI cy sz h0 rg kk cs bs RG rn RS c1 b1 G1 n1 sc1 hkk hn1
  · exact c_X1_remember_4 l dC dI cy sz h0 rg kk cs bs RG rn RS c1 b1 G1 n1 sc1 hkk hn1
  · exact c_X1_remember_5 l dC dI cy sz h0 rg kk cs bs RG rn RS c1 b1 G1 n1 sc1 hkk hn1
set_option maxHeartbeats 1000000 in
set_option maxRecDepth 100000 in
theorem c_X1_takeBackInto (l : Launch) (dC : Nat → ClassId) (dI : Nat → Nat → Nat) (cy : Nat → ClassId) (sz : Nat) (h0 rg : Nat) (kk : Nat) (cs : Nat → Nat) (bs : Nat → Nat → Nat) (RG : Nat → vG) (rn : Nat → Nat) (RS : Nat → Int32) (c1 : Nat) (b1 : Nat → Nat) (G1 : vG) (n1 : Nat) (sc1 : Int32)  (x : Nat) (hx6 : x < 6) (hn1 : rn ((x + 5) % 6) ≤ 8) : Met l yX1_takeBackInto wsX1_takeBackInto ({ frames := 2, cells := 0, slots := 0, locals := 45 }) (va_Pc [.ref h0, .ref c1] (pIn dC dI cy (wHis cy h0 rg x (kk + 1) cs bs RG rn RS ++ wCfg cy c1 b1 G1 (nI n1) sc1) sz)) (va_Qv (fun _ => True) (fun (u : Unit) t => va_P (dC, dI) vwCl (wHis cy h0 rg ((x + 5) % 6) kk cs bs RG rn RS ++ wCfg cy c1 b1 (cpG G1 (RG ((x + 5) % 6)) (rn ((x + 5) % 6))) (nI (rn ((x + 5) % 6))) (RS ((x + 5) % 6))) t.heap ∧ va_D (va_A (wHis cy h0 rg x (kk + 1) cs bs RG rn RS ++ wCfg cy c1 b1 G1 (nI n1) sc1) sz) (wHis cy h0 rg ((x + 5) % 6) kk cs bs RG rn RS ++ wCfg cy c1 b1 (cpG G1 (RG ((x + 5) % 6)) (rn ((x + 5) % 6))) (nI (rn ((x + 5) % 6))) (RS ((x + 5) % 6)))) (va_A (wHis cy h0 rg x (kk + 1) cs bs RG rn RS ++ wCfg cy c1 b1 G1 (nI n1) sc1) sz)) 0 0 (va_A (wHis cy h0 rg x (kk + 1) cs bs RG rn RS ++ wCfg cy c1 b1 G1 (nI n1) sc1) sz) := by
  rcases (show x = 0 ∨ x = 1 ∨ x = 2 ∨ x = 3 ∨ x = 4 ∨ x = 5 by omega) with rfl | rfl | rfl | rfl | rfl | rfl
  · exact c_X1_takeBackInto_0 l dC dI cy sz h0 rg kk cs bs RG rn RS c1 b1 G1 n1 sc1 hn1
  · exact c_X1_takeBackInto_1 l dC dI cy sz h0 rg kk cs bs RG rn RS c1 b1 G1 n1 sc1 hn1
  · exact c_X1_takeBackInto_2 l dC dI cy sz h0 rg kk cs bs RG rn RS c1 b1 G1 n1 sc1 hn1
  · exact c_X1_takeBackInto_3 l dC dI cy sz h0 rg kk cs bs RG rn RS c1 b1 G1 n1 sc1 hn1
  · exact c_X1_takeBackInto_4 l dC dI cy sz h0 rg kk cs bs RG rn RS c1 b1 G1 n1 sc1 hn1
  · exact c_X1_takeBackInto_5 l dC dI cy sz h0 rg kk cs bs RG rn RS c1 b1 G1 n1 sc1 hn1
abbrev tims (p0 p1 p2 p3 : Int32) : Prop := ¬ p0 < 1 ∧ ¬ 40 < p0 ∧ ¬ p1 < 1 ∧ ¬ p0 < p1 ∧ ¬ p2 < 1 ∧ ¬ p1 < p2 ∧ (p3 = 0 ∨ (¬ p3 < p2 ∧ ¬ p1 < p3))
abbrev rnks (p0 p1 p2 : Int32) : Prop := ¬ p1 < 0 ∧ ¬ 9 < p1 ∧ ¬ p2 < 0 ∧ ((¬ p0 = 0 ∧ ¬ 0 < p2) ∨ (p0 = 0 ∧ ¬ 2 < p2))
set_option maxHeartbeats 1000000 in
set_option maxRecDepth 100000 in
/-- times -/
theorem c_X4_timesAreInRange (l : Launch) (p0 p1 p2 p3 : Int32) : Met l yX4_timesAreInRange wsX4_timesAreInRange ({ frames := 0, cells := 0, slots := 0, locals := 0 }) (va_Pc [.int p0, .int p1, .int p2, .int p3] (fun _ => True)) (vp_Si (fun r => r = (if tims p0 p1 p2 p3 then 1 else 0))) 0 0 (fun _ => False) := by
  refine Met.ofW (cc := cX4_timesAreInRange) (maxL := 4) (ret := some .boolean) (by decide) rfl ?_
  intro p e s m args below meth c s₁ B hml hv
  obtain ⟨rfl, -⟩ := hv
  have hx := B.exec
  have hb := B.bytes
  have hr := B.returns
  have hts := atoms_spec (ws := wsX4_timesAreInRange) B.pre
  have hown : s.vm.findClass RX4 = some m.cls := findClass_of_methodNamed B.named
  have hlocks := B.notSynchronized
  have hl := lv_entry ([.int p0, .int p1, .int p2, .int p3]) (n := 4) (Nat.le_of_ble_eq_true rfl)
  rw [lg_entry_eq]
  generalize (lg_sl ([.int p0, .int p1, .int p2, .int p3]) ++ List.replicate (4 - (lg_sl ([.int p0, .int p1, .int p2, .int p3])).length) Slot.unset).toArray = ls at hl ⊢
  have hl : lv_has ls 4 [(0, .int p0), (1, .int p1), (2, .int p2), (3, .int p3)] := hl
  refine lv_iload_n hx hb dX4_timesAreInRange_0 rfl (lv_at hl 0 rfl) ?_
  refine lv_iconst (v := 1) hx hb dX4_timesAreInRange_1 (by decide) ?_
  refine lv_icmp_lt (tgt := 49) hx hb dX4_timesAreInRange_2 (by decide) (fun c_2 => ?_) (fun c_2 => ?_)
  · refine lv_iconst (v := 0) hx hb dX4_timesAreInRange_49 (by decide) ?_
    exact W.zret (v := 0) hx hb hr (by decide) (fun t ht hW => ⟨_, rfl, (by simp only [tims, c_2, true_and, and_true, and_false, false_and, true_or, or_true, false_or, or_false, not_true_eq_false, not_false_eq_true, and_self, or_self, ↓reduceIte]), ht⟩) (fun q hq => absurd hq List.not_mem_nil) dX4_timesAreInRange_50
  · refine lv_iload_n hx hb dX4_timesAreInRange_5 rfl (lv_at hl 0 rfl) ?_
    refine lv_bipush (v := 40) hx hb dX4_timesAreInRange_6 (by decide) ?_
    refine lv_icmp_gt (tgt := 49) hx hb dX4_timesAreInRange_8 (by decide) (fun c_8 => ?_) (fun c_8 => ?_)
    · refine lv_iconst (v := 0) hx hb dX4_timesAreInRange_49 (by decide) ?_
      exact W.zret (v := 0) hx hb hr (by decide) (fun t ht hW => ⟨_, rfl, (by simp only [tims, c_2, c_8, true_and, and_true, and_false, false_and, true_or, or_true, false_or, or_false, not_true_eq_false, not_false_eq_true, and_self, or_self, ↓reduceIte]), ht⟩) (fun q hq => absurd hq List.not_mem_nil) dX4_timesAreInRange_50
    · refine lv_iload_n hx hb dX4_timesAreInRange_11 rfl (lv_at hl 1 rfl) ?_
      refine lv_iconst (v := 1) hx hb dX4_timesAreInRange_12 (by decide) ?_
      refine lv_icmp_lt (tgt := 49) hx hb dX4_timesAreInRange_13 (by decide) (fun c_13 => ?_) (fun c_13 => ?_)
      · refine lv_iconst (v := 0) hx hb dX4_timesAreInRange_49 (by decide) ?_
        exact W.zret (v := 0) hx hb hr (by decide) (fun t ht hW => ⟨_, rfl, (by simp only [tims, c_2, c_8, c_13, true_and, and_true, and_false, false_and, true_or, or_true, false_or, or_false, not_true_eq_false, not_false_eq_true, and_self, or_self, ↓reduceIte]), ht⟩) (fun q hq => absurd hq List.not_mem_nil) dX4_timesAreInRange_50
      · refine lv_iload_n hx hb dX4_timesAreInRange_16 rfl (lv_at hl 1 rfl) ?_
        refine lv_iload_n hx hb dX4_timesAreInRange_17 rfl (lv_at hl 0 rfl) ?_
        refine lv_icmp_gt (tgt := 49) hx hb dX4_timesAreInRange_18 (by decide) (fun c_18 => ?_) (fun c_18 => ?_)
        · refine lv_iconst (v := 0) hx hb dX4_timesAreInRange_49 (by decide) ?_
          exact W.zret (v := 0) hx hb hr (by decide) (fun t ht hW => ⟨_, rfl, (by simp only [tims, c_2, c_8, c_13, c_18, true_and, and_true, and_false, false_and, true_or, or_true, false_or, or_false, not_true_eq_false, not_false_eq_true, and_self, or_self, ↓reduceIte]), ht⟩) (fun q hq => absurd hq List.not_mem_nil) dX4_timesAreInRange_50
        · refine lv_iload_n hx hb dX4_timesAreInRange_21 rfl (lv_at hl 2 rfl) ?_
          refine lv_iconst (v := 1) hx hb dX4_timesAreInRange_22 (by decide) ?_
          refine lv_icmp_lt (tgt := 49) hx hb dX4_timesAreInRange_23 (by decide) (fun c_23 => ?_) (fun c_23 => ?_)
          · refine lv_iconst (v := 0) hx hb dX4_timesAreInRange_49 (by decide) ?_
            exact W.zret (v := 0) hx hb hr (by decide) (fun t ht hW => ⟨_, rfl, (by simp only [tims, c_2, c_8, c_13, c_18, c_23, true_and, and_true, and_false, false_and, true_or, or_true, false_or, or_false, not_true_eq_false, not_false_eq_true, and_self, or_self, ↓reduceIte]), ht⟩) (fun q hq => absurd hq List.not_mem_nil) dX4_timesAreInRange_50
          · refine lv_iload_n hx hb dX4_timesAreInRange_26 rfl (lv_at hl 2 rfl) ?_
            refine lv_iload_n hx hb dX4_timesAreInRange_27 rfl (lv_at hl 1 rfl) ?_
            refine lv_icmp_gt (tgt := 49) hx hb dX4_timesAreInRange_28 (by decide) (fun c_28 => ?_) (fun c_28 => ?_)
            · refine lv_iconst (v := 0) hx hb dX4_timesAreInRange_49 (by decide) ?_
              exact W.zret (v := 0) hx hb hr (by decide) (fun t ht hW => ⟨_, rfl, (by simp only [tims, c_2, c_8, c_13, c_18, c_23, c_28, true_and, and_true, and_false, false_and, true_or, or_true, false_or, or_false, not_true_eq_false, not_false_eq_true, and_self, or_self, ↓reduceIte]), ht⟩) (fun q hq => absurd hq List.not_mem_nil) dX4_timesAreInRange_50
            · refine lv_iload_n hx hb dX4_timesAreInRange_31 rfl (lv_at hl 3 rfl) ?_
              refine lv_if_eq (tgt := 45) hx hb dX4_timesAreInRange_32 (by decide) (fun c_32 => ?_) (fun c_32 => ?_)
              · refine lv_iconst (v := 1) hx hb dX4_timesAreInRange_45 (by decide) ?_
                refine lv_goto (tgt := 50) hx hb dX4_timesAreInRange_46 (by decide) ?_
                exact W.zret (v := 1) hx hb hr (by decide) (fun t ht hW => ⟨_, rfl, (by simp only [tims, c_2, c_8, c_13, c_18, c_23, c_28, c_32, true_and, and_true, and_false, false_and, true_or, or_true, false_or, or_false, not_true_eq_false, not_false_eq_true, and_self, or_self, ↓reduceIte]), ht⟩) (fun q hq => absurd hq List.not_mem_nil) dX4_timesAreInRange_50
              · refine lv_iload_n hx hb dX4_timesAreInRange_35 rfl (lv_at hl 3 rfl) ?_
                refine lv_iload_n hx hb dX4_timesAreInRange_36 rfl (lv_at hl 2 rfl) ?_
                refine lv_icmp_lt (tgt := 49) hx hb dX4_timesAreInRange_37 (by decide) (fun c_37 => ?_) (fun c_37 => ?_)
                · refine lv_iconst (v := 0) hx hb dX4_timesAreInRange_49 (by decide) ?_
                  exact W.zret (v := 0) hx hb hr (by decide) (fun t ht hW => ⟨_, rfl, (by simp only [tims, c_2, c_8, c_13, c_18, c_23, c_28, c_32, c_37, true_and, and_true, and_false, false_and, true_or, or_true, false_or, or_false, not_true_eq_false, not_false_eq_true, and_self, or_self, ↓reduceIte]), ht⟩) (fun q hq => absurd hq List.not_mem_nil) dX4_timesAreInRange_50
                · refine lv_iload_n hx hb dX4_timesAreInRange_40 rfl (lv_at hl 3 rfl) ?_
                  refine lv_iload_n hx hb dX4_timesAreInRange_41 rfl (lv_at hl 1 rfl) ?_
                  refine lv_icmp_gt (tgt := 49) hx hb dX4_timesAreInRange_42 (by decide) (fun c_42 => ?_) (fun c_42 => ?_)
                  · refine lv_iconst (v := 0) hx hb dX4_timesAreInRange_49 (by decide) ?_
                    exact W.zret (v := 0) hx hb hr (by decide) (fun t ht hW => ⟨_, rfl, (by simp only [tims, c_2, c_8, c_13, c_18, c_23, c_28, c_32, c_37, c_42, true_and, and_true, and_false, false_and, true_or, or_true, false_or, or_false, not_true_eq_false, not_false_eq_true, and_self, or_self, ↓reduceIte]), ht⟩) (fun q hq => absurd hq List.not_mem_nil) dX4_timesAreInRange_50
                  · refine lv_iconst (v := 1) hx hb dX4_timesAreInRange_45 (by decide) ?_
                    refine lv_goto (tgt := 50) hx hb dX4_timesAreInRange_46 (by decide) ?_
                    exact W.zret (v := 1) hx hb hr (by decide) (fun t ht hW => ⟨_, rfl, (by simp only [tims, c_2, c_8, c_13, c_18, c_23, c_28, c_32, c_37, c_42, true_and, and_true, and_false, false_and, true_or, or_true, false_or, or_false, not_true_eq_false, not_false_eq_true, and_self, or_self, ↓reduceIte]), ht⟩) (fun q hq => absurd hq List.not_mem_nil) dX4_timesAreInRange_50
set_option maxHeartbeats 1000000 in
set_option maxRecDepth 100000 in
/-- ranks -/
theorem c_X4_ranksAreInRange (l : Launch) (p0 p1 p2 : Int32) : Met l yX4_ranksAreInRange wsX4_ranksAreInRange ({ frames := 0, cells := 0, slots := 0, locals := 0 }) (va_Pc [.int p0, .int p1, .int p2] (fun _ => True)) (vp_Si (fun r => r = (if rnks p0 p1 p2 then 1 else 0))) 0 0 (fun _ => False) := by
  refine Met.ofW (cc := cX4_ranksAreInRange) (maxL := 3) (ret := some .boolean) (by decide) rfl ?_
  intro p e s m args below meth c s₁ B hml hv
  obtain ⟨rfl, -⟩ := hv
  have hx := B.exec
  have hb := B.bytes
  have hr := B.returns
  have hts := atoms_spec (ws := wsX4_ranksAreInRange) B.pre
  have hown : s.vm.findClass RX4 = some m.cls := findClass_of_methodNamed B.named
  have hlocks := B.notSynchronized
  have hl := lv_entry ([.int p0, .int p1, .int p2]) (n := 3) (Nat.le_of_ble_eq_true rfl)
  rw [lg_entry_eq]
  generalize (lg_sl ([.int p0, .int p1, .int p2]) ++ List.replicate (3 - (lg_sl ([.int p0, .int p1, .int p2])).length) Slot.unset).toArray = ls at hl ⊢
  have hl : lv_has ls 3 [(0, .int p0), (1, .int p1), (2, .int p2)] := hl
  refine lv_iload_n hx hb dX4_ranksAreInRange_0 rfl (lv_at hl 1 rfl) ?_
  refine lv_if_lt (tgt := 31) hx hb dX4_ranksAreInRange_1 (by decide) (fun c_1 => ?_) (fun c_1 => ?_)
  · refine lv_iconst (v := 0) hx hb dX4_ranksAreInRange_31 (by decide) ?_
    exact W.zret (v := 0) hx hb hr (by decide) (fun t ht hW => ⟨_, rfl, (by simp only [rnks, c_1, true_and, and_true, and_false, false_and, true_or, or_true, false_or, or_false, not_true_eq_false, not_false_eq_true, and_self, or_self, ↓reduceIte]), ht⟩) (fun q hq => absurd hq List.not_mem_nil) dX4_ranksAreInRange_32
  · refine lv_iload_n hx hb dX4_ranksAreInRange_4 rfl (lv_at hl 1 rfl) ?_
    refine lv_bipush (v := 9) hx hb dX4_ranksAreInRange_5 (by decide) ?_
    refine lv_icmp_gt (tgt := 31) hx hb dX4_ranksAreInRange_7 (by decide) (fun c_7 => ?_) (fun c_7 => ?_)
    · refine lv_iconst (v := 0) hx hb dX4_ranksAreInRange_31 (by decide) ?_
      exact W.zret (v := 0) hx hb hr (by decide) (fun t ht hW => ⟨_, rfl, (by simp only [rnks, c_1, c_7, true_and, and_true, and_false, false_and, true_or, or_true, false_or, or_false, not_true_eq_false, not_false_eq_true, and_self, or_self, ↓reduceIte]), ht⟩) (fun q hq => absurd hq List.not_mem_nil) dX4_ranksAreInRange_32
    · refine lv_iload_n hx hb dX4_ranksAreInRange_10 rfl (lv_at hl 2 rfl) ?_
      refine lv_if_lt (tgt := 31) hx hb dX4_ranksAreInRange_11 (by decide) (fun c_11 => ?_) (fun c_11 => ?_)
      · refine lv_iconst (v := 0) hx hb dX4_ranksAreInRange_31 (by decide) ?_
        exact W.zret (v := 0) hx hb hr (by decide) (fun t ht hW => ⟨_, rfl, (by simp only [rnks, c_1, c_7, c_11, true_and, and_true, and_false, false_and, true_or, or_true, false_or, or_false, not_true_eq_false, not_false_eq_true, and_self, or_self, ↓reduceIte]), ht⟩) (fun q hq => absurd hq List.not_mem_nil) dX4_ranksAreInRange_32
      · refine lv_iload_n hx hb dX4_ranksAreInRange_14 rfl (lv_at hl 2 rfl) ?_
        refine lv_iload_n hx hb dX4_ranksAreInRange_15 rfl (lv_at hl 0 rfl) ?_
        refine lv_if_ne (tgt := 23) hx hb dX4_ranksAreInRange_16 (by decide) (fun c_16 => ?_) (fun c_16 => ?_)
        · refine lv_iconst (v := 0) hx hb dX4_ranksAreInRange_23 (by decide) ?_
          refine lv_icmp_gt (tgt := 31) hx hb dX4_ranksAreInRange_24 (by decide) (fun c_24 => ?_) (fun c_24 => ?_)
          · refine lv_iconst (v := 0) hx hb dX4_ranksAreInRange_31 (by decide) ?_
            exact W.zret (v := 0) hx hb hr (by decide) (fun t ht hW => ⟨_, rfl, (by simp only [rnks, c_1, c_7, c_11, c_16, c_24, true_and, and_true, and_false, false_and, true_or, or_true, false_or, or_false, not_true_eq_false, not_false_eq_true, and_self, or_self, ↓reduceIte]), ht⟩) (fun q hq => absurd hq List.not_mem_nil) dX4_ranksAreInRange_32
          · refine lv_iconst (v := 1) hx hb dX4_ranksAreInRange_27 (by decide) ?_
            refine lv_goto (tgt := 32) hx hb dX4_ranksAreInRange_28 (by decide) ?_
            exact W.zret (v := 1) hx hb hr (by decide) (fun t ht hW => ⟨_, rfl, (by simp only [rnks, c_1, c_7, c_11, c_16, c_24, true_and, and_true, and_false, false_and, true_or, or_true, false_or, or_false, not_true_eq_false, not_false_eq_true, and_self, or_self, ↓reduceIte]), ht⟩) (fun q hq => absurd hq List.not_mem_nil) dX4_ranksAreInRange_32
        · refine lv_iconst (v := 2) hx hb dX4_ranksAreInRange_19 (by decide) ?_
          refine lv_goto (tgt := 24) hx hb dX4_ranksAreInRange_20 (by decide) ?_
          refine lv_icmp_gt (tgt := 31) hx hb dX4_ranksAreInRange_24 (by decide) (fun c_24 => ?_) (fun c_24 => ?_)
          · refine lv_iconst (v := 0) hx hb dX4_ranksAreInRange_31 (by decide) ?_
            exact W.zret (v := 0) hx hb hr (by decide) (fun t ht hW => ⟨_, rfl, (by simp only [rnks, c_1, c_7, c_11, c_16, c_24, true_and, and_true, and_false, false_and, true_or, or_true, false_or, or_false, not_true_eq_false, not_false_eq_true, and_self, or_self, ↓reduceIte]), ht⟩) (fun q hq => absurd hq List.not_mem_nil) dX4_ranksAreInRange_32
          · refine lv_iconst (v := 1) hx hb dX4_ranksAreInRange_27 (by decide) ?_
            refine lv_goto (tgt := 32) hx hb dX4_ranksAreInRange_28 (by decide) ?_
            exact W.zret (v := 1) hx hb hr (by decide) (fun t ht hW => ⟨_, rfl, (by simp only [rnks, c_1, c_7, c_11, c_16, c_24, true_and, and_true, and_false, false_and, true_or, or_true, false_or, or_false, not_true_eq_false, not_false_eq_true, and_self, or_self, ↓reduceIte]), ht⟩) (fun q hq => absurd hq List.not_mem_nil) dX4_ranksAreInRange_32
theorem told_iff {p0 p1 p2 p3 p4 p5 : Int32} : told p0 p1 p2 p3 p4 p5 ↔ (tims p0 p1 p2 p3 ∧ rnks p3 p4 p5) := by
  constructor
  · rintro ⟨⟨a1, a2⟩, ⟨b1, b2⟩, ⟨c1, c2⟩, ⟨d1, d2⟩, h⟩
    rcases h with ⟨e, f1, f2⟩ | ⟨e, ⟨f1, f2⟩, rfl⟩
    · exact ⟨⟨a1, a2, b1, b2, c1, c2, Or.inl e⟩, d1, d2, f1, Or.inr ⟨e, f2⟩⟩
    · exact ⟨⟨a1, a2, b1, b2, c1, c2, Or.inr ⟨f1, f2⟩⟩, d1, d2, by decide, Or.inl ⟨e, by decide⟩⟩
  · rintro ⟨⟨a1, a2, b1, b2, c1, c2, h⟩, d1, d2, f1, k⟩
    rcases k with ⟨e, f2⟩ | ⟨e, f2⟩
    · rcases h with z | z
      · exact absurd z e
      · exact ⟨⟨a1, a2⟩, ⟨b1, b2⟩, ⟨c1, c2⟩, ⟨d1, d2⟩, Or.inr ⟨e, z, Int32.le_antisymm (Int32.not_lt.mp f2) (Int32.not_lt.mp f1)⟩⟩
    · exact ⟨⟨a1, a2⟩, ⟨b1, b2⟩, ⟨c1, c2⟩, ⟨d1, d2⟩, Or.inl ⟨e, f1, f2⟩⟩
theorem ffr_nn (f : Int32 → Int32) : ∀ k t, t + k ≤ 1000 → ∃ j : Nat, ffr f k t = nI j ∧ j ≤ 1000 := by
  intro k
  induction k with
  | zero => intro t _; exact ⟨0, rfl, by omega⟩
  | succ k ih =>
    intro t h
    simp only [ffr]
    split
    · exact ih (t + 1) (by omega)
    · exact ⟨t, rfl, by omega⟩
theorem ffail_le0 {G : vG} {n : Nat} {sc mode : Int32} : ffail G n sc mode ≤ 0 ↔ ffail G n sc mode = 0 := by
  obtain ⟨j, e, hj⟩ := ffr_nn (tdem G n sc mode) 200 1 (by omega)
  have e2 : ffail G n sc mode = nI j := e
  rw [e2]
  constructor
  · intro h
    have := (nI_leI (a := j) (b := 0) (by omega) (by omega)).mp h
    rw [show j = 0 by omega]; rfl
  · intro h; rw [h]; decide
/-- what the class records of a rejection -/
def rejF (F : Nat → Int32) (G : vG) (n : Nat) : Nat → Int32 := upd (upd (upd (upd F 8 1) 9 (rjm G n)) 10 (rjl G n)) 11 (rjd G n)
set_option maxHeartbeats 1000000 in
set_option maxRecDepth 100000 in
/-- a rejection is recorded -/
theorem c_X4_recordRejection (l : Launch) (dC : Nat → ClassId) (dI : Nat → Nat → Nat) (cy : Nat → ClassId) (sz : Nat) (d0 : Nat) (o : Nat → Nat) (F : Nat → Int32) (bt : Nat → Nat) (Gt : vG) (nt : Nat) (hnt : nt ≤ 8) (sct : Int32) : Met l yX4_recordRejection wsX4_recordRejection ({ frames := 3, cells := 0, slots := 0, locals := 78 }) (va_Pc [.ref d0] (pIn dC dI cy (wObj d0 o F ++ (wCfg cy (o 1) bt Gt (nI nt) sct)) sz)) (va_Qv (fun (u : Nat → Int32) => u = rejF F Gt nt) (fun (u : Nat → Int32) t => va_P (dC, dI) vwCl (wObj d0 o u ++ (wCfg cy (o 1) bt Gt (nI nt) sct)) t.heap ∧ va_D (va_A (wObj d0 o F ++ (wCfg cy (o 1) bt Gt (nI nt) sct)) sz) (wObj d0 o u ++ (wCfg cy (o 1) bt Gt (nI nt) sct))) (va_A (wObj d0 o F ++ (wCfg cy (o 1) bt Gt (nI nt) sct)) sz)) 0 0 (va_A (wObj d0 o F ++ (wCfg cy (o 1) bt Gt (nI nt) sct)) sz) := by
  refine Met.ofW (cc := cX4_recordRejection) (maxL := 2) (ret := none) (by decide) rfl ?_
  intro p e s m args below meth c s₁ B hml hv
  obtain ⟨rfl, hsz, hP, hE, hD0⟩ := hv
  have hK := hE.1
  subst hsz
  have hD := hD0.self (sz := s.heap.size)
  generalize hAe : va_A (wObj d0 o F ++ (wCfg cy (o 1) bt Gt (nI nt) sct)) s.heap.size = A at hD ⊢
  have hA : ∀ q : Nat, s.heap.size ≤ q → A q := fun q h => by rw [← hAe]; exact Or.inr h
  have hS : va_S A s.heap s.heap [] := va_S.rf
  have hP : va_P (dC, dI) vwCl (wObj d0 o F ++ (wCfg cy (o 1) bt Gt (nI nt) sct)) s.heap := hP
  have hx := B.exec
  have hb := B.bytes
  have hr := B.returns
  have hts := atoms_spec (ws := wsX4_recordRejection) B.pre
  have hown : s.vm.findClass RX4 = some m.cls := findClass_of_methodNamed B.named
  have hlocks := B.notSynchronized
  have hin4 : ∀ w ∈ u_ws RX4 TX4 12, w ∈ wsX4_recordRejection := by decide +kernel
  have f_16 := hts (.fieldLink RX4 16 "DeadlineAdmission" "trial" "LDeadlineAdmission$Configuration;") (by decide +kernel)
  have f_235 := hts (.fieldLink RX4 235 "DeadlineAdmission" "rejectedMode" "I") (by decide +kernel)
  have f_238 := hts (.fieldLink RX4 238 "DeadlineAdmission" "rejectedLength" "I") (by decide +kernel)
  have f_241 := hts (.fieldLink RX4 241 "DeadlineAdmission" "rejectedDemand" "I") (by decide +kernel)
  have f_282 := hts (.fieldLink RX4 282 "DeadlineAdmission" "hasRejection" "Z") (by decide +kernel)
  have hl := lv_entry ([.ref d0]) (n := 2) (Nat.le_of_ble_eq_true rfl)
  rw [lg_entry_eq]
  generalize (lg_sl ([.ref d0]) ++ List.replicate (2 - (lg_sl ([.ref d0])).length) Slot.unset).toArray = ls at hl ⊢
  have hl : lv_has ls 2 [(0, .ref d0)] := hl
  refine lv_aload_n hx hb dX4_recordRejection_0 rfl (lv_at hl 0 rfl) ?_
  refine va_get (D := (dC, dI)) (ci := 4) (v := .ref (o 1)) (C := RX4) (T := TX4) (N := 12) hx hb hts hin4 hown hK hP 0 rfl rfl 1 (by decide) f_16 (fun _ h9 => h9) rfl dX4_recordRejection_1 ?_
  refine lv_iconst (v := 0) hx hb dX4_recordRejection_4 (by decide) ?_
  refine lv_bipush (v := 8) hx hb dX4_recordRejection_5 (by decide) ?_
  refine vp_callSi (va_runV (As := [.int 0, .int 8]) (rest := []) ⟨hx, hb, hml, hown, hts⟩ (c_X0_firstFailure l dC dI cy (o 1) bt Gt nt hnt sct 0 8) (cwV 2 hts gX4_recordRejection_X0_firstFailure rfl rfl rfl (by decide +kernel) ⟨Nat.le_of_ble_eq_true rfl, Nat.le_of_ble_eq_true rfl⟩) ⟨bl_ro, va_recv hK (hP.sub (ws' := wCfg cy (o 1) bt Gt (nI nt) sct) [1, 2, 3, 4, 5, 6, 7, 8] rfl) (ci := 0) (q0 := 0) rfl rfl, pr_ro (hP.sub (ws' := wCfg cy (o 1) bt Gt (nI nt) sct) [1, 2, 3, 4, 5, 6, 7, 8] rfl) hE⟩ rfl rfl hl.1 rfl (lv_room (Nat.le_of_ble_eq_true rfl)) dX4_recordRejection_7 ⟨Nat.le_of_ble_eq_true rfl, Nat.le_of_ble_eq_true rfl⟩).run (fun r e_r => ?_)
  subst e_r
  refine lv_istore_n (lv' := [(1, .int (ffail Gt nt 8 0)), (0, .ref d0)]) hx hb dX4_recordRejection_10 rfl hl (by decide) rfl (fun ls hl => ?_)
  refine lv_aload_n hx hb dX4_recordRejection_11 rfl (lv_at hl 1 rfl) ?_
  refine lv_iload_n hx hb dX4_recordRejection_12 rfl (lv_at hl 0 rfl) ?_
  refine lv_if_le (tgt := 20) hx hb dX4_recordRejection_13 (by decide) (fun c_13 => ?_) (fun c_13 => ?_)
  · refine lv_iconst (v := 1) hx hb dX4_recordRejection_20 (by decide) ?_
    refine va_put (D := (dC, dI)) (ci := 4) (v := .int 1) (ty := .int) (C := RX4) (T := TX4) (N := 12) hx hb hts hin4 tyX4 tyX4_ok nmX4 hown hK hP hD hS 0 rfl rfl 9 (by decide) f_235 (fun _ h9 => h9) rfl (by decide +kernel) rfl rfl (Nat.le_of_ble_eq_true rfl) dX4_recordRejection_21 (fun H locs hP hD hS => ?_)
    have hP : va_P (dC, dI) vwCl (wObj d0 o (upd F 9 1) ++ (wCfg cy (o 1) bt Gt (nI nt) sct)) H := hP
    have hD : va_D A (wObj d0 o (upd F 9 1) ++ (wCfg cy (o 1) bt Gt (nI nt) sct)) := hD
    refine lv_aload_n hx hb dX4_recordRejection_24 rfl (lv_at hl 1 rfl) ?_
    refine lv_iload_n hx hb dX4_recordRejection_25 rfl (lv_at hl 0 rfl) ?_
    refine lv_if_le (tgt := 33) hx hb dX4_recordRejection_26 (by decide) (fun c_26 => ?_) (fun h0 => absurd c_13 h0)
    refine lv_aload_n hx hb dX4_recordRejection_33 rfl (lv_at hl 1 rfl) ?_
    refine va_get (D := (dC, dI)) (ci := 4) (v := .ref (o 1)) (C := RX4) (T := TX4) (N := 12) hx hb hts hin4 hown hK hP 0 rfl rfl 1 (by decide) f_16 (fun _ h9 => h9) rfl dX4_recordRejection_34 ?_
    refine lv_iconst (v := 1) hx hb dX4_recordRejection_37 (by decide) ?_
    refine lv_bipush (v := 8) hx hb dX4_recordRejection_38 (by decide) ?_
    refine vp_callSi (va_runV (As := [.int 1, .int 8]) (rest := [.ref d0]) ⟨hx, hb, hml, hown, hts⟩ (c_X0_firstFailure l dC dI cy (o 1) bt Gt nt hnt sct 1 8) (cwV 2 hts gX4_recordRejection_X0_firstFailure rfl rfl rfl (by decide +kernel) ⟨Nat.le_of_ble_eq_true rfl, Nat.le_of_ble_eq_true rfl⟩) ⟨bl_ro, va_recv hK (hP.sub (ws' := wCfg cy (o 1) bt Gt (nI nt) sct) [1, 2, 3, 4, 5, 6, 7, 8] rfl) (ci := 0) (q0 := 0) rfl rfl, pr_ro (hP.sub (ws' := wCfg cy (o 1) bt Gt (nI nt) sct) [1, 2, 3, 4, 5, 6, 7, 8] rfl) hE⟩ rfl rfl hl.1 rfl (lv_room (Nat.le_of_ble_eq_true rfl)) dX4_recordRejection_40 ⟨Nat.le_of_ble_eq_true rfl, Nat.le_of_ble_eq_true rfl⟩).run (fun r e_r => ?_)
    subst e_r
    refine lv_topi (fun y_ ey_ => ?_)
    obtain rfl : y_ = ffail Gt nt 8 1 := ey_
    refine va_put (D := (dC, dI)) (ci := 4) (v := .int (ffail Gt nt 8 1)) (ty := .int) (C := RX4) (T := TX4) (N := 12) hx hb hts hin4 tyX4 tyX4_ok nmX4 hown hK hP hD hS 0 rfl rfl 10 (by decide) f_238 (fun _ h9 => h9) rfl (by decide +kernel) rfl rfl (Nat.le_of_ble_eq_true rfl) dX4_recordRejection_43 (fun H locs hP hD hS => ?_)
    have hP : va_P (dC, dI) vwCl (wObj d0 o (upd (upd F 9 1) 10 (ffail Gt nt 8 1)) ++ (wCfg cy (o 1) bt Gt (nI nt) sct)) H := hP
    have hD : va_D A (wObj d0 o (upd (upd F 9 1) 10 (ffail Gt nt 8 1)) ++ (wCfg cy (o 1) bt Gt (nI nt) sct)) := hD
    refine lv_aload_n hx hb dX4_recordRejection_46 rfl (lv_at hl 1 rfl) ?_
    refine lv_aload_n hx hb dX4_recordRejection_47 rfl (lv_at hl 1 rfl) ?_
    refine va_get (D := (dC, dI)) (ci := 4) (v := .ref (o 1)) (C := RX4) (T := TX4) (N := 12) hx hb hts hin4 hown hK hP 0 rfl rfl 1 (by decide) f_16 (fun _ h9 => h9) rfl dX4_recordRejection_48 ?_
    refine lv_aload_n hx hb dX4_recordRejection_51 rfl (lv_at hl 1 rfl) ?_
    refine va_get (D := (dC, dI)) (ci := 4) (v := .int 1) (C := RX4) (T := TX4) (N := 12) hx hb hts hin4 hown hK hP 0 rfl rfl 9 (by decide) f_235 (fun _ h9 => h9) rfl dX4_recordRejection_52 ?_
    refine lv_aload_n hx hb dX4_recordRejection_55 rfl (lv_at hl 1 rfl) ?_
    refine va_get (D := (dC, dI)) (ci := 4) (v := .int (ffail Gt nt 8 1)) (C := RX4) (T := TX4) (N := 12) hx hb hts hin4 hown hK hP 0 rfl rfl 10 (by decide) f_238 (fun _ h9 => h9) rfl dX4_recordRejection_56 ?_
    refine lv_bipush (v := 8) hx hb dX4_recordRejection_59 (by decide) ?_
    refine vp_callSi (va_runV (As := [.int 1, .int (ffail Gt nt 8 1), .int 8]) (rest := [.ref d0]) ⟨hx, hb, hml, hown, hts⟩ (c_X0_totalDemand l dC dI cy (o 1) bt Gt nt hnt sct 1 (ffail Gt nt 8 1) 8) (cwV 3 hts gX4_recordRejection_X0_totalDemand rfl rfl rfl (by decide +kernel) ⟨Nat.le_of_ble_eq_true rfl, Nat.le_of_ble_eq_true rfl⟩) ⟨bl_ro, va_recv hK (hP.sub (ws' := wCfg cy (o 1) bt Gt (nI nt) sct) [1, 2, 3, 4, 5, 6, 7, 8] rfl) (ci := 0) (q0 := 0) rfl rfl, pr_ro (hP.sub (ws' := wCfg cy (o 1) bt Gt (nI nt) sct) [1, 2, 3, 4, 5, 6, 7, 8] rfl) hE⟩ rfl rfl hl.1 rfl (lv_room (Nat.le_of_ble_eq_true rfl)) dX4_recordRejection_61 ⟨Nat.le_of_ble_eq_true rfl, Nat.le_of_ble_eq_true rfl⟩).run (fun r e_r => ?_)
    subst e_r
    refine lv_topi (fun y_ ey_ => ?_)
    obtain rfl : y_ = tdem Gt nt 8 1 (ffail Gt nt 8 1) := ey_
    refine va_put (D := (dC, dI)) (ci := 4) (v := .int (tdem Gt nt 8 1 (ffail Gt nt 8 1))) (ty := .int) (C := RX4) (T := TX4) (N := 12) hx hb hts hin4 tyX4 tyX4_ok nmX4 hown hK hP hD hS 0 rfl rfl 11 (by decide) f_241 (fun _ h9 => h9) rfl (by decide +kernel) rfl rfl (Nat.le_of_ble_eq_true rfl) dX4_recordRejection_64 (fun H locs hP hD hS => ?_)
    have hP : va_P (dC, dI) vwCl (wObj d0 o (upd (upd (upd F 9 1) 10 (ffail Gt nt 8 1)) 11 (tdem Gt nt 8 1 (ffail Gt nt 8 1))) ++ (wCfg cy (o 1) bt Gt (nI nt) sct)) H := hP
    have hD : va_D A (wObj d0 o (upd (upd (upd F 9 1) 10 (ffail Gt nt 8 1)) 11 (tdem Gt nt 8 1 (ffail Gt nt 8 1))) ++ (wCfg cy (o 1) bt Gt (nI nt) sct)) := hD
    refine lv_aload_n hx hb dX4_recordRejection_67 rfl (lv_at hl 1 rfl) ?_
    refine lv_iconst (v := 1) hx hb dX4_recordRejection_68 (by decide) ?_
    refine va_put (D := (dC, dI)) (ci := 4) (v := .int 1) (ty := .boolean) (C := RX4) (T := TX4) (N := 12) hx hb hts hin4 tyX4 tyX4_ok nmX4 hown hK hP hD hS 0 rfl rfl 8 (by decide) f_282 (fun _ h9 => h9) rfl (by decide +kernel) (by decide) rfl (Nat.le_of_ble_eq_true rfl) dX4_recordRejection_69 (fun H locs hP hD hS => ?_)
    have hP : va_P (dC, dI) vwCl (wObj d0 o (upd (upd (upd (upd F 8 1) 9 1) 10 (ffail Gt nt 8 1)) 11 (tdem Gt nt 8 1 (ffail Gt nt 8 1))) ++ (wCfg cy (o 1) bt Gt (nI nt) sct)) H := hP
    have hD : va_D A (wObj d0 o (upd (upd (upd (upd F 8 1) 9 1) 10 (ffail Gt nt 8 1)) 11 (tdem Gt nt 8 1 (ffail Gt nt 8 1))) ++ (wCfg cy (o 1) bt Gt (nI nt) sct)) := hD
    have hP9 : va_P (dC, dI) vwCl (wObj d0 o (upd (upd (upd (upd F 8 1) 9 1) 10 (ffail Gt nt 8 1)) 11 (tdem Gt nt 8 1 (ffail Gt nt 8 1))) ++ (wCfg cy (o 1) bt Gt (nI nt) sct)) H := hP
    have hD9 : va_D A (wObj d0 o (upd (upd (upd (upd F 8 1) 9 1) 10 (ffail Gt nt 8 1)) 11 (tdem Gt nt 8 1 (ffail Gt nt 8 1))) ++ (wCfg cy (o 1) bt Gt (nI nt) sct)) := hD
    exact W.vret hx hb hr (fun t ht hW => ⟨⟨(upd (upd (upd (upd F 8 1) 9 1) 10 (ffail Gt nt 8 1)) 11 (tdem Gt nt 8 1 (ffail Gt nt 8 1))), rfl, (by rw [rejF, rjd, rjl, rjm, if_pos (ffail_le0.mp c_13)]), by rw [ht]; exact hP9, hD9⟩, hS.F ht⟩) hS.2.2 dX4_recordRejection_72
  · refine lv_iconst (v := 0) hx hb dX4_recordRejection_16 (by decide) ?_
    refine lv_goto (tgt := 21) hx hb dX4_recordRejection_17 (by decide) ?_
    refine va_put (D := (dC, dI)) (ci := 4) (v := .int 0) (ty := .int) (C := RX4) (T := TX4) (N := 12) hx hb hts hin4 tyX4 tyX4_ok nmX4 hown hK hP hD hS 0 rfl rfl 9 (by decide) f_235 (fun _ h9 => h9) rfl (by decide +kernel) rfl rfl (Nat.le_of_ble_eq_true rfl) dX4_recordRejection_21 (fun H locs hP hD hS => ?_)
    have hP : va_P (dC, dI) vwCl (wObj d0 o (upd F 9 0) ++ (wCfg cy (o 1) bt Gt (nI nt) sct)) H := hP
    have hD : va_D A (wObj d0 o (upd F 9 0) ++ (wCfg cy (o 1) bt Gt (nI nt) sct)) := hD
    refine lv_aload_n hx hb dX4_recordRejection_24 rfl (lv_at hl 1 rfl) ?_
    refine lv_iload_n hx hb dX4_recordRejection_25 rfl (lv_at hl 0 rfl) ?_
    refine lv_if_le (tgt := 33) hx hb dX4_recordRejection_26 (by decide) (fun h0 => absurd h0 c_13) (fun c_26 => ?_)
    refine lv_iload_n hx hb dX4_recordRejection_29 rfl (lv_at hl 0 rfl) ?_
    refine lv_goto (tgt := 43) hx hb dX4_recordRejection_30 (by decide) ?_
    refine va_put (D := (dC, dI)) (ci := 4) (v := .int (ffail Gt nt 8 0)) (ty := .int) (C := RX4) (T := TX4) (N := 12) hx hb hts hin4 tyX4 tyX4_ok nmX4 hown hK hP hD hS 0 rfl rfl 10 (by decide) f_238 (fun _ h9 => h9) rfl (by decide +kernel) rfl rfl (Nat.le_of_ble_eq_true rfl) dX4_recordRejection_43 (fun H locs hP hD hS => ?_)
    have hP : va_P (dC, dI) vwCl (wObj d0 o (upd (upd F 9 0) 10 (ffail Gt nt 8 0)) ++ (wCfg cy (o 1) bt Gt (nI nt) sct)) H := hP
    have hD : va_D A (wObj d0 o (upd (upd F 9 0) 10 (ffail Gt nt 8 0)) ++ (wCfg cy (o 1) bt Gt (nI nt) sct)) := hD
    refine lv_aload_n hx hb dX4_recordRejection_46 rfl (lv_at hl 1 rfl) ?_
    refine lv_aload_n hx hb dX4_recordRejection_47 rfl (lv_at hl 1 rfl) ?_
    refine va_get (D := (dC, dI)) (ci := 4) (v := .ref (o 1)) (C := RX4) (T := TX4) (N := 12) hx hb hts hin4 hown hK hP 0 rfl rfl 1 (by decide) f_16 (fun _ h9 => h9) rfl dX4_recordRejection_48 ?_
    refine lv_aload_n hx hb dX4_recordRejection_51 rfl (lv_at hl 1 rfl) ?_
    refine va_get (D := (dC, dI)) (ci := 4) (v := .int 0) (C := RX4) (T := TX4) (N := 12) hx hb hts hin4 hown hK hP 0 rfl rfl 9 (by decide) f_235 (fun _ h9 => h9) rfl dX4_recordRejection_52 ?_
    refine lv_aload_n hx hb dX4_recordRejection_55 rfl (lv_at hl 1 rfl) ?_
    refine va_get (D := (dC, dI)) (ci := 4) (v := .int (ffail Gt nt 8 0)) (C := RX4) (T := TX4) (N := 12) hx hb hts hin4 hown hK hP 0 rfl rfl 10 (by decide) f_238 (fun _ h9 => h9) rfl dX4_recordRejection_56 ?_
    refine lv_bipush (v := 8) hx hb dX4_recordRejection_59 (by decide) ?_
    refine vp_callSi (va_runV (As := [.int 0, .int (ffail Gt nt 8 0), .int 8]) (rest := [.ref d0]) ⟨hx, hb, hml, hown, hts⟩ (c_X0_totalDemand l dC dI cy (o 1) bt Gt nt hnt sct 0 (ffail Gt nt 8 0) 8) (cwV 3 hts gX4_recordRejection_X0_totalDemand rfl rfl rfl (by decide +kernel) ⟨Nat.le_of_ble_eq_true rfl, Nat.le_of_ble_eq_true rfl⟩) ⟨bl_ro, va_recv hK (hP.sub (ws' := wCfg cy (o 1) bt Gt (nI nt) sct) [1, 2, 3, 4, 5, 6, 7, 8] rfl) (ci := 0) (q0 := 0) rfl rfl, pr_ro (hP.sub (ws' := wCfg cy (o 1) bt Gt (nI nt) sct) [1, 2, 3, 4, 5, 6, 7, 8] rfl) hE⟩ rfl rfl hl.1 rfl (lv_room (Nat.le_of_ble_eq_true rfl)) dX4_recordRejection_61 ⟨Nat.le_of_ble_eq_true rfl, Nat.le_of_ble_eq_true rfl⟩).run (fun r e_r => ?_)
    subst e_r
    refine lv_topi (fun y_ ey_ => ?_)
    obtain rfl : y_ = tdem Gt nt 8 0 (ffail Gt nt 8 0) := ey_
    refine va_put (D := (dC, dI)) (ci := 4) (v := .int (tdem Gt nt 8 0 (ffail Gt nt 8 0))) (ty := .int) (C := RX4) (T := TX4) (N := 12) hx hb hts hin4 tyX4 tyX4_ok nmX4 hown hK hP hD hS 0 rfl rfl 11 (by decide) f_241 (fun _ h9 => h9) rfl (by decide +kernel) rfl rfl (Nat.le_of_ble_eq_true rfl) dX4_recordRejection_64 (fun H locs hP hD hS => ?_)
    have hP : va_P (dC, dI) vwCl (wObj d0 o (upd (upd (upd F 9 0) 10 (ffail Gt nt 8 0)) 11 (tdem Gt nt 8 0 (ffail Gt nt 8 0))) ++ (wCfg cy (o 1) bt Gt (nI nt) sct)) H := hP
    have hD : va_D A (wObj d0 o (upd (upd (upd F 9 0) 10 (ffail Gt nt 8 0)) 11 (tdem Gt nt 8 0 (ffail Gt nt 8 0))) ++ (wCfg cy (o 1) bt Gt (nI nt) sct)) := hD
    refine lv_aload_n hx hb dX4_recordRejection_67 rfl (lv_at hl 1 rfl) ?_
    refine lv_iconst (v := 1) hx hb dX4_recordRejection_68 (by decide) ?_
    refine va_put (D := (dC, dI)) (ci := 4) (v := .int 1) (ty := .boolean) (C := RX4) (T := TX4) (N := 12) hx hb hts hin4 tyX4 tyX4_ok nmX4 hown hK hP hD hS 0 rfl rfl 8 (by decide) f_282 (fun _ h9 => h9) rfl (by decide +kernel) (by decide) rfl (Nat.le_of_ble_eq_true rfl) dX4_recordRejection_69 (fun H locs hP hD hS => ?_)
    have hP : va_P (dC, dI) vwCl (wObj d0 o (upd (upd (upd (upd F 8 1) 9 0) 10 (ffail Gt nt 8 0)) 11 (tdem Gt nt 8 0 (ffail Gt nt 8 0))) ++ (wCfg cy (o 1) bt Gt (nI nt) sct)) H := hP
    have hD : va_D A (wObj d0 o (upd (upd (upd (upd F 8 1) 9 0) 10 (ffail Gt nt 8 0)) 11 (tdem Gt nt 8 0 (ffail Gt nt 8 0))) ++ (wCfg cy (o 1) bt Gt (nI nt) sct)) := hD
    have hP9 : va_P (dC, dI) vwCl (wObj d0 o (upd (upd (upd (upd F 8 1) 9 0) 10 (ffail Gt nt 8 0)) 11 (tdem Gt nt 8 0 (ffail Gt nt 8 0))) ++ (wCfg cy (o 1) bt Gt (nI nt) sct)) H := hP
    have hD9 : va_D A (wObj d0 o (upd (upd (upd (upd F 8 1) 9 0) 10 (ffail Gt nt 8 0)) 11 (tdem Gt nt 8 0 (ffail Gt nt 8 0))) ++ (wCfg cy (o 1) bt Gt (nI nt) sct)) := hD
    exact W.vret hx hb hr (fun t ht hW => ⟨⟨(upd (upd (upd (upd F 8 1) 9 0) 10 (ffail Gt nt 8 0)) 11 (tdem Gt nt 8 0 (ffail Gt nt 8 0))), rfl, (by rw [rejF, rjd, rjl, rjm, if_neg (fun h => c_13 (ffail_le0.mpr h))]), by rw [ht]; exact hP9, hD9⟩, hS.F ht⟩) hS.2.2 dX4_recordRejection_72
set_option maxHeartbeats 1000000 in
set_option maxRecDepth 100000 in
/-- the change is made -/
theorem c_X4_commitTrial (l : Launch) (dC : Nat → ClassId) (dI : Nat → Nat → Nat) (cy : Nat → ClassId) (sz : Nat) (d0 : Nat) (o : Nat → Nat) (F : Nat → Int32) (bc : Nat → Nat) (G : vG) (n : Nat) (hn : n ≤ 8) (sc : Int32) (bt : Nat → Nat) (Gt : vG) (nt : Nat) (hnt : nt ≤ 8) (sct : Int32) (rg x kk : Nat) (hx6 : x < 6) (hkk : kk ≤ 6) (cs : Nat → Nat) (bs : Nat → Nat → Nat) (RG : Nat → vG) (rn : Nat → Nat) (RS : Nat → Int32) : Met l yX4_commitTrial wsX4_commitTrial ({ frames := 3, cells := 0, slots := 0, locals := 66 }) (va_Pc [.ref d0] (pIn dC dI cy (wObj d0 o F ++ (wCfg cy (o 0) bc G (nI n) sc ++ (wCfg cy (o 1) bt Gt (nI nt) sct ++ (wHis cy (o 3) rg x kk cs bs RG rn RS)))) sz)) (va_Qv (fun _ => True) (fun (u : Unit) t => va_P (dC, dI) vwCl (wObj d0 o (upd F 7 0) ++ (wCfg cy (o 0) bc (cpG G Gt nt) (nI nt) sct ++ (wCfg cy (o 1) bt Gt (nI nt) sct ++ (wHis cy (o 3) rg ((x + 1) % 6) (hcnt kk) cs bs (va_up RG x (cpG (RG x) G n)) (va_up rn x n) (va_up RS x sc))))) t.heap ∧ va_D (va_A (wObj d0 o F ++ (wCfg cy (o 0) bc G (nI n) sc ++ (wCfg cy (o 1) bt Gt (nI nt) sct ++ (wHis cy (o 3) rg x kk cs bs RG rn RS)))) sz) (wObj d0 o (upd F 7 0) ++ (wCfg cy (o 0) bc (cpG G Gt nt) (nI nt) sct ++ (wCfg cy (o 1) bt Gt (nI nt) sct ++ (wHis cy (o 3) rg ((x + 1) % 6) (hcnt kk) cs bs (va_up RG x (cpG (RG x) G n)) (va_up rn x n) (va_up RS x sc)))))) (va_A (wObj d0 o F ++ (wCfg cy (o 0) bc G (nI n) sc ++ (wCfg cy (o 1) bt Gt (nI nt) sct ++ (wHis cy (o 3) rg x kk cs bs RG rn RS)))) sz)) 0 0 (va_A (wObj d0 o F ++ (wCfg cy (o 0) bc G (nI n) sc ++ (wCfg cy (o 1) bt Gt (nI nt) sct ++ (wHis cy (o 3) rg x kk cs bs RG rn RS)))) sz) := by
  refine Met.ofW (cc := cX4_commitTrial) (maxL := 1) (ret := none) (by decide) rfl ?_
  intro p e s m args below meth c s₁ B hml hv
  obtain ⟨rfl, hsz, hP, hE, hD0⟩ := hv
  have hK := hE.1
  subst hsz
  have hD := hD0.self (sz := s.heap.size)
  generalize hAe : va_A (wObj d0 o F ++ (wCfg cy (o 0) bc G (nI n) sc ++ (wCfg cy (o 1) bt Gt (nI nt) sct ++ (wHis cy (o 3) rg x kk cs bs RG rn RS)))) s.heap.size = A at hD ⊢
  have hA : ∀ q : Nat, s.heap.size ≤ q → A q := fun q h => by rw [← hAe]; exact Or.inr h
  have hS : va_S A s.heap s.heap [] := va_S.rf
  have hP : va_P (dC, dI) vwCl (wObj d0 o F ++ (wCfg cy (o 0) bc G (nI n) sc ++ (wCfg cy (o 1) bt Gt (nI nt) sct ++ (wHis cy (o 3) rg x kk cs bs RG rn RS)))) s.heap := hP
  have hx := B.exec
  have hb := B.bytes
  have hr := B.returns
  have hts := atoms_spec (ws := wsX4_commitTrial) B.pre
  have hown : s.vm.findClass RX4 = some m.cls := findClass_of_methodNamed B.named
  have hlocks := B.notSynchronized
  have hin4 : ∀ w ∈ u_ws RX4 TX4 12, w ∈ wsX4_commitTrial := by decide +kernel
  have f_12 := hts (.fieldLink RX4 12 "DeadlineAdmission" "current" "LDeadlineAdmission$Configuration;") (by decide +kernel)
  have f_145 := hts (.fieldLink RX4 145 "DeadlineAdmission" "hasSimulation" "Z") (by decide +kernel)
  have f_16 := hts (.fieldLink RX4 16 "DeadlineAdmission" "trial" "LDeadlineAdmission$Configuration;") (by decide +kernel)
  have f_25 := hts (.fieldLink RX4 25 "DeadlineAdmission" "history" "LDeadlineAdmission$History;") (by decide +kernel)
  have hl := lv_entry ([.ref d0]) (n := 1) (Nat.le_of_ble_eq_true rfl)
  rw [lg_entry_eq]
  generalize (lg_sl ([.ref d0]) ++ List.replicate (1 - (lg_sl ([.ref d0])).length) Slot.unset).toArray = ls at hl ⊢
  have hl : lv_has ls 1 [(0, .ref d0)] := hl
  refine lv_aload_n hx hb dX4_commitTrial_0 rfl (lv_at hl 0 rfl) ?_
  refine va_get (D := (dC, dI)) (ci := 4) (v := .ref (o 3)) (C := RX4) (T := TX4) (N := 12) hx hb hts hin4 hown hK hP 0 rfl rfl 3 (by decide) f_25 (fun _ h9 => h9) rfl dX4_commitTrial_1 ?_
  refine lv_aload_n hx hb dX4_commitTrial_4 rfl (lv_at hl 0 rfl) ?_
  refine va_get (D := (dC, dI)) (ci := 4) (v := .ref (o 0)) (C := RX4) (T := TX4) (N := 12) hx hb hts hin4 hown hK hP 0 rfl rfl 0 (by decide) f_12 (fun _ h9 => h9) rfl dX4_commitTrial_5 ?_
  have hPc := hP.sub (ws' := wHis cy (o 3) rg x kk cs bs RG rn RS ++ (wCfg cy (o 0) bc G (nI n) sc)) [17, 18, 19, 20, 21, 22, 23, 24, 25, 26, 27, 28, 29, 30, 31, 32, 33, 34, 35, 36, 37, 38, 39, 40, 41, 42, 43, 44, 45, 46, 47, 48, 49, 50, 51, 52, 53, 54, 55, 56, 57, 58, 59, 60, 61, 62, 63, 64, 65, 66, 1, 2, 3, 4, 5, 6, 7, 8] rfl
  have hDc := hD.sub (ws' := wHis cy (o 3) rg x kk cs bs RG rn RS ++ (wCfg cy (o 0) bc G (nI n) sc)) [17, 18, 19, 20, 21, 22, 23, 24, 25, 26, 27, 28, 29, 30, 31, 32, 33, 34, 35, 36, 37, 38, 39, 40, 41, 42, 43, 44, 45, 46, 47, 48, 49, 50, 51, 52, 53, 54, 55, 56, 57, 58, 59, 60, 61, 62, 63, 64, 65, 66, 1, 2, 3, 4, 5, 6, 7, 8] (by decide) rfl
  have hFc := va_free (wc := wHis cy (o 3) rg x kk cs bs RG rn RS ++ (wCfg cy (o 0) bc G (nI n) sc)) hD hS hA [17, 18, 19, 20, 21, 22, 23, 24, 25, 26, 27, 28, 29, 30, 31, 32, 33, 34, 35, 36, 37, 38, 39, 40, 41, 42, 43, 44, 45, 46, 47, 48, 49, 50, 51, 52, 53, 54, 55, 56, 57, 58, 59, 60, 61, 62, 63, 64, 65, 66, 1, 2, 3, 4, 5, 6, 7, 8] rfl
  refine va_callv (va_runV (As := [.ref (o 0)]) (rest := []) ⟨hx, hb, hml, hown, hts⟩ (c_X1_remember l dC dI cy s.heap.size (o 3) rg kk cs bs RG rn RS (o 0) bc G n sc hkk hn x hx6) (cwV 1 hts gX4_commitTrial_X1_remember rfl rfl rfl (by decide +kernel) ⟨Nat.le_of_ble_eq_true rfl, Nat.le_of_ble_eq_true rfl⟩) ⟨bl_in, va_recv hK hPc (ci := 1) (q0 := 0) rfl rfl, pr_in hPc hE hDc⟩ rfl rfl hl.1 rfl (lv_room (Nat.le_of_ble_eq_true rfl)) dX4_commitTrial_8 ⟨Nat.le_of_ble_eq_true rfl, Nat.le_of_ble_eq_true rfl⟩) hS (fun q _ h => hFc q h) hFc (fun u t H1 locs ht hvm hw hB hz1 hk1 hS => ?_)
  obtain ⟨hP1, hD1⟩ := hB
  rw [ht] at hP1
  obtain ⟨hP, hD⟩ := va_join (wr := wObj d0 o F ++ (wCfg cy (o 1) bt Gt (nI nt) sct)) (w1 := wHis cy (o 3) rg ((x + 1) % 6) (hcnt kk) cs bs (va_up RG x (cpG (RG x) G n)) (va_up rn x n) (va_up RS x sc) ++ (wCfg cy (o 0) bc G (nI n) sc)) hP hD [17, 18, 19, 20, 21, 22, 23, 24, 25, 26, 27, 28, 29, 30, 31, 32, 33, 34, 35, 36, 37, 38, 39, 40, 41, 42, 43, 44, 45, 46, 47, 48, 49, 50, 51, 52, 53, 54, 55, 56, 57, 58, 59, 60, 61, 62, 63, 64, 65, 66, 1, 2, 3, 4, 5, 6, 7, 8] [0, 9, 10, 11, 12, 13, 14, 15, 16] rfl rfl (by decide) (by decide) hk1 hFc hP1 hD1
  have hP : va_P (dC, dI) vwCl (wObj d0 o F ++ (wCfg cy (o 0) bc G (nI n) sc ++ (wCfg cy (o 1) bt Gt (nI nt) sct ++ (wHis cy (o 3) rg ((x + 1) % 6) (hcnt kk) cs bs (va_up RG x (cpG (RG x) G n)) (va_up rn x n) (va_up RS x sc))))) H1 := hP.sub [0, 59, 60, 61, 62, 63, 64, 65, 66, 1, 2, 3, 4, 5, 6, 7, 8, 9, 10, 11, 12, 13, 14, 15, 16, 17, 18, 19, 20, 21, 22, 23, 24, 25, 26, 27, 28, 29, 30, 31, 32, 33, 34, 35, 36, 37, 38, 39, 40, 41, 42, 43, 44, 45, 46, 47, 48, 49, 50, 51, 52, 53, 54, 55, 56, 57, 58] rfl
  have hD : va_D A (wObj d0 o F ++ (wCfg cy (o 0) bc G (nI n) sc ++ (wCfg cy (o 1) bt Gt (nI nt) sct ++ (wHis cy (o 3) rg ((x + 1) % 6) (hcnt kk) cs bs (va_up RG x (cpG (RG x) G n)) (va_up rn x n) (va_up RS x sc))))) := hD.sub [0, 59, 60, 61, 62, 63, 64, 65, 66, 1, 2, 3, 4, 5, 6, 7, 8, 9, 10, 11, 12, 13, 14, 15, 16, 17, 18, 19, 20, 21, 22, 23, 24, 25, 26, 27, 28, 29, 30, 31, 32, 33, 34, 35, 36, 37, 38, 39, 40, 41, 42, 43, 44, 45, 46, 47, 48, 49, 50, 51, 52, 53, 54, 55, 56, 57, 58] (by decide) rfl
  clear hz1 hk1 hPc hDc hFc hP1 hD1
  generalize H1 = H at hP hS ⊢
  refine lv_aload_n hx hb dX4_commitTrial_11 rfl (lv_at hl 0 rfl) ?_
  refine va_get (D := (dC, dI)) (ci := 4) (v := .ref (o 0)) (C := RX4) (T := TX4) (N := 12) hx hb hts hin4 hown hK hP 0 rfl rfl 0 (by decide) f_12 (fun _ h9 => h9) rfl dX4_commitTrial_12 ?_
  refine lv_aload_n hx hb dX4_commitTrial_15 rfl (lv_at hl 0 rfl) ?_
  refine va_get (D := (dC, dI)) (ci := 4) (v := .ref (o 1)) (C := RX4) (T := TX4) (N := 12) hx hb hts hin4 hown hK hP 0 rfl rfl 1 (by decide) f_16 (fun _ h9 => h9) rfl dX4_commitTrial_16 ?_
  have hPc := hP.sub (ws' := wCfg cy (o 0) bc G (nI n) sc ++ (wCfg cy (o 1) bt Gt (nI nt) sct)) [1, 2, 3, 4, 5, 6, 7, 8, 9, 10, 11, 12, 13, 14, 15, 16] rfl
  have hDc := hD.sub (ws' := wCfg cy (o 0) bc G (nI n) sc ++ (wCfg cy (o 1) bt Gt (nI nt) sct)) [1, 2, 3, 4, 5, 6, 7, 8, 9, 10, 11, 12, 13, 14, 15, 16] (by decide) rfl
  have hFc := va_free (wc := wCfg cy (o 0) bc G (nI n) sc ++ (wCfg cy (o 1) bt Gt (nI nt) sct)) hD hS hA [1, 2, 3, 4, 5, 6, 7, 8, 9, 10, 11, 12, 13, 14, 15, 16] rfl
  refine va_callv (va_runV (As := [.ref (o 1)]) (rest := []) ⟨hx, hb, hml, hown, hts⟩ (c_X0_copyFrom l dC dI cy H.size (o 0) bc G (nI n) sc (o 1) bt Gt nt hnt sct) (cwV 1 hts gX4_commitTrial_X0_copyFrom rfl rfl rfl (by decide +kernel) ⟨Nat.le_of_ble_eq_true rfl, Nat.le_of_ble_eq_true rfl⟩) ⟨bl_in, va_recv hK hPc (ci := 0) (q0 := 0) rfl rfl, pr_in hPc hE hDc⟩ rfl rfl hl.1 rfl (lv_room (Nat.le_of_ble_eq_true rfl)) dX4_commitTrial_19 ⟨Nat.le_of_ble_eq_true rfl, Nat.le_of_ble_eq_true rfl⟩) hS (fun q _ h => hFc q h) hFc (fun u t H1 locs ht hvm hw hB hz1 hk1 hS => ?_)
  obtain ⟨hP1, hD1⟩ := hB
  rw [ht] at hP1
  obtain ⟨hP, hD⟩ := va_join (wr := wObj d0 o F ++ (wHis cy (o 3) rg ((x + 1) % 6) (hcnt kk) cs bs (va_up RG x (cpG (RG x) G n)) (va_up rn x n) (va_up RS x sc))) (w1 := wCfg cy (o 0) bc (cpG G Gt nt) (nI nt) sct ++ (wCfg cy (o 1) bt Gt (nI nt) sct)) hP hD [1, 2, 3, 4, 5, 6, 7, 8, 9, 10, 11, 12, 13, 14, 15, 16] [0, 17, 18, 19, 20, 21, 22, 23, 24, 25, 26, 27, 28, 29, 30, 31, 32, 33, 34, 35, 36, 37, 38, 39, 40, 41, 42, 43, 44, 45, 46, 47, 48, 49, 50, 51, 52, 53, 54, 55, 56, 57, 58, 59, 60, 61, 62, 63, 64, 65, 66] rfl rfl (by decide) (by decide) hk1 hFc hP1 hD1
  have hP : va_P (dC, dI) vwCl (wObj d0 o F ++ (wCfg cy (o 0) bc (cpG G Gt nt) (nI nt) sct ++ (wCfg cy (o 1) bt Gt (nI nt) sct ++ (wHis cy (o 3) rg ((x + 1) % 6) (hcnt kk) cs bs (va_up RG x (cpG (RG x) G n)) (va_up rn x n) (va_up RS x sc))))) H1 := hP.sub [0, 51, 52, 53, 54, 55, 56, 57, 58, 59, 60, 61, 62, 63, 64, 65, 66, 1, 2, 3, 4, 5, 6, 7, 8, 9, 10, 11, 12, 13, 14, 15, 16, 17, 18, 19, 20, 21, 22, 23, 24, 25, 26, 27, 28, 29, 30, 31, 32, 33, 34, 35, 36, 37, 38, 39, 40, 41, 42, 43, 44, 45, 46, 47, 48, 49, 50] rfl
  have hD : va_D A (wObj d0 o F ++ (wCfg cy (o 0) bc (cpG G Gt nt) (nI nt) sct ++ (wCfg cy (o 1) bt Gt (nI nt) sct ++ (wHis cy (o 3) rg ((x + 1) % 6) (hcnt kk) cs bs (va_up RG x (cpG (RG x) G n)) (va_up rn x n) (va_up RS x sc))))) := hD.sub [0, 51, 52, 53, 54, 55, 56, 57, 58, 59, 60, 61, 62, 63, 64, 65, 66, 1, 2, 3, 4, 5, 6, 7, 8, 9, 10, 11, 12, 13, 14, 15, 16, 17, 18, 19, 20, 21, 22, 23, 24, 25, 26, 27, 28, 29, 30, 31, 32, 33, 34, 35, 36, 37, 38, 39, 40, 41, 42, 43, 44, 45, 46, 47, 48, 49, 50] (by decide) rfl
  clear hz1 hk1 hPc hDc hFc hP1 hD1
  generalize H1 = H at hP hS ⊢
  refine lv_aload_n hx hb dX4_commitTrial_22 rfl (lv_at hl 0 rfl) ?_
  refine lv_iconst (v := 0) hx hb dX4_commitTrial_23 (by decide) ?_
  refine va_put (D := (dC, dI)) (ci := 4) (v := .int 0) (ty := .boolean) (C := RX4) (T := TX4) (N := 12) hx hb hts hin4 tyX4 tyX4_ok nmX4 hown hK hP hD hS 0 rfl rfl 7 (by decide) f_145 (fun _ h9 => h9) rfl (by decide +kernel) (by decide) rfl (Nat.le_of_ble_eq_true rfl) dX4_commitTrial_24 (fun H locs hP hD hS => ?_)
  have hP : va_P (dC, dI) vwCl (wObj d0 o (upd F 7 0) ++ (wCfg cy (o 0) bc (cpG G Gt nt) (nI nt) sct ++ (wCfg cy (o 1) bt Gt (nI nt) sct ++ (wHis cy (o 3) rg ((x + 1) % 6) (hcnt kk) cs bs (va_up RG x (cpG (RG x) G n)) (va_up rn x n) (va_up RS x sc))))) H := hP
  have hD : va_D A (wObj d0 o (upd F 7 0) ++ (wCfg cy (o 0) bc (cpG G Gt nt) (nI nt) sct ++ (wCfg cy (o 1) bt Gt (nI nt) sct ++ (wHis cy (o 3) rg ((x + 1) % 6) (hcnt kk) cs bs (va_up RG x (cpG (RG x) G n)) (va_up rn x n) (va_up RS x sc))))) := hD
  have hP9 : va_P (dC, dI) vwCl (wObj d0 o (upd F 7 0) ++ (wCfg cy (o 0) bc (cpG G Gt nt) (nI nt) sct ++ (wCfg cy (o 1) bt Gt (nI nt) sct ++ (wHis cy (o 3) rg ((x + 1) % 6) (hcnt kk) cs bs (va_up RG x (cpG (RG x) G n)) (va_up rn x n) (va_up RS x sc))))) H := hP
  have hD9 : va_D A (wObj d0 o (upd F 7 0) ++ (wCfg cy (o 0) bc (cpG G Gt nt) (nI nt) sct ++ (wCfg cy (o 1) bt Gt (nI nt) sct ++ (wHis cy (o 3) rg ((x + 1) % 6) (hcnt kk) cs bs (va_up RG x (cpG (RG x) G n)) (va_up rn x n) (va_up RS x sc))))) := hD
  exact W.vret hx hb hr (fun t ht hW => ⟨⟨(), rfl, trivial, by rw [ht]; exact hP9, hD9⟩, hS.F ht⟩) hS.2.2 dX4_commitTrial_27

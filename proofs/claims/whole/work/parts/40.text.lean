/-! PART 40: TaskText -/
abbrev wTxt (cy : Nat → ClassId) (t0 ta tb : Nat) (C N : Nat → Int32) (ln fl : Int32) : va_W := [(t0, .inr (3, [.ref ta, .ref tb, .int ln, .int fl])), (ta, .inl (cy 0, 30, .inl C)), (tb, .inl (cy 0, 6, .inl N))]
theorem pst0 (tx : Nat → Int32) (L : Nat) : pst tx L 0 = (decide (0 < rlen tx L 0), 0 + rlen tx L 0) := by rw [Nat.zero_add]; rfl
theorem pstS {tx : Nat → Int32} {L q s : Nat} (h1 : (pst tx L q).1 = true) (h2 : (pst tx L q).2 = s) (h3 : hrr tx L s = 44) : pst tx L (q + 1) = (decide (0 < rlen tx L (s + 1)), s + 1 + rlen tx L (s + 1)) := by
  simp only [pst]; rw [if_pos h1, h2, if_pos h3]
theorem pstC {tx : Nat → Int32} {L q s : Nat} (h1 : (pst tx L q).1 = true) (h2 : (pst tx L q).2 = s) (h3 : ¬ hrr tx L s = 44) : pst tx L (q + 1) = (false, s) := by
  simp only [pst]; rw [if_pos h1, h2, if_neg h3]
theorem flt_no {tx : Nat → Int32} {L q s : Nat} (hq : q ≤ 5) (h : pst tx L q = (false, s)) : flt tx L = nI s := by
  have h1 := pst_no (k := q) (by rw [h]) 5 hq
  rw [flt, h1, h]
  exact if_neg (fun z => Bool.false_ne_true z.1)
set_option maxHeartbeats 1000000 in
set_option maxRecDepth 100000 in
/-- is there a comma -/
theorem c_X3_hasComma (l : Launch) (dC : Nat → ClassId) (dI : Nat → Nat → Nat) (cy : Nat → ClassId) (t0 ta tb : Nat) (C N : Nat → Int32) (fl : Int32) (L : Nat) (hL : L ≤ 30) (pz : Nat) (hp : pz ≤ 60) : Met l yX3_hasComma wsX3_hasComma ({ frames := 0, cells := 0, slots := 0, locals := 0 }) (va_Pc [.ref t0, .int (nI pz)] (fun U => va_P (dC, dI) vwCl (wTxt cy t0 ta tb C N (nI L) fl) U.heap ∧ EV dC dI cy U)) (vp_Si (fun r => r = (if hrr C L pz = 44 then 1 else 0))) 0 0 (fun _ => False) := by
  refine Met.ofW (cc := cX3_hasComma) (maxL := 2) (ret := some .boolean) (by decide) rfl ?_
  intro p e s m args below meth c s₁ B hml hv
  obtain ⟨rfl, hP, hE⟩ := hv
  have hK := hE.1
  have hx := B.exec
  have hb := B.bytes
  have hr := B.returns
  have hts := atoms_spec (ws := wsX3_hasComma) B.pre
  have hown : s.vm.findClass RX3 = some m.cls := findClass_of_methodNamed B.named
  have hlocks := B.notSynchronized
  have hin3 : ∀ w ∈ u_ws RX3 TX3 4, w ∈ wsX3_hasComma := by decide +kernel
  have f_22 := hts (.fieldLink RX3 22 "DeadlineAdmission$TaskText" "length" "I") (by decide +kernel)
  have f_9 := hts (.fieldLink RX3 9 "DeadlineAdmission$TaskText" "characters" "[I") (by decide +kernel)
  have hl := lv_entry ([.ref t0, .int (nI pz)]) (n := 2) (Nat.le_of_ble_eq_true rfl)
  rw [lg_entry_eq]
  generalize (lg_sl ([.ref t0, .int (nI pz)]) ++ List.replicate (2 - (lg_sl ([.ref t0, .int (nI pz)])).length) Slot.unset).toArray = ls at hl ⊢
  have hl : lv_has ls 2 [(0, .ref t0), (1, .int (nI pz))] := hl
  refine lv_iload_n hx hb dX3_hasComma_0 rfl (lv_at hl 1 rfl) ?_
  refine lv_aload_n hx hb dX3_hasComma_1 rfl (lv_at hl 0 rfl) ?_
  refine va_get (D := (dC, dI)) (ci := 3) (v := .int (nI L)) (C := RX3) (T := TX3) (N := 4) hx hb hts hin3 hown hK hP 0 rfl rfl 2 (by decide) f_22 (fun _ h9 => h9) rfl dX3_hasComma_2 ?_
  refine lv_icmp_ge (tgt := 23) hx hb dX3_hasComma_5 (by decide) (fun c_5 => ?_) (fun c_5 => ?_)
  · have hle : L ≤ pz := (nI_leI (by omega) (by omega)).mp c_5
    refine lv_iconst (v := 0) hx hb dX3_hasComma_23 (by decide) ?_
    exact W.zret (v := 0) hx hb hr (by decide) (fun t ht hW => ⟨_, rfl, (by rw [hrr_out hle]; rfl), ht⟩) (fun q hq => absurd hq List.not_mem_nil) dX3_hasComma_24
  · have hlt : pz < L := Nat.lt_of_not_le (fun h => c_5 (nI_le h (by omega)))
    refine lv_aload_n hx hb dX3_hasComma_8 rfl (lv_at hl 0 rfl) ?_
    refine va_get (D := (dC, dI)) (ci := 3) (v := .ref ta) (C := RX3) (T := TX3) (N := 4) hx hb hts hin3 hown hK hP 0 rfl rfl 0 (by decide) f_9 (fun _ h9 => h9) rfl dX3_hasComma_9 ?_
    refine lv_iload_n hx hb dX3_hasComma_12 rfl (lv_at hl 1 rfl) ?_
    refine wI_alv (v := C pz) hx hb hK hP 1 0 rfl rfl pz rfl (by omega) (by decide) rfl dX3_hasComma_13 ?_
    refine lv_bipush (v := 44) hx hb dX3_hasComma_14 (by decide) ?_
    refine lv_icmp_ne (tgt := 23) hx hb dX3_hasComma_16 (by decide) (fun c_16 => ?_) (fun c_16 => ?_)
    · refine lv_iconst (v := 0) hx hb dX3_hasComma_23 (by decide) ?_
      exact W.zret (v := 0) hx hb hr (by decide) (fun t ht hW => ⟨_, rfl, (by rw [hrr_in hlt]; simp only [c_16, ↓reduceIte]), ht⟩) (fun q hq => absurd hq List.not_mem_nil) dX3_hasComma_24
    · refine lv_iconst (v := 1) hx hb dX3_hasComma_19 (by decide) ?_
      refine lv_goto (tgt := 24) hx hb dX3_hasComma_20 (by decide) ?_
      exact W.zret (v := 1) hx hb hr (by decide) (fun t ht hW => ⟨_, rfl, (by rw [hrr_in hlt]; simp only [c_16, ↓reduceIte]), ht⟩) (fun q hq => absurd hq List.not_mem_nil) dX3_hasComma_24
set_option maxHeartbeats 1000000 in
set_option maxRecDepth 100000 in
/-- is there a digit -/
theorem c_X3_hasDigit (l : Launch) (dC : Nat → ClassId) (dI : Nat → Nat → Nat) (cy : Nat → ClassId) (t0 ta tb : Nat) (C N : Nat → Int32) (fl : Int32) (L : Nat) (hL : L ≤ 30) (pz : Nat) (hp : pz ≤ 60) : Met l yX3_hasDigit wsX3_hasDigit ({ frames := 0, cells := 0, slots := 0, locals := 0 }) (va_Pc [.ref t0, .int (nI pz)] (fun U => va_P (dC, dI) vwCl (wTxt cy t0 ta tb C N (nI L) fl) U.heap ∧ EV dC dI cy U)) (vp_Si (fun r => r = (if isd C L pz then 1 else 0))) 0 0 (fun _ => False) := by
  refine Met.ofW (cc := cX3_hasDigit) (maxL := 2) (ret := some .boolean) (by decide) rfl ?_
  intro p e s m args below meth c s₁ B hml hv
  obtain ⟨rfl, hP, hE⟩ := hv
  have hK := hE.1
  have hx := B.exec
  have hb := B.bytes
  have hr := B.returns
  have hts := atoms_spec (ws := wsX3_hasDigit) B.pre
  have hown : s.vm.findClass RX3 = some m.cls := findClass_of_methodNamed B.named
  have hlocks := B.notSynchronized
  have hin3 : ∀ w ∈ u_ws RX3 TX3 4, w ∈ wsX3_hasDigit := by decide +kernel
  have f_22 := hts (.fieldLink RX3 22 "DeadlineAdmission$TaskText" "length" "I") (by decide +kernel)
  have f_9 := hts (.fieldLink RX3 9 "DeadlineAdmission$TaskText" "characters" "[I") (by decide +kernel)
  have hl := lv_entry ([.ref t0, .int (nI pz)]) (n := 2) (Nat.le_of_ble_eq_true rfl)
  rw [lg_entry_eq]
  generalize (lg_sl ([.ref t0, .int (nI pz)]) ++ List.replicate (2 - (lg_sl ([.ref t0, .int (nI pz)])).length) Slot.unset).toArray = ls at hl ⊢
  have hl : lv_has ls 2 [(0, .ref t0), (1, .int (nI pz))] := hl
  refine lv_iload_n hx hb dX3_hasDigit_0 rfl (lv_at hl 1 rfl) ?_
  refine lv_aload_n hx hb dX3_hasDigit_1 rfl (lv_at hl 0 rfl) ?_
  refine va_get (D := (dC, dI)) (ci := 3) (v := .int (nI L)) (C := RX3) (T := TX3) (N := 4) hx hb hts hin3 hown hK hP 0 rfl rfl 2 (by decide) f_22 (fun _ h9 => h9) rfl dX3_hasDigit_2 ?_
  refine lv_icmp_ge (tgt := 34) hx hb dX3_hasDigit_5 (by decide) (fun c_5 => ?_) (fun c_5 => ?_)
  · have hle : L ≤ pz := (nI_leI (by omega) (by omega)).mp c_5
    refine lv_iconst (v := 0) hx hb dX3_hasDigit_34 (by decide) ?_
    exact W.zret (v := 0) hx hb hr (by decide) (fun t ht hW => ⟨_, rfl, (by rw [if_neg (fun h => absurd (isd_lt h) (by omega))]), ht⟩) (fun q hq => absurd hq List.not_mem_nil) dX3_hasDigit_35
  · have hlt : pz < L := Nat.lt_of_not_le (fun h => c_5 (nI_le h (by omega)))
    refine lv_aload_n hx hb dX3_hasDigit_8 rfl (lv_at hl 0 rfl) ?_
    refine va_get (D := (dC, dI)) (ci := 3) (v := .ref ta) (C := RX3) (T := TX3) (N := 4) hx hb hts hin3 hown hK hP 0 rfl rfl 0 (by decide) f_9 (fun _ h9 => h9) rfl dX3_hasDigit_9 ?_
    refine lv_iload_n hx hb dX3_hasDigit_12 rfl (lv_at hl 1 rfl) ?_
    refine wI_alv (v := C pz) hx hb hK hP 1 0 rfl rfl pz rfl (by omega) (by decide) rfl dX3_hasDigit_13 ?_
    refine lv_bipush (v := 48) hx hb dX3_hasDigit_14 (by decide) ?_
    refine lv_icmp_lt (tgt := 34) hx hb dX3_hasDigit_16 (by decide) (fun c_16 => ?_) (fun c_16 => ?_)
    · refine lv_iconst (v := 0) hx hb dX3_hasDigit_34 (by decide) ?_
      exact W.zret (v := 0) hx hb hr (by decide) (fun t ht hW => ⟨_, rfl, (by rw [if_neg (fun h => h.1 (by rw [hrr_in hlt]; exact c_16))]), ht⟩) (fun q hq => absurd hq List.not_mem_nil) dX3_hasDigit_35
    · refine lv_aload_n hx hb dX3_hasDigit_19 rfl (lv_at hl 0 rfl) ?_
      refine va_get (D := (dC, dI)) (ci := 3) (v := .ref ta) (C := RX3) (T := TX3) (N := 4) hx hb hts hin3 hown hK hP 0 rfl rfl 0 (by decide) f_9 (fun _ h9 => h9) rfl dX3_hasDigit_20 ?_
      refine lv_iload_n hx hb dX3_hasDigit_23 rfl (lv_at hl 1 rfl) ?_
      refine wI_alv (v := C pz) hx hb hK hP 1 0 rfl rfl pz rfl (by omega) (by decide) rfl dX3_hasDigit_24 ?_
      refine lv_bipush (v := 57) hx hb dX3_hasDigit_25 (by decide) ?_
      refine lv_icmp_gt (tgt := 34) hx hb dX3_hasDigit_27 (by decide) (fun c_27 => ?_) (fun c_27 => ?_)
      · refine lv_iconst (v := 0) hx hb dX3_hasDigit_34 (by decide) ?_
        exact W.zret (v := 0) hx hb hr (by decide) (fun t ht hW => ⟨_, rfl, (by rw [if_neg (fun h => h.2 (by rw [hrr_in hlt]; exact c_27))]), ht⟩) (fun q hq => absurd hq List.not_mem_nil) dX3_hasDigit_35
      · refine lv_iconst (v := 1) hx hb dX3_hasDigit_30 (by decide) ?_
        refine lv_goto (tgt := 35) hx hb dX3_hasDigit_31 (by decide) ?_
        exact W.zret (v := 1) hx hb hr (by decide) (fun t ht hW => ⟨_, rfl, (by rw [if_pos (show isd C L pz from ⟨by rw [hrr_in hlt]; exact c_16, by rw [hrr_in hlt]; exact c_27⟩)]), ht⟩) (fun q hq => absurd hq List.not_mem_nil) dX3_hasDigit_35
set_option maxHeartbeats 1000000 in
set_option maxRecDepth 100000 in
/-- a character more -/
theorem c_X3_append (l : Launch) (dC : Nat → ClassId) (dI : Nat → Nat → Nat) (cy : Nat → ClassId) (sz : Nat) (t0 ta tb : Nat) (C N : Nat → Int32) (fl : Int32) (L : Nat) (hL : L ≤ 30) (hL9 : L < 30) (p0 : Int32) : Met l yX3_append wsX3_append ({ frames := 0, cells := 0, slots := 0, locals := 0 }) (va_Pc [.ref t0, .int p0] (pIn dC dI cy (wTxt cy t0 ta tb C N (nI L) fl) sz)) (va_Qv (fun _ => True) (fun (u : Unit) t => va_P (dC, dI) vwCl (wTxt cy t0 ta tb (upd C L p0) N (nI (L + 1)) fl) t.heap ∧ va_D (va_A (wTxt cy t0 ta tb C N (nI L) fl) sz) (wTxt cy t0 ta tb (upd C L p0) N (nI (L + 1)) fl)) (va_A (wTxt cy t0 ta tb C N (nI L) fl) sz)) 0 0 (va_A (wTxt cy t0 ta tb C N (nI L) fl) sz) := by
  refine Met.ofW (cc := cX3_append) (maxL := 2) (ret := none) (by decide) rfl ?_
  intro p e s m args below meth c s₁ B hml hv
  obtain ⟨rfl, hsz, hP, hE, hD0⟩ := hv
  have hK := hE.1
  subst hsz
  have hD := hD0.self (sz := s.heap.size)
  generalize hAe : va_A (wTxt cy t0 ta tb C N (nI L) fl) s.heap.size = A at hD ⊢
  have hA : ∀ q : Nat, s.heap.size ≤ q → A q := fun q h => by rw [← hAe]; exact Or.inr h
  have hS : va_S A s.heap s.heap [] := va_S.rf
  have hP : va_P (dC, dI) vwCl (wTxt cy t0 ta tb C N (nI L) fl) s.heap := hP
  have hx := B.exec
  have hb := B.bytes
  have hr := B.returns
  have hts := atoms_spec (ws := wsX3_append) B.pre
  have hown : s.vm.findClass RX3 = some m.cls := findClass_of_methodNamed B.named
  have hlocks := B.notSynchronized
  have hin3 : ∀ w ∈ u_ws RX3 TX3 4, w ∈ wsX3_append := by decide +kernel
  have f_22 := hts (.fieldLink RX3 22 "DeadlineAdmission$TaskText" "length" "I") (by decide +kernel)
  have f_9 := hts (.fieldLink RX3 9 "DeadlineAdmission$TaskText" "characters" "[I") (by decide +kernel)
  have hl := lv_entry ([.ref t0, .int p0]) (n := 2) (Nat.le_of_ble_eq_true rfl)
  rw [lg_entry_eq]
  generalize (lg_sl ([.ref t0, .int p0]) ++ List.replicate (2 - (lg_sl ([.ref t0, .int p0])).length) Slot.unset).toArray = ls at hl ⊢
  have hl : lv_has ls 2 [(0, .ref t0), (1, .int p0)] := hl
  refine lv_aload_n hx hb dX3_append_0 rfl (lv_at hl 0 rfl) ?_
  refine va_get (D := (dC, dI)) (ci := 3) (v := .ref ta) (C := RX3) (T := TX3) (N := 4) hx hb hts hin3 hown hK hP 0 rfl rfl 0 (by decide) f_9 (fun _ h9 => h9) rfl dX3_append_1 ?_
  refine lv_aload_n hx hb dX3_append_4 rfl (lv_at hl 0 rfl) ?_
  refine va_get (D := (dC, dI)) (ci := 3) (v := .int (nI L)) (C := RX3) (T := TX3) (N := 4) hx hb hts hin3 hown hK hP 0 rfl rfl 2 (by decide) f_22 (fun _ h9 => h9) rfl dX3_append_5 ?_
  refine lv_iload_n hx hb dX3_append_8 rfl (lv_at hl 1 rfl) ?_
  refine wI_ast hx hb hK hP hD hS 1 0 rfl rfl L rfl (by omega) (by decide) dX3_append_9 (fun H locs hP hD hS => ?_)
  have hP : va_P (dC, dI) vwCl (wTxt cy t0 ta tb (upd C L p0) N (nI L) fl) H := hP
  have hD : va_D A (wTxt cy t0 ta tb (upd C L p0) N (nI L) fl) := hD
  refine lv_aload_n hx hb dX3_append_10 rfl (lv_at hl 0 rfl) ?_
  refine lv_dup hx hb dX3_append_11 rfl ?_
  refine va_get (D := (dC, dI)) (ci := 3) (v := .int (nI L)) (C := RX3) (T := TX3) (N := 4) hx hb hts hin3 hown hK hP 0 rfl rfl 2 (by decide) f_22 (fun _ h9 => h9) rfl dX3_append_12 ?_
  refine lv_iconst (v := 1) hx hb dX3_append_15 (by decide) ?_
  refine lv_iadd hx hb dX3_append_16 ?_
  refine va_put (D := (dC, dI)) (ci := 3) (v := .int ((nI L) + 1)) (ty := .int) (C := RX3) (T := TX3) (N := 4) hx hb hts hin3 tyX3 tyX3_ok nmX3 hown hK hP hD hS 0 rfl rfl 2 (by decide) f_22 (fun _ h9 => h9) rfl (by decide +kernel) rfl rfl (Nat.le_of_ble_eq_true rfl) dX3_append_17 (fun H locs hP hD hS => ?_)
  have hP : va_P (dC, dI) vwCl (wTxt cy t0 ta tb (upd C L p0) N ((nI L) + 1) fl) H := hP
  have hD : va_D A (wTxt cy t0 ta tb (upd C L p0) N ((nI L) + 1) fl) := hD
  have hP9 : va_P (dC, dI) vwCl (wTxt cy t0 ta tb (upd C L p0) N (nI (L + 1)) fl) H := (by rw [← nI_1 L]; exact hP)
  have hD9 : va_D A (wTxt cy t0 ta tb (upd C L p0) N (nI (L + 1)) fl) := (by rw [← nI_1 L]; exact hD)
  exact W.vret hx hb hr (fun t ht hW => ⟨⟨(), rfl, trivial, by rw [ht]; exact hP9, hD9⟩, hS.F ht⟩) hS.2.2 dX3_append_20
set_option maxHeartbeats 1000000 in
set_option maxRecDepth 100000 in
/-- the fault position; the numbers -/
theorem c_X3_findFault (l : Launch) (dC : Nat → ClassId) (dI : Nat → Nat → Nat) (cy : Nat → ClassId) (sz : Nat) (t0 ta tb : Nat) (C N : Nat → Int32) (fl : Int32) (L : Nat) (hL : L ≤ 30) : Met l yX3_findFault wsX3_findFault ({ frames := 1, cells := 0, slots := 0, locals := 21 }) (va_Pc [.ref t0] (pIn dC dI cy (wTxt cy t0 ta tb C N (nI L) fl) sz)) (va_Qi (fun (r : Int32) (u : Nat → Int32) => r = flt C L ∧ (flt C L = -1 → ∀ j, j < 6 → u j = nv C L j)) (fun (u : Nat → Int32) t => va_P (dC, dI) vwCl (wTxt cy t0 ta tb C u (nI L) fl) t.heap ∧ va_D (va_A (wTxt cy t0 ta tb C N (nI L) fl) sz) (wTxt cy t0 ta tb C u (nI L) fl)) (va_A (wTxt cy t0 ta tb C N (nI L) fl) sz)) 0 0 (va_A (wTxt cy t0 ta tb C N (nI L) fl) sz) := by
  refine Met.ofW (cc := cX3_findFault) (maxL := 4) (ret := some .int) (by decide) rfl ?_
  intro p e s m args below meth c s₁ B hml hv
  obtain ⟨rfl, hsz, hP, hE, hD0⟩ := hv
  have hK := hE.1
  subst hsz
  have hD := hD0.self (sz := s.heap.size)
  generalize hAe : va_A (wTxt cy t0 ta tb C N (nI L) fl) s.heap.size = A at hD ⊢
  have hA : ∀ q : Nat, s.heap.size ≤ q → A q := fun q h => by rw [← hAe]; exact Or.inr h
  have hS : va_S A s.heap s.heap [] := va_S.rf
  have hP : va_P (dC, dI) vwCl (wTxt cy t0 ta tb C N (nI L) fl) s.heap := hP
  have hx := B.exec
  have hb := B.bytes
  have hr := B.returns
  have hts := atoms_spec (ws := wsX3_findFault) B.pre
  have hown : s.vm.findClass RX3 = some m.cls := findClass_of_methodNamed B.named
  have hlocks := B.notSynchronized
  have hin3 : ∀ w ∈ u_ws RX3 TX3 4, w ∈ wsX3_findFault := by decide +kernel
  have f_15 := hts (.fieldLink RX3 15 "DeadlineAdmission$TaskText" "numbers" "[I") (by decide +kernel)
  have f_22 := hts (.fieldLink RX3 22 "DeadlineAdmission$TaskText" "length" "I") (by decide +kernel)
  have f_9 := hts (.fieldLink RX3 9 "DeadlineAdmission$TaskText" "characters" "[I") (by decide +kernel)
  have hl := lv_entry ([.ref t0]) (n := 4) (Nat.le_of_ble_eq_true rfl)
  rw [lg_entry_eq]
  generalize (lg_sl ([.ref t0]) ++ List.replicate (4 - (lg_sl ([.ref t0])).length) Slot.unset).toArray = ls at hl ⊢
  have hl : lv_has ls 4 [(0, .ref t0)] := hl
  refine lv_iconst (v := 0) hx hb dX3_findFault_0 (by decide) ?_
  refine lv_istore_n (lv' := [(1, .int 0), (0, .ref t0)]) hx hb dX3_findFault_1 rfl hl (by decide) rfl (fun ls hl => ?_)
  refine lv_iconst (v := 0) hx hb dX3_findFault_2 (by decide) ?_
  refine lv_istore_n (lv' := [(2, .int 0), (1, .int 0), (0, .ref t0)]) hx hb dX3_findFault_3 rfl hl (by decide) rfl (fun ls hl => ?_)
  have loop4 : ∀ (k : Nat) (q : Nat) (s9 : Nat) (N2 : Nat → Int32) (ls : Array Slot), q ≤ 6 → ((q = 0 ∧ s9 = 0) ∨ (∃ q1, q = q1 + 1 ∧ (pst C L q1).1 = true ∧ (pst C L q1).2 = s9)) → (∀ j, j < q → N2 j = nv C L j) → s9 ≤ L → 6 < q + k → ∀ (H : Heap) (locs : List Loc), va_P (dC, dI) vwCl (wTxt cy t0 ta tb C N2 (nI L) fl) H → va_D A (wTxt cy t0 ta tb C N2 (nI L) fl) → va_S A s.heap H locs → lv_has ls 4 [(0, .ref t0), (1, .int (nI s9)), (2, .int (nI q))] → W p l e (headSpec wsX3_findFault ({ frames := 1, cells := 0, slots := 0, locals := 21 }) |>.room) s m (([.ref t0].toArray)) below meth c H locs 0 0 (MQ below (va_Qi (fun (r : Int32) (u : Nat → Int32) => r = flt C L ∧ (flt C L = -1 → ∀ j, j < 6 → u j = nv C L j)) (fun (u : Nat → Int32) t => va_P (dC, dI) vwCl (wTxt cy t0 ta tb C u (nI L) fl) t.heap ∧ va_D (A) (wTxt cy t0 ta tb C u (nI L) fl)) (A)) ([.ref t0].toArray) s 0 0 A) (F0 m 4 ls []) := by
    intro k
    induction k with
    | zero =>
      intro q s9 N2 ls hq hst hN hs9 hk
      exfalso; omega
    | succ k ih4 =>
      intro q s9 N2 ls hq hst hN hs9 hk H locs hP hD hS hl
      refine lv_iload_n hx hb dX3_findFault_4 rfl (lv_at hl 2 rfl) ?_
      refine lv_bipush (v := 6) hx hb dX3_findFault_5 (by decide) ?_
      refine lv_icmp_ge (tgt := 89) hx hb dX3_findFault_7 (by decide) (fun c_7 => ?_) (fun c_7 => ?_)
      · have e_q : q = 6 := by have := (nI_leI (a := 6) (b := q) (by omega) (by omega)).mp c_7; omega
        obtain ⟨h5a, h5b⟩ : (pst C L 5).1 = true ∧ (pst C L 5).2 = s9 := by rcases hst with h | ⟨q1, h1, h2⟩; omega; rw [show q1 = 5 by omega] at h2; exact h2
        refine lv_iload_n hx hb dX3_findFault_89 rfl (lv_at hl 1 rfl) ?_
        refine lv_aload_n hx hb dX3_findFault_90 rfl (lv_at hl 0 rfl) ?_
        refine va_get (D := (dC, dI)) (ci := 3) (v := .int (nI L)) (C := RX3) (T := TX3) (N := 4) hx hb hts hin3 hown hK hP 0 rfl rfl 2 (by decide) f_22 (fun _ h9 => h9) rfl dX3_findFault_91 ?_
        refine lv_icmp_ge (tgt := 101) hx hb dX3_findFault_94 (by decide) (fun c_94 => ?_) (fun c_94 => ?_)
        · refine lv_iconst (v := (-1)) hx hb dX3_findFault_101 (by decide) ?_
          have hP9 : va_P (dC, dI) vwCl (wTxt cy t0 ta tb C N2 (nI L) fl) H := hP
          have hD9 : va_D A (wTxt cy t0 ta tb C N2 (nI L) fl) := hD
          exact W.iret (v := (-1)) hx hb hr (fun t ht hW => ⟨⟨(-1), N2, rfl, ⟨by rw [flt, if_pos ⟨h5a, by rw [h5b]; have := (nI_leI (by omega) (by omega)).mp c_94; omega⟩], fun _ j hj => hN j (by omega)⟩, by rw [ht]; exact hP9, hD9⟩, hS.F ht⟩) hS.2.2 dX3_findFault_102
        · refine lv_iload_n hx hb dX3_findFault_97 rfl (lv_at hl 1 rfl) ?_
          refine lv_goto (tgt := 102) hx hb dX3_findFault_98 (by decide) ?_
          have hP9 : va_P (dC, dI) vwCl (wTxt cy t0 ta tb C N2 (nI L) fl) H := hP
          have hD9 : va_D A (wTxt cy t0 ta tb C N2 (nI L) fl) := hD
          exact W.iret (v := nI s9) hx hb hr (fun t ht hW => ⟨⟨nI s9, N2, rfl, ⟨by rw [flt, if_neg (fun h => c_94 (nI_le (by rw [← h.2, h5b]; exact Nat.le_refl _) (by omega))), h5b], fun h => absurd ((show flt C L = nI s9 from by rw [flt, if_neg (fun h => c_94 (nI_le (by rw [← h.2, h5b]; exact Nat.le_refl _) (by omega))), h5b]).symm.trans h) (nI_m (by omega))⟩, by rw [ht]; exact hP9, hD9⟩, hS.F ht⟩) hS.2.2 dX3_findFault_102
      · have hq6 : q < 6 := by rcases Nat.lt_or_ge q 6 with h | h; exact h; exact absurd (nI_le (a := 6) (b := q) (by omega) (by omega)) c_7
        refine lv_iload_n hx hb dX3_findFault_10 rfl (lv_at hl 2 rfl) ?_
        refine lv_if_le (tgt := 27) hx hb dX3_findFault_11 (by decide) (fun c_11 => ?_) (fun c_11 => ?_)
        · have e_q : q = 0 := by have := (nI_leI (a := q) (b := 0) (by omega) (by omega)).mp c_11; omega
          have e_s : s9 = 0 := by rcases hst with h | ⟨q1, h1, h2⟩; exact h.2; omega
          have eb : pst C L q = (decide (0 < rlen C L 0), 0 + rlen C L 0) := by rw [e_q]; exact pst0 C L
          have hpb : psp C L q = 0 := by rw [e_q]; rfl
          rw [e_s] at hl
          refine lv_aload_n hx hb dX3_findFault_27 rfl (lv_at hl 0 rfl) ?_
          refine lv_iload_n hx hb dX3_findFault_28 rfl (lv_at hl 1 rfl) ?_
          refine vp_callSi (va_runV (As := [.int (nI 0)]) (rest := []) ⟨hx, hb, hml, hown, hts⟩ (c_X3_hasDigit l dC dI cy t0 ta tb C N2 fl L (by omega) 0 (by omega)) (cwV 1 hts gX3_findFault_X3_hasDigit rfl rfl rfl (by decide +kernel) ⟨Nat.le_of_ble_eq_true rfl, Nat.le_of_ble_eq_true rfl⟩) ⟨bl_ro, va_recv hK hP (ci := 3) (q0 := 0) rfl rfl, pr_ro hP hE⟩ rfl rfl hl.1 rfl (lv_room (Nat.le_of_ble_eq_true rfl)) dX3_findFault_29 ⟨Nat.le_of_ble_eq_true rfl, Nat.le_of_ble_eq_true rfl⟩).run (fun r e_r => ?_)
          subst e_r
          refine lv_if_ne (tgt := 37) hx hb dX3_findFault_32 (by decide) (fun c_32 => ?_) (fun c_32 => ?_)
          · have d0 : isd C L 0 := nb10 c_32
            have hlb := isd_lt d0
            refine lv_aload_n hx hb dX3_findFault_37 rfl (lv_at hl 0 rfl) ?_
            refine va_get (D := (dC, dI)) (ci := 3) (v := .ref ta) (C := RX3) (T := TX3) (N := 4) hx hb hts hin3 hown hK hP 0 rfl rfl 0 (by decide) f_9 (fun _ h9 => h9) rfl dX3_findFault_38 ?_
            refine lv_iload_n hx hb dX3_findFault_41 rfl (lv_at hl 1 rfl) ?_
            refine wI_alv (v := C 0) hx hb hK hP 1 0 rfl rfl 0 rfl (by omega) (by decide) rfl dX3_findFault_42 ?_
            refine lv_bipush (v := 48) hx hb dX3_findFault_43 (by decide) ?_
            refine lv_isub hx hb dX3_findFault_45 ?_
            refine lv_istore_n (lv' := [(3, .int ((C 0) - 48)), (0, .ref t0), (1, .int (nI 0)), (2, .int (nI q))]) hx hb dX3_findFault_46 rfl hl (by decide) rfl (fun ls hl => ?_)
            refine lv_iinc (v := nI (0 + 1)) (lv' := [(1, .int (nI (0 + 1))), (3, .int ((C 0) - 48)), (0, .ref t0), (2, .int (nI q))]) hx hb dX3_findFault_47 hl (k := 2) rfl (nI_1 _) (by decide) rfl (fun ls hl => ?_)
            refine lv_aload_n hx hb dX3_findFault_50 rfl (lv_at hl 2 rfl) ?_
            refine lv_iload_n hx hb dX3_findFault_51 rfl (lv_at hl 0 rfl) ?_
            refine vp_callSi (va_runV (As := [.int (nI (0 + 1))]) (rest := []) ⟨hx, hb, hml, hown, hts⟩ (c_X3_hasDigit l dC dI cy t0 ta tb C N2 fl L (by omega) (0 + 1) (by omega)) (cwV 1 hts gX3_findFault_X3_hasDigit rfl rfl rfl (by decide +kernel) ⟨Nat.le_of_ble_eq_true rfl, Nat.le_of_ble_eq_true rfl⟩) ⟨bl_ro, va_recv hK hP (ci := 3) (q0 := 0) rfl rfl, pr_ro hP hE⟩ rfl rfl hl.1 rfl (lv_room (Nat.le_of_ble_eq_true rfl)) dX3_findFault_52 ⟨Nat.le_of_ble_eq_true rfl, Nat.le_of_ble_eq_true rfl⟩).run (fun r e_r => ?_)
            subst e_r
            refine lv_if_eq (tgt := 76) hx hb dX3_findFault_55 (by decide) (fun c_55 => ?_) (fun c_55 => ?_)
            · have d1 := b10.mp c_55
              have el : rlen C L 0 = 1 := (if_pos d0).trans (if_neg d1)
              have ev : rval C L 0 = C 0 - 48 := by rw [rval, if_pos d0, if_neg d1, hrr_in hlb]
              refine lv_aload_n hx hb dX3_findFault_76 rfl (lv_at hl 2 rfl) ?_
              refine va_get (D := (dC, dI)) (ci := 3) (v := .ref tb) (C := RX3) (T := TX3) (N := 4) hx hb hts hin3 hown hK hP 0 rfl rfl 1 (by decide) f_15 (fun _ h9 => h9) rfl dX3_findFault_77 ?_
              refine lv_iload_n hx hb dX3_findFault_80 rfl (lv_at hl 3 rfl) ?_
              refine lv_iload_n hx hb dX3_findFault_81 rfl (lv_at hl 1 rfl) ?_
              refine wI_ast hx hb hK hP hD hS 2 0 rfl rfl q rfl (by omega) (by decide) dX3_findFault_82 (fun H locs hP hD hS => ?_)
              have hP : va_P (dC, dI) vwCl (wTxt cy t0 ta tb C (upd N2 q ((C 0) - 48)) (nI L) fl) H := hP
              have hD : va_D A (wTxt cy t0 ta tb C (upd N2 q ((C 0) - 48)) (nI L) fl) := hD
              refine lv_iinc (v := nI (q + 1)) (lv' := [(2, .int (nI (q + 1))), (1, .int (nI (0 + 1))), (3, .int ((C 0) - 48)), (0, .ref t0)]) hx hb dX3_findFault_83 hl (k := 3) rfl (nI_1 _) (by decide) rfl (fun ls hl => ?_)
              refine lv_goto (tgt := 4) hx hb dX3_findFault_86 (by decide) ?_
              exact ih4 (q + 1) _ _ ls (by omega) (Or.inr ⟨q, rfl, by rw [eb, el]; rfl, by rw [eb, el]⟩) (fun j hj => by rcases Nat.lt_or_ge j q with z | z; rw [pk_un (by omega)]; exact hN j z; rw [show j = q by omega, pk_us, nv, hpb, ev]) (by have := rlen_end C L 0 (by omega); omega) (by omega) _ _ hP hD hS (lv_sub hl [3, 1, 0] rfl)
            · have d1 : isd C L (0 + 1) := nb10 c_55
              have hlb1 := isd_lt d1
              have el : rlen C L 0 = 2 := (if_pos d0).trans (if_pos d1)
              have ev : rval C L 0 = (C 0 - 48) * 10 + C (0 + 1) - 48 := by rw [rval, if_pos d0, if_pos d1, hrr_in hlb, hrr_in hlb1]
              refine lv_iload_n hx hb dX3_findFault_58 rfl (lv_at hl 1 rfl) ?_
              refine lv_bipush (v := 10) hx hb dX3_findFault_59 (by decide) ?_
              refine lv_imul hx hb dX3_findFault_61 ?_
              refine lv_aload_n hx hb dX3_findFault_62 rfl (lv_at hl 2 rfl) ?_
              refine va_get (D := (dC, dI)) (ci := 3) (v := .ref ta) (C := RX3) (T := TX3) (N := 4) hx hb hts hin3 hown hK hP 0 rfl rfl 0 (by decide) f_9 (fun _ h9 => h9) rfl dX3_findFault_63 ?_
              refine lv_iload_n hx hb dX3_findFault_66 rfl (lv_at hl 0 rfl) ?_
              refine wI_alv (v := C (0 + 1)) hx hb hK hP 1 0 rfl rfl (0 + 1) rfl (by omega) (by decide) rfl dX3_findFault_67 ?_
              refine lv_iadd hx hb dX3_findFault_68 ?_
              refine lv_bipush (v := 48) hx hb dX3_findFault_69 (by decide) ?_
              refine lv_isub hx hb dX3_findFault_71 ?_
              refine lv_istore_n (lv' := [(3, .int (((((C 0) - 48) * 10) + (C (0 + 1))) - 48)), (1, .int (nI (0 + 1))), (0, .ref t0), (2, .int (nI q))]) hx hb dX3_findFault_72 rfl hl (by decide) rfl (fun ls hl => ?_)
              refine lv_iinc (v := nI ((0 + 1) + 1)) (lv' := [(1, .int (nI ((0 + 1) + 1))), (3, .int (((((C 0) - 48) * 10) + (C (0 + 1))) - 48)), (0, .ref t0), (2, .int (nI q))]) hx hb dX3_findFault_73 hl (k := 1) rfl (nI_1 _) (by decide) rfl (fun ls hl => ?_)
              refine lv_aload_n hx hb dX3_findFault_76 rfl (lv_at hl 2 rfl) ?_
              refine va_get (D := (dC, dI)) (ci := 3) (v := .ref tb) (C := RX3) (T := TX3) (N := 4) hx hb hts hin3 hown hK hP 0 rfl rfl 1 (by decide) f_15 (fun _ h9 => h9) rfl dX3_findFault_77 ?_
              refine lv_iload_n hx hb dX3_findFault_80 rfl (lv_at hl 3 rfl) ?_
              refine lv_iload_n hx hb dX3_findFault_81 rfl (lv_at hl 1 rfl) ?_
              refine wI_ast hx hb hK hP hD hS 2 0 rfl rfl q rfl (by omega) (by decide) dX3_findFault_82 (fun H locs hP hD hS => ?_)
              have hP : va_P (dC, dI) vwCl (wTxt cy t0 ta tb C (upd N2 q (((((C 0) - 48) * 10) + (C (0 + 1))) - 48)) (nI L) fl) H := hP
              have hD : va_D A (wTxt cy t0 ta tb C (upd N2 q (((((C 0) - 48) * 10) + (C (0 + 1))) - 48)) (nI L) fl) := hD
              refine lv_iinc (v := nI (q + 1)) (lv' := [(2, .int (nI (q + 1))), (1, .int (nI ((0 + 1) + 1))), (3, .int (((((C 0) - 48) * 10) + (C (0 + 1))) - 48)), (0, .ref t0)]) hx hb dX3_findFault_83 hl (k := 3) rfl (nI_1 _) (by decide) rfl (fun ls hl => ?_)
              refine lv_goto (tgt := 4) hx hb dX3_findFault_86 (by decide) ?_
              exact ih4 (q + 1) _ _ ls (by omega) (Or.inr ⟨q, rfl, by rw [eb, el]; rfl, by rw [eb, el]⟩) (fun j hj => by rcases Nat.lt_or_ge j q with z | z; rw [pk_un (by omega)]; exact hN j z; rw [show j = q by omega, pk_us, nv, hpb, ev]) (by have := rlen_end C L 0 (by omega); omega) (by omega) _ _ hP hD hS (lv_sub hl [3, 1, 0] rfl)
          · have hfl : flt C L = nI 0 := flt_no (q := q) (by omega) (by rw [eb, show rlen C L 0 = 0 from if_neg (b10.mp c_32)]; rfl)
            refine lv_iload_n hx hb dX3_findFault_35 rfl (lv_at hl 1 rfl) ?_
            have hP9 : va_P (dC, dI) vwCl (wTxt cy t0 ta tb C N2 (nI L) fl) H := hP
            have hD9 : va_D A (wTxt cy t0 ta tb C N2 (nI L) fl) := hD
            exact W.iret (v := nI 0) hx hb hr (fun t ht hW => ⟨⟨nI 0, N2, rfl, ⟨by rw [hfl], fun h => absurd (hfl.symm.trans h) (nI_m (by omega))⟩, by rw [ht]; exact hP9, hD9⟩, hS.F ht⟩) hS.2.2 dX3_findFault_36
        · obtain ⟨q1, rfl, hb1, hb2⟩ : ∃ q1, q = q1 + 1 ∧ (pst C L q1).1 = true ∧ (pst C L q1).2 = s9 := by rcases hst with h | h; exact absurd (by rw [h.1]; decide) c_11; exact h
          obtain ⟨q, hqq⟩ : ∃ z, z = q1 + 1 := ⟨_, rfl⟩
          rw [← hqq] at hN hq hq6 hk hl
          refine lv_aload_n hx hb dX3_findFault_14 rfl (lv_at hl 0 rfl) ?_
          refine lv_iload_n hx hb dX3_findFault_15 rfl (lv_at hl 1 rfl) ?_
          refine vp_callSi (va_runV (As := [.int (nI s9)]) (rest := []) ⟨hx, hb, hml, hown, hts⟩ (c_X3_hasComma l dC dI cy t0 ta tb C N2 fl L (by omega) s9 (by omega)) (cwV 1 hts gX3_findFault_X3_hasComma rfl rfl rfl (by decide +kernel) ⟨Nat.le_of_ble_eq_true rfl, Nat.le_of_ble_eq_true rfl⟩) ⟨bl_ro, va_recv hK hP (ci := 3) (q0 := 0) rfl rfl, pr_ro hP hE⟩ rfl rfl hl.1 rfl (lv_room (Nat.le_of_ble_eq_true rfl)) dX3_findFault_16 ⟨Nat.le_of_ble_eq_true rfl, Nat.le_of_ble_eq_true rfl⟩).run (fun r e_r => ?_)
          subst e_r
          refine lv_if_ne (tgt := 24) hx hb dX3_findFault_19 (by decide) (fun c_19 => ?_) (fun c_19 => ?_)
          · have h44 : hrr C L s9 = 44 := nb10 c_19
            have eb : pst C L q = (decide (0 < rlen C L (s9 + 1)), s9 + 1 + rlen C L (s9 + 1)) := by rw [hqq]; exact pstS hb1 hb2 h44
            have hpb : psp C L q = s9 + 1 := by rw [hqq, psp, hb2]
            have hs8 : s9 < L := by rcases Nat.lt_or_ge s9 L with z | z; exact z; rw [hrr_out z] at h44; exact absurd h44 (by decide)
            refine lv_iinc (v := nI (s9 + 1)) (lv' := [(1, .int (nI (s9 + 1))), (0, .ref t0), (2, .int (nI q))]) hx hb dX3_findFault_24 hl (k := 1) rfl (nI_1 _) (by decide) rfl (fun ls hl => ?_)
            refine lv_aload_n hx hb dX3_findFault_27 rfl (lv_at hl 1 rfl) ?_
            refine lv_iload_n hx hb dX3_findFault_28 rfl (lv_at hl 0 rfl) ?_
            refine vp_callSi (va_runV (As := [.int (nI (s9 + 1))]) (rest := []) ⟨hx, hb, hml, hown, hts⟩ (c_X3_hasDigit l dC dI cy t0 ta tb C N2 fl L (by omega) (s9 + 1) (by omega)) (cwV 1 hts gX3_findFault_X3_hasDigit rfl rfl rfl (by decide +kernel) ⟨Nat.le_of_ble_eq_true rfl, Nat.le_of_ble_eq_true rfl⟩) ⟨bl_ro, va_recv hK hP (ci := 3) (q0 := 0) rfl rfl, pr_ro hP hE⟩ rfl rfl hl.1 rfl (lv_room (Nat.le_of_ble_eq_true rfl)) dX3_findFault_29 ⟨Nat.le_of_ble_eq_true rfl, Nat.le_of_ble_eq_true rfl⟩).run (fun r e_r => ?_)
            subst e_r
            refine lv_if_ne (tgt := 37) hx hb dX3_findFault_32 (by decide) (fun c_32 => ?_) (fun c_32 => ?_)
            · have d0 : isd C L (s9 + 1) := nb10 c_32
              have hlb := isd_lt d0
              refine lv_aload_n hx hb dX3_findFault_37 rfl (lv_at hl 1 rfl) ?_
              refine va_get (D := (dC, dI)) (ci := 3) (v := .ref ta) (C := RX3) (T := TX3) (N := 4) hx hb hts hin3 hown hK hP 0 rfl rfl 0 (by decide) f_9 (fun _ h9 => h9) rfl dX3_findFault_38 ?_
              refine lv_iload_n hx hb dX3_findFault_41 rfl (lv_at hl 0 rfl) ?_
              refine wI_alv (v := C (s9 + 1)) hx hb hK hP 1 0 rfl rfl (s9 + 1) rfl (by omega) (by decide) rfl dX3_findFault_42 ?_
              refine lv_bipush (v := 48) hx hb dX3_findFault_43 (by decide) ?_
              refine lv_isub hx hb dX3_findFault_45 ?_
              refine lv_istore_n (lv' := [(3, .int ((C (s9 + 1)) - 48)), (1, .int (nI (s9 + 1))), (0, .ref t0), (2, .int (nI q))]) hx hb dX3_findFault_46 rfl hl (by decide) rfl (fun ls hl => ?_)
              refine lv_iinc (v := nI ((s9 + 1) + 1)) (lv' := [(1, .int (nI ((s9 + 1) + 1))), (3, .int ((C (s9 + 1)) - 48)), (0, .ref t0), (2, .int (nI q))]) hx hb dX3_findFault_47 hl (k := 1) rfl (nI_1 _) (by decide) rfl (fun ls hl => ?_)
              refine lv_aload_n hx hb dX3_findFault_50 rfl (lv_at hl 2 rfl) ?_
              refine lv_iload_n hx hb dX3_findFault_51 rfl (lv_at hl 0 rfl) ?_
              refine vp_callSi (va_runV (As := [.int (nI ((s9 + 1) + 1))]) (rest := []) ⟨hx, hb, hml, hown, hts⟩ (c_X3_hasDigit l dC dI cy t0 ta tb C N2 fl L (by omega) ((s9 + 1) + 1) (by omega)) (cwV 1 hts gX3_findFault_X3_hasDigit rfl rfl rfl (by decide +kernel) ⟨Nat.le_of_ble_eq_true rfl, Nat.le_of_ble_eq_true rfl⟩) ⟨bl_ro, va_recv hK hP (ci := 3) (q0 := 0) rfl rfl, pr_ro hP hE⟩ rfl rfl hl.1 rfl (lv_room (Nat.le_of_ble_eq_true rfl)) dX3_findFault_52 ⟨Nat.le_of_ble_eq_true rfl, Nat.le_of_ble_eq_true rfl⟩).run (fun r e_r => ?_)
              subst e_r
              refine lv_if_eq (tgt := 76) hx hb dX3_findFault_55 (by decide) (fun c_55 => ?_) (fun c_55 => ?_)
              · have d1 := b10.mp c_55
                have el : rlen C L (s9 + 1) = 1 := (if_pos d0).trans (if_neg d1)
                have ev : rval C L (s9 + 1) = C (s9 + 1) - 48 := by rw [rval, if_pos d0, if_neg d1, hrr_in hlb]
                refine lv_aload_n hx hb dX3_findFault_76 rfl (lv_at hl 2 rfl) ?_
                refine va_get (D := (dC, dI)) (ci := 3) (v := .ref tb) (C := RX3) (T := TX3) (N := 4) hx hb hts hin3 hown hK hP 0 rfl rfl 1 (by decide) f_15 (fun _ h9 => h9) rfl dX3_findFault_77 ?_
                refine lv_iload_n hx hb dX3_findFault_80 rfl (lv_at hl 3 rfl) ?_
                refine lv_iload_n hx hb dX3_findFault_81 rfl (lv_at hl 1 rfl) ?_
                refine wI_ast hx hb hK hP hD hS 2 0 rfl rfl q rfl (by omega) (by decide) dX3_findFault_82 (fun H locs hP hD hS => ?_)
                have hP : va_P (dC, dI) vwCl (wTxt cy t0 ta tb C (upd N2 q ((C (s9 + 1)) - 48)) (nI L) fl) H := hP
                have hD : va_D A (wTxt cy t0 ta tb C (upd N2 q ((C (s9 + 1)) - 48)) (nI L) fl) := hD
                refine lv_iinc (v := nI (q + 1)) (lv' := [(2, .int (nI (q + 1))), (1, .int (nI ((s9 + 1) + 1))), (3, .int ((C (s9 + 1)) - 48)), (0, .ref t0)]) hx hb dX3_findFault_83 hl (k := 3) rfl (nI_1 _) (by decide) rfl (fun ls hl => ?_)
                refine lv_goto (tgt := 4) hx hb dX3_findFault_86 (by decide) ?_
                exact ih4 (q + 1) _ _ ls (by omega) (Or.inr ⟨q, rfl, by rw [eb, el]; rfl, by rw [eb, el]⟩) (fun j hj => by rcases Nat.lt_or_ge j q with z | z; rw [pk_un (by omega)]; exact hN j z; rw [show j = q by omega, pk_us, nv, hpb, ev]) (by have := rlen_end C L (s9 + 1) (by omega); omega) (by omega) _ _ hP hD hS (lv_sub hl [3, 1, 0] rfl)
              · have d1 : isd C L ((s9 + 1) + 1) := nb10 c_55
                have hlb1 := isd_lt d1
                have el : rlen C L (s9 + 1) = 2 := (if_pos d0).trans (if_pos d1)
                have ev : rval C L (s9 + 1) = (C (s9 + 1) - 48) * 10 + C ((s9 + 1) + 1) - 48 := by rw [rval, if_pos d0, if_pos d1, hrr_in hlb, hrr_in hlb1]
                refine lv_iload_n hx hb dX3_findFault_58 rfl (lv_at hl 1 rfl) ?_
                refine lv_bipush (v := 10) hx hb dX3_findFault_59 (by decide) ?_
                refine lv_imul hx hb dX3_findFault_61 ?_
                refine lv_aload_n hx hb dX3_findFault_62 rfl (lv_at hl 2 rfl) ?_
                refine va_get (D := (dC, dI)) (ci := 3) (v := .ref ta) (C := RX3) (T := TX3) (N := 4) hx hb hts hin3 hown hK hP 0 rfl rfl 0 (by decide) f_9 (fun _ h9 => h9) rfl dX3_findFault_63 ?_
                refine lv_iload_n hx hb dX3_findFault_66 rfl (lv_at hl 0 rfl) ?_
                refine wI_alv (v := C ((s9 + 1) + 1)) hx hb hK hP 1 0 rfl rfl ((s9 + 1) + 1) rfl (by omega) (by decide) rfl dX3_findFault_67 ?_
                refine lv_iadd hx hb dX3_findFault_68 ?_
                refine lv_bipush (v := 48) hx hb dX3_findFault_69 (by decide) ?_
                refine lv_isub hx hb dX3_findFault_71 ?_
                refine lv_istore_n (lv' := [(3, .int (((((C (s9 + 1)) - 48) * 10) + (C ((s9 + 1) + 1))) - 48)), (1, .int (nI ((s9 + 1) + 1))), (0, .ref t0), (2, .int (nI q))]) hx hb dX3_findFault_72 rfl hl (by decide) rfl (fun ls hl => ?_)
                refine lv_iinc (v := nI (((s9 + 1) + 1) + 1)) (lv' := [(1, .int (nI (((s9 + 1) + 1) + 1))), (3, .int (((((C (s9 + 1)) - 48) * 10) + (C ((s9 + 1) + 1))) - 48)), (0, .ref t0), (2, .int (nI q))]) hx hb dX3_findFault_73 hl (k := 1) rfl (nI_1 _) (by decide) rfl (fun ls hl => ?_)
                refine lv_aload_n hx hb dX3_findFault_76 rfl (lv_at hl 2 rfl) ?_
                refine va_get (D := (dC, dI)) (ci := 3) (v := .ref tb) (C := RX3) (T := TX3) (N := 4) hx hb hts hin3 hown hK hP 0 rfl rfl 1 (by decide) f_15 (fun _ h9 => h9) rfl dX3_findFault_77 ?_
                refine lv_iload_n hx hb dX3_findFault_80 rfl (lv_at hl 3 rfl) ?_
                refine lv_iload_n hx hb dX3_findFault_81 rfl (lv_at hl 1 rfl) ?_
                refine wI_ast hx hb hK hP hD hS 2 0 rfl rfl q rfl (by omega) (by decide) dX3_findFault_82 (fun H locs hP hD hS => ?_)
                have hP : va_P (dC, dI) vwCl (wTxt cy t0 ta tb C (upd N2 q (((((C (s9 + 1)) - 48) * 10) + (C ((s9 + 1) + 1))) - 48)) (nI L) fl) H := hP
                have hD : va_D A (wTxt cy t0 ta tb C (upd N2 q (((((C (s9 + 1)) - 48) * 10) + (C ((s9 + 1) + 1))) - 48)) (nI L) fl) := hD
                refine lv_iinc (v := nI (q + 1)) (lv' := [(2, .int (nI (q + 1))), (1, .int (nI (((s9 + 1) + 1) + 1))), (3, .int (((((C (s9 + 1)) - 48) * 10) + (C ((s9 + 1) + 1))) - 48)), (0, .ref t0)]) hx hb dX3_findFault_83 hl (k := 3) rfl (nI_1 _) (by decide) rfl (fun ls hl => ?_)
                refine lv_goto (tgt := 4) hx hb dX3_findFault_86 (by decide) ?_
                exact ih4 (q + 1) _ _ ls (by omega) (Or.inr ⟨q, rfl, by rw [eb, el]; rfl, by rw [eb, el]⟩) (fun j hj => by rcases Nat.lt_or_ge j q with z | z; rw [pk_un (by omega)]; exact hN j z; rw [show j = q by omega, pk_us, nv, hpb, ev]) (by have := rlen_end C L (s9 + 1) (by omega); omega) (by omega) _ _ hP hD hS (lv_sub hl [3, 1, 0] rfl)
            · have hfl : flt C L = nI (s9 + 1) := flt_no (q := q) (by omega) (by rw [eb, show rlen C L (s9 + 1) = 0 from if_neg (b10.mp c_32)]; rfl)
              refine lv_iload_n hx hb dX3_findFault_35 rfl (lv_at hl 0 rfl) ?_
              have hP9 : va_P (dC, dI) vwCl (wTxt cy t0 ta tb C N2 (nI L) fl) H := hP
              have hD9 : va_D A (wTxt cy t0 ta tb C N2 (nI L) fl) := hD
              exact W.iret (v := nI (s9 + 1)) hx hb hr (fun t ht hW => ⟨⟨nI (s9 + 1), N2, rfl, ⟨by rw [hfl], fun h => absurd (hfl.symm.trans h) (nI_m (by omega))⟩, by rw [ht]; exact hP9, hD9⟩, hS.F ht⟩) hS.2.2 dX3_findFault_36
          · have hfl : flt C L = nI s9 := flt_no (q := q) (by omega) (by rw [hqq]; exact pstC hb1 hb2 (b10.mp c_19))
            refine lv_iload_n hx hb dX3_findFault_22 rfl (lv_at hl 1 rfl) ?_
            have hP9 : va_P (dC, dI) vwCl (wTxt cy t0 ta tb C N2 (nI L) fl) H := hP
            have hD9 : va_D A (wTxt cy t0 ta tb C N2 (nI L) fl) := hD
            exact W.iret (v := nI s9) hx hb hr (fun t ht hW => ⟨⟨nI s9, N2, rfl, ⟨by rw [hfl], fun h => absurd (hfl.symm.trans h) (nI_m (by omega))⟩, by rw [ht]; exact hP9, hD9⟩, hS.F ht⟩) hS.2.2 dX3_findFault_23
  exact loop4 7 0 0 N ls (by omega) (Or.inl ⟨rfl, rfl⟩) (fun j hj => absurd hj (Nat.not_lt_zero j)) (Nat.zero_le _) (by omega) _ _ hP hD hS (lv_sub hl [2, 1, 0] rfl)
set_option maxHeartbeats 1000000 in
set_option maxRecDepth 100000 in
/-- the text is read and emptied -/
theorem c_X3_readAndEmpty (l : Launch) (dC : Nat → ClassId) (dI : Nat → Nat → Nat) (cy : Nat → ClassId) (sz : Nat) (t0 ta tb : Nat) (C N : Nat → Int32) (fl : Int32) (L : Nat) (hL : L ≤ 30) : Met l yX3_readAndEmpty wsX3_readAndEmpty ({ frames := 2, cells := 0, slots := 0, locals := 44 }) (va_Pc [.ref t0] (pIn dC dI cy (wTxt cy t0 ta tb C N (nI L) fl) sz)) (va_Qv (fun (u : Nat → Int32) => flt C L = -1 → ∀ j, j < 6 → u j = nv C L j) (fun (u : Nat → Int32) t => va_P (dC, dI) vwCl (wTxt cy t0 ta tb C u 0 (flt C L)) t.heap ∧ va_D (va_A (wTxt cy t0 ta tb C N (nI L) fl) sz) (wTxt cy t0 ta tb C u 0 (flt C L))) (va_A (wTxt cy t0 ta tb C N (nI L) fl) sz)) 0 0 (va_A (wTxt cy t0 ta tb C N (nI L) fl) sz) := by
  refine Met.ofW (cc := cX3_readAndEmpty) (maxL := 1) (ret := none) (by decide) rfl ?_
  intro p e s m args below meth c s₁ B hml hv
  obtain ⟨rfl, hsz, hP, hE, hD0⟩ := hv
  have hK := hE.1
  subst hsz
  have hD := hD0.self (sz := s.heap.size)
  generalize hAe : va_A (wTxt cy t0 ta tb C N (nI L) fl) s.heap.size = A at hD ⊢
  have hA : ∀ q : Nat, s.heap.size ≤ q → A q := fun q h => by rw [← hAe]; exact Or.inr h
  have hS : va_S A s.heap s.heap [] := va_S.rf
  have hP : va_P (dC, dI) vwCl (wTxt cy t0 ta tb C N (nI L) fl) s.heap := hP
  have hx := B.exec
  have hb := B.bytes
  have hr := B.returns
  have hts := atoms_spec (ws := wsX3_readAndEmpty) B.pre
  have hown : s.vm.findClass RX3 = some m.cls := findClass_of_methodNamed B.named
  have hlocks := B.notSynchronized
  have hin3 : ∀ w ∈ u_ws RX3 TX3 4, w ∈ wsX3_readAndEmpty := by decide +kernel
  have f_18 := hts (.fieldLink RX3 18 "DeadlineAdmission$TaskText" "fault" "I") (by decide +kernel)
  have f_22 := hts (.fieldLink RX3 22 "DeadlineAdmission$TaskText" "length" "I") (by decide +kernel)
  have hl := lv_entry ([.ref t0]) (n := 1) (Nat.le_of_ble_eq_true rfl)
  rw [lg_entry_eq]
  generalize (lg_sl ([.ref t0]) ++ List.replicate (1 - (lg_sl ([.ref t0])).length) Slot.unset).toArray = ls at hl ⊢
  have hl : lv_has ls 1 [(0, .ref t0)] := hl
  refine lv_aload_n hx hb dX3_readAndEmpty_0 rfl (lv_at hl 0 rfl) ?_
  refine lv_aload_n hx hb dX3_readAndEmpty_1 rfl (lv_at hl 0 rfl) ?_
  have hPc := hP.sub (ws' := wTxt cy t0 ta tb C N (nI L) fl) [0, 1, 2] rfl
  have hDc := hD.sub (ws' := wTxt cy t0 ta tb C N (nI L) fl) [0, 1, 2] (by decide) rfl
  have hFc := va_free (wc := wTxt cy t0 ta tb C N (nI L) fl) hD hS hA [0, 1, 2] rfl
  refine va_calli (va_runV (As := []) (rest := [.ref t0]) ⟨hx, hb, hml, hown, hts⟩ (c_X3_findFault l dC dI cy s.heap.size t0 ta tb C N fl L (by omega)) (cwV 0 hts gX3_readAndEmpty_X3_findFault rfl rfl rfl (by decide +kernel) ⟨Nat.le_of_ble_eq_true rfl, Nat.le_of_ble_eq_true rfl⟩) ⟨bl_in, va_recv hK hPc (ci := 3) (q0 := 0) rfl rfl, pr_in hPc hE hDc⟩ rfl rfl hl.1 rfl (lv_room (Nat.le_of_ble_eq_true rfl)) dX3_readAndEmpty_2 ⟨Nat.le_of_ble_eq_true rfl, Nat.le_of_ble_eq_true rfl⟩) hS (fun q _ h => hFc q h) hFc (fun r u t H1 locs ht hvm hw hB hz1 hk1 hS => ?_)
  obtain ⟨N9, rfl⟩ : ∃ z, z = u := ⟨_, rfl⟩
  obtain ⟨rfl, hN9⟩ := hw
  obtain ⟨hP1, hD1⟩ := hB
  rw [ht] at hP1
  obtain ⟨hP, hD⟩ := va_join (wr := []) (w1 := wTxt cy t0 ta tb C N9 (nI L) fl) hP hD [0, 1, 2] [] rfl rfl (by decide) (by decide) hk1 hFc hP1 hD1
  have hP : va_P (dC, dI) vwCl (wTxt cy t0 ta tb C N9 (nI L) fl) H1 := hP.sub [0, 1, 2] rfl
  have hD : va_D A (wTxt cy t0 ta tb C N9 (nI L) fl) := hD.sub [0, 1, 2] (by decide) rfl
  clear hz1 hk1 hPc hDc hFc hP1 hD1
  generalize H1 = H at hP hS ⊢
  refine lv_topi (fun y_ ey_ => ?_)
  obtain rfl : y_ = flt C L := ey_
  refine va_put (D := (dC, dI)) (ci := 3) (v := .int (flt C L)) (ty := .int) (C := RX3) (T := TX3) (N := 4) hx hb hts hin3 tyX3 tyX3_ok nmX3 hown hK hP hD hS 0 rfl rfl 3 (by decide) f_18 (fun _ h9 => h9) rfl (by decide +kernel) rfl rfl (Nat.le_of_ble_eq_true rfl) dX3_readAndEmpty_5 (fun H locs hP hD hS => ?_)
  have hP : va_P (dC, dI) vwCl (wTxt cy t0 ta tb C N9 (nI L) (flt C L)) H := hP
  have hD : va_D A (wTxt cy t0 ta tb C N9 (nI L) (flt C L)) := hD
  refine lv_aload_n hx hb dX3_readAndEmpty_8 rfl (lv_at hl 0 rfl) ?_
  refine lv_iconst (v := 0) hx hb dX3_readAndEmpty_9 (by decide) ?_
  refine va_put (D := (dC, dI)) (ci := 3) (v := .int 0) (ty := .int) (C := RX3) (T := TX3) (N := 4) hx hb hts hin3 tyX3 tyX3_ok nmX3 hown hK hP hD hS 0 rfl rfl 2 (by decide) f_22 (fun _ h9 => h9) rfl (by decide +kernel) rfl rfl (Nat.le_of_ble_eq_true rfl) dX3_readAndEmpty_10 (fun H locs hP hD hS => ?_)
  have hP : va_P (dC, dI) vwCl (wTxt cy t0 ta tb C N9 0 (flt C L)) H := hP
  have hD : va_D A (wTxt cy t0 ta tb C N9 0 (flt C L)) := hD
  have hP9 : va_P (dC, dI) vwCl (wTxt cy t0 ta tb C N9 0 (flt C L)) H := hP
  have hD9 : va_D A (wTxt cy t0 ta tb C N9 0 (flt C L)) := hD
  exact W.vret hx hb hr (fun t ht hW => ⟨⟨N9, rfl, hN9, by rw [ht]; exact hP9, hD9⟩, hS.F ht⟩) hS.2.2 dX3_readAndEmpty_13

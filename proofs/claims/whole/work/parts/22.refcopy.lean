/-! PART 22: the reference: copies, history, choices -/
/-- the first m places of f, the others of g -/
def cpR (f g : Nat → Int32) (m : Nat) : Nat → Int32 := fun j => if j < m then f j else g j
theorem cpR_0 (f g : Nat → Int32) : cpR f g 0 = g := by funext j; simp [cpR]
theorem cpR_s (f g : Nat → Int32) (i : Nat) : upd (cpR f g i) i (f i) = cpR f g (i + 1) := by
  funext j
  simp only [upd, cpR]
  by_cases h : j = i
  · subst h; simp
  · by_cases h2 : j < i
    · simp [h, h2, Nat.lt_succ_of_lt h2]
    · simp [h, h2, show ¬ j < i + 1 by omega]
/-- the history without its oldest, as far as place m -/
def hsh (h : Nat → Int32) (m : Nat) : Nat → Int32 := fun j => if j < m then h (j + 58) else h j
theorem hsh_0 (h : Nat → Int32) : hsh h 0 = h := by funext j; simp [hsh]
theorem hsh_s (h : Nat → Int32) (i : Nat) : upd (hsh h i) i (hsh h i (i + 58)) = hsh h (i + 1) := by
  funext j
  simp only [upd, hsh]
  by_cases e : j = i
  · subst e; simp [show ¬ j + 58 < j by omega]
  · by_cases h2 : j < i
    · simp [e, h2, Nat.lt_succ_of_lt h2]
    · simp [e, h2, show ¬ j < i + 1 by omega]
/-- the first m places of f at the place c of the history -/
def hput (h : Nat → Int32) (c : Nat) (f : Nat → Int32) (m : Nat) : Nat → Int32 := fun j => if 58 * c ≤ j ∧ j < 58 * c + m then f (j - 58 * c) else h j
theorem hput_0 (h : Nat → Int32) (c : Nat) (f : Nat → Int32) : hput h c f 0 = h := by funext j; simp only [hput]; rw [if_neg (by omega)]
theorem hput_s (h : Nat → Int32) (c : Nat) (f : Nat → Int32) (i : Nat) : upd (hput h c f i) (58 * c + i) (f i) = hput h c f (i + 1) := by
  funext j
  simp only [upd, hput]
  by_cases e : j = 58 * c + i
  · subst e; rw [if_pos rfl, if_pos (by omega), show 58 * c + i - 58 * c = i by omega]
  · rw [if_neg e]
    by_cases h1 : 58 * c ≤ j ∧ j < 58 * c + i
    · rw [if_pos h1, if_pos (by omega)]
    · rw [if_neg h1, if_neg (by omega)]
/-- a change is recorded: what was, and how many can be taken back -/
def hrec (h f : Nat → Int32) (c : Nat) : Nat → Int32 := if c = 6 then hput (hsh h 290) 5 f 58 else hput h c f 58
def hcnt (c : Nat) : Nat := if c = 6 then 6 else c + 1
set_option maxHeartbeats 1000000 in
set_option maxRecDepth 100000 in
/-- the code of an exception -/
theorem c_X5_fails (l : Launch) (dC : Nat → ClassId) (dI : Nat → Nat → Nat) (cy : Nat → ClassId) (sz : Nat) (m0 : Nat) (a : Nat → Nat) (I : Nat → Int32) (R : vG) (p0 : Int32) : Met l yX5_fails wsX5_fails ({ frames := 0, cells := 0, slots := 0, locals := 0 }) (va_Pc [.ref m0, .int p0] (pIn dC dI cy (wMdl cy m0 a I R) sz)) (va_Qi (fun (r : Int32) _ => r = 0) (fun (u : Unit) t => va_P (dC, dI) vwCl (wMdl cy m0 a (upd I 0 p0) R) t.heap ∧ va_D (va_A (wMdl cy m0 a I R) sz) (wMdl cy m0 a (upd I 0 p0) R)) (va_A (wMdl cy m0 a I R) sz)) 0 0 (va_A (wMdl cy m0 a I R) sz) := by
  refine Met.ofW (cc := cX5_fails) (maxL := 2) (ret := some .int) (by decide) rfl ?_
  intro p e s m args below meth c s₁ B hml hv
  obtain ⟨rfl, hsz, hP, hE, hD0⟩ := hv
  have hK := hE.1
  subst hsz
  have hD := hD0.self (sz := s.heap.size)
  generalize hAe : va_A (wMdl cy m0 a I R) s.heap.size = A at hD ⊢
  have hA : ∀ q : Nat, s.heap.size ≤ q → A q := fun q h => by rw [← hAe]; exact Or.inr h
  have hS : va_S A s.heap s.heap [] := va_S.rf
  have hP : va_P (dC, dI) vwCl (wMdl cy m0 a I R) s.heap := hP
  have hx := B.exec
  have hb := B.bytes
  have hr := B.returns
  have hts := atoms_spec (ws := wsX5_fails) B.pre
  have hown : s.vm.findClass RX5 = some m.cls := findClass_of_methodNamed B.named
  have hlocks := B.notSynchronized
  have hin5 : ∀ w ∈ u_ws RX5 TX5 32, w ∈ wsX5_fails := by decide +kernel
  have f_50 := hts (.fieldLink RX5 50 "DeadlineAdmissionModel" "thrown" "I") (by decide +kernel)
  have hl := lv_entry ([.ref m0, .int p0]) (n := 2) (Nat.le_of_ble_eq_true rfl)
  rw [lg_entry_eq]
  generalize (lg_sl ([.ref m0, .int p0]) ++ List.replicate (2 - (lg_sl ([.ref m0, .int p0])).length) Slot.unset).toArray = ls at hl ⊢
  have hl : lv_has ls 2 [(0, .ref m0), (1, .int p0)] := hl
  refine lv_aload_n hx hb dX5_fails_0 rfl (lv_at hl 0 rfl) ?_
  refine lv_iload_n hx hb dX5_fails_1 rfl (lv_at hl 1 rfl) ?_
  refine va_put (D := (dC, dI)) (ci := 5) (v := .int p0) (ty := .int) (C := RX5) (T := TX5) (N := 32) hx hb hts hin5 tyX5 tyX5_ok nmX5 hown hK hP hD hS 0 rfl rfl 0 (by decide) f_50 (fun _ h9 => h9) rfl (by decide +kernel) rfl rfl (Nat.le_of_ble_eq_true rfl) dX5_fails_2 (fun H locs hP hD hS => ?_)
  have hP : va_P (dC, dI) vwCl (wMdl cy m0 a (upd I 0 p0) R) H := hP
  have hD : va_D A (wMdl cy m0 a (upd I 0 p0) R) := hD
  refine lv_iconst (v := 0) hx hb dX5_fails_5 (by decide) ?_
  have hP9 : va_P (dC, dI) vwCl (wMdl cy m0 a (upd I 0 p0) R) H := hP
  have hD9 : va_D A (wMdl cy m0 a (upd I 0 p0) R) := hD
  exact W.iret (v := 0) hx hb hr (fun t ht hW => ⟨⟨0, (), rfl, rfl, by rw [ht]; exact hP9, hD9⟩, hS.F ht⟩) hS.2.2 dX5_fails_6
set_option maxHeartbeats 1000000 in
set_option maxRecDepth 100000 in
/-- the frame is kept -/
theorem c_X5_keeps (l : Launch) (dC : Nat → ClassId) (dI : Nat → Nat → Nat) (cy : Nat → ClassId) (sz : Nat) (m0 : Nat) (a : Nat → Nat) (I : Nat → Int32) (R : vG) : Met l yX5_keeps wsX5_keeps ({ frames := 0, cells := 0, slots := 0, locals := 0 }) (va_Pc [.ref m0] (pIn dC dI cy (wMdl cy m0 a I R) sz)) (va_Qv (fun _ => True) (fun (u : Unit) t => va_P (dC, dI) vwCl (wMdl cy m0 a I (upr R 2 (cpR (R 1) (R 2) 58))) t.heap ∧ va_D (va_A (wMdl cy m0 a I R) sz) (wMdl cy m0 a I (upr R 2 (cpR (R 1) (R 2) 58)))) (va_A (wMdl cy m0 a I R) sz)) 0 0 (va_A (wMdl cy m0 a I R) sz) := by
  refine Met.ofW (cc := cX5_keeps) (maxL := 2) (ret := none) (by decide) rfl ?_
  intro p e s m args below meth c s₁ B hml hv
  obtain ⟨rfl, hsz, hP, hE, hD0⟩ := hv
  have hK := hE.1
  subst hsz
  have hD := hD0.self (sz := s.heap.size)
  generalize hAe : va_A (wMdl cy m0 a I R) s.heap.size = A at hD ⊢
  have hA : ∀ q : Nat, s.heap.size ≤ q → A q := fun q h => by rw [← hAe]; exact Or.inr h
  have hS : va_S A s.heap s.heap [] := va_S.rf
  have hP : va_P (dC, dI) vwCl (wMdl cy m0 a I R) s.heap := hP
  have hx := B.exec
  have hb := B.bytes
  have hr := B.returns
  have hts := atoms_spec (ws := wsX5_keeps) B.pre
  have hown : s.vm.findClass RX5 = some m.cls := findClass_of_methodNamed B.named
  have hlocks := B.notSynchronized
  have hin5 : ∀ w ∈ u_ws RX5 TX5 32, w ∈ wsX5_keeps := by decide +kernel
  have f_13 := hts (.fieldLink RX5 13 "DeadlineAdmissionModel" "frame" "[I") (by decide +kernel)
  have f_9 := hts (.fieldLink RX5 9 "DeadlineAdmissionModel" "s" "[I") (by decide +kernel)
  have hl := lv_entry ([.ref m0]) (n := 2) (Nat.le_of_ble_eq_true rfl)
  rw [lg_entry_eq]
  generalize (lg_sl ([.ref m0]) ++ List.replicate (2 - (lg_sl ([.ref m0])).length) Slot.unset).toArray = ls at hl ⊢
  have hl : lv_has ls 2 [(0, .ref m0)] := hl
  refine lv_iconst (v := 0) hx hb dX5_keeps_0 (by decide) ?_
  refine lv_istore_n (lv' := [(1, .int 0), (0, .ref m0)]) hx hb dX5_keeps_1 rfl hl (by decide) rfl (fun ls hl => ?_)
  have loop2 : ∀ (k : Nat) (i : Nat) (ls : Array Slot), i ≤ 58 → 58 < i + k → ∀ (H : Heap) (locs : List Loc), va_P (dC, dI) vwCl (wMdl cy m0 a I (upr R 2 (cpR (R 1) (R 2) i))) H → va_D A (wMdl cy m0 a I (upr R 2 (cpR (R 1) (R 2) i))) → va_S A s.heap H locs → lv_has ls 2 [(0, .ref m0), (1, .int (nI i))] → W p l e (headSpec wsX5_keeps ({ frames := 0, cells := 0, slots := 0, locals := 0 }) |>.room) s m (([.ref m0].toArray)) below meth c H locs 0 0 (MQ below (va_Qv (fun _ => True) (fun (u : Unit) t => va_P (dC, dI) vwCl (wMdl cy m0 a I (upr R 2 (cpR (R 1) (R 2) 58))) t.heap ∧ va_D (A) (wMdl cy m0 a I (upr R 2 (cpR (R 1) (R 2) 58)))) (A)) ([.ref m0].toArray) s 0 0 A) (F0 m 2 ls []) := by
    intro k
    induction k with
    | zero =>
      intro i ls hi hk
      exfalso; omega
    | succ k ih2 =>
      intro i ls hi hk H locs hP hD hS hl
      refine lv_iload_n hx hb dX5_keeps_2 rfl (lv_at hl 1 rfl) ?_
      refine lv_bipush (v := 58) hx hb dX5_keeps_3 (by decide) ?_
      refine lv_icmp_ge (tgt := 26) hx hb dX5_keeps_5 (by decide) (fun c_5 => ?_) (fun c_5 => ?_)
      · have e_i : i = 58 := Nat.le_antisymm hi ((nI_leI (a := 58) (by omega) (by omega)).mp c_5)
        have hP9 : va_P (dC, dI) vwCl (wMdl cy m0 a I (upr R 2 (cpR (R 1) (R 2) 58))) H := (by rw [e_i] at hP; exact hP)
        have hD9 : va_D A (wMdl cy m0 a I (upr R 2 (cpR (R 1) (R 2) 58))) := (by rw [e_i] at hD; exact hD)
        exact W.vret hx hb hr (fun t ht hW => ⟨⟨(), rfl, trivial, by rw [ht]; exact hP9, hD9⟩, hS.F ht⟩) hS.2.2 dX5_keeps_26
      · have hlt : i < 58 := Nat.lt_of_not_le (fun h => c_5 (nI_le (a := 58) h (by omega)))
        refine lv_aload_n hx hb dX5_keeps_8 rfl (lv_at hl 0 rfl) ?_
        refine va_get (D := (dC, dI)) (ci := 5) (v := .ref (a 2)) (C := RX5) (T := TX5) (N := 32) hx hb hts hin5 hown hK hP 0 rfl rfl 2 (by decide) f_13 (fun _ h9 => h9) rfl dX5_keeps_9 ?_
        refine lv_iload_n hx hb dX5_keeps_12 rfl (lv_at hl 1 rfl) ?_
        refine lv_aload_n hx hb dX5_keeps_13 rfl (lv_at hl 0 rfl) ?_
        refine va_get (D := (dC, dI)) (ci := 5) (v := .ref (a 1)) (C := RX5) (T := TX5) (N := 32) hx hb hts hin5 hown hK hP 0 rfl rfl 1 (by decide) f_9 (fun _ h9 => h9) rfl dX5_keeps_14 ?_
        refine lv_iload_n hx hb dX5_keeps_17 rfl (lv_at hl 1 rfl) ?_
        refine wI_alv (v := R 1 i) hx hb hK hP 1 0 rfl rfl i rfl (by omega) (by decide) rfl dX5_keeps_18 ?_
        refine wI_ast hx hb hK hP hD hS 2 0 rfl rfl i rfl (by omega) (by decide) dX5_keeps_19 (fun H locs hP hD hS => ?_)
        have hP : va_P (dC, dI) vwCl (wMdl cy m0 a I (upr R 2 (upd (cpR (R 1) (R 2) i) i (R 1 i)))) H := hP
        have hD : va_D A (wMdl cy m0 a I (upr R 2 (upd (cpR (R 1) (R 2) i) i (R 1 i)))) := hD
        refine lv_iinc (v := nI (i + 1)) (lv' := [(1, .int (nI (i + 1))), (0, .ref m0)]) hx hb dX5_keeps_20 hl (k := 1) rfl (nI_1 _) (by decide) rfl (fun ls hl => ?_)
        refine lv_goto (tgt := 2) hx hb dX5_keeps_23 (by decide) ?_
        exact ih2 (i + 1) ls (by omega) (by omega) _ _ (by rw [← cpR_s]; exact hP) (by rw [← cpR_s]; exact hD) hS (lv_sub hl [1, 0] rfl)
  exact loop2 59 0 ls (Nat.zero_le _) (by omega) _ _ (by rw [cpR_0]; exact hP) (by rw [cpR_0]; exact hD) hS (lv_sub hl [1, 0] rfl)
set_option maxHeartbeats 1000000 in
set_option maxRecDepth 100000 in
/-- .. and taken back -/
theorem c_X5_goesBack (l : Launch) (dC : Nat → ClassId) (dI : Nat → Nat → Nat) (cy : Nat → ClassId) (sz : Nat) (m0 : Nat) (a : Nat → Nat) (I : Nat → Int32) (R : vG) : Met l yX5_goesBack wsX5_goesBack ({ frames := 0, cells := 0, slots := 0, locals := 0 }) (va_Pc [.ref m0] (pIn dC dI cy (wMdl cy m0 a I R) sz)) (va_Qv (fun _ => True) (fun (u : Unit) t => va_P (dC, dI) vwCl (wMdl cy m0 a I (upr R 1 (cpR (R 2) (R 1) 58))) t.heap ∧ va_D (va_A (wMdl cy m0 a I R) sz) (wMdl cy m0 a I (upr R 1 (cpR (R 2) (R 1) 58)))) (va_A (wMdl cy m0 a I R) sz)) 0 0 (va_A (wMdl cy m0 a I R) sz) := by
  refine Met.ofW (cc := cX5_goesBack) (maxL := 2) (ret := none) (by decide) rfl ?_
  intro p e s m args below meth c s₁ B hml hv
  obtain ⟨rfl, hsz, hP, hE, hD0⟩ := hv
  have hK := hE.1
  subst hsz
  have hD := hD0.self (sz := s.heap.size)
  generalize hAe : va_A (wMdl cy m0 a I R) s.heap.size = A at hD ⊢
  have hA : ∀ q : Nat, s.heap.size ≤ q → A q := fun q h => by rw [← hAe]; exact Or.inr h
  have hS : va_S A s.heap s.heap [] := va_S.rf
  have hP : va_P (dC, dI) vwCl (wMdl cy m0 a I R) s.heap := hP
  have hx := B.exec
  have hb := B.bytes
  have hr := B.returns
  have hts := atoms_spec (ws := wsX5_goesBack) B.pre
  have hown : s.vm.findClass RX5 = some m.cls := findClass_of_methodNamed B.named
  have hlocks := B.notSynchronized
  have hin5 : ∀ w ∈ u_ws RX5 TX5 32, w ∈ wsX5_goesBack := by decide +kernel
  have f_13 := hts (.fieldLink RX5 13 "DeadlineAdmissionModel" "frame" "[I") (by decide +kernel)
  have f_9 := hts (.fieldLink RX5 9 "DeadlineAdmissionModel" "s" "[I") (by decide +kernel)
  have hl := lv_entry ([.ref m0]) (n := 2) (Nat.le_of_ble_eq_true rfl)
  rw [lg_entry_eq]
  generalize (lg_sl ([.ref m0]) ++ List.replicate (2 - (lg_sl ([.ref m0])).length) Slot.unset).toArray = ls at hl ⊢
  have hl : lv_has ls 2 [(0, .ref m0)] := hl
  refine lv_iconst (v := 0) hx hb dX5_goesBack_0 (by decide) ?_
  refine lv_istore_n (lv' := [(1, .int 0), (0, .ref m0)]) hx hb dX5_goesBack_1 rfl hl (by decide) rfl (fun ls hl => ?_)
  have loop2 : ∀ (k : Nat) (i : Nat) (ls : Array Slot), i ≤ 58 → 58 < i + k → ∀ (H : Heap) (locs : List Loc), va_P (dC, dI) vwCl (wMdl cy m0 a I (upr R 1 (cpR (R 2) (R 1) i))) H → va_D A (wMdl cy m0 a I (upr R 1 (cpR (R 2) (R 1) i))) → va_S A s.heap H locs → lv_has ls 2 [(0, .ref m0), (1, .int (nI i))] → W p l e (headSpec wsX5_goesBack ({ frames := 0, cells := 0, slots := 0, locals := 0 }) |>.room) s m (([.ref m0].toArray)) below meth c H locs 0 0 (MQ below (va_Qv (fun _ => True) (fun (u : Unit) t => va_P (dC, dI) vwCl (wMdl cy m0 a I (upr R 1 (cpR (R 2) (R 1) 58))) t.heap ∧ va_D (A) (wMdl cy m0 a I (upr R 1 (cpR (R 2) (R 1) 58)))) (A)) ([.ref m0].toArray) s 0 0 A) (F0 m 2 ls []) := by
    intro k
    induction k with
    | zero =>
      intro i ls hi hk
      exfalso; omega
    | succ k ih2 =>
      intro i ls hi hk H locs hP hD hS hl
      refine lv_iload_n hx hb dX5_goesBack_2 rfl (lv_at hl 1 rfl) ?_
      refine lv_bipush (v := 58) hx hb dX5_goesBack_3 (by decide) ?_
      refine lv_icmp_ge (tgt := 26) hx hb dX5_goesBack_5 (by decide) (fun c_5 => ?_) (fun c_5 => ?_)
      · have e_i : i = 58 := Nat.le_antisymm hi ((nI_leI (a := 58) (by omega) (by omega)).mp c_5)
        have hP9 : va_P (dC, dI) vwCl (wMdl cy m0 a I (upr R 1 (cpR (R 2) (R 1) 58))) H := (by rw [e_i] at hP; exact hP)
        have hD9 : va_D A (wMdl cy m0 a I (upr R 1 (cpR (R 2) (R 1) 58))) := (by rw [e_i] at hD; exact hD)
        exact W.vret hx hb hr (fun t ht hW => ⟨⟨(), rfl, trivial, by rw [ht]; exact hP9, hD9⟩, hS.F ht⟩) hS.2.2 dX5_goesBack_26
      · have hlt : i < 58 := Nat.lt_of_not_le (fun h => c_5 (nI_le (a := 58) h (by omega)))
        refine lv_aload_n hx hb dX5_goesBack_8 rfl (lv_at hl 0 rfl) ?_
        refine va_get (D := (dC, dI)) (ci := 5) (v := .ref (a 1)) (C := RX5) (T := TX5) (N := 32) hx hb hts hin5 hown hK hP 0 rfl rfl 1 (by decide) f_9 (fun _ h9 => h9) rfl dX5_goesBack_9 ?_
        refine lv_iload_n hx hb dX5_goesBack_12 rfl (lv_at hl 1 rfl) ?_
        refine lv_aload_n hx hb dX5_goesBack_13 rfl (lv_at hl 0 rfl) ?_
        refine va_get (D := (dC, dI)) (ci := 5) (v := .ref (a 2)) (C := RX5) (T := TX5) (N := 32) hx hb hts hin5 hown hK hP 0 rfl rfl 2 (by decide) f_13 (fun _ h9 => h9) rfl dX5_goesBack_14 ?_
        refine lv_iload_n hx hb dX5_goesBack_17 rfl (lv_at hl 1 rfl) ?_
        refine wI_alv (v := R 2 i) hx hb hK hP 2 0 rfl rfl i rfl (by omega) (by decide) rfl dX5_goesBack_18 ?_
        refine wI_ast hx hb hK hP hD hS 1 0 rfl rfl i rfl (by omega) (by decide) dX5_goesBack_19 (fun H locs hP hD hS => ?_)
        have hP : va_P (dC, dI) vwCl (wMdl cy m0 a I (upr R 1 (upd (cpR (R 2) (R 1) i) i (R 2 i)))) H := hP
        have hD : va_D A (wMdl cy m0 a I (upr R 1 (upd (cpR (R 2) (R 1) i) i (R 2 i)))) := hD
        refine lv_iinc (v := nI (i + 1)) (lv' := [(1, .int (nI (i + 1))), (0, .ref m0)]) hx hb dX5_goesBack_20 hl (k := 1) rfl (nI_1 _) (by decide) rfl (fun ls hl => ?_)
        refine lv_goto (tgt := 2) hx hb dX5_goesBack_23 (by decide) ?_
        exact ih2 (i + 1) ls (by omega) (by omega) _ _ (by rw [← cpR_s]; exact hP) (by rw [← cpR_s]; exact hD) hS (lv_sub hl [1, 0] rfl)
  exact loop2 59 0 ls (Nat.zero_le _) (by omega) _ _ (by rw [cpR_0]; exact hP) (by rw [cpR_0]; exact hD) hS (lv_sub hl [1, 0] rfl)
set_option maxHeartbeats 1000000 in
set_option maxRecDepth 100000 in
/-- a change is recorded -/
theorem c_X5_records (l : Launch) (dC : Nat → ClassId) (dI : Nat → Nat → Nat) (cy : Nat → ClassId) (sz : Nat) (m0 : Nat) (a : Nat → Nat) (I : Nat → Int32) (R : vG) (ch : Nat) (hch : ch ≤ 6) (hI5 : I 5 = nI ch) : Met l yX5_records wsX5_records ({ frames := 0, cells := 0, slots := 0, locals := 0 }) (va_Pc [.ref m0] (pIn dC dI cy (wMdl cy m0 a I R) sz)) (va_Qv (fun _ => True) (fun (u : Unit) t => va_P (dC, dI) vwCl (wMdl cy m0 a (upd (upd I 5 (nI (hcnt ch))) 14 0) (upr R 4 (hrec (R 4) (R 2) ch))) t.heap ∧ va_D (va_A (wMdl cy m0 a I R) sz) (wMdl cy m0 a (upd (upd I 5 (nI (hcnt ch))) 14 0) (upr R 4 (hrec (R 4) (R 2) ch)))) (va_A (wMdl cy m0 a I R) sz)) 0 0 (va_A (wMdl cy m0 a I R) sz) := by
  refine Met.ofW (cc := cX5_records) (maxL := 2) (ret := none) (by decide) rfl ?_
  intro p e s m args below meth c s₁ B hml hv
  obtain ⟨rfl, hsz, hP, hE, hD0⟩ := hv
  have hK := hE.1
  subst hsz
  have hD := hD0.self (sz := s.heap.size)
  generalize hAe : va_A (wMdl cy m0 a I R) s.heap.size = A at hD ⊢
  have hA : ∀ q : Nat, s.heap.size ≤ q → A q := fun q h => by rw [← hAe]; exact Or.inr h
  have hS : va_S A s.heap s.heap [] := va_S.rf
  have hP : va_P (dC, dI) vwCl (wMdl cy m0 a I R) s.heap := hP
  have hx := B.exec
  have hb := B.bytes
  have hr := B.returns
  have hts := atoms_spec (ws := wsX5_records) B.pre
  have hown : s.vm.findClass RX5 = some m.cls := findClass_of_methodNamed B.named
  have hlocks := B.notSynchronized
  have hin5 : ∀ w ∈ u_ws RX5 TX5 32, w ∈ wsX5_records := by decide +kernel
  have f_13 := hts (.fieldLink RX5 13 "DeadlineAdmissionModel" "frame" "[I") (by decide +kernel)
  have f_19 := hts (.fieldLink RX5 19 "DeadlineAdmissionModel" "history" "[I") (by decide +kernel)
  have f_57 := hts (.fieldLink RX5 57 "DeadlineAdmissionModel" "changes" "I") (by decide +kernel)
  have f_60 := hts (.fieldLink RX5 60 "DeadlineAdmissionModel" "isSimulated" "Z") (by decide +kernel)
  have hl := lv_entry ([.ref m0]) (n := 2) (Nat.le_of_ble_eq_true rfl)
  rw [lg_entry_eq]
  generalize (lg_sl ([.ref m0]) ++ List.replicate (2 - (lg_sl ([.ref m0])).length) Slot.unset).toArray = ls at hl ⊢
  have hl : lv_has ls 2 [(0, .ref m0)] := hl
  refine lv_aload_n hx hb dX5_records_0 rfl (lv_at hl 0 rfl) ?_
  refine va_get (D := (dC, dI)) (ci := 5) (v := .int (I 5)) (C := RX5) (T := TX5) (N := 32) hx hb hts hin5 hown hK hP 0 rfl rfl 5 (by decide) f_57 (fun _ h9 => h9) rfl dX5_records_1 ?_
  refine lv_bipush (v := 6) hx hb dX5_records_4 (by decide) ?_
  refine lv_icmp_ne (tgt := 49) hx hb dX5_records_6 (by decide) (fun c_6 => ?_) (fun c_6 => ?_)
  · have ech : ¬ ch = 6 := fun h => c_6 (by rw [hI5, h]; rfl)
    refine lv_iconst (v := 0) hx hb dX5_records_49 (by decide) ?_
    refine lv_istore_n (lv' := [(1, .int 0), (0, .ref m0)]) hx hb dX5_records_50 rfl hl (by decide) rfl (fun ls hl => ?_)
    have loop51 : ∀ (k : Nat) (i : Nat) (ls : Array Slot), i ≤ 58 → 58 < i + k → ∀ (H : Heap) (locs : List Loc), va_P (dC, dI) vwCl (wMdl cy m0 a I (upr R 4 (hput (R 4) ch (R 2) i))) H → va_D A (wMdl cy m0 a I (upr R 4 (hput (R 4) ch (R 2) i))) → va_S A s.heap H locs → lv_has ls 2 [(0, .ref m0), (1, .int (nI i))] → W p l e (headSpec wsX5_records ({ frames := 0, cells := 0, slots := 0, locals := 0 }) |>.room) s m (([.ref m0].toArray)) below meth c H locs 0 0 (MQ below (va_Qv (fun _ => True) (fun (u : Unit) t => va_P (dC, dI) vwCl (wMdl cy m0 a (upd (upd I 5 (nI (hcnt ch))) 14 0) (upr R 4 (hrec (R 4) (R 2) ch))) t.heap ∧ va_D (A) (wMdl cy m0 a (upd (upd I 5 (nI (hcnt ch))) 14 0) (upr R 4 (hrec (R 4) (R 2) ch)))) (A)) ([.ref m0].toArray) s 0 0 A) (F0 m 51 ls []) := by
      intro k
      induction k with
      | zero =>
        intro i ls hi hk
        exfalso; omega
      | succ k ih51 =>
        intro i ls hi hk H locs hP hD hS hl
        refine lv_iload_n hx hb dX5_records_51 rfl (lv_at hl 1 rfl) ?_
        refine lv_bipush (v := 58) hx hb dX5_records_52 (by decide) ?_
        refine lv_icmp_ge (tgt := 83) hx hb dX5_records_54 (by decide) (fun c_54 => ?_) (fun c_54 => ?_)
        · have e_i : i = 58 := Nat.le_antisymm hi ((nI_leI (a := 58) (by omega) (by omega)).mp c_54)
          refine lv_aload_n hx hb dX5_records_83 rfl (lv_at hl 0 rfl) ?_
          refine lv_dup hx hb dX5_records_84 rfl ?_
          refine va_get (D := (dC, dI)) (ci := 5) (v := .int (I 5)) (C := RX5) (T := TX5) (N := 32) hx hb hts hin5 hown hK hP 0 rfl rfl 5 (by decide) f_57 (fun _ h9 => h9) rfl dX5_records_85 ?_
          refine lv_iconst (v := 1) hx hb dX5_records_88 (by decide) ?_
          refine lv_iadd hx hb dX5_records_89 ?_
          refine lv_topi (fun y_ ey_ => ?_)
          obtain rfl : y_ = nI (ch + 1) := ey_.trans (by rw [hI5]; exact nI_1 ch)
          refine va_put (D := (dC, dI)) (ci := 5) (v := .int (nI (ch + 1))) (ty := .int) (C := RX5) (T := TX5) (N := 32) hx hb hts hin5 tyX5 tyX5_ok nmX5 hown hK hP hD hS 0 rfl rfl 5 (by decide) f_57 (fun _ h9 => h9) rfl (by decide +kernel) rfl rfl (Nat.le_of_ble_eq_true rfl) dX5_records_90 (fun H locs hP hD hS => ?_)
          have hP : va_P (dC, dI) vwCl (wMdl cy m0 a (upd I 5 (nI (ch + 1))) (upr R 4 (hput (R 4) ch (R 2) i))) H := hP
          have hD : va_D A (wMdl cy m0 a (upd I 5 (nI (ch + 1))) (upr R 4 (hput (R 4) ch (R 2) i))) := hD
          refine lv_aload_n hx hb dX5_records_93 rfl (lv_at hl 0 rfl) ?_
          refine lv_iconst (v := 0) hx hb dX5_records_94 (by decide) ?_
          refine va_put (D := (dC, dI)) (ci := 5) (v := .int 0) (ty := .boolean) (C := RX5) (T := TX5) (N := 32) hx hb hts hin5 tyX5 tyX5_ok nmX5 hown hK hP hD hS 0 rfl rfl 14 (by decide) f_60 (fun _ h9 => h9) rfl (by decide +kernel) (by decide) rfl (Nat.le_of_ble_eq_true rfl) dX5_records_95 (fun H locs hP hD hS => ?_)
          have hP : va_P (dC, dI) vwCl (wMdl cy m0 a (upd (upd I 5 (nI (ch + 1))) 14 0) (upr R 4 (hput (R 4) ch (R 2) i))) H := hP
          have hD : va_D A (wMdl cy m0 a (upd (upd I 5 (nI (ch + 1))) 14 0) (upr R 4 (hput (R 4) ch (R 2) i))) := hD
          have hP9 : va_P (dC, dI) vwCl (wMdl cy m0 a (upd (upd I 5 (nI (hcnt ch))) 14 0) (upr R 4 (hrec (R 4) (R 2) ch))) H := (by rw [hcnt, if_neg ech, hrec, if_neg ech]; rw [e_i] at hP; exact hP)
          have hD9 : va_D A (wMdl cy m0 a (upd (upd I 5 (nI (hcnt ch))) 14 0) (upr R 4 (hrec (R 4) (R 2) ch))) := (by rw [hcnt, if_neg ech, hrec, if_neg ech]; rw [e_i] at hD; exact hD)
          exact W.vret hx hb hr (fun t ht hW => ⟨⟨(), rfl, trivial, by rw [ht]; exact hP9, hD9⟩, hS.F ht⟩) hS.2.2 dX5_records_98
        · have hlt : i < 58 := Nat.lt_of_not_le (fun h => c_54 (nI_le (a := 58) h (by omega)))
          refine lv_aload_n hx hb dX5_records_57 rfl (lv_at hl 0 rfl) ?_
          refine va_get (D := (dC, dI)) (ci := 5) (v := .ref (a 4)) (C := RX5) (T := TX5) (N := 32) hx hb hts hin5 hown hK hP 0 rfl rfl 4 (by decide) f_19 (fun _ h9 => h9) rfl dX5_records_58 ?_
          refine lv_bipush (v := 58) hx hb dX5_records_61 (by decide) ?_
          refine lv_aload_n hx hb dX5_records_63 rfl (lv_at hl 0 rfl) ?_
          refine va_get (D := (dC, dI)) (ci := 5) (v := .int (I 5)) (C := RX5) (T := TX5) (N := 32) hx hb hts hin5 hown hK hP 0 rfl rfl 5 (by decide) f_57 (fun _ h9 => h9) rfl dX5_records_64 ?_
          refine lv_imul hx hb dX5_records_67 ?_
          refine lv_iload_n hx hb dX5_records_68 rfl (lv_at hl 1 rfl) ?_
          refine lv_iadd hx hb dX5_records_69 ?_
          refine lv_aload_n hx hb dX5_records_70 rfl (lv_at hl 0 rfl) ?_
          refine va_get (D := (dC, dI)) (ci := 5) (v := .ref (a 2)) (C := RX5) (T := TX5) (N := 32) hx hb hts hin5 hown hK hP 0 rfl rfl 2 (by decide) f_13 (fun _ h9 => h9) rfl dX5_records_71 ?_
          refine lv_iload_n hx hb dX5_records_74 rfl (lv_at hl 1 rfl) ?_
          refine wI_alv (v := R 2 i) hx hb hK hP 2 0 rfl rfl i rfl (by omega) (by decide) rfl dX5_records_75 ?_
          refine wI_ast hx hb hK hP hD hS 4 0 rfl rfl ((58 * ch) + i) (nadd (nmul rfl hI5) rfl) (by omega) (by decide) dX5_records_76 (fun H locs hP hD hS => ?_)
          have hP : va_P (dC, dI) vwCl (wMdl cy m0 a I (upr R 4 (upd (hput (R 4) ch (R 2) i) ((58 * ch) + i) (R 2 i)))) H := hP
          have hD : va_D A (wMdl cy m0 a I (upr R 4 (upd (hput (R 4) ch (R 2) i) ((58 * ch) + i) (R 2 i)))) := hD
          refine lv_iinc (v := nI (i + 1)) (lv' := [(1, .int (nI (i + 1))), (0, .ref m0)]) hx hb dX5_records_77 hl (k := 1) rfl (nI_1 _) (by decide) rfl (fun ls hl => ?_)
          refine lv_goto (tgt := 51) hx hb dX5_records_80 (by decide) ?_
          exact ih51 (i + 1) ls (by omega) (by omega) _ _ (by rw [← hput_s]; exact hP) (by rw [← hput_s]; exact hD) hS (lv_sub hl [1, 0] rfl)
    exact loop51 59 0 ls (Nat.zero_le _) (by omega) _ _ (by rw [hput_0]; exact hP) (by rw [hput_0]; exact hD) hS (lv_sub hl [1, 0] rfl)
  · have ech : ch = 6 := by rw [hI5] at c_6; exact (nI_eq (b := 6) (by omega) (by omega)).mp c_6
    refine lv_iconst (v := 0) hx hb dX5_records_9 (by decide) ?_
    refine lv_istore_n (lv' := [(1, .int 0), (0, .ref m0)]) hx hb dX5_records_10 rfl hl (by decide) rfl (fun ls hl => ?_)
    have loop11 : ∀ (k : Nat) (i : Nat) (ls : Array Slot), i ≤ 290 → 290 < i + k → ∀ (H : Heap) (locs : List Loc), va_P (dC, dI) vwCl (wMdl cy m0 a I (upr R 4 (hsh (R 4) i))) H → va_D A (wMdl cy m0 a I (upr R 4 (hsh (R 4) i))) → va_S A s.heap H locs → lv_has ls 2 [(0, .ref m0), (1, .int (nI i))] → W p l e (headSpec wsX5_records ({ frames := 0, cells := 0, slots := 0, locals := 0 }) |>.room) s m (([.ref m0].toArray)) below meth c H locs 0 0 (MQ below (va_Qv (fun _ => True) (fun (u : Unit) t => va_P (dC, dI) vwCl (wMdl cy m0 a (upd (upd I 5 (nI (hcnt ch))) 14 0) (upr R 4 (hrec (R 4) (R 2) ch))) t.heap ∧ va_D (A) (wMdl cy m0 a (upd (upd I 5 (nI (hcnt ch))) 14 0) (upr R 4 (hrec (R 4) (R 2) ch)))) (A)) ([.ref m0].toArray) s 0 0 A) (F0 m 11 ls []) := by
      intro k
      induction k with
      | zero =>
        intro i ls hi hk
        exfalso; omega
      | succ k ih11 =>
        intro i ls hi hk H locs hP hD hS hl
        refine lv_iload_n hx hb dX5_records_11 rfl (lv_at hl 1 rfl) ?_
        refine lv_sipush (v := 290) hx hb dX5_records_12 (by decide) ?_
        refine lv_icmp_ge (tgt := 39) hx hb dX5_records_15 (by decide) (fun c_15 => ?_) (fun c_15 => ?_)
        · have e_i : i = 290 := Nat.le_antisymm hi ((nI_leI (a := 290) (by omega) (by omega)).mp c_15)
          refine lv_aload_n hx hb dX5_records_39 rfl (lv_at hl 0 rfl) ?_
          refine lv_dup hx hb dX5_records_40 rfl ?_
          refine va_get (D := (dC, dI)) (ci := 5) (v := .int (I 5)) (C := RX5) (T := TX5) (N := 32) hx hb hts hin5 hown hK hP 0 rfl rfl 5 (by decide) f_57 (fun _ h9 => h9) rfl dX5_records_41 ?_
          refine lv_iconst (v := 1) hx hb dX5_records_44 (by decide) ?_
          refine lv_isub hx hb dX5_records_45 ?_
          refine lv_topi (fun y_ ey_ => ?_)
          obtain rfl : y_ = nI 5 := ey_.trans (by rw [hI5, ech]; rfl)
          refine va_put (D := (dC, dI)) (ci := 5) (v := .int (nI 5)) (ty := .int) (C := RX5) (T := TX5) (N := 32) hx hb hts hin5 tyX5 tyX5_ok nmX5 hown hK hP hD hS 0 rfl rfl 5 (by decide) f_57 (fun _ h9 => h9) rfl (by decide +kernel) rfl rfl (Nat.le_of_ble_eq_true rfl) dX5_records_46 (fun H locs hP hD hS => ?_)
          have hP : va_P (dC, dI) vwCl (wMdl cy m0 a (upd I 5 (nI 5)) (upr R 4 (hsh (R 4) i))) H := hP
          have hD : va_D A (wMdl cy m0 a (upd I 5 (nI 5)) (upr R 4 (hsh (R 4) i))) := hD
          refine lv_iconst (v := 0) hx hb dX5_records_49 (by decide) ?_
          refine lv_istore_n (lv' := [(1, .int 0), (0, .ref m0)]) hx hb dX5_records_50 rfl hl (by decide) rfl (fun ls hl => ?_)
          have loop51 : ∀ (k : Nat) (i : Nat) (ls : Array Slot), i ≤ 58 → 58 < i + k → ∀ (H : Heap) (locs : List Loc), va_P (dC, dI) vwCl (wMdl cy m0 a (upd I 5 (nI 5)) (upr R 4 (hput (hsh (R 4) 290) 5 (R 2) i))) H → va_D A (wMdl cy m0 a (upd I 5 (nI 5)) (upr R 4 (hput (hsh (R 4) 290) 5 (R 2) i))) → va_S A s.heap H locs → lv_has ls 2 [(0, .ref m0), (1, .int (nI i))] → W p l e (headSpec wsX5_records ({ frames := 0, cells := 0, slots := 0, locals := 0 }) |>.room) s m (([.ref m0].toArray)) below meth c H locs 0 0 (MQ below (va_Qv (fun _ => True) (fun (u : Unit) t => va_P (dC, dI) vwCl (wMdl cy m0 a (upd (upd I 5 (nI (hcnt ch))) 14 0) (upr R 4 (hrec (R 4) (R 2) ch))) t.heap ∧ va_D (A) (wMdl cy m0 a (upd (upd I 5 (nI (hcnt ch))) 14 0) (upr R 4 (hrec (R 4) (R 2) ch)))) (A)) ([.ref m0].toArray) s 0 0 A) (F0 m 51 ls []) := by
            intro k
            induction k with
            | zero =>
              intro i ls hi hk
              exfalso; omega
            | succ k ih51 =>
              intro i ls hi hk H locs hP hD hS hl
              refine lv_iload_n hx hb dX5_records_51 rfl (lv_at hl 1 rfl) ?_
              refine lv_bipush (v := 58) hx hb dX5_records_52 (by decide) ?_
              refine lv_icmp_ge (tgt := 83) hx hb dX5_records_54 (by decide) (fun c_54 => ?_) (fun c_54 => ?_)
              · have e_i : i = 58 := Nat.le_antisymm hi ((nI_leI (a := 58) (by omega) (by omega)).mp c_54)
                refine lv_aload_n hx hb dX5_records_83 rfl (lv_at hl 0 rfl) ?_
                refine lv_dup hx hb dX5_records_84 rfl ?_
                refine va_get (D := (dC, dI)) (ci := 5) (v := .int (nI 5)) (C := RX5) (T := TX5) (N := 32) hx hb hts hin5 hown hK hP 0 rfl rfl 5 (by decide) f_57 (fun _ h9 => h9) rfl dX5_records_85 ?_
                refine lv_iconst (v := 1) hx hb dX5_records_88 (by decide) ?_
                refine lv_iadd hx hb dX5_records_89 ?_
                refine lv_topi (fun y_ ey_ => ?_)
                obtain rfl : y_ = nI 6 := ey_.trans rfl
                refine va_put (D := (dC, dI)) (ci := 5) (v := .int (nI 6)) (ty := .int) (C := RX5) (T := TX5) (N := 32) hx hb hts hin5 tyX5 tyX5_ok nmX5 hown hK hP hD hS 0 rfl rfl 5 (by decide) f_57 (fun _ h9 => h9) rfl (by decide +kernel) rfl rfl (Nat.le_of_ble_eq_true rfl) dX5_records_90 (fun H locs hP hD hS => ?_)
                have hP : va_P (dC, dI) vwCl (wMdl cy m0 a (upd I 5 (nI 6)) (upr R 4 (hput (hsh (R 4) 290) 5 (R 2) i))) H := hP
                have hD : va_D A (wMdl cy m0 a (upd I 5 (nI 6)) (upr R 4 (hput (hsh (R 4) 290) 5 (R 2) i))) := hD
                refine lv_aload_n hx hb dX5_records_93 rfl (lv_at hl 0 rfl) ?_
                refine lv_iconst (v := 0) hx hb dX5_records_94 (by decide) ?_
                refine va_put (D := (dC, dI)) (ci := 5) (v := .int 0) (ty := .boolean) (C := RX5) (T := TX5) (N := 32) hx hb hts hin5 tyX5 tyX5_ok nmX5 hown hK hP hD hS 0 rfl rfl 14 (by decide) f_60 (fun _ h9 => h9) rfl (by decide +kernel) (by decide) rfl (Nat.le_of_ble_eq_true rfl) dX5_records_95 (fun H locs hP hD hS => ?_)
                have hP : va_P (dC, dI) vwCl (wMdl cy m0 a (upd (upd I 5 (nI 6)) 14 0) (upr R 4 (hput (hsh (R 4) 290) 5 (R 2) i))) H := hP
                have hD : va_D A (wMdl cy m0 a (upd (upd I 5 (nI 6)) 14 0) (upr R 4 (hput (hsh (R 4) 290) 5 (R 2) i))) := hD
                have hP9 : va_P (dC, dI) vwCl (wMdl cy m0 a (upd (upd I 5 (nI (hcnt ch))) 14 0) (upr R 4 (hrec (R 4) (R 2) ch))) H := (by rw [hcnt, if_pos ech, hrec, if_pos ech]; rw [e_i] at hP; exact hP)
                have hD9 : va_D A (wMdl cy m0 a (upd (upd I 5 (nI (hcnt ch))) 14 0) (upr R 4 (hrec (R 4) (R 2) ch))) := (by rw [hcnt, if_pos ech, hrec, if_pos ech]; rw [e_i] at hD; exact hD)
                exact W.vret hx hb hr (fun t ht hW => ⟨⟨(), rfl, trivial, by rw [ht]; exact hP9, hD9⟩, hS.F ht⟩) hS.2.2 dX5_records_98
              · have hlt : i < 58 := Nat.lt_of_not_le (fun h => c_54 (nI_le (a := 58) h (by omega)))
                refine lv_aload_n hx hb dX5_records_57 rfl (lv_at hl 0 rfl) ?_
                refine va_get (D := (dC, dI)) (ci := 5) (v := .ref (a 4)) (C := RX5) (T := TX5) (N := 32) hx hb hts hin5 hown hK hP 0 rfl rfl 4 (by decide) f_19 (fun _ h9 => h9) rfl dX5_records_58 ?_
                refine lv_bipush (v := 58) hx hb dX5_records_61 (by decide) ?_
                refine lv_aload_n hx hb dX5_records_63 rfl (lv_at hl 0 rfl) ?_
                refine va_get (D := (dC, dI)) (ci := 5) (v := .int (nI 5)) (C := RX5) (T := TX5) (N := 32) hx hb hts hin5 hown hK hP 0 rfl rfl 5 (by decide) f_57 (fun _ h9 => h9) rfl dX5_records_64 ?_
                refine lv_imul hx hb dX5_records_67 ?_
                refine lv_iload_n hx hb dX5_records_68 rfl (lv_at hl 1 rfl) ?_
                refine lv_iadd hx hb dX5_records_69 ?_
                refine lv_aload_n hx hb dX5_records_70 rfl (lv_at hl 0 rfl) ?_
                refine va_get (D := (dC, dI)) (ci := 5) (v := .ref (a 2)) (C := RX5) (T := TX5) (N := 32) hx hb hts hin5 hown hK hP 0 rfl rfl 2 (by decide) f_13 (fun _ h9 => h9) rfl dX5_records_71 ?_
                refine lv_iload_n hx hb dX5_records_74 rfl (lv_at hl 1 rfl) ?_
                refine wI_alv (v := R 2 i) hx hb hK hP 2 0 rfl rfl i rfl (by omega) (by decide) rfl dX5_records_75 ?_
                refine wI_ast hx hb hK hP hD hS 4 0 rfl rfl ((58 * 5) + i) (nadd (nmul rfl rfl) rfl) (by omega) (by decide) dX5_records_76 (fun H locs hP hD hS => ?_)
                have hP : va_P (dC, dI) vwCl (wMdl cy m0 a (upd I 5 (nI 5)) (upr R 4 (upd (hput (hsh (R 4) 290) 5 (R 2) i) ((58 * 5) + i) (R 2 i)))) H := hP
                have hD : va_D A (wMdl cy m0 a (upd I 5 (nI 5)) (upr R 4 (upd (hput (hsh (R 4) 290) 5 (R 2) i) ((58 * 5) + i) (R 2 i)))) := hD
                refine lv_iinc (v := nI (i + 1)) (lv' := [(1, .int (nI (i + 1))), (0, .ref m0)]) hx hb dX5_records_77 hl (k := 1) rfl (nI_1 _) (by decide) rfl (fun ls hl => ?_)
                refine lv_goto (tgt := 51) hx hb dX5_records_80 (by decide) ?_
                exact ih51 (i + 1) ls (by omega) (by omega) _ _ (by rw [← hput_s]; exact hP) (by rw [← hput_s]; exact hD) hS (lv_sub hl [1, 0] rfl)
          exact loop51 59 0 ls (Nat.zero_le _) (by omega) _ _ (by rw [hput_0]; rw [e_i] at hP; exact hP) (by rw [hput_0]; rw [e_i] at hD; exact hD) hS (lv_sub hl [1, 0] rfl)
        · have hlt : i < 290 := Nat.lt_of_not_le (fun h => c_15 (nI_le (a := 290) h (by omega)))
          refine lv_aload_n hx hb dX5_records_18 rfl (lv_at hl 0 rfl) ?_
          refine va_get (D := (dC, dI)) (ci := 5) (v := .ref (a 4)) (C := RX5) (T := TX5) (N := 32) hx hb hts hin5 hown hK hP 0 rfl rfl 4 (by decide) f_19 (fun _ h9 => h9) rfl dX5_records_19 ?_
          refine lv_iload_n hx hb dX5_records_22 rfl (lv_at hl 1 rfl) ?_
          refine lv_aload_n hx hb dX5_records_23 rfl (lv_at hl 0 rfl) ?_
          refine va_get (D := (dC, dI)) (ci := 5) (v := .ref (a 4)) (C := RX5) (T := TX5) (N := 32) hx hb hts hin5 hown hK hP 0 rfl rfl 4 (by decide) f_19 (fun _ h9 => h9) rfl dX5_records_24 ?_
          refine lv_iload_n hx hb dX5_records_27 rfl (lv_at hl 1 rfl) ?_
          refine lv_bipush (v := 58) hx hb dX5_records_28 (by decide) ?_
          refine lv_iadd hx hb dX5_records_30 ?_
          refine wI_alv (v := (hsh (R 4) i) (i + 58)) hx hb hK hP 4 0 rfl rfl (i + 58) (nadd rfl rfl) (by omega) (by decide) rfl dX5_records_31 ?_
          refine wI_ast hx hb hK hP hD hS 4 0 rfl rfl i rfl (by omega) (by decide) dX5_records_32 (fun H locs hP hD hS => ?_)
          have hP : va_P (dC, dI) vwCl (wMdl cy m0 a I (upr R 4 (upd (hsh (R 4) i) i ((hsh (R 4) i) (i + 58))))) H := hP
          have hD : va_D A (wMdl cy m0 a I (upr R 4 (upd (hsh (R 4) i) i ((hsh (R 4) i) (i + 58))))) := hD
          refine lv_iinc (v := nI (i + 1)) (lv' := [(1, .int (nI (i + 1))), (0, .ref m0)]) hx hb dX5_records_33 hl (k := 1) rfl (nI_1 _) (by decide) rfl (fun ls hl => ?_)
          refine lv_goto (tgt := 11) hx hb dX5_records_36 (by decide) ?_
          exact ih11 (i + 1) ls (by omega) (by omega) _ _ (by rw [← hsh_s]; exact hP) (by rw [← hsh_s]; exact hD) hS (lv_sub hl [1, 0] rfl)
    exact loop11 291 0 ls (Nat.zero_le _) (by omega) _ _ (by rw [hsh_0]; exact hP) (by rw [hsh_0]; exact hD) hS (lv_sub hl [1, 0] rfl)
set_option maxHeartbeats 1000000 in
set_option maxRecDepth 100000 in
/-- the weakest task -/
theorem c_X5_weakest (l : Launch) (dC : Nat → ClassId) (dI : Nat → Nat → Nat) (cy : Nat → ClassId) (m0 : Nat) (a : Nat → Nat) (I : Nat → Int32) (R : vG) (n : Nat) (hn : n ≤ 8) (hS0 : R 1 0 = nI n) : Met l yX5_weakest wsX5_weakest ({ frames := 0, cells := 0, slots := 0, locals := 0 }) (va_Pc [.ref m0] (fun U => va_P (dC, dI) vwCl (wMdl cy m0 a I R) U.heap ∧ EV dC dI cy U)) (vp_Si (fun r => r = wkI (wk (Gs (R 1)) n))) 0 0 (fun _ => False) := by
  refine Met.ofW (cc := cX5_weakest) (maxL := 4) (ret := some .int) (by decide) rfl ?_
  intro p e s m args below meth c s₁ B hml hv
  obtain ⟨rfl, hP, hE⟩ := hv
  have hK := hE.1
  have hx := B.exec
  have hb := B.bytes
  have hr := B.returns
  have hts := atoms_spec (ws := wsX5_weakest) B.pre
  have hown : s.vm.findClass RX5 = some m.cls := findClass_of_methodNamed B.named
  have hlocks := B.notSynchronized
  have hin5 : ∀ w ∈ u_ws RX5 TX5 32, w ∈ wsX5_weakest := by decide +kernel
  have f_9 := hts (.fieldLink RX5 9 "DeadlineAdmissionModel" "s" "[I") (by decide +kernel)
  have hl := lv_entry ([.ref m0]) (n := 4) (Nat.le_of_ble_eq_true rfl)
  rw [lg_entry_eq]
  generalize (lg_sl ([.ref m0]) ++ List.replicate (4 - (lg_sl ([.ref m0])).length) Slot.unset).toArray = ls at hl ⊢
  have hl : lv_has ls 4 [(0, .ref m0)] := hl
  refine lv_iconst (v := (-1)) hx hb dX5_weakest_0 (by decide) ?_
  refine lv_istore_n (lv' := [(1, .int (-1)), (0, .ref m0)]) hx hb dX5_weakest_1 rfl hl (by decide) rfl (fun ls hl => ?_)
  refine lv_iconst (v := 0) hx hb dX5_weakest_2 (by decide) ?_
  refine lv_istore_n (lv' := [(2, .int 0), (1, .int (-1)), (0, .ref m0)]) hx hb dX5_weakest_3 rfl hl (by decide) rfl (fun ls hl => ?_)
  have loop4 : ∀ (k : Nat) (i : Nat) (ch : Int32) (ls : Array Slot), i ≤ n → n < i + k → ch = wkI (wk (Gs (R 1)) i) → lv_has ls 4 [(0, .ref m0), (1, .int ch), (2, .int (nI i))] → W p l e (headSpec wsX5_weakest ({ frames := 0, cells := 0, slots := 0, locals := 0 }) |>.room) s m (([.ref m0].toArray)) below meth c s.heap [] 0 0 (MQ below (vp_Si (fun r => r = wkI (wk (Gs (R 1)) n))) ([.ref m0].toArray) s 0 0 (fun _ => False)) (F0 m 4 ls []) := by
    intro k
    induction k with
    | zero =>
      intro i ch ls hi hk ech
      exfalso; omega
    | succ k ih4 =>
      intro i ch ls hi hk ech hl
      refine lv_iload_n hx hb dX5_weakest_4 rfl (lv_at hl 2 rfl) ?_
      refine lv_aload_n hx hb dX5_weakest_5 rfl (lv_at hl 0 rfl) ?_
      refine va_get (D := (dC, dI)) (ci := 5) (v := .ref (a 1)) (C := RX5) (T := TX5) (N := 32) hx hb hts hin5 hown hK hP 0 rfl rfl 1 (by decide) f_9 (fun _ h9 => h9) rfl dX5_weakest_6 ?_
      refine lv_iconst (v := 0) hx hb dX5_weakest_9 (by decide) ?_
      refine wI_alv (v := nI n) hx hb hK hP 1 0 rfl rfl 0 rfl (by omega) (by decide) hS0 dX5_weakest_10 ?_
      refine lv_icmp_ge (tgt := 82) hx hb dX5_weakest_11 (by decide) (fun c_11 => ?_) (fun c_11 => ?_)
      · have e_i : i = n := Nat.le_antisymm hi ((nI_leI (by omega) (by omega)).mp c_11)
        refine lv_iload_n hx hb dX5_weakest_82 rfl (lv_at hl 1 rfl) ?_
        exact W.iret (v := ch) hx hb hr (fun t ht hW => ⟨_, rfl, (by rw [ech, e_i]), ht⟩) (fun q hq => absurd hq List.not_mem_nil) dX5_weakest_83
      · have hlt : i < n := Nat.lt_of_not_le (fun h => c_11 (nI_le h (by omega)))
        refine lv_aload_n hx hb dX5_weakest_14 rfl (lv_at hl 0 rfl) ?_
        refine va_get (D := (dC, dI)) (ci := 5) (v := .ref (a 1)) (C := RX5) (T := TX5) (N := 32) hx hb hts hin5 hown hK hP 0 rfl rfl 1 (by decide) f_9 (fun _ h9 => h9) rfl dX5_weakest_15 ?_
        refine lv_bipush (v := 50) hx hb dX5_weakest_18 (by decide) ?_
        refine lv_iload_n hx hb dX5_weakest_20 rfl (lv_at hl 2 rfl) ?_
        refine lv_iadd hx hb dX5_weakest_21 ?_
        refine wI_alv (v := Gs (R 1) 6 i) hx hb hK hP 1 0 rfl rfl (50 + i) (nadd rfl rfl) (by omega) (by decide) rfl dX5_weakest_22 ?_
        refine lv_aload_n hx hb dX5_weakest_23 rfl (lv_at hl 0 rfl) ?_
        refine va_get (D := (dC, dI)) (ci := 5) (v := .ref (a 1)) (C := RX5) (T := TX5) (N := 32) hx hb hts hin5 hown hK hP 0 rfl rfl 1 (by decide) f_9 (fun _ h9 => h9) rfl dX5_weakest_24 ?_
        refine lv_bipush (v := 42) hx hb dX5_weakest_27 (by decide) ?_
        refine lv_iload_n hx hb dX5_weakest_29 rfl (lv_at hl 2 rfl) ?_
        refine lv_iadd hx hb dX5_weakest_30 ?_
        refine wI_alv (v := Gs (R 1) 5 i) hx hb hK hP 1 0 rfl rfl (42 + i) (nadd rfl rfl) (by omega) (by decide) rfl dX5_weakest_31 ?_
        refine lv_icmp_ge (tgt := 64) hx hb dX5_weakest_32 (by decide) (fun c_32 => ?_) (fun c_32 => ?_)
        · refine lv_iconst (v := 0) hx hb dX5_weakest_64 (by decide) ?_
          refine lv_istore_n (lv' := [(3, .int 0), (0, .ref m0), (1, .int ch), (2, .int (nI i))]) hx hb dX5_weakest_65 rfl hl (by decide) rfl (fun ls hl => ?_)
          refine lv_iload_n hx hb dX5_weakest_66 rfl (lv_at hl 0 rfl) ?_
          refine lv_if_eq (tgt := 74) hx hb dX5_weakest_67 (by decide) (fun _ => ?_) (fun h0 => absurd h0 (by decide))
          refine lv_iload_n hx hb dX5_weakest_74 rfl (lv_at hl 2 rfl) ?_
          refine lv_istore_n (lv' := [(1, .int ch), (3, .int 0), (0, .ref m0), (2, .int (nI i))]) hx hb dX5_weakest_75 rfl hl (by decide) rfl (fun ls hl => ?_)
          refine lv_iinc (v := nI (i + 1)) (lv' := [(2, .int (nI (i + 1))), (1, .int ch), (3, .int 0), (0, .ref m0)]) hx hb dX5_weakest_76 hl (k := 3) rfl (nI_1 _) (by decide) rfl (fun ls hl => ?_)
          refine lv_goto (tgt := 4) hx hb dX5_weakest_79 (by decide) ?_
          exact ih4 (i + 1) _ ls (by omega) (by omega) (by rw [ech]; simp only [wk, c_32, ↓reduceIte]) (lv_sub hl [3, 1, 0] rfl)
        · refine lv_iload_n hx hb dX5_weakest_35 rfl (lv_at hl 1 rfl) ?_
          refine lv_if_lt (tgt := 60) hx hb dX5_weakest_36 (by decide) (fun c_36 => ?_) (fun c_36 => ?_)
          · have hj : wk (Gs (R 1)) i = none := by rcases h : wk (Gs (R 1)) i with _ | j; rfl; exact absurd (by rw [ech, h] at c_36; exact c_36) (nI_pos (n := j) (by have := wk_lt (Gs (R 1)) i j h; omega))
            refine lv_iconst (v := 1) hx hb dX5_weakest_60 (by decide) ?_
            refine lv_goto (tgt := 65) hx hb dX5_weakest_61 (by decide) ?_
            refine lv_istore_n (lv' := [(3, .int 1), (0, .ref m0), (1, .int ch), (2, .int (nI i))]) hx hb dX5_weakest_65 rfl hl (by decide) rfl (fun ls hl => ?_)
            refine lv_iload_n hx hb dX5_weakest_66 rfl (lv_at hl 0 rfl) ?_
            refine lv_if_eq (tgt := 74) hx hb dX5_weakest_67 (by decide) (fun h0 => absurd h0 (by decide)) (fun _ => ?_)
            refine lv_iload_n hx hb dX5_weakest_70 rfl (lv_at hl 3 rfl) ?_
            refine lv_goto (tgt := 75) hx hb dX5_weakest_71 (by decide) ?_
            refine lv_istore_n (lv' := [(1, .int (nI i)), (3, .int 1), (0, .ref m0), (2, .int (nI i))]) hx hb dX5_weakest_75 rfl hl (by decide) rfl (fun ls hl => ?_)
            refine lv_iinc (v := nI (i + 1)) (lv' := [(2, .int (nI (i + 1))), (1, .int (nI i)), (3, .int 1), (0, .ref m0)]) hx hb dX5_weakest_76 hl (k := 3) rfl (nI_1 _) (by decide) rfl (fun ls hl => ?_)
            refine lv_goto (tgt := 4) hx hb dX5_weakest_79 (by decide) ?_
            exact ih4 (i + 1) _ ls (by omega) (by omega) (by simp only [wk, c_32, hj, ↓reduceIte, wkI]) (lv_sub hl [3, 1, 0] rfl)
          · obtain ⟨j, hj⟩ : ∃ j, wk (Gs (R 1)) i = some j := by rcases h : wk (Gs (R 1)) i with _ | j; exact absurd (by rw [ech, h]; decide) c_36; exact ⟨j, rfl⟩
            have hjl := wk_lt (Gs (R 1)) i j hj
            have ech2 : ch = nI j := by rw [ech, hj]; rfl
            refine lv_aload_n hx hb dX5_weakest_39 rfl (lv_at hl 0 rfl) ?_
            refine va_get (D := (dC, dI)) (ci := 5) (v := .ref (a 1)) (C := RX5) (T := TX5) (N := 32) hx hb hts hin5 hown hK hP 0 rfl rfl 1 (by decide) f_9 (fun _ h9 => h9) rfl dX5_weakest_40 ?_
            refine lv_bipush (v := 34) hx hb dX5_weakest_43 (by decide) ?_
            refine lv_iload_n hx hb dX5_weakest_45 rfl (lv_at hl 2 rfl) ?_
            refine lv_iadd hx hb dX5_weakest_46 ?_
            refine wI_alv (v := Gs (R 1) 4 i) hx hb hK hP 1 0 rfl rfl (34 + i) (nadd rfl rfl) (by omega) (by decide) rfl dX5_weakest_47 ?_
            refine lv_aload_n hx hb dX5_weakest_48 rfl (lv_at hl 0 rfl) ?_
            refine va_get (D := (dC, dI)) (ci := 5) (v := .ref (a 1)) (C := RX5) (T := TX5) (N := 32) hx hb hts hin5 hown hK hP 0 rfl rfl 1 (by decide) f_9 (fun _ h9 => h9) rfl dX5_weakest_49 ?_
            refine lv_bipush (v := 34) hx hb dX5_weakest_52 (by decide) ?_
            refine lv_iload_n hx hb dX5_weakest_54 rfl (lv_at hl 1 rfl) ?_
            refine lv_iadd hx hb dX5_weakest_55 ?_
            refine wI_alv (v := Gs (R 1) 4 j) hx hb hK hP 1 0 rfl rfl (34 + j) (nadd rfl ech2) (by omega) (by decide) rfl dX5_weakest_56 ?_
            refine lv_icmp_ge (tgt := 64) hx hb dX5_weakest_57 (by decide) (fun c_57 => ?_) (fun c_57 => ?_)
            · refine lv_iconst (v := 0) hx hb dX5_weakest_64 (by decide) ?_
              refine lv_istore_n (lv' := [(3, .int 0), (0, .ref m0), (1, .int ch), (2, .int (nI i))]) hx hb dX5_weakest_65 rfl hl (by decide) rfl (fun ls hl => ?_)
              refine lv_iload_n hx hb dX5_weakest_66 rfl (lv_at hl 0 rfl) ?_
              refine lv_if_eq (tgt := 74) hx hb dX5_weakest_67 (by decide) (fun _ => ?_) (fun h0 => absurd h0 (by decide))
              refine lv_iload_n hx hb dX5_weakest_74 rfl (lv_at hl 2 rfl) ?_
              refine lv_istore_n (lv' := [(1, .int ch), (3, .int 0), (0, .ref m0), (2, .int (nI i))]) hx hb dX5_weakest_75 rfl hl (by decide) rfl (fun ls hl => ?_)
              refine lv_iinc (v := nI (i + 1)) (lv' := [(2, .int (nI (i + 1))), (1, .int ch), (3, .int 0), (0, .ref m0)]) hx hb dX5_weakest_76 hl (k := 3) rfl (nI_1 _) (by decide) rfl (fun ls hl => ?_)
              refine lv_goto (tgt := 4) hx hb dX5_weakest_79 (by decide) ?_
              exact ih4 (i + 1) _ ls (by omega) (by omega) (by rw [ech2]; simp only [wk, c_32, hj, c_57, ↓reduceIte, wkI]) (lv_sub hl [3, 1, 0] rfl)
            · refine lv_iconst (v := 1) hx hb dX5_weakest_60 (by decide) ?_
              refine lv_goto (tgt := 65) hx hb dX5_weakest_61 (by decide) ?_
              refine lv_istore_n (lv' := [(3, .int 1), (0, .ref m0), (1, .int ch), (2, .int (nI i))]) hx hb dX5_weakest_65 rfl hl (by decide) rfl (fun ls hl => ?_)
              refine lv_iload_n hx hb dX5_weakest_66 rfl (lv_at hl 0 rfl) ?_
              refine lv_if_eq (tgt := 74) hx hb dX5_weakest_67 (by decide) (fun h0 => absurd h0 (by decide)) (fun _ => ?_)
              refine lv_iload_n hx hb dX5_weakest_70 rfl (lv_at hl 3 rfl) ?_
              refine lv_goto (tgt := 75) hx hb dX5_weakest_71 (by decide) ?_
              refine lv_istore_n (lv' := [(1, .int (nI i)), (3, .int 1), (0, .ref m0), (2, .int (nI i))]) hx hb dX5_weakest_75 rfl hl (by decide) rfl (fun ls hl => ?_)
              refine lv_iinc (v := nI (i + 1)) (lv' := [(2, .int (nI (i + 1))), (1, .int (nI i)), (3, .int 1), (0, .ref m0)]) hx hb dX5_weakest_76 hl (k := 3) rfl (nI_1 _) (by decide) rfl (fun ls hl => ?_)
              refine lv_goto (tgt := 4) hx hb dX5_weakest_79 (by decide) ?_
              exact ih4 (i + 1) _ ls (by omega) (by omega) (by simp only [wk, c_32, hj, c_57, ↓reduceIte, wkI]) (lv_sub hl [3, 1, 0] rfl)
  exact loop4 (n + 1) 0 (-1) ls (Nat.zero_le _) (by omega) rfl (lv_sub hl [2, 1, 0] rfl)
set_option maxHeartbeats 1000000 in
set_option maxRecDepth 100000 in
/-- is there such a task -/
theorem c_X5_isTask (l : Launch) (dC : Nat → ClassId) (dI : Nat → Nat → Nat) (cy : Nat → ClassId) (m0 : Nat) (a : Nat → Nat) (I : Nat → Int32) (R : vG) (n : Nat) (hS0 : R 1 0 = nI n) (p0 : Int32) : Met l yX5_isTask wsX5_isTask ({ frames := 1, cells := 0, slots := 0, locals := 22 }) (va_Pc [.ref m0, .int p0] (fun U => va_P (dC, dI) vwCl (wMdl cy m0 a I R) U.heap ∧ EV dC dI cy U)) (vp_Si (fun r => r = (if ¬ p0 < 0 ∧ ¬ nI n - 1 < p0 then 1 else 0))) 0 0 (fun _ => False) := by
  refine Met.ofW (cc := cX5_isTask) (maxL := 2) (ret := some .boolean) (by decide) rfl ?_
  intro p e s m args below meth c s₁ B hml hv
  obtain ⟨rfl, hP, hE⟩ := hv
  have hK := hE.1
  have hx := B.exec
  have hb := B.bytes
  have hr := B.returns
  have hts := atoms_spec (ws := wsX5_isTask) B.pre
  have hown : s.vm.findClass RX5 = some m.cls := findClass_of_methodNamed B.named
  have hlocks := B.notSynchronized
  have hin5 : ∀ w ∈ u_ws RX5 TX5 32, w ∈ wsX5_isTask := by decide +kernel
  have f_9 := hts (.fieldLink RX5 9 "DeadlineAdmissionModel" "s" "[I") (by decide +kernel)
  have hl := lv_entry ([.ref m0, .int p0]) (n := 2) (Nat.le_of_ble_eq_true rfl)
  rw [lg_entry_eq]
  generalize (lg_sl ([.ref m0, .int p0]) ++ List.replicate (2 - (lg_sl ([.ref m0, .int p0])).length) Slot.unset).toArray = ls at hl ⊢
  have hl : lv_has ls 2 [(0, .ref m0), (1, .int p0)] := hl
  refine lv_iload_n hx hb dX5_isTask_0 rfl (lv_at hl 1 rfl) ?_
  refine lv_iconst (v := 0) hx hb dX5_isTask_1 (by decide) ?_
  refine lv_aload_n hx hb dX5_isTask_2 rfl (lv_at hl 0 rfl) ?_
  refine va_get (D := (dC, dI)) (ci := 5) (v := .ref (a 1)) (C := RX5) (T := TX5) (N := 32) hx hb hts hin5 hown hK hP 0 rfl rfl 1 (by decide) f_9 (fun _ h9 => h9) rfl dX5_isTask_3 ?_
  refine lv_iconst (v := 0) hx hb dX5_isTask_6 (by decide) ?_
  refine wI_alv (v := nI n) hx hb hK hP 1 0 rfl rfl 0 rfl (by omega) (by decide) hS0 dX5_isTask_7 ?_
  refine lv_iconst (v := 1) hx hb dX5_isTask_8 (by decide) ?_
  refine lv_isub hx hb dX5_isTask_9 ?_
  refine vp_callSi (va_runS (As := [.int p0, .int 0, .int ((nI n) - 1)]) (rest := []) ⟨hx, hb, hml, hown, hts⟩ (c_X5_in l p0 0 ((nI n) - 1)) (cwS 3 hts gX5_isTask_X5_in rfl rfl rfl (by decide +kernel) ⟨Nat.le_of_ble_eq_true rfl, Nat.le_of_ble_eq_true rfl⟩) ⟨fun a U g mk q => q, fun U hU hW => ⟨rfl, trivial⟩⟩ rfl rfl hl.1 rfl (lv_room (Nat.le_of_ble_eq_true rfl)) dX5_isTask_10 ⟨Nat.le_of_ble_eq_true rfl, Nat.le_of_ble_eq_true rfl⟩).run (fun r e_r => ?_)
  subst e_r
  exact W.zret (v := if ¬ p0 < 0 ∧ ¬ ((nI n) - 1) < p0 then 1 else 0) hx hb hr (by split <;> rfl) (fun t ht hW => ⟨_, rfl, rfl, ht⟩) (fun q hq => absurd hq List.not_mem_nil) dX5_isTask_13

/-! PART 27: the reference, texts -/
theorem rv2 (x y : Int32) : 10 * (10 * 0 + x - 48) + y - 48 = (x - 48) * 10 + y - 48 := by
  rw [show (10 : Int32) * 0 = 0 from by decide, Int32.zero_add, Int32.mul_comm]
theorem rv1 (x : Int32) : 10 * 0 + x - 48 = x - 48 := by
  rw [show (10 : Int32) * 0 = 0 from by decide, Int32.zero_add]
/-- what the reference's proposeText does -/
def qPText (I : Nat → Int32) (R : vG) (n : Nat) (G : vG) (ch L : Nat) (r : Int32) (u : (Nat → Int32) × vG) : Prop :=
  ∃ (y : Int32) (N : Nat → Int32), (¬ flt (R 7) L = -1 ∧ u = (upd (upd (upd (upd I 0 1) 8 0) 9 (flt (R 7) L)) 21 y, upr R 20 N)) ∨
    (flt (R 7) L = -1 ∧ qPropose (upd (upd (upd (upd I 0 0) 8 0) 9 (-1)) 21 y) (upr R 20 N) n G ch (nv (R 7) L 0) (nv (R 7) L 1) (nv (R 7) L 2) (nv (R 7) L 3) (nv (R 7) L 4) (nv (R 7) L 5) r u)
set_option maxHeartbeats 1000000 in
set_option maxRecDepth 100000 in
/-- the character at hand -/
theorem c_X5_here (l : Launch) (dC : Nat → ClassId) (dI : Nat → Nat → Nat) (cy : Nat → ClassId) (m0 : Nat) (a : Nat → Nat) (I : Nat → Int32) (R : vG) (L sp : Nat) (hL : L ≤ 30) (hsp : sp ≤ 60) (hI8 : I 8 = nI L) (hI21 : I 21 = nI sp) : Met l yX5_here wsX5_here ({ frames := 0, cells := 0, slots := 0, locals := 0 }) (va_Pc [.ref m0] (fun U => va_P (dC, dI) vwCl (wMdl cy m0 a I R) U.heap ∧ EV dC dI cy U)) (vp_Si (fun r => r = hrr (R 7) L sp)) 0 0 (fun _ => False) := by
  refine Met.ofW (cc := cX5_here) (maxL := 1) (ret := some .int) (by decide) rfl ?_
  intro p e s m args below meth c s₁ B hml hv
  obtain ⟨rfl, hP, hE⟩ := hv
  have hK := hE.1
  have hx := B.exec
  have hb := B.bytes
  have hr := B.returns
  have hts := atoms_spec (ws := wsX5_here) B.pre
  have hown : s.vm.findClass RX5 = some m.cls := findClass_of_methodNamed B.named
  have hlocks := B.notSynchronized
  have hin5 : ∀ w ∈ u_ws RX5 TX5 32, w ∈ wsX5_here := by decide +kernel
  have f_127 := hts (.fieldLink RX5 127 "DeadlineAdmissionModel" "spot" "I") (by decide +kernel)
  have f_130 := hts (.fieldLink RX5 130 "DeadlineAdmissionModel" "length" "I") (by decide +kernel)
  have f_22 := hts (.fieldLink RX5 22 "DeadlineAdmissionModel" "text" "[I") (by decide +kernel)
  have hl := lv_entry ([.ref m0]) (n := 1) (Nat.le_of_ble_eq_true rfl)
  rw [lg_entry_eq]
  generalize (lg_sl ([.ref m0]) ++ List.replicate (1 - (lg_sl ([.ref m0])).length) Slot.unset).toArray = ls at hl ⊢
  have hl : lv_has ls 1 [(0, .ref m0)] := hl
  refine lv_aload_n hx hb dX5_here_0 rfl (lv_at hl 0 rfl) ?_
  refine va_get (D := (dC, dI)) (ci := 5) (v := .int (I 21)) (C := RX5) (T := TX5) (N := 32) hx hb hts hin5 hown hK hP 0 rfl rfl 21 (by decide) f_127 (fun _ h9 => h9) rfl dX5_here_1 ?_
  refine lv_aload_n hx hb dX5_here_4 rfl (lv_at hl 0 rfl) ?_
  refine va_get (D := (dC, dI)) (ci := 5) (v := .int (I 8)) (C := RX5) (T := TX5) (N := 32) hx hb hts hin5 hown hK hP 0 rfl rfl 8 (by decide) f_130 (fun _ h9 => h9) rfl dX5_here_5 ?_
  refine lv_icmp_ge (tgt := 23) hx hb dX5_here_8 (by decide) (fun c_8 => ?_) (fun c_8 => ?_)
  · have hle : L ≤ sp := by rw [hI21, hI8] at c_8; exact (nI_leI (by omega) (by omega)).mp c_8
    refine lv_iconst (v := (-1)) hx hb dX5_here_23 (by decide) ?_
    exact W.iret (v := (-1)) hx hb hr (fun t ht hW => ⟨_, rfl, (by rw [hrr_out hle]), ht⟩) (fun q hq => absurd hq List.not_mem_nil) dX5_here_24
  · have hlt : sp < L := by rcases Nat.lt_or_ge sp L with q | q; exact q; exact absurd (by rw [hI21, hI8]; exact nI_le q (by omega)) c_8
    refine lv_aload_n hx hb dX5_here_11 rfl (lv_at hl 0 rfl) ?_
    refine va_get (D := (dC, dI)) (ci := 5) (v := .ref (a 7)) (C := RX5) (T := TX5) (N := 32) hx hb hts hin5 hown hK hP 0 rfl rfl 7 (by decide) f_22 (fun _ h9 => h9) rfl dX5_here_12 ?_
    refine lv_aload_n hx hb dX5_here_15 rfl (lv_at hl 0 rfl) ?_
    refine va_get (D := (dC, dI)) (ci := 5) (v := .int (I 21)) (C := RX5) (T := TX5) (N := 32) hx hb hts hin5 hown hK hP 0 rfl rfl 21 (by decide) f_127 (fun _ h9 => h9) rfl dX5_here_16 ?_
    refine wI_alv (v := R 7 sp) hx hb hK hP 5 0 rfl rfl sp hI21 (by omega) (by decide) rfl dX5_here_19 ?_
    refine lv_goto (tgt := 24) hx hb dX5_here_20 (by decide) ?_
    exact W.iret (v := R 7 sp) hx hb hr (fun t ht hW => ⟨_, rfl, (by rw [hrr_in hlt]), ht⟩) (fun q hq => absurd hq List.not_mem_nil) dX5_here_24
set_option maxHeartbeats 1000000 in
set_option maxRecDepth 100000 in
/-- a number of one or two digits -/
theorem c_X5_readsNumber (l : Launch) (dC : Nat → ClassId) (dI : Nat → Nat → Nat) (cy : Nat → ClassId) (sz : Nat) (m0 : Nat) (a : Nat → Nat) (I : Nat → Int32) (R : vG) (L sp kk : Nat) (hL : L ≤ 30) (hsp : sp ≤ 40) (hkk : kk < 6) (hI8 : I 8 = nI L) (hI21 : I 21 = nI sp) : Met l yX5_readsNumber wsX5_readsNumber ({ frames := 1, cells := 0, slots := 0, locals := 22 }) (va_Pc [.ref m0, .int (nI kk)] (pIn dC dI cy (wMdl cy m0 a I R) sz)) (va_Qi (fun (r : Int32) _ => r = (if rlen (R 7) L sp = 0 then 0 else 1)) (fun (u : Unit) t => va_P (dC, dI) vwCl (wMdl cy m0 a (upd I 21 (nI (sp + rlen (R 7) L sp))) (upr R 20 (upd (R 20) kk (rval (R 7) L sp)))) t.heap ∧ va_D (va_A (wMdl cy m0 a I R) sz) (wMdl cy m0 a (upd I 21 (nI (sp + rlen (R 7) L sp))) (upr R 20 (upd (R 20) kk (rval (R 7) L sp))))) (va_A (wMdl cy m0 a I R) sz)) 0 0 (va_A (wMdl cy m0 a I R) sz) := by
  refine Met.ofW (cc := cX5_readsNumber) (maxL := 4) (ret := some .boolean) (by decide) rfl ?_
  intro p e s m args below meth c s₁ B hml hv
  obtain ⟨rfl, hsz, hP, hE, hD0⟩ := hv
  have hK := hE.1
  subst hsz
  have hD := hD0.self (sz := s.heap.size)
  generalize hAe : va_A (wMdl cy m0 a I R) s.heap.size = A at hD ⊢
  have hA : ∀ q : Nat, s.heap.size ≤ q → A q := fun q h => by rw [← hAe]; exact Or.inr h
  have hS : va_S A s.heap s.heap [] := va_S.rf
  have hP : va_P (dC, dI) vwCl (wMdl cy m0 a I R) s.heap := hP
  have hx := B.exec
  have hb := B.bytes
  have hr := B.returns
  have hts := atoms_spec (ws := wsX5_readsNumber) B.pre
  have hown : s.vm.findClass RX5 = some m.cls := findClass_of_methodNamed B.named
  have hlocks := B.notSynchronized
  have hin5 : ∀ w ∈ u_ws RX5 TX5 32, w ∈ wsX5_readsNumber := by decide +kernel
  have f_127 := hts (.fieldLink RX5 127 "DeadlineAdmissionModel" "spot" "I") (by decide +kernel)
  have f_32 := hts (.fieldLink RX5 32 "DeadlineAdmissionModel" "numbers" "[I") (by decide +kernel)
  have hl := lv_entry ([.ref m0, .int (nI kk)]) (n := 4) (Nat.le_of_ble_eq_true rfl)
  rw [lg_entry_eq]
  generalize (lg_sl ([.ref m0, .int (nI kk)]) ++ List.replicate (4 - (lg_sl ([.ref m0, .int (nI kk)])).length) Slot.unset).toArray = ls at hl ⊢
  have hl : lv_has ls 4 [(0, .ref m0), (1, .int (nI kk))] := hl
  refine lv_iconst (v := 0) hx hb dX5_readsNumber_0 (by decide) ?_
  refine lv_istore_n (lv' := [(2, .int 0), (0, .ref m0), (1, .int (nI kk))]) hx hb dX5_readsNumber_1 rfl hl (by decide) rfl (fun ls hl => ?_)
  refine lv_iconst (v := 0) hx hb dX5_readsNumber_2 (by decide) ?_
  refine lv_istore_n (lv' := [(3, .int 0), (2, .int 0), (0, .ref m0), (1, .int (nI kk))]) hx hb dX5_readsNumber_3 rfl hl (by decide) rfl (fun ls hl => ?_)
  refine lv_iload_n hx hb dX5_readsNumber_4 rfl (lv_at hl 0 rfl) ?_
  refine lv_iconst (v := 2) hx hb dX5_readsNumber_5 (by decide) ?_
  refine lv_icmp_ge (tgt := 52) hx hb dX5_readsNumber_6 (by decide) (fun h0 => absurd h0 (by decide)) (fun _ => ?_)
  refine lv_aload_n hx hb dX5_readsNumber_9 rfl (lv_at hl 2 rfl) ?_
  refine vp_callSi (va_runV (As := []) (rest := []) ⟨hx, hb, hml, hown, hts⟩ (c_X5_here l dC dI cy m0 a I R L sp (by omega) (by omega) hI8 hI21) (cwV 0 hts gX5_readsNumber_X5_here rfl rfl rfl (by decide +kernel) ⟨Nat.le_of_ble_eq_true rfl, Nat.le_of_ble_eq_true rfl⟩) ⟨bl_ro, va_recv hK hP (ci := 5) (q0 := 0) rfl rfl, pr_ro hP hE⟩ rfl rfl hl.1 rfl (lv_room (Nat.le_of_ble_eq_true rfl)) dX5_readsNumber_10 ⟨Nat.le_of_ble_eq_true rfl, Nat.le_of_ble_eq_true rfl⟩).run (fun r e_r => ?_)
  subst e_r
  refine lv_bipush (v := 48) hx hb dX5_readsNumber_13 (by decide) ?_
  refine lv_bipush (v := 57) hx hb dX5_readsNumber_15 (by decide) ?_
  refine vp_callSi (va_runS (As := [.int (hrr (R 7) L sp), .int 48, .int 57]) (rest := []) ⟨hx, hb, hml, hown, hts⟩ (c_X5_in l (hrr (R 7) L sp) 48 57) (cwS 3 hts gX5_readsNumber_X5_in rfl rfl rfl (by decide +kernel) ⟨Nat.le_of_ble_eq_true rfl, Nat.le_of_ble_eq_true rfl⟩) ⟨fun a U g mk q => q, fun U hU hW => ⟨rfl, trivial⟩⟩ rfl rfl hl.1 rfl (lv_room (Nat.le_of_ble_eq_true rfl)) dX5_readsNumber_17 ⟨Nat.le_of_ble_eq_true rfl, Nat.le_of_ble_eq_true rfl⟩).run (fun r e_r => ?_)
  subst e_r
  refine lv_if_eq (tgt := 52) hx hb dX5_readsNumber_20 (by decide) (fun c_20 => ?_) (fun c_20 => ?_)
  · refine lv_aload_n hx hb dX5_readsNumber_52 rfl (lv_at hl 2 rfl) ?_
    refine va_get (D := (dC, dI)) (ci := 5) (v := .ref (a 20)) (C := RX5) (T := TX5) (N := 32) hx hb hts hin5 hown hK hP 0 rfl rfl 20 (by decide) f_32 (fun _ h9 => h9) rfl dX5_readsNumber_53 ?_
    refine lv_iload_n hx hb dX5_readsNumber_56 rfl (lv_at hl 3 rfl) ?_
    refine lv_iload_n hx hb dX5_readsNumber_57 rfl (lv_at hl 1 rfl) ?_
    refine wI_ast hx hb hK hP hD hS 7 0 rfl rfl kk rfl (by omega) (by decide) dX5_readsNumber_58 (fun H locs hP hD hS => ?_)
    have hP : va_P (dC, dI) vwCl (wMdl cy m0 a I (upr R 20 (upd (R 20) kk 0))) H := hP
    have hD : va_D A (wMdl cy m0 a I (upr R 20 (upd (R 20) kk 0))) := hD
    refine lv_iload_n hx hb dX5_readsNumber_59 rfl (lv_at hl 0 rfl) ?_
    refine lv_if_le (tgt := 67) hx hb dX5_readsNumber_60 (by decide) (fun _ => ?_) (fun h0 => absurd h0 (by decide))
    refine lv_iconst (v := 0) hx hb dX5_readsNumber_67 (by decide) ?_
    have d0 : ¬ isd (R 7) L sp := b10.mp c_20
    have el : rlen (R 7) L sp = 0 := if_neg d0
    have ev : rval (R 7) L sp = 0 := if_neg d0
    have hP9 : va_P (dC, dI) vwCl (wMdl cy m0 a (upd I 21 (nI (sp + rlen (R 7) L sp))) (upr R 20 (upd (R 20) kk (rval (R 7) L sp)))) H := (by rw [el, ev, show nI (sp + 0) = I 21 from hI21.symm, upd_self]; exact hP)
    have hD9 : va_D A (wMdl cy m0 a (upd I 21 (nI (sp + rlen (R 7) L sp))) (upr R 20 (upd (R 20) kk (rval (R 7) L sp)))) := (by rw [el, ev, show nI (sp + 0) = I 21 from hI21.symm, upd_self]; exact hD)
    exact W.zret (v := 0) hx hb hr (by decide) (fun t ht hW => ⟨⟨0, (), rfl, (by rw [el]; rfl), by rw [ht]; exact hP9, hD9⟩, hS.F ht⟩) hS.2.2 dX5_readsNumber_68
  · refine lv_bipush (v := 10) hx hb dX5_readsNumber_23 (by decide) ?_
    refine lv_iload_n hx hb dX5_readsNumber_25 rfl (lv_at hl 1 rfl) ?_
    refine lv_imul hx hb dX5_readsNumber_26 ?_
    refine lv_aload_n hx hb dX5_readsNumber_27 rfl (lv_at hl 2 rfl) ?_
    refine vp_callSi (va_runV (As := []) (rest := [.int (10 * 0)]) ⟨hx, hb, hml, hown, hts⟩ (c_X5_here l dC dI cy m0 a I R L sp (by omega) (by omega) hI8 hI21) (cwV 0 hts gX5_readsNumber_X5_here rfl rfl rfl (by decide +kernel) ⟨Nat.le_of_ble_eq_true rfl, Nat.le_of_ble_eq_true rfl⟩) ⟨bl_ro, va_recv hK hP (ci := 5) (q0 := 0) rfl rfl, pr_ro hP hE⟩ rfl rfl hl.1 rfl (lv_room (Nat.le_of_ble_eq_true rfl)) dX5_readsNumber_28 ⟨Nat.le_of_ble_eq_true rfl, Nat.le_of_ble_eq_true rfl⟩).run (fun r e_r => ?_)
    subst e_r
    refine lv_iadd hx hb dX5_readsNumber_31 ?_
    refine lv_bipush (v := 48) hx hb dX5_readsNumber_32 (by decide) ?_
    refine lv_isub hx hb dX5_readsNumber_34 ?_
    refine lv_istore_n (lv' := [(2, .int (((10 * 0) + (hrr (R 7) L sp)) - 48)), (3, .int 0), (0, .ref m0), (1, .int (nI kk))]) hx hb dX5_readsNumber_35 rfl hl (by decide) rfl (fun ls hl => ?_)
    refine lv_iinc (v := 1) (lv' := [(3, .int 1), (2, .int (((10 * 0) + (hrr (R 7) L sp)) - 48)), (0, .ref m0), (1, .int (nI kk))]) hx hb dX5_readsNumber_36 hl (k := 1) rfl rfl (by decide) rfl (fun ls hl => ?_)
    refine lv_aload_n hx hb dX5_readsNumber_39 rfl (lv_at hl 2 rfl) ?_
    refine lv_dup hx hb dX5_readsNumber_40 rfl ?_
    refine va_get (D := (dC, dI)) (ci := 5) (v := .int (I 21)) (C := RX5) (T := TX5) (N := 32) hx hb hts hin5 hown hK hP 0 rfl rfl 21 (by decide) f_127 (fun _ h9 => h9) rfl dX5_readsNumber_41 ?_
    refine lv_iconst (v := 1) hx hb dX5_readsNumber_44 (by decide) ?_
    refine lv_iadd hx hb dX5_readsNumber_45 ?_
    refine lv_topi (fun y_ ey_ => ?_)
    obtain rfl : y_ = nI (sp + 1) := ey_.trans (by rw [hI21]; exact nI_1 sp)
    refine va_put (D := (dC, dI)) (ci := 5) (v := .int (nI (sp + 1))) (ty := .int) (C := RX5) (T := TX5) (N := 32) hx hb hts hin5 tyX5 tyX5_ok nmX5 hown hK hP hD hS 0 rfl rfl 21 (by decide) f_127 (fun _ h9 => h9) rfl (by decide +kernel) rfl rfl (Nat.le_of_ble_eq_true rfl) dX5_readsNumber_46 (fun H locs hP hD hS => ?_)
    have hP : va_P (dC, dI) vwCl (wMdl cy m0 a (upd I 21 (nI (sp + 1))) R) H := hP
    have hD : va_D A (wMdl cy m0 a (upd I 21 (nI (sp + 1))) R) := hD
    refine lv_goto (tgt := 4) hx hb dX5_readsNumber_49 (by decide) ?_
    refine lv_iload_n hx hb dX5_readsNumber_4 rfl (lv_at hl 0 rfl) ?_
    refine lv_iconst (v := 2) hx hb dX5_readsNumber_5 (by decide) ?_
    refine lv_icmp_ge (tgt := 52) hx hb dX5_readsNumber_6 (by decide) (fun h0 => absurd h0 (by decide)) (fun _ => ?_)
    refine lv_aload_n hx hb dX5_readsNumber_9 rfl (lv_at hl 2 rfl) ?_
    refine vp_callSi (va_runV (As := []) (rest := []) ⟨hx, hb, hml, hown, hts⟩ (c_X5_here l dC dI cy m0 a (upd I 21 (nI (sp + 1))) R L (sp + 1) (by omega) (by omega) hI8 rfl) (cwV 0 hts gX5_readsNumber_X5_here rfl rfl rfl (by decide +kernel) ⟨Nat.le_of_ble_eq_true rfl, Nat.le_of_ble_eq_true rfl⟩) ⟨bl_ro, va_recv hK hP (ci := 5) (q0 := 0) rfl rfl, pr_ro hP hE⟩ rfl rfl hl.1 rfl (lv_room (Nat.le_of_ble_eq_true rfl)) dX5_readsNumber_10 ⟨Nat.le_of_ble_eq_true rfl, Nat.le_of_ble_eq_true rfl⟩).run (fun r e_r => ?_)
    subst e_r
    refine lv_topi (fun y_ ey_ => ?_)
    obtain rfl : y_ = hrr (R 7) L (sp + 1) := ey_
    refine lv_bipush (v := 48) hx hb dX5_readsNumber_13 (by decide) ?_
    refine lv_bipush (v := 57) hx hb dX5_readsNumber_15 (by decide) ?_
    refine vp_callSi (va_runS (As := [.int (hrr (R 7) L (sp + 1)), .int 48, .int 57]) (rest := []) ⟨hx, hb, hml, hown, hts⟩ (c_X5_in l (hrr (R 7) L (sp + 1)) 48 57) (cwS 3 hts gX5_readsNumber_X5_in rfl rfl rfl (by decide +kernel) ⟨Nat.le_of_ble_eq_true rfl, Nat.le_of_ble_eq_true rfl⟩) ⟨fun a U g mk q => q, fun U hU hW => ⟨rfl, trivial⟩⟩ rfl rfl hl.1 rfl (lv_room (Nat.le_of_ble_eq_true rfl)) dX5_readsNumber_17 ⟨Nat.le_of_ble_eq_true rfl, Nat.le_of_ble_eq_true rfl⟩).run (fun r e_r => ?_)
    subst e_r
    refine lv_topi (fun y_ ey_ => ?_)
    obtain rfl : y_ = if ¬ (hrr (R 7) L (sp + 1)) < 48 ∧ ¬ 57 < (hrr (R 7) L (sp + 1)) then 1 else 0 := ey_
    refine lv_if_eq (tgt := 52) hx hb dX5_readsNumber_20 (by decide) (fun c_20_1 => ?_) (fun c_20_1 => ?_)
    · refine lv_aload_n hx hb dX5_readsNumber_52 rfl (lv_at hl 2 rfl) ?_
      refine va_get (D := (dC, dI)) (ci := 5) (v := .ref (a 20)) (C := RX5) (T := TX5) (N := 32) hx hb hts hin5 hown hK hP 0 rfl rfl 20 (by decide) f_32 (fun _ h9 => h9) rfl dX5_readsNumber_53 ?_
      refine lv_iload_n hx hb dX5_readsNumber_56 rfl (lv_at hl 3 rfl) ?_
      refine lv_iload_n hx hb dX5_readsNumber_57 rfl (lv_at hl 1 rfl) ?_
      refine wI_ast hx hb hK hP hD hS 7 0 rfl rfl kk rfl (by omega) (by decide) dX5_readsNumber_58 (fun H locs hP hD hS => ?_)
      have hP : va_P (dC, dI) vwCl (wMdl cy m0 a (upd I 21 (nI (sp + 1))) (upr R 20 (upd (R 20) kk (((10 * 0) + (hrr (R 7) L sp)) - 48)))) H := hP
      have hD : va_D A (wMdl cy m0 a (upd I 21 (nI (sp + 1))) (upr R 20 (upd (R 20) kk (((10 * 0) + (hrr (R 7) L sp)) - 48)))) := hD
      refine lv_iload_n hx hb dX5_readsNumber_59 rfl (lv_at hl 0 rfl) ?_
      refine lv_if_le (tgt := 67) hx hb dX5_readsNumber_60 (by decide) (fun h0 => absurd h0 (by decide)) (fun _ => ?_)
      refine lv_iconst (v := 1) hx hb dX5_readsNumber_63 (by decide) ?_
      refine lv_goto (tgt := 68) hx hb dX5_readsNumber_64 (by decide) ?_
      have d0 : isd (R 7) L sp := nb10 c_20
      have d1 : ¬ isd (R 7) L (sp + 1) := b10.mp c_20_1
      have el : rlen (R 7) L sp = 1 := (if_pos d0).trans (if_neg d1)
      have ev : rval (R 7) L sp = hrr (R 7) L sp - 48 := (if_pos d0).trans (if_neg d1)
      have hP9 : va_P (dC, dI) vwCl (wMdl cy m0 a (upd I 21 (nI (sp + rlen (R 7) L sp))) (upr R 20 (upd (R 20) kk (rval (R 7) L sp)))) H := (by rw [el, ev, ← rv1]; exact hP)
      have hD9 : va_D A (wMdl cy m0 a (upd I 21 (nI (sp + rlen (R 7) L sp))) (upr R 20 (upd (R 20) kk (rval (R 7) L sp)))) := (by rw [el, ev, ← rv1]; exact hD)
      exact W.zret (v := 1) hx hb hr (by decide) (fun t ht hW => ⟨⟨1, (), rfl, (by rw [el]; rfl), by rw [ht]; exact hP9, hD9⟩, hS.F ht⟩) hS.2.2 dX5_readsNumber_68
    · refine lv_bipush (v := 10) hx hb dX5_readsNumber_23 (by decide) ?_
      refine lv_iload_n hx hb dX5_readsNumber_25 rfl (lv_at hl 1 rfl) ?_
      refine lv_imul hx hb dX5_readsNumber_26 ?_
      refine lv_aload_n hx hb dX5_readsNumber_27 rfl (lv_at hl 2 rfl) ?_
      refine vp_callSi (va_runV (As := []) (rest := [.int (10 * (((10 * 0) + (hrr (R 7) L sp)) - 48))]) ⟨hx, hb, hml, hown, hts⟩ (c_X5_here l dC dI cy m0 a (upd I 21 (nI (sp + 1))) R L (sp + 1) (by omega) (by omega) hI8 rfl) (cwV 0 hts gX5_readsNumber_X5_here rfl rfl rfl (by decide +kernel) ⟨Nat.le_of_ble_eq_true rfl, Nat.le_of_ble_eq_true rfl⟩) ⟨bl_ro, va_recv hK hP (ci := 5) (q0 := 0) rfl rfl, pr_ro hP hE⟩ rfl rfl hl.1 rfl (lv_room (Nat.le_of_ble_eq_true rfl)) dX5_readsNumber_28 ⟨Nat.le_of_ble_eq_true rfl, Nat.le_of_ble_eq_true rfl⟩).run (fun r e_r => ?_)
      subst e_r
      refine lv_topi (fun y_ ey_ => ?_)
      obtain rfl : y_ = hrr (R 7) L (sp + 1) := ey_
      refine lv_iadd hx hb dX5_readsNumber_31 ?_
      refine lv_bipush (v := 48) hx hb dX5_readsNumber_32 (by decide) ?_
      refine lv_isub hx hb dX5_readsNumber_34 ?_
      refine lv_istore_n (lv' := [(2, .int (((10 * (((10 * 0) + (hrr (R 7) L sp)) - 48)) + (hrr (R 7) L (sp + 1))) - 48)), (3, .int 1), (0, .ref m0), (1, .int (nI kk))]) hx hb dX5_readsNumber_35 rfl hl (by decide) rfl (fun ls hl => ?_)
      refine lv_iinc (v := 2) (lv' := [(3, .int 2), (2, .int (((10 * (((10 * 0) + (hrr (R 7) L sp)) - 48)) + (hrr (R 7) L (sp + 1))) - 48)), (0, .ref m0), (1, .int (nI kk))]) hx hb dX5_readsNumber_36 hl (k := 1) rfl rfl (by decide) rfl (fun ls hl => ?_)
      refine lv_aload_n hx hb dX5_readsNumber_39 rfl (lv_at hl 2 rfl) ?_
      refine lv_dup hx hb dX5_readsNumber_40 rfl ?_
      refine va_get (D := (dC, dI)) (ci := 5) (v := .int (nI (sp + 1))) (C := RX5) (T := TX5) (N := 32) hx hb hts hin5 hown hK hP 0 rfl rfl 21 (by decide) f_127 (fun _ h9 => h9) rfl dX5_readsNumber_41 ?_
      refine lv_iconst (v := 1) hx hb dX5_readsNumber_44 (by decide) ?_
      refine lv_iadd hx hb dX5_readsNumber_45 ?_
      refine lv_topi (fun y_ ey_ => ?_)
      obtain rfl : y_ = nI (sp + 2) := ey_.trans (nI_1 (sp + 1))
      refine va_put (D := (dC, dI)) (ci := 5) (v := .int (nI (sp + 2))) (ty := .int) (C := RX5) (T := TX5) (N := 32) hx hb hts hin5 tyX5 tyX5_ok nmX5 hown hK hP hD hS 0 rfl rfl 21 (by decide) f_127 (fun _ h9 => h9) rfl (by decide +kernel) rfl rfl (Nat.le_of_ble_eq_true rfl) dX5_readsNumber_46 (fun H locs hP hD hS => ?_)
      have hP : va_P (dC, dI) vwCl (wMdl cy m0 a (upd I 21 (nI (sp + 2))) R) H := hP
      have hD : va_D A (wMdl cy m0 a (upd I 21 (nI (sp + 2))) R) := hD
      refine lv_goto (tgt := 4) hx hb dX5_readsNumber_49 (by decide) ?_
      refine lv_iload_n hx hb dX5_readsNumber_4 rfl (lv_at hl 0 rfl) ?_
      refine lv_iconst (v := 2) hx hb dX5_readsNumber_5 (by decide) ?_
      refine lv_icmp_ge (tgt := 52) hx hb dX5_readsNumber_6 (by decide) (fun _ => ?_) (fun h0 => absurd h0 (by decide))
      refine lv_aload_n hx hb dX5_readsNumber_52 rfl (lv_at hl 2 rfl) ?_
      refine va_get (D := (dC, dI)) (ci := 5) (v := .ref (a 20)) (C := RX5) (T := TX5) (N := 32) hx hb hts hin5 hown hK hP 0 rfl rfl 20 (by decide) f_32 (fun _ h9 => h9) rfl dX5_readsNumber_53 ?_
      refine lv_iload_n hx hb dX5_readsNumber_56 rfl (lv_at hl 3 rfl) ?_
      refine lv_iload_n hx hb dX5_readsNumber_57 rfl (lv_at hl 1 rfl) ?_
      refine wI_ast hx hb hK hP hD hS 7 0 rfl rfl kk rfl (by omega) (by decide) dX5_readsNumber_58 (fun H locs hP hD hS => ?_)
      have hP : va_P (dC, dI) vwCl (wMdl cy m0 a (upd I 21 (nI (sp + 2))) (upr R 20 (upd (R 20) kk (((10 * (((10 * 0) + (hrr (R 7) L sp)) - 48)) + (hrr (R 7) L (sp + 1))) - 48)))) H := hP
      have hD : va_D A (wMdl cy m0 a (upd I 21 (nI (sp + 2))) (upr R 20 (upd (R 20) kk (((10 * (((10 * 0) + (hrr (R 7) L sp)) - 48)) + (hrr (R 7) L (sp + 1))) - 48)))) := hD
      refine lv_iload_n hx hb dX5_readsNumber_59 rfl (lv_at hl 0 rfl) ?_
      refine lv_if_le (tgt := 67) hx hb dX5_readsNumber_60 (by decide) (fun h0 => absurd h0 (by decide)) (fun _ => ?_)
      refine lv_iconst (v := 1) hx hb dX5_readsNumber_63 (by decide) ?_
      refine lv_goto (tgt := 68) hx hb dX5_readsNumber_64 (by decide) ?_
      have d0 : isd (R 7) L sp := nb10 c_20
      have d1 : isd (R 7) L (sp + 1) := nb10 c_20_1
      have el : rlen (R 7) L sp = 2 := (if_pos d0).trans (if_pos d1)
      have ev : rval (R 7) L sp = (hrr (R 7) L sp - 48) * 10 + hrr (R 7) L (sp + 1) - 48 := (if_pos d0).trans (if_pos d1)
      have hP9 : va_P (dC, dI) vwCl (wMdl cy m0 a (upd I 21 (nI (sp + rlen (R 7) L sp))) (upr R 20 (upd (R 20) kk (rval (R 7) L sp)))) H := (by rw [el, ev, ← rv2]; exact hP)
      have hD9 : va_D A (wMdl cy m0 a (upd I 21 (nI (sp + rlen (R 7) L sp))) (upr R 20 (upd (R 20) kk (rval (R 7) L sp)))) := (by rw [el, ev, ← rv2]; exact hD)
      exact W.zret (v := 1) hx hb hr (by decide) (fun t ht hW => ⟨⟨1, (), rfl, (by rw [el]; rfl), by rw [ht]; exact hP9, hD9⟩, hS.F ht⟩) hS.2.2 dX5_readsNumber_68

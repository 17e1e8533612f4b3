/-! PART 30: the reference, the descending test -/
theorem isT9 {n : Nat} (hn : n < 1000) (p0 : Int32) : (¬ p0 < 0 ∧ ¬ nI n - 1 < p0) → ∃ i, i < n ∧ p0 = nI i := by
  intro h
  obtain ⟨j, hj, rfl⟩ := nI_of h.1
  refine ⟨j, ?_, rfl⟩
  rcases Nat.lt_or_ge j n with q | q
  · exact q
  · exfalso
    apply h.2
    rcases Nat.eq_zero_or_pos n with e | e
    · subst e; rw [Int32.lt_iff_toInt_lt, nI_toInt hj]; have : (nI 0 - 1).toInt = -1 := by decide
      omega
    · rw [show nI n - 1 = nI (n - 1) from nsub rfl rfl e]
      exact nI_lt (by omega) hj
theorem cT_ok9 {n i : Nat} (hn : n < 1000) (h : i < n) : cT n (nI i) = 0 := by
  unfold cT
  rw [if_neg]
  rintro (q | q)
  · exact nI_pos (by omega) q
  · exact nI_ge h (by omega) q
theorem cT_no9 {n : Nat} (hn : n < 1000) {p0 : Int32} (h : ¬ (¬ p0 < 0 ∧ ¬ nI n - 1 < p0)) : cT n p0 = 1 := by
  unfold cT
  rw [if_pos]
  by_cases q : p0 < 0
  · exact Or.inl q
  · refine Or.inr ?_
    obtain ⟨j, hj, rfl⟩ := nI_of q
    rcases Nat.lt_or_ge j n with r | r
    · exfalso
      apply h
      refine ⟨q, ?_⟩
      rw [show nI n - 1 = nI (n - 1) from nsub rfl rfl (by omega)]
      exact nI_nlt (by omega) (by omega)
    · exact nI_le r hj
theorem dcnt_le (G : vG) (n : Nat) (sc : Int32) : ∀ (f : Nat) (p : Int32), dcnt G n sc f p ≤ f := by
  intro f
  induction f with
  | zero => intro p; exact Nat.le_refl 0
  | succ f ih =>
    intro p
    simp only [dcnt]
    split
    · omega
    · have := ih (dnext G n sc p); omega
theorem dlen_le (G : vG) (n : Nat) (sc : Int32) : dlen G n sc ≤ 200 := dcnt_le G n sc 200 _
set_option maxHeartbeats 1000000 in
set_option maxRecDepth 100000 in
/-- is it a test point -/
theorem c_X5_isReleasePoint (l : Launch) (dC : Nat → ClassId) (dI : Nat → Nat → Nat) (cy : Nat → ClassId) (m0 : Nat) (a : Nat → Nat) (I : Nat → Int32) (R : vG) (n : Nat) (hn : n ≤ 8) (hS0 : R 1 0 = nI n) (hG : okG (Gs (R 1)) n) (p0 : Int32) : Met l yX5_isReleasePoint wsX5_isReleasePoint ({ frames := 2, cells := 0, slots := 0, locals := 43 }) (va_Pc [.ref m0, .int p0] (fun U => va_P (dC, dI) vwCl (wMdl cy m0 a I R) U.heap ∧ EV dC dI cy U)) (vp_Si (fun r => r = (if rpI (Gs (R 1)) (R 1 1) p0 n = true then 1 else 0))) 0 0 (fun _ => False) := by
  refine Met.ofW (cc := cX5_isReleasePoint) (maxL := 4) (ret := some .boolean) (by decide) rfl ?_
  intro p e s m args below meth c s₁ B hml hv
  obtain ⟨rfl, hP, hE⟩ := hv
  have hK := hE.1
  have hx := B.exec
  have hb := B.bytes
  have hr := B.returns
  have hts := atoms_spec (ws := wsX5_isReleasePoint) B.pre
  have hown : s.vm.findClass RX5 = some m.cls := findClass_of_methodNamed B.named
  have hlocks := B.notSynchronized
  have hin5 : ∀ w ∈ u_ws RX5 TX5 32, w ∈ wsX5_isReleasePoint := by decide +kernel
  have f_9 := hts (.fieldLink RX5 9 "DeadlineAdmissionModel" "s" "[I") (by decide +kernel)
  have hl := lv_entry ([.ref m0, .int p0]) (n := 4) (Nat.le_of_ble_eq_true rfl)
  rw [lg_entry_eq]
  generalize (lg_sl ([.ref m0, .int p0]) ++ List.replicate (4 - (lg_sl ([.ref m0, .int p0])).length) Slot.unset).toArray = ls at hl ⊢
  have hl : lv_has ls 4 [(0, .ref m0), (1, .int p0)] := hl
  refine lv_iconst (v := 0) hx hb dX5_isReleasePoint_0 (by decide) ?_
  refine lv_istore_n (lv' := [(2, .int 0), (0, .ref m0), (1, .int p0)]) hx hb dX5_isReleasePoint_1 rfl hl (by decide) rfl (fun ls hl => ?_)
  refine lv_iconst (v := 0) hx hb dX5_isReleasePoint_2 (by decide) ?_
  refine lv_istore_n (lv' := [(3, .int 0), (2, .int 0), (0, .ref m0), (1, .int p0)]) hx hb dX5_isReleasePoint_3 rfl hl (by decide) rfl (fun ls hl => ?_)
  have loop4 : ∀ (k : Nat) (i : Nat) (is : Int32) (ls : Array Slot), i ≤ n → n < i + k → is = (if rpI (Gs (R 1)) (R 1 1) p0 i = true then 1 else 0) → lv_has ls 4 [(0, .ref m0), (1, .int p0), (2, .int is), (3, .int (nI i))] → W p l e (headSpec wsX5_isReleasePoint ({ frames := 2, cells := 0, slots := 0, locals := 43 }) |>.room) s m (([.ref m0, .int p0].toArray)) below meth c s.heap [] 0 0 (MQ below (vp_Si (fun r => r = (if rpI (Gs (R 1)) (R 1 1) p0 n = true then 1 else 0))) ([.ref m0, .int p0].toArray) s 0 0 (fun _ => False)) (F0 m 4 ls []) := by
    intro k
    induction k with
    | zero =>
      intro i is ls hi hk eis
      exfalso; omega
    | succ k ih4 =>
      intro i is ls hi hk eis hl
      refine lv_iload_n hx hb dX5_isReleasePoint_4 rfl (lv_at hl 3 rfl) ?_
      refine lv_aload_n hx hb dX5_isReleasePoint_5 rfl (lv_at hl 0 rfl) ?_
      refine va_get (D := (dC, dI)) (ci := 5) (v := .ref (a 1)) (C := RX5) (T := TX5) (N := 32) hx hb hts hin5 hown hK hP 0 rfl rfl 1 (by decide) f_9 (fun _ h9 => h9) rfl dX5_isReleasePoint_6 ?_
      refine lv_iconst (v := 0) hx hb dX5_isReleasePoint_9 (by decide) ?_
      refine wI_alv (v := nI n) hx hb hK hP 1 0 rfl rfl 0 rfl (by omega) (by decide) hS0 dX5_isReleasePoint_10 ?_
      refine lv_icmp_ge (tgt := 55) hx hb dX5_isReleasePoint_11 (by decide) (fun c_11 => ?_) (fun c_11 => ?_)
      · have e_i : i = n := Nat.le_antisymm hi ((nI_leI (by omega) (by omega)).mp c_11)
        refine lv_iload_n hx hb dX5_isReleasePoint_55 rfl (lv_at hl 2 rfl) ?_
        exact W.zret (v := is) hx hb hr (by rw [eis]; split <;> rfl) (fun t ht hW => ⟨_, rfl, (by rw [eis, e_i]), ht⟩) (fun q hq => absurd hq List.not_mem_nil) dX5_isReleasePoint_56
      · have hlt : i < n := Nat.lt_of_not_le (fun h => c_11 (nI_le h (by omega)))
        refine lv_iload_n hx hb dX5_isReleasePoint_14 rfl (lv_at hl 2 rfl) ?_
        refine lv_if_ne (tgt := 43) hx hb dX5_isReleasePoint_15 (by decide) (fun c_15 => ?_) (fun c_15 => ?_)
        · refine lv_iconst (v := 1) hx hb dX5_isReleasePoint_43 (by decide) ?_
          refine lv_goto (tgt := 48) hx hb dX5_isReleasePoint_44 (by decide) ?_
          refine lv_istore_n (lv' := [(2, .int 1), (0, .ref m0), (1, .int p0), (3, .int (nI i))]) hx hb dX5_isReleasePoint_48 rfl hl (by decide) rfl (fun ls hl => ?_)
          refine lv_iinc (v := nI (i + 1)) (lv' := [(3, .int (nI (i + 1))), (2, .int 1), (0, .ref m0), (1, .int p0)]) hx hb dX5_isReleasePoint_49 hl (k := 3) rfl (nI_1 _) (by decide) rfl (fun ls hl => ?_)
          refine lv_goto (tgt := 4) hx hb dX5_isReleasePoint_52 (by decide) ?_
          exact ih4 (i + 1) _ ls (by omega) (by omega) (by simp only [rpI, bool_if eis c_15, Bool.true_or, ↓reduceIte]) (lv_sub hl [2, 3, 1, 0] rfl)
        · refine lv_iload_n hx hb dX5_isReleasePoint_18 rfl (lv_at hl 1 rfl) ?_
          refine lv_aload_n hx hb dX5_isReleasePoint_19 rfl (lv_at hl 0 rfl) ?_
          refine lv_iload_n hx hb dX5_isReleasePoint_20 rfl (lv_at hl 3 rfl) ?_
          refine vp_callSi (va_runV (As := [.int (nI i)]) (rest := [.int p0]) ⟨hx, hb, hml, hown, hts⟩ (c_X5_virtualOf l dC dI cy m0 a I R  i (by omega) (hG _ hlt)) (cwV 1 hts gX5_isReleasePoint_X5_virtualOf rfl rfl rfl (by decide +kernel) ⟨Nat.le_of_ble_eq_true rfl, Nat.le_of_ble_eq_true rfl⟩) ⟨bl_ro, va_recv hK hP (ci := 5) (q0 := 0) rfl rfl, pr_ro hP hE⟩ rfl rfl hl.1 rfl (lv_room (Nat.le_of_ble_eq_true rfl)) dX5_isReleasePoint_21 ⟨Nat.le_of_ble_eq_true rfl, Nat.le_of_ble_eq_true rfl⟩).run (fun r e_r => ?_)
          subst e_r
          refine lv_icmp_lt (tgt := 47) hx hb dX5_isReleasePoint_24 (by decide) (fun c_24 => ?_) (fun c_24 => ?_)
          · refine lv_iconst (v := 0) hx hb dX5_isReleasePoint_47 (by decide) ?_
            refine lv_istore_n (lv' := [(2, .int 0), (0, .ref m0), (1, .int p0), (3, .int (nI i))]) hx hb dX5_isReleasePoint_48 rfl hl (by decide) rfl (fun ls hl => ?_)
            refine lv_iinc (v := nI (i + 1)) (lv' := [(3, .int (nI (i + 1))), (2, .int 0), (0, .ref m0), (1, .int p0)]) hx hb dX5_isReleasePoint_49 hl (k := 3) rfl (nI_1 _) (by decide) rfl (fun ls hl => ?_)
            refine lv_goto (tgt := 4) hx hb dX5_isReleasePoint_52 (by decide) ?_
            exact ih4 (i + 1) _ ls (by omega) (by omega) (by simp [rpI, bool_if0 eis c_15, c_24]) (lv_sub hl [2, 3, 1, 0] rfl)
          · refine lv_iload_n hx hb dX5_isReleasePoint_27 rfl (lv_at hl 1 rfl) ?_
            refine lv_aload_n hx hb dX5_isReleasePoint_28 rfl (lv_at hl 0 rfl) ?_
            refine lv_iload_n hx hb dX5_isReleasePoint_29 rfl (lv_at hl 3 rfl) ?_
            refine vp_callSi (va_runV (As := [.int (nI i)]) (rest := [.int p0]) ⟨hx, hb, hml, hown, hts⟩ (c_X5_virtualOf l dC dI cy m0 a I R  i (by omega) (hG _ hlt)) (cwV 1 hts gX5_isReleasePoint_X5_virtualOf rfl rfl rfl (by decide +kernel) ⟨Nat.le_of_ble_eq_true rfl, Nat.le_of_ble_eq_true rfl⟩) ⟨bl_ro, va_recv hK hP (ci := 5) (q0 := 0) rfl rfl, pr_ro hP hE⟩ rfl rfl hl.1 rfl (lv_room (Nat.le_of_ble_eq_true rfl)) dX5_isReleasePoint_30 ⟨Nat.le_of_ble_eq_true rfl, Nat.le_of_ble_eq_true rfl⟩).run (fun r e_r => ?_)
            subst e_r
            refine lv_isub hx hb dX5_isReleasePoint_33 ?_
            refine lv_aload_n hx hb dX5_isReleasePoint_34 rfl (lv_at hl 0 rfl) ?_
            refine lv_iload_n hx hb dX5_isReleasePoint_35 rfl (lv_at hl 3 rfl) ?_
            refine vp_callSi (va_runV (As := [.int (nI i)]) (rest := [.int (p0 - (vdl (Gs (R 1)) ((R 1) 1) i))]) ⟨hx, hb, hml, hown, hts⟩ (c_X5_periodOf l dC dI cy m0 a I R  i (by omega) (hG _ hlt)) (cwV 1 hts gX5_isReleasePoint_X5_periodOf rfl rfl rfl (by decide +kernel) ⟨Nat.le_of_ble_eq_true rfl, Nat.le_of_ble_eq_true rfl⟩) ⟨bl_ro, va_recv hK hP (ci := 5) (q0 := 0) rfl rfl, pr_ro hP hE⟩ rfl rfl hl.1 rfl (lv_room (Nat.le_of_ble_eq_true rfl)) dX5_isReleasePoint_36 ⟨Nat.le_of_ble_eq_true rfl, Nat.le_of_ble_eq_true rfl⟩).run (fun r e_r => ?_)
            subst e_r
            refine lv_irem hx hb dX5_isReleasePoint_39 (per_pos _ _) ?_
            refine lv_if_ne (tgt := 47) hx hb dX5_isReleasePoint_40 (by decide) (fun c_40 => ?_) (fun c_40 => ?_)
            · refine lv_iconst (v := 0) hx hb dX5_isReleasePoint_47 (by decide) ?_
              refine lv_istore_n (lv' := [(2, .int 0), (0, .ref m0), (1, .int p0), (3, .int (nI i))]) hx hb dX5_isReleasePoint_48 rfl hl (by decide) rfl (fun ls hl => ?_)
              refine lv_iinc (v := nI (i + 1)) (lv' := [(3, .int (nI (i + 1))), (2, .int 0), (0, .ref m0), (1, .int p0)]) hx hb dX5_isReleasePoint_49 hl (k := 3) rfl (nI_1 _) (by decide) rfl (fun ls hl => ?_)
              refine lv_goto (tgt := 4) hx hb dX5_isReleasePoint_52 (by decide) ?_
              exact ih4 (i + 1) _ ls (by omega) (by omega) (by simp [rpI, bool_if0 eis c_15, c_24, c_40]) (lv_sub hl [2, 3, 1, 0] rfl)
            · refine lv_iconst (v := 1) hx hb dX5_isReleasePoint_43 (by decide) ?_
              refine lv_goto (tgt := 48) hx hb dX5_isReleasePoint_44 (by decide) ?_
              refine lv_istore_n (lv' := [(2, .int 1), (0, .ref m0), (1, .int p0), (3, .int (nI i))]) hx hb dX5_isReleasePoint_48 rfl hl (by decide) rfl (fun ls hl => ?_)
              refine lv_iinc (v := nI (i + 1)) (lv' := [(3, .int (nI (i + 1))), (2, .int 1), (0, .ref m0), (1, .int p0)]) hx hb dX5_isReleasePoint_49 hl (k := 3) rfl (nI_1 _) (by decide) rfl (fun ls hl => ?_)
              refine lv_goto (tgt := 4) hx hb dX5_isReleasePoint_52 (by decide) ?_
              exact ih4 (i + 1) _ ls (by omega) (by omega) (by simp [rpI, bool_if0 eis c_15, c_24, c_40]) (lv_sub hl [2, 3, 1, 0] rfl)
  exact loop4 (n + 1) 0 0 ls (Nat.zero_le _) (by omega) rfl (lv_sub hl [2, 3, 1, 0] rfl)
set_option maxHeartbeats 1000000 in
set_option maxRecDepth 100000 in
/-- the greatest test point below -/
theorem c_X5_pointBelow (l : Launch) (dC : Nat → ClassId) (dI : Nat → Nat → Nat) (cy : Nat → ClassId) (m0 : Nat) (a : Nat → Nat) (I : Nat → Int32) (R : vG) (n : Nat) (hn : n ≤ 8) (hS0 : R 1 0 = nI n) (hG : okG (Gs (R 1)) n) (hsc : scOk (R 1 1)) (tt : Nat) (htt : tt ≤ 300) : Met l yX5_pointBelow wsX5_pointBelow ({ frames := 3, cells := 0, slots := 0, locals := 66 }) (va_Pc [.ref m0, .int (nI (tt + 1))] (fun U => va_P (dC, dI) vwCl (wMdl cy m0 a I R) U.heap ∧ EV dC dI cy U)) (vp_Si (fun r => r = gtp (Gs (R 1)) (R 1 1) (nI (tt + 1)) n)) 0 0 (fun _ => False) := by
  refine Met.ofW (cc := cX5_pointBelow) (maxL := 3) (ret := some .int) (by decide) rfl ?_
  intro p e s m args below meth c s₁ B hml hv
  obtain ⟨rfl, hP, hE⟩ := hv
  have hK := hE.1
  have hx := B.exec
  have hb := B.bytes
  have hr := B.returns
  have hts := atoms_spec (ws := wsX5_pointBelow) B.pre
  have hown : s.vm.findClass RX5 = some m.cls := findClass_of_methodNamed B.named
  have hlocks := B.notSynchronized
  have hl := lv_entry ([.ref m0, .int (nI (tt + 1))]) (n := 3) (Nat.le_of_ble_eq_true rfl)
  rw [lg_entry_eq]
  generalize (lg_sl ([.ref m0, .int (nI (tt + 1))]) ++ List.replicate (3 - (lg_sl ([.ref m0, .int (nI (tt + 1))])).length) Slot.unset).toArray = ls at hl ⊢
  have hl : lv_has ls 3 [(0, .ref m0), (1, .int (nI (tt + 1)))] := hl
  refine lv_iload_n hx hb dX5_pointBelow_0 rfl (lv_at hl 1 rfl) ?_
  refine lv_iconst (v := 1) hx hb dX5_pointBelow_1 (by decide) ?_
  refine lv_isub hx hb dX5_pointBelow_2 ?_
  refine lv_topi (fun y_ ey_ => ?_)
  obtain rfl : y_ = nI tt := ey_.trans (nI_pred tt)
  refine lv_istore_n (lv' := [(2, .int (nI tt)), (0, .ref m0), (1, .int (nI (tt + 1)))]) hx hb dX5_pointBelow_3 rfl hl (by decide) rfl (fun ls hl => ?_)
  have loop4 : ∀ (k : Nat) (q : Nat) (ls : Array Slot), q ≤ tt → q < k → pbN (fun t => rpI (Gs (R 1)) (R 1 1) (nI t) n) q = pbN (fun t => rpI (Gs (R 1)) (R 1 1) (nI t) n) tt → lv_has ls 3 [(0, .ref m0), (1, .int (nI (tt + 1))), (2, .int (nI q))] → W p l e (headSpec wsX5_pointBelow ({ frames := 3, cells := 0, slots := 0, locals := 66 }) |>.room) s m (([.ref m0, .int (nI (tt + 1))].toArray)) below meth c s.heap [] 0 0 (MQ below (vp_Si (fun r => r = gtp (Gs (R 1)) (R 1 1) (nI (tt + 1)) n)) ([.ref m0, .int (nI (tt + 1))].toArray) s 0 0 (fun _ => False)) (F0 m 4 ls []) := by
    intro k
    induction k with
    | zero =>
      intro q ls hq hk ef
      exfalso; omega
    | succ k ih4 =>
      intro q ls hq hk ef hl
      refine lv_iload_n hx hb dX5_pointBelow_4 rfl (lv_at hl 2 rfl) ?_
      refine lv_if_le (tgt := 22) hx hb dX5_pointBelow_5 (by decide) (fun c_5 => ?_) (fun c_5 => ?_)
      · have e_q : q = 0 := by have := (nI_leI (a := q) (b := 0) (by omega) (by omega)).mp c_5; omega
        refine lv_iload_n hx hb dX5_pointBelow_22 rfl (lv_at hl 2 rfl) ?_
        exact W.iret (v := nI q) hx hb hr (fun t ht hW => ⟨_, rfl, (by rw [gtp_pb (lim := tt + 1) hsc (by omega) (by omega) hG, Nat.add_sub_cancel, ← ef, e_q]; rfl), ht⟩) (fun q hq => absurd hq List.not_mem_nil) dX5_pointBelow_23
      · obtain ⟨q, rfl⟩ : ∃ z, q = z + 1 := ⟨q - 1, by have h : ¬ (q ≤ 0) := fun h => c_5 ((nI_leI (a := q) (b := 0) (by omega) (by omega)).mpr h); omega⟩
        refine lv_aload_n hx hb dX5_pointBelow_8 rfl (lv_at hl 0 rfl) ?_
        refine lv_iload_n hx hb dX5_pointBelow_9 rfl (lv_at hl 2 rfl) ?_
        refine vp_callSi (va_runV (As := [.int (nI (q + 1))]) (rest := []) ⟨hx, hb, hml, hown, hts⟩ (c_X5_isReleasePoint l dC dI cy m0 a I R n hn hS0 hG (nI (q + 1))) (cwV 1 hts gX5_pointBelow_X5_isReleasePoint rfl rfl rfl (by decide +kernel) ⟨Nat.le_of_ble_eq_true rfl, Nat.le_of_ble_eq_true rfl⟩) ⟨bl_ro, va_recv hK hP (ci := 5) (q0 := 0) rfl rfl, pr_ro hP hE⟩ rfl rfl hl.1 rfl (lv_room (Nat.le_of_ble_eq_true rfl)) dX5_pointBelow_10 ⟨Nat.le_of_ble_eq_true rfl, Nat.le_of_ble_eq_true rfl⟩).run (fun r e_r => ?_)
        subst e_r
        refine lv_if_ne (tgt := 22) hx hb dX5_pointBelow_13 (by decide) (fun c_13 => ?_) (fun c_13 => ?_)
        · refine lv_iload_n hx hb dX5_pointBelow_22 rfl (lv_at hl 2 rfl) ?_
          exact W.iret (v := nI (q + 1)) hx hb hr (fun t ht hW => ⟨_, rfl, (by rw [gtp_pb (lim := tt + 1) hsc (by omega) (by omega) hG, Nat.add_sub_cancel, ← ef, pbN, if_pos (nb10 c_13)]), ht⟩) (fun q hq => absurd hq List.not_mem_nil) dX5_pointBelow_23
        · refine lv_iinc (v := nI q) (lv' := [(2, .int (nI q)), (0, .ref m0), (1, .int (nI (tt + 1)))]) hx hb dX5_pointBelow_16 hl (k := 2) rfl (nI_m1 _) (by decide) rfl (fun ls hl => ?_)
          refine lv_goto (tgt := 4) hx hb dX5_pointBelow_19 (by decide) ?_
          exact ih4 q ls (by omega) (by omega) (by rw [← ef, pbN, if_neg (fun h => (b10.mp c_13) h)]) (lv_sub hl [1, 2, 0] rfl)
  exact loop4 (tt + 1) tt ls (Nat.le_refl _) (by omega) rfl (lv_sub hl [1, 2, 0] rfl)
set_option maxHeartbeats 1000000 in
set_option maxRecDepth 100000 in
/-- the points of the descending test -/
theorem c_X5_descends (l : Launch) (dC : Nat → ClassId) (dI : Nat → Nat → Nat) (cy : Nat → ClassId) (sz : Nat) (m0 : Nat) (a : Nat → Nat) (I : Nat → Int32) (R : vG) (n : Nat) (hn : n ≤ 8) (hS0 : R 1 0 = nI n) (hG : okG (Gs (R 1)) n) (hsc : scOk (R 1 1)) : Met l yX5_descends wsX5_descends ({ frames := 4, cells := 0, slots := 0, locals := 94 }) (va_Pc [.ref m0] (pIn dC dI cy (wMdl cy m0 a I R) sz)) (va_Qv (fun (u : Nat → Int32) => ∀ j, j < dlen (Gs (R 1)) n (R 1 1) → u j = dpoint (Gs (R 1)) n (R 1 1) j) (fun (u : Nat → Int32) t => va_P (dC, dI) vwCl (wMdl cy m0 a (upd I 23 (nI (dlen (Gs (R 1)) n (R 1 1)))) (upr R 22 u)) t.heap ∧ va_D (va_A (wMdl cy m0 a I R) sz) (wMdl cy m0 a (upd I 23 (nI (dlen (Gs (R 1)) n (R 1 1)))) (upr R 22 u))) (va_A (wMdl cy m0 a I R) sz)) 0 0 (va_A (wMdl cy m0 a I R) sz) := by
  refine Met.ofW (cc := cX5_descends) (maxL := 4) (ret := none) (by decide) rfl ?_
  intro p e s m args below meth c s₁ B hml hv
  obtain ⟨rfl, hsz, hP, hE, hD0⟩ := hv
  have hK := hE.1
  subst hsz
  have hD := hD0.self (sz := s.heap.size)
  generalize hAe : va_A (wMdl cy m0 a I R) s.heap.size = A at hD ⊢
  have hA : ∀ q : Nat, s.heap.size ≤ q → A q := fun q h => by rw [← hAe]; exact Or.inr h
  have hS : va_S A s.heap s.heap [] := va_S.rf
  have hP : va_P (dC, dI) vwCl (wMdl cy m0 a I R) s.heap := hP
  have hx := B.exec
  have hb := B.bytes
  have hr := B.returns
  have hts := atoms_spec (ws := wsX5_descends) B.pre
  have hown : s.vm.findClass RX5 = some m.cls := findClass_of_methodNamed B.named
  have hlocks := B.notSynchronized
  have hin5 : ∀ w ∈ u_ws RX5 TX5 32, w ∈ wsX5_descends := by decide +kernel
  have f_172 := hts (.fieldLink RX5 172 "DeadlineAdmissionModel" "pointMany" "I") (by decide +kernel)
  have f_35 := hts (.fieldLink RX5 35 "DeadlineAdmissionModel" "points" "[I") (by decide +kernel)
  have f_9 := hts (.fieldLink RX5 9 "DeadlineAdmissionModel" "s" "[I") (by decide +kernel)
  have hl := lv_entry ([.ref m0]) (n := 4) (Nat.le_of_ble_eq_true rfl)
  rw [lg_entry_eq]
  generalize (lg_sl ([.ref m0]) ++ List.replicate (4 - (lg_sl ([.ref m0])).length) Slot.unset).toArray = ls at hl ⊢
  have hl : lv_has ls 4 [(0, .ref m0)] := hl
  obtain ⟨lm, hlx⟩ : ∃ lm : Nat, n = 0 ∨ (1 ≤ lm ∧ lm ≤ 40 ∧ ltp (Gs (R 1)) (R 1 1) n = nI lm ∧ rpI (Gs (R 1)) (R 1 1) (nI lm) n = true ∧ ∀ t, t < lm → rpI (Gs (R 1)) (R 1 1) (nI t) n = false) := by
    rcases Nat.eq_zero_or_pos n with h | h
    · exact ⟨0, Or.inl h⟩
    · obtain ⟨l, a1, a2, a3, a4, a5⟩ := ltp_first hsc hG h
      exact ⟨l, Or.inr ⟨a2, a3, a1, a4, a5⟩⟩
  refine lv_aload_n hx hb dX5_descends_0 rfl (lv_at hl 0 rfl) ?_
  refine lv_iconst (v := 0) hx hb dX5_descends_1 (by decide) ?_
  refine va_put (D := (dC, dI)) (ci := 5) (v := .int 0) (ty := .int) (C := RX5) (T := TX5) (N := 32) hx hb hts hin5 tyX5 tyX5_ok nmX5 hown hK hP hD hS 0 rfl rfl 23 (by decide) f_172 (fun _ h9 => h9) rfl (by decide +kernel) rfl rfl (Nat.le_of_ble_eq_true rfl) dX5_descends_2 (fun H locs hP hD hS => ?_)
  have hP : va_P (dC, dI) vwCl (wMdl cy m0 a (upd I 23 0) R) H := hP
  have hD : va_D A (wMdl cy m0 a (upd I 23 0) R) := hD
  refine lv_iconst (v := 1) hx hb dX5_descends_5 (by decide) ?_
  refine lv_istore_n (lv' := [(1, .int 1), (0, .ref m0)]) hx hb dX5_descends_6 rfl hl (by decide) rfl (fun ls hl => ?_)
  have loop7 : ∀ (k : Nat) (l9 : Nat) (ls : Array Slot), 1 ≤ l9 → (n = 0 ∨ l9 ≤ lm) → l9 ≤ lm + 1 → lm + 2 < l9 + k → ∀ (H : Heap) (locs : List Loc), va_P (dC, dI) vwCl (wMdl cy m0 a (upd I 23 0) R) H → va_D A (wMdl cy m0 a (upd I 23 0) R) → va_S A s.heap H locs → lv_has ls 4 [(0, .ref m0), (1, .int (nI l9))] → W p l e (headSpec wsX5_descends ({ frames := 4, cells := 0, slots := 0, locals := 94 }) |>.room) s m (([.ref m0].toArray)) below meth c H locs 0 0 (MQ below (va_Qv (fun (u : Nat → Int32) => ∀ j, j < dlen (Gs (R 1)) n (R 1 1) → u j = dpoint (Gs (R 1)) n (R 1 1) j) (fun (u : Nat → Int32) t => va_P (dC, dI) vwCl (wMdl cy m0 a (upd I 23 (nI (dlen (Gs (R 1)) n (R 1 1)))) (upr R 22 u)) t.heap ∧ va_D (A) (wMdl cy m0 a (upd I 23 (nI (dlen (Gs (R 1)) n (R 1 1)))) (upr R 22 u))) (A)) ([.ref m0].toArray) s 0 0 A) (F0 m 7 ls []) := by
    intro k
    induction k with
    | zero =>
      intro l9 ls hl0 hlm hlb hk
      exfalso; omega
    | succ k ih7 =>
      intro l9 ls hl0 hlm hlb hk H locs hP hD hS hl
      refine lv_aload_n hx hb dX5_descends_7 rfl (lv_at hl 0 rfl) ?_
      refine va_get (D := (dC, dI)) (ci := 5) (v := .ref (a 1)) (C := RX5) (T := TX5) (N := 32) hx hb hts hin5 hown hK hP 0 rfl rfl 1 (by decide) f_9 (fun _ h9 => h9) rfl dX5_descends_8 ?_
      refine lv_iconst (v := 0) hx hb dX5_descends_11 (by decide) ?_
      refine wI_alv (v := nI n) hx hb hK hP 1 0 rfl rfl 0 rfl (by omega) (by decide) hS0 dX5_descends_12 ?_
      refine lv_if_le (tgt := 30) hx hb dX5_descends_13 (by decide) (fun c_13 => ?_) (fun c_13 => ?_)
      · have hn0 : n = 0 := by have := (nI_leI (a := n) (b := 0) (by omega) (by omega)).mp c_13; omega
        refine lv_aload_n hx hb dX5_descends_30 rfl (lv_at hl 0 rfl) ?_
        refine va_get (D := (dC, dI)) (ci := 5) (v := .ref (a 1)) (C := RX5) (T := TX5) (N := 32) hx hb hts hin5 hown hK hP 0 rfl rfl 1 (by decide) f_9 (fun _ h9 => h9) rfl dX5_descends_31 ?_
        refine lv_iconst (v := 0) hx hb dX5_descends_34 (by decide) ?_
        refine wI_alv (v := nI n) hx hb hK hP 1 0 rfl rfl 0 rfl (by omega) (by decide) hS0 dX5_descends_35 ?_
        refine lv_if_ne (tgt := 43) hx hb dX5_descends_36 (by decide) (fun h0 => absurd (show nI n = 0 by rw [hn0]; rfl) h0) (fun c_36 => ?_)
        refine lv_iconst (v := 0) hx hb dX5_descends_39 (by decide) ?_
        refine lv_goto (tgt := 50) hx hb dX5_descends_40 (by decide) ?_
        refine lv_istore_n (lv' := [(2, .int 0), (0, .ref m0), (1, .int (nI l9))]) hx hb dX5_descends_50 rfl hl (by decide) rfl (fun ls hl => ?_)
        refine lv_iload_n hx hb dX5_descends_51 rfl (lv_at hl 0 rfl) ?_
        refine lv_if_le (tgt := 114) hx hb dX5_descends_52 (by decide) (fun _ => ?_) (fun h0 => absurd h0 (by decide))
        have hz9 : dlen (Gs (R 1)) n (R 1 1) = 0 := by rw [hn0]; rfl
        have hP9 : va_P (dC, dI) vwCl (wMdl cy m0 a (upd I 23 (nI (dlen (Gs (R 1)) n (R 1 1)))) (upr R 22 (R 22))) H := (by rw [hz9]; exact hP)
        have hD9 : va_D A (wMdl cy m0 a (upd I 23 (nI (dlen (Gs (R 1)) n (R 1 1)))) (upr R 22 (R 22))) := (by rw [hz9]; exact hD)
        exact W.vret hx hb hr (fun t ht hW => ⟨⟨(R 22), rfl, (fun j hj => absurd hj (by rw [hz9]; exact Nat.not_lt_zero j)), by rw [ht]; exact hP9, hD9⟩, hS.F ht⟩) hS.2.2 dX5_descends_114
      · have hn0 : 0 < n := by rcases Nat.eq_zero_or_pos n with h | h; exact absurd (by rw [h]; decide) c_13; exact h
        have hlx9 := hlx.resolve_left (by omega)
        have hlm9 := hlm.resolve_left (by omega)
        refine lv_aload_n hx hb dX5_descends_16 rfl (lv_at hl 0 rfl) ?_
        refine lv_iload_n hx hb dX5_descends_17 rfl (lv_at hl 1 rfl) ?_
        refine vp_callSi (va_runV (As := [.int (nI l9)]) (rest := []) ⟨hx, hb, hml, hown, hts⟩ (c_X5_isReleasePoint l dC dI cy m0 a (upd I 23 0) R n hn hS0 hG (nI l9)) (cwV 1 hts gX5_descends_X5_isReleasePoint rfl rfl rfl (by decide +kernel) ⟨Nat.le_of_ble_eq_true rfl, Nat.le_of_ble_eq_true rfl⟩) ⟨bl_ro, va_recv hK hP (ci := 5) (q0 := 0) rfl rfl, pr_ro hP hE⟩ rfl rfl hl.1 rfl (lv_room (Nat.le_of_ble_eq_true rfl)) dX5_descends_18 ⟨Nat.le_of_ble_eq_true rfl, Nat.le_of_ble_eq_true rfl⟩).run (fun r e_r => ?_)
        subst e_r
        refine lv_topi (fun y_ ey_ => ?_)
        obtain rfl : y_ = if rpI (Gs (R 1)) (R 1 1) (nI l9) n = true then 1 else 0 := ey_
        refine lv_if_ne (tgt := 30) hx hb dX5_descends_21 (by decide) (fun c_21 => ?_) (fun c_21 => ?_)
        · have hl9 : l9 = lm := by rcases Nat.lt_or_ge l9 lm with h | h; exact absurd (nb10 c_21) (by rw [hlx9.2.2.2.2 l9 h]; decide); omega
          have el9 : ltp (Gs (R 1)) (R 1 1) n = nI l9 := by rw [hl9]; exact hlx9.2.2.1
          refine lv_aload_n hx hb dX5_descends_30 rfl (lv_at hl 0 rfl) ?_
          refine va_get (D := (dC, dI)) (ci := 5) (v := .ref (a 1)) (C := RX5) (T := TX5) (N := 32) hx hb hts hin5 hown hK hP 0 rfl rfl 1 (by decide) f_9 (fun _ h9 => h9) rfl dX5_descends_31 ?_
          refine lv_iconst (v := 0) hx hb dX5_descends_34 (by decide) ?_
          refine wI_alv (v := nI n) hx hb hK hP 1 0 rfl rfl 0 rfl (by omega) (by decide) hS0 dX5_descends_35 ?_
          refine lv_if_ne (tgt := 43) hx hb dX5_descends_36 (by decide) (fun c_36 => ?_) (fun h0 => absurd h0 (fun h => absurd ((nI_eq (b := 0) (by omega) (by omega)).mp h) (by omega)))
          refine lv_aload_n hx hb dX5_descends_43 rfl (lv_at hl 0 rfl) ?_
          refine lv_sipush (v := 201) hx hb dX5_descends_44 (by decide) ?_
          refine vp_callSi (va_runV (As := [.int 201]) (rest := []) ⟨hx, hb, hml, hown, hts⟩ (c_X5_pointBelow l dC dI cy m0 a (upd I 23 0) R n hn hS0 hG hsc 200 (by omega)) (cwV 1 hts gX5_descends_X5_pointBelow rfl rfl rfl (by decide +kernel) ⟨Nat.le_of_ble_eq_true rfl, Nat.le_of_ble_eq_true rfl⟩) ⟨bl_ro, va_recv hK hP (ci := 5) (q0 := 0) rfl rfl, pr_ro hP hE⟩ rfl rfl hl.1 rfl (lv_room (Nat.le_of_ble_eq_true rfl)) dX5_descends_47 ⟨Nat.le_of_ble_eq_true rfl, Nat.le_of_ble_eq_true rfl⟩).run (fun r e_r => ?_)
          subst e_r
          refine lv_topi (fun y_ ey_ => ?_)
          obtain rfl : y_ = gtp (Gs (R 1)) (R 1 1) 201 n := ey_
          obtain ⟨g9, eg9, hg9⟩ : ∃ g : Nat, gtp (Gs (R 1)) (R 1 1) 201 n = nI g ∧ g ≤ 200 := ⟨_, gtp_pb (lim := 201) hsc (by omega) (by omega) hG, pbN_le _ _⟩
          refine lv_topi (fun y_ ey_ => ?_)
          obtain rfl : y_ = nI g9 := ey_.trans eg9
          refine lv_istore_n (lv' := [(2, .int (nI g9)), (0, .ref m0), (1, .int (nI l9))]) hx hb dX5_descends_50 rfl hl (by decide) rfl (fun ls hl => ?_)
          have loop51 : ∀ (k : Nat) (q : Nat) (f : Nat) (kq : Nat) (Pt : Nat → Int32) (ls : Array Slot), q ≤ f → f + kq ≤ 200 → f < k → kq + dcnt (Gs (R 1)) n (R 1 1) f (nI q) = dlen (Gs (R 1)) n (R 1 1) → (∀ m, dpt (Gs (R 1)) n (R 1 1) m (nI q) = dpoint (Gs (R 1)) n (R 1 1) (kq + m)) → (∀ j, j < kq → Pt j = dpoint (Gs (R 1)) n (R 1 1) j) → ∀ (H : Heap) (locs : List Loc), va_P (dC, dI) vwCl (wMdl cy m0 a (upd I 23 (nI kq)) (upr R 22 Pt)) H → va_D A (wMdl cy m0 a (upd I 23 (nI kq)) (upr R 22 Pt)) → va_S A s.heap H locs → lv_has ls 4 [(0, .ref m0), (1, .int (nI l9)), (2, .int (nI q))] → W p l e (headSpec wsX5_descends ({ frames := 4, cells := 0, slots := 0, locals := 94 }) |>.room) s m (([.ref m0].toArray)) below meth c H locs 0 0 (MQ below (va_Qv (fun (u : Nat → Int32) => ∀ j, j < dlen (Gs (R 1)) n (R 1 1) → u j = dpoint (Gs (R 1)) n (R 1 1) j) (fun (u : Nat → Int32) t => va_P (dC, dI) vwCl (wMdl cy m0 a (upd I 23 (nI (dlen (Gs (R 1)) n (R 1 1)))) (upr R 22 u)) t.heap ∧ va_D (A) (wMdl cy m0 a (upd I 23 (nI (dlen (Gs (R 1)) n (R 1 1)))) (upr R 22 u))) (A)) ([.ref m0].toArray) s 0 0 A) (F0 m 51 ls []) := by
            intro k
            induction k with
            | zero =>
              intro q f kq Pt ls hqf hfk hk ec ep eP
              exfalso; omega
            | succ k ih51 =>
              intro q f kq Pt ls hqf hfk hk ec ep eP H locs hP hD hS hl
              refine lv_iload_n hx hb dX5_descends_51 rfl (lv_at hl 2 rfl) ?_
              refine lv_if_le (tgt := 114) hx hb dX5_descends_52 (by decide) (fun c_52 => ?_) (fun c_52 => ?_)
              · have e_q : q = 0 := by have := (nI_leI (a := q) (b := 0) (by omega) (by omega)).mp c_52; omega
                have hz9 : dlen (Gs (R 1)) n (R 1 1) = kq := by rw [← ec, e_q]; cases f <;> rfl
                have hP9 : va_P (dC, dI) vwCl (wMdl cy m0 a (upd I 23 (nI (dlen (Gs (R 1)) n (R 1 1)))) (upr R 22 Pt)) H := (by rw [hz9]; exact hP)
                have hD9 : va_D A (wMdl cy m0 a (upd I 23 (nI (dlen (Gs (R 1)) n (R 1 1)))) (upr R 22 Pt)) := (by rw [hz9]; exact hD)
                exact W.vret hx hb hr (fun t ht hW => ⟨⟨Pt, rfl, (fun j hj => eP j (by rw [hz9] at hj; exact hj)), by rw [ht]; exact hP9, hD9⟩, hS.F ht⟩) hS.2.2 dX5_descends_114
              · obtain ⟨q, rfl⟩ : ∃ z, q = z + 1 := ⟨q - 1, by have h : ¬ (q ≤ 0) := fun h => c_52 ((nI_leI (a := q) (b := 0) (by omega) (by omega)).mpr h); omega⟩
                obtain ⟨f, rfl⟩ : ∃ z, f = z + 1 := ⟨f - 1, by omega⟩
                obtain ⟨q2, edn, hq2⟩ := dnext_lt hsc hG (show 1 ≤ q + 1 by omega) (show q + 1 ≤ 200 by omega)
                refine lv_aload_n hx hb dX5_descends_55 rfl (lv_at hl 0 rfl) ?_
                refine va_get (D := (dC, dI)) (ci := 5) (v := .ref (a 22)) (C := RX5) (T := TX5) (N := 32) hx hb hts hin5 hown hK hP 0 rfl rfl 22 (by decide) f_35 (fun _ h9 => h9) rfl dX5_descends_56 ?_
                refine lv_aload_n hx hb dX5_descends_59 rfl (lv_at hl 0 rfl) ?_
                refine va_get (D := (dC, dI)) (ci := 5) (v := .int (nI kq)) (C := RX5) (T := TX5) (N := 32) hx hb hts hin5 hown hK hP 0 rfl rfl 23 (by decide) f_172 (fun _ h9 => h9) rfl dX5_descends_60 ?_
                refine lv_iload_n hx hb dX5_descends_63 rfl (lv_at hl 2 rfl) ?_
                refine wI_ast hx hb hK hP hD hS 8 0 rfl rfl kq rfl (by omega) (by decide) dX5_descends_64 (fun H locs hP hD hS => ?_)
                have hP : va_P (dC, dI) vwCl (wMdl cy m0 a (upd I 23 (nI kq)) (upr R 22 (upd Pt kq (nI (q + 1))))) H := hP
                have hD : va_D A (wMdl cy m0 a (upd I 23 (nI kq)) (upr R 22 (upd Pt kq (nI (q + 1))))) := hD
                refine lv_aload_n hx hb dX5_descends_65 rfl (lv_at hl 0 rfl) ?_
                refine lv_dup hx hb dX5_descends_66 rfl ?_
                refine va_get (D := (dC, dI)) (ci := 5) (v := .int (nI kq)) (C := RX5) (T := TX5) (N := 32) hx hb hts hin5 hown hK hP 0 rfl rfl 23 (by decide) f_172 (fun _ h9 => h9) rfl dX5_descends_67 ?_
                refine lv_iconst (v := 1) hx hb dX5_descends_70 (by decide) ?_
                refine lv_iadd hx hb dX5_descends_71 ?_
                refine lv_topi (fun y_ ey_ => ?_)
                obtain rfl : y_ = nI (kq + 1) := ey_.trans (nI_1 kq)
                refine va_put (D := (dC, dI)) (ci := 5) (v := .int (nI (kq + 1))) (ty := .int) (C := RX5) (T := TX5) (N := 32) hx hb hts hin5 tyX5 tyX5_ok nmX5 hown hK hP hD hS 0 rfl rfl 23 (by decide) f_172 (fun _ h9 => h9) rfl (by decide +kernel) rfl rfl (Nat.le_of_ble_eq_true rfl) dX5_descends_72 (fun H locs hP hD hS => ?_)
                have hP : va_P (dC, dI) vwCl (wMdl cy m0 a (upd I 23 (nI (kq + 1))) (upr R 22 (upd Pt kq (nI (q + 1))))) H := hP
                have hD : va_D A (wMdl cy m0 a (upd I 23 (nI (kq + 1))) (upr R 22 (upd Pt kq (nI (q + 1))))) := hD
                refine lv_aload_n hx hb dX5_descends_75 rfl (lv_at hl 0 rfl) ?_
                refine lv_iconst (v := 0) hx hb dX5_descends_76 (by decide) ?_
                refine lv_iload_n hx hb dX5_descends_77 rfl (lv_at hl 2 rfl) ?_
                refine vp_callSi (va_runV (As := [.int 0, .int (nI (q + 1))]) (rest := []) ⟨hx, hb, hml, hown, hts⟩ (c_X5_demandOf l dC dI cy m0 a (upd I 23 (nI (kq + 1))) (upr R 22 (upd Pt kq (nI (q + 1)))) n hn hS0 hG 0 (nI (q + 1)) (Or.inl rfl)) (cwV 2 hts gX5_descends_X5_demandOf rfl rfl rfl (by decide +kernel) ⟨Nat.le_of_ble_eq_true rfl, Nat.le_of_ble_eq_true rfl⟩) ⟨bl_ro, va_recv hK hP (ci := 5) (q0 := 0) rfl rfl, pr_ro hP hE⟩ rfl rfl hl.1 rfl (lv_room (Nat.le_of_ble_eq_true rfl)) dX5_descends_78 ⟨Nat.le_of_ble_eq_true rfl, Nat.le_of_ble_eq_true rfl⟩).run (fun r e_r => ?_)
                subst e_r
                refine lv_topi (fun y_ ey_ => ?_)
                obtain rfl : y_ = tdem (Gs (R 1)) n ((R 1) 1) 0 (nI (q + 1)) := ey_
                refine lv_istore_n (lv' := [(3, .int (tdem (Gs (R 1)) n ((R 1) 1) 0 (nI (q + 1)))), (0, .ref m0), (1, .int (nI l9)), (2, .int (nI (q + 1)))]) hx hb dX5_descends_81 rfl hl (by decide) rfl (fun ls hl => ?_)
                refine lv_iload_n hx hb dX5_descends_82 rfl (lv_at hl 0 rfl) ?_
                refine lv_iload_n hx hb dX5_descends_83 rfl (lv_at hl 3 rfl) ?_
                refine lv_icmp_gt (tgt := 92) hx hb dX5_descends_84 (by decide) (fun c_84 => ?_) (fun c_84 => ?_)
                · refine lv_iconst (v := 0) hx hb dX5_descends_92 (by decide) ?_
                  refine lv_goto (tgt := 110) hx hb dX5_descends_93 (by decide) ?_
                  refine lv_topi (fun y_ ey_ => ?_)
                  obtain rfl : y_ = nI q2 := ey_.trans (show (0 : Int32) = nI q2 from by rw [← edn, dnext, if_pos c_84])
                  refine lv_istore_n (lv' := [(2, .int (nI q2)), (3, .int (tdem (Gs (R 1)) n ((R 1) 1) 0 (nI (q + 1)))), (0, .ref m0), (1, .int (nI l9))]) hx hb dX5_descends_110 rfl hl (by decide) rfl (fun ls hl => ?_)
                  refine lv_goto (tgt := 51) hx hb dX5_descends_111 (by decide) ?_
                  exact ih51 q2 f (kq + 1) _ ls (by omega) (by omega) (by omega) (by rw [← ec, dcnt, if_neg c_52, edn]; omega) (fun m => by rw [← edn, show kq + 1 + m = kq + (m + 1) by omega, ← ep (m + 1), dpt, if_neg c_52]) (fun j hj => by rcases Nat.lt_or_ge j kq with z | z; rw [pk_un (by omega)]; exact eP j z; rw [show j = kq by omega, pk_us]; exact (ep 0)) _ _ hP hD hS (lv_sub hl [2, 3, 0] rfl)
                · refine lv_iload_n hx hb dX5_descends_87 rfl (lv_at hl 0 rfl) ?_
                  refine lv_iload_n hx hb dX5_descends_88 rfl (lv_at hl 2 rfl) ?_
                  refine lv_icmp_gt (tgt := 96) hx hb dX5_descends_89 (by decide) (fun c_89 => ?_) (fun c_89 => ?_)
                  · refine lv_iload_n hx hb dX5_descends_96 rfl (lv_at hl 0 rfl) ?_
                    refine lv_iload_n hx hb dX5_descends_97 rfl (lv_at hl 3 rfl) ?_
                    refine lv_icmp_ge (tgt := 105) hx hb dX5_descends_98 (by decide) (fun c_98 => ?_) (fun c_98 => ?_)
                    · refine lv_aload_n hx hb dX5_descends_105 rfl (lv_at hl 1 rfl) ?_
                      refine lv_iload_n hx hb dX5_descends_106 rfl (lv_at hl 3 rfl) ?_
                      refine vp_callSi (va_runV (As := [.int (nI (q + 1))]) (rest := []) ⟨hx, hb, hml, hown, hts⟩ (c_X5_pointBelow l dC dI cy m0 a (upd I 23 (nI (kq + 1))) (upr R 22 (upd Pt kq (nI (q + 1)))) n hn hS0 hG hsc q (by omega)) (cwV 1 hts gX5_descends_X5_pointBelow rfl rfl rfl (by decide +kernel) ⟨Nat.le_of_ble_eq_true rfl, Nat.le_of_ble_eq_true rfl⟩) ⟨bl_ro, va_recv hK hP (ci := 5) (q0 := 0) rfl rfl, pr_ro hP hE⟩ rfl rfl hl.1 rfl (lv_room (Nat.le_of_ble_eq_true rfl)) dX5_descends_107 ⟨Nat.le_of_ble_eq_true rfl, Nat.le_of_ble_eq_true rfl⟩).run (fun r e_r => ?_)
                      subst e_r
                      refine lv_topi (fun y_ ey_ => ?_)
                      obtain rfl : y_ = gtp (Gs (R 1)) (R 1 1) (nI (q + 1)) n := ey_
                      refine lv_topi (fun y_ ey_ => ?_)
                      obtain rfl : y_ = nI q2 := ey_.trans (by rw [← edn, dnext, if_neg c_84, if_neg (by rw [el9]; exact Int32.not_le.mpr c_89), if_pos c_98])
                      refine lv_istore_n (lv' := [(2, .int (nI q2)), (3, .int (tdem (Gs (R 1)) n ((R 1) 1) 0 (nI (q + 1)))), (0, .ref m0), (1, .int (nI l9))]) hx hb dX5_descends_110 rfl hl (by decide) rfl (fun ls hl => ?_)
                      refine lv_goto (tgt := 51) hx hb dX5_descends_111 (by decide) ?_
                      exact ih51 q2 f (kq + 1) _ ls (by omega) (by omega) (by omega) (by rw [← ec, dcnt, if_neg c_52, edn]; omega) (fun m => by rw [← edn, show kq + 1 + m = kq + (m + 1) by omega, ← ep (m + 1), dpt, if_neg c_52]) (fun j hj => by rcases Nat.lt_or_ge j kq with z | z; rw [pk_un (by omega)]; exact eP j z; rw [show j = kq by omega, pk_us]; exact (ep 0)) _ _ hP hD hS (lv_sub hl [2, 3, 0] rfl)
                    · refine lv_iload_n hx hb dX5_descends_101 rfl (lv_at hl 0 rfl) ?_
                      refine lv_goto (tgt := 110) hx hb dX5_descends_102 (by decide) ?_
                      refine lv_topi (fun y_ ey_ => ?_)
                      obtain rfl : y_ = nI q2 := ey_.trans (by rw [← edn, dnext, if_neg c_84, if_neg (by rw [el9]; exact Int32.not_le.mpr c_89), if_neg c_98])
                      refine lv_istore_n (lv' := [(2, .int (nI q2)), (3, .int (tdem (Gs (R 1)) n ((R 1) 1) 0 (nI (q + 1)))), (0, .ref m0), (1, .int (nI l9))]) hx hb dX5_descends_110 rfl hl (by decide) rfl (fun ls hl => ?_)
                      refine lv_goto (tgt := 51) hx hb dX5_descends_111 (by decide) ?_
                      exact ih51 q2 f (kq + 1) _ ls (by omega) (by omega) (by omega) (by rw [← ec, dcnt, if_neg c_52, edn]; omega) (fun m => by rw [← edn, show kq + 1 + m = kq + (m + 1) by omega, ← ep (m + 1), dpt, if_neg c_52]) (fun j hj => by rcases Nat.lt_or_ge j kq with z | z; rw [pk_un (by omega)]; exact eP j z; rw [show j = kq by omega, pk_us]; exact (ep 0)) _ _ hP hD hS (lv_sub hl [2, 3, 0] rfl)
                  · refine lv_iconst (v := 0) hx hb dX5_descends_92 (by decide) ?_
                    refine lv_goto (tgt := 110) hx hb dX5_descends_93 (by decide) ?_
                    refine lv_topi (fun y_ ey_ => ?_)
                    obtain rfl : y_ = nI q2 := ey_.trans (show (0 : Int32) = nI q2 from by rw [← edn, dnext, if_neg c_84, if_pos (by rw [el9]; exact Int32.not_lt.mp c_89)])
                    refine lv_istore_n (lv' := [(2, .int (nI q2)), (3, .int (tdem (Gs (R 1)) n ((R 1) 1) 0 (nI (q + 1)))), (0, .ref m0), (1, .int (nI l9))]) hx hb dX5_descends_110 rfl hl (by decide) rfl (fun ls hl => ?_)
                    refine lv_goto (tgt := 51) hx hb dX5_descends_111 (by decide) ?_
                    exact ih51 q2 f (kq + 1) _ ls (by omega) (by omega) (by omega) (by rw [← ec, dcnt, if_neg c_52, edn]; omega) (fun m => by rw [← edn, show kq + 1 + m = kq + (m + 1) by omega, ← ep (m + 1), dpt, if_neg c_52]) (fun j hj => by rcases Nat.lt_or_ge j kq with z | z; rw [pk_un (by omega)]; exact eP j z; rw [show j = kq by omega, pk_us]; exact (ep 0)) _ _ hP hD hS (lv_sub hl [2, 3, 0] rfl)
          exact loop51 201 g9 200 0 _ ls (by omega) (by omega) (by omega) (by rw [← eg9, Nat.zero_add]; rfl) (fun m => by rw [← eg9, Nat.zero_add]; rfl) (fun j hj => absurd hj (Nat.not_lt_zero j)) _ _ hP hD hS (lv_sub hl [1, 2, 0] rfl)
        · have hlx9 : n = 0 ∨ l9 < lm := Or.inr (by rcases Nat.lt_or_ge l9 lm with h | h; exact h; exact absurd hlx9.2.2.2.1 (by rw [show lm = l9 by omega]; exact b10.mp c_21))
          refine lv_iinc (v := nI (l9 + 1)) (lv' := [(1, .int (nI (l9 + 1))), (0, .ref m0)]) hx hb dX5_descends_24 hl (k := 1) rfl (nI_1 _) (by decide) rfl (fun ls hl => ?_)
          refine lv_goto (tgt := 7) hx hb dX5_descends_27 (by decide) ?_
          exact ih7 (l9 + 1) ls (by omega) (Or.inr (by have := hlx9.resolve_left (by omega); omega)) (by have := hlx9.resolve_left (by omega); omega) (by omega) _ _ hP hD hS (lv_sub hl [1, 0] rfl)
  exact loop7 (lm + 3) 1 ls (by omega) (hlx.imp id (fun h => h.1)) (by omega) (by omega) _ _ hP hD hS (lv_sub hl [1, 0] rfl)
set_option maxHeartbeats 1000000 in
set_option maxRecDepth 100000 in
/-- how many points -/
theorem c_X5_descentLength (l : Launch) (dC : Nat → ClassId) (dI : Nat → Nat → Nat) (cy : Nat → ClassId) (sz : Nat) (m0 : Nat) (a : Nat → Nat) (I : Nat → Int32) (R : vG) (n : Nat) (hn : n ≤ 8) (hS0 : R 1 0 = nI n) (hG : okG (Gs (R 1)) n) (hsc : scOk (R 1 1)) : Met l yX5_descentLength wsX5_descentLength ({ frames := 5, cells := 0, slots := 0, locals := 117 }) (va_Pc [.ref m0] (pIn dC dI cy (wMdl cy m0 a I R) sz)) (va_Qi (fun (r : Int32) (u : (Nat → Int32) × vG) => r = nI (dlen (Gs (R 1)) n (R 1 1)) ∧ ∃ N : Nat → Int32, u = (upd (upd I 0 0) 23 (nI (dlen (Gs (R 1)) n (R 1 1))), upr R 22 N)) (fun (u : (Nat → Int32) × vG) t => va_P (dC, dI) vwCl (wMdl cy m0 a u.1 u.2) t.heap ∧ va_D (va_A (wMdl cy m0 a I R) sz) (wMdl cy m0 a u.1 u.2)) (va_A (wMdl cy m0 a I R) sz)) 0 0 (va_A (wMdl cy m0 a I R) sz) := by
  refine Met.ofW (cc := cX5_descentLength) (maxL := 1) (ret := some .int) (by decide) rfl ?_
  intro p e s m args below meth c s₁ B hml hv
  obtain ⟨rfl, hsz, hP, hE, hD0⟩ := hv
  have hK := hE.1
  subst hsz
  have hD := hD0.self (sz := s.heap.size)
  generalize hAe : va_A (wMdl cy m0 a I R) s.heap.size = A at hD ⊢
  have hA : ∀ q : Nat, s.heap.size ≤ q → A q := fun q h => by rw [← hAe]; exact Or.inr h
  have hS : va_S A s.heap s.heap [] := va_S.rf
  have hP : va_P (dC, dI) vwCl (wMdl cy m0 a I R) s.heap := hP
  have hx := B.exec
  have hb := B.bytes
  have hr := B.returns
  have hts := atoms_spec (ws := wsX5_descentLength) B.pre
  have hown : s.vm.findClass RX5 = some m.cls := findClass_of_methodNamed B.named
  have hlocks := B.notSynchronized
  have hin5 : ∀ w ∈ u_ws RX5 TX5 32, w ∈ wsX5_descentLength := by decide +kernel
  have f_172 := hts (.fieldLink RX5 172 "DeadlineAdmissionModel" "pointMany" "I") (by decide +kernel)
  have f_50 := hts (.fieldLink RX5 50 "DeadlineAdmissionModel" "thrown" "I") (by decide +kernel)
  have hl := lv_entry ([.ref m0]) (n := 1) (Nat.le_of_ble_eq_true rfl)
  rw [lg_entry_eq]
  generalize (lg_sl ([.ref m0]) ++ List.replicate (1 - (lg_sl ([.ref m0])).length) Slot.unset).toArray = ls at hl ⊢
  have hl : lv_has ls 1 [(0, .ref m0)] := hl
  refine lv_aload_n hx hb dX5_descentLength_0 rfl (lv_at hl 0 rfl) ?_
  refine lv_iconst (v := 0) hx hb dX5_descentLength_1 (by decide) ?_
  refine va_put (D := (dC, dI)) (ci := 5) (v := .int 0) (ty := .int) (C := RX5) (T := TX5) (N := 32) hx hb hts hin5 tyX5 tyX5_ok nmX5 hown hK hP hD hS 0 rfl rfl 0 (by decide) f_50 (fun _ h9 => h9) rfl (by decide +kernel) rfl rfl (Nat.le_of_ble_eq_true rfl) dX5_descentLength_2 (fun H locs hP hD hS => ?_)
  have hP : va_P (dC, dI) vwCl (wMdl cy m0 a (upd I 0 0) R) H := hP
  have hD : va_D A (wMdl cy m0 a (upd I 0 0) R) := hD
  refine lv_aload_n hx hb dX5_descentLength_5 rfl (lv_at hl 0 rfl) ?_
  have hPc := hP.sub (ws' := wMdl cy m0 a (upd I 0 0) R) [0, 1, 2, 3, 4, 5, 6, 7, 8, 9, 10, 11, 12] rfl
  have hDc := hD.sub (ws' := wMdl cy m0 a (upd I 0 0) R) [0, 1, 2, 3, 4, 5, 6, 7, 8, 9, 10, 11, 12] (by decide) rfl
  have hFc := va_free (wc := wMdl cy m0 a (upd I 0 0) R) hD hS hA [0, 1, 2, 3, 4, 5, 6, 7, 8, 9, 10, 11, 12] rfl
  refine va_callv (va_runV (As := []) (rest := []) ⟨hx, hb, hml, hown, hts⟩ (c_X5_descends l dC dI cy H.size m0 a (upd I 0 0) R n hn hS0 hG hsc) (cwV 0 hts gX5_descentLength_X5_descends rfl rfl rfl (by decide +kernel) ⟨Nat.le_of_ble_eq_true rfl, Nat.le_of_ble_eq_true rfl⟩) ⟨bl_in, va_recv hK hPc (ci := 5) (q0 := 0) rfl rfl, pr_in hPc hE hDc⟩ rfl rfl hl.1 rfl (lv_room (Nat.le_of_ble_eq_true rfl)) dX5_descentLength_6 ⟨Nat.le_of_ble_eq_true rfl, Nat.le_of_ble_eq_true rfl⟩) hS (fun q _ h => hFc q h) hFc (fun u t H1 locs ht hvm hw hB hz1 hk1 hS => ?_)
  obtain ⟨P9, rfl⟩ : ∃ z, z = u := ⟨_, rfl⟩
  have hP9w := hw
  obtain ⟨hP1, hD1⟩ := hB
  rw [ht] at hP1
  obtain ⟨hP, hD⟩ := va_join (wr := []) (w1 := wMdl cy m0 a (upd (upd I 0 0) 23 (nI (dlen (Gs (R 1)) n (R 1 1)))) (upr R 22 P9)) hP hD [0, 1, 2, 3, 4, 5, 6, 7, 8, 9, 10, 11, 12] [] rfl rfl (by decide) (by decide) hk1 hFc hP1 hD1
  have hP : va_P (dC, dI) vwCl (wMdl cy m0 a (upd (upd I 0 0) 23 (nI (dlen (Gs (R 1)) n (R 1 1)))) (upr R 22 P9)) H1 := hP.sub [0, 1, 2, 3, 4, 5, 6, 7, 8, 9, 10, 11, 12] rfl
  have hD : va_D A (wMdl cy m0 a (upd (upd I 0 0) 23 (nI (dlen (Gs (R 1)) n (R 1 1)))) (upr R 22 P9)) := hD.sub [0, 1, 2, 3, 4, 5, 6, 7, 8, 9, 10, 11, 12] (by decide) rfl
  clear hz1 hk1 hPc hDc hFc hP1 hD1
  generalize H1 = H at hP hS ⊢
  refine lv_aload_n hx hb dX5_descentLength_9 rfl (lv_at hl 0 rfl) ?_
  refine va_get (D := (dC, dI)) (ci := 5) (v := .int (nI (dlen (Gs (R 1)) n (R 1 1)))) (C := RX5) (T := TX5) (N := 32) hx hb hts hin5 hown hK hP 0 rfl rfl 23 (by decide) f_172 (fun _ h9 => h9) rfl dX5_descentLength_10 ?_
  have hP9 : va_P (dC, dI) vwCl (wMdl cy m0 a (upd (upd I 0 0) 23 (nI (dlen (Gs (R 1)) n (R 1 1)))) (upr R 22 P9)) H := hP
  have hD9 : va_D A (wMdl cy m0 a (upd (upd I 0 0) 23 (nI (dlen (Gs (R 1)) n (R 1 1)))) (upr R 22 P9)) := hD
  exact W.iret (v := nI (dlen (Gs (R 1)) n (R 1 1))) hx hb hr (fun t ht hW => ⟨⟨nI (dlen (Gs (R 1)) n (R 1 1)), (upd (upd I 0 0) 23 (nI (dlen (Gs (R 1)) n (R 1 1))), upr R 22 P9), rfl, ⟨rfl, P9, rfl⟩, by rw [ht]; exact hP9, hD9⟩, hS.F ht⟩) hS.2.2 dX5_descentLength_13
set_option maxHeartbeats 1000000 in
set_option maxRecDepth 100000 in
/-- a point -/
theorem c_X5_descentPoint (l : Launch) (dC : Nat → ClassId) (dI : Nat → Nat → Nat) (cy : Nat → ClassId) (sz : Nat) (m0 : Nat) (a : Nat → Nat) (I : Nat → Int32) (R : vG) (n : Nat) (hn : n ≤ 8) (hS0 : R 1 0 = nI n) (hG : okG (Gs (R 1)) n) (hsc : scOk (R 1 1)) (p0 : Int32) : Met l yX5_descentPoint wsX5_descentPoint ({ frames := 5, cells := 0, slots := 0, locals := 117 }) (va_Pc [.ref m0, .int p0] (pIn dC dI cy (wMdl cy m0 a I R) sz)) (va_Qi (fun (r : Int32) (u : (Nat → Int32) × vG) => ∃ N : Nat → Int32, u = (upd (upd I 0 (cT (dlen (Gs (R 1)) n (R 1 1)) p0)) 23 (nI (dlen (Gs (R 1)) n (R 1 1))), upr R 22 N) ∧ (cT (dlen (Gs (R 1)) n (R 1 1)) p0 = 0 → r = dpoint (Gs (R 1)) n (R 1 1) p0.toNatClampNeg)) (fun (u : (Nat → Int32) × vG) t => va_P (dC, dI) vwCl (wMdl cy m0 a u.1 u.2) t.heap ∧ va_D (va_A (wMdl cy m0 a I R) sz) (wMdl cy m0 a u.1 u.2)) (va_A (wMdl cy m0 a I R) sz)) 0 0 (va_A (wMdl cy m0 a I R) sz) := by
  refine Met.ofW (cc := cX5_descentPoint) (maxL := 2) (ret := some .int) (by decide) rfl ?_
  intro p e s m args below meth c s₁ B hml hv
  obtain ⟨rfl, hsz, hP, hE, hD0⟩ := hv
  have hK := hE.1
  subst hsz
  have hD := hD0.self (sz := s.heap.size)
  generalize hAe : va_A (wMdl cy m0 a I R) s.heap.size = A at hD ⊢
  have hA : ∀ q : Nat, s.heap.size ≤ q → A q := fun q h => by rw [← hAe]; exact Or.inr h
  have hS : va_S A s.heap s.heap [] := va_S.rf
  have hP : va_P (dC, dI) vwCl (wMdl cy m0 a I R) s.heap := hP
  have hx := B.exec
  have hb := B.bytes
  have hr := B.returns
  have hts := atoms_spec (ws := wsX5_descentPoint) B.pre
  have hown : s.vm.findClass RX5 = some m.cls := findClass_of_methodNamed B.named
  have hlocks := B.notSynchronized
  have hin5 : ∀ w ∈ u_ws RX5 TX5 32, w ∈ wsX5_descentPoint := by decide +kernel
  have f_172 := hts (.fieldLink RX5 172 "DeadlineAdmissionModel" "pointMany" "I") (by decide +kernel)
  have f_35 := hts (.fieldLink RX5 35 "DeadlineAdmissionModel" "points" "[I") (by decide +kernel)
  have f_50 := hts (.fieldLink RX5 50 "DeadlineAdmissionModel" "thrown" "I") (by decide +kernel)
  have hl := lv_entry ([.ref m0, .int p0]) (n := 2) (Nat.le_of_ble_eq_true rfl)
  rw [lg_entry_eq]
  generalize (lg_sl ([.ref m0, .int p0]) ++ List.replicate (2 - (lg_sl ([.ref m0, .int p0])).length) Slot.unset).toArray = ls at hl ⊢
  have hl : lv_has ls 2 [(0, .ref m0), (1, .int p0)] := hl
  refine lv_aload_n hx hb dX5_descentPoint_0 rfl (lv_at hl 0 rfl) ?_
  refine lv_iconst (v := 0) hx hb dX5_descentPoint_1 (by decide) ?_
  refine va_put (D := (dC, dI)) (ci := 5) (v := .int 0) (ty := .int) (C := RX5) (T := TX5) (N := 32) hx hb hts hin5 tyX5 tyX5_ok nmX5 hown hK hP hD hS 0 rfl rfl 0 (by decide) f_50 (fun _ h9 => h9) rfl (by decide +kernel) rfl rfl (Nat.le_of_ble_eq_true rfl) dX5_descentPoint_2 (fun H locs hP hD hS => ?_)
  have hP : va_P (dC, dI) vwCl (wMdl cy m0 a (upd I 0 0) R) H := hP
  have hD : va_D A (wMdl cy m0 a (upd I 0 0) R) := hD
  refine lv_aload_n hx hb dX5_descentPoint_5 rfl (lv_at hl 0 rfl) ?_
  have hPc := hP.sub (ws' := wMdl cy m0 a (upd I 0 0) R) [0, 1, 2, 3, 4, 5, 6, 7, 8, 9, 10, 11, 12] rfl
  have hDc := hD.sub (ws' := wMdl cy m0 a (upd I 0 0) R) [0, 1, 2, 3, 4, 5, 6, 7, 8, 9, 10, 11, 12] (by decide) rfl
  have hFc := va_free (wc := wMdl cy m0 a (upd I 0 0) R) hD hS hA [0, 1, 2, 3, 4, 5, 6, 7, 8, 9, 10, 11, 12] rfl
  refine va_callv (va_runV (As := []) (rest := []) ⟨hx, hb, hml, hown, hts⟩ (c_X5_descends l dC dI cy H.size m0 a (upd I 0 0) R n hn hS0 hG hsc) (cwV 0 hts gX5_descentPoint_X5_descends rfl rfl rfl (by decide +kernel) ⟨Nat.le_of_ble_eq_true rfl, Nat.le_of_ble_eq_true rfl⟩) ⟨bl_in, va_recv hK hPc (ci := 5) (q0 := 0) rfl rfl, pr_in hPc hE hDc⟩ rfl rfl hl.1 rfl (lv_room (Nat.le_of_ble_eq_true rfl)) dX5_descentPoint_6 ⟨Nat.le_of_ble_eq_true rfl, Nat.le_of_ble_eq_true rfl⟩) hS (fun q _ h => hFc q h) hFc (fun u t H1 locs ht hvm hw hB hz1 hk1 hS => ?_)
  obtain ⟨P9, rfl⟩ : ∃ z, z = u := ⟨_, rfl⟩
  have hP9w := hw
  obtain ⟨hP1, hD1⟩ := hB
  rw [ht] at hP1
  obtain ⟨hP, hD⟩ := va_join (wr := []) (w1 := wMdl cy m0 a (upd (upd I 0 0) 23 (nI (dlen (Gs (R 1)) n (R 1 1)))) (upr R 22 P9)) hP hD [0, 1, 2, 3, 4, 5, 6, 7, 8, 9, 10, 11, 12] [] rfl rfl (by decide) (by decide) hk1 hFc hP1 hD1
  have hP : va_P (dC, dI) vwCl (wMdl cy m0 a (upd (upd I 0 0) 23 (nI (dlen (Gs (R 1)) n (R 1 1)))) (upr R 22 P9)) H1 := hP.sub [0, 1, 2, 3, 4, 5, 6, 7, 8, 9, 10, 11, 12] rfl
  have hD : va_D A (wMdl cy m0 a (upd (upd I 0 0) 23 (nI (dlen (Gs (R 1)) n (R 1 1)))) (upr R 22 P9)) := hD.sub [0, 1, 2, 3, 4, 5, 6, 7, 8, 9, 10, 11, 12] (by decide) rfl
  clear hz1 hk1 hPc hDc hFc hP1 hD1
  generalize H1 = H at hP hS ⊢
  refine lv_iload_n hx hb dX5_descentPoint_9 rfl (lv_at hl 1 rfl) ?_
  refine lv_iconst (v := 0) hx hb dX5_descentPoint_10 (by decide) ?_
  refine lv_aload_n hx hb dX5_descentPoint_11 rfl (lv_at hl 0 rfl) ?_
  refine va_get (D := (dC, dI)) (ci := 5) (v := .int (nI (dlen (Gs (R 1)) n (R 1 1)))) (C := RX5) (T := TX5) (N := 32) hx hb hts hin5 hown hK hP 0 rfl rfl 23 (by decide) f_172 (fun _ h9 => h9) rfl dX5_descentPoint_12 ?_
  refine lv_iconst (v := 1) hx hb dX5_descentPoint_15 (by decide) ?_
  refine lv_isub hx hb dX5_descentPoint_16 ?_
  refine vp_callSi (va_runS (As := [.int p0, .int 0, .int ((nI (dlen (Gs (R 1)) n (R 1 1))) - 1)]) (rest := []) ⟨hx, hb, hml, hown, hts⟩ (c_X5_in l p0 0 ((nI (dlen (Gs (R 1)) n (R 1 1))) - 1)) (cwS 3 hts gX5_descentPoint_X5_in rfl rfl rfl (by decide +kernel) ⟨Nat.le_of_ble_eq_true rfl, Nat.le_of_ble_eq_true rfl⟩) ⟨fun a U g mk q => q, fun U hU hW => ⟨rfl, trivial⟩⟩ rfl rfl hl.1 rfl (lv_room (Nat.le_of_ble_eq_true rfl)) dX5_descentPoint_17 ⟨Nat.le_of_ble_eq_true rfl, Nat.le_of_ble_eq_true rfl⟩).run (fun r e_r => ?_)
  subst e_r
  refine lv_topi (fun y_ ey_ => ?_)
  obtain rfl : y_ = if ¬ p0 < 0 ∧ ¬ ((nI (dlen (Gs (R 1)) n (R 1 1))) - 1) < p0 then 1 else 0 := ey_
  refine lv_if_eq (tgt := 32) hx hb dX5_descentPoint_20 (by decide) (fun c_20 => ?_) (fun c_20 => ?_)
  · refine lv_aload_n hx hb dX5_descentPoint_32 rfl (lv_at hl 0 rfl) ?_
    refine lv_iconst (v := 1) hx hb dX5_descentPoint_33 (by decide) ?_
    have hPc := hP.sub (ws' := wMdl cy m0 a (upd (upd I 0 0) 23 (nI (dlen (Gs (R 1)) n (R 1 1)))) (upr R 22 P9)) [0, 1, 2, 3, 4, 5, 6, 7, 8, 9, 10, 11, 12] rfl
    have hDc := hD.sub (ws' := wMdl cy m0 a (upd (upd I 0 0) 23 (nI (dlen (Gs (R 1)) n (R 1 1)))) (upr R 22 P9)) [0, 1, 2, 3, 4, 5, 6, 7, 8, 9, 10, 11, 12] (by decide) rfl
    have hFc := va_free (wc := wMdl cy m0 a (upd (upd I 0 0) 23 (nI (dlen (Gs (R 1)) n (R 1 1)))) (upr R 22 P9)) hD hS hA [0, 1, 2, 3, 4, 5, 6, 7, 8, 9, 10, 11, 12] rfl
    refine va_calli (va_runV (As := [.int 1]) (rest := []) ⟨hx, hb, hml, hown, hts⟩ (c_X5_fails l dC dI cy H.size m0 a (upd (upd I 0 0) 23 (nI (dlen (Gs (R 1)) n (R 1 1)))) (upr R 22 P9) 1  ) (cwV 1 hts gX5_descentPoint_X5_fails rfl rfl rfl (by decide +kernel) ⟨Nat.le_of_ble_eq_true rfl, Nat.le_of_ble_eq_true rfl⟩) ⟨bl_in, va_recv hK hPc (ci := 5) (q0 := 0) rfl rfl, pr_in hPc hE hDc⟩ rfl rfl hl.1 rfl (lv_room (Nat.le_of_ble_eq_true rfl)) dX5_descentPoint_34 ⟨Nat.le_of_ble_eq_true rfl, Nat.le_of_ble_eq_true rfl⟩) hS (fun q _ h => hFc q h) hFc (fun r u t H1 locs ht hvm hw hB hz1 hk1 hS => ?_)
    obtain rfl := hw
    obtain ⟨hP1, hD1⟩ := hB
    rw [ht] at hP1
    obtain ⟨hP, hD⟩ := va_join (wr := []) (w1 := wMdl cy m0 a (upd (upd I 0 1) 23 (nI (dlen (Gs (R 1)) n (R 1 1)))) (upr R 22 P9)) hP hD [0, 1, 2, 3, 4, 5, 6, 7, 8, 9, 10, 11, 12] [] rfl rfl (by decide) (by decide) hk1 hFc hP1 hD1
    have hP : va_P (dC, dI) vwCl (wMdl cy m0 a (upd (upd I 0 1) 23 (nI (dlen (Gs (R 1)) n (R 1 1)))) (upr R 22 P9)) H1 := hP.sub [0, 1, 2, 3, 4, 5, 6, 7, 8, 9, 10, 11, 12] rfl
    have hD : va_D A (wMdl cy m0 a (upd (upd I 0 1) 23 (nI (dlen (Gs (R 1)) n (R 1 1)))) (upr R 22 P9)) := hD.sub [0, 1, 2, 3, 4, 5, 6, 7, 8, 9, 10, 11, 12] (by decide) rfl
    clear hz1 hk1 hPc hDc hFc hP1 hD1
    generalize H1 = H at hP hS ⊢
    have hP9 : va_P (dC, dI) vwCl (wMdl cy m0 a (upd (upd I 0 1) 23 (nI (dlen (Gs (R 1)) n (R 1 1)))) (upr R 22 P9)) H := hP
    have hD9 : va_D A (wMdl cy m0 a (upd (upd I 0 1) 23 (nI (dlen (Gs (R 1)) n (R 1 1)))) (upr R 22 P9)) := hD
    exact W.iret (v := 0) hx hb hr (fun t ht hW => ⟨⟨0, (upd (upd I 0 1) 23 (nI (dlen (Gs (R 1)) n (R 1 1))), upr R 22 P9), rfl, ⟨P9, by rw [cT_no9 (by have := dlen_le (Gs (R 1)) n (R 1 1); omega) (b10.mp c_20)], fun h => absurd ((cT_no9 (by have := dlen_le (Gs (R 1)) n (R 1 1); omega) (b10.mp c_20)).symm.trans h) (by decide)⟩, by rw [ht]; exact hP9, hD9⟩, hS.F ht⟩) hS.2.2 dX5_descentPoint_37
  · obtain ⟨i, hin, rfl⟩ := isT9 (by have := dlen_le (Gs (R 1)) n (R 1 1); omega) p0 (nb10 c_20)
    have hd9 := dlen_le (Gs (R 1)) n (R 1 1)
    refine lv_aload_n hx hb dX5_descentPoint_23 rfl (lv_at hl 0 rfl) ?_
    refine va_get (D := (dC, dI)) (ci := 5) (v := .ref (a 22)) (C := RX5) (T := TX5) (N := 32) hx hb hts hin5 hown hK hP 0 rfl rfl 22 (by decide) f_35 (fun _ h9 => h9) rfl dX5_descentPoint_24 ?_
    refine lv_iload_n hx hb dX5_descentPoint_27 rfl (lv_at hl 1 rfl) ?_
    refine wI_alv (v := P9 i) hx hb hK hP 8 0 rfl rfl i rfl (by omega) (by decide) rfl dX5_descentPoint_28 ?_
    refine lv_goto (tgt := 37) hx hb dX5_descentPoint_29 (by decide) ?_
    have hP9 : va_P (dC, dI) vwCl (wMdl cy m0 a (upd (upd I 0 0) 23 (nI (dlen (Gs (R 1)) n (R 1 1)))) (upr R 22 P9)) H := hP
    have hD9 : va_D A (wMdl cy m0 a (upd (upd I 0 0) 23 (nI (dlen (Gs (R 1)) n (R 1 1)))) (upr R 22 P9)) := hD
    exact W.iret (v := P9 i) hx hb hr (fun t ht hW => ⟨⟨P9 i, (upd (upd I 0 0) 23 (nI (dlen (Gs (R 1)) n (R 1 1))), upr R 22 P9), rfl, ⟨P9, by rw [cT_ok9 (by omega) hin], fun _ => by rw [nI_clamp (by omega)]; exact hP9w i hin⟩, by rw [ht]; exact hP9, hD9⟩, hS.F ht⟩) hS.2.2 dX5_descentPoint_37

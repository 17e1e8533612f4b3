/-! PART 48: DeadlineAdmission, the other changes -/
theorem lwl_G {n i : Nat} : ∀ (k : Nat) (G : vG) (sc : Int32) (st : Nat), (lwl n i k G sc st).1 = (lwG n i k G).1 ∧ (lwl n i k G sc st).2.2 = st + (lwG n i k G).2 := by
  intro k
  induction k with
  | zero => intro G sc st; exact ⟨rfl, rfl⟩
  | succ k ih =>
    intro G sc st
    by_cases g : gscale (up2 G 6 i (G 6 i - 1)) n = 0
    · simp only [lwl, lwG, if_pos g]; exact ⟨trivial, rfl⟩
    · simp only [lwl, lwG, if_neg g]
      obtain ⟨h1, h2⟩ := ih (up2 G 6 i (G 6 i - 1)) (nI (gscale (up2 G 6 i (G 6 i - 1)) n)) (st + 1)
      exact ⟨h1, by rw [h2]; omega⟩
theorem okG_lwG {n i : Nat} (hi : i < n) : ∀ (k : Nat) (G : vG), okG G n → G 6 i = nI k → k < 3 → okG (lwG n i k G).1 n := by
  intro k
  induction k with
  | zero => intro G h _ _; exact h
  | succ k ih =>
    intro G h e hk
    simp only [lwG]
    split
    · exact h
    · exact ih _ (okG_low h hi e (by omega)) (by show upd (G 6) i (G 6 i - 1) i = nI k; rw [pk_us, e]; exact nI_pred k) (by omega)
theorem gs_lwG {n i : Nat} : ∀ (k : Nat) (G : vG), ¬ gscale G n = 0 → ¬ gscale (lwG n i k G).1 n = 0 := by
  intro k
  induction k with
  | zero => intro G h; exact h
  | succ k ih =>
    intro G h
    simp only [lwG]
    split
    · exact h
    · rename_i g; exact ih _ g
theorem flt_neg {tx : Nat → Int32} {L : Nat} (hL : L ≤ 30) (h : flt tx L < 0) : flt tx L = -1 := by
  unfold flt at h ⊢
  split
  · rfl
  · rename_i q
    rw [if_neg q] at h
    exact absurd h (nI_pos (by have := pst_end tx L 5; omega))
theorem flt_m1 {tx : Nat → Int32} {L : Nat} (h : ¬ flt tx L < 0) : ¬ flt tx L = -1 := fun q => h (by rw [q]; decide)
def cApp (L : Nat) (p0 : Int32) : Int32 := if inr p0 33 126 then (if L = 30 then 2 else 0) else 1
def kWith (F : Nat → Int32) (G : vG) (n : Nat) (sc : Int32) (Gt : vG) (x kk : Nat) (RG : Nat → vG) (rn : Nat → Nat) (RS : Nat → Int32) (p0 r : Int32) (u : AdmS) : Prop :=
  ∃ i m, n = m + 1 ∧ i < n ∧ p0 = nI i ∧ r = nI m ∧ u = kChg F G n sc x kk RG rn RS (rmG (cpG Gt G n) i n) m (if gscale (rmG (cpG Gt G n) i n) m = 0 then sc else nI (gscale (rmG (cpG Gt G n) i n) m))
def kSetL (F : Nat → Int32) (G : vG) (n : Nat) (sc : Int32) (Gt : vG) (x kk : Nat) (RG : Nat → vG) (rn : Nat → Nat) (RS : Nat → Int32) (p0 p1 r : Int32) (u : AdmS) : Prop :=
  ∃ i, i < n ∧ p0 = nI i ∧ inr p1 0 (G 5 i) ∧ ¬ gscale (up2 (cpG Gt G n) 6 i p1) n = 0 ∧ r = G 6 i ∧ u = kChg F G n sc x kk RG rn RS (up2 (cpG Gt G n) 6 i p1) n (nI (gscale (up2 (cpG Gt G n) 6 i p1) n))
def xSetL (E : String) (G : vG) (n : Nat) (Gt : vG) (p0 p1 : Int32) (u : vG × Nat × Int32) : Prop :=
  u.2.1 ≤ 8 ∧ ((E = "java/lang/IndexOutOfBoundsException" ∧ cT n p0 = 1) ∨ (E = "java/lang/IllegalArgumentException" ∧ ∃ i, i < n ∧ p0 = nI i ∧ ¬ inr p1 0 (G 5 i)) ∨ (E = "java/lang/IllegalStateException" ∧ ∃ i, i < n ∧ p0 = nI i ∧ inr p1 0 (G 5 i) ∧ gscale (up2 (cpG Gt G n) 6 i p1) n = 0))
def kUpg (F : Nat → Int32) (G : vG) (n : Nat) (sc : Int32) (Gt : vG) (x kk : Nat) (RG : Nat → vG) (rn : Nat → Nat) (RS : Nat → Int32) (r : Int32) (u : AdmS) : Prop :=
  r = nI (upgr n (cpG Gt G n)).2 ∧ ∃ s9 : Int32, u = kChg F G n sc x kk RG rn RS (upgr n (cpG Gt G n)).1 n (if gscale (upgr n (cpG Gt G n)).1 n = 0 then s9 else nI (gscale (upgr n (cpG Gt G n)).1 n))
theorem agr_cp (G G2 : vG) (n : Nat) : agr (cpG G G2 n) G2 n := fun k _ j hj => if_pos hj
set_option maxHeartbeats 1000000 in
set_option maxRecDepth 100000 in
/-- faultPosition -/
theorem c_X4_faultPosition (l : Launch) (dC : Nat → ClassId) (dI : Nat → Nat → Nat) (cy : Nat → ClassId) (d0 : Nat) (o : Nat → Nat) (F : Nat → Int32) (ta tb : Nat) (C N : Nat → Int32) (fl : Int32) (L : Nat) : Met l yX4_faultPosition wsX4_faultPosition ({ frames := 0, cells := 0, slots := 0, locals := 0 }) (va_Pc [.ref d0] (fun U => va_P (dC, dI) vwCl (wObj d0 o F ++ (wTxt cy (o 4) ta tb C N (nI L) fl)) U.heap ∧ EV dC dI cy U)) (vp_Si (fun r => r = fl)) 0 0 (fun _ => False) := by
  refine Met.ofW (cc := cX4_faultPosition) (maxL := 1) (ret := some .int) (by decide) rfl ?_
  intro p e s m args below meth c s₁ B hml hv
  obtain ⟨rfl, hP, hE⟩ := hv
  have hK := hE.1
  have hx := B.exec
  have hb := B.bytes
  have hr := B.returns
  have hts := atoms_spec (ws := wsX4_faultPosition) B.pre
  have hown : s.vm.findClass RX4 = some m.cls := findClass_of_methodNamed B.named
  have hlocks := B.notSynchronized
  have hin3 : ∀ w ∈ u_ws RX3 TX3 4, w ∈ wsX4_faultPosition := by decide +kernel
  have hin4 : ∀ w ∈ u_ws RX4 TX4 12, w ∈ wsX4_faultPosition := by decide +kernel
  have f_32 := hts (.fieldLink RX4 32 "DeadlineAdmission" "text" "LDeadlineAdmission$TaskText;") (by decide +kernel)
  have f_91 := va_Nw.use (A := ([.ref d0].toArray)) rfl (hE.f 16 rfl)
  have hl := lv_entry ([.ref d0]) (n := 1) (Nat.le_of_ble_eq_true rfl)
  rw [lg_entry_eq]
  generalize (lg_sl ([.ref d0]) ++ List.replicate (1 - (lg_sl ([.ref d0])).length) Slot.unset).toArray = ls at hl ⊢
  have hl : lv_has ls 1 [(0, .ref d0)] := hl
  refine lv_aload_n hx hb dX4_faultPosition_0 rfl (lv_at hl 0 rfl) ?_
  refine va_get (D := (dC, dI)) (ci := 4) (v := .ref (o 4)) (C := RX4) (T := TX4) (N := 12) hx hb hts hin4 hown hK hP 0 rfl rfl 4 (by decide) f_32 (fun _ h9 => h9) rfl dX4_faultPosition_1 ?_
  refine va_getN (D := (dC, dI)) (ci := 3) (v := .int fl) (C := RX3) (T := TX3) (N := 4) hx hb hts hin3 hown hK hP 1 rfl rfl 3 (by decide) f_91 (fun _ h9 => h9) rfl dX4_faultPosition_4 ?_
  exact W.iret (v := fl) hx hb hr (fun t ht hW => ⟨_, rfl, rfl, ht⟩) (fun q hq => absurd hq List.not_mem_nil) dX4_faultPosition_7
set_option maxHeartbeats 1000000 in
set_option maxRecDepth 100000 in
/-- a character more -/
theorem c_X4_appendCharacter (l : Launch) (hst : l.stackTraces = false) (dC : Nat → ClassId) (dI : Nat → Nat → Nat) (cy : Nat → ClassId) (sz : Nat) (d0 : Nat) (o : Nat → Nat) (F : Nat → Int32) (ta tb : Nat) (C N : Nat → Int32) (fl : Int32) (L : Nat) (hL : L ≤ 30) (p0 : Int32) : vx_Met l yX4_appendCharacter wsX4_appendCharacter ({ frames := 6, cells := 1, slots := 6, locals := 82 }) (va_Pc [.ref d0, .int p0] (pX dC dI cy (wObj d0 o F ++ (wTxt cy (o 4) ta tb C N (nI L) fl)) sz)) (va_Qi (fun (r : Int32) (_ : Unit) => cApp L p0 = 0 ∧ r = nI (L + 1)) (fun (u : Unit) t => va_P (dC, dI) vwCl (wObj d0 o F ++ (wTxt cy (o 4) ta tb (upd C L p0) N (nI (L + 1)) fl)) t.heap ∧ va_D (va_A (wObj d0 o F ++ (wTxt cy (o 4) ta tb C N (nI L) fl)) sz) (wObj d0 o F ++ (wTxt cy (o 4) ta tb (upd C L p0) N (nI (L + 1)) fl))) (va_A (wObj d0 o F ++ (wTxt cy (o 4) ta tb C N (nI L) fl)) sz)) (vx_X (fun (_ : Unit) => True) (fun (E : String) (u : Unit) (t : State) => ((E = "java/lang/IllegalArgumentException" ∧ cApp L p0 = 1) ∨ (E = "java/lang/IllegalStateException" ∧ cApp L p0 = 2)) ∧ va_P (dC, dI) vwCl (wObj d0 o F ++ (wTxt cy (o 4) ta tb C N (nI L) fl)) t.heap ∧ va_D (va_A (wObj d0 o F ++ (wTxt cy (o 4) ta tb C N (nI L) fl)) sz) (wObj d0 o F ++ (wTxt cy (o 4) ta tb C N (nI L) fl))) (va_A (wObj d0 o F ++ (wTxt cy (o 4) ta tb C N (nI L) fl)) sz)) 1 6 (va_A (wObj d0 o F ++ (wTxt cy (o 4) ta tb C N (nI L) fl)) sz) := by
  refine vx_ofW (cc := cX4_appendCharacter) (maxL := 2) (ret := some .int) (by decide) rfl ?_
  intro p e s m args below meth c s₁ B hml hnt hv
  obtain ⟨rfl, hsz, hP, hE, hD0, hX, hZ⟩ := hv
  have hK := hE.1
  subst hsz
  have hD := hD0.self (sz := s.heap.size)
  generalize hAe : va_A (wObj d0 o F ++ (wTxt cy (o 4) ta tb C N (nI L) fl)) s.heap.size = A at hD hZ ⊢
  have hA : ∀ q : Nat, s.heap.size ≤ q → A q := fun q h => by rw [← hAe]; exact Or.inr h
  have hS : va_S A s.heap s.heap [] := va_S.rf
  have hP : va_P (dC, dI) vwCl (wObj d0 o F ++ (wTxt cy (o 4) ta tb C N (nI L) fl)) s.heap := hP
  have hx := B.exec
  have hb := B.bytes
  have hr := B.returns
  have hts := atoms_spec (ws := wsX4_appendCharacter) B.pre
  have hown : s.vm.findClass RX4 = some m.cls := findClass_of_methodNamed B.named
  have hlocks := B.notSynchronized
  have hin3 : ∀ w ∈ u_ws RX3 TX3 4, w ∈ wsX4_appendCharacter := by decide +kernel
  have hin4 : ∀ w ∈ u_ws RX4 TX4 12, w ∈ wsX4_appendCharacter := by decide +kernel
  have f_106 := va_Nw.use (A := ([.ref d0, .int p0].toArray)) rfl (hE.f 15 rfl)
  have f_32 := hts (.fieldLink RX4 32 "DeadlineAdmission" "text" "LDeadlineAdmission$TaskText;") (by decide +kernel)
  have hl := lv_entry ([.ref d0, .int p0]) (n := 2) (Nat.le_of_ble_eq_true rfl)
  rw [lg_entry_eq]
  generalize (lg_sl ([.ref d0, .int p0]) ++ List.replicate (2 - (lg_sl ([.ref d0, .int p0])).length) Slot.unset).toArray = ls at hl ⊢
  have hl : lv_has ls 2 [(0, .ref d0), (1, .int p0)] := hl
  refine lv_iload_n hx hb dX4_appendCharacter_0 rfl (lv_at hl 1 rfl) ?_
  refine lv_bipush (v := 33) hx hb dX4_appendCharacter_1 (by decide) ?_
  refine lv_icmp_lt (tgt := 12) hx hb dX4_appendCharacter_3 (by decide) (fun c_3 => ?_) (fun c_3 => ?_)
  · obtain ⟨sa, hsa⟩ := hX.s 3 (k := 104) (t := "the character is not from 33 to 126") rfl
    exact vx_throwS (names := ["java/lang/RuntimeException", "java/lang/Exception"]) hx hb hst hown (by decide +kernel) (by decide +kernel) (hts (.classLink RX4 51 "java/lang/IllegalArgumentException") (by decide +kernel)) (hts (.initialized "java/lang/IllegalArgumentException") (by decide +kernel)) hsa (vx_hat (fun w h => hts w (List.mem_cons_of_mem _ (List.mem_append_left _ (List.mem_append_right _ h)))) ng_IAE (vx_c (va_Nw.use rfl (hX.c 0 rfl)) (vx_c (va_Nw.use rfl (hX.d 0 rfl)) (vx_c (va_Nw.use rfl (hX.d 1 rfl)) (vx_c (va_Nw.use rfl (hX.d 2 rfl)) vx_n))))) ot_IAE hZ.1 hZ.2 hS (hl.1.trans hml.symm) dX4_appendCharacter_12 dX4_appendCharacter_15 dX4_appendCharacter_16 dX4_appendCharacter_18 dX4_appendCharacter_21 (fun x hx9 => (hnt x hx9).elim) (Nat.le_of_ble_eq_true rfl) (Nat.le_of_ble_eq_true rfl) (Nat.le_of_ble_eq_true rfl) (Nat.le_of_ble_eq_true rfl) hlocks (fun t hvm hz hk => ⟨(), trivial, ⟨Or.inl ⟨rfl, if_neg (fun h => h.1 c_3)⟩, hP.kept (fun k q h9 => hk q.1 ((hP k q h9).lt)), hD⟩, ⟨Nat.le_trans hS.1 hz, fun q h1 h2 => (hk q (Nat.lt_of_lt_of_le h1 hS.1)).trans (hS.2.1 q h1 h2)⟩⟩) hS.2.2 (Nat.le_of_ble_eq_true rfl) (Nat.le_of_ble_eq_true rfl)
  · refine lv_iload_n hx hb dX4_appendCharacter_6 rfl (lv_at hl 1 rfl) ?_
    refine lv_bipush (v := 126) hx hb dX4_appendCharacter_7 (by decide) ?_
    refine lv_icmp_le (tgt := 22) hx hb dX4_appendCharacter_9 (by decide) (fun c_9 => ?_) (fun c_9 => ?_)
    · refine lv_aload_n hx hb dX4_appendCharacter_22 rfl (lv_at hl 0 rfl) ?_
      refine va_get (D := (dC, dI)) (ci := 4) (v := .ref (o 4)) (C := RX4) (T := TX4) (N := 12) hx hb hts hin4 hown hK hP 0 rfl rfl 4 (by decide) f_32 (fun _ h9 => h9) rfl dX4_appendCharacter_23 ?_
      refine va_getN (D := (dC, dI)) (ci := 3) (v := .int (nI L)) (C := RX3) (T := TX3) (N := 4) hx hb hts hin3 hown hK hP 1 rfl rfl 2 (by decide) f_106 (fun _ h9 => h9) rfl dX4_appendCharacter_26 ?_
      refine lv_bipush (v := 30) hx hb dX4_appendCharacter_29 (by decide) ?_
      refine lv_icmp_lt (tgt := 44) hx hb dX4_appendCharacter_31 (by decide) (fun c_31 => ?_) (fun c_31 => ?_)
      · have hL9 : L < 30 := (nI_ltI (b := 30) (by omega) (by omega)).mp c_31
        refine lv_aload_n hx hb dX4_appendCharacter_44 rfl (lv_at hl 0 rfl) ?_
        refine va_get (D := (dC, dI)) (ci := 4) (v := .ref (o 4)) (C := RX4) (T := TX4) (N := 12) hx hb hts hin4 hown hK hP 0 rfl rfl 4 (by decide) f_32 (fun _ h9 => h9) rfl dX4_appendCharacter_45 ?_
        refine lv_iload_n hx hb dX4_appendCharacter_48 rfl (lv_at hl 1 rfl) ?_
        have hPc := hP.sub (ws' := wTxt cy (o 4) ta tb C N (nI L) fl) [1, 2, 3] rfl
        have hDc := hD.sub (ws' := wTxt cy (o 4) ta tb C N (nI L) fl) [1, 2, 3] (by decide) rfl
        have hFc := va_free (wc := wTxt cy (o 4) ta tb C N (nI L) fl) hD hS hA [1, 2, 3] rfl
        refine va_callv (va_runV (As := [.int p0]) (rest := []) ⟨hx, hb, hml, hown, hts⟩ (c_X3_append l dC dI cy s.heap.size (o 4) ta tb C N fl L (by omega) (by omega) p0) (cwV 1 hts gX4_appendCharacter_X3_append rfl rfl rfl (by decide +kernel) ⟨Nat.le_of_ble_eq_true rfl, Nat.le_of_ble_eq_true rfl⟩) ⟨bl_in, va_recv hK hPc (ci := 3) (q0 := 0) rfl rfl, pr_in hPc hE hDc⟩ rfl rfl hl.1 rfl (lv_room (Nat.le_of_ble_eq_true rfl)) dX4_appendCharacter_49 ⟨Nat.le_of_ble_eq_true rfl, Nat.le_of_ble_eq_true rfl⟩) hS (fun q _ h => hFc q h) hFc (fun u t H1 locs ht hvm hw hB hz1 hk1 hS => ?_)
        obtain ⟨hP1, hD1⟩ := hB
        rw [ht] at hP1
        obtain ⟨hP, hD⟩ := va_join (wr := wObj d0 o F) (w1 := wTxt cy (o 4) ta tb (upd C L p0) N (nI (L + 1)) fl) hP hD [1, 2, 3] [0] rfl rfl (by decide) (by decide) hk1 hFc hP1 hD1
        have hP : va_P (dC, dI) vwCl (wObj d0 o F ++ (wTxt cy (o 4) ta tb (upd C L p0) N (nI (L + 1)) fl)) H1 := hP.sub [0, 1, 2, 3] rfl
        have hD : va_D A (wObj d0 o F ++ (wTxt cy (o 4) ta tb (upd C L p0) N (nI (L + 1)) fl)) := hD.sub [0, 1, 2, 3] (by decide) rfl
        clear hz1 hk1 hPc hDc hFc hP1 hD1
        generalize H1 = H at hP hS ⊢
        refine lv_aload_n hx hb dX4_appendCharacter_52 rfl (lv_at hl 0 rfl) ?_
        refine va_get (D := (dC, dI)) (ci := 4) (v := .ref (o 4)) (C := RX4) (T := TX4) (N := 12) hx hb hts hin4 hown hK hP 0 rfl rfl 4 (by decide) f_32 (fun _ h9 => h9) rfl dX4_appendCharacter_53 ?_
        refine va_getN (D := (dC, dI)) (ci := 3) (v := .int (nI (L + 1))) (C := RX3) (T := TX3) (N := 4) hx hb hts hin3 hown hK hP 1 rfl rfl 2 (by decide) f_106 (fun _ h9 => h9) rfl dX4_appendCharacter_56 ?_
        refine vx_ret ?_
        refine W.widen (k := 1) (n := 6) (Nat.le_of_ble_eq_true rfl) (Nat.le_of_ble_eq_true rfl) ?_
        have hP9 : va_P (dC, dI) vwCl (wObj d0 o F ++ (wTxt cy (o 4) ta tb (upd C L p0) N (nI (L + 1)) fl)) H := hP
        have hD9 : va_D A (wObj d0 o F ++ (wTxt cy (o 4) ta tb (upd C L p0) N (nI (L + 1)) fl)) := hD
        exact W.iret (v := nI (L + 1)) hx hb hr (fun t ht hW => ⟨⟨nI (L + 1), (), rfl, ⟨by rw [cApp, if_pos ⟨c_3, Int32.not_lt.mpr c_9⟩, if_neg (by omega)], rfl⟩, by rw [ht]; exact hP9, hD9⟩, hS.F ht⟩) hS.2.2 dX4_appendCharacter_59
      · have hL9 : L = 30 := by rcases Nat.lt_or_ge L 30 with q | q; exact absurd (nI_lt (b := 30) q (by omega)) c_31; omega
        obtain ⟨sa, hsa⟩ := hX.s 4 (k := 109) (t := "the text has 30 characters") rfl
        exact vx_throwS (names := ["java/lang/RuntimeException", "java/lang/Exception"]) hx hb hst hown (by decide +kernel) (by decide +kernel) (hts (.classLink RX4 62 "java/lang/IllegalStateException") (by decide +kernel)) (hts (.initialized "java/lang/IllegalStateException") (by decide +kernel)) hsa (vx_hat (fun w h => hts w (List.mem_cons_of_mem _ (List.mem_append_right _ h))) ng_ISE (vx_c (va_Nw.use rfl (hX.c 1 rfl)) (vx_c (va_Nw.use rfl (hX.d 0 rfl)) (vx_c (va_Nw.use rfl (hX.d 1 rfl)) (vx_c (va_Nw.use rfl (hX.d 2 rfl)) vx_n))))) ot_ISE hZ.1 hZ.2 hS (hl.1.trans hml.symm) dX4_appendCharacter_34 dX4_appendCharacter_37 dX4_appendCharacter_38 dX4_appendCharacter_40 dX4_appendCharacter_43 (fun x hx9 => (hnt x hx9).elim) (Nat.le_of_ble_eq_true rfl) (Nat.le_of_ble_eq_true rfl) (Nat.le_of_ble_eq_true rfl) (Nat.le_of_ble_eq_true rfl) hlocks (fun t hvm hz hk => ⟨(), trivial, ⟨Or.inr ⟨rfl, by rw [cApp, if_pos ⟨c_3, Int32.not_lt.mpr c_9⟩, if_pos hL9]⟩, hP.kept (fun k q h9 => hk q.1 ((hP k q h9).lt)), hD⟩, ⟨Nat.le_trans hS.1 hz, fun q h1 h2 => (hk q (Nat.lt_of_lt_of_le h1 hS.1)).trans (hS.2.1 q h1 h2)⟩⟩) hS.2.2 (Nat.le_of_ble_eq_true rfl) (Nat.le_of_ble_eq_true rfl)
    · obtain ⟨sa, hsa⟩ := hX.s 3 (k := 104) (t := "the character is not from 33 to 126") rfl
      exact vx_throwS (names := ["java/lang/RuntimeException", "java/lang/Exception"]) hx hb hst hown (by decide +kernel) (by decide +kernel) (hts (.classLink RX4 51 "java/lang/IllegalArgumentException") (by decide +kernel)) (hts (.initialized "java/lang/IllegalArgumentException") (by decide +kernel)) hsa (vx_hat (fun w h => hts w (List.mem_cons_of_mem _ (List.mem_append_left _ (List.mem_append_right _ h)))) ng_IAE (vx_c (va_Nw.use rfl (hX.c 0 rfl)) (vx_c (va_Nw.use rfl (hX.d 0 rfl)) (vx_c (va_Nw.use rfl (hX.d 1 rfl)) (vx_c (va_Nw.use rfl (hX.d 2 rfl)) vx_n))))) ot_IAE hZ.1 hZ.2 hS (hl.1.trans hml.symm) dX4_appendCharacter_12 dX4_appendCharacter_15 dX4_appendCharacter_16 dX4_appendCharacter_18 dX4_appendCharacter_21 (fun x hx9 => (hnt x hx9).elim) (Nat.le_of_ble_eq_true rfl) (Nat.le_of_ble_eq_true rfl) (Nat.le_of_ble_eq_true rfl) (Nat.le_of_ble_eq_true rfl) hlocks (fun t hvm hz hk => ⟨(), trivial, ⟨Or.inl ⟨rfl, if_neg (fun h => h.2 (Int32.not_le.mp c_9))⟩, hP.kept (fun k q h9 => hk q.1 ((hP k q h9).lt)), hD⟩, ⟨Nat.le_trans hS.1 hz, fun q h1 h2 => (hk q (Nat.lt_of_lt_of_le h1 hS.1)).trans (hS.2.1 q h1 h2)⟩⟩) hS.2.2 (Nat.le_of_ble_eq_true rfl) (Nat.le_of_ble_eq_true rfl)
set_option maxHeartbeats 1000000 in
set_option maxRecDepth 100000 in
/-- a task is taken back -/
theorem c_X4_withdraw (l : Launch) (hst : l.stackTraces = false) (dC : Nat → ClassId) (dI : Nat → Nat → Nat) (cy : Nat → ClassId) (sz : Nat) (d0 : Nat) (o : Nat → Nat) (F : Nat → Int32) (bc : Nat → Nat) (G : vG) (n : Nat) (hn : n ≤ 8) (sc : Int32) (bt : Nat → Nat) (Gt : vG) (nt : Nat) (hnt : nt ≤ 8) (sct : Int32) (rg x kk : Nat) (hx6 : x < 6) (hkk : kk ≤ 6) (cs : Nat → Nat) (bs : Nat → Nat → Nat) (RG : Nat → vG) (rn : Nat → Nat) (RS : Nat → Int32) (p0 : Int32) : vx_Met l yX4_withdraw wsX4_withdraw ({ frames := 7, cells := 1, slots := 6, locals := 120 }) (va_Pc [.ref d0, .int p0] (pX dC dI cy (wObj d0 o F ++ (wCfg cy (o 0) bc G (nI n) sc ++ (wCfg cy (o 1) bt Gt (nI nt) sct ++ (wHis cy (o 3) rg x kk cs bs RG rn RS)))) sz)) (va_Qi (fun (r : Int32) (u : AdmS) => kWith F G n sc Gt x kk RG rn RS p0 r u) (fun (u : AdmS) t => va_P (dC, dI) vwCl (wAdm cy d0 o bc bt rg cs bs u) t.heap ∧ va_D (va_A (wObj d0 o F ++ (wCfg cy (o 0) bc G (nI n) sc ++ (wCfg cy (o 1) bt Gt (nI nt) sct ++ (wHis cy (o 3) rg x kk cs bs RG rn RS)))) sz) (wAdm cy d0 o bc bt rg cs bs u)) (va_A (wObj d0 o F ++ (wCfg cy (o 0) bc G (nI n) sc ++ (wCfg cy (o 1) bt Gt (nI nt) sct ++ (wHis cy (o 3) rg x kk cs bs RG rn RS)))) sz)) (vx_X (fun (_ : Unit) => True) (fun (E : String) (u : Unit) (t : State) => (E = "java/lang/IndexOutOfBoundsException" ∧ cT n p0 = 1) ∧ va_P (dC, dI) vwCl (wObj d0 o F ++ (wCfg cy (o 0) bc G (nI n) sc ++ (wCfg cy (o 1) bt Gt (nI nt) sct ++ (wHis cy (o 3) rg x kk cs bs RG rn RS)))) t.heap ∧ va_D (va_A (wObj d0 o F ++ (wCfg cy (o 0) bc G (nI n) sc ++ (wCfg cy (o 1) bt Gt (nI nt) sct ++ (wHis cy (o 3) rg x kk cs bs RG rn RS)))) sz) (wObj d0 o F ++ (wCfg cy (o 0) bc G (nI n) sc ++ (wCfg cy (o 1) bt Gt (nI nt) sct ++ (wHis cy (o 3) rg x kk cs bs RG rn RS))))) (va_A (wObj d0 o F ++ (wCfg cy (o 0) bc G (nI n) sc ++ (wCfg cy (o 1) bt Gt (nI nt) sct ++ (wHis cy (o 3) rg x kk cs bs RG rn RS)))) sz)) 1 6 (va_A (wObj d0 o F ++ (wCfg cy (o 0) bc G (nI n) sc ++ (wCfg cy (o 1) bt Gt (nI nt) sct ++ (wHis cy (o 3) rg x kk cs bs RG rn RS)))) sz) := by
  refine vx_ofW (cc := cX4_withdraw) (maxL := 2) (ret := some .int) (by decide) rfl ?_
  intro p e s m args below meth c s₁ B hml hnt hv
  obtain ⟨rfl, hsz, hP, hE, hD0, hX, hZ⟩ := hv
  have hK := hE.1
  subst hsz
  have hD := hD0.self (sz := s.heap.size)
  generalize hAe : va_A (wObj d0 o F ++ (wCfg cy (o 0) bc G (nI n) sc ++ (wCfg cy (o 1) bt Gt (nI nt) sct ++ (wHis cy (o 3) rg x kk cs bs RG rn RS)))) s.heap.size = A at hD hZ ⊢
  have hA : ∀ q : Nat, s.heap.size ≤ q → A q := fun q h => by rw [← hAe]; exact Or.inr h
  have hS : va_S A s.heap s.heap [] := va_S.rf
  have hP : va_P (dC, dI) vwCl (wObj d0 o F ++ (wCfg cy (o 0) bc G (nI n) sc ++ (wCfg cy (o 1) bt Gt (nI nt) sct ++ (wHis cy (o 3) rg x kk cs bs RG rn RS)))) s.heap := hP
  have hx := B.exec
  have hb := B.bytes
  have hr := B.returns
  have hts := atoms_spec (ws := wsX4_withdraw) B.pre
  have hown : s.vm.findClass RX4 = some m.cls := findClass_of_methodNamed B.named
  have hlocks := B.notSynchronized
  have hin0 : ∀ w ∈ u_ws RX0 TX0 9, w ∈ wsX4_withdraw := by decide +kernel
  have hin4 : ∀ w ∈ u_ws RX4 TX4 12, w ∈ wsX4_withdraw := by decide +kernel
  have f_12 := hts (.fieldLink RX4 12 "DeadlineAdmission" "current" "LDeadlineAdmission$Configuration;") (by decide +kernel)
  have f_16 := hts (.fieldLink RX4 16 "DeadlineAdmission" "trial" "LDeadlineAdmission$Configuration;") (by decide +kernel)
  have f_58 := va_Nw.use (A := ([.ref d0, .int p0].toArray)) rfl (hE.f 9 rfl)
  have hl := lv_entry ([.ref d0, .int p0]) (n := 2) (Nat.le_of_ble_eq_true rfl)
  rw [lg_entry_eq]
  generalize (lg_sl ([.ref d0, .int p0]) ++ List.replicate (2 - (lg_sl ([.ref d0, .int p0])).length) Slot.unset).toArray = ls at hl ⊢
  have hl : lv_has ls 2 [(0, .ref d0), (1, .int p0)] := hl
  refine lv_aload_n hx hb dX4_withdraw_0 rfl (lv_at hl 0 rfl) ?_
  refine lv_iload_n hx hb dX4_withdraw_1 rfl (lv_at hl 1 rfl) ?_
  refine vx_callv (vx_runV (As := [.int p0]) (rest := []) ⟨hx, hb, hml, hown, hts⟩ (c_X4_requireTask l hst dC dI cy s.heap.size d0 o F bc G n hn sc p0) (cwV 1 hts gX4_withdraw_X4_requireTask rfl rfl rfl (by decide +kernel) ⟨Nat.le_of_ble_eq_true rfl, Nat.le_of_ble_eq_true rfl⟩) ⟨bl_R, va_recv hK (hP.sub (ws' := wObj d0 o F ++ (wCfg cy (o 0) bc G (nI n) sc)) [0, 1, 2, 3, 4, 5, 6, 7, 8] rfl) (ci := 4) (q0 := 0) rfl rfl, pr_R (hP.sub (ws' := wObj d0 o F ++ (wCfg cy (o 0) bc G (nI n) sc)) [0, 1, 2, 3, 4, 5, 6, 7, 8] rfl) hE hX hZ hS hA⟩ rfl rfl hl.1 rfl (lv_room (Nat.le_of_ble_eq_true rfl)) dX4_withdraw_2 ⟨Nat.le_of_ble_eq_true rfl, Nat.le_of_ble_eq_true rfl⟩) hS (fun q _ h => hA q (Nat.le_trans hS.1 h)) (fun q h => hA q (Nat.le_trans hS.1 h)) (fun q _ h => hA q (Nat.le_trans hS.1 h)) (fun E ce q9 u t H1 locs ht hvm hpx hBX hz1 hk1 hS hce hcv hcl => ?_) (fun u t H1 locs ht hvm hw hB hz1 hk1 hS => ?_)
  · exact vx_out (fun x hx9 => (hnt x hx9).elim) hlocks hce hcv hcl (fun t ht hvm => ⟨(), trivial, ⟨hBX, by rw [ht]; exact (hP.kept (fun k q hk => hk1 q.1 ((hP k q hk).lt) (Nat.not_le.mpr ((hP k q hk).lt)))), hD⟩, hS.F ht⟩) hS.2.2 (Nat.le_of_ble_eq_true rfl) (Nat.le_of_ble_eq_true rfl)
  obtain ⟨i, hin, rfl⟩ := cT_get hn hw
  have hP : va_P (dC, dI) vwCl (wObj d0 o F ++ (wCfg cy (o 0) bc G (nI n) sc ++ (wCfg cy (o 1) bt Gt (nI nt) sct ++ (wHis cy (o 3) rg x kk cs bs RG rn RS)))) H1 := hP.kept (fun k q hk => hk1 q.1 ((hP k q hk).lt) (Nat.not_le.mpr ((hP k q hk).lt)))
  clear hz1 hk1
  generalize H1 = H at hP hS ⊢
  obtain ⟨m9, rfl⟩ : ∃ z, n = z + 1 := ⟨n - 1, by omega⟩
  refine lv_aload_n hx hb dX4_withdraw_5 rfl (lv_at hl 0 rfl) ?_
  refine va_get (D := (dC, dI)) (ci := 4) (v := .ref (o 1)) (C := RX4) (T := TX4) (N := 12) hx hb hts hin4 hown hK hP 0 rfl rfl 1 (by decide) f_16 (fun _ h9 => h9) rfl dX4_withdraw_6 ?_
  refine lv_aload_n hx hb dX4_withdraw_9 rfl (lv_at hl 0 rfl) ?_
  refine va_get (D := (dC, dI)) (ci := 4) (v := .ref (o 0)) (C := RX4) (T := TX4) (N := 12) hx hb hts hin4 hown hK hP 0 rfl rfl 0 (by decide) f_12 (fun _ h9 => h9) rfl dX4_withdraw_10 ?_
  have hPc := hP.sub (ws' := wCfg cy (o 1) bt Gt (nI nt) sct ++ (wCfg cy (o 0) bc G (nI (m9 + 1)) sc)) [9, 10, 11, 12, 13, 14, 15, 16, 1, 2, 3, 4, 5, 6, 7, 8] rfl
  have hDc := hD.sub (ws' := wCfg cy (o 1) bt Gt (nI nt) sct ++ (wCfg cy (o 0) bc G (nI (m9 + 1)) sc)) [9, 10, 11, 12, 13, 14, 15, 16, 1, 2, 3, 4, 5, 6, 7, 8] (by decide) rfl
  have hFc := va_free (wc := wCfg cy (o 1) bt Gt (nI nt) sct ++ (wCfg cy (o 0) bc G (nI (m9 + 1)) sc)) hD hS hA [9, 10, 11, 12, 13, 14, 15, 16, 1, 2, 3, 4, 5, 6, 7, 8] rfl
  refine va_callv (va_runV (As := [.ref (o 0)]) (rest := []) ⟨hx, hb, hml, hown, hts⟩ (c_X0_copyFrom l dC dI cy H.size (o 1) bt Gt (nI nt) sct (o 0) bc G (m9 + 1) (by omega) sc) (cwV 1 hts gX4_withdraw_X0_copyFrom rfl rfl rfl (by decide +kernel) ⟨Nat.le_of_ble_eq_true rfl, Nat.le_of_ble_eq_true rfl⟩) ⟨bl_in, va_recv hK hPc (ci := 0) (q0 := 0) rfl rfl, pr_in hPc hE hDc⟩ rfl rfl hl.1 rfl (lv_room (Nat.le_of_ble_eq_true rfl)) dX4_withdraw_13 ⟨Nat.le_of_ble_eq_true rfl, Nat.le_of_ble_eq_true rfl⟩) hS (fun q _ h => hFc q h) hFc (fun u t H1 locs ht hvm hw hB hz1 hk1 hS => ?_)
  obtain ⟨hP1, hD1⟩ := hB
  rw [ht] at hP1
  obtain ⟨hP, hD⟩ := va_join (wr := wObj d0 o F ++ (wHis cy (o 3) rg x kk cs bs RG rn RS)) (w1 := wCfg cy (o 1) bt (cpG Gt G (m9 + 1)) (nI (m9 + 1)) sc ++ (wCfg cy (o 0) bc G (nI (m9 + 1)) sc)) hP hD [9, 10, 11, 12, 13, 14, 15, 16, 1, 2, 3, 4, 5, 6, 7, 8] [0, 17, 18, 19, 20, 21, 22, 23, 24, 25, 26, 27, 28, 29, 30, 31, 32, 33, 34, 35, 36, 37, 38, 39, 40, 41, 42, 43, 44, 45, 46, 47, 48, 49, 50, 51, 52, 53, 54, 55, 56, 57, 58, 59, 60, 61, 62, 63, 64, 65, 66] rfl rfl (by decide) (by decide) hk1 hFc hP1 hD1
  have hP : va_P (dC, dI) vwCl (wObj d0 o F ++ (wCfg cy (o 0) bc G (nI (m9 + 1)) sc ++ (wCfg cy (o 1) bt (cpG Gt G (m9 + 1)) (nI (m9 + 1)) sc ++ (wHis cy (o 3) rg x kk cs bs RG rn RS)))) H1 := hP.sub [0, 59, 60, 61, 62, 63, 64, 65, 66, 51, 52, 53, 54, 55, 56, 57, 58, 1, 2, 3, 4, 5, 6, 7, 8, 9, 10, 11, 12, 13, 14, 15, 16, 17, 18, 19, 20, 21, 22, 23, 24, 25, 26, 27, 28, 29, 30, 31, 32, 33, 34, 35, 36, 37, 38, 39, 40, 41, 42, 43, 44, 45, 46, 47, 48, 49, 50] rfl
  have hD : va_D A (wObj d0 o F ++ (wCfg cy (o 0) bc G (nI (m9 + 1)) sc ++ (wCfg cy (o 1) bt (cpG Gt G (m9 + 1)) (nI (m9 + 1)) sc ++ (wHis cy (o 3) rg x kk cs bs RG rn RS)))) := hD.sub [0, 59, 60, 61, 62, 63, 64, 65, 66, 51, 52, 53, 54, 55, 56, 57, 58, 1, 2, 3, 4, 5, 6, 7, 8, 9, 10, 11, 12, 13, 14, 15, 16, 17, 18, 19, 20, 21, 22, 23, 24, 25, 26, 27, 28, 29, 30, 31, 32, 33, 34, 35, 36, 37, 38, 39, 40, 41, 42, 43, 44, 45, 46, 47, 48, 49, 50] (by decide) rfl
  clear hz1 hk1 hPc hDc hFc hP1 hD1
  generalize H1 = H at hP hS ⊢
  refine lv_aload_n hx hb dX4_withdraw_16 rfl (lv_at hl 0 rfl) ?_
  refine va_get (D := (dC, dI)) (ci := 4) (v := .ref (o 1)) (C := RX4) (T := TX4) (N := 12) hx hb hts hin4 hown hK hP 0 rfl rfl 1 (by decide) f_16 (fun _ h9 => h9) rfl dX4_withdraw_17 ?_
  refine lv_iload_n hx hb dX4_withdraw_20 rfl (lv_at hl 1 rfl) ?_
  have hPc := hP.sub (ws' := wCfg cy (o 1) bt (cpG Gt G (m9 + 1)) (nI (m9 + 1)) sc) [9, 10, 11, 12, 13, 14, 15, 16] rfl
  have hDc := hD.sub (ws' := wCfg cy (o 1) bt (cpG Gt G (m9 + 1)) (nI (m9 + 1)) sc) [9, 10, 11, 12, 13, 14, 15, 16] (by decide) rfl
  have hFc := va_free (wc := wCfg cy (o 1) bt (cpG Gt G (m9 + 1)) (nI (m9 + 1)) sc) hD hS hA [9, 10, 11, 12, 13, 14, 15, 16] rfl
  refine va_callv (va_runV (As := [.int (nI i)]) (rest := []) ⟨hx, hb, hml, hown, hts⟩ (c_X0_removeAt l dC dI cy H.size (o 1) bt (cpG Gt G (m9 + 1)) m9 (by omega) sc i (by omega)) (cwV 1 hts gX4_withdraw_X0_removeAt rfl rfl rfl (by decide +kernel) ⟨Nat.le_of_ble_eq_true rfl, Nat.le_of_ble_eq_true rfl⟩) ⟨bl_in, va_recv hK hPc (ci := 0) (q0 := 0) rfl rfl, pr_in hPc hE hDc⟩ rfl rfl hl.1 rfl (lv_room (Nat.le_of_ble_eq_true rfl)) dX4_withdraw_21 ⟨Nat.le_of_ble_eq_true rfl, Nat.le_of_ble_eq_true rfl⟩) hS (fun q _ h => hFc q h) hFc (fun u t H1 locs ht hvm hw hB hz1 hk1 hS => ?_)
  obtain ⟨hP1, hD1⟩ := hB
  rw [ht] at hP1
  obtain ⟨hP, hD⟩ := va_join (wr := wObj d0 o F ++ (wCfg cy (o 0) bc G (nI (m9 + 1)) sc ++ (wHis cy (o 3) rg x kk cs bs RG rn RS))) (w1 := wCfg cy (o 1) bt (rmG (cpG Gt G (m9 + 1)) i (m9 + 1)) (nI m9) sc) hP hD [9, 10, 11, 12, 13, 14, 15, 16] [0, 1, 2, 3, 4, 5, 6, 7, 8, 17, 18, 19, 20, 21, 22, 23, 24, 25, 26, 27, 28, 29, 30, 31, 32, 33, 34, 35, 36, 37, 38, 39, 40, 41, 42, 43, 44, 45, 46, 47, 48, 49, 50, 51, 52, 53, 54, 55, 56, 57, 58, 59, 60, 61, 62, 63, 64, 65, 66] rfl rfl (by decide) (by decide) hk1 hFc hP1 hD1
  have hP : va_P (dC, dI) vwCl (wObj d0 o F ++ (wCfg cy (o 0) bc G (nI (m9 + 1)) sc ++ (wCfg cy (o 1) bt (rmG (cpG Gt G (m9 + 1)) i (m9 + 1)) (nI m9) sc ++ (wHis cy (o 3) rg x kk cs bs RG rn RS)))) H1 := hP.sub [0, 1, 2, 3, 4, 5, 6, 7, 8, 59, 60, 61, 62, 63, 64, 65, 66, 9, 10, 11, 12, 13, 14, 15, 16, 17, 18, 19, 20, 21, 22, 23, 24, 25, 26, 27, 28, 29, 30, 31, 32, 33, 34, 35, 36, 37, 38, 39, 40, 41, 42, 43, 44, 45, 46, 47, 48, 49, 50, 51, 52, 53, 54, 55, 56, 57, 58] rfl
  have hD : va_D A (wObj d0 o F ++ (wCfg cy (o 0) bc G (nI (m9 + 1)) sc ++ (wCfg cy (o 1) bt (rmG (cpG Gt G (m9 + 1)) i (m9 + 1)) (nI m9) sc ++ (wHis cy (o 3) rg x kk cs bs RG rn RS)))) := hD.sub [0, 1, 2, 3, 4, 5, 6, 7, 8, 59, 60, 61, 62, 63, 64, 65, 66, 9, 10, 11, 12, 13, 14, 15, 16, 17, 18, 19, 20, 21, 22, 23, 24, 25, 26, 27, 28, 29, 30, 31, 32, 33, 34, 35, 36, 37, 38, 39, 40, 41, 42, 43, 44, 45, 46, 47, 48, 49, 50, 51, 52, 53, 54, 55, 56, 57, 58] (by decide) rfl
  clear hz1 hk1 hPc hDc hFc hP1 hD1
  generalize H1 = H at hP hS ⊢
  refine lv_aload_n hx hb dX4_withdraw_24 rfl (lv_at hl 0 rfl) ?_
  refine va_get (D := (dC, dI)) (ci := 4) (v := .ref (o 1)) (C := RX4) (T := TX4) (N := 12) hx hb hts hin4 hown hK hP 0 rfl rfl 1 (by decide) f_16 (fun _ h9 => h9) rfl dX4_withdraw_25 ?_
  have hPc := hP.sub (ws' := wCfg cy (o 1) bt (rmG (cpG Gt G (m9 + 1)) i (m9 + 1)) (nI m9) sc) [9, 10, 11, 12, 13, 14, 15, 16] rfl
  have hDc := hD.sub (ws' := wCfg cy (o 1) bt (rmG (cpG Gt G (m9 + 1)) i (m9 + 1)) (nI m9) sc) [9, 10, 11, 12, 13, 14, 15, 16] (by decide) rfl
  have hFc := va_free (wc := wCfg cy (o 1) bt (rmG (cpG Gt G (m9 + 1)) i (m9 + 1)) (nI m9) sc) hD hS hA [9, 10, 11, 12, 13, 14, 15, 16] rfl
  refine va_calli (va_runV (As := []) (rest := []) ⟨hx, hb, hml, hown, hts⟩ (c_X0_takeGreatestScale l dC dI cy H.size (o 1) bt (rmG (cpG Gt G (m9 + 1)) i (m9 + 1)) m9 (by omega) sc ) (cwV 0 hts gX4_withdraw_X0_takeGreatestScale rfl rfl rfl (by decide +kernel) ⟨Nat.le_of_ble_eq_true rfl, Nat.le_of_ble_eq_true rfl⟩) ⟨bl_in, va_recv hK hPc (ci := 0) (q0 := 0) rfl rfl, pr_in hPc hE hDc⟩ rfl rfl hl.1 rfl (lv_room (Nat.le_of_ble_eq_true rfl)) dX4_withdraw_28 ⟨Nat.le_of_ble_eq_true rfl, Nat.le_of_ble_eq_true rfl⟩) hS (fun q _ h => hFc q h) hFc (fun r u t H1 locs ht hvm hw hB hz1 hk1 hS => ?_)
  obtain ⟨r_28, rfl⟩ : ∃ z, z = r := ⟨_, rfl⟩
  obtain ⟨u_28, rfl⟩ : ∃ z, z = u := ⟨_, rfl⟩
  obtain ⟨er_28, eu_28⟩ := hw
  obtain ⟨hP1, hD1⟩ := hB
  rw [ht] at hP1
  obtain ⟨hP, hD⟩ := va_join (wr := wObj d0 o F ++ (wCfg cy (o 0) bc G (nI (m9 + 1)) sc ++ (wHis cy (o 3) rg x kk cs bs RG rn RS))) (w1 := wCfg cy (o 1) bt (rmG (cpG Gt G (m9 + 1)) i (m9 + 1)) (nI m9) u_28) hP hD [9, 10, 11, 12, 13, 14, 15, 16] [0, 1, 2, 3, 4, 5, 6, 7, 8, 17, 18, 19, 20, 21, 22, 23, 24, 25, 26, 27, 28, 29, 30, 31, 32, 33, 34, 35, 36, 37, 38, 39, 40, 41, 42, 43, 44, 45, 46, 47, 48, 49, 50, 51, 52, 53, 54, 55, 56, 57, 58, 59, 60, 61, 62, 63, 64, 65, 66] rfl rfl (by decide) (by decide) hk1 hFc hP1 hD1
  have hP : va_P (dC, dI) vwCl (wObj d0 o F ++ (wCfg cy (o 0) bc G (nI (m9 + 1)) sc ++ (wCfg cy (o 1) bt (rmG (cpG Gt G (m9 + 1)) i (m9 + 1)) (nI m9) u_28 ++ (wHis cy (o 3) rg x kk cs bs RG rn RS)))) H1 := hP.sub [0, 1, 2, 3, 4, 5, 6, 7, 8, 59, 60, 61, 62, 63, 64, 65, 66, 9, 10, 11, 12, 13, 14, 15, 16, 17, 18, 19, 20, 21, 22, 23, 24, 25, 26, 27, 28, 29, 30, 31, 32, 33, 34, 35, 36, 37, 38, 39, 40, 41, 42, 43, 44, 45, 46, 47, 48, 49, 50, 51, 52, 53, 54, 55, 56, 57, 58] rfl
  have hD : va_D A (wObj d0 o F ++ (wCfg cy (o 0) bc G (nI (m9 + 1)) sc ++ (wCfg cy (o 1) bt (rmG (cpG Gt G (m9 + 1)) i (m9 + 1)) (nI m9) u_28 ++ (wHis cy (o 3) rg x kk cs bs RG rn RS)))) := hD.sub [0, 1, 2, 3, 4, 5, 6, 7, 8, 59, 60, 61, 62, 63, 64, 65, 66, 9, 10, 11, 12, 13, 14, 15, 16, 17, 18, 19, 20, 21, 22, 23, 24, 25, 26, 27, 28, 29, 30, 31, 32, 33, 34, 35, 36, 37, 38, 39, 40, 41, 42, 43, 44, 45, 46, 47, 48, 49, 50, 51, 52, 53, 54, 55, 56, 57, 58] (by decide) rfl
  clear hz1 hk1 hPc hDc hFc hP1 hD1
  generalize H1 = H at hP hS ⊢
  refine lv_pop hx hb dX4_withdraw_31 rfl ?_
  refine lv_aload_n hx hb dX4_withdraw_32 rfl (lv_at hl 0 rfl) ?_
  have hPc := hP.sub (ws' := wObj d0 o F ++ (wCfg cy (o 0) bc G (nI (m9 + 1)) sc ++ (wCfg cy (o 1) bt (rmG (cpG Gt G (m9 + 1)) i (m9 + 1)) (nI m9) u_28 ++ (wHis cy (o 3) rg x kk cs bs RG rn RS)))) [0, 1, 2, 3, 4, 5, 6, 7, 8, 9, 10, 11, 12, 13, 14, 15, 16, 17, 18, 19, 20, 21, 22, 23, 24, 25, 26, 27, 28, 29, 30, 31, 32, 33, 34, 35, 36, 37, 38, 39, 40, 41, 42, 43, 44, 45, 46, 47, 48, 49, 50, 51, 52, 53, 54, 55, 56, 57, 58, 59, 60, 61, 62, 63, 64, 65, 66] rfl
  have hDc := hD.sub (ws' := wObj d0 o F ++ (wCfg cy (o 0) bc G (nI (m9 + 1)) sc ++ (wCfg cy (o 1) bt (rmG (cpG Gt G (m9 + 1)) i (m9 + 1)) (nI m9) u_28 ++ (wHis cy (o 3) rg x kk cs bs RG rn RS)))) [0, 1, 2, 3, 4, 5, 6, 7, 8, 9, 10, 11, 12, 13, 14, 15, 16, 17, 18, 19, 20, 21, 22, 23, 24, 25, 26, 27, 28, 29, 30, 31, 32, 33, 34, 35, 36, 37, 38, 39, 40, 41, 42, 43, 44, 45, 46, 47, 48, 49, 50, 51, 52, 53, 54, 55, 56, 57, 58, 59, 60, 61, 62, 63, 64, 65, 66] (by decide) rfl
  have hFc := va_free (wc := wObj d0 o F ++ (wCfg cy (o 0) bc G (nI (m9 + 1)) sc ++ (wCfg cy (o 1) bt (rmG (cpG Gt G (m9 + 1)) i (m9 + 1)) (nI m9) u_28 ++ (wHis cy (o 3) rg x kk cs bs RG rn RS)))) hD hS hA [0, 1, 2, 3, 4, 5, 6, 7, 8, 9, 10, 11, 12, 13, 14, 15, 16, 17, 18, 19, 20, 21, 22, 23, 24, 25, 26, 27, 28, 29, 30, 31, 32, 33, 34, 35, 36, 37, 38, 39, 40, 41, 42, 43, 44, 45, 46, 47, 48, 49, 50, 51, 52, 53, 54, 55, 56, 57, 58, 59, 60, 61, 62, 63, 64, 65, 66] rfl
  refine va_callv (va_runV (As := []) (rest := []) ⟨hx, hb, hml, hown, hts⟩ (c_X4_commitTrial l dC dI cy H.size d0 o F bc G (m9 + 1) (by omega) sc bt (rmG (cpG Gt G (m9 + 1)) i (m9 + 1)) m9 (by omega) u_28 rg x kk hx6 hkk cs bs RG rn RS) (cwV 0 hts gX4_withdraw_X4_commitTrial rfl rfl rfl (by decide +kernel) ⟨Nat.le_of_ble_eq_true rfl, Nat.le_of_ble_eq_true rfl⟩) ⟨bl_in, va_recv hK hPc (ci := 4) (q0 := 0) rfl rfl, pr_in hPc hE hDc⟩ rfl rfl hl.1 rfl (lv_room (Nat.le_of_ble_eq_true rfl)) dX4_withdraw_33 ⟨Nat.le_of_ble_eq_true rfl, Nat.le_of_ble_eq_true rfl⟩) hS (fun q _ h => hFc q h) hFc (fun u t H1 locs ht hvm hw hB hz1 hk1 hS => ?_)
  obtain ⟨hP1, hD1⟩ := hB
  rw [ht] at hP1
  obtain ⟨hP, hD⟩ := va_join (wr := []) (w1 := wObj d0 o (upd F 7 0) ++ (wCfg cy (o 0) bc (cpG G (rmG (cpG Gt G (m9 + 1)) i (m9 + 1)) m9) (nI m9) u_28 ++ (wCfg cy (o 1) bt (rmG (cpG Gt G (m9 + 1)) i (m9 + 1)) (nI m9) u_28 ++ (wHis cy (o 3) rg ((x + 1) % 6) (hcnt kk) cs bs (va_up RG x (cpG (RG x) G (m9 + 1))) (va_up rn x (m9 + 1)) (va_up RS x sc))))) hP hD [0, 1, 2, 3, 4, 5, 6, 7, 8, 9, 10, 11, 12, 13, 14, 15, 16, 17, 18, 19, 20, 21, 22, 23, 24, 25, 26, 27, 28, 29, 30, 31, 32, 33, 34, 35, 36, 37, 38, 39, 40, 41, 42, 43, 44, 45, 46, 47, 48, 49, 50, 51, 52, 53, 54, 55, 56, 57, 58, 59, 60, 61, 62, 63, 64, 65, 66] [] rfl rfl (by decide) (by decide) hk1 hFc hP1 hD1
  have hP : va_P (dC, dI) vwCl (wObj d0 o (upd F 7 0) ++ (wCfg cy (o 0) bc (cpG G (rmG (cpG Gt G (m9 + 1)) i (m9 + 1)) m9) (nI m9) u_28 ++ (wCfg cy (o 1) bt (rmG (cpG Gt G (m9 + 1)) i (m9 + 1)) (nI m9) u_28 ++ (wHis cy (o 3) rg ((x + 1) % 6) (hcnt kk) cs bs (va_up RG x (cpG (RG x) G (m9 + 1))) (va_up rn x (m9 + 1)) (va_up RS x sc))))) H1 := hP.sub [0, 1, 2, 3, 4, 5, 6, 7, 8, 9, 10, 11, 12, 13, 14, 15, 16, 17, 18, 19, 20, 21, 22, 23, 24, 25, 26, 27, 28, 29, 30, 31, 32, 33, 34, 35, 36, 37, 38, 39, 40, 41, 42, 43, 44, 45, 46, 47, 48, 49, 50, 51, 52, 53, 54, 55, 56, 57, 58, 59, 60, 61, 62, 63, 64, 65, 66] rfl
  have hD : va_D A (wObj d0 o (upd F 7 0) ++ (wCfg cy (o 0) bc (cpG G (rmG (cpG Gt G (m9 + 1)) i (m9 + 1)) m9) (nI m9) u_28 ++ (wCfg cy (o 1) bt (rmG (cpG Gt G (m9 + 1)) i (m9 + 1)) (nI m9) u_28 ++ (wHis cy (o 3) rg ((x + 1) % 6) (hcnt kk) cs bs (va_up RG x (cpG (RG x) G (m9 + 1))) (va_up rn x (m9 + 1)) (va_up RS x sc))))) := hD.sub [0, 1, 2, 3, 4, 5, 6, 7, 8, 9, 10, 11, 12, 13, 14, 15, 16, 17, 18, 19, 20, 21, 22, 23, 24, 25, 26, 27, 28, 29, 30, 31, 32, 33, 34, 35, 36, 37, 38, 39, 40, 41, 42, 43, 44, 45, 46, 47, 48, 49, 50, 51, 52, 53, 54, 55, 56, 57, 58, 59, 60, 61, 62, 63, 64, 65, 66] (by decide) rfl
  clear hz1 hk1 hPc hDc hFc hP1 hD1
  generalize H1 = H at hP hS ⊢
  refine lv_aload_n hx hb dX4_withdraw_36 rfl (lv_at hl 0 rfl) ?_
  refine va_get (D := (dC, dI)) (ci := 4) (v := .ref (o 0)) (C := RX4) (T := TX4) (N := 12) hx hb hts hin4 hown hK hP 0 rfl rfl 0 (by decide) f_12 (fun _ h9 => h9) rfl dX4_withdraw_37 ?_
  refine va_getN (D := (dC, dI)) (ci := 0) (v := .int (nI m9)) (C := RX0) (T := TX0) (N := 9) hx hb hts hin0 hown hK hP 1 rfl rfl 7 (by decide) f_58 (fun _ h9 => h9) rfl dX4_withdraw_40 ?_
  refine vx_ret ?_
  refine W.widen (k := 1) (n := 6) (Nat.le_of_ble_eq_true rfl) (Nat.le_of_ble_eq_true rfl) ?_
  have hP9 : va_P (dC, dI) vwCl (wObj d0 o (upd F 7 0) ++ (wCfg cy (o 0) bc (cpG G (rmG (cpG Gt G (m9 + 1)) i (m9 + 1)) m9) (nI m9) u_28 ++ (wCfg cy (o 1) bt (rmG (cpG Gt G (m9 + 1)) i (m9 + 1)) (nI m9) u_28 ++ (wHis cy (o 3) rg ((x + 1) % 6) (hcnt kk) cs bs (va_up RG x (cpG (RG x) G (m9 + 1))) (va_up rn x (m9 + 1)) (va_up RS x sc))))) H := hP
  have hD9 : va_D A (wObj d0 o (upd F 7 0) ++ (wCfg cy (o 0) bc (cpG G (rmG (cpG Gt G (m9 + 1)) i (m9 + 1)) m9) (nI m9) u_28 ++ (wCfg cy (o 1) bt (rmG (cpG Gt G (m9 + 1)) i (m9 + 1)) (nI m9) u_28 ++ (wHis cy (o 3) rg ((x + 1) % 6) (hcnt kk) cs bs (va_up RG x (cpG (RG x) G (m9 + 1))) (va_up rn x (m9 + 1)) (va_up RS x sc))))) := hD
  exact W.iret (v := nI m9) hx hb hr (fun t ht hW => ⟨⟨nI m9, (upd F 7 0, (cpG G (rmG (cpG Gt G (m9 + 1)) i (m9 + 1)) m9, m9, u_28), (rmG (cpG Gt G (m9 + 1)) i (m9 + 1), m9, u_28), ((x + 1) % 6, hcnt kk, va_up RG x (cpG (RG x) G (m9 + 1)), va_up rn x (m9 + 1), va_up RS x sc)), rfl, ⟨i, m9, rfl, hin, rfl, rfl, by rw [← eu_28]; rfl⟩, by rw [ht]; exact hP9, hD9⟩, hS.F ht⟩) hS.2.2 dX4_withdraw_43
set_option maxHeartbeats 1000000 in
set_option maxRecDepth 100000 in
/-- a level is set -/
theorem c_X4_setLevel (l : Launch) (hst : l.stackTraces = false) (dC : Nat → ClassId) (dI : Nat → Nat → Nat) (cy : Nat → ClassId) (sz : Nat) (d0 : Nat) (o : Nat → Nat) (F : Nat → Int32) (bc : Nat → Nat) (G : vG) (n : Nat) (hn : n ≤ 8) (sc : Int32) (bt : Nat → Nat) (Gt : vG) (nt : Nat) (hnt8 : nt ≤ 8) (sct : Int32) (rg x kk : Nat) (hx6 : x < 6) (hkk : kk ≤ 6) (cs : Nat → Nat) (bs : Nat → Nat → Nat) (RG : Nat → vG) (rn : Nat → Nat) (RS : Nat → Int32) (p0 p1 : Int32) : vx_Met l yX4_setLevel wsX4_setLevel ({ frames := 7, cells := 2, slots := 12, locals := 120 }) (va_Pc [.ref d0, .int p0, .int p1] (pX dC dI cy (wObj d0 o F ++ (wCfg cy (o 0) bc G (nI n) sc ++ (wCfg cy (o 1) bt Gt (nI nt) sct ++ (wHis cy (o 3) rg x kk cs bs RG rn RS)))) sz)) (va_Qi (fun (r : Int32) (u : AdmS) => kSetL F G n sc Gt x kk RG rn RS p0 p1 r u) (fun (u : AdmS) t => va_P (dC, dI) vwCl (wAdm cy d0 o bc bt rg cs bs u) t.heap ∧ va_D (va_A (wObj d0 o F ++ (wCfg cy (o 0) bc G (nI n) sc ++ (wCfg cy (o 1) bt Gt (nI nt) sct ++ (wHis cy (o 3) rg x kk cs bs RG rn RS)))) sz) (wAdm cy d0 o bc bt rg cs bs u)) (va_A (wObj d0 o F ++ (wCfg cy (o 0) bc G (nI n) sc ++ (wCfg cy (o 1) bt Gt (nI nt) sct ++ (wHis cy (o 3) rg x kk cs bs RG rn RS)))) sz)) (vx_X (fun (_ : vG × Nat × Int32) => True) (fun (E : String) (u : vG × Nat × Int32) (t : State) => (xSetL E G n Gt p0 p1 u) ∧ va_P (dC, dI) vwCl (wObj d0 o F ++ (wCfg cy (o 0) bc G (nI n) sc ++ (wCfg cy (o 1) bt u.1 (nI u.2.1) u.2.2 ++ (wHis cy (o 3) rg x kk cs bs RG rn RS)))) t.heap ∧ va_D (va_A (wObj d0 o F ++ (wCfg cy (o 0) bc G (nI n) sc ++ (wCfg cy (o 1) bt Gt (nI nt) sct ++ (wHis cy (o 3) rg x kk cs bs RG rn RS)))) sz) (wObj d0 o F ++ (wCfg cy (o 0) bc G (nI n) sc ++ (wCfg cy (o 1) bt u.1 (nI u.2.1) u.2.2 ++ (wHis cy (o 3) rg x kk cs bs RG rn RS))))) (va_A (wObj d0 o F ++ (wCfg cy (o 0) bc G (nI n) sc ++ (wCfg cy (o 1) bt Gt (nI nt) sct ++ (wHis cy (o 3) rg x kk cs bs RG rn RS)))) sz)) 2 12 (va_A (wObj d0 o F ++ (wCfg cy (o 0) bc G (nI n) sc ++ (wCfg cy (o 1) bt Gt (nI nt) sct ++ (wHis cy (o 3) rg x kk cs bs RG rn RS)))) sz) := by
  refine vx_ofW (cc := cX4_setLevel) (maxL := 4) (ret := some .int) (by decide) rfl ?_
  intro p e s m args below meth c s₁ B hml hnt hv
  obtain ⟨rfl, hsz, hP, hE, hD0, hX, hZ⟩ := hv
  have hK := hE.1
  subst hsz
  have hD := hD0.self (sz := s.heap.size)
  generalize hAe : va_A (wObj d0 o F ++ (wCfg cy (o 0) bc G (nI n) sc ++ (wCfg cy (o 1) bt Gt (nI nt) sct ++ (wHis cy (o 3) rg x kk cs bs RG rn RS)))) s.heap.size = A at hD hZ ⊢
  have hA : ∀ q : Nat, s.heap.size ≤ q → A q := fun q h => by rw [← hAe]; exact Or.inr h
  have hS : va_S A s.heap s.heap [] := va_S.rf
  have hP : va_P (dC, dI) vwCl (wObj d0 o F ++ (wCfg cy (o 0) bc G (nI n) sc ++ (wCfg cy (o 1) bt Gt (nI nt) sct ++ (wHis cy (o 3) rg x kk cs bs RG rn RS)))) s.heap := hP
  have hx := B.exec
  have hb := B.bytes
  have hr := B.returns
  have hts := atoms_spec (ws := wsX4_setLevel) B.pre
  have hown : s.vm.findClass RX4 = some m.cls := findClass_of_methodNamed B.named
  have hlocks := B.notSynchronized
  have hin0 : ∀ w ∈ u_ws RX0 TX0 9, w ∈ wsX4_setLevel := by decide +kernel
  have hin4 : ∀ w ∈ u_ws RX4 TX4 12, w ∈ wsX4_setLevel := by decide +kernel
  have f_12 := hts (.fieldLink RX4 12 "DeadlineAdmission" "current" "LDeadlineAdmission$Configuration;") (by decide +kernel)
  have f_127 := va_Nw.use (A := ([.ref d0, .int p0, .int p1].toArray)) rfl (hE.f 7 rfl)
  have f_132 := va_Nw.use (A := ([.ref d0, .int p0, .int p1].toArray)) rfl (hE.f 8 rfl)
  have f_16 := hts (.fieldLink RX4 16 "DeadlineAdmission" "trial" "LDeadlineAdmission$Configuration;") (by decide +kernel)
  have hl := lv_entry ([.ref d0, .int p0, .int p1]) (n := 4) (Nat.le_of_ble_eq_true rfl)
  rw [lg_entry_eq]
  generalize (lg_sl ([.ref d0, .int p0, .int p1]) ++ List.replicate (4 - (lg_sl ([.ref d0, .int p0, .int p1])).length) Slot.unset).toArray = ls at hl ⊢
  have hl : lv_has ls 4 [(0, .ref d0), (1, .int p0), (2, .int p1)] := hl
  have hnt9 : nt ≤ 8 := hnt8
  refine lv_aload_n hx hb dX4_setLevel_0 rfl (lv_at hl 0 rfl) ?_
  refine lv_iload_n hx hb dX4_setLevel_1 rfl (lv_at hl 1 rfl) ?_
  refine vx_callv (vx_runV (As := [.int p0]) (rest := []) ⟨hx, hb, hml, hown, hts⟩ (c_X4_requireTask l hst dC dI cy s.heap.size d0 o F bc G n hn sc p0) (cwV 1 hts gX4_setLevel_X4_requireTask rfl rfl rfl (by decide +kernel) ⟨Nat.le_of_ble_eq_true rfl, Nat.le_of_ble_eq_true rfl⟩) ⟨bl_R, va_recv hK (hP.sub (ws' := wObj d0 o F ++ (wCfg cy (o 0) bc G (nI n) sc)) [0, 1, 2, 3, 4, 5, 6, 7, 8] rfl) (ci := 4) (q0 := 0) rfl rfl, pr_R (hP.sub (ws' := wObj d0 o F ++ (wCfg cy (o 0) bc G (nI n) sc)) [0, 1, 2, 3, 4, 5, 6, 7, 8] rfl) hE hX hZ hS hA⟩ rfl rfl hl.1 rfl (lv_room (Nat.le_of_ble_eq_true rfl)) dX4_setLevel_2 ⟨Nat.le_of_ble_eq_true rfl, Nat.le_of_ble_eq_true rfl⟩) hS (fun q _ h => hA q (Nat.le_trans hS.1 h)) (fun q h => hA q (Nat.le_trans hS.1 h)) (fun q _ h => hA q (Nat.le_trans hS.1 h)) (fun E ce q9 u t H1 locs ht hvm hpx hBX hz1 hk1 hS hce hcv hcl => ?_) (fun u t H1 locs ht hvm hw hB hz1 hk1 hS => ?_)
  · exact vx_out (fun x hx9 => (hnt x hx9).elim) hlocks hce hcv hcl (fun t ht hvm => ⟨(Gt, nt, sct), trivial, ⟨⟨hnt9, Or.inl hBX⟩, by rw [ht]; exact (hP.kept (fun k q hk => hk1 q.1 ((hP k q hk).lt) (Nat.not_le.mpr ((hP k q hk).lt)))), hD⟩, hS.F ht⟩) hS.2.2 (Nat.le_of_ble_eq_true rfl) (Nat.le_of_ble_eq_true rfl)
  obtain ⟨i, hin, rfl⟩ := cT_get hn hw
  have hP : va_P (dC, dI) vwCl (wObj d0 o F ++ (wCfg cy (o 0) bc G (nI n) sc ++ (wCfg cy (o 1) bt Gt (nI nt) sct ++ (wHis cy (o 3) rg x kk cs bs RG rn RS)))) H1 := hP.kept (fun k q hk => hk1 q.1 ((hP k q hk).lt) (Nat.not_le.mpr ((hP k q hk).lt)))
  clear hz1 hk1
  generalize H1 = H at hP hS ⊢
  refine lv_iload_n hx hb dX4_setLevel_5 rfl (lv_at hl 2 rfl) ?_
  refine lv_if_lt (tgt := 22) hx hb dX4_setLevel_6 (by decide) (fun c_6 => ?_) (fun c_6 => ?_)
  · obtain ⟨sa, hsa⟩ := hX.s 5 (k := 130) (t := "the level is out of range") rfl
    exact vx_throwS (names := ["java/lang/RuntimeException", "java/lang/Exception"]) hx hb hst hown (by decide +kernel) (by decide +kernel) (hts (.classLink RX4 51 "java/lang/IllegalArgumentException") (by decide +kernel)) (hts (.initialized "java/lang/IllegalArgumentException") (by decide +kernel)) hsa (vx_hat (fun w h => hts w (List.mem_cons_of_mem _ (List.mem_append_left _ (List.mem_append_left _ (List.mem_append_right _ h))))) ng_IAE (vx_c (va_Nw.use rfl (hX.c 0 rfl)) (vx_c (va_Nw.use rfl (hX.d 0 rfl)) (vx_c (va_Nw.use rfl (hX.d 1 rfl)) (vx_c (va_Nw.use rfl (hX.d 2 rfl)) vx_n))))) ot_IAE hZ.1 hZ.2 hS (hl.1.trans hml.symm) dX4_setLevel_22 dX4_setLevel_25 dX4_setLevel_26 dX4_setLevel_28 dX4_setLevel_31 (fun x hx9 => (hnt x hx9).elim) (Nat.le_of_ble_eq_true rfl) (Nat.le_of_ble_eq_true rfl) (Nat.le_of_ble_eq_true rfl) (Nat.le_of_ble_eq_true rfl) hlocks (fun t hvm hz hk => ⟨(Gt, nt, sct), trivial, ⟨⟨hnt9, Or.inr (Or.inl ⟨rfl, i, hin, rfl, fun h => h.1 c_6⟩)⟩, hP.kept (fun k q h9 => hk q.1 ((hP k q h9).lt)), hD⟩, ⟨Nat.le_trans hS.1 hz, fun q h1 h2 => (hk q (Nat.lt_of_lt_of_le h1 hS.1)).trans (hS.2.1 q h1 h2)⟩⟩) hS.2.2 (Nat.le_of_ble_eq_true rfl) (Nat.le_of_ble_eq_true rfl)
  · refine lv_iload_n hx hb dX4_setLevel_9 rfl (lv_at hl 2 rfl) ?_
    refine lv_aload_n hx hb dX4_setLevel_10 rfl (lv_at hl 0 rfl) ?_
    refine va_get (D := (dC, dI)) (ci := 4) (v := .ref (o 0)) (C := RX4) (T := TX4) (N := 12) hx hb hts hin4 hown hK hP 0 rfl rfl 0 (by decide) f_12 (fun _ h9 => h9) rfl dX4_setLevel_11 ?_
    refine va_getN (D := (dC, dI)) (ci := 0) (v := .ref (bc 5)) (C := RX0) (T := TX0) (N := 9) hx hb hts hin0 hown hK hP 1 rfl rfl 5 (by decide) f_127 (fun _ h9 => h9) rfl dX4_setLevel_14 ?_
    refine lv_iload_n hx hb dX4_setLevel_17 rfl (lv_at hl 1 rfl) ?_
    refine wI_alv (v := G 5 i) hx hb hK hP 7 0 rfl rfl i rfl (by omega) (by decide) rfl dX4_setLevel_18 ?_
    refine lv_icmp_le (tgt := 32) hx hb dX4_setLevel_19 (by decide) (fun c_19 => ?_) (fun c_19 => ?_)
    · refine lv_aload_n hx hb dX4_setLevel_32 rfl (lv_at hl 0 rfl) ?_
      refine va_get (D := (dC, dI)) (ci := 4) (v := .ref (o 0)) (C := RX4) (T := TX4) (N := 12) hx hb hts hin4 hown hK hP 0 rfl rfl 0 (by decide) f_12 (fun _ h9 => h9) rfl dX4_setLevel_33 ?_
      refine va_getN (D := (dC, dI)) (ci := 0) (v := .ref (bc 6)) (C := RX0) (T := TX0) (N := 9) hx hb hts hin0 hown hK hP 1 rfl rfl 6 (by decide) f_132 (fun _ h9 => h9) rfl dX4_setLevel_36 ?_
      refine lv_iload_n hx hb dX4_setLevel_39 rfl (lv_at hl 1 rfl) ?_
      refine wI_alv (v := G 6 i) hx hb hK hP 8 0 rfl rfl i rfl (by omega) (by decide) rfl dX4_setLevel_40 ?_
      refine lv_istore_n (lv' := [(3, .int (G 6 i)), (0, .ref d0), (1, .int (nI i)), (2, .int p1)]) hx hb dX4_setLevel_41 rfl hl (by decide) rfl (fun ls hl => ?_)
      refine lv_aload_n hx hb dX4_setLevel_42 rfl (lv_at hl 1 rfl) ?_
      refine va_get (D := (dC, dI)) (ci := 4) (v := .ref (o 1)) (C := RX4) (T := TX4) (N := 12) hx hb hts hin4 hown hK hP 0 rfl rfl 1 (by decide) f_16 (fun _ h9 => h9) rfl dX4_setLevel_43 ?_
      refine lv_aload_n hx hb dX4_setLevel_46 rfl (lv_at hl 1 rfl) ?_
      refine va_get (D := (dC, dI)) (ci := 4) (v := .ref (o 0)) (C := RX4) (T := TX4) (N := 12) hx hb hts hin4 hown hK hP 0 rfl rfl 0 (by decide) f_12 (fun _ h9 => h9) rfl dX4_setLevel_47 ?_
      have hPc := hP.sub (ws' := wCfg cy (o 1) bt Gt (nI nt) sct ++ (wCfg cy (o 0) bc G (nI n) sc)) [9, 10, 11, 12, 13, 14, 15, 16, 1, 2, 3, 4, 5, 6, 7, 8] rfl
      have hDc := hD.sub (ws' := wCfg cy (o 1) bt Gt (nI nt) sct ++ (wCfg cy (o 0) bc G (nI n) sc)) [9, 10, 11, 12, 13, 14, 15, 16, 1, 2, 3, 4, 5, 6, 7, 8] (by decide) rfl
      have hFc := va_free (wc := wCfg cy (o 1) bt Gt (nI nt) sct ++ (wCfg cy (o 0) bc G (nI n) sc)) hD hS hA [9, 10, 11, 12, 13, 14, 15, 16, 1, 2, 3, 4, 5, 6, 7, 8] rfl
      refine va_callv (va_runV (As := [.ref (o 0)]) (rest := []) ⟨hx, hb, hml, hown, hts⟩ (c_X0_copyFrom l dC dI cy H.size (o 1) bt Gt (nI nt) sct (o 0) bc G n (by omega) sc) (cwV 1 hts gX4_setLevel_X0_copyFrom rfl rfl rfl (by decide +kernel) ⟨Nat.le_of_ble_eq_true rfl, Nat.le_of_ble_eq_true rfl⟩) ⟨bl_in, va_recv hK hPc (ci := 0) (q0 := 0) rfl rfl, pr_in hPc hE hDc⟩ rfl rfl hl.1 rfl (lv_room (Nat.le_of_ble_eq_true rfl)) dX4_setLevel_50 ⟨Nat.le_of_ble_eq_true rfl, Nat.le_of_ble_eq_true rfl⟩) hS (fun q _ h => hFc q h) hFc (fun u t H1 locs ht hvm hw hB hz1 hk1 hS => ?_)
      obtain ⟨hP1, hD1⟩ := hB
      rw [ht] at hP1
      obtain ⟨hP, hD⟩ := va_join (wr := wObj d0 o F ++ (wHis cy (o 3) rg x kk cs bs RG rn RS)) (w1 := wCfg cy (o 1) bt (cpG Gt G n) (nI n) sc ++ (wCfg cy (o 0) bc G (nI n) sc)) hP hD [9, 10, 11, 12, 13, 14, 15, 16, 1, 2, 3, 4, 5, 6, 7, 8] [0, 17, 18, 19, 20, 21, 22, 23, 24, 25, 26, 27, 28, 29, 30, 31, 32, 33, 34, 35, 36, 37, 38, 39, 40, 41, 42, 43, 44, 45, 46, 47, 48, 49, 50, 51, 52, 53, 54, 55, 56, 57, 58, 59, 60, 61, 62, 63, 64, 65, 66] rfl rfl (by decide) (by decide) hk1 hFc hP1 hD1
      have hP : va_P (dC, dI) vwCl (wObj d0 o F ++ (wCfg cy (o 0) bc G (nI n) sc ++ (wCfg cy (o 1) bt (cpG Gt G n) (nI n) sc ++ (wHis cy (o 3) rg x kk cs bs RG rn RS)))) H1 := hP.sub [0, 59, 60, 61, 62, 63, 64, 65, 66, 51, 52, 53, 54, 55, 56, 57, 58, 1, 2, 3, 4, 5, 6, 7, 8, 9, 10, 11, 12, 13, 14, 15, 16, 17, 18, 19, 20, 21, 22, 23, 24, 25, 26, 27, 28, 29, 30, 31, 32, 33, 34, 35, 36, 37, 38, 39, 40, 41, 42, 43, 44, 45, 46, 47, 48, 49, 50] rfl
      have hD : va_D A (wObj d0 o F ++ (wCfg cy (o 0) bc G (nI n) sc ++ (wCfg cy (o 1) bt (cpG Gt G n) (nI n) sc ++ (wHis cy (o 3) rg x kk cs bs RG rn RS)))) := hD.sub [0, 59, 60, 61, 62, 63, 64, 65, 66, 51, 52, 53, 54, 55, 56, 57, 58, 1, 2, 3, 4, 5, 6, 7, 8, 9, 10, 11, 12, 13, 14, 15, 16, 17, 18, 19, 20, 21, 22, 23, 24, 25, 26, 27, 28, 29, 30, 31, 32, 33, 34, 35, 36, 37, 38, 39, 40, 41, 42, 43, 44, 45, 46, 47, 48, 49, 50] (by decide) rfl
      clear hz1 hk1 hPc hDc hFc hP1 hD1
      generalize H1 = H at hP hS ⊢
      refine lv_aload_n hx hb dX4_setLevel_53 rfl (lv_at hl 1 rfl) ?_
      refine va_get (D := (dC, dI)) (ci := 4) (v := .ref (o 1)) (C := RX4) (T := TX4) (N := 12) hx hb hts hin4 hown hK hP 0 rfl rfl 1 (by decide) f_16 (fun _ h9 => h9) rfl dX4_setLevel_54 ?_
      refine va_getN (D := (dC, dI)) (ci := 0) (v := .ref (bt 6)) (C := RX0) (T := TX0) (N := 9) hx hb hts hin0 hown hK hP 9 rfl rfl 6 (by decide) f_132 (fun _ h9 => h9) rfl dX4_setLevel_57 ?_
      refine lv_iload_n hx hb dX4_setLevel_60 rfl (lv_at hl 2 rfl) ?_
      refine lv_iload_n hx hb dX4_setLevel_61 rfl (lv_at hl 3 rfl) ?_
      refine wI_ast hx hb hK hP hD hS 16 0 rfl rfl i rfl (by omega) (by decide) dX4_setLevel_62 (fun H locs hP hD hS => ?_)
      have hP : va_P (dC, dI) vwCl (wObj d0 o F ++ (wCfg cy (o 0) bc G (nI n) sc ++ (wCfg cy (o 1) bt (up2 (cpG Gt G n) 6 i p1) (nI n) sc ++ (wHis cy (o 3) rg x kk cs bs RG rn RS)))) H := hP
      have hD : va_D A (wObj d0 o F ++ (wCfg cy (o 0) bc G (nI n) sc ++ (wCfg cy (o 1) bt (up2 (cpG Gt G n) 6 i p1) (nI n) sc ++ (wHis cy (o 3) rg x kk cs bs RG rn RS)))) := hD
      refine lv_aload_n hx hb dX4_setLevel_63 rfl (lv_at hl 1 rfl) ?_
      refine va_get (D := (dC, dI)) (ci := 4) (v := .ref (o 1)) (C := RX4) (T := TX4) (N := 12) hx hb hts hin4 hown hK hP 0 rfl rfl 1 (by decide) f_16 (fun _ h9 => h9) rfl dX4_setLevel_64 ?_
      have hPc := hP.sub (ws' := wCfg cy (o 1) bt (up2 (cpG Gt G n) 6 i p1) (nI n) sc) [9, 10, 11, 12, 13, 14, 15, 16] rfl
      have hDc := hD.sub (ws' := wCfg cy (o 1) bt (up2 (cpG Gt G n) 6 i p1) (nI n) sc) [9, 10, 11, 12, 13, 14, 15, 16] (by decide) rfl
      have hFc := va_free (wc := wCfg cy (o 1) bt (up2 (cpG Gt G n) 6 i p1) (nI n) sc) hD hS hA [9, 10, 11, 12, 13, 14, 15, 16] rfl
      refine va_calli (va_runV (As := []) (rest := []) ⟨hx, hb, hml, hown, hts⟩ (c_X0_takeGreatestScale l dC dI cy H.size (o 1) bt (up2 (cpG Gt G n) 6 i p1) n hn sc ) (cwV 0 hts gX4_setLevel_X0_takeGreatestScale rfl rfl rfl (by decide +kernel) ⟨Nat.le_of_ble_eq_true rfl, Nat.le_of_ble_eq_true rfl⟩) ⟨bl_in, va_recv hK hPc (ci := 0) (q0 := 0) rfl rfl, pr_in hPc hE hDc⟩ rfl rfl hl.1 rfl (lv_room (Nat.le_of_ble_eq_true rfl)) dX4_setLevel_67 ⟨Nat.le_of_ble_eq_true rfl, Nat.le_of_ble_eq_true rfl⟩) hS (fun q _ h => hFc q h) hFc (fun r u t H1 locs ht hvm hw hB hz1 hk1 hS => ?_)
      obtain ⟨r_67, rfl⟩ : ∃ z, z = r := ⟨_, rfl⟩
      obtain ⟨u_67, rfl⟩ : ∃ z, z = u := ⟨_, rfl⟩
      obtain ⟨er_67, eu_67⟩ := hw
      obtain ⟨hP1, hD1⟩ := hB
      rw [ht] at hP1
      obtain ⟨hP, hD⟩ := va_join (wr := wObj d0 o F ++ (wCfg cy (o 0) bc G (nI n) sc ++ (wHis cy (o 3) rg x kk cs bs RG rn RS))) (w1 := wCfg cy (o 1) bt (up2 (cpG Gt G n) 6 i p1) (nI n) u_67) hP hD [9, 10, 11, 12, 13, 14, 15, 16] [0, 1, 2, 3, 4, 5, 6, 7, 8, 17, 18, 19, 20, 21, 22, 23, 24, 25, 26, 27, 28, 29, 30, 31, 32, 33, 34, 35, 36, 37, 38, 39, 40, 41, 42, 43, 44, 45, 46, 47, 48, 49, 50, 51, 52, 53, 54, 55, 56, 57, 58, 59, 60, 61, 62, 63, 64, 65, 66] rfl rfl (by decide) (by decide) hk1 hFc hP1 hD1
      have hP : va_P (dC, dI) vwCl (wObj d0 o F ++ (wCfg cy (o 0) bc G (nI n) sc ++ (wCfg cy (o 1) bt (up2 (cpG Gt G n) 6 i p1) (nI n) u_67 ++ (wHis cy (o 3) rg x kk cs bs RG rn RS)))) H1 := hP.sub [0, 1, 2, 3, 4, 5, 6, 7, 8, 59, 60, 61, 62, 63, 64, 65, 66, 9, 10, 11, 12, 13, 14, 15, 16, 17, 18, 19, 20, 21, 22, 23, 24, 25, 26, 27, 28, 29, 30, 31, 32, 33, 34, 35, 36, 37, 38, 39, 40, 41, 42, 43, 44, 45, 46, 47, 48, 49, 50, 51, 52, 53, 54, 55, 56, 57, 58] rfl
      have hD : va_D A (wObj d0 o F ++ (wCfg cy (o 0) bc G (nI n) sc ++ (wCfg cy (o 1) bt (up2 (cpG Gt G n) 6 i p1) (nI n) u_67 ++ (wHis cy (o 3) rg x kk cs bs RG rn RS)))) := hD.sub [0, 1, 2, 3, 4, 5, 6, 7, 8, 59, 60, 61, 62, 63, 64, 65, 66, 9, 10, 11, 12, 13, 14, 15, 16, 17, 18, 19, 20, 21, 22, 23, 24, 25, 26, 27, 28, 29, 30, 31, 32, 33, 34, 35, 36, 37, 38, 39, 40, 41, 42, 43, 44, 45, 46, 47, 48, 49, 50, 51, 52, 53, 54, 55, 56, 57, 58] (by decide) rfl
      clear hz1 hk1 hPc hDc hFc hP1 hD1
      generalize H1 = H at hP hS ⊢
      refine lv_if_ne (tgt := 83) hx hb dX4_setLevel_70 (by decide) (fun c_70 => ?_) (fun c_70 => ?_)
      · have g0 : ¬ gscale (up2 (cpG Gt G n) 6 i p1) n = 0 := fun h => c_70 (by rw [er_67]; exact b01.mpr h)
        have eu9 : u_67 = nI (gscale (up2 (cpG Gt G n) 6 i p1) n) := eu_67.trans (if_neg g0)
        refine lv_aload_n hx hb dX4_setLevel_83 rfl (lv_at hl 1 rfl) ?_
        have hPc := hP.sub (ws' := wObj d0 o F ++ (wCfg cy (o 0) bc G (nI n) sc ++ (wCfg cy (o 1) bt (up2 (cpG Gt G n) 6 i p1) (nI n) u_67 ++ (wHis cy (o 3) rg x kk cs bs RG rn RS)))) [0, 1, 2, 3, 4, 5, 6, 7, 8, 9, 10, 11, 12, 13, 14, 15, 16, 17, 18, 19, 20, 21, 22, 23, 24, 25, 26, 27, 28, 29, 30, 31, 32, 33, 34, 35, 36, 37, 38, 39, 40, 41, 42, 43, 44, 45, 46, 47, 48, 49, 50, 51, 52, 53, 54, 55, 56, 57, 58, 59, 60, 61, 62, 63, 64, 65, 66] rfl
        have hDc := hD.sub (ws' := wObj d0 o F ++ (wCfg cy (o 0) bc G (nI n) sc ++ (wCfg cy (o 1) bt (up2 (cpG Gt G n) 6 i p1) (nI n) u_67 ++ (wHis cy (o 3) rg x kk cs bs RG rn RS)))) [0, 1, 2, 3, 4, 5, 6, 7, 8, 9, 10, 11, 12, 13, 14, 15, 16, 17, 18, 19, 20, 21, 22, 23, 24, 25, 26, 27, 28, 29, 30, 31, 32, 33, 34, 35, 36, 37, 38, 39, 40, 41, 42, 43, 44, 45, 46, 47, 48, 49, 50, 51, 52, 53, 54, 55, 56, 57, 58, 59, 60, 61, 62, 63, 64, 65, 66] (by decide) rfl
        have hFc := va_free (wc := wObj d0 o F ++ (wCfg cy (o 0) bc G (nI n) sc ++ (wCfg cy (o 1) bt (up2 (cpG Gt G n) 6 i p1) (nI n) u_67 ++ (wHis cy (o 3) rg x kk cs bs RG rn RS)))) hD hS hA [0, 1, 2, 3, 4, 5, 6, 7, 8, 9, 10, 11, 12, 13, 14, 15, 16, 17, 18, 19, 20, 21, 22, 23, 24, 25, 26, 27, 28, 29, 30, 31, 32, 33, 34, 35, 36, 37, 38, 39, 40, 41, 42, 43, 44, 45, 46, 47, 48, 49, 50, 51, 52, 53, 54, 55, 56, 57, 58, 59, 60, 61, 62, 63, 64, 65, 66] rfl
        refine va_callv (va_runV (As := []) (rest := []) ⟨hx, hb, hml, hown, hts⟩ (c_X4_commitTrial l dC dI cy H.size d0 o F bc G n (by omega) sc bt (up2 (cpG Gt G n) 6 i p1) n (by omega) u_67 rg x kk hx6 hkk cs bs RG rn RS) (cwV 0 hts gX4_setLevel_X4_commitTrial rfl rfl rfl (by decide +kernel) ⟨Nat.le_of_ble_eq_true rfl, Nat.le_of_ble_eq_true rfl⟩) ⟨bl_in, va_recv hK hPc (ci := 4) (q0 := 0) rfl rfl, pr_in hPc hE hDc⟩ rfl rfl hl.1 rfl (lv_room (Nat.le_of_ble_eq_true rfl)) dX4_setLevel_84 ⟨Nat.le_of_ble_eq_true rfl, Nat.le_of_ble_eq_true rfl⟩) hS (fun q _ h => hFc q h) hFc (fun u t H1 locs ht hvm hw hB hz1 hk1 hS => ?_)
        obtain ⟨hP1, hD1⟩ := hB
        rw [ht] at hP1
        obtain ⟨hP, hD⟩ := va_join (wr := []) (w1 := wObj d0 o (upd F 7 0) ++ (wCfg cy (o 0) bc (cpG G (up2 (cpG Gt G n) 6 i p1) n) (nI n) u_67 ++ (wCfg cy (o 1) bt (up2 (cpG Gt G n) 6 i p1) (nI n) u_67 ++ (wHis cy (o 3) rg ((x + 1) % 6) (hcnt kk) cs bs (va_up RG x (cpG (RG x) G n)) (va_up rn x n) (va_up RS x sc))))) hP hD [0, 1, 2, 3, 4, 5, 6, 7, 8, 9, 10, 11, 12, 13, 14, 15, 16, 17, 18, 19, 20, 21, 22, 23, 24, 25, 26, 27, 28, 29, 30, 31, 32, 33, 34, 35, 36, 37, 38, 39, 40, 41, 42, 43, 44, 45, 46, 47, 48, 49, 50, 51, 52, 53, 54, 55, 56, 57, 58, 59, 60, 61, 62, 63, 64, 65, 66] [] rfl rfl (by decide) (by decide) hk1 hFc hP1 hD1
        have hP : va_P (dC, dI) vwCl (wObj d0 o (upd F 7 0) ++ (wCfg cy (o 0) bc (cpG G (up2 (cpG Gt G n) 6 i p1) n) (nI n) u_67 ++ (wCfg cy (o 1) bt (up2 (cpG Gt G n) 6 i p1) (nI n) u_67 ++ (wHis cy (o 3) rg ((x + 1) % 6) (hcnt kk) cs bs (va_up RG x (cpG (RG x) G n)) (va_up rn x n) (va_up RS x sc))))) H1 := hP.sub [0, 1, 2, 3, 4, 5, 6, 7, 8, 9, 10, 11, 12, 13, 14, 15, 16, 17, 18, 19, 20, 21, 22, 23, 24, 25, 26, 27, 28, 29, 30, 31, 32, 33, 34, 35, 36, 37, 38, 39, 40, 41, 42, 43, 44, 45, 46, 47, 48, 49, 50, 51, 52, 53, 54, 55, 56, 57, 58, 59, 60, 61, 62, 63, 64, 65, 66] rfl
        have hD : va_D A (wObj d0 o (upd F 7 0) ++ (wCfg cy (o 0) bc (cpG G (up2 (cpG Gt G n) 6 i p1) n) (nI n) u_67 ++ (wCfg cy (o 1) bt (up2 (cpG Gt G n) 6 i p1) (nI n) u_67 ++ (wHis cy (o 3) rg ((x + 1) % 6) (hcnt kk) cs bs (va_up RG x (cpG (RG x) G n)) (va_up rn x n) (va_up RS x sc))))) := hD.sub [0, 1, 2, 3, 4, 5, 6, 7, 8, 9, 10, 11, 12, 13, 14, 15, 16, 17, 18, 19, 20, 21, 22, 23, 24, 25, 26, 27, 28, 29, 30, 31, 32, 33, 34, 35, 36, 37, 38, 39, 40, 41, 42, 43, 44, 45, 46, 47, 48, 49, 50, 51, 52, 53, 54, 55, 56, 57, 58, 59, 60, 61, 62, 63, 64, 65, 66] (by decide) rfl
        clear hz1 hk1 hPc hDc hFc hP1 hD1
        generalize H1 = H at hP hS ⊢
        refine lv_iload_n hx hb dX4_setLevel_87 rfl (lv_at hl 0 rfl) ?_
        refine vx_ret ?_
        refine W.widen (k := 2) (n := 12) (Nat.le_of_ble_eq_true rfl) (Nat.le_of_ble_eq_true rfl) ?_
        have hP9 : va_P (dC, dI) vwCl (wObj d0 o (upd F 7 0) ++ (wCfg cy (o 0) bc (cpG G (up2 (cpG Gt G n) 6 i p1) n) (nI n) u_67 ++ (wCfg cy (o 1) bt (up2 (cpG Gt G n) 6 i p1) (nI n) u_67 ++ (wHis cy (o 3) rg ((x + 1) % 6) (hcnt kk) cs bs (va_up RG x (cpG (RG x) G n)) (va_up rn x n) (va_up RS x sc))))) H := hP
        have hD9 : va_D A (wObj d0 o (upd F 7 0) ++ (wCfg cy (o 0) bc (cpG G (up2 (cpG Gt G n) 6 i p1) n) (nI n) u_67 ++ (wCfg cy (o 1) bt (up2 (cpG Gt G n) 6 i p1) (nI n) u_67 ++ (wHis cy (o 3) rg ((x + 1) % 6) (hcnt kk) cs bs (va_up RG x (cpG (RG x) G n)) (va_up rn x n) (va_up RS x sc))))) := hD
        exact W.iret (v := G 6 i) hx hb hr (fun t ht hW => ⟨⟨G 6 i, (upd F 7 0, (cpG G (up2 (cpG Gt G n) 6 i p1) n, n, u_67), (up2 (cpG Gt G n) 6 i p1, n, u_67), ((x + 1) % 6, hcnt kk, va_up RG x (cpG (RG x) G n), va_up rn x n, va_up RS x sc)), rfl, ⟨i, hin, rfl, ⟨c_6, Int32.not_lt.mpr c_19⟩, g0, rfl, by rw [← eu9]; rfl⟩, by rw [ht]; exact hP9, hD9⟩, hS.F ht⟩) hS.2.2 dX4_setLevel_88
      · obtain ⟨sa, hsa⟩ := hX.s 6 (k := 135) (t := "the configuration would not be admissible") rfl
        exact vx_throwS (names := ["java/lang/RuntimeException", "java/lang/Exception"]) hx hb hst hown (by decide +kernel) (by decide +kernel) (hts (.classLink RX4 62 "java/lang/IllegalStateException") (by decide +kernel)) (hts (.initialized "java/lang/IllegalStateException") (by decide +kernel)) hsa (vx_hat (fun w h => hts w (List.mem_cons_of_mem _ (List.mem_append_left _ (List.mem_append_right _ h)))) ng_ISE (vx_c (va_Nw.use rfl (hX.c 1 rfl)) (vx_c (va_Nw.use rfl (hX.d 0 rfl)) (vx_c (va_Nw.use rfl (hX.d 1 rfl)) (vx_c (va_Nw.use rfl (hX.d 2 rfl)) vx_n))))) ot_ISE hZ.1 hZ.2 hS (hl.1.trans hml.symm) dX4_setLevel_73 dX4_setLevel_76 dX4_setLevel_77 dX4_setLevel_79 dX4_setLevel_82 (fun x hx9 => (hnt x hx9).elim) (Nat.le_of_ble_eq_true rfl) (Nat.le_of_ble_eq_true rfl) (Nat.le_of_ble_eq_true rfl) (Nat.le_of_ble_eq_true rfl) hlocks (fun t hvm hz hk => ⟨(up2 (cpG Gt G n) 6 i p1, n, u_67), trivial, ⟨⟨hn, Or.inr (Or.inr ⟨rfl, i, hin, rfl, ⟨c_6, Int32.not_lt.mpr c_19⟩, b01.mp (by rw [← er_67]; exact c_70)⟩)⟩, hP.kept (fun k q h9 => hk q.1 ((hP k q h9).lt)), hD⟩, ⟨Nat.le_trans hS.1 hz, fun q h1 h2 => (hk q (Nat.lt_of_lt_of_le h1 hS.1)).trans (hS.2.1 q h1 h2)⟩⟩) hS.2.2 (Nat.le_of_ble_eq_true rfl) (Nat.le_of_ble_eq_true rfl)
    · obtain ⟨sa, hsa⟩ := hX.s 5 (k := 130) (t := "the level is out of range") rfl
      exact vx_throwS (names := ["java/lang/RuntimeException", "java/lang/Exception"]) hx hb hst hown (by decide +kernel) (by decide +kernel) (hts (.classLink RX4 51 "java/lang/IllegalArgumentException") (by decide +kernel)) (hts (.initialized "java/lang/IllegalArgumentException") (by decide +kernel)) hsa (vx_hat (fun w h => hts w (List.mem_cons_of_mem _ (List.mem_append_left _ (List.mem_append_left _ (List.mem_append_right _ h))))) ng_IAE (vx_c (va_Nw.use rfl (hX.c 0 rfl)) (vx_c (va_Nw.use rfl (hX.d 0 rfl)) (vx_c (va_Nw.use rfl (hX.d 1 rfl)) (vx_c (va_Nw.use rfl (hX.d 2 rfl)) vx_n))))) ot_IAE hZ.1 hZ.2 hS (hl.1.trans hml.symm) dX4_setLevel_22 dX4_setLevel_25 dX4_setLevel_26 dX4_setLevel_28 dX4_setLevel_31 (fun x hx9 => (hnt x hx9).elim) (Nat.le_of_ble_eq_true rfl) (Nat.le_of_ble_eq_true rfl) (Nat.le_of_ble_eq_true rfl) (Nat.le_of_ble_eq_true rfl) hlocks (fun t hvm hz hk => ⟨(Gt, nt, sct), trivial, ⟨⟨hnt9, Or.inr (Or.inl ⟨rfl, i, hin, rfl, fun h => h.2 (Int32.not_le.mp c_19)⟩)⟩, hP.kept (fun k q h9 => hk q.1 ((hP k q h9).lt)), hD⟩, ⟨Nat.le_trans hS.1 hz, fun q h1 h2 => (hk q (Nat.lt_of_lt_of_le h1 hS.1)).trans (hS.2.1 q h1 h2)⟩⟩) hS.2.2 (Nat.le_of_ble_eq_true rfl) (Nat.le_of_ble_eq_true rfl)
set_option maxHeartbeats 1000000 in
set_option maxRecDepth 100000 in
/-- a change is taken back -/
theorem c_X4_undo (l : Launch) (hst : l.stackTraces = false) (dC : Nat → ClassId) (dI : Nat → Nat → Nat) (cy : Nat → ClassId) (sz : Nat) (d0 : Nat) (o : Nat → Nat) (F : Nat → Int32) (bc : Nat → Nat) (G : vG) (n : Nat) (hn : n ≤ 8) (sc : Int32) (rg x kk : Nat) (hx6 : x < 6) (hkk : kk ≤ 6) (cs : Nat → Nat) (bs : Nat → Nat → Nat) (RG : Nat → vG) (rn : Nat → Nat) (RS : Nat → Int32) (hrn : ∀ j, j < 6 → rn j ≤ 8) : vx_Met l yX4_undo wsX4_undo ({ frames := 6, cells := 1, slots := 6, locals := 82 }) (va_Pc [.ref d0] (pX dC dI cy (wObj d0 o F ++ (wCfg cy (o 0) bc G (nI n) sc ++ (wHis cy (o 3) rg x kk cs bs RG rn RS))) sz)) (va_Qi (fun (r : Int32) (u : Nat) => kk = u + 1 ∧ r = nI u) (fun (u : Nat) t => va_P (dC, dI) vwCl (wObj d0 o (upd F 7 0) ++ (wCfg cy (o 0) bc (cpG G (RG ((x + 5) % 6)) (rn ((x + 5) % 6))) (nI (rn ((x + 5) % 6))) (RS ((x + 5) % 6)) ++ (wHis cy (o 3) rg ((x + 5) % 6) u cs bs RG rn RS))) t.heap ∧ va_D (va_A (wObj d0 o F ++ (wCfg cy (o 0) bc G (nI n) sc ++ (wHis cy (o 3) rg x kk cs bs RG rn RS))) sz) (wObj d0 o (upd F 7 0) ++ (wCfg cy (o 0) bc (cpG G (RG ((x + 5) % 6)) (rn ((x + 5) % 6))) (nI (rn ((x + 5) % 6))) (RS ((x + 5) % 6)) ++ (wHis cy (o 3) rg ((x + 5) % 6) u cs bs RG rn RS)))) (va_A (wObj d0 o F ++ (wCfg cy (o 0) bc G (nI n) sc ++ (wHis cy (o 3) rg x kk cs bs RG rn RS))) sz)) (vx_X (fun (_ : Unit) => True) (fun (E : String) (u : Unit) (t : State) => (E = "java/lang/IllegalStateException" ∧ kk = 0) ∧ va_P (dC, dI) vwCl (wObj d0 o F ++ (wCfg cy (o 0) bc G (nI n) sc ++ (wHis cy (o 3) rg x kk cs bs RG rn RS))) t.heap ∧ va_D (va_A (wObj d0 o F ++ (wCfg cy (o 0) bc G (nI n) sc ++ (wHis cy (o 3) rg x kk cs bs RG rn RS))) sz) (wObj d0 o F ++ (wCfg cy (o 0) bc G (nI n) sc ++ (wHis cy (o 3) rg x kk cs bs RG rn RS)))) (va_A (wObj d0 o F ++ (wCfg cy (o 0) bc G (nI n) sc ++ (wHis cy (o 3) rg x kk cs bs RG rn RS))) sz)) 1 6 (va_A (wObj d0 o F ++ (wCfg cy (o 0) bc G (nI n) sc ++ (wHis cy (o 3) rg x kk cs bs RG rn RS))) sz) := by
  refine vx_ofW (cc := cX4_undo) (maxL := 1) (ret := some .int) (by decide) rfl ?_
  intro p e s m args below meth c s₁ B hml hnt hv
  obtain ⟨rfl, hsz, hP, hE, hD0, hX, hZ⟩ := hv
  have hK := hE.1
  subst hsz
  have hD := hD0.self (sz := s.heap.size)
  generalize hAe : va_A (wObj d0 o F ++ (wCfg cy (o 0) bc G (nI n) sc ++ (wHis cy (o 3) rg x kk cs bs RG rn RS))) s.heap.size = A at hD hZ ⊢
  have hA : ∀ q : Nat, s.heap.size ≤ q → A q := fun q h => by rw [← hAe]; exact Or.inr h
  have hS : va_S A s.heap s.heap [] := va_S.rf
  have hP : va_P (dC, dI) vwCl (wObj d0 o F ++ (wCfg cy (o 0) bc G (nI n) sc ++ (wHis cy (o 3) rg x kk cs bs RG rn RS))) s.heap := hP
  have hx := B.exec
  have hb := B.bytes
  have hr := B.returns
  have hts := atoms_spec (ws := wsX4_undo) B.pre
  have hown : s.vm.findClass RX4 = some m.cls := findClass_of_methodNamed B.named
  have hlocks := B.notSynchronized
  have hin1 : ∀ w ∈ u_ws RX1 TX1 3, w ∈ wsX4_undo := by decide +kernel
  have hin4 : ∀ w ∈ u_ws RX4 TX4 12, w ∈ wsX4_undo := by decide +kernel
  have f_12 := hts (.fieldLink RX4 12 "DeadlineAdmission" "current" "LDeadlineAdmission$Configuration;") (by decide +kernel)
  have f_137 := va_Nw.use (A := ([.ref d0].toArray)) rfl (hE.f 13 rfl)
  have f_145 := hts (.fieldLink RX4 145 "DeadlineAdmission" "hasSimulation" "Z") (by decide +kernel)
  have f_25 := hts (.fieldLink RX4 25 "DeadlineAdmission" "history" "LDeadlineAdmission$History;") (by decide +kernel)
  have hl := lv_entry ([.ref d0]) (n := 1) (Nat.le_of_ble_eq_true rfl)
  rw [lg_entry_eq]
  generalize (lg_sl ([.ref d0]) ++ List.replicate (1 - (lg_sl ([.ref d0])).length) Slot.unset).toArray = ls at hl ⊢
  have hl : lv_has ls 1 [(0, .ref d0)] := hl
  refine lv_aload_n hx hb dX4_undo_0 rfl (lv_at hl 0 rfl) ?_
  refine va_get (D := (dC, dI)) (ci := 4) (v := .ref (o 3)) (C := RX4) (T := TX4) (N := 12) hx hb hts hin4 hown hK hP 0 rfl rfl 3 (by decide) f_25 (fun _ h9 => h9) rfl dX4_undo_1 ?_
  refine va_getN (D := (dC, dI)) (ci := 1) (v := .int (nI kk)) (C := RX1) (T := TX1) (N := 3) hx hb hts hin1 hown hK hP 9 rfl rfl 2 (by decide) f_137 (fun _ h9 => h9) rfl dX4_undo_4 ?_
  refine lv_if_ne (tgt := 20) hx hb dX4_undo_7 (by decide) (fun c_7 => ?_) (fun c_7 => ?_)
  · obtain ⟨k9, rfl⟩ : ∃ z, kk = z + 1 := ⟨kk - 1, by rcases Nat.eq_zero_or_pos kk with h | h; exact absurd (by rw [h]; rfl) c_7; omega⟩
    refine lv_aload_n hx hb dX4_undo_20 rfl (lv_at hl 0 rfl) ?_
    refine va_get (D := (dC, dI)) (ci := 4) (v := .ref (o 3)) (C := RX4) (T := TX4) (N := 12) hx hb hts hin4 hown hK hP 0 rfl rfl 3 (by decide) f_25 (fun _ h9 => h9) rfl dX4_undo_21 ?_
    refine lv_aload_n hx hb dX4_undo_24 rfl (lv_at hl 0 rfl) ?_
    refine va_get (D := (dC, dI)) (ci := 4) (v := .ref (o 0)) (C := RX4) (T := TX4) (N := 12) hx hb hts hin4 hown hK hP 0 rfl rfl 0 (by decide) f_12 (fun _ h9 => h9) rfl dX4_undo_25 ?_
    have hPc := hP.sub (ws' := wHis cy (o 3) rg x (k9 + 1) cs bs RG rn RS ++ (wCfg cy (o 0) bc G (nI n) sc)) [9, 10, 11, 12, 13, 14, 15, 16, 17, 18, 19, 20, 21, 22, 23, 24, 25, 26, 27, 28, 29, 30, 31, 32, 33, 34, 35, 36, 37, 38, 39, 40, 41, 42, 43, 44, 45, 46, 47, 48, 49, 50, 51, 52, 53, 54, 55, 56, 57, 58, 1, 2, 3, 4, 5, 6, 7, 8] rfl
    have hDc := hD.sub (ws' := wHis cy (o 3) rg x (k9 + 1) cs bs RG rn RS ++ (wCfg cy (o 0) bc G (nI n) sc)) [9, 10, 11, 12, 13, 14, 15, 16, 17, 18, 19, 20, 21, 22, 23, 24, 25, 26, 27, 28, 29, 30, 31, 32, 33, 34, 35, 36, 37, 38, 39, 40, 41, 42, 43, 44, 45, 46, 47, 48, 49, 50, 51, 52, 53, 54, 55, 56, 57, 58, 1, 2, 3, 4, 5, 6, 7, 8] (by decide) rfl
    have hFc := va_free (wc := wHis cy (o 3) rg x (k9 + 1) cs bs RG rn RS ++ (wCfg cy (o 0) bc G (nI n) sc)) hD hS hA [9, 10, 11, 12, 13, 14, 15, 16, 17, 18, 19, 20, 21, 22, 23, 24, 25, 26, 27, 28, 29, 30, 31, 32, 33, 34, 35, 36, 37, 38, 39, 40, 41, 42, 43, 44, 45, 46, 47, 48, 49, 50, 51, 52, 53, 54, 55, 56, 57, 58, 1, 2, 3, 4, 5, 6, 7, 8] rfl
    refine va_callv (va_runV (As := [.ref (o 0)]) (rest := []) ⟨hx, hb, hml, hown, hts⟩ (c_X1_takeBackInto l dC dI cy s.heap.size (o 3) rg k9 cs bs RG rn RS (o 0) bc G n sc x hx6 (hrn _ (by omega))) (cwV 1 hts gX4_undo_X1_takeBackInto rfl rfl rfl (by decide +kernel) ⟨Nat.le_of_ble_eq_true rfl, Nat.le_of_ble_eq_true rfl⟩) ⟨bl_in, va_recv hK hPc (ci := 1) (q0 := 0) rfl rfl, pr_in hPc hE hDc⟩ rfl rfl hl.1 rfl (lv_room (Nat.le_of_ble_eq_true rfl)) dX4_undo_28 ⟨Nat.le_of_ble_eq_true rfl, Nat.le_of_ble_eq_true rfl⟩) hS (fun q _ h => hFc q h) hFc (fun u t H1 locs ht hvm hw hB hz1 hk1 hS => ?_)
    obtain ⟨hP1, hD1⟩ := hB
    rw [ht] at hP1
    obtain ⟨hP, hD⟩ := va_join (wr := wObj d0 o F) (w1 := wHis cy (o 3) rg ((x + 5) % 6) k9 cs bs RG rn RS ++ (wCfg cy (o 0) bc (cpG G (RG ((x + 5) % 6)) (rn ((x + 5) % 6))) (nI (rn ((x + 5) % 6))) (RS ((x + 5) % 6)))) hP hD [9, 10, 11, 12, 13, 14, 15, 16, 17, 18, 19, 20, 21, 22, 23, 24, 25, 26, 27, 28, 29, 30, 31, 32, 33, 34, 35, 36, 37, 38, 39, 40, 41, 42, 43, 44, 45, 46, 47, 48, 49, 50, 51, 52, 53, 54, 55, 56, 57, 58, 1, 2, 3, 4, 5, 6, 7, 8] [0] rfl rfl (by decide) (by decide) hk1 hFc hP1 hD1
    have hP : va_P (dC, dI) vwCl (wObj d0 o F ++ (wCfg cy (o 0) bc (cpG G (RG ((x + 5) % 6)) (rn ((x + 5) % 6))) (nI (rn ((x + 5) % 6))) (RS ((x + 5) % 6)) ++ (wHis cy (o 3) rg ((x + 5) % 6) k9 cs bs RG rn RS))) H1 := hP.sub [0, 51, 52, 53, 54, 55, 56, 57, 58, 1, 2, 3, 4, 5, 6, 7, 8, 9, 10, 11, 12, 13, 14, 15, 16, 17, 18, 19, 20, 21, 22, 23, 24, 25, 26, 27, 28, 29, 30, 31, 32, 33, 34, 35, 36, 37, 38, 39, 40, 41, 42, 43, 44, 45, 46, 47, 48, 49, 50] rfl
    have hD : va_D A (wObj d0 o F ++ (wCfg cy (o 0) bc (cpG G (RG ((x + 5) % 6)) (rn ((x + 5) % 6))) (nI (rn ((x + 5) % 6))) (RS ((x + 5) % 6)) ++ (wHis cy (o 3) rg ((x + 5) % 6) k9 cs bs RG rn RS))) := hD.sub [0, 51, 52, 53, 54, 55, 56, 57, 58, 1, 2, 3, 4, 5, 6, 7, 8, 9, 10, 11, 12, 13, 14, 15, 16, 17, 18, 19, 20, 21, 22, 23, 24, 25, 26, 27, 28, 29, 30, 31, 32, 33, 34, 35, 36, 37, 38, 39, 40, 41, 42, 43, 44, 45, 46, 47, 48, 49, 50] (by decide) rfl
    clear hz1 hk1 hPc hDc hFc hP1 hD1
    generalize H1 = H at hP hS ⊢
    refine lv_aload_n hx hb dX4_undo_31 rfl (lv_at hl 0 rfl) ?_
    refine lv_iconst (v := 0) hx hb dX4_undo_32 (by decide) ?_
    refine va_put (D := (dC, dI)) (ci := 4) (v := .int 0) (ty := .boolean) (C := RX4) (T := TX4) (N := 12) hx hb hts hin4 tyX4 tyX4_ok nmX4 hown hK hP hD hS 0 rfl rfl 7 (by decide) f_145 (fun _ h9 => h9) rfl (by decide +kernel) (by decide) rfl (Nat.le_of_ble_eq_true rfl) dX4_undo_33 (fun H locs hP hD hS => ?_)
    have hP : va_P (dC, dI) vwCl (wObj d0 o (upd F 7 0) ++ (wCfg cy (o 0) bc (cpG G (RG ((x + 5) % 6)) (rn ((x + 5) % 6))) (nI (rn ((x + 5) % 6))) (RS ((x + 5) % 6)) ++ (wHis cy (o 3) rg ((x + 5) % 6) k9 cs bs RG rn RS))) H := hP
    have hD : va_D A (wObj d0 o (upd F 7 0) ++ (wCfg cy (o 0) bc (cpG G (RG ((x + 5) % 6)) (rn ((x + 5) % 6))) (nI (rn ((x + 5) % 6))) (RS ((x + 5) % 6)) ++ (wHis cy (o 3) rg ((x + 5) % 6) k9 cs bs RG rn RS))) := hD
    refine lv_aload_n hx hb dX4_undo_36 rfl (lv_at hl 0 rfl) ?_
    refine va_get (D := (dC, dI)) (ci := 4) (v := .ref (o 3)) (C := RX4) (T := TX4) (N := 12) hx hb hts hin4 hown hK hP 0 rfl rfl 3 (by decide) f_25 (fun _ h9 => h9) rfl dX4_undo_37 ?_
    refine va_getN (D := (dC, dI)) (ci := 1) (v := .int (nI k9)) (C := RX1) (T := TX1) (N := 3) hx hb hts hin1 hown hK hP 9 rfl rfl 2 (by decide) f_137 (fun _ h9 => h9) rfl dX4_undo_40 ?_
    refine vx_ret ?_
    refine W.widen (k := 1) (n := 6) (Nat.le_of_ble_eq_true rfl) (Nat.le_of_ble_eq_true rfl) ?_
    have hP9 : va_P (dC, dI) vwCl (wObj d0 o (upd F 7 0) ++ (wCfg cy (o 0) bc (cpG G (RG ((x + 5) % 6)) (rn ((x + 5) % 6))) (nI (rn ((x + 5) % 6))) (RS ((x + 5) % 6)) ++ (wHis cy (o 3) rg ((x + 5) % 6) k9 cs bs RG rn RS))) H := hP
    have hD9 : va_D A (wObj d0 o (upd F 7 0) ++ (wCfg cy (o 0) bc (cpG G (RG ((x + 5) % 6)) (rn ((x + 5) % 6))) (nI (rn ((x + 5) % 6))) (RS ((x + 5) % 6)) ++ (wHis cy (o 3) rg ((x + 5) % 6) k9 cs bs RG rn RS))) := hD
    exact W.iret (v := nI k9) hx hb hr (fun t ht hW => ⟨⟨nI k9, k9, rfl, ⟨rfl, rfl⟩, by rw [ht]; exact hP9, hD9⟩, hS.F ht⟩) hS.2.2 dX4_undo_43
  · have hk0 : kk = 0 := (nI_eq (b := 0) (by omega) (by omega)).mp c_7
    obtain ⟨sa, hsa⟩ := hX.s 7 (k := 140) (t := "there is no change to take back") rfl
    exact vx_throwS (names := ["java/lang/RuntimeException", "java/lang/Exception"]) hx hb hst hown (by decide +kernel) (by decide +kernel) (hts (.classLink RX4 62 "java/lang/IllegalStateException") (by decide +kernel)) (hts (.initialized "java/lang/IllegalStateException") (by decide +kernel)) hsa (vx_hat (fun w h => hts w (List.mem_cons_of_mem _ (List.mem_append_right _ h))) ng_ISE (vx_c (va_Nw.use rfl (hX.c 1 rfl)) (vx_c (va_Nw.use rfl (hX.d 0 rfl)) (vx_c (va_Nw.use rfl (hX.d 1 rfl)) (vx_c (va_Nw.use rfl (hX.d 2 rfl)) vx_n))))) ot_ISE hZ.1 hZ.2 hS (hl.1.trans hml.symm) dX4_undo_10 dX4_undo_13 dX4_undo_14 dX4_undo_16 dX4_undo_19 (fun x hx9 => (hnt x hx9).elim) (Nat.le_of_ble_eq_true rfl) (Nat.le_of_ble_eq_true rfl) (Nat.le_of_ble_eq_true rfl) (Nat.le_of_ble_eq_true rfl) hlocks (fun t hvm hz hk => ⟨(), trivial, ⟨⟨rfl, hk0⟩, hP.kept (fun k q h9 => hk q.1 ((hP k q h9).lt)), hD⟩, ⟨Nat.le_trans hS.1 hz, fun q h1 h2 => (hk q (Nat.lt_of_lt_of_le h1 hS.1)).trans (hS.2.1 q h1 h2)⟩⟩) hS.2.2 (Nat.le_of_ble_eq_true rfl) (Nat.le_of_ble_eq_true rfl)
set_option maxHeartbeats 1000000 in
set_option maxRecDepth 100000 in
/-- save -/
theorem c_X4_save (l : Launch) (dC : Nat → ClassId) (dI : Nat → Nat → Nat) (cy : Nat → ClassId) (sz : Nat) (d0 : Nat) (o : Nat → Nat) (F : Nat → Int32) (bc : Nat → Nat) (G : vG) (n : Nat) (hn : n ≤ 8) (sc : Int32) (bv : Nat → Nat) (Gv : vG) (nv9 : Nat) (hnv : nv9 ≤ 8) (scv : Int32) : Met l yX4_save wsX4_save ({ frames := 2, cells := 0, slots := 0, locals := 45 }) (va_Pc [.ref d0] (pIn dC dI cy (wObj d0 o F ++ (wCfg cy (o 0) bc G (nI n) sc ++ (wCfg cy (o 2) bv Gv (nI nv9) scv))) sz)) (va_Qv (fun _ => True) (fun (u : Unit) t => va_P (dC, dI) vwCl (wObj d0 o (upd F 6 1) ++ (wCfg cy (o 0) bc G (nI n) sc ++ (wCfg cy (o 2) bv (cpG Gv G n) (nI n) sc))) t.heap ∧ va_D (va_A (wObj d0 o F ++ (wCfg cy (o 0) bc G (nI n) sc ++ (wCfg cy (o 2) bv Gv (nI nv9) scv))) sz) (wObj d0 o (upd F 6 1) ++ (wCfg cy (o 0) bc G (nI n) sc ++ (wCfg cy (o 2) bv (cpG Gv G n) (nI n) sc)))) (va_A (wObj d0 o F ++ (wCfg cy (o 0) bc G (nI n) sc ++ (wCfg cy (o 2) bv Gv (nI nv9) scv))) sz)) 0 0 (va_A (wObj d0 o F ++ (wCfg cy (o 0) bc G (nI n) sc ++ (wCfg cy (o 2) bv Gv (nI nv9) scv))) sz) := by
  refine Met.ofW (cc := cX4_save) (maxL := 1) (ret := none) (by decide) rfl ?_
  intro p e s m args below meth c s₁ B hml hv
  obtain ⟨rfl, hsz, hP, hE, hD0⟩ := hv
  have hK := hE.1
  subst hsz
  have hD := hD0.self (sz := s.heap.size)
  generalize hAe : va_A (wObj d0 o F ++ (wCfg cy (o 0) bc G (nI n) sc ++ (wCfg cy (o 2) bv Gv (nI nv9) scv))) s.heap.size = A at hD ⊢
  have hA : ∀ q : Nat, s.heap.size ≤ q → A q := fun q h => by rw [← hAe]; exact Or.inr h
  have hS : va_S A s.heap s.heap [] := va_S.rf
  have hP : va_P (dC, dI) vwCl (wObj d0 o F ++ (wCfg cy (o 0) bc G (nI n) sc ++ (wCfg cy (o 2) bv Gv (nI nv9) scv))) s.heap := hP
  have hx := B.exec
  have hb := B.bytes
  have hr := B.returns
  have hts := atoms_spec (ws := wsX4_save) B.pre
  have hown : s.vm.findClass RX4 = some m.cls := findClass_of_methodNamed B.named
  have hlocks := B.notSynchronized
  have hin4 : ∀ w ∈ u_ws RX4 TX4 12, w ∈ wsX4_save := by decide +kernel
  have f_12 := hts (.fieldLink RX4 12 "DeadlineAdmission" "current" "LDeadlineAdmission$Configuration;") (by decide +kernel)
  have f_149 := hts (.fieldLink RX4 149 "DeadlineAdmission" "hasSaved" "Z") (by decide +kernel)
  have f_19 := hts (.fieldLink RX4 19 "DeadlineAdmission" "saved" "LDeadlineAdmission$Configuration;") (by decide +kernel)
  have hl := lv_entry ([.ref d0]) (n := 1) (Nat.le_of_ble_eq_true rfl)
  rw [lg_entry_eq]
  generalize (lg_sl ([.ref d0]) ++ List.replicate (1 - (lg_sl ([.ref d0])).length) Slot.unset).toArray = ls at hl ⊢
  have hl : lv_has ls 1 [(0, .ref d0)] := hl
  refine lv_aload_n hx hb dX4_save_0 rfl (lv_at hl 0 rfl) ?_
  refine va_get (D := (dC, dI)) (ci := 4) (v := .ref (o 2)) (C := RX4) (T := TX4) (N := 12) hx hb hts hin4 hown hK hP 0 rfl rfl 2 (by decide) f_19 (fun _ h9 => h9) rfl dX4_save_1 ?_
  refine lv_aload_n hx hb dX4_save_4 rfl (lv_at hl 0 rfl) ?_
  refine va_get (D := (dC, dI)) (ci := 4) (v := .ref (o 0)) (C := RX4) (T := TX4) (N := 12) hx hb hts hin4 hown hK hP 0 rfl rfl 0 (by decide) f_12 (fun _ h9 => h9) rfl dX4_save_5 ?_
  have hPc := hP.sub (ws' := wCfg cy (o 2) bv Gv (nI nv9) scv ++ (wCfg cy (o 0) bc G (nI n) sc)) [9, 10, 11, 12, 13, 14, 15, 16, 1, 2, 3, 4, 5, 6, 7, 8] rfl
  have hDc := hD.sub (ws' := wCfg cy (o 2) bv Gv (nI nv9) scv ++ (wCfg cy (o 0) bc G (nI n) sc)) [9, 10, 11, 12, 13, 14, 15, 16, 1, 2, 3, 4, 5, 6, 7, 8] (by decide) rfl
  have hFc := va_free (wc := wCfg cy (o 2) bv Gv (nI nv9) scv ++ (wCfg cy (o 0) bc G (nI n) sc)) hD hS hA [9, 10, 11, 12, 13, 14, 15, 16, 1, 2, 3, 4, 5, 6, 7, 8] rfl
  refine va_callv (va_runV (As := [.ref (o 0)]) (rest := []) ⟨hx, hb, hml, hown, hts⟩ (c_X0_copyFrom l dC dI cy s.heap.size (o 2) bv Gv (nI nv9) scv (o 0) bc G n (by omega) sc) (cwV 1 hts gX4_save_X0_copyFrom rfl rfl rfl (by decide +kernel) ⟨Nat.le_of_ble_eq_true rfl, Nat.le_of_ble_eq_true rfl⟩) ⟨bl_in, va_recv hK hPc (ci := 0) (q0 := 0) rfl rfl, pr_in hPc hE hDc⟩ rfl rfl hl.1 rfl (lv_room (Nat.le_of_ble_eq_true rfl)) dX4_save_8 ⟨Nat.le_of_ble_eq_true rfl, Nat.le_of_ble_eq_true rfl⟩) hS (fun q _ h => hFc q h) hFc (fun u t H1 locs ht hvm hw hB hz1 hk1 hS => ?_)
  obtain ⟨hP1, hD1⟩ := hB
  rw [ht] at hP1
  obtain ⟨hP, hD⟩ := va_join (wr := wObj d0 o F) (w1 := wCfg cy (o 2) bv (cpG Gv G n) (nI n) sc ++ (wCfg cy (o 0) bc G (nI n) sc)) hP hD [9, 10, 11, 12, 13, 14, 15, 16, 1, 2, 3, 4, 5, 6, 7, 8] [0] rfl rfl (by decide) (by decide) hk1 hFc hP1 hD1
  have hP : va_P (dC, dI) vwCl (wObj d0 o F ++ (wCfg cy (o 0) bc G (nI n) sc ++ (wCfg cy (o 2) bv (cpG Gv G n) (nI n) sc))) H1 := hP.sub [0, 9, 10, 11, 12, 13, 14, 15, 16, 1, 2, 3, 4, 5, 6, 7, 8] rfl
  have hD : va_D A (wObj d0 o F ++ (wCfg cy (o 0) bc G (nI n) sc ++ (wCfg cy (o 2) bv (cpG Gv G n) (nI n) sc))) := hD.sub [0, 9, 10, 11, 12, 13, 14, 15, 16, 1, 2, 3, 4, 5, 6, 7, 8] (by decide) rfl
  clear hz1 hk1 hPc hDc hFc hP1 hD1
  generalize H1 = H at hP hS ⊢
  refine lv_aload_n hx hb dX4_save_11 rfl (lv_at hl 0 rfl) ?_
  refine lv_iconst (v := 1) hx hb dX4_save_12 (by decide) ?_
  refine va_put (D := (dC, dI)) (ci := 4) (v := .int 1) (ty := .boolean) (C := RX4) (T := TX4) (N := 12) hx hb hts hin4 tyX4 tyX4_ok nmX4 hown hK hP hD hS 0 rfl rfl 6 (by decide) f_149 (fun _ h9 => h9) rfl (by decide +kernel) (by decide) rfl (Nat.le_of_ble_eq_true rfl) dX4_save_13 (fun H locs hP hD hS => ?_)
  have hP : va_P (dC, dI) vwCl (wObj d0 o (upd F 6 1) ++ (wCfg cy (o 0) bc G (nI n) sc ++ (wCfg cy (o 2) bv (cpG Gv G n) (nI n) sc))) H := hP
  have hD : va_D A (wObj d0 o (upd F 6 1) ++ (wCfg cy (o 0) bc G (nI n) sc ++ (wCfg cy (o 2) bv (cpG Gv G n) (nI n) sc))) := hD
  have hP9 : va_P (dC, dI) vwCl (wObj d0 o (upd F 6 1) ++ (wCfg cy (o 0) bc G (nI n) sc ++ (wCfg cy (o 2) bv (cpG Gv G n) (nI n) sc))) H := hP
  have hD9 : va_D A (wObj d0 o (upd F 6 1) ++ (wCfg cy (o 0) bc G (nI n) sc ++ (wCfg cy (o 2) bv (cpG Gv G n) (nI n) sc))) := hD
  exact W.vret hx hb hr (fun t ht hW => ⟨⟨(), rfl, trivial, by rw [ht]; exact hP9, hD9⟩, hS.F ht⟩) hS.2.2 dX4_save_16
set_option maxHeartbeats 1000000 in
set_option maxRecDepth 100000 in
/-- what was saved comes back -/
theorem c_X4_restore (l : Launch) (hst : l.stackTraces = false) (dC : Nat → ClassId) (dI : Nat → Nat → Nat) (cy : Nat → ClassId) (sz : Nat) (d0 : Nat) (o : Nat → Nat) (F : Nat → Int32) (bc : Nat → Nat) (G : vG) (n : Nat) (hn : n ≤ 8) (sc : Int32) (bt : Nat → Nat) (Gt : vG) (nt : Nat) (hnt : nt ≤ 8) (sct : Int32) (rg x kk : Nat) (hx6 : x < 6) (hkk : kk ≤ 6) (cs : Nat → Nat) (bs : Nat → Nat → Nat) (RG : Nat → vG) (rn : Nat → Nat) (RS : Nat → Int32) (bv : Nat → Nat) (Gv : vG) (nv9 : Nat) (hnv : nv9 ≤ 8) (scv : Int32) : vx_Met l yX4_restore wsX4_restore ({ frames := 6, cells := 1, slots := 6, locals := 86 }) (va_Pc [.ref d0] (pX dC dI cy (wObj d0 o F ++ (wCfg cy (o 0) bc G (nI n) sc ++ (wCfg cy (o 1) bt Gt (nI nt) sct ++ (wHis cy (o 3) rg x kk cs bs RG rn RS ++ (wCfg cy (o 2) bv Gv (nI nv9) scv))))) sz)) (va_Qi (fun (r : Int32) (u : AdmS) => ¬ F 6 = 0 ∧ r = nI nv9 ∧ u = kChg F G n sc x kk RG rn RS (cpG Gt Gv nv9) nv9 scv) (fun (u : AdmS) t => va_P (dC, dI) vwCl (wObj d0 o u.1 ++ (wCfg cy (o 0) bc u.2.1.1 (nI u.2.1.2.1) u.2.1.2.2 ++ (wCfg cy (o 1) bt u.2.2.1.1 (nI u.2.2.1.2.1) u.2.2.1.2.2 ++ (wHis cy (o 3) rg u.2.2.2.1 u.2.2.2.2.1 cs bs u.2.2.2.2.2.1 u.2.2.2.2.2.2.1 u.2.2.2.2.2.2.2 ++ (wCfg cy (o 2) bv Gv (nI nv9) scv))))) t.heap ∧ va_D (va_A (wObj d0 o F ++ (wCfg cy (o 0) bc G (nI n) sc ++ (wCfg cy (o 1) bt Gt (nI nt) sct ++ (wHis cy (o 3) rg x kk cs bs RG rn RS ++ (wCfg cy (o 2) bv Gv (nI nv9) scv))))) sz) (wObj d0 o u.1 ++ (wCfg cy (o 0) bc u.2.1.1 (nI u.2.1.2.1) u.2.1.2.2 ++ (wCfg cy (o 1) bt u.2.2.1.1 (nI u.2.2.1.2.1) u.2.2.1.2.2 ++ (wHis cy (o 3) rg u.2.2.2.1 u.2.2.2.2.1 cs bs u.2.2.2.2.2.1 u.2.2.2.2.2.2.1 u.2.2.2.2.2.2.2 ++ (wCfg cy (o 2) bv Gv (nI nv9) scv)))))) (va_A (wObj d0 o F ++ (wCfg cy (o 0) bc G (nI n) sc ++ (wCfg cy (o 1) bt Gt (nI nt) sct ++ (wHis cy (o 3) rg x kk cs bs RG rn RS ++ (wCfg cy (o 2) bv Gv (nI nv9) scv))))) sz)) (vx_X (fun (_ : Unit) => True) (fun (E : String) (u : Unit) (t : State) => (E = "java/lang/IllegalStateException" ∧ F 6 = 0) ∧ va_P (dC, dI) vwCl (wObj d0 o F ++ (wCfg cy (o 0) bc G (nI n) sc ++ (wCfg cy (o 1) bt Gt (nI nt) sct ++ (wHis cy (o 3) rg x kk cs bs RG rn RS ++ (wCfg cy (o 2) bv Gv (nI nv9) scv))))) t.heap ∧ va_D (va_A (wObj d0 o F ++ (wCfg cy (o 0) bc G (nI n) sc ++ (wCfg cy (o 1) bt Gt (nI nt) sct ++ (wHis cy (o 3) rg x kk cs bs RG rn RS ++ (wCfg cy (o 2) bv Gv (nI nv9) scv))))) sz) (wObj d0 o F ++ (wCfg cy (o 0) bc G (nI n) sc ++ (wCfg cy (o 1) bt Gt (nI nt) sct ++ (wHis cy (o 3) rg x kk cs bs RG rn RS ++ (wCfg cy (o 2) bv Gv (nI nv9) scv)))))) (va_A (wObj d0 o F ++ (wCfg cy (o 0) bc G (nI n) sc ++ (wCfg cy (o 1) bt Gt (nI nt) sct ++ (wHis cy (o 3) rg x kk cs bs RG rn RS ++ (wCfg cy (o 2) bv Gv (nI nv9) scv))))) sz)) 1 6 (va_A (wObj d0 o F ++ (wCfg cy (o 0) bc G (nI n) sc ++ (wCfg cy (o 1) bt Gt (nI nt) sct ++ (wHis cy (o 3) rg x kk cs bs RG rn RS ++ (wCfg cy (o 2) bv Gv (nI nv9) scv))))) sz) := by
  refine vx_ofW (cc := cX4_restore) (maxL := 1) (ret := some .int) (by decide) rfl ?_
  intro p e s m args below meth c s₁ B hml hnt hv
  obtain ⟨rfl, hsz, hP, hE, hD0, hX, hZ⟩ := hv
  have hK := hE.1
  subst hsz
  have hD := hD0.self (sz := s.heap.size)
  generalize hAe : va_A (wObj d0 o F ++ (wCfg cy (o 0) bc G (nI n) sc ++ (wCfg cy (o 1) bt Gt (nI nt) sct ++ (wHis cy (o 3) rg x kk cs bs RG rn RS ++ (wCfg cy (o 2) bv Gv (nI nv9) scv))))) s.heap.size = A at hD hZ ⊢
  have hA : ∀ q : Nat, s.heap.size ≤ q → A q := fun q h => by rw [← hAe]; exact Or.inr h
  have hS : va_S A s.heap s.heap [] := va_S.rf
  have hP : va_P (dC, dI) vwCl (wObj d0 o F ++ (wCfg cy (o 0) bc G (nI n) sc ++ (wCfg cy (o 1) bt Gt (nI nt) sct ++ (wHis cy (o 3) rg x kk cs bs RG rn RS ++ (wCfg cy (o 2) bv Gv (nI nv9) scv))))) s.heap := hP
  have hx := B.exec
  have hb := B.bytes
  have hr := B.returns
  have hts := atoms_spec (ws := wsX4_restore) B.pre
  have hown : s.vm.findClass RX4 = some m.cls := findClass_of_methodNamed B.named
  have hlocks := B.notSynchronized
  have hin0 : ∀ w ∈ u_ws RX0 TX0 9, w ∈ wsX4_restore := by decide +kernel
  have hin4 : ∀ w ∈ u_ws RX4 TX4 12, w ∈ wsX4_restore := by decide +kernel
  have f_12 := hts (.fieldLink RX4 12 "DeadlineAdmission" "current" "LDeadlineAdmission$Configuration;") (by decide +kernel)
  have f_149 := hts (.fieldLink RX4 149 "DeadlineAdmission" "hasSaved" "Z") (by decide +kernel)
  have f_16 := hts (.fieldLink RX4 16 "DeadlineAdmission" "trial" "LDeadlineAdmission$Configuration;") (by decide +kernel)
  have f_19 := hts (.fieldLink RX4 19 "DeadlineAdmission" "saved" "LDeadlineAdmission$Configuration;") (by decide +kernel)
  have f_58 := va_Nw.use (A := ([.ref d0].toArray)) rfl (hE.f 9 rfl)
  have hl := lv_entry ([.ref d0]) (n := 1) (Nat.le_of_ble_eq_true rfl)
  rw [lg_entry_eq]
  generalize (lg_sl ([.ref d0]) ++ List.replicate (1 - (lg_sl ([.ref d0])).length) Slot.unset).toArray = ls at hl ⊢
  have hl : lv_has ls 1 [(0, .ref d0)] := hl
  refine lv_aload_n hx hb dX4_restore_0 rfl (lv_at hl 0 rfl) ?_
  refine va_get (D := (dC, dI)) (ci := 4) (v := .int (F 6)) (C := RX4) (T := TX4) (N := 12) hx hb hts hin4 hown hK hP 0 rfl rfl 6 (by decide) f_149 (fun _ h9 => h9) rfl dX4_restore_1 ?_
  refine lv_if_ne (tgt := 17) hx hb dX4_restore_4 (by decide) (fun c_4 => ?_) (fun c_4 => ?_)
  · refine lv_aload_n hx hb dX4_restore_17 rfl (lv_at hl 0 rfl) ?_
    refine va_get (D := (dC, dI)) (ci := 4) (v := .ref (o 1)) (C := RX4) (T := TX4) (N := 12) hx hb hts hin4 hown hK hP 0 rfl rfl 1 (by decide) f_16 (fun _ h9 => h9) rfl dX4_restore_18 ?_
    refine lv_aload_n hx hb dX4_restore_21 rfl (lv_at hl 0 rfl) ?_
    refine va_get (D := (dC, dI)) (ci := 4) (v := .ref (o 2)) (C := RX4) (T := TX4) (N := 12) hx hb hts hin4 hown hK hP 0 rfl rfl 2 (by decide) f_19 (fun _ h9 => h9) rfl dX4_restore_22 ?_
    have hPc := hP.sub (ws' := wCfg cy (o 1) bt Gt (nI nt) sct ++ (wCfg cy (o 2) bv Gv (nI nv9) scv)) [9, 10, 11, 12, 13, 14, 15, 16, 67, 68, 69, 70, 71, 72, 73, 74] rfl
    have hDc := hD.sub (ws' := wCfg cy (o 1) bt Gt (nI nt) sct ++ (wCfg cy (o 2) bv Gv (nI nv9) scv)) [9, 10, 11, 12, 13, 14, 15, 16, 67, 68, 69, 70, 71, 72, 73, 74] (by decide) rfl
    have hFc := va_free (wc := wCfg cy (o 1) bt Gt (nI nt) sct ++ (wCfg cy (o 2) bv Gv (nI nv9) scv)) hD hS hA [9, 10, 11, 12, 13, 14, 15, 16, 67, 68, 69, 70, 71, 72, 73, 74] rfl
    refine va_callv (va_runV (As := [.ref (o 2)]) (rest := []) ⟨hx, hb, hml, hown, hts⟩ (c_X0_copyFrom l dC dI cy s.heap.size (o 1) bt Gt (nI nt) sct (o 2) bv Gv nv9 (by omega) scv) (cwV 1 hts gX4_restore_X0_copyFrom rfl rfl rfl (by decide +kernel) ⟨Nat.le_of_ble_eq_true rfl, Nat.le_of_ble_eq_true rfl⟩) ⟨bl_in, va_recv hK hPc (ci := 0) (q0 := 0) rfl rfl, pr_in hPc hE hDc⟩ rfl rfl hl.1 rfl (lv_room (Nat.le_of_ble_eq_true rfl)) dX4_restore_25 ⟨Nat.le_of_ble_eq_true rfl, Nat.le_of_ble_eq_true rfl⟩) hS (fun q _ h => hFc q h) hFc (fun u t H1 locs ht hvm hw hB hz1 hk1 hS => ?_)
    obtain ⟨hP1, hD1⟩ := hB
    rw [ht] at hP1
    obtain ⟨hP, hD⟩ := va_join (wr := wObj d0 o F ++ (wCfg cy (o 0) bc G (nI n) sc ++ (wHis cy (o 3) rg x kk cs bs RG rn RS))) (w1 := wCfg cy (o 1) bt (cpG Gt Gv nv9) (nI nv9) scv ++ (wCfg cy (o 2) bv Gv (nI nv9) scv)) hP hD [9, 10, 11, 12, 13, 14, 15, 16, 67, 68, 69, 70, 71, 72, 73, 74] [0, 1, 2, 3, 4, 5, 6, 7, 8, 17, 18, 19, 20, 21, 22, 23, 24, 25, 26, 27, 28, 29, 30, 31, 32, 33, 34, 35, 36, 37, 38, 39, 40, 41, 42, 43, 44, 45, 46, 47, 48, 49, 50, 51, 52, 53, 54, 55, 56, 57, 58, 59, 60, 61, 62, 63, 64, 65, 66] rfl rfl (by decide) (by decide) hk1 hFc hP1 hD1
    have hP : va_P (dC, dI) vwCl (wObj d0 o F ++ (wCfg cy (o 0) bc G (nI n) sc ++ (wCfg cy (o 1) bt (cpG Gt Gv nv9) (nI nv9) scv ++ (wHis cy (o 3) rg x kk cs bs RG rn RS ++ (wCfg cy (o 2) bv Gv (nI nv9) scv))))) H1 := hP.sub [0, 1, 2, 3, 4, 5, 6, 7, 8, 59, 60, 61, 62, 63, 64, 65, 66, 9, 10, 11, 12, 13, 14, 15, 16, 17, 18, 19, 20, 21, 22, 23, 24, 25, 26, 27, 28, 29, 30, 31, 32, 33, 34, 35, 36, 37, 38, 39, 40, 41, 42, 43, 44, 45, 46, 47, 48, 49, 50, 51, 52, 53, 54, 55, 56, 57, 58, 67, 68, 69, 70, 71, 72, 73, 74] rfl
    have hD : va_D A (wObj d0 o F ++ (wCfg cy (o 0) bc G (nI n) sc ++ (wCfg cy (o 1) bt (cpG Gt Gv nv9) (nI nv9) scv ++ (wHis cy (o 3) rg x kk cs bs RG rn RS ++ (wCfg cy (o 2) bv Gv (nI nv9) scv))))) := hD.sub [0, 1, 2, 3, 4, 5, 6, 7, 8, 59, 60, 61, 62, 63, 64, 65, 66, 9, 10, 11, 12, 13, 14, 15, 16, 17, 18, 19, 20, 21, 22, 23, 24, 25, 26, 27, 28, 29, 30, 31, 32, 33, 34, 35, 36, 37, 38, 39, 40, 41, 42, 43, 44, 45, 46, 47, 48, 49, 50, 51, 52, 53, 54, 55, 56, 57, 58, 67, 68, 69, 70, 71, 72, 73, 74] (by decide) rfl
    clear hz1 hk1 hPc hDc hFc hP1 hD1
    generalize H1 = H at hP hS ⊢
    refine lv_aload_n hx hb dX4_restore_28 rfl (lv_at hl 0 rfl) ?_
    have hPc := hP.sub (ws' := wObj d0 o F ++ (wCfg cy (o 0) bc G (nI n) sc ++ (wCfg cy (o 1) bt (cpG Gt Gv nv9) (nI nv9) scv ++ (wHis cy (o 3) rg x kk cs bs RG rn RS)))) [0, 1, 2, 3, 4, 5, 6, 7, 8, 9, 10, 11, 12, 13, 14, 15, 16, 17, 18, 19, 20, 21, 22, 23, 24, 25, 26, 27, 28, 29, 30, 31, 32, 33, 34, 35, 36, 37, 38, 39, 40, 41, 42, 43, 44, 45, 46, 47, 48, 49, 50, 51, 52, 53, 54, 55, 56, 57, 58, 59, 60, 61, 62, 63, 64, 65, 66] rfl
    have hDc := hD.sub (ws' := wObj d0 o F ++ (wCfg cy (o 0) bc G (nI n) sc ++ (wCfg cy (o 1) bt (cpG Gt Gv nv9) (nI nv9) scv ++ (wHis cy (o 3) rg x kk cs bs RG rn RS)))) [0, 1, 2, 3, 4, 5, 6, 7, 8, 9, 10, 11, 12, 13, 14, 15, 16, 17, 18, 19, 20, 21, 22, 23, 24, 25, 26, 27, 28, 29, 30, 31, 32, 33, 34, 35, 36, 37, 38, 39, 40, 41, 42, 43, 44, 45, 46, 47, 48, 49, 50, 51, 52, 53, 54, 55, 56, 57, 58, 59, 60, 61, 62, 63, 64, 65, 66] (by decide) rfl
    have hFc := va_free (wc := wObj d0 o F ++ (wCfg cy (o 0) bc G (nI n) sc ++ (wCfg cy (o 1) bt (cpG Gt Gv nv9) (nI nv9) scv ++ (wHis cy (o 3) rg x kk cs bs RG rn RS)))) hD hS hA [0, 1, 2, 3, 4, 5, 6, 7, 8, 9, 10, 11, 12, 13, 14, 15, 16, 17, 18, 19, 20, 21, 22, 23, 24, 25, 26, 27, 28, 29, 30, 31, 32, 33, 34, 35, 36, 37, 38, 39, 40, 41, 42, 43, 44, 45, 46, 47, 48, 49, 50, 51, 52, 53, 54, 55, 56, 57, 58, 59, 60, 61, 62, 63, 64, 65, 66] rfl
    refine va_callv (va_runV (As := []) (rest := []) ⟨hx, hb, hml, hown, hts⟩ (c_X4_commitTrial l dC dI cy H.size d0 o F bc G n (by omega) sc bt (cpG Gt Gv nv9) nv9 (by omega) scv rg x kk hx6 hkk cs bs RG rn RS) (cwV 0 hts gX4_restore_X4_commitTrial rfl rfl rfl (by decide +kernel) ⟨Nat.le_of_ble_eq_true rfl, Nat.le_of_ble_eq_true rfl⟩) ⟨bl_in, va_recv hK hPc (ci := 4) (q0 := 0) rfl rfl, pr_in hPc hE hDc⟩ rfl rfl hl.1 rfl (lv_room (Nat.le_of_ble_eq_true rfl)) dX4_restore_29 ⟨Nat.le_of_ble_eq_true rfl, Nat.le_of_ble_eq_true rfl⟩) hS (fun q _ h => hFc q h) hFc (fun u t H1 locs ht hvm hw hB hz1 hk1 hS => ?_)
    obtain ⟨hP1, hD1⟩ := hB
    rw [ht] at hP1
    obtain ⟨hP, hD⟩ := va_join (wr := wCfg cy (o 2) bv Gv (nI nv9) scv) (w1 := wObj d0 o (upd F 7 0) ++ (wCfg cy (o 0) bc (cpG G (cpG Gt Gv nv9) nv9) (nI nv9) scv ++ (wCfg cy (o 1) bt (cpG Gt Gv nv9) (nI nv9) scv ++ (wHis cy (o 3) rg ((x + 1) % 6) (hcnt kk) cs bs (va_up RG x (cpG (RG x) G n)) (va_up rn x n) (va_up RS x sc))))) hP hD [0, 1, 2, 3, 4, 5, 6, 7, 8, 9, 10, 11, 12, 13, 14, 15, 16, 17, 18, 19, 20, 21, 22, 23, 24, 25, 26, 27, 28, 29, 30, 31, 32, 33, 34, 35, 36, 37, 38, 39, 40, 41, 42, 43, 44, 45, 46, 47, 48, 49, 50, 51, 52, 53, 54, 55, 56, 57, 58, 59, 60, 61, 62, 63, 64, 65, 66] [67, 68, 69, 70, 71, 72, 73, 74] rfl rfl (by decide) (by decide) hk1 hFc hP1 hD1
    have hP : va_P (dC, dI) vwCl (wObj d0 o (upd F 7 0) ++ (wCfg cy (o 0) bc (cpG G (cpG Gt Gv nv9) nv9) (nI nv9) scv ++ (wCfg cy (o 1) bt (cpG Gt Gv nv9) (nI nv9) scv ++ (wHis cy (o 3) rg ((x + 1) % 6) (hcnt kk) cs bs (va_up RG x (cpG (RG x) G n)) (va_up rn x n) (va_up RS x sc) ++ (wCfg cy (o 2) bv Gv (nI nv9) scv))))) H1 := hP.sub [8, 9, 10, 11, 12, 13, 14, 15, 16, 17, 18, 19, 20, 21, 22, 23, 24, 25, 26, 27, 28, 29, 30, 31, 32, 33, 34, 35, 36, 37, 38, 39, 40, 41, 42, 43, 44, 45, 46, 47, 48, 49, 50, 51, 52, 53, 54, 55, 56, 57, 58, 59, 60, 61, 62, 63, 64, 65, 66, 67, 68, 69, 70, 71, 72, 73, 74, 0, 1, 2, 3, 4, 5, 6, 7] rfl
    have hD : va_D A (wObj d0 o (upd F 7 0) ++ (wCfg cy (o 0) bc (cpG G (cpG Gt Gv nv9) nv9) (nI nv9) scv ++ (wCfg cy (o 1) bt (cpG Gt Gv nv9) (nI nv9) scv ++ (wHis cy (o 3) rg ((x + 1) % 6) (hcnt kk) cs bs (va_up RG x (cpG (RG x) G n)) (va_up rn x n) (va_up RS x sc) ++ (wCfg cy (o 2) bv Gv (nI nv9) scv))))) := hD.sub [8, 9, 10, 11, 12, 13, 14, 15, 16, 17, 18, 19, 20, 21, 22, 23, 24, 25, 26, 27, 28, 29, 30, 31, 32, 33, 34, 35, 36, 37, 38, 39, 40, 41, 42, 43, 44, 45, 46, 47, 48, 49, 50, 51, 52, 53, 54, 55, 56, 57, 58, 59, 60, 61, 62, 63, 64, 65, 66, 67, 68, 69, 70, 71, 72, 73, 74, 0, 1, 2, 3, 4, 5, 6, 7] (by decide) rfl
    clear hz1 hk1 hPc hDc hFc hP1 hD1
    generalize H1 = H at hP hS ⊢
    refine lv_aload_n hx hb dX4_restore_32 rfl (lv_at hl 0 rfl) ?_
    refine va_get (D := (dC, dI)) (ci := 4) (v := .ref (o 0)) (C := RX4) (T := TX4) (N := 12) hx hb hts hin4 hown hK hP 0 rfl rfl 0 (by decide) f_12 (fun _ h9 => h9) rfl dX4_restore_33 ?_
    refine va_getN (D := (dC, dI)) (ci := 0) (v := .int (nI nv9)) (C := RX0) (T := TX0) (N := 9) hx hb hts hin0 hown hK hP 1 rfl rfl 7 (by decide) f_58 (fun _ h9 => h9) rfl dX4_restore_36 ?_
    refine vx_ret ?_
    refine W.widen (k := 1) (n := 6) (Nat.le_of_ble_eq_true rfl) (Nat.le_of_ble_eq_true rfl) ?_
    have hP9 : va_P (dC, dI) vwCl (wObj d0 o (upd F 7 0) ++ (wCfg cy (o 0) bc (cpG G (cpG Gt Gv nv9) nv9) (nI nv9) scv ++ (wCfg cy (o 1) bt (cpG Gt Gv nv9) (nI nv9) scv ++ (wHis cy (o 3) rg ((x + 1) % 6) (hcnt kk) cs bs (va_up RG x (cpG (RG x) G n)) (va_up rn x n) (va_up RS x sc) ++ (wCfg cy (o 2) bv Gv (nI nv9) scv))))) H := hP
    have hD9 : va_D A (wObj d0 o (upd F 7 0) ++ (wCfg cy (o 0) bc (cpG G (cpG Gt Gv nv9) nv9) (nI nv9) scv ++ (wCfg cy (o 1) bt (cpG Gt Gv nv9) (nI nv9) scv ++ (wHis cy (o 3) rg ((x + 1) % 6) (hcnt kk) cs bs (va_up RG x (cpG (RG x) G n)) (va_up rn x n) (va_up RS x sc) ++ (wCfg cy (o 2) bv Gv (nI nv9) scv))))) := hD
    exact W.iret (v := nI nv9) hx hb hr (fun t ht hW => ⟨⟨nI nv9, (upd F 7 0, (cpG G (cpG Gt Gv nv9) nv9, nv9, scv), (cpG Gt Gv nv9, nv9, scv), ((x + 1) % 6, hcnt kk, va_up RG x (cpG (RG x) G n), va_up rn x n, va_up RS x sc)), rfl, ⟨c_4, rfl, rfl⟩, by rw [ht]; exact hP9, hD9⟩, hS.F ht⟩) hS.2.2 dX4_restore_39
  · obtain ⟨sa, hsa⟩ := hX.s 8 (k := 152) (t := "nothing was saved") rfl
    exact vx_throwS (names := ["java/lang/RuntimeException", "java/lang/Exception"]) hx hb hst hown (by decide +kernel) (by decide +kernel) (hts (.classLink RX4 62 "java/lang/IllegalStateException") (by decide +kernel)) (hts (.initialized "java/lang/IllegalStateException") (by decide +kernel)) hsa (vx_hat (fun w h => hts w (List.mem_cons_of_mem _ (List.mem_append_right _ h))) ng_ISE (vx_c (va_Nw.use rfl (hX.c 1 rfl)) (vx_c (va_Nw.use rfl (hX.d 0 rfl)) (vx_c (va_Nw.use rfl (hX.d 1 rfl)) (vx_c (va_Nw.use rfl (hX.d 2 rfl)) vx_n))))) ot_ISE hZ.1 hZ.2 hS (hl.1.trans hml.symm) dX4_restore_7 dX4_restore_10 dX4_restore_11 dX4_restore_13 dX4_restore_16 (fun x hx9 => (hnt x hx9).elim) (Nat.le_of_ble_eq_true rfl) (Nat.le_of_ble_eq_true rfl) (Nat.le_of_ble_eq_true rfl) (Nat.le_of_ble_eq_true rfl) hlocks (fun t hvm hz hk => ⟨(), trivial, ⟨⟨rfl, c_4⟩, hP.kept (fun k q h9 => hk q.1 ((hP k q h9).lt)), hD⟩, ⟨Nat.le_trans hS.1 hz, fun q h1 h2 => (hk q (Nat.lt_of_lt_of_le h1 hS.1)).trans (hS.2.1 q h1 h2)⟩⟩) hS.2.2 (Nat.le_of_ble_eq_true rfl) (Nat.le_of_ble_eq_true rfl)

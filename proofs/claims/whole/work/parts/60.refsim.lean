/-! PART 60: the reference's simulation: words, and its smaller steps. Rows 24 .. 27 of R: task, release, ran, needs of each job; I 28 their number, 29 mode, 30 drawn, 31 late -/
abbrev MSt : Type := (Nat → Int32) × vG
def shf (f : Nat → Int32) (j m : Nat) : Nat → Int32 := fun x => if j ≤ x ∧ x < m then f (x + 1) else f x
theorem shf_0 (f : Nat → Int32) (j : Nat) : shf f j j = f := by funext x; simp only [shf]; rw [if_neg (by omega)]
theorem shf_s (f : Nat → Int32) (j m : Nat) (h : j ≤ m) : upd (shf f j m) m (shf f j m (m + 1)) = shf f j (m + 1) := by
  funext x
  simp only [upd, shf]
  by_cases e : x = m
  · subst e
    rw [if_pos rfl, if_neg (by omega), if_pos (by omega)]
  · rw [if_neg e]
    by_cases h1 : j ≤ x ∧ x < m
    · rw [if_pos h1, if_pos (by omega)]
    · rw [if_neg h1, if_neg (by omega)]
/-- without job j, m jobs being left -/
def jShf (R : vG) (j m : Nat) : vG := upr (upr (upr (upr R 24 (shf (R 24) j m)) 25 (shf (R 25) j m)) 26 (shf (R 26) j m)) 27 (shf (R 27) j m)
def jAdd (R : vG) (m : Nat) (a b c d : Int32) : vG := upr (upr (upr (upr R 24 (upd (R 24) m a)) 25 (upd (R 25) m b)) 26 (upd (R 26) m c)) 27 (upd (R 27) m d)
def fgt (j : Nat) (s : MSt) : MSt := (upd s.1 28 (s.1 28 - 1), jShf s.2 j (s.1 28 - 1).toNatClampNeg)
/-- the effective deadline of job j -/
def djl (I : Nat → Int32) (R : vG) (j : Nat) : Int32 := R 25 j + (if I 29 = 1 then Gs (R 1) 1 (R 24 j).toNatClampNeg else vdl (Gs (R 1)) (R 1 1) (R 24 j).toNatClampNeg)
/-- the job that runs, of the first j + 1 -/
def ear (d t : Nat → Int32) : Nat → Nat
  | 0 => 0
  | j + 1 => if d (j + 1) - d (ear d t j) < 0 ∨ (d (j + 1) - d (ear d t j) = 0 ∧ t (j + 1) < t (ear d t j)) then j + 1 else ear d t j
theorem ear_le (d t : Nat → Int32) : ∀ j, ear d t j ≤ j := by
  intro j
  induction j with
  | zero => exact Nat.le_refl 0
  | succ j ih => simp only [ear]; split <;> omega
def rnd (G : vG) (i : Nat) (I : Nat → Int32) (ov : Int32) : Int32 := if G 3 i ≤ 0 then G 2 i else if ovr (drw (I 30)) ov then G 3 i else G 2 i
def drI (G : vG) (i : Nat) (I : Nat → Int32) : Nat → Int32 := if G 3 i ≤ 0 then I else upd I 30 (drw (I 30))
def rAdd (i u : Nat) (ov : Int32) (s : MSt) : MSt := (drI (Gs (s.2 1)) i (upd s.1 28 (s.1 28 + 1)), jAdd s.2 (s.1 28).toNatClampNeg (nI i) (nI u) 0 (rnd (Gs (s.2 1)) i s.1 ov))
def rls1R (u : Nat) (ov : Int32) (i : Nat) (s : MSt) : MSt := if nI u - nI u / per (Gs (s.2 1)) i * per (Gs (s.2 1)) i = 0 then (if s.1 29 = 1 ∧ Gs (s.2 1) 3 i ≤ 0 then (upd s.1 16 (s.1 16 + 1), s.2) else rAdd i u ov s) else s
def rlsR (u : Nat) (ov : Int32) : Nat → Nat → MSt → MSt
  | 0, _, s => s
  | j + 1, i, s => rlsR u ov j (i + 1) (rls1R u ov i s)
def endR (j : Nat) (tm hz : Int32) (s : MSt) : MSt :=
  (upd (upd (upd s.1 15 (s.1 15 + 1)) 28 (s.1 28 - 1)) 31 (s.1 31 + (if tm - s.2 25 j ≤ Gs (s.2 1) 1 (s.2 24 j).toNatClampNeg then 0 else if hz < s.2 25 j + Gs (s.2 1) 1 (s.2 24 j).toNatClampNeg then 0 else 1)),
   jShf (upr s.2 19 (upd (s.2 19) (s.2 24 j).toNatClampNeg (if tm - s.2 25 j ≤ s.2 19 (s.2 24 j).toNatClampNeg then s.2 19 (s.2 24 j).toNatClampNeg else tm - s.2 25 j))) j (s.1 28 - 1).toNatClampNeg)
/-- the jobs below q lose those of tasks that aren't critical -/
def bhR : Nat → MSt → MSt
  | 0, s => s
  | q + 1, s => bhR q (if Gs (s.2 1) 3 (s.2 24 q).toNatClampNeg ≤ 0 then fgt q (upd s.1 16 (s.1 16 + 1), s.2) else s)
def becH (s : MSt) : MSt := bhR (s.1 28).toNatClampNeg (upd (upd s.1 17 (s.1 17 + 1)) 29 1, s.2)
def jm (q : Nat) : Int32 := nI q - 1
theorem jm_s (q : Nat) : jm (q + 1) = nI q := nI_pred q
theorem jm_dec (q : Nat) : nI q + Int32.ofInt (-1) = jm q := by
  rw [show Int32.ofInt (-1) = (-1 : Int32) from by decide, jm]
  exact (Int32.sub_eq_add_neg (nI q) 1).symm
theorem jm_0 : jm 0 < 0 := by decide
def ran1 (e : Nat) (R : vG) : vG := upr R 26 (upd (R 26) e (R 26 e + 1))
def runR1 (u : Nat) (hz : Int32) (e : Nat) (s : MSt) : MSt :=
  if s.2 26 e + 1 = s.2 27 e then endR e (nI u + 1) hz (s.1, ran1 e s.2)
  else if s.1 29 = 0 ∧ ¬ Gs (s.2 1) 3 (s.2 24 e).toNatClampNeg ≤ 0 ∧ s.2 26 e + 1 = Gs (s.2 1) 2 (s.2 24 e).toNatClampNeg then becH (s.1, ran1 e s.2)
  else (s.1, ran1 e s.2)
def earS (s : MSt) : Nat := ear (djl s.1 s.2) (s.2 24) (s.1 28 - 1).toNatClampNeg
def runR (u : Nat) (hz : Int32) (s : MSt) : MSt := if s.1 28 = 0 then (upd s.1 18 (s.1 18 + 1), s.2) else runR1 u hz (earS s) s
theorem cm1 {I : Nat → Int32} {m : Nat} (h : I 28 = nI (m + 1)) (hm : m < 2000) : (I 28 - 1).toNatClampNeg = m := by rw [h, nI_pred, nI_clamp (by omega)]
theorem upd_comm (f : Nat → Int32) (j k : Nat) (x y : Int32) (h : j ≠ k) : upd (upd f j x) k y = upd (upd f k y) j x := by
  funext i
  simp only [upd]
  by_cases a : i = k
  · subst a; rw [if_pos rfl, if_neg (fun q => h q.symm), if_pos rfl]
  · rw [if_neg a, if_neg a]
set_option maxHeartbeats 1000000 in
set_option maxRecDepth 100000 in
/-- the effective deadline of a job -/
theorem c_X5_deadlineOf (l : Launch) (dC : Nat → ClassId) (dI : Nat → Nat → Nat) (cy : Nat → ClassId) (m0 : Nat) (a : Nat → Nat) (I : Nat → Int32) (R : vG) (j : Nat) (hj : j < 1700) (tj : Nat) (ht8 : tj < 8) (hok : okT (Gs (R 1)) tj) (eT : R 24 j = nI tj) : Met l yX5_deadlineOf wsX5_deadlineOf ({ frames := 2, cells := 0, slots := 0, locals := 43 }) (va_Pc [.ref m0, .int (nI j)] (fun U => va_P (dC, dI) vwCl (wMdl cy m0 a I R) U.heap ∧ EV dC dI cy U)) (vp_Si (fun r => r = djl I R j)) 0 0 (fun _ => False) := by
  refine Met.ofW (cc := cX5_deadlineOf) (maxL := 2) (ret := some .int) (by decide) rfl ?_
  intro p e s m args below meth c s₁ B hml hv
  obtain ⟨rfl, hP, hE⟩ := hv
  have hK := hE.1
  have hx := B.exec
  have hb := B.bytes
  have hr := B.returns
  have hts := atoms_spec (ws := wsX5_deadlineOf) B.pre
  have hown : s.vm.findClass RX5 = some m.cls := findClass_of_methodNamed B.named
  have hlocks := B.notSynchronized
  have hin5 : ∀ w ∈ u_ws RX5 TX5 32, w ∈ wsX5_deadlineOf := by decide +kernel
  have f_184 := hts (.fieldLink RX5 184 "DeadlineAdmissionModel" "mode" "I") (by decide +kernel)
  have f_38 := hts (.fieldLink RX5 38 "DeadlineAdmissionModel" "jobTask" "[I") (by decide +kernel)
  have f_41 := hts (.fieldLink RX5 41 "DeadlineAdmissionModel" "jobRelease" "[I") (by decide +kernel)
  have f_9 := hts (.fieldLink RX5 9 "DeadlineAdmissionModel" "s" "[I") (by decide +kernel)
  have hl := lv_entry ([.ref m0, .int (nI j)]) (n := 2) (Nat.le_of_ble_eq_true rfl)
  rw [lg_entry_eq]
  generalize (lg_sl ([.ref m0, .int (nI j)]) ++ List.replicate (2 - (lg_sl ([.ref m0, .int (nI j)])).length) Slot.unset).toArray = ls at hl ⊢
  have hl : lv_has ls 2 [(0, .ref m0), (1, .int (nI j))] := hl
  refine lv_aload_n hx hb dX5_deadlineOf_0 rfl (lv_at hl 0 rfl) ?_
  refine va_get (D := (dC, dI)) (ci := 5) (v := .ref (a 25)) (C := RX5) (T := TX5) (N := 32) hx hb hts hin5 hown hK hP 0 rfl rfl 25 (by decide) f_41 (fun _ h9 => h9) rfl dX5_deadlineOf_1 ?_
  refine lv_iload_n hx hb dX5_deadlineOf_4 rfl (lv_at hl 1 rfl) ?_
  refine wI_alv (v := R 25 j) hx hb hK hP 10 0 rfl rfl j rfl (by omega) (by decide) rfl dX5_deadlineOf_5 ?_
  refine lv_aload_n hx hb dX5_deadlineOf_6 rfl (lv_at hl 0 rfl) ?_
  refine va_get (D := (dC, dI)) (ci := 5) (v := .int (I 29)) (C := RX5) (T := TX5) (N := 32) hx hb hts hin5 hown hK hP 0 rfl rfl 29 (by decide) f_184 (fun _ h9 => h9) rfl dX5_deadlineOf_7 ?_
  refine lv_iconst (v := 1) hx hb dX5_deadlineOf_10 (by decide) ?_
  refine lv_icmp_ne (tgt := 31) hx hb dX5_deadlineOf_11 (by decide) (fun c_11 => ?_) (fun c_11 => ?_)
  · refine lv_aload_n hx hb dX5_deadlineOf_31 rfl (lv_at hl 0 rfl) ?_
    refine lv_aload_n hx hb dX5_deadlineOf_32 rfl (lv_at hl 0 rfl) ?_
    refine va_get (D := (dC, dI)) (ci := 5) (v := .ref (a 24)) (C := RX5) (T := TX5) (N := 32) hx hb hts hin5 hown hK hP 0 rfl rfl 24 (by decide) f_38 (fun _ h9 => h9) rfl dX5_deadlineOf_33 ?_
    refine lv_iload_n hx hb dX5_deadlineOf_36 rfl (lv_at hl 1 rfl) ?_
    refine wI_alv (v := nI tj) hx hb hK hP 9 0 rfl rfl j rfl (by omega) (by decide) eT dX5_deadlineOf_37 ?_
    refine vp_callSi (va_runV (As := [.int (nI tj)]) (rest := [.int (R 25 j)]) ⟨hx, hb, hml, hown, hts⟩ (c_X5_virtualOf l dC dI cy m0 a I R  tj (by omega) hok) (cwV 1 hts gX5_deadlineOf_X5_virtualOf rfl rfl rfl (by decide +kernel) ⟨Nat.le_of_ble_eq_true rfl, Nat.le_of_ble_eq_true rfl⟩) ⟨bl_ro, va_recv hK hP (ci := 5) (q0 := 0) rfl rfl, pr_ro hP hE⟩ rfl rfl hl.1 rfl (lv_room (Nat.le_of_ble_eq_true rfl)) dX5_deadlineOf_38 ⟨Nat.le_of_ble_eq_true rfl, Nat.le_of_ble_eq_true rfl⟩).run (fun r e_r => ?_)
    subst e_r
    refine lv_iadd hx hb dX5_deadlineOf_41 ?_
    exact W.iret (v := (R 25 j) + (vdl (Gs (R 1)) ((R 1) 1) tj)) hx hb hr (fun t ht hW => ⟨_, rfl, (by rw [djl, eT, nI_clamp (by omega), if_neg c_11]), ht⟩) (fun q hq => absurd hq List.not_mem_nil) dX5_deadlineOf_42
  · refine lv_aload_n hx hb dX5_deadlineOf_14 rfl (lv_at hl 0 rfl) ?_
    refine va_get (D := (dC, dI)) (ci := 5) (v := .ref (a 1)) (C := RX5) (T := TX5) (N := 32) hx hb hts hin5 hown hK hP 0 rfl rfl 1 (by decide) f_9 (fun _ h9 => h9) rfl dX5_deadlineOf_15 ?_
    refine lv_bipush (v := 10) hx hb dX5_deadlineOf_18 (by decide) ?_
    refine lv_aload_n hx hb dX5_deadlineOf_20 rfl (lv_at hl 0 rfl) ?_
    refine va_get (D := (dC, dI)) (ci := 5) (v := .ref (a 24)) (C := RX5) (T := TX5) (N := 32) hx hb hts hin5 hown hK hP 0 rfl rfl 24 (by decide) f_38 (fun _ h9 => h9) rfl dX5_deadlineOf_21 ?_
    refine lv_iload_n hx hb dX5_deadlineOf_24 rfl (lv_at hl 1 rfl) ?_
    refine wI_alv (v := nI tj) hx hb hK hP 9 0 rfl rfl j rfl (by omega) (by decide) eT dX5_deadlineOf_25 ?_
    refine lv_iadd hx hb dX5_deadlineOf_26 ?_
    refine wI_alv (v := Gs (R 1) 1 tj) hx hb hK hP 1 0 rfl rfl (10 + tj) (nadd rfl rfl) (by omega) (by decide) rfl dX5_deadlineOf_27 ?_
    refine lv_goto (tgt := 41) hx hb dX5_deadlineOf_28 (by decide) ?_
    refine lv_iadd hx hb dX5_deadlineOf_41 ?_
    exact W.iret (v := (R 25 j) + (Gs (R 1) 1 tj)) hx hb hr (fun t ht hW => ⟨_, rfl, (by rw [djl, eT, nI_clamp (by omega), if_pos c_11]), ht⟩) (fun q hq => absurd hq List.not_mem_nil) dX5_deadlineOf_42
set_option maxHeartbeats 1000000 in
set_option maxRecDepth 100000 in
/-- the job that runs -/
theorem c_X5_earliest (l : Launch) (dC : Nat → ClassId) (dI : Nat → Nat → Nat) (cy : Nat → ClassId) (m0 : Nat) (a : Nat → Nat) (I : Nat → Int32) (R : vG) (n : Nat) (hn : n ≤ 8) (hS0 : R 1 0 = nI n) (hG : okG (Gs (R 1)) n) (mj : Nat) (hm : mj < 1700) (hI28 : I 28 = nI (mj + 1)) (hJ : ∀ y, y < mj + 1 → ∃ tj, tj < n ∧ R 24 y = nI tj) : Met l yX5_earliest wsX5_earliest ({ frames := 3, cells := 0, slots := 0, locals := 64 }) (va_Pc [.ref m0] (fun U => va_P (dC, dI) vwCl (wMdl cy m0 a I R) U.heap ∧ EV dC dI cy U)) (vp_Si (fun r => r = nI (ear (djl I R) (R 24) mj))) 0 0 (fun _ => False) := by
  refine Met.ofW (cc := cX5_earliest) (maxL := 4) (ret := some .int) (by decide) rfl ?_
  intro p e s m args below meth c s₁ B hml hv
  obtain ⟨rfl, hP, hE⟩ := hv
  have hK := hE.1
  have hx := B.exec
  have hb := B.bytes
  have hr := B.returns
  have hts := atoms_spec (ws := wsX5_earliest) B.pre
  have hown : s.vm.findClass RX5 = some m.cls := findClass_of_methodNamed B.named
  have hlocks := B.notSynchronized
  have hin5 : ∀ w ∈ u_ws RX5 TX5 32, w ∈ wsX5_earliest := by decide +kernel
  have f_194 := hts (.fieldLink RX5 194 "DeadlineAdmissionModel" "jobs" "I") (by decide +kernel)
  have f_38 := hts (.fieldLink RX5 38 "DeadlineAdmissionModel" "jobTask" "[I") (by decide +kernel)
  have hl := lv_entry ([.ref m0]) (n := 4) (Nat.le_of_ble_eq_true rfl)
  rw [lg_entry_eq]
  generalize (lg_sl ([.ref m0]) ++ List.replicate (4 - (lg_sl ([.ref m0])).length) Slot.unset).toArray = ls at hl ⊢
  have hl : lv_has ls 4 [(0, .ref m0)] := hl
  refine lv_iconst (v := 0) hx hb dX5_earliest_0 (by decide) ?_
  refine lv_istore_n (lv' := [(1, .int 0), (0, .ref m0)]) hx hb dX5_earliest_1 rfl hl (by decide) rfl (fun ls hl => ?_)
  refine lv_iconst (v := 1) hx hb dX5_earliest_2 (by decide) ?_
  refine lv_istore_n (lv' := [(2, .int 1), (1, .int 0), (0, .ref m0)]) hx hb dX5_earliest_3 rfl hl (by decide) rfl (fun ls hl => ?_)
  have loop4 : ∀ (k : Nat) (x : Nat) (f : Nat) (ls : Array Slot), x ≤ mj → f ≤ x → mj < x + k → f = ear (djl I R) (R 24) x → lv_has ls 4 [(0, .ref m0), (1, .int (nI f)), (2, .int (nI (x + 1)))] → W p l e (headSpec wsX5_earliest ({ frames := 3, cells := 0, slots := 0, locals := 64 }) |>.room) s m (([.ref m0].toArray)) below meth c s.heap [] 0 0 (MQ below (vp_Si (fun r => r = nI (ear (djl I R) (R 24) mj))) ([.ref m0].toArray) s 0 0 (fun _ => False)) (F0 m 4 ls []) := by
    intro k
    induction k with
    | zero =>
      intro x f ls hx9 hf hk ef
      exfalso; omega
    | succ k ih4 =>
      intro x f ls hx9 hf hk ef hl
      refine lv_iload_n hx hb dX5_earliest_4 rfl (lv_at hl 2 rfl) ?_
      refine lv_aload_n hx hb dX5_earliest_5 rfl (lv_at hl 0 rfl) ?_
      refine va_get (D := (dC, dI)) (ci := 5) (v := .int (I 28)) (C := RX5) (T := TX5) (N := 32) hx hb hts hin5 hown hK hP 0 rfl rfl 28 (by decide) f_194 (fun _ h9 => h9) rfl dX5_earliest_6 ?_
      refine lv_icmp_ge (tgt := 59) hx hb dX5_earliest_9 (by decide) (fun c_9 => ?_) (fun c_9 => ?_)
      · have e_x : x = mj := by rw [hI28] at c_9; have := (nI_leI (a := mj + 1) (b := x + 1) (by omega) (by omega)).mp c_9; omega
        refine lv_iload_n hx hb dX5_earliest_59 rfl (lv_at hl 1 rfl) ?_
        exact W.iret (v := nI f) hx hb hr (fun t ht hW => ⟨_, rfl, (by rw [ef, e_x]), ht⟩) (fun q hq => absurd hq List.not_mem_nil) dX5_earliest_60
      · have hlt : x < mj := by rw [hI28] at c_9; have h : ¬ (mj + 1 ≤ x + 1) := fun h => c_9 (nI_le h (by omega)); omega
        obtain ⟨tf, htf, ef9⟩ := hJ f (by omega)
        obtain ⟨tx, htx, ex9⟩ := hJ (x + 1) (by omega)
        have okf := hG tf htf
        have okx := hG tx htx
        refine lv_aload_n hx hb dX5_earliest_12 rfl (lv_at hl 0 rfl) ?_
        refine lv_iload_n hx hb dX5_earliest_13 rfl (lv_at hl 2 rfl) ?_
        refine vp_callSi (va_runV (As := [.int (nI (x + 1))]) (rest := []) ⟨hx, hb, hml, hown, hts⟩ (c_X5_deadlineOf l dC dI cy m0 a I R (x + 1) (by omega) tx (by omega) okx ex9) (cwV 1 hts gX5_earliest_X5_deadlineOf rfl rfl rfl (by decide +kernel) ⟨Nat.le_of_ble_eq_true rfl, Nat.le_of_ble_eq_true rfl⟩) ⟨bl_ro, va_recv hK hP (ci := 5) (q0 := 0) rfl rfl, pr_ro hP hE⟩ rfl rfl hl.1 rfl (lv_room (Nat.le_of_ble_eq_true rfl)) dX5_earliest_14 ⟨Nat.le_of_ble_eq_true rfl, Nat.le_of_ble_eq_true rfl⟩).run (fun r e_r => ?_)
        subst e_r
        refine lv_aload_n hx hb dX5_earliest_17 rfl (lv_at hl 0 rfl) ?_
        refine lv_iload_n hx hb dX5_earliest_18 rfl (lv_at hl 1 rfl) ?_
        refine vp_callSi (va_runV (As := [.int (nI f)]) (rest := [.int (djl I R (x + 1))]) ⟨hx, hb, hml, hown, hts⟩ (c_X5_deadlineOf l dC dI cy m0 a I R f (by omega) tf (by omega) okf ef9) (cwV 1 hts gX5_earliest_X5_deadlineOf rfl rfl rfl (by decide +kernel) ⟨Nat.le_of_ble_eq_true rfl, Nat.le_of_ble_eq_true rfl⟩) ⟨bl_ro, va_recv hK hP (ci := 5) (q0 := 0) rfl rfl, pr_ro hP hE⟩ rfl rfl hl.1 rfl (lv_room (Nat.le_of_ble_eq_true rfl)) dX5_earliest_19 ⟨Nat.le_of_ble_eq_true rfl, Nat.le_of_ble_eq_true rfl⟩).run (fun r e_r => ?_)
        subst e_r
        refine lv_isub hx hb dX5_earliest_22 ?_
        refine lv_istore_n (lv' := [(3, .int ((djl I R (x + 1)) - (djl I R f))), (0, .ref m0), (1, .int (nI f)), (2, .int (nI (x + 1)))]) hx hb dX5_earliest_23 rfl hl (by decide) rfl (fun ls hl => ?_)
        refine lv_iload_n hx hb dX5_earliest_24 rfl (lv_at hl 0 rfl) ?_
        refine lv_if_lt (tgt := 47) hx hb dX5_earliest_25 (by decide) (fun c_25 => ?_) (fun c_25 => ?_)
        · refine lv_iload_n hx hb dX5_earliest_47 rfl (lv_at hl 3 rfl) ?_
          refine lv_goto (tgt := 52) hx hb dX5_earliest_48 (by decide) ?_
          refine lv_istore_n (lv' := [(1, .int (nI (x + 1))), (3, .int ((djl I R (x + 1)) - (djl I R f))), (0, .ref m0), (2, .int (nI (x + 1)))]) hx hb dX5_earliest_52 rfl hl (by decide) rfl (fun ls hl => ?_)
          refine lv_iinc (v := nI ((x + 1) + 1)) (lv' := [(2, .int (nI ((x + 1) + 1))), (1, .int (nI (x + 1))), (3, .int ((djl I R (x + 1)) - (djl I R f))), (0, .ref m0)]) hx hb dX5_earliest_53 hl (k := 3) rfl (nI_1 _) (by decide) rfl (fun ls hl => ?_)
          refine lv_goto (tgt := 4) hx hb dX5_earliest_56 (by decide) ?_
          exact ih4 (x + 1) _ ls (by omega) (by omega) (by omega) (by rw [ear, ← ef, if_pos (Or.inl c_25)]) (lv_sub hl [3, 1, 0] rfl)
        · refine lv_iload_n hx hb dX5_earliest_28 rfl (lv_at hl 0 rfl) ?_
          refine lv_if_ne (tgt := 51) hx hb dX5_earliest_29 (by decide) (fun c_29 => ?_) (fun c_29 => ?_)
          · refine lv_iload_n hx hb dX5_earliest_51 rfl (lv_at hl 2 rfl) ?_
            refine lv_istore_n (lv' := [(1, .int (nI f)), (3, .int ((djl I R (x + 1)) - (djl I R f))), (0, .ref m0), (2, .int (nI (x + 1)))]) hx hb dX5_earliest_52 rfl hl (by decide) rfl (fun ls hl => ?_)
            refine lv_iinc (v := nI ((x + 1) + 1)) (lv' := [(2, .int (nI ((x + 1) + 1))), (1, .int (nI f)), (3, .int ((djl I R (x + 1)) - (djl I R f))), (0, .ref m0)]) hx hb dX5_earliest_53 hl (k := 3) rfl (nI_1 _) (by decide) rfl (fun ls hl => ?_)
            refine lv_goto (tgt := 4) hx hb dX5_earliest_56 (by decide) ?_
            exact ih4 (x + 1) _ ls (by omega) (by omega) (by omega) (by rw [ear, ← ef, if_neg (fun h => h.elim c_25 (fun h => c_29 h.1))]) (lv_sub hl [3, 1, 0] rfl)
          · refine lv_aload_n hx hb dX5_earliest_32 rfl (lv_at hl 1 rfl) ?_
            refine va_get (D := (dC, dI)) (ci := 5) (v := .ref (a 24)) (C := RX5) (T := TX5) (N := 32) hx hb hts hin5 hown hK hP 0 rfl rfl 24 (by decide) f_38 (fun _ h9 => h9) rfl dX5_earliest_33 ?_
            refine lv_iload_n hx hb dX5_earliest_36 rfl (lv_at hl 3 rfl) ?_
            refine wI_alv (v := R 24 (x + 1)) hx hb hK hP 9 0 rfl rfl (x + 1) rfl (by omega) (by decide) rfl dX5_earliest_37 ?_
            refine lv_aload_n hx hb dX5_earliest_38 rfl (lv_at hl 1 rfl) ?_
            refine va_get (D := (dC, dI)) (ci := 5) (v := .ref (a 24)) (C := RX5) (T := TX5) (N := 32) hx hb hts hin5 hown hK hP 0 rfl rfl 24 (by decide) f_38 (fun _ h9 => h9) rfl dX5_earliest_39 ?_
            refine lv_iload_n hx hb dX5_earliest_42 rfl (lv_at hl 2 rfl) ?_
            refine wI_alv (v := R 24 f) hx hb hK hP 9 0 rfl rfl f rfl (by omega) (by decide) rfl dX5_earliest_43 ?_
            refine lv_icmp_ge (tgt := 51) hx hb dX5_earliest_44 (by decide) (fun c_44 => ?_) (fun c_44 => ?_)
            · refine lv_iload_n hx hb dX5_earliest_51 rfl (lv_at hl 2 rfl) ?_
              refine lv_istore_n (lv' := [(1, .int (nI f)), (3, .int ((djl I R (x + 1)) - (djl I R f))), (0, .ref m0), (2, .int (nI (x + 1)))]) hx hb dX5_earliest_52 rfl hl (by decide) rfl (fun ls hl => ?_)
              refine lv_iinc (v := nI ((x + 1) + 1)) (lv' := [(2, .int (nI ((x + 1) + 1))), (1, .int (nI f)), (3, .int ((djl I R (x + 1)) - (djl I R f))), (0, .ref m0)]) hx hb dX5_earliest_53 hl (k := 3) rfl (nI_1 _) (by decide) rfl (fun ls hl => ?_)
              refine lv_goto (tgt := 4) hx hb dX5_earliest_56 (by decide) ?_
              exact ih4 (x + 1) _ ls (by omega) (by omega) (by omega) (by rw [ear, ← ef, if_neg (fun h => h.elim c_25 (fun h => Int32.not_lt.mpr c_44 h.2))]) (lv_sub hl [3, 1, 0] rfl)
            · refine lv_iload_n hx hb dX5_earliest_47 rfl (lv_at hl 3 rfl) ?_
              refine lv_goto (tgt := 52) hx hb dX5_earliest_48 (by decide) ?_
              refine lv_istore_n (lv' := [(1, .int (nI (x + 1))), (3, .int ((djl I R (x + 1)) - (djl I R f))), (0, .ref m0), (2, .int (nI (x + 1)))]) hx hb dX5_earliest_52 rfl hl (by decide) rfl (fun ls hl => ?_)
              refine lv_iinc (v := nI ((x + 1) + 1)) (lv' := [(2, .int (nI ((x + 1) + 1))), (1, .int (nI (x + 1))), (3, .int ((djl I R (x + 1)) - (djl I R f))), (0, .ref m0)]) hx hb dX5_earliest_53 hl (k := 3) rfl (nI_1 _) (by decide) rfl (fun ls hl => ?_)
              refine lv_goto (tgt := 4) hx hb dX5_earliest_56 (by decide) ?_
              exact ih4 (x + 1) _ ls (by omega) (by omega) (by omega) (by rw [ear, ← ef, if_pos (Or.inr ⟨c_29, Int32.not_le.mp c_44⟩)]) (lv_sub hl [3, 1, 0] rfl)
  exact loop4 (mj + 1) 0 0 ls (Nat.zero_le _) (Nat.le_refl _) (by omega) rfl (lv_sub hl [2, 1, 0] rfl)
set_option maxHeartbeats 1000000 in
set_option maxRecDepth 100000 in
/-- a job is taken out -/
theorem c_X5_forgets (l : Launch) (dC : Nat → ClassId) (dI : Nat → Nat → Nat) (cy : Nat → ClassId) (sz : Nat) (m0 : Nat) (a : Nat → Nat) (I : Nat → Int32) (R : vG) (mj : Nat) (hm : mj < 1700) (hI28 : I 28 = nI (mj + 1)) (j : Nat) (hjm : j ≤ mj) : Met l yX5_forgets wsX5_forgets ({ frames := 0, cells := 0, slots := 0, locals := 0 }) (va_Pc [.ref m0, .int (nI j)] (pIn dC dI cy (wMdl cy m0 a I R) sz)) (va_Qv (fun (u : MSt) => u = fgt j (I, R)) (fun (u : (Nat → Int32) × vG) t => va_P (dC, dI) vwCl (wMdl cy m0 a u.1 u.2) t.heap ∧ va_D (va_A (wMdl cy m0 a I R) sz) (wMdl cy m0 a u.1 u.2)) (va_A (wMdl cy m0 a I R) sz)) 0 0 (va_A (wMdl cy m0 a I R) sz) := by
  refine Met.ofW (cc := cX5_forgets) (maxL := 3) (ret := none) (by decide) rfl ?_
  intro p e s m args below meth c s₁ B hml hv
  obtain ⟨rfl, hsz, hP, hE, hD0⟩ := hv
  have hK := hE.1
  subst hsz
  have hD := hD0.self (sz := s.heap.size)
  generalize hAe : va_A (wMdl cy m0 a I R) s.heap.size = A at hD ⊢
  have hA : ∀ q : Nat, s.heap.size ≤ q → A q := fun q h => by rw [← hAe]; exact Or.inr h
  have hS : va_S A s.heap s.heap [] := va_S.rf
  have hP : va_P (dC, dI) vwCl (wMdl cy m0 a I R) s.heap := hP
  have hx := B.exec
  have hb := B.bytes
  have hr := B.returns
  have hts := atoms_spec (ws := wsX5_forgets) B.pre
  have hown : s.vm.findClass RX5 = some m.cls := findClass_of_methodNamed B.named
  have hlocks := B.notSynchronized
  have hin5 : ∀ w ∈ u_ws RX5 TX5 32, w ∈ wsX5_forgets := by decide +kernel
  have f_194 := hts (.fieldLink RX5 194 "DeadlineAdmissionModel" "jobs" "I") (by decide +kernel)
  have f_38 := hts (.fieldLink RX5 38 "DeadlineAdmissionModel" "jobTask" "[I") (by decide +kernel)
  have f_41 := hts (.fieldLink RX5 41 "DeadlineAdmissionModel" "jobRelease" "[I") (by decide +kernel)
  have f_44 := hts (.fieldLink RX5 44 "DeadlineAdmissionModel" "jobRan" "[I") (by decide +kernel)
  have f_47 := hts (.fieldLink RX5 47 "DeadlineAdmissionModel" "jobNeeds" "[I") (by decide +kernel)
  have hl := lv_entry ([.ref m0, .int (nI j)]) (n := 3) (Nat.le_of_ble_eq_true rfl)
  rw [lg_entry_eq]
  generalize (lg_sl ([.ref m0, .int (nI j)]) ++ List.replicate (3 - (lg_sl ([.ref m0, .int (nI j)])).length) Slot.unset).toArray = ls at hl ⊢
  have hl : lv_has ls 3 [(0, .ref m0), (1, .int (nI j))] := hl
  refine lv_iload_n hx hb dX5_forgets_0 rfl (lv_at hl 1 rfl) ?_
  refine lv_istore_n (lv' := [(2, .int (nI j)), (0, .ref m0), (1, .int (nI j))]) hx hb dX5_forgets_1 rfl hl (by decide) rfl (fun ls hl => ?_)
  have loop2 : ∀ (k : Nat) (q : Nat) (ls : Array Slot), q ≤ mj → j ≤ q → mj < q + k → ∀ (H : Heap) (locs : List Loc), va_P (dC, dI) vwCl (wMdl cy m0 a I (upr (upr (upr (upr R 24 (shf (R 24) j q)) 25 (shf (R 25) j q)) 26 (shf (R 26) j q)) 27 (shf (R 27) j q))) H → va_D A (wMdl cy m0 a I (upr (upr (upr (upr R 24 (shf (R 24) j q)) 25 (shf (R 25) j q)) 26 (shf (R 26) j q)) 27 (shf (R 27) j q))) → va_S A s.heap H locs → lv_has ls 3 [(0, .ref m0), (1, .int (nI j)), (2, .int (nI q))] → W p l e (headSpec wsX5_forgets ({ frames := 0, cells := 0, slots := 0, locals := 0 }) |>.room) s m (([.ref m0, .int (nI j)].toArray)) below meth c H locs 0 0 (MQ below (va_Qv (fun (u : MSt) => u = fgt j (I, R)) (fun (u : (Nat → Int32) × vG) t => va_P (dC, dI) vwCl (wMdl cy m0 a u.1 u.2) t.heap ∧ va_D (A) (wMdl cy m0 a u.1 u.2)) (A)) ([.ref m0, .int (nI j)].toArray) s 0 0 A) (F0 m 2 ls []) := by
    intro k
    induction k with
    | zero =>
      intro q ls hq hjq hk
      exfalso; omega
    | succ k ih2 =>
      intro q ls hq hjq hk H locs hP hD hS hl
      refine lv_iload_n hx hb dX5_forgets_2 rfl (lv_at hl 2 rfl) ?_
      refine lv_aload_n hx hb dX5_forgets_3 rfl (lv_at hl 0 rfl) ?_
      refine va_get (D := (dC, dI)) (ci := 5) (v := .int (I 28)) (C := RX5) (T := TX5) (N := 32) hx hb hts hin5 hown hK hP 0 rfl rfl 28 (by decide) f_194 (fun _ h9 => h9) rfl dX5_forgets_4 ?_
      refine lv_iconst (v := 1) hx hb dX5_forgets_7 (by decide) ?_
      refine lv_isub hx hb dX5_forgets_8 ?_
      refine lv_topi (fun y_ ey_ => ?_)
      obtain rfl : y_ = nI mj := ey_.trans (by rw [hI28]; exact nI_pred mj)
      refine lv_icmp_ge (tgt := 74) hx hb dX5_forgets_9 (by decide) (fun c_9 => ?_) (fun c_9 => ?_)
      · have e_q : q = mj := Nat.le_antisymm hq ((nI_leI (by omega) (by omega)).mp c_9)
        refine lv_aload_n hx hb dX5_forgets_74 rfl (lv_at hl 0 rfl) ?_
        refine lv_dup hx hb dX5_forgets_75 rfl ?_
        refine va_get (D := (dC, dI)) (ci := 5) (v := .int (I 28)) (C := RX5) (T := TX5) (N := 32) hx hb hts hin5 hown hK hP 0 rfl rfl 28 (by decide) f_194 (fun _ h9 => h9) rfl dX5_forgets_76 ?_
        refine lv_iconst (v := 1) hx hb dX5_forgets_79 (by decide) ?_
        refine lv_isub hx hb dX5_forgets_80 ?_
        refine va_put (D := (dC, dI)) (ci := 5) (v := .int ((I 28) - 1)) (ty := .int) (C := RX5) (T := TX5) (N := 32) hx hb hts hin5 tyX5 tyX5_ok nmX5 hown hK hP hD hS 0 rfl rfl 28 (by decide) f_194 (fun _ h9 => h9) rfl (by decide +kernel) rfl rfl (Nat.le_of_ble_eq_true rfl) dX5_forgets_81 (fun H locs hP hD hS => ?_)
        have hP : va_P (dC, dI) vwCl (wMdl cy m0 a (upd I 28 ((I 28) - 1)) (upr (upr (upr (upr R 24 (shf (R 24) j q)) 25 (shf (R 25) j q)) 26 (shf (R 26) j q)) 27 (shf (R 27) j q))) H := hP
        have hD : va_D A (wMdl cy m0 a (upd I 28 ((I 28) - 1)) (upr (upr (upr (upr R 24 (shf (R 24) j q)) 25 (shf (R 25) j q)) 26 (shf (R 26) j q)) 27 (shf (R 27) j q))) := hD
        have hP9 : va_P (dC, dI) vwCl (wMdl cy m0 a (fgt j (I, R)).1 (fgt j (I, R)).2) H := (by rw [e_q] at hP; simp only [fgt, cm1 hI28 (show mj < 2000 by omega)]; exact hP)
        have hD9 : va_D A (wMdl cy m0 a (fgt j (I, R)).1 (fgt j (I, R)).2) := (by rw [e_q] at hD; simp only [fgt, cm1 hI28 (show mj < 2000 by omega)]; exact hD)
        exact W.vret hx hb hr (fun t ht hW => ⟨⟨(fgt j (I, R)), rfl, rfl, by rw [ht]; exact hP9, hD9⟩, hS.F ht⟩) hS.2.2 dX5_forgets_84
      · have hlt : q < mj := Nat.lt_of_not_le (fun h => c_9 (nI_le h (by omega)))
        refine lv_aload_n hx hb dX5_forgets_12 rfl (lv_at hl 0 rfl) ?_
        refine va_get (D := (dC, dI)) (ci := 5) (v := .ref (a 24)) (C := RX5) (T := TX5) (N := 32) hx hb hts hin5 hown hK hP 0 rfl rfl 24 (by decide) f_38 (fun _ h9 => h9) rfl dX5_forgets_13 ?_
        refine lv_iload_n hx hb dX5_forgets_16 rfl (lv_at hl 2 rfl) ?_
        refine lv_aload_n hx hb dX5_forgets_17 rfl (lv_at hl 0 rfl) ?_
        refine va_get (D := (dC, dI)) (ci := 5) (v := .ref (a 24)) (C := RX5) (T := TX5) (N := 32) hx hb hts hin5 hown hK hP 0 rfl rfl 24 (by decide) f_38 (fun _ h9 => h9) rfl dX5_forgets_18 ?_
        refine lv_iload_n hx hb dX5_forgets_21 rfl (lv_at hl 2 rfl) ?_
        refine lv_iconst (v := 1) hx hb dX5_forgets_22 (by decide) ?_
        refine lv_iadd hx hb dX5_forgets_23 ?_
        refine wI_alv (v := (shf (R 24) j q) (q + 1)) hx hb hK hP 9 0 rfl rfl (q + 1) (nadd rfl rfl) (by omega) (by decide) rfl dX5_forgets_24 ?_
        refine wI_ast hx hb hK hP hD hS 9 0 rfl rfl q rfl (by omega) (by decide) dX5_forgets_25 (fun H locs hP hD hS => ?_)
        have hP : va_P (dC, dI) vwCl (wMdl cy m0 a I (upr (upr (upr (upr R 24 (upd (shf (R 24) j q) q ((shf (R 24) j q) (q + 1)))) 25 (shf (R 25) j q)) 26 (shf (R 26) j q)) 27 (shf (R 27) j q))) H := hP
        have hD : va_D A (wMdl cy m0 a I (upr (upr (upr (upr R 24 (upd (shf (R 24) j q) q ((shf (R 24) j q) (q + 1)))) 25 (shf (R 25) j q)) 26 (shf (R 26) j q)) 27 (shf (R 27) j q))) := hD
        refine lv_aload_n hx hb dX5_forgets_26 rfl (lv_at hl 0 rfl) ?_
        refine va_get (D := (dC, dI)) (ci := 5) (v := .ref (a 25)) (C := RX5) (T := TX5) (N := 32) hx hb hts hin5 hown hK hP 0 rfl rfl 25 (by decide) f_41 (fun _ h9 => h9) rfl dX5_forgets_27 ?_
        refine lv_iload_n hx hb dX5_forgets_30 rfl (lv_at hl 2 rfl) ?_
        refine lv_aload_n hx hb dX5_forgets_31 rfl (lv_at hl 0 rfl) ?_
        refine va_get (D := (dC, dI)) (ci := 5) (v := .ref (a 25)) (C := RX5) (T := TX5) (N := 32) hx hb hts hin5 hown hK hP 0 rfl rfl 25 (by decide) f_41 (fun _ h9 => h9) rfl dX5_forgets_32 ?_
        refine lv_iload_n hx hb dX5_forgets_35 rfl (lv_at hl 2 rfl) ?_
        refine lv_iconst (v := 1) hx hb dX5_forgets_36 (by decide) ?_
        refine lv_iadd hx hb dX5_forgets_37 ?_
        refine wI_alv (v := (shf (R 25) j q) (q + 1)) hx hb hK hP 10 0 rfl rfl (q + 1) (nadd rfl rfl) (by omega) (by decide) rfl dX5_forgets_38 ?_
        refine wI_ast hx hb hK hP hD hS 10 0 rfl rfl q rfl (by omega) (by decide) dX5_forgets_39 (fun H locs hP hD hS => ?_)
        have hP : va_P (dC, dI) vwCl (wMdl cy m0 a I (upr (upr (upr (upr R 24 (upd (shf (R 24) j q) q ((shf (R 24) j q) (q + 1)))) 25 (upd (shf (R 25) j q) q ((shf (R 25) j q) (q + 1)))) 26 (shf (R 26) j q)) 27 (shf (R 27) j q))) H := hP
        have hD : va_D A (wMdl cy m0 a I (upr (upr (upr (upr R 24 (upd (shf (R 24) j q) q ((shf (R 24) j q) (q + 1)))) 25 (upd (shf (R 25) j q) q ((shf (R 25) j q) (q + 1)))) 26 (shf (R 26) j q)) 27 (shf (R 27) j q))) := hD
        refine lv_aload_n hx hb dX5_forgets_40 rfl (lv_at hl 0 rfl) ?_
        refine va_get (D := (dC, dI)) (ci := 5) (v := .ref (a 26)) (C := RX5) (T := TX5) (N := 32) hx hb hts hin5 hown hK hP 0 rfl rfl 26 (by decide) f_44 (fun _ h9 => h9) rfl dX5_forgets_41 ?_
        refine lv_iload_n hx hb dX5_forgets_44 rfl (lv_at hl 2 rfl) ?_
        refine lv_aload_n hx hb dX5_forgets_45 rfl (lv_at hl 0 rfl) ?_
        refine va_get (D := (dC, dI)) (ci := 5) (v := .ref (a 26)) (C := RX5) (T := TX5) (N := 32) hx hb hts hin5 hown hK hP 0 rfl rfl 26 (by decide) f_44 (fun _ h9 => h9) rfl dX5_forgets_46 ?_
        refine lv_iload_n hx hb dX5_forgets_49 rfl (lv_at hl 2 rfl) ?_
        refine lv_iconst (v := 1) hx hb dX5_forgets_50 (by decide) ?_
        refine lv_iadd hx hb dX5_forgets_51 ?_
        refine wI_alv (v := (shf (R 26) j q) (q + 1)) hx hb hK hP 11 0 rfl rfl (q + 1) (nadd rfl rfl) (by omega) (by decide) rfl dX5_forgets_52 ?_
        refine wI_ast hx hb hK hP hD hS 11 0 rfl rfl q rfl (by omega) (by decide) dX5_forgets_53 (fun H locs hP hD hS => ?_)
        have hP : va_P (dC, dI) vwCl (wMdl cy m0 a I (upr (upr (upr (upr R 24 (upd (shf (R 24) j q) q ((shf (R 24) j q) (q + 1)))) 25 (upd (shf (R 25) j q) q ((shf (R 25) j q) (q + 1)))) 26 (upd (shf (R 26) j q) q ((shf (R 26) j q) (q + 1)))) 27 (shf (R 27) j q))) H := hP
        have hD : va_D A (wMdl cy m0 a I (upr (upr (upr (upr R 24 (upd (shf (R 24) j q) q ((shf (R 24) j q) (q + 1)))) 25 (upd (shf (R 25) j q) q ((shf (R 25) j q) (q + 1)))) 26 (upd (shf (R 26) j q) q ((shf (R 26) j q) (q + 1)))) 27 (shf (R 27) j q))) := hD
        refine lv_aload_n hx hb dX5_forgets_54 rfl (lv_at hl 0 rfl) ?_
        refine va_get (D := (dC, dI)) (ci := 5) (v := .ref (a 27)) (C := RX5) (T := TX5) (N := 32) hx hb hts hin5 hown hK hP 0 rfl rfl 27 (by decide) f_47 (fun _ h9 => h9) rfl dX5_forgets_55 ?_
        refine lv_iload_n hx hb dX5_forgets_58 rfl (lv_at hl 2 rfl) ?_
        refine lv_aload_n hx hb dX5_forgets_59 rfl (lv_at hl 0 rfl) ?_
        refine va_get (D := (dC, dI)) (ci := 5) (v := .ref (a 27)) (C := RX5) (T := TX5) (N := 32) hx hb hts hin5 hown hK hP 0 rfl rfl 27 (by decide) f_47 (fun _ h9 => h9) rfl dX5_forgets_60 ?_
        refine lv_iload_n hx hb dX5_forgets_63 rfl (lv_at hl 2 rfl) ?_
        refine lv_iconst (v := 1) hx hb dX5_forgets_64 (by decide) ?_
        refine lv_iadd hx hb dX5_forgets_65 ?_
        refine wI_alv (v := (shf (R 27) j q) (q + 1)) hx hb hK hP 12 0 rfl rfl (q + 1) (nadd rfl rfl) (by omega) (by decide) rfl dX5_forgets_66 ?_
        refine wI_ast hx hb hK hP hD hS 12 0 rfl rfl q rfl (by omega) (by decide) dX5_forgets_67 (fun H locs hP hD hS => ?_)
        have hP : va_P (dC, dI) vwCl (wMdl cy m0 a I (upr (upr (upr (upr R 24 (upd (shf (R 24) j q) q ((shf (R 24) j q) (q + 1)))) 25 (upd (shf (R 25) j q) q ((shf (R 25) j q) (q + 1)))) 26 (upd (shf (R 26) j q) q ((shf (R 26) j q) (q + 1)))) 27 (upd (shf (R 27) j q) q ((shf (R 27) j q) (q + 1))))) H := hP
        have hD : va_D A (wMdl cy m0 a I (upr (upr (upr (upr R 24 (upd (shf (R 24) j q) q ((shf (R 24) j q) (q + 1)))) 25 (upd (shf (R 25) j q) q ((shf (R 25) j q) (q + 1)))) 26 (upd (shf (R 26) j q) q ((shf (R 26) j q) (q + 1)))) 27 (upd (shf (R 27) j q) q ((shf (R 27) j q) (q + 1))))) := hD
        refine lv_iinc (v := nI (q + 1)) (lv' := [(2, .int (nI (q + 1))), (0, .ref m0), (1, .int (nI j))]) hx hb dX5_forgets_68 hl (k := 2) rfl (nI_1 _) (by decide) rfl (fun ls hl => ?_)
        refine lv_goto (tgt := 2) hx hb dX5_forgets_71 (by decide) ?_
        exact ih2 (q + 1) ls (by omega) (by omega) (by omega) _ _ (by rw [← shf_s (R 24) j q hjq, ← shf_s (R 25) j q hjq, ← shf_s (R 26) j q hjq, ← shf_s (R 27) j q hjq]; exact hP) (by rw [← shf_s (R 24) j q hjq, ← shf_s (R 25) j q hjq, ← shf_s (R 26) j q hjq, ← shf_s (R 27) j q hjq]; exact hD) hS (lv_sub hl [1, 2, 0] rfl)
  exact loop2 (mj + 1) j ls hjm (Nat.le_refl _) (by omega) _ _ (by rw [shf_0, shf_0, shf_0, shf_0]; exact hP) (by rw [shf_0, shf_0, shf_0, shf_0]; exact hD) hS (lv_sub hl [1, 2, 0] rfl)
set_option maxHeartbeats 1000000 in
set_option maxRecDepth 100000 in
/-- a job is added -/
theorem c_X5_adds (l : Launch) (dC : Nat → ClassId) (dI : Nat → Nat → Nat) (cy : Nat → ClassId) (sz : Nat) (m0 : Nat) (a : Nat → Nat) (I : Nat → Int32) (R : vG) (mj : Nat) (hm : mj < 1700) (hI28 : I 28 = nI mj) (i : Nat) (hi8 : i < 8) (v : Nat) (p2 : Int32) : Met l yX5_adds wsX5_adds ({ frames := 1, cells := 0, slots := 0, locals := 21 }) (va_Pc [.ref m0, .int (nI i), .int (nI v), .int p2] (pIn dC dI cy (wMdl cy m0 a I R) sz)) (va_Qv (fun (u : MSt) => u = rAdd i v p2 (I, R)) (fun (u : (Nat → Int32) × vG) t => va_P (dC, dI) vwCl (wMdl cy m0 a u.1 u.2) t.heap ∧ va_D (va_A (wMdl cy m0 a I R) sz) (wMdl cy m0 a u.1 u.2)) (va_A (wMdl cy m0 a I R) sz)) 0 0 (va_A (wMdl cy m0 a I R) sz) := by
  refine Met.ofW (cc := cX5_adds) (maxL := 4) (ret := none) (by decide) rfl ?_
  intro p e s m args below meth c s₁ B hml hv
  obtain ⟨rfl, hsz, hP, hE, hD0⟩ := hv
  have hK := hE.1
  subst hsz
  have hD := hD0.self (sz := s.heap.size)
  generalize hAe : va_A (wMdl cy m0 a I R) s.heap.size = A at hD ⊢
  have hA : ∀ q : Nat, s.heap.size ≤ q → A q := fun q h => by rw [← hAe]; exact Or.inr h
  have hS : va_S A s.heap s.heap [] := va_S.rf
  have hP : va_P (dC, dI) vwCl (wMdl cy m0 a I R) s.heap := hP
  have hx := B.exec
  have hb := B.bytes
  have hr := B.returns
  have hts := atoms_spec (ws := wsX5_adds) B.pre
  have hown : s.vm.findClass RX5 = some m.cls := findClass_of_methodNamed B.named
  have hlocks := B.notSynchronized
  have hin5 : ∀ w ∈ u_ws RX5 TX5 32, w ∈ wsX5_adds := by decide +kernel
  have f_194 := hts (.fieldLink RX5 194 "DeadlineAdmissionModel" "jobs" "I") (by decide +kernel)
  have f_197 := hts (.fieldLink RX5 197 "DeadlineAdmissionModel" "drawn" "I") (by decide +kernel)
  have f_38 := hts (.fieldLink RX5 38 "DeadlineAdmissionModel" "jobTask" "[I") (by decide +kernel)
  have f_41 := hts (.fieldLink RX5 41 "DeadlineAdmissionModel" "jobRelease" "[I") (by decide +kernel)
  have f_44 := hts (.fieldLink RX5 44 "DeadlineAdmissionModel" "jobRan" "[I") (by decide +kernel)
  have f_47 := hts (.fieldLink RX5 47 "DeadlineAdmissionModel" "jobNeeds" "[I") (by decide +kernel)
  have f_9 := hts (.fieldLink RX5 9 "DeadlineAdmissionModel" "s" "[I") (by decide +kernel)
  have hl := lv_entry ([.ref m0, .int (nI i), .int (nI v), .int p2]) (n := 4) (Nat.le_of_ble_eq_true rfl)
  rw [lg_entry_eq]
  generalize (lg_sl ([.ref m0, .int (nI i), .int (nI v), .int p2]) ++ List.replicate (4 - (lg_sl ([.ref m0, .int (nI i), .int (nI v), .int p2])).length) Slot.unset).toArray = ls at hl ⊢
  have hl : lv_has ls 4 [(0, .ref m0), (1, .int (nI i)), (2, .int (nI v)), (3, .int p2)] := hl
  refine lv_aload_n hx hb dX5_adds_0 rfl (lv_at hl 0 rfl) ?_
  refine va_get (D := (dC, dI)) (ci := 5) (v := .ref (a 24)) (C := RX5) (T := TX5) (N := 32) hx hb hts hin5 hown hK hP 0 rfl rfl 24 (by decide) f_38 (fun _ h9 => h9) rfl dX5_adds_1 ?_
  refine lv_aload_n hx hb dX5_adds_4 rfl (lv_at hl 0 rfl) ?_
  refine va_get (D := (dC, dI)) (ci := 5) (v := .int (I 28)) (C := RX5) (T := TX5) (N := 32) hx hb hts hin5 hown hK hP 0 rfl rfl 28 (by decide) f_194 (fun _ h9 => h9) rfl dX5_adds_5 ?_
  refine lv_iload_n hx hb dX5_adds_8 rfl (lv_at hl 1 rfl) ?_
  refine wI_ast hx hb hK hP hD hS 9 0 rfl rfl mj hI28 (by omega) (by decide) dX5_adds_9 (fun H locs hP hD hS => ?_)
  have hP : va_P (dC, dI) vwCl (wMdl cy m0 a I (upr R 24 (upd (R 24) mj (nI i)))) H := hP
  have hD : va_D A (wMdl cy m0 a I (upr R 24 (upd (R 24) mj (nI i)))) := hD
  refine lv_aload_n hx hb dX5_adds_10 rfl (lv_at hl 0 rfl) ?_
  refine va_get (D := (dC, dI)) (ci := 5) (v := .ref (a 25)) (C := RX5) (T := TX5) (N := 32) hx hb hts hin5 hown hK hP 0 rfl rfl 25 (by decide) f_41 (fun _ h9 => h9) rfl dX5_adds_11 ?_
  refine lv_aload_n hx hb dX5_adds_14 rfl (lv_at hl 0 rfl) ?_
  refine va_get (D := (dC, dI)) (ci := 5) (v := .int (I 28)) (C := RX5) (T := TX5) (N := 32) hx hb hts hin5 hown hK hP 0 rfl rfl 28 (by decide) f_194 (fun _ h9 => h9) rfl dX5_adds_15 ?_
  refine lv_iload_n hx hb dX5_adds_18 rfl (lv_at hl 2 rfl) ?_
  refine wI_ast hx hb hK hP hD hS 10 0 rfl rfl mj hI28 (by omega) (by decide) dX5_adds_19 (fun H locs hP hD hS => ?_)
  have hP : va_P (dC, dI) vwCl (wMdl cy m0 a I (upr (upr R 24 (upd (R 24) mj (nI i))) 25 (upd (R 25) mj (nI v)))) H := hP
  have hD : va_D A (wMdl cy m0 a I (upr (upr R 24 (upd (R 24) mj (nI i))) 25 (upd (R 25) mj (nI v)))) := hD
  refine lv_aload_n hx hb dX5_adds_20 rfl (lv_at hl 0 rfl) ?_
  refine va_get (D := (dC, dI)) (ci := 5) (v := .ref (a 26)) (C := RX5) (T := TX5) (N := 32) hx hb hts hin5 hown hK hP 0 rfl rfl 26 (by decide) f_44 (fun _ h9 => h9) rfl dX5_adds_21 ?_
  refine lv_aload_n hx hb dX5_adds_24 rfl (lv_at hl 0 rfl) ?_
  refine va_get (D := (dC, dI)) (ci := 5) (v := .int (I 28)) (C := RX5) (T := TX5) (N := 32) hx hb hts hin5 hown hK hP 0 rfl rfl 28 (by decide) f_194 (fun _ h9 => h9) rfl dX5_adds_25 ?_
  refine lv_iconst (v := 0) hx hb dX5_adds_28 (by decide) ?_
  refine wI_ast hx hb hK hP hD hS 11 0 rfl rfl mj hI28 (by omega) (by decide) dX5_adds_29 (fun H locs hP hD hS => ?_)
  have hP : va_P (dC, dI) vwCl (wMdl cy m0 a I (upr (upr (upr R 24 (upd (R 24) mj (nI i))) 25 (upd (R 25) mj (nI v))) 26 (upd (R 26) mj 0))) H := hP
  have hD : va_D A (wMdl cy m0 a I (upr (upr (upr R 24 (upd (R 24) mj (nI i))) 25 (upd (R 25) mj (nI v))) 26 (upd (R 26) mj 0))) := hD
  refine lv_aload_n hx hb dX5_adds_30 rfl (lv_at hl 0 rfl) ?_
  refine va_get (D := (dC, dI)) (ci := 5) (v := .ref (a 27)) (C := RX5) (T := TX5) (N := 32) hx hb hts hin5 hown hK hP 0 rfl rfl 27 (by decide) f_47 (fun _ h9 => h9) rfl dX5_adds_31 ?_
  refine lv_aload_n hx hb dX5_adds_34 rfl (lv_at hl 0 rfl) ?_
  refine va_get (D := (dC, dI)) (ci := 5) (v := .int (I 28)) (C := RX5) (T := TX5) (N := 32) hx hb hts hin5 hown hK hP 0 rfl rfl 28 (by decide) f_194 (fun _ h9 => h9) rfl dX5_adds_35 ?_
  refine lv_aload_n hx hb dX5_adds_38 rfl (lv_at hl 0 rfl) ?_
  refine va_get (D := (dC, dI)) (ci := 5) (v := .ref (a 1)) (C := RX5) (T := TX5) (N := 32) hx hb hts hin5 hown hK hP 0 rfl rfl 1 (by decide) f_9 (fun _ h9 => h9) rfl dX5_adds_39 ?_
  refine lv_bipush (v := 18) hx hb dX5_adds_42 (by decide) ?_
  refine lv_iload_n hx hb dX5_adds_44 rfl (lv_at hl 1 rfl) ?_
  refine lv_iadd hx hb dX5_adds_45 ?_
  refine wI_alv (v := Gs (R 1) 2 i) hx hb hK hP 1 0 rfl rfl (18 + i) (nadd rfl rfl) (by omega) (by decide) rfl dX5_adds_46 ?_
  refine wI_ast hx hb hK hP hD hS 12 0 rfl rfl mj hI28 (by omega) (by decide) dX5_adds_47 (fun H locs hP hD hS => ?_)
  have hP : va_P (dC, dI) vwCl (wMdl cy m0 a I (upr (upr (upr (upr R 24 (upd (R 24) mj (nI i))) 25 (upd (R 25) mj (nI v))) 26 (upd (R 26) mj 0)) 27 (upd (R 27) mj (Gs (R 1) 2 i)))) H := hP
  have hD : va_D A (wMdl cy m0 a I (upr (upr (upr (upr R 24 (upd (R 24) mj (nI i))) 25 (upd (R 25) mj (nI v))) 26 (upd (R 26) mj 0)) 27 (upd (R 27) mj (Gs (R 1) 2 i)))) := hD
  refine lv_aload_n hx hb dX5_adds_48 rfl (lv_at hl 0 rfl) ?_
  refine lv_iload_n hx hb dX5_adds_49 rfl (lv_at hl 1 rfl) ?_
  refine vp_callSi (va_runV (As := [.int (nI i)]) (rest := []) ⟨hx, hb, hml, hown, hts⟩ (c_X5_isHighTask l dC dI cy m0 a I (upr (upr (upr (upr R 24 (upd (R 24) mj (nI i))) 25 (upd (R 25) mj (nI v))) 26 (upd (R 26) mj 0)) 27 (upd (R 27) mj (Gs (R 1) 2 i)))  i (by omega)) (cwV 1 hts gX5_adds_X5_isHighTask rfl rfl rfl (by decide +kernel) ⟨Nat.le_of_ble_eq_true rfl, Nat.le_of_ble_eq_true rfl⟩) ⟨bl_ro, va_recv hK hP (ci := 5) (q0 := 0) rfl rfl, pr_ro hP hE⟩ rfl rfl hl.1 rfl (lv_room (Nat.le_of_ble_eq_true rfl)) dX5_adds_50 ⟨Nat.le_of_ble_eq_true rfl, Nat.le_of_ble_eq_true rfl⟩).run (fun r e_r => ?_)
  subst e_r
  refine lv_topi (fun y_ ey_ => ?_)
  obtain rfl : y_ = if Gs (R 1) 3 i ≤ 0 then 0 else 1 := ey_
  refine lv_if_eq (tgt := 115) hx hb dX5_adds_53 (by decide) (fun c_53 => ?_) (fun c_53 => ?_)
  · refine lv_aload_n hx hb dX5_adds_115 rfl (lv_at hl 0 rfl) ?_
    refine lv_dup hx hb dX5_adds_116 rfl ?_
    refine va_get (D := (dC, dI)) (ci := 5) (v := .int (I 28)) (C := RX5) (T := TX5) (N := 32) hx hb hts hin5 hown hK hP 0 rfl rfl 28 (by decide) f_194 (fun _ h9 => h9) rfl dX5_adds_117 ?_
    refine lv_iconst (v := 1) hx hb dX5_adds_120 (by decide) ?_
    refine lv_iadd hx hb dX5_adds_121 ?_
    refine va_put (D := (dC, dI)) (ci := 5) (v := .int ((I 28) + 1)) (ty := .int) (C := RX5) (T := TX5) (N := 32) hx hb hts hin5 tyX5 tyX5_ok nmX5 hown hK hP hD hS 0 rfl rfl 28 (by decide) f_194 (fun _ h9 => h9) rfl (by decide +kernel) rfl rfl (Nat.le_of_ble_eq_true rfl) dX5_adds_122 (fun H locs hP hD hS => ?_)
    have hP : va_P (dC, dI) vwCl (wMdl cy m0 a (upd I 28 ((I 28) + 1)) (upr (upr (upr (upr R 24 (upd (R 24) mj (nI i))) 25 (upd (R 25) mj (nI v))) 26 (upd (R 26) mj 0)) 27 (upd (R 27) mj (Gs (R 1) 2 i)))) H := hP
    have hD : va_D A (wMdl cy m0 a (upd I 28 ((I 28) + 1)) (upr (upr (upr (upr R 24 (upd (R 24) mj (nI i))) 25 (upd (R 25) mj (nI v))) 26 (upd (R 26) mj 0)) 27 (upd (R 27) mj (Gs (R 1) 2 i)))) := hD
    have hP9 : va_P (dC, dI) vwCl (wMdl cy m0 a (upd I 28 ((I 28) + 1)) (upr (upr (upr (upr R 24 (upd (R 24) mj (nI i))) 25 (upd (R 25) mj (nI v))) 26 (upd (R 26) mj 0)) 27 (upd (R 27) mj (Gs (R 1) 2 i)))) H := hP
    have hD9 : va_D A (wMdl cy m0 a (upd I 28 ((I 28) + 1)) (upr (upr (upr (upr R 24 (upd (R 24) mj (nI i))) 25 (upd (R 25) mj (nI v))) 26 (upd (R 26) mj 0)) 27 (upd (R 27) mj (Gs (R 1) 2 i)))) := hD
    exact W.vret hx hb hr (fun t ht hW => ⟨⟨(upd I 28 ((I 28) + 1), upr (upr (upr (upr R 24 (upd (R 24) mj (nI i))) 25 (upd (R 25) mj (nI v))) 26 (upd (R 26) mj 0)) 27 (upd (R 27) mj (Gs (R 1) 2 i))), rfl, (by simp only [rAdd, hI28, nI_clamp (show mj < 2 ^ 31 by omega), drI, rnd, if_pos (b01.mp c_53)]; rfl), by rw [ht]; exact hP9, hD9⟩, hS.F ht⟩) hS.2.2 dX5_adds_125
  · refine lv_aload_n hx hb dX5_adds_56 rfl (lv_at hl 0 rfl) ?_
    refine lv_aload_n hx hb dX5_adds_57 rfl (lv_at hl 0 rfl) ?_
    refine va_get (D := (dC, dI)) (ci := 5) (v := .int (I 30)) (C := RX5) (T := TX5) (N := 32) hx hb hts hin5 hown hK hP 0 rfl rfl 30 (by decide) f_197 (fun _ h9 => h9) rfl dX5_adds_58 ?_
    refine lv_ldc hx hb hown (hts (.constant RX5 200 1103515245) (by decide +kernel)) dX5_adds_61 ?_
    refine lv_imul hx hb dX5_adds_63 ?_
    refine lv_sipush (v := 12345) hx hb dX5_adds_64 (by decide) ?_
    refine lv_iadd hx hb dX5_adds_67 ?_
    refine lv_topi (fun y_ ey_ => ?_)
    obtain rfl : y_ = drw (I 30) := ey_.trans rfl
    refine va_put (D := (dC, dI)) (ci := 5) (v := .int (drw (I 30))) (ty := .int) (C := RX5) (T := TX5) (N := 32) hx hb hts hin5 tyX5 tyX5_ok nmX5 hown hK hP hD hS 0 rfl rfl 30 (by decide) f_197 (fun _ h9 => h9) rfl (by decide +kernel) rfl rfl (Nat.le_of_ble_eq_true rfl) dX5_adds_68 (fun H locs hP hD hS => ?_)
    have hP : va_P (dC, dI) vwCl (wMdl cy m0 a (upd I 30 (drw (I 30))) (upr (upr (upr (upr R 24 (upd (R 24) mj (nI i))) 25 (upd (R 25) mj (nI v))) 26 (upd (R 26) mj 0)) 27 (upd (R 27) mj (Gs (R 1) 2 i)))) H := hP
    have hD : va_D A (wMdl cy m0 a (upd I 30 (drw (I 30))) (upr (upr (upr (upr R 24 (upd (R 24) mj (nI i))) 25 (upd (R 25) mj (nI v))) 26 (upd (R 26) mj 0)) 27 (upd (R 27) mj (Gs (R 1) 2 i)))) := hD
    refine lv_aload_n hx hb dX5_adds_71 rfl (lv_at hl 0 rfl) ?_
    refine va_get (D := (dC, dI)) (ci := 5) (v := .ref (a 27)) (C := RX5) (T := TX5) (N := 32) hx hb hts hin5 hown hK hP 0 rfl rfl 27 (by decide) f_47 (fun _ h9 => h9) rfl dX5_adds_72 ?_
    refine lv_aload_n hx hb dX5_adds_75 rfl (lv_at hl 0 rfl) ?_
    refine va_get (D := (dC, dI)) (ci := 5) (v := .int (I 28)) (C := RX5) (T := TX5) (N := 32) hx hb hts hin5 hown hK hP 0 rfl rfl 28 (by decide) f_194 (fun _ h9 => h9) rfl dX5_adds_76 ?_
    refine lv_aload_n hx hb dX5_adds_79 rfl (lv_at hl 0 rfl) ?_
    refine va_get (D := (dC, dI)) (ci := 5) (v := .int (drw (I 30))) (C := RX5) (T := TX5) (N := 32) hx hb hts hin5 hown hK hP 0 rfl rfl 30 (by decide) f_197 (fun _ h9 => h9) rfl dX5_adds_80 ?_
    refine lv_bipush (v := 16) hx hb dX5_adds_83 (by decide) ?_
    refine lv_iushr hx hb dX5_adds_85 rfl ?_
    refine lv_topi (fun y_ ey_ => ?_)
    obtain rfl : y_ = shr (drw (I 30)) := ey_.trans rfl
    refine lv_bipush (v := 100) hx hb dX5_adds_86 (by decide) ?_
    refine lv_irem hx hb dX5_adds_88 (by decide) ?_
    refine lv_iload_n hx hb dX5_adds_89 rfl (lv_at hl 3 rfl) ?_
    refine lv_icmp_ge (tgt := 105) hx hb dX5_adds_90 (by decide) (fun c_90 => ?_) (fun c_90 => ?_)
    · refine lv_aload_n hx hb dX5_adds_105 rfl (lv_at hl 0 rfl) ?_
      refine va_get (D := (dC, dI)) (ci := 5) (v := .ref (a 1)) (C := RX5) (T := TX5) (N := 32) hx hb hts hin5 hown hK hP 0 rfl rfl 1 (by decide) f_9 (fun _ h9 => h9) rfl dX5_adds_106 ?_
      refine lv_bipush (v := 18) hx hb dX5_adds_109 (by decide) ?_
      refine lv_iload_n hx hb dX5_adds_111 rfl (lv_at hl 1 rfl) ?_
      refine lv_iadd hx hb dX5_adds_112 ?_
      refine wI_alv (v := Gs (R 1) 2 i) hx hb hK hP 1 0 rfl rfl (18 + i) (nadd rfl rfl) (by omega) (by decide) rfl dX5_adds_113 ?_
      refine wI_ast hx hb hK hP hD hS 12 0 rfl rfl mj hI28 (by omega) (by decide) dX5_adds_114 (fun H locs hP hD hS => ?_)
      have hP : va_P (dC, dI) vwCl (wMdl cy m0 a (upd I 30 (drw (I 30))) (upr (upr (upr (upr R 24 (upd (R 24) mj (nI i))) 25 (upd (R 25) mj (nI v))) 26 (upd (R 26) mj 0)) 27 (upd (upd (R 27) mj (Gs (R 1) 2 i)) mj (Gs (R 1) 2 i)))) H := hP
      have hD : va_D A (wMdl cy m0 a (upd I 30 (drw (I 30))) (upr (upr (upr (upr R 24 (upd (R 24) mj (nI i))) 25 (upd (R 25) mj (nI v))) 26 (upd (R 26) mj 0)) 27 (upd (upd (R 27) mj (Gs (R 1) 2 i)) mj (Gs (R 1) 2 i)))) := hD
      refine lv_aload_n hx hb dX5_adds_115 rfl (lv_at hl 0 rfl) ?_
      refine lv_dup hx hb dX5_adds_116 rfl ?_
      refine va_get (D := (dC, dI)) (ci := 5) (v := .int (I 28)) (C := RX5) (T := TX5) (N := 32) hx hb hts hin5 hown hK hP 0 rfl rfl 28 (by decide) f_194 (fun _ h9 => h9) rfl dX5_adds_117 ?_
      refine lv_iconst (v := 1) hx hb dX5_adds_120 (by decide) ?_
      refine lv_iadd hx hb dX5_adds_121 ?_
      refine va_put (D := (dC, dI)) (ci := 5) (v := .int ((I 28) + 1)) (ty := .int) (C := RX5) (T := TX5) (N := 32) hx hb hts hin5 tyX5 tyX5_ok nmX5 hown hK hP hD hS 0 rfl rfl 28 (by decide) f_194 (fun _ h9 => h9) rfl (by decide +kernel) rfl rfl (Nat.le_of_ble_eq_true rfl) dX5_adds_122 (fun H locs hP hD hS => ?_)
      have hP : va_P (dC, dI) vwCl (wMdl cy m0 a (upd (upd I 28 ((I 28) + 1)) 30 (drw (I 30))) (upr (upr (upr (upr R 24 (upd (R 24) mj (nI i))) 25 (upd (R 25) mj (nI v))) 26 (upd (R 26) mj 0)) 27 (upd (upd (R 27) mj (Gs (R 1) 2 i)) mj (Gs (R 1) 2 i)))) H := hP
      have hD : va_D A (wMdl cy m0 a (upd (upd I 28 ((I 28) + 1)) 30 (drw (I 30))) (upr (upr (upr (upr R 24 (upd (R 24) mj (nI i))) 25 (upd (R 25) mj (nI v))) 26 (upd (R 26) mj 0)) 27 (upd (upd (R 27) mj (Gs (R 1) 2 i)) mj (Gs (R 1) 2 i)))) := hD
      have hP9 : va_P (dC, dI) vwCl (wMdl cy m0 a (upd (upd I 28 ((I 28) + 1)) 30 (drw (I 30))) (upr (upr (upr (upr R 24 (upd (R 24) mj (nI i))) 25 (upd (R 25) mj (nI v))) 26 (upd (R 26) mj 0)) 27 (upd (R 27) mj (Gs (R 1) 2 i)))) H := (by rw [upd_upd] at hP; exact hP)
      have hD9 : va_D A (wMdl cy m0 a (upd (upd I 28 ((I 28) + 1)) 30 (drw (I 30))) (upr (upr (upr (upr R 24 (upd (R 24) mj (nI i))) 25 (upd (R 25) mj (nI v))) 26 (upd (R 26) mj 0)) 27 (upd (R 27) mj (Gs (R 1) 2 i)))) := (by rw [upd_upd] at hD; exact hD)
      exact W.vret hx hb hr (fun t ht hW => ⟨⟨(upd (upd I 28 ((I 28) + 1)) 30 (drw (I 30)), upr (upr (upr (upr R 24 (upd (R 24) mj (nI i))) 25 (upd (R 25) mj (nI v))) 26 (upd (R 26) mj 0)) 27 (upd (R 27) mj (Gs (R 1) 2 i))), rfl, (by simp only [rAdd, hI28, nI_clamp (show mj < 2 ^ 31 by omega), drI, rnd, if_neg (fun h => c_53 (b01.mpr h)), if_neg (show ¬ ovr (drw (I 30)) p2 from Int32.not_lt.mpr c_90)]; rfl), by rw [ht]; exact hP9, hD9⟩, hS.F ht⟩) hS.2.2 dX5_adds_125
    · refine lv_aload_n hx hb dX5_adds_93 rfl (lv_at hl 0 rfl) ?_
      refine va_get (D := (dC, dI)) (ci := 5) (v := .ref (a 1)) (C := RX5) (T := TX5) (N := 32) hx hb hts hin5 hown hK hP 0 rfl rfl 1 (by decide) f_9 (fun _ h9 => h9) rfl dX5_adds_94 ?_
      refine lv_bipush (v := 26) hx hb dX5_adds_97 (by decide) ?_
      refine lv_iload_n hx hb dX5_adds_99 rfl (lv_at hl 1 rfl) ?_
      refine lv_iadd hx hb dX5_adds_100 ?_
      refine wI_alv (v := Gs (R 1) 3 i) hx hb hK hP 1 0 rfl rfl (26 + i) (nadd rfl rfl) (by omega) (by decide) rfl dX5_adds_101 ?_
      refine lv_goto (tgt := 114) hx hb dX5_adds_102 (by decide) ?_
      refine wI_ast hx hb hK hP hD hS 12 0 rfl rfl mj hI28 (by omega) (by decide) dX5_adds_114 (fun H locs hP hD hS => ?_)
      have hP : va_P (dC, dI) vwCl (wMdl cy m0 a (upd I 30 (drw (I 30))) (upr (upr (upr (upr R 24 (upd (R 24) mj (nI i))) 25 (upd (R 25) mj (nI v))) 26 (upd (R 26) mj 0)) 27 (upd (upd (R 27) mj (Gs (R 1) 2 i)) mj (Gs (R 1) 3 i)))) H := hP
      have hD : va_D A (wMdl cy m0 a (upd I 30 (drw (I 30))) (upr (upr (upr (upr R 24 (upd (R 24) mj (nI i))) 25 (upd (R 25) mj (nI v))) 26 (upd (R 26) mj 0)) 27 (upd (upd (R 27) mj (Gs (R 1) 2 i)) mj (Gs (R 1) 3 i)))) := hD
      refine lv_aload_n hx hb dX5_adds_115 rfl (lv_at hl 0 rfl) ?_
      refine lv_dup hx hb dX5_adds_116 rfl ?_
      refine va_get (D := (dC, dI)) (ci := 5) (v := .int (I 28)) (C := RX5) (T := TX5) (N := 32) hx hb hts hin5 hown hK hP 0 rfl rfl 28 (by decide) f_194 (fun _ h9 => h9) rfl dX5_adds_117 ?_
      refine lv_iconst (v := 1) hx hb dX5_adds_120 (by decide) ?_
      refine lv_iadd hx hb dX5_adds_121 ?_
      refine va_put (D := (dC, dI)) (ci := 5) (v := .int ((I 28) + 1)) (ty := .int) (C := RX5) (T := TX5) (N := 32) hx hb hts hin5 tyX5 tyX5_ok nmX5 hown hK hP hD hS 0 rfl rfl 28 (by decide) f_194 (fun _ h9 => h9) rfl (by decide +kernel) rfl rfl (Nat.le_of_ble_eq_true rfl) dX5_adds_122 (fun H locs hP hD hS => ?_)
      have hP : va_P (dC, dI) vwCl (wMdl cy m0 a (upd (upd I 28 ((I 28) + 1)) 30 (drw (I 30))) (upr (upr (upr (upr R 24 (upd (R 24) mj (nI i))) 25 (upd (R 25) mj (nI v))) 26 (upd (R 26) mj 0)) 27 (upd (upd (R 27) mj (Gs (R 1) 2 i)) mj (Gs (R 1) 3 i)))) H := hP
      have hD : va_D A (wMdl cy m0 a (upd (upd I 28 ((I 28) + 1)) 30 (drw (I 30))) (upr (upr (upr (upr R 24 (upd (R 24) mj (nI i))) 25 (upd (R 25) mj (nI v))) 26 (upd (R 26) mj 0)) 27 (upd (upd (R 27) mj (Gs (R 1) 2 i)) mj (Gs (R 1) 3 i)))) := hD
      have hP9 : va_P (dC, dI) vwCl (wMdl cy m0 a (upd (upd I 28 ((I 28) + 1)) 30 (drw (I 30))) (upr (upr (upr (upr R 24 (upd (R 24) mj (nI i))) 25 (upd (R 25) mj (nI v))) 26 (upd (R 26) mj 0)) 27 (upd (R 27) mj (Gs (R 1) 3 i)))) H := (by rw [upd_upd] at hP; exact hP)
      have hD9 : va_D A (wMdl cy m0 a (upd (upd I 28 ((I 28) + 1)) 30 (drw (I 30))) (upr (upr (upr (upr R 24 (upd (R 24) mj (nI i))) 25 (upd (R 25) mj (nI v))) 26 (upd (R 26) mj 0)) 27 (upd (R 27) mj (Gs (R 1) 3 i)))) := (by rw [upd_upd] at hD; exact hD)
      exact W.vret hx hb hr (fun t ht hW => ⟨⟨(upd (upd I 28 ((I 28) + 1)) 30 (drw (I 30)), upr (upr (upr (upr R 24 (upd (R 24) mj (nI i))) 25 (upd (R 25) mj (nI v))) 26 (upd (R 26) mj 0)) 27 (upd (R 27) mj (Gs (R 1) 3 i))), rfl, (by simp only [rAdd, hI28, nI_clamp (show mj < 2 ^ 31 by omega), drI, rnd, if_neg (fun h => c_53 (b01.mpr h)), if_pos (show ovr (drw (I 30)) p2 from Int32.not_le.mp c_90)]; rfl), by rw [ht]; exact hP9, hD9⟩, hS.F ht⟩) hS.2.2 dX5_adds_125

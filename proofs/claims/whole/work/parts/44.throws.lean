/-! PART 44: exceptions: what a throw takes of the start; the four checks -/
abbrev exL : List String := ["java/lang/IllegalArgumentException", "java/lang/IllegalStateException", "java/lang/IndexOutOfBoundsException", "java/lang/UnsupportedOperationException", "java/util/NoSuchElementException"]
abbrev strL : List (Nat × String) := [(53, "a number is out of range"), (64, "there are 8 tasks"), (94, "the text has a fault"), (104, "the character is not from 33 to 126"), (109, "the text has 30 characters"), (130, "the level is out of range"), (135, "the configuration would not be admissible"), (140, "there is no change to take back"), (152, "nothing was saved"), (179, "the task is not critical"), (185, "t is out of range"), (197, "the scale is out of range"), (229, "there is no such point"), (244, "overrun is out of range"), (246, "the horizon is out of range"), (275, "no job of the task was completed"), (278, "there is no such task"), (280, "the mode is not 0 or 1"), (285, "no task has been rejected"), (287, "there was no simulation since the latest change")]
/-- what a throw takes of the tables -/
abbrev decL : List String := ["java/lang/RuntimeException", "java/lang/Exception", "java/lang/Throwable"]
def XV (U : State) : Prop := (∀ E ∈ exL, va_Nw (.castable E E) U) ∧ (∀ x ∈ strL, ∃ sa, vk_R RX4 x.1 x.2 sa U) ∧ ∀ Y ∈ decL, va_Nw (.declares (Bundle.initS Y)) U
theorem XV.warm {s U : State} (hW : s.WarmedH U.vm) (h : XV s) : XV U := ⟨fun E hE => va_Nw.warmC hW (h.1 E hE), fun x hx => let ⟨sa, q⟩ := h.2.1 x hx; ⟨sa, vk_R.warm hW q⟩, fun Y hY => va_Nw.warmD hW (h.2.2 Y hY)⟩
theorem XV.same {s U : State} (hv : s.vm = U.vm) (h : XV s) : XV U := ⟨fun E hE => va_Nw.same rfl hv (h.1 E hE), fun x hx => let ⟨sa, q⟩ := h.2.1 x hx; ⟨sa, vk_R.same hv.symm q⟩, fun Y hY => va_Nw.same rfl hv (h.2.2 Y hY)⟩
theorem XV.s {U : State} (h : XV U) (i : Nat) {k : Nat} {t : String} (hx : strL[i]? = some (k, t)) : ∃ sa, vk_R RX4 k t sa U := h.2.1 (k, t) (List.mem_of_getElem? hx)
theorem XV.c {U : State} (h : XV U) (i : Nat) {E : String} (hx : exL[i]? = some E) : va_Nw (.castable E E) U := h.1 E (List.mem_of_getElem? hx)
theorem XV.d {U : State} (h : XV U) (i : Nat) {Y : String} (hx : decL[i]? = some Y) : va_Nw (.declares (Bundle.initS Y)) U := h.2.2 Y (List.mem_of_getElem? hx)
/-- .. and of the heap -/
def ZQ (A : Nat → Prop) (U : State) (H : Heap) : Prop := vx_Zq Bundle.tN "UNASSIGNED_STACK" Bundle.steD A U H ∧ vx_Zq Bundle.tN "SUPPRESSED_SENTINEL" Bundle.listD A U H
theorem ZQ.same {A : Nat → Prop} {s U : State} {H : Heap} (hv : s.vm = U.vm) (h : ZQ A s H) : ZQ A U H := ⟨vx_Zq.moved (by rw [hv]; exact Vm.Alike.refl _) h.1, vx_Zq.moved (by rw [hv]; exact Vm.Alike.refl _) h.2⟩
theorem ZQ.go {A B : Nat → Prop} {s U : State} {H : Heap} {locs : List Loc} (h : ZQ A s s.heap) (hS : va_S A s.heap H locs) (hW : s.WarmedH U.vm) (hAB : ∀ q, B q → A q) : ZQ B U H :=
  ⟨((h.1.moved hW.alike).kept (fun a h1 h2 => hS.2.1 a h1 h2)).narrow hAB, ((h.2.moved hW.alike).kept (fun a h1 h2 => hS.2.1 a h1 h2)).narrow hAB⟩
section PREX
variable {dC : Nat → ClassId} {dI : Nat → Nat → Nat} {cy : Nat → ClassId} {av : List Value} {W : va_W} {sz : Nat} {s : State} {H : Heap} {A : Nat → Prop} {locs : List Loc}
/-- the start of a method that reads and may throw -/
abbrev pR (dC : Nat → ClassId) (dI : Nat → Nat → Nat) (cy : Nat → ClassId) (W : va_W) (sz : Nat) (U : State) : Prop := U.heap.size = sz ∧ va_P (dC, dI) vwCl W U.heap ∧ EV dC dI cy U ∧ XV U ∧ ZQ (fun q => sz ≤ q) U U.heap
theorem bl_R : FrameBlind (va_Pc av (pR dC dI cy W sz)) := fun a U g mk q => ⟨q.1, q.2.1, q.2.2.1, EV.same (s := U) rfl q.2.2.2.1, XV.same (s := U) rfl q.2.2.2.2.1, ZQ.same (s := U) rfl q.2.2.2.2.2⟩
theorem pr_R (hP : va_P (dC, dI) vwCl W H) (hE : EV dC dI cy s) (hX : XV s) (hZ : ZQ A s s.heap) (hS : va_S A s.heap H locs) (hA : ∀ q, s.heap.size ≤ q → A q) : ∀ U : State, U.heap = H → s.WarmedH U.vm → va_Pc av (pR dC dI cy W H.size) av.toArray U := fun U hU hW => ⟨rfl, by rw [hU], by rw [hU]; exact hP, hE.warm hW, hX.warm hW, by rw [hU]; exact hZ.go hS hW (fun q h => hA q (Nat.le_trans hS.1 h))⟩
end PREX
theorem cT_get {n : Nat} (hn : n ≤ 8) {p0 : Int32} (h : cT n p0 = 0) : ∃ i, i < n ∧ p0 = nI i := by
  unfold cT at h
  split at h
  · exact absurd h (by decide)
  · rename_i q
    have h1 : ¬ p0 < 0 := fun z => q (Or.inl z)
    obtain ⟨j, hj, rfl⟩ := nI_of h1
    refine ⟨j, ?_, rfl⟩
    rcases Nat.lt_or_ge j n with z | z
    · exact z
    · exact absurd (Or.inr (nI_le z hj)) q
theorem ng_IAE : ∀ w ∈ (vx_atS RX4 55 "java/lang/IllegalArgumentException" ["java/lang/RuntimeException", "java/lang/Exception"]).filter (fun w => !goodWord w), w ∈ [Cond.castable "java/lang/IllegalArgumentException" "java/lang/IllegalArgumentException", Cond.declares (Bundle.initS "java/lang/RuntimeException"), Cond.declares (Bundle.initS "java/lang/Exception"), Cond.declares (Bundle.initS "java/lang/Throwable")] := by decide +kernel
theorem ot_IAE : ∀ w ∈ Cond.classLink RX4 51 "java/lang/IllegalArgumentException" :: Cond.initialized "java/lang/IllegalArgumentException" :: vx_atS RX4 55 "java/lang/IllegalArgumentException" ["java/lang/RuntimeException", "java/lang/Exception"], vx_ot w = true := by decide +kernel
theorem ng_ISE : ∀ w ∈ (vx_atS RX4 66 "java/lang/IllegalStateException" ["java/lang/RuntimeException", "java/lang/Exception"]).filter (fun w => !goodWord w), w ∈ [Cond.castable "java/lang/IllegalStateException" "java/lang/IllegalStateException", Cond.declares (Bundle.initS "java/lang/RuntimeException"), Cond.declares (Bundle.initS "java/lang/Exception"), Cond.declares (Bundle.initS "java/lang/Throwable")] := by decide +kernel
theorem ot_ISE : ∀ w ∈ Cond.classLink RX4 62 "java/lang/IllegalStateException" :: Cond.initialized "java/lang/IllegalStateException" :: vx_atS RX4 66 "java/lang/IllegalStateException" ["java/lang/RuntimeException", "java/lang/Exception"], vx_ot w = true := by decide +kernel
theorem ng_IOOBE : ∀ w ∈ (vx_atS RX4 231 "java/lang/IndexOutOfBoundsException" ["java/lang/RuntimeException", "java/lang/Exception"]).filter (fun w => !goodWord w), w ∈ [Cond.castable "java/lang/IndexOutOfBoundsException" "java/lang/IndexOutOfBoundsException", Cond.declares (Bundle.initS "java/lang/RuntimeException"), Cond.declares (Bundle.initS "java/lang/Exception"), Cond.declares (Bundle.initS "java/lang/Throwable")] := by decide +kernel
theorem ot_IOOBE : ∀ w ∈ Cond.classLink RX4 227 "java/lang/IndexOutOfBoundsException" :: Cond.initialized "java/lang/IndexOutOfBoundsException" :: vx_atS RX4 231 "java/lang/IndexOutOfBoundsException" ["java/lang/RuntimeException", "java/lang/Exception"], vx_ot w = true := by decide +kernel
theorem ng_UOE : ∀ w ∈ (vx_atS RX4 181 "java/lang/UnsupportedOperationException" ["java/lang/RuntimeException", "java/lang/Exception"]).filter (fun w => !goodWord w), w ∈ [Cond.castable "java/lang/UnsupportedOperationException" "java/lang/UnsupportedOperationException", Cond.declares (Bundle.initS "java/lang/RuntimeException"), Cond.declares (Bundle.initS "java/lang/Exception"), Cond.declares (Bundle.initS "java/lang/Throwable")] := by decide +kernel
theorem ot_UOE : ∀ w ∈ Cond.classLink RX4 177 "java/lang/UnsupportedOperationException" :: Cond.initialized "java/lang/UnsupportedOperationException" :: vx_atS RX4 181 "java/lang/UnsupportedOperationException" ["java/lang/RuntimeException", "java/lang/Exception"], vx_ot w = true := by decide +kernel
theorem ng_NSEE : ∀ w ∈ (vx_atS RX4 277 "java/util/NoSuchElementException" ["java/lang/RuntimeException", "java/lang/Exception"]).filter (fun w => !goodWord w), w ∈ [Cond.castable "java/util/NoSuchElementException" "java/util/NoSuchElementException", Cond.declares (Bundle.initS "java/lang/RuntimeException"), Cond.declares (Bundle.initS "java/lang/Exception"), Cond.declares (Bundle.initS "java/lang/Throwable")] := by decide +kernel
theorem ot_NSEE : ∀ w ∈ Cond.classLink RX4 273 "java/util/NoSuchElementException" :: Cond.initialized "java/util/NoSuchElementException" :: vx_atS RX4 277 "java/util/NoSuchElementException" ["java/lang/RuntimeException", "java/lang/Exception"], vx_ot w = true := by decide +kernel
set_option maxHeartbeats 1000000 in
set_option maxRecDepth 100000 in
/-- is there such a task -/
theorem c_X4_requireTask (l : Launch) (hst : l.stackTraces = false) (dC : Nat → ClassId) (dI : Nat → Nat → Nat) (cy : Nat → ClassId) (sz : Nat) (d0 : Nat) (o : Nat → Nat) (F : Nat → Int32) (bc : Nat → Nat) (G : vG) (n : Nat) (hn : n ≤ 8) (sc : Int32) (p0 : Int32) : vx_Met l yX4_requireTask wsX4_requireTask ({ frames := 6, cells := 1, slots := 6, locals := 82 }) (va_Pc [.ref d0, .int p0] (pR dC dI cy (wObj d0 o F ++ (wCfg cy (o 0) bc G (nI n) sc)) sz)) (va_Qv (fun (_ : Unit) => cT n p0 = 0) (fun (_ : Unit) (_ : State) => True) (fun q => sz ≤ q)) (vx_X (fun (_ : Unit) => True) (fun (E : String) (_ : Unit) (_ : State) => E = "java/lang/IndexOutOfBoundsException" ∧ cT n p0 = 1) (fun q => sz ≤ q)) 1 6 (fun q => sz ≤ q) := by
  refine vx_ofW (cc := cX4_requireTask) (maxL := 2) (ret := none) (by decide) rfl ?_
  intro p e s m args below meth c s₁ B hml hnt hv
  obtain ⟨rfl, hsz, hP, hE, hX, hZ⟩ := hv
  have hK := hE.1
  subst hsz
  have hS : va_S (fun q => s.heap.size ≤ q) s.heap s.heap [] := va_S.rf
  have hA : ∀ q : Nat, s.heap.size ≤ q → (fun q => s.heap.size ≤ q) q := fun q h => h
  have hP : va_P (dC, dI) vwCl (wObj d0 o F ++ (wCfg cy (o 0) bc G (nI n) sc)) s.heap := hP
  have hx := B.exec
  have hb := B.bytes
  have hr := B.returns
  have hts := atoms_spec (ws := wsX4_requireTask) B.pre
  have hown : s.vm.findClass RX4 = some m.cls := findClass_of_methodNamed B.named
  have hlocks := B.notSynchronized
  have hin0 : ∀ w ∈ u_ws RX0 TX0 9, w ∈ wsX4_requireTask := by decide +kernel
  have hin4 : ∀ w ∈ u_ws RX4 TX4 12, w ∈ wsX4_requireTask := by decide +kernel
  have f_12 := hts (.fieldLink RX4 12 "DeadlineAdmission" "current" "LDeadlineAdmission$Configuration;") (by decide +kernel)
  have f_58 := va_Nw.use (A := ([.ref d0, .int p0].toArray)) rfl (hE.f 9 rfl)
  have hl := lv_entry ([.ref d0, .int p0]) (n := 2) (Nat.le_of_ble_eq_true rfl)
  rw [lg_entry_eq]
  generalize (lg_sl ([.ref d0, .int p0]) ++ List.replicate (2 - (lg_sl ([.ref d0, .int p0])).length) Slot.unset).toArray = ls at hl ⊢
  have hl : lv_has ls 2 [(0, .ref d0), (1, .int p0)] := hl
  refine lv_iload_n hx hb dX4_requireTask_0 rfl (lv_at hl 1 rfl) ?_
  refine lv_if_lt (tgt := 15) hx hb dX4_requireTask_1 (by decide) (fun c_1 => ?_) (fun c_1 => ?_)
  · obtain ⟨sa, hsa⟩ := hX.s 16 (k := 278) (t := "there is no such task") rfl
    exact vx_throwSW (names := ["java/lang/RuntimeException", "java/lang/Exception"]) hx hb hst hown (by decide +kernel) (by decide +kernel) (hts (.classLink RX4 227 "java/lang/IndexOutOfBoundsException") (by decide +kernel)) (hts (.initialized "java/lang/IndexOutOfBoundsException") (by decide +kernel)) hsa (vx_hat (fun w h => hts w (List.mem_cons_of_mem _ (List.mem_append_right _ h))) ng_IOOBE (vx_c (va_Nw.use rfl (hX.c 2 rfl)) (vx_c (va_Nw.use rfl (hX.d 0 rfl)) (vx_c (va_Nw.use rfl (hX.d 1 rfl)) (vx_c (va_Nw.use rfl (hX.d 2 rfl)) vx_n))))) ot_IOOBE hZ.1 hZ.2 hS (hl.1.trans hml.symm) dX4_requireTask_15 dX4_requireTask_18 dX4_requireTask_19 dX4_requireTask_22 dX4_requireTask_25 (fun x hx9 => (hnt x hx9).elim) (Nat.le_of_ble_eq_true rfl) (Nat.le_of_ble_eq_true rfl) (Nat.le_of_ble_eq_true rfl) (Nat.le_of_ble_eq_true rfl) hlocks (fun t hvm hz hk => ⟨(), trivial, ⟨rfl, if_pos (Or.inl c_1)⟩, ⟨Nat.le_trans hS.1 hz, fun q h1 h2 => (hk q (Nat.lt_of_lt_of_le h1 hS.1)).trans (hS.2.1 q h1 h2)⟩⟩) hS.2.2 (Nat.le_of_ble_eq_true rfl) (Nat.le_of_ble_eq_true rfl)
  · refine lv_iload_n hx hb dX4_requireTask_4 rfl (lv_at hl 1 rfl) ?_
    refine lv_aload_n hx hb dX4_requireTask_5 rfl (lv_at hl 0 rfl) ?_
    refine va_get (D := (dC, dI)) (ci := 4) (v := .ref (o 0)) (C := RX4) (T := TX4) (N := 12) hx hb hts hin4 hown hK hP 0 rfl rfl 0 (by decide) f_12 (fun _ h9 => h9) rfl dX4_requireTask_6 ?_
    refine va_getN (D := (dC, dI)) (ci := 0) (v := .int (nI n)) (C := RX0) (T := TX0) (N := 9) hx hb hts hin0 hown hK hP 1 rfl rfl 7 (by decide) f_58 (fun _ h9 => h9) rfl dX4_requireTask_9 ?_
    refine lv_icmp_lt (tgt := 26) hx hb dX4_requireTask_12 (by decide) (fun c_12 => ?_) (fun c_12 => ?_)
    · refine vx_ret ?_
      refine W.widen (k := 1) (n := 6) (Nat.le_of_ble_eq_true rfl) (Nat.le_of_ble_eq_true rfl) ?_
      exact W.vret hx hb hr (fun t ht hW => ⟨⟨(), rfl, (if_neg (fun h => h.elim c_1 (Int32.not_le.mpr c_12))), trivial⟩, hS.F ht⟩) hS.2.2 dX4_requireTask_26
    · obtain ⟨sa, hsa⟩ := hX.s 16 (k := 278) (t := "there is no such task") rfl
      exact vx_throwSW (names := ["java/lang/RuntimeException", "java/lang/Exception"]) hx hb hst hown (by decide +kernel) (by decide +kernel) (hts (.classLink RX4 227 "java/lang/IndexOutOfBoundsException") (by decide +kernel)) (hts (.initialized "java/lang/IndexOutOfBoundsException") (by decide +kernel)) hsa (vx_hat (fun w h => hts w (List.mem_cons_of_mem _ (List.mem_append_right _ h))) ng_IOOBE (vx_c (va_Nw.use rfl (hX.c 2 rfl)) (vx_c (va_Nw.use rfl (hX.d 0 rfl)) (vx_c (va_Nw.use rfl (hX.d 1 rfl)) (vx_c (va_Nw.use rfl (hX.d 2 rfl)) vx_n))))) ot_IOOBE hZ.1 hZ.2 hS (hl.1.trans hml.symm) dX4_requireTask_15 dX4_requireTask_18 dX4_requireTask_19 dX4_requireTask_22 dX4_requireTask_25 (fun x hx9 => (hnt x hx9).elim) (Nat.le_of_ble_eq_true rfl) (Nat.le_of_ble_eq_true rfl) (Nat.le_of_ble_eq_true rfl) (Nat.le_of_ble_eq_true rfl) hlocks (fun t hvm hz hk => ⟨(), trivial, ⟨rfl, if_pos (Or.inr (Int32.not_lt.mp c_12))⟩, ⟨Nat.le_trans hS.1 hz, fun q h1 h2 => (hk q (Nat.lt_of_lt_of_le h1 hS.1)).trans (hS.2.1 q h1 h2)⟩⟩) hS.2.2 (Nat.le_of_ble_eq_true rfl) (Nat.le_of_ble_eq_true rfl)
set_option maxHeartbeats 1000000 in
set_option maxRecDepth 100000 in
/-- is it a mode -/
theorem c_X4_requireMode (l : Launch) (hst : l.stackTraces = false) (dC : Nat → ClassId) (dI : Nat → Nat → Nat) (cy : Nat → ClassId) (sz : Nat) (p0 : Int32) : vx_Met l yX4_requireMode wsX4_requireMode ({ frames := 6, cells := 1, slots := 6, locals := 82 }) (va_Pc [.int p0] (pR dC dI cy ([]) sz)) (va_Qv (fun (_ : Unit) => cM p0 = 0) (fun (_ : Unit) (_ : State) => True) (fun q => sz ≤ q)) (vx_X (fun (_ : Unit) => True) (fun (E : String) (_ : Unit) (_ : State) => E = "java/lang/IllegalArgumentException" ∧ cM p0 = 1) (fun q => sz ≤ q)) 1 6 (fun q => sz ≤ q) := by
  refine vx_ofW (cc := cX4_requireMode) (maxL := 1) (ret := none) (by decide) rfl ?_
  intro p e s m args below meth c s₁ B hml hnt hv
  obtain ⟨rfl, hsz, hP, hE, hX, hZ⟩ := hv
  have hK := hE.1
  subst hsz
  have hS : va_S (fun q => s.heap.size ≤ q) s.heap s.heap [] := va_S.rf
  have hA : ∀ q : Nat, s.heap.size ≤ q → (fun q => s.heap.size ≤ q) q := fun q h => h
  have hP : va_P (dC, dI) vwCl ([]) s.heap := hP
  have hx := B.exec
  have hb := B.bytes
  have hr := B.returns
  have hts := atoms_spec (ws := wsX4_requireMode) B.pre
  have hown : s.vm.findClass RX4 = some m.cls := findClass_of_methodNamed B.named
  have hlocks := B.notSynchronized
  have hl := lv_entry ([.int p0]) (n := 1) (Nat.le_of_ble_eq_true rfl)
  rw [lg_entry_eq]
  generalize (lg_sl ([.int p0]) ++ List.replicate (1 - (lg_sl ([.int p0])).length) Slot.unset).toArray = ls at hl ⊢
  have hl : lv_has ls 1 [(0, .int p0)] := hl
  refine lv_iload_n hx hb dX4_requireMode_0 rfl (lv_at hl 0 rfl) ?_
  refine lv_if_eq (tgt := 20) hx hb dX4_requireMode_1 (by decide) (fun c_1 => ?_) (fun c_1 => ?_)
  · refine vx_ret ?_
    refine W.widen (k := 1) (n := 6) (Nat.le_of_ble_eq_true rfl) (Nat.le_of_ble_eq_true rfl) ?_
    exact W.vret hx hb hr (fun t ht hW => ⟨⟨(), rfl, (if_pos (Or.inl c_1)), trivial⟩, hS.F ht⟩) hS.2.2 dX4_requireMode_20
  · refine lv_iload_n hx hb dX4_requireMode_4 rfl (lv_at hl 0 rfl) ?_
    refine lv_iconst (v := 1) hx hb dX4_requireMode_5 (by decide) ?_
    refine lv_icmp_eq (tgt := 20) hx hb dX4_requireMode_6 (by decide) (fun c_6 => ?_) (fun c_6 => ?_)
    · refine vx_ret ?_
      refine W.widen (k := 1) (n := 6) (Nat.le_of_ble_eq_true rfl) (Nat.le_of_ble_eq_true rfl) ?_
      exact W.vret hx hb hr (fun t ht hW => ⟨⟨(), rfl, (if_pos (Or.inr c_6)), trivial⟩, hS.F ht⟩) hS.2.2 dX4_requireMode_20
    · obtain ⟨sa, hsa⟩ := hX.s 17 (k := 280) (t := "the mode is not 0 or 1") rfl
      exact vx_throwSW (names := ["java/lang/RuntimeException", "java/lang/Exception"]) hx hb hst hown (by decide +kernel) (by decide +kernel) (hts (.classLink RX4 51 "java/lang/IllegalArgumentException") (by decide +kernel)) (hts (.initialized "java/lang/IllegalArgumentException") (by decide +kernel)) hsa (vx_hat (fun w h => hts w (List.mem_cons_of_mem _ (List.mem_append_right _ h))) ng_IAE (vx_c (va_Nw.use rfl (hX.c 0 rfl)) (vx_c (va_Nw.use rfl (hX.d 0 rfl)) (vx_c (va_Nw.use rfl (hX.d 1 rfl)) (vx_c (va_Nw.use rfl (hX.d 2 rfl)) vx_n))))) ot_IAE hZ.1 hZ.2 hS (hl.1.trans hml.symm) dX4_requireMode_9 dX4_requireMode_12 dX4_requireMode_13 dX4_requireMode_16 dX4_requireMode_19 (fun x hx9 => (hnt x hx9).elim) (Nat.le_of_ble_eq_true rfl) (Nat.le_of_ble_eq_true rfl) (Nat.le_of_ble_eq_true rfl) (Nat.le_of_ble_eq_true rfl) hlocks (fun t hvm hz hk => ⟨(), trivial, ⟨rfl, if_neg (fun h => h.elim c_1 c_6)⟩, ⟨Nat.le_trans hS.1 hz, fun q h1 h2 => (hk q (Nat.lt_of_lt_of_le h1 hS.1)).trans (hS.2.1 q h1 h2)⟩⟩) hS.2.2 (Nat.le_of_ble_eq_true rfl) (Nat.le_of_ble_eq_true rfl)
set_option maxHeartbeats 1000000 in
set_option maxRecDepth 100000 in
/-- requireRejection -/
theorem c_X4_requireRejection (l : Launch) (hst : l.stackTraces = false) (dC : Nat → ClassId) (dI : Nat → Nat → Nat) (cy : Nat → ClassId) (sz : Nat) (d0 : Nat) (o : Nat → Nat) (F : Nat → Int32) : vx_Met l yX4_requireRejection wsX4_requireRejection ({ frames := 6, cells := 1, slots := 6, locals := 82 }) (va_Pc [.ref d0] (pR dC dI cy (wObj d0 o F) sz)) (va_Qv (fun (_ : Unit) => c01 (F 8) = 0) (fun (_ : Unit) (_ : State) => True) (fun q => sz ≤ q)) (vx_X (fun (_ : Unit) => True) (fun (E : String) (_ : Unit) (_ : State) => E = "java/util/NoSuchElementException" ∧ c01 (F 8) = 1) (fun q => sz ≤ q)) 1 6 (fun q => sz ≤ q) := by
  refine vx_ofW (cc := cX4_requireRejection) (maxL := 1) (ret := none) (by decide) rfl ?_
  intro p e s m args below meth c s₁ B hml hnt hv
  obtain ⟨rfl, hsz, hP, hE, hX, hZ⟩ := hv
  have hK := hE.1
  subst hsz
  have hS : va_S (fun q => s.heap.size ≤ q) s.heap s.heap [] := va_S.rf
  have hA : ∀ q : Nat, s.heap.size ≤ q → (fun q => s.heap.size ≤ q) q := fun q h => h
  have hP : va_P (dC, dI) vwCl (wObj d0 o F) s.heap := hP
  have hx := B.exec
  have hb := B.bytes
  have hr := B.returns
  have hts := atoms_spec (ws := wsX4_requireRejection) B.pre
  have hown : s.vm.findClass RX4 = some m.cls := findClass_of_methodNamed B.named
  have hlocks := B.notSynchronized
  have hin4 : ∀ w ∈ u_ws RX4 TX4 12, w ∈ wsX4_requireRejection := by decide +kernel
  have f_282 := hts (.fieldLink RX4 282 "DeadlineAdmission" "hasRejection" "Z") (by decide +kernel)
  have hl := lv_entry ([.ref d0]) (n := 1) (Nat.le_of_ble_eq_true rfl)
  rw [lg_entry_eq]
  generalize (lg_sl ([.ref d0]) ++ List.replicate (1 - (lg_sl ([.ref d0])).length) Slot.unset).toArray = ls at hl ⊢
  have hl : lv_has ls 1 [(0, .ref d0)] := hl
  refine lv_aload_n hx hb dX4_requireRejection_0 rfl (lv_at hl 0 rfl) ?_
  refine va_get (D := (dC, dI)) (ci := 4) (v := .int (F 8)) (C := RX4) (T := TX4) (N := 12) hx hb hts hin4 hown hK hP 0 rfl rfl 8 (by decide) f_282 (fun _ h9 => h9) rfl dX4_requireRejection_1 ?_
  refine lv_if_ne (tgt := 18) hx hb dX4_requireRejection_4 (by decide) (fun c_4 => ?_) (fun c_4 => ?_)
  · refine vx_ret ?_
    refine W.widen (k := 1) (n := 6) (Nat.le_of_ble_eq_true rfl) (Nat.le_of_ble_eq_true rfl) ?_
    exact W.vret hx hb hr (fun t ht hW => ⟨⟨(), rfl, (if_neg c_4), trivial⟩, hS.F ht⟩) hS.2.2 dX4_requireRejection_18
  · obtain ⟨sa, hsa⟩ := hX.s 18 (k := 285) (t := "no task has been rejected") rfl
    exact vx_throwSW (names := ["java/lang/RuntimeException", "java/lang/Exception"]) hx hb hst hown (by decide +kernel) (by decide +kernel) (hts (.classLink RX4 273 "java/util/NoSuchElementException") (by decide +kernel)) (hts (.initialized "java/util/NoSuchElementException") (by decide +kernel)) hsa (vx_hat (fun w h => hts w (List.mem_cons_of_mem _ (List.mem_append_right _ h))) ng_NSEE (vx_c (va_Nw.use rfl (hX.c 4 rfl)) (vx_c (va_Nw.use rfl (hX.d 0 rfl)) (vx_c (va_Nw.use rfl (hX.d 1 rfl)) (vx_c (va_Nw.use rfl (hX.d 2 rfl)) vx_n))))) ot_NSEE hZ.1 hZ.2 hS (hl.1.trans hml.symm) dX4_requireRejection_7 dX4_requireRejection_10 dX4_requireRejection_11 dX4_requireRejection_14 dX4_requireRejection_17 (fun x hx9 => (hnt x hx9).elim) (Nat.le_of_ble_eq_true rfl) (Nat.le_of_ble_eq_true rfl) (Nat.le_of_ble_eq_true rfl) (Nat.le_of_ble_eq_true rfl) hlocks (fun t hvm hz hk => ⟨(), trivial, ⟨rfl, if_pos c_4⟩, ⟨Nat.le_trans hS.1 hz, fun q h1 h2 => (hk q (Nat.lt_of_lt_of_le h1 hS.1)).trans (hS.2.1 q h1 h2)⟩⟩) hS.2.2 (Nat.le_of_ble_eq_true rfl) (Nat.le_of_ble_eq_true rfl)
set_option maxHeartbeats 1000000 in
set_option maxRecDepth 100000 in
/-- requireSimulation -/
theorem c_X4_requireSimulation (l : Launch) (hst : l.stackTraces = false) (dC : Nat → ClassId) (dI : Nat → Nat → Nat) (cy : Nat → ClassId) (sz : Nat) (d0 : Nat) (o : Nat → Nat) (F : Nat → Int32) : vx_Met l yX4_requireSimulation wsX4_requireSimulation ({ frames := 6, cells := 1, slots := 6, locals := 82 }) (va_Pc [.ref d0] (pR dC dI cy (wObj d0 o F) sz)) (va_Qv (fun (_ : Unit) => c01 (F 7) = 0) (fun (_ : Unit) (_ : State) => True) (fun q => sz ≤ q)) (vx_X (fun (_ : Unit) => True) (fun (E : String) (_ : Unit) (_ : State) => E = "java/lang/IllegalStateException" ∧ c01 (F 7) = 1) (fun q => sz ≤ q)) 1 6 (fun q => sz ≤ q) := by
  refine vx_ofW (cc := cX4_requireSimulation) (maxL := 1) (ret := none) (by decide) rfl ?_
  intro p e s m args below meth c s₁ B hml hnt hv
  obtain ⟨rfl, hsz, hP, hE, hX, hZ⟩ := hv
  have hK := hE.1
  subst hsz
  have hS : va_S (fun q => s.heap.size ≤ q) s.heap s.heap [] := va_S.rf
  have hA : ∀ q : Nat, s.heap.size ≤ q → (fun q => s.heap.size ≤ q) q := fun q h => h
  have hP : va_P (dC, dI) vwCl (wObj d0 o F) s.heap := hP
  have hx := B.exec
  have hb := B.bytes
  have hr := B.returns
  have hts := atoms_spec (ws := wsX4_requireSimulation) B.pre
  have hown : s.vm.findClass RX4 = some m.cls := findClass_of_methodNamed B.named
  have hlocks := B.notSynchronized
  have hin4 : ∀ w ∈ u_ws RX4 TX4 12, w ∈ wsX4_requireSimulation := by decide +kernel
  have f_145 := hts (.fieldLink RX4 145 "DeadlineAdmission" "hasSimulation" "Z") (by decide +kernel)
  have hl := lv_entry ([.ref d0]) (n := 1) (Nat.le_of_ble_eq_true rfl)
  rw [lg_entry_eq]
  generalize (lg_sl ([.ref d0]) ++ List.replicate (1 - (lg_sl ([.ref d0])).length) Slot.unset).toArray = ls at hl ⊢
  have hl : lv_has ls 1 [(0, .ref d0)] := hl
  refine lv_aload_n hx hb dX4_requireSimulation_0 rfl (lv_at hl 0 rfl) ?_
  refine va_get (D := (dC, dI)) (ci := 4) (v := .int (F 7)) (C := RX4) (T := TX4) (N := 12) hx hb hts hin4 hown hK hP 0 rfl rfl 7 (by decide) f_145 (fun _ h9 => h9) rfl dX4_requireSimulation_1 ?_
  refine lv_if_ne (tgt := 18) hx hb dX4_requireSimulation_4 (by decide) (fun c_4 => ?_) (fun c_4 => ?_)
  · refine vx_ret ?_
    refine W.widen (k := 1) (n := 6) (Nat.le_of_ble_eq_true rfl) (Nat.le_of_ble_eq_true rfl) ?_
    exact W.vret hx hb hr (fun t ht hW => ⟨⟨(), rfl, (if_neg c_4), trivial⟩, hS.F ht⟩) hS.2.2 dX4_requireSimulation_18
  · obtain ⟨sa, hsa⟩ := hX.s 19 (k := 287) (t := "there was no simulation since the latest change") rfl
    exact vx_throwSW (names := ["java/lang/RuntimeException", "java/lang/Exception"]) hx hb hst hown (by decide +kernel) (by decide +kernel) (hts (.classLink RX4 62 "java/lang/IllegalStateException") (by decide +kernel)) (hts (.initialized "java/lang/IllegalStateException") (by decide +kernel)) hsa (vx_hat (fun w h => hts w (List.mem_cons_of_mem _ (List.mem_append_right _ h))) ng_ISE (vx_c (va_Nw.use rfl (hX.c 1 rfl)) (vx_c (va_Nw.use rfl (hX.d 0 rfl)) (vx_c (va_Nw.use rfl (hX.d 1 rfl)) (vx_c (va_Nw.use rfl (hX.d 2 rfl)) vx_n))))) ot_ISE hZ.1 hZ.2 hS (hl.1.trans hml.symm) dX4_requireSimulation_7 dX4_requireSimulation_10 dX4_requireSimulation_11 dX4_requireSimulation_14 dX4_requireSimulation_17 (fun x hx9 => (hnt x hx9).elim) (Nat.le_of_ble_eq_true rfl) (Nat.le_of_ble_eq_true rfl) (Nat.le_of_ble_eq_true rfl) (Nat.le_of_ble_eq_true rfl) hlocks (fun t hvm hz hk => ⟨(), trivial, ⟨rfl, if_pos c_4⟩, ⟨Nat.le_trans hS.1 hz, fun q h1 h2 => (hk q (Nat.lt_of_lt_of_le h1 hS.1)).trans (hS.2.1 q h1 h2)⟩⟩) hS.2.2 (Nat.le_of_ble_eq_true rfl) (Nat.le_of_ble_eq_true rfl)

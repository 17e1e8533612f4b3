/-! PART 47: DeadlineAdmission, propose -/
section PREW
variable {dC : Nat → ClassId} {dI : Nat → Nat → Nat} {cy : Nat → ClassId} {av : List Value} {W : va_W} {sz : Nat} {s : State} {H : Heap} {A : Nat → Prop} {locs : List Loc}
/-- the start of a method that writes and may throw -/
abbrev pX (dC : Nat → ClassId) (dI : Nat → Nat → Nat) (cy : Nat → ClassId) (W : va_W) (sz : Nat) (U : State) : Prop := U.heap.size = sz ∧ va_P (dC, dI) vwCl W U.heap ∧ EV dC dI cy U ∧ va_D (fun _ => True) W ∧ XV U ∧ ZQ (va_A W sz) U U.heap
theorem bl_X : FrameBlind (va_Pc av (pX dC dI cy W sz)) := fun a U g mk q => ⟨q.1, q.2.1, q.2.2.1, EV.same (s := U) rfl q.2.2.2.1, q.2.2.2.2.1, XV.same (s := U) rfl q.2.2.2.2.2.1, ZQ.same (s := U) rfl q.2.2.2.2.2.2⟩
theorem pr_X (hP : va_P (dC, dI) vwCl W H) (hE : EV dC dI cy s) (hD : va_D A W) (hX : XV s) (hZ : ZQ A s s.heap) (hS : va_S A s.heap H locs) (hF : ∀ q, va_A W H.size q → A q) : ∀ U : State, U.heap = H → s.WarmedH U.vm → va_Pc av (pX dC dI cy W H.size) av.toArray U := fun U hU hW => ⟨rfl, by rw [hU], by rw [hU]; exact hP, hE.warm hW, hD.weaken (fun _ _ _ _ => trivial), hX.warm hW, by rw [hU]; exact hZ.go hS hW hF⟩
end PREW
/-- the state of the object and its configurations: numbers; current; trial; ring -/
abbrev AdmS : Type := (Nat → Int32) × (vG × Nat × Int32) × (vG × Nat × Int32) × (Nat × Nat × (Nat → vG) × (Nat → Nat) × (Nat → Int32))
abbrev wAdm (cy : Nat → ClassId) (d0 : Nat) (o : Nat → Nat) (bc bt : Nat → Nat) (rg : Nat) (cs : Nat → Nat) (bs : Nat → Nat → Nat) (u : AdmS) : va_W := wObj d0 o u.1 ++ (wCfg cy (o 0) bc u.2.1.1 (nI u.2.1.2.1) u.2.1.2.2 ++ (wCfg cy (o 1) bt u.2.2.1.1 (nI u.2.2.1.2.1) u.2.2.1.2.2 ++ (wHis cy (o 3) rg u.2.2.2.1 u.2.2.2.2.1 cs bs u.2.2.2.2.2.1 u.2.2.2.2.2.2.1 u.2.2.2.2.2.2.2)))
def cProp (n : Nat) (p0 p1 p2 p3 p4 p5 : Int32) : Int32 := if told p0 p1 p2 p3 p4 p5 then (if n = 8 then 2 else 0) else 1
/-- a change of the class: the old configuration goes into the ring, (T, m, s) is the new one -/
def kChg (F : Nat → Int32) (G : vG) (n : Nat) (sc : Int32) (x kk : Nat) (RG : Nat → vG) (rn : Nat → Nat) (RS : Nat → Int32) (T : vG) (m : Nat) (s : Int32) : AdmS := (upd F 7 0, (cpG G T m, m, s), (T, m, s), ((x + 1) % 6, hcnt kk, va_up RG x (cpG (RG x) G n), va_up rn x n, va_up RS x sc))
def kProp (F : Nat → Int32) (G : vG) (n : Nat) (sc : Int32) (Gt : vG) (x kk : Nat) (RG : Nat → vG) (rn : Nat → Nat) (RS : Nat → Int32) (p0 p1 p2 p3 p4 p5 r : Int32) (u : AdmS) : Prop :=
  cProp n p0 p1 p2 p3 p4 p5 = 0 ∧ ((¬ gscale (pF (cpG Gt G n) n p0 p1 p2 p3 p4 p5) (n + 1) = 0 ∧ r = nI n ∧ u = kChg F G n sc x kk RG rn RS (pF (cpG Gt G n) n p0 p1 p2 p3 p4 p5) (n + 1) (nI (gscale (pF (cpG Gt G n) n p0 p1 p2 p3 p4 p5) (n + 1)))) ∨
  (gscale (pF (cpG Gt G n) n p0 p1 p2 p3 p4 p5) (n + 1) = 0 ∧ r = -1 ∧ ∃ s : Int32, u = (rejF F (pF (cpG Gt G n) n p0 p1 p2 p3 p4 p5) (n + 1), (G, n, sc), (pF (cpG Gt G n) n p0 p1 p2 p3 p4 p5, n + 1, s), (x, kk, RG, rn, RS))))
theorem wk_m {G : vG} {n : Nat} (h : (match wk G n with | none => (0 : Int32) | some _ => 1) = 0) : wk G n = none := by
  rcases e : wk G n with _ | j
  · rfl
  · rw [e] at h; exact absurd (show (1 : Int32) = 0 from h) (by decide)
theorem wk_n {G : vG} {n : Nat} (h : ¬ (match wk G n with | none => (0 : Int32) | some _ => 1) = 0) : ∃ j, wk G n = some j := by
  rcases e : wk G n with _ | j
  · rw [e] at h; exact absurd rfl h
  · exact ⟨j, rfl⟩
set_option maxHeartbeats 1000000 in
set_option maxRecDepth 100000 in
/-- a proposal -/
theorem c_X4_propose (l : Launch) (hst : l.stackTraces = false) (dC : Nat → ClassId) (dI : Nat → Nat → Nat) (cy : Nat → ClassId) (sz : Nat) (d0 : Nat) (o : Nat → Nat) (F : Nat → Int32) (bc : Nat → Nat) (G : vG) (n : Nat) (hn : n ≤ 8) (sc : Int32) (bt : Nat → Nat) (Gt : vG) (nt : Nat) (hnt : nt ≤ 8) (sct : Int32) (rg x kk : Nat) (hx6 : x < 6) (hkk : kk ≤ 6) (cs : Nat → Nat) (bs : Nat → Nat → Nat) (RG : Nat → vG) (rn : Nat → Nat) (RS : Nat → Int32) (p0 p1 p2 p3 p4 p5 : Int32) : vx_Met l yX4_propose wsX4_propose ({ frames := 6, cells := 1, slots := 6, locals := 120 }) (va_Pc [.ref d0, .int p0, .int p1, .int p2, .int p3, .int p4, .int p5] (pX dC dI cy (wObj d0 o F ++ (wCfg cy (o 0) bc G (nI n) sc ++ (wCfg cy (o 1) bt Gt (nI nt) sct ++ (wHis cy (o 3) rg x kk cs bs RG rn RS)))) sz)) (va_Qi (fun (r : Int32) (u : AdmS) => kProp F G n sc Gt x kk RG rn RS p0 p1 p2 p3 p4 p5 r u) (fun (u : AdmS) t => va_P (dC, dI) vwCl (wAdm cy d0 o bc bt rg cs bs u) t.heap ∧ va_D (va_A (wObj d0 o F ++ (wCfg cy (o 0) bc G (nI n) sc ++ (wCfg cy (o 1) bt Gt (nI nt) sct ++ (wHis cy (o 3) rg x kk cs bs RG rn RS)))) sz) (wAdm cy d0 o bc bt rg cs bs u)) (va_A (wObj d0 o F ++ (wCfg cy (o 0) bc G (nI n) sc ++ (wCfg cy (o 1) bt Gt (nI nt) sct ++ (wHis cy (o 3) rg x kk cs bs RG rn RS)))) sz)) (vx_X (fun (_ : Unit) => True) (fun (E : String) (u : Unit) (t : State) => ((E = "java/lang/IllegalArgumentException" ∧ cProp n p0 p1 p2 p3 p4 p5 = 1) ∨ (E = "java/lang/IllegalStateException" ∧ cProp n p0 p1 p2 p3 p4 p5 = 2)) ∧ va_P (dC, dI) vwCl (wObj d0 o F ++ (wCfg cy (o 0) bc G (nI n) sc ++ (wCfg cy (o 1) bt Gt (nI nt) sct ++ (wHis cy (o 3) rg x kk cs bs RG rn RS)))) t.heap ∧ va_D (va_A (wObj d0 o F ++ (wCfg cy (o 0) bc G (nI n) sc ++ (wCfg cy (o 1) bt Gt (nI nt) sct ++ (wHis cy (o 3) rg x kk cs bs RG rn RS)))) sz) (wObj d0 o F ++ (wCfg cy (o 0) bc G (nI n) sc ++ (wCfg cy (o 1) bt Gt (nI nt) sct ++ (wHis cy (o 3) rg x kk cs bs RG rn RS))))) (va_A (wObj d0 o F ++ (wCfg cy (o 0) bc G (nI n) sc ++ (wCfg cy (o 1) bt Gt (nI nt) sct ++ (wHis cy (o 3) rg x kk cs bs RG rn RS)))) sz)) 1 6 (va_A (wObj d0 o F ++ (wCfg cy (o 0) bc G (nI n) sc ++ (wCfg cy (o 1) bt Gt (nI nt) sct ++ (wHis cy (o 3) rg x kk cs bs RG rn RS)))) sz) := by
  refine vx_ofW (cc := cX4_propose) (maxL := 9) (ret := some .int) (by decide) rfl ?_
  intro p e s m args below meth c s₁ B hml hnt hv
  obtain ⟨rfl, hsz, hP, hE, hD0, hX, hZ⟩ := hv
  have hK := hE.1
  subst hsz
  have hD := hD0.self (sz := s.heap.size)
  generalize hAe : va_A (wObj d0 o F ++ (wCfg cy (o 0) bc G (nI n) sc ++ (wCfg cy (o 1) bt Gt (nI nt) sct ++ (wHis cy (o 3) rg x kk cs bs RG rn RS)))) s.heap.size = A at hD hZ ⊢
  have hA : ∀ q : Nat, s.heap.size ≤ q → A q := fun q h => by rw [← hAe]; exact Or.inr h
  have hS : va_S A s.heap s.heap [] := va_S.rf
  have hP : va_P (dC, dI) vwCl (wObj d0 o F ++ (wCfg cy (o 0) bc G (nI n) sc ++ (wCfg cy (o 1) bt Gt (nI nt) sct ++ (wHis cy (o 3) rg x kk cs bs RG rn RS)))) s.heap := hP
  have hx := B.exec
  have hb := B.bytes
  have hr := B.returns
  have hts := atoms_spec (ws := wsX4_propose) B.pre
  have hown : s.vm.findClass RX4 = some m.cls := findClass_of_methodNamed B.named
  have hlocks := B.notSynchronized
  have hin0 : ∀ w ∈ u_ws RX0 TX0 9, w ∈ wsX4_propose := by decide +kernel
  have hin4 : ∀ w ∈ u_ws RX4 TX4 12, w ∈ wsX4_propose := by decide +kernel
  have f_12 := hts (.fieldLink RX4 12 "DeadlineAdmission" "current" "LDeadlineAdmission$Configuration;") (by decide +kernel)
  have f_16 := hts (.fieldLink RX4 16 "DeadlineAdmission" "trial" "LDeadlineAdmission$Configuration;") (by decide +kernel)
  have f_58 := va_Nw.use (A := ([.ref d0, .int p0, .int p1, .int p2, .int p3, .int p4, .int p5].toArray)) rfl (hE.f 9 rfl)
  have hl := lv_entry ([.ref d0, .int p0, .int p1, .int p2, .int p3, .int p4, .int p5]) (n := 9) (Nat.le_of_ble_eq_true rfl)
  rw [lg_entry_eq]
  generalize (lg_sl ([.ref d0, .int p0, .int p1, .int p2, .int p3, .int p4, .int p5]) ++ List.replicate (9 - (lg_sl ([.ref d0, .int p0, .int p1, .int p2, .int p3, .int p4, .int p5])).length) Slot.unset).toArray = ls at hl ⊢
  have hl : lv_has ls 9 [(0, .ref d0), (1, .int p0), (2, .int p1), (3, .int p2), (4, .int p3), (5, .int p4), (6, .int p5)] := hl
  refine lv_iload_n hx hb dX4_propose_0 rfl (lv_at hl 1 rfl) ?_
  refine lv_iload_n hx hb dX4_propose_1 rfl (lv_at hl 2 rfl) ?_
  refine lv_iload_n hx hb dX4_propose_2 rfl (lv_at hl 3 rfl) ?_
  refine lv_iload hx hb dX4_propose_3 (lv_at hl 4 rfl) ?_
  refine vp_callSi (va_runS (As := [.int p0, .int p1, .int p2, .int p3]) (rest := []) ⟨hx, hb, hml, hown, hts⟩ (c_X4_timesAreInRange l p0 p1 p2 p3) (cwS 4 hts gX4_propose_X4_timesAreInRange rfl rfl rfl (by decide +kernel) ⟨Nat.le_of_ble_eq_true rfl, Nat.le_of_ble_eq_true rfl⟩) ⟨fun a U g mk q => q, fun U hU hW => ⟨rfl, trivial⟩⟩ rfl rfl hl.1 rfl (lv_room (Nat.le_of_ble_eq_true rfl)) dX4_propose_5 ⟨Nat.le_of_ble_eq_true rfl, Nat.le_of_ble_eq_true rfl⟩).run (fun r e_r => ?_)
  subst e_r
  refine lv_if_eq (tgt := 23) hx hb dX4_propose_8 (by decide) (fun c_8 => ?_) (fun c_8 => ?_)
  · have htd : ¬ told p0 p1 p2 p3 p4 p5 := fun h => b10.mp c_8 (told_iff.mp h).1
    obtain ⟨sa, hsa⟩ := hX.s 0 (k := 53) (t := "a number is out of range") rfl
    exact vx_throwS (names := ["java/lang/RuntimeException", "java/lang/Exception"]) hx hb hst hown (by decide +kernel) (by decide +kernel) (hts (.classLink RX4 51 "java/lang/IllegalArgumentException") (by decide +kernel)) (hts (.initialized "java/lang/IllegalArgumentException") (by decide +kernel)) hsa (vx_hat (fun w h => hts w (List.mem_cons_of_mem _ (List.mem_append_left _ (List.mem_append_right _ h)))) ng_IAE (vx_c (va_Nw.use rfl (hX.c 0 rfl)) (vx_c (va_Nw.use rfl (hX.d 0 rfl)) (vx_c (va_Nw.use rfl (hX.d 1 rfl)) (vx_c (va_Nw.use rfl (hX.d 2 rfl)) vx_n))))) ot_IAE hZ.1 hZ.2 hS (hl.1.trans hml.symm) dX4_propose_23 dX4_propose_26 dX4_propose_27 dX4_propose_29 dX4_propose_32 (fun x hx9 => (hnt x hx9).elim) (Nat.le_of_ble_eq_true rfl) (Nat.le_of_ble_eq_true rfl) (Nat.le_of_ble_eq_true rfl) (Nat.le_of_ble_eq_true rfl) hlocks (fun t hvm hz hk => ⟨(), trivial, ⟨Or.inl ⟨rfl, if_neg htd⟩, hP.kept (fun k q h9 => hk q.1 ((hP k q h9).lt)), hD⟩, ⟨Nat.le_trans hS.1 hz, fun q h1 h2 => (hk q (Nat.lt_of_lt_of_le h1 hS.1)).trans (hS.2.1 q h1 h2)⟩⟩) hS.2.2 (Nat.le_of_ble_eq_true rfl) (Nat.le_of_ble_eq_true rfl)
  · refine lv_iload hx hb dX4_propose_11 (lv_at hl 4 rfl) ?_
    refine lv_iload hx hb dX4_propose_13 (lv_at hl 5 rfl) ?_
    refine lv_iload hx hb dX4_propose_15 (lv_at hl 6 rfl) ?_
    refine vp_callSi (va_runS (As := [.int p3, .int p4, .int p5]) (rest := []) ⟨hx, hb, hml, hown, hts⟩ (c_X4_ranksAreInRange l p3 p4 p5) (cwS 3 hts gX4_propose_X4_ranksAreInRange rfl rfl rfl (by decide +kernel) ⟨Nat.le_of_ble_eq_true rfl, Nat.le_of_ble_eq_true rfl⟩) ⟨fun a U g mk q => q, fun U hU hW => ⟨rfl, trivial⟩⟩ rfl rfl hl.1 rfl (lv_room (Nat.le_of_ble_eq_true rfl)) dX4_propose_17 ⟨Nat.le_of_ble_eq_true rfl, Nat.le_of_ble_eq_true rfl⟩).run (fun r e_r => ?_)
    subst e_r
    refine lv_if_ne (tgt := 33) hx hb dX4_propose_20 (by decide) (fun c_20 => ?_) (fun c_20 => ?_)
    · have htd : told p0 p1 p2 p3 p4 p5 := told_iff.mpr ⟨nb10 c_8, nb10 c_20⟩
      refine lv_aload_n hx hb dX4_propose_33 rfl (lv_at hl 0 rfl) ?_
      refine va_get (D := (dC, dI)) (ci := 4) (v := .ref (o 0)) (C := RX4) (T := TX4) (N := 12) hx hb hts hin4 hown hK hP 0 rfl rfl 0 (by decide) f_12 (fun _ h9 => h9) rfl dX4_propose_34 ?_
      refine va_getN (D := (dC, dI)) (ci := 0) (v := .int (nI n)) (C := RX0) (T := TX0) (N := 9) hx hb hts hin0 hown hK hP 1 rfl rfl 7 (by decide) f_58 (fun _ h9 => h9) rfl dX4_propose_37 ?_
      refine lv_bipush (v := 8) hx hb dX4_propose_40 (by decide) ?_
      refine lv_icmp_lt (tgt := 55) hx hb dX4_propose_42 (by decide) (fun c_42 => ?_) (fun c_42 => ?_)
      · have hn9 : n < 8 := (nI_ltI (b := 8) (by omega) (by omega)).mp c_42
        refine lv_aload_n hx hb dX4_propose_55 rfl (lv_at hl 0 rfl) ?_
        refine va_get (D := (dC, dI)) (ci := 4) (v := .ref (o 1)) (C := RX4) (T := TX4) (N := 12) hx hb hts hin4 hown hK hP 0 rfl rfl 1 (by decide) f_16 (fun _ h9 => h9) rfl dX4_propose_56 ?_
        refine lv_aload_n hx hb dX4_propose_59 rfl (lv_at hl 0 rfl) ?_
        refine va_get (D := (dC, dI)) (ci := 4) (v := .ref (o 0)) (C := RX4) (T := TX4) (N := 12) hx hb hts hin4 hown hK hP 0 rfl rfl 0 (by decide) f_12 (fun _ h9 => h9) rfl dX4_propose_60 ?_
        have hPc := hP.sub (ws' := wCfg cy (o 1) bt Gt (nI nt) sct ++ (wCfg cy (o 0) bc G (nI n) sc)) [9, 10, 11, 12, 13, 14, 15, 16, 1, 2, 3, 4, 5, 6, 7, 8] rfl
        have hDc := hD.sub (ws' := wCfg cy (o 1) bt Gt (nI nt) sct ++ (wCfg cy (o 0) bc G (nI n) sc)) [9, 10, 11, 12, 13, 14, 15, 16, 1, 2, 3, 4, 5, 6, 7, 8] (by decide) rfl
        have hFc := va_free (wc := wCfg cy (o 1) bt Gt (nI nt) sct ++ (wCfg cy (o 0) bc G (nI n) sc)) hD hS hA [9, 10, 11, 12, 13, 14, 15, 16, 1, 2, 3, 4, 5, 6, 7, 8] rfl
        refine va_callv (va_runV (As := [.ref (o 0)]) (rest := []) ⟨hx, hb, hml, hown, hts⟩ (c_X0_copyFrom l dC dI cy s.heap.size (o 1) bt Gt (nI nt) sct (o 0) bc G n hn sc) (cwV 1 hts gX4_propose_X0_copyFrom rfl rfl rfl (by decide +kernel) ⟨Nat.le_of_ble_eq_true rfl, Nat.le_of_ble_eq_true rfl⟩) ⟨bl_in, va_recv hK hPc (ci := 0) (q0 := 0) rfl rfl, pr_in hPc hE hDc⟩ rfl rfl hl.1 rfl (lv_room (Nat.le_of_ble_eq_true rfl)) dX4_propose_63 ⟨Nat.le_of_ble_eq_true rfl, Nat.le_of_ble_eq_true rfl⟩) hS (fun q _ h => hFc q h) hFc (fun u t H1 locs ht hvm hw hB hz1 hk1 hS => ?_)
        obtain ⟨hP1, hD1⟩ := hB
        rw [ht] at hP1
        obtain ⟨hP, hD⟩ := va_join (wr := wObj d0 o F ++ (wHis cy (o 3) rg x kk cs bs RG rn RS)) (w1 := wCfg cy (o 1) bt (cpG Gt G n) (nI n) sc ++ (wCfg cy (o 0) bc G (nI n) sc)) hP hD [9, 10, 11, 12, 13, 14, 15, 16, 1, 2, 3, 4, 5, 6, 7, 8] [0, 17, 18, 19, 20, 21, 22, 23, 24, 25, 26, 27, 28, 29, 30, 31, 32, 33, 34, 35, 36, 37, 38, 39, 40, 41, 42, 43, 44, 45, 46, 47, 48, 49, 50, 51, 52, 53, 54, 55, 56, 57, 58, 59, 60, 61, 62, 63, 64, 65, 66] rfl rfl (by decide) (by decide) hk1 hFc hP1 hD1
        have hP : va_P (dC, dI) vwCl (wObj d0 o F ++ (wCfg cy (o 0) bc G (nI n) sc ++ (wCfg cy (o 1) bt (cpG Gt G n) (nI n) sc ++ (wHis cy (o 3) rg x kk cs bs RG rn RS)))) H1 := hP.sub [0, 59, 60, 61, 62, 63, 64, 65, 66, 51, 52, 53, 54, 55, 56, 57, 58, 1, 2, 3, 4, 5, 6, 7, 8, 9, 10, 11, 12, 13, 14, 15, 16, 17, 18, 19, 20, 21, 22, 23, 24, 25, 26, 27, 28, 29, 30, 31, 32, 33, 34, 35, 36, 37, 38, 39, 40, 41, 42, 43, 44, 45, 46, 47, 48, 49, 50] rfl
        have hD : va_D A (wObj d0 o F ++ (wCfg cy (o 0) bc G (nI n) sc ++ (wCfg cy (o 1) bt (cpG Gt G n) (nI n) sc ++ (wHis cy (o 3) rg x kk cs bs RG rn RS)))) := hD.sub [0, 59, 60, 61, 62, 63, 64, 65, 66, 51, 52, 53, 54, 55, 56, 57, 58, 1, 2, 3, 4, 5, 6, 7, 8, 9, 10, 11, 12, 13, 14, 15, 16, 17, 18, 19, 20, 21, 22, 23, 24, 25, 26, 27, 28, 29, 30, 31, 32, 33, 34, 35, 36, 37, 38, 39, 40, 41, 42, 43, 44, 45, 46, 47, 48, 49, 50] (by decide) rfl
        clear hz1 hk1 hPc hDc hFc hP1 hD1
        generalize H1 = H at hP hS ⊢
        refine lv_aload_n hx hb dX4_propose_66 rfl (lv_at hl 0 rfl) ?_
        refine va_get (D := (dC, dI)) (ci := 4) (v := .ref (o 1)) (C := RX4) (T := TX4) (N := 12) hx hb hts hin4 hown hK hP 0 rfl rfl 1 (by decide) f_16 (fun _ h9 => h9) rfl dX4_propose_67 ?_
        refine lv_iload_n hx hb dX4_propose_70 rfl (lv_at hl 1 rfl) ?_
        refine lv_iload_n hx hb dX4_propose_71 rfl (lv_at hl 2 rfl) ?_
        refine lv_iload_n hx hb dX4_propose_72 rfl (lv_at hl 3 rfl) ?_
        refine lv_iload hx hb dX4_propose_73 (lv_at hl 4 rfl) ?_
        refine lv_iload hx hb dX4_propose_75 (lv_at hl 5 rfl) ?_
        refine lv_iload hx hb dX4_propose_77 (lv_at hl 6 rfl) ?_
        have hPc := hP.sub (ws' := wCfg cy (o 1) bt (cpG Gt G n) (nI n) sc) [9, 10, 11, 12, 13, 14, 15, 16] rfl
        have hDc := hD.sub (ws' := wCfg cy (o 1) bt (cpG Gt G n) (nI n) sc) [9, 10, 11, 12, 13, 14, 15, 16] (by decide) rfl
        have hFc := va_free (wc := wCfg cy (o 1) bt (cpG Gt G n) (nI n) sc) hD hS hA [9, 10, 11, 12, 13, 14, 15, 16] rfl
        refine va_callv (va_runV (As := [.int p0, .int p1, .int p2, .int p3, .int p4, .int p5]) (rest := []) ⟨hx, hb, hml, hown, hts⟩ (c_X0_append l dC dI cy H.size (o 1) bt (cpG Gt G n) n (by omega) sc p0 p1 p2 p3 p4 p5) (cwV 6 hts gX4_propose_X0_append rfl rfl rfl (by decide +kernel) ⟨Nat.le_of_ble_eq_true rfl, Nat.le_of_ble_eq_true rfl⟩) ⟨bl_in, va_recv hK hPc (ci := 0) (q0 := 0) rfl rfl, pr_in hPc hE hDc⟩ rfl rfl hl.1 rfl (lv_room (Nat.le_of_ble_eq_true rfl)) dX4_propose_79 ⟨Nat.le_of_ble_eq_true rfl, Nat.le_of_ble_eq_true rfl⟩) hS (fun q _ h => hFc q h) hFc (fun u t H1 locs ht hvm hw hB hz1 hk1 hS => ?_)
        obtain ⟨hP1, hD1⟩ := hB
        rw [ht] at hP1
        obtain ⟨hP, hD⟩ := va_join (wr := wObj d0 o F ++ (wCfg cy (o 0) bc G (nI n) sc ++ (wHis cy (o 3) rg x kk cs bs RG rn RS))) (w1 := wCfg cy (o 1) bt (setc (cpG Gt G n) n (colA p0 p1 p2 p3 p4 p5)) (nI (n + 1)) sc) hP hD [9, 10, 11, 12, 13, 14, 15, 16] [0, 1, 2, 3, 4, 5, 6, 7, 8, 17, 18, 19, 20, 21, 22, 23, 24, 25, 26, 27, 28, 29, 30, 31, 32, 33, 34, 35, 36, 37, 38, 39, 40, 41, 42, 43, 44, 45, 46, 47, 48, 49, 50, 51, 52, 53, 54, 55, 56, 57, 58, 59, 60, 61, 62, 63, 64, 65, 66] rfl rfl (by decide) (by decide) hk1 hFc hP1 hD1
        have hP : va_P (dC, dI) vwCl (wObj d0 o F ++ (wCfg cy (o 0) bc G (nI n) sc ++ (wCfg cy (o 1) bt (setc (cpG Gt G n) n (colA p0 p1 p2 p3 p4 p5)) (nI (n + 1)) sc ++ (wHis cy (o 3) rg x kk cs bs RG rn RS)))) H1 := hP.sub [0, 1, 2, 3, 4, 5, 6, 7, 8, 59, 60, 61, 62, 63, 64, 65, 66, 9, 10, 11, 12, 13, 14, 15, 16, 17, 18, 19, 20, 21, 22, 23, 24, 25, 26, 27, 28, 29, 30, 31, 32, 33, 34, 35, 36, 37, 38, 39, 40, 41, 42, 43, 44, 45, 46, 47, 48, 49, 50, 51, 52, 53, 54, 55, 56, 57, 58] rfl
        have hD : va_D A (wObj d0 o F ++ (wCfg cy (o 0) bc G (nI n) sc ++ (wCfg cy (o 1) bt (setc (cpG Gt G n) n (colA p0 p1 p2 p3 p4 p5)) (nI (n + 1)) sc ++ (wHis cy (o 3) rg x kk cs bs RG rn RS)))) := hD.sub [0, 1, 2, 3, 4, 5, 6, 7, 8, 59, 60, 61, 62, 63, 64, 65, 66, 9, 10, 11, 12, 13, 14, 15, 16, 17, 18, 19, 20, 21, 22, 23, 24, 25, 26, 27, 28, 29, 30, 31, 32, 33, 34, 35, 36, 37, 38, 39, 40, 41, 42, 43, 44, 45, 46, 47, 48, 49, 50, 51, 52, 53, 54, 55, 56, 57, 58] (by decide) rfl
        clear hz1 hk1 hPc hDc hFc hP1 hD1
        generalize H1 = H at hP hS ⊢
        refine lv_aload_n hx hb dX4_propose_82 rfl (lv_at hl 0 rfl) ?_
        refine va_get (D := (dC, dI)) (ci := 4) (v := .ref (o 1)) (C := RX4) (T := TX4) (N := 12) hx hb hts hin4 hown hK hP 0 rfl rfl 1 (by decide) f_16 (fun _ h9 => h9) rfl dX4_propose_83 ?_
        have hPc := hP.sub (ws' := wCfg cy (o 1) bt (setc (cpG Gt G n) n (colA p0 p1 p2 p3 p4 p5)) (nI (n + 1)) sc) [9, 10, 11, 12, 13, 14, 15, 16] rfl
        have hDc := hD.sub (ws' := wCfg cy (o 1) bt (setc (cpG Gt G n) n (colA p0 p1 p2 p3 p4 p5)) (nI (n + 1)) sc) [9, 10, 11, 12, 13, 14, 15, 16] (by decide) rfl
        have hFc := va_free (wc := wCfg cy (o 1) bt (setc (cpG Gt G n) n (colA p0 p1 p2 p3 p4 p5)) (nI (n + 1)) sc) hD hS hA [9, 10, 11, 12, 13, 14, 15, 16] rfl
        refine va_calli (va_runV (As := []) (rest := []) ⟨hx, hb, hml, hown, hts⟩ (c_X0_takeGreatestScale l dC dI cy H.size (o 1) bt (setc (cpG Gt G n) n (colA p0 p1 p2 p3 p4 p5)) (n + 1) (by omega) sc ) (cwV 0 hts gX4_propose_X0_takeGreatestScale rfl rfl rfl (by decide +kernel) ⟨Nat.le_of_ble_eq_true rfl, Nat.le_of_ble_eq_true rfl⟩) ⟨bl_in, va_recv hK hPc (ci := 0) (q0 := 0) rfl rfl, pr_in hPc hE hDc⟩ rfl rfl hl.1 rfl (lv_room (Nat.le_of_ble_eq_true rfl)) dX4_propose_86 ⟨Nat.le_of_ble_eq_true rfl, Nat.le_of_ble_eq_true rfl⟩) hS (fun q _ h => hFc q h) hFc (fun r u t H1 locs ht hvm hw hB hz1 hk1 hS => ?_)
        obtain ⟨r_86, rfl⟩ : ∃ z, z = r := ⟨_, rfl⟩
        obtain ⟨u_86, rfl⟩ : ∃ z, z = u := ⟨_, rfl⟩
        obtain ⟨er_86, eu_86⟩ := hw
        obtain ⟨hP1, hD1⟩ := hB
        rw [ht] at hP1
        obtain ⟨hP, hD⟩ := va_join (wr := wObj d0 o F ++ (wCfg cy (o 0) bc G (nI n) sc ++ (wHis cy (o 3) rg x kk cs bs RG rn RS))) (w1 := wCfg cy (o 1) bt (setc (cpG Gt G n) n (colA p0 p1 p2 p3 p4 p5)) (nI (n + 1)) u_86) hP hD [9, 10, 11, 12, 13, 14, 15, 16] [0, 1, 2, 3, 4, 5, 6, 7, 8, 17, 18, 19, 20, 21, 22, 23, 24, 25, 26, 27, 28, 29, 30, 31, 32, 33, 34, 35, 36, 37, 38, 39, 40, 41, 42, 43, 44, 45, 46, 47, 48, 49, 50, 51, 52, 53, 54, 55, 56, 57, 58, 59, 60, 61, 62, 63, 64, 65, 66] rfl rfl (by decide) (by decide) hk1 hFc hP1 hD1
        have hP : va_P (dC, dI) vwCl (wObj d0 o F ++ (wCfg cy (o 0) bc G (nI n) sc ++ (wCfg cy (o 1) bt (setc (cpG Gt G n) n (colA p0 p1 p2 p3 p4 p5)) (nI (n + 1)) u_86 ++ (wHis cy (o 3) rg x kk cs bs RG rn RS)))) H1 := hP.sub [0, 1, 2, 3, 4, 5, 6, 7, 8, 59, 60, 61, 62, 63, 64, 65, 66, 9, 10, 11, 12, 13, 14, 15, 16, 17, 18, 19, 20, 21, 22, 23, 24, 25, 26, 27, 28, 29, 30, 31, 32, 33, 34, 35, 36, 37, 38, 39, 40, 41, 42, 43, 44, 45, 46, 47, 48, 49, 50, 51, 52, 53, 54, 55, 56, 57, 58] rfl
        have hD : va_D A (wObj d0 o F ++ (wCfg cy (o 0) bc G (nI n) sc ++ (wCfg cy (o 1) bt (setc (cpG Gt G n) n (colA p0 p1 p2 p3 p4 p5)) (nI (n + 1)) u_86 ++ (wHis cy (o 3) rg x kk cs bs RG rn RS)))) := hD.sub [0, 1, 2, 3, 4, 5, 6, 7, 8, 59, 60, 61, 62, 63, 64, 65, 66, 9, 10, 11, 12, 13, 14, 15, 16, 17, 18, 19, 20, 21, 22, 23, 24, 25, 26, 27, 28, 29, 30, 31, 32, 33, 34, 35, 36, 37, 38, 39, 40, 41, 42, 43, 44, 45, 46, 47, 48, 49, 50, 51, 52, 53, 54, 55, 56, 57, 58] (by decide) rfl
        clear hz1 hk1 hPc hDc hFc hP1 hD1
        generalize H1 = H at hP hS ⊢
        refine lv_istore (lv' := [(7, .int r_86), (0, .ref d0), (1, .int p0), (2, .int p1), (3, .int p2), (4, .int p3), (5, .int p4), (6, .int p5)]) hx hb dX4_propose_89 hl (by decide) rfl (fun ls hl => ?_)
        refine lv_iconst (v := 0) hx hb dX4_propose_91 (by decide) ?_
        refine lv_istore (lv' := [(8, .int 0), (7, .int r_86), (0, .ref d0), (1, .int p0), (2, .int p1), (3, .int p2), (4, .int p3), (5, .int p4), (6, .int p5)]) hx hb dX4_propose_92 hl (by decide) rfl (fun ls hl => ?_)
        have tail131 : ∀ (ad : Int32) (Gk : vG) (sck : Int32) (ls : Array Slot), ad = (if gscale Gk (n + 1) = 0 then 0 else 1) → (¬ gscale Gk (n + 1) = 0 → sck = nI (gscale Gk (n + 1))) → pF (cpG Gt G n) n p0 p1 p2 p3 p4 p5 = Gk → ∀ (H : Heap) (locs : List Loc), va_P (dC, dI) vwCl (wObj d0 o F ++ (wCfg cy (o 0) bc G (nI n) sc ++ (wCfg cy (o 1) bt Gk (nI (n + 1)) sck ++ (wHis cy (o 3) rg x kk cs bs RG rn RS)))) H → va_D A (wObj d0 o F ++ (wCfg cy (o 0) bc G (nI n) sc ++ (wCfg cy (o 1) bt Gk (nI (n + 1)) sck ++ (wHis cy (o 3) rg x kk cs bs RG rn RS)))) → va_S A s.heap H locs → lv_has ls 9 [(0, .ref d0), (7, .int ad)] → W p l e (headSpec wsX4_propose ({ frames := 6, cells := 1, slots := 6, locals := 120 }) |>.room) s m (([.ref d0, .int p0, .int p1, .int p2, .int p3, .int p4, .int p5].toArray)) below meth c H locs 0 0 (vx_MQ below (va_Qi (fun (r : Int32) (u : AdmS) => kProp F G n sc Gt x kk RG rn RS p0 p1 p2 p3 p4 p5 r u) (fun (u : AdmS) t => va_P (dC, dI) vwCl (wAdm cy d0 o bc bt rg cs bs u) t.heap ∧ va_D (A) (wAdm cy d0 o bc bt rg cs bs u)) (A)) (vx_X (fun (_ : Unit) => True) (fun (E : String) (u : Unit) (t : State) => ((E = "java/lang/IllegalArgumentException" ∧ cProp n p0 p1 p2 p3 p4 p5 = 1) ∨ (E = "java/lang/IllegalStateException" ∧ cProp n p0 p1 p2 p3 p4 p5 = 2)) ∧ va_P (dC, dI) vwCl (wObj d0 o F ++ (wCfg cy (o 0) bc G (nI n) sc ++ (wCfg cy (o 1) bt Gt (nI nt) sct ++ (wHis cy (o 3) rg x kk cs bs RG rn RS)))) t.heap ∧ va_D (A) (wObj d0 o F ++ (wCfg cy (o 0) bc G (nI n) sc ++ (wCfg cy (o 1) bt Gt (nI nt) sct ++ (wHis cy (o 3) rg x kk cs bs RG rn RS))))) (A)) ([.ref d0, .int p0, .int p1, .int p2, .int p3, .int p4, .int p5].toArray) s 1 6 A) (F0 m 131 ls []) := by
          intro ad Gk sck ls ead esc hT H locs hP hD hS hl
          refine lv_iload hx hb dX4_propose_131 (lv_at hl 1 rfl) ?_
          refine lv_if_ne (tgt := 142) hx hb dX4_propose_133 (by decide) (fun c_133 => ?_) (fun c_133 => ?_)
          · have g1 : ¬ gscale Gk (n + 1) = 0 := fun h => c_133 (by rw [ead]; exact b01.mpr h)
            have esck := esc g1
            refine lv_aload_n hx hb dX4_propose_142 rfl (lv_at hl 0 rfl) ?_
            have hPc := hP.sub (ws' := wObj d0 o F ++ (wCfg cy (o 0) bc G (nI n) sc ++ (wCfg cy (o 1) bt Gk (nI (n + 1)) sck ++ (wHis cy (o 3) rg x kk cs bs RG rn RS)))) [0, 1, 2, 3, 4, 5, 6, 7, 8, 9, 10, 11, 12, 13, 14, 15, 16, 17, 18, 19, 20, 21, 22, 23, 24, 25, 26, 27, 28, 29, 30, 31, 32, 33, 34, 35, 36, 37, 38, 39, 40, 41, 42, 43, 44, 45, 46, 47, 48, 49, 50, 51, 52, 53, 54, 55, 56, 57, 58, 59, 60, 61, 62, 63, 64, 65, 66] rfl
            have hDc := hD.sub (ws' := wObj d0 o F ++ (wCfg cy (o 0) bc G (nI n) sc ++ (wCfg cy (o 1) bt Gk (nI (n + 1)) sck ++ (wHis cy (o 3) rg x kk cs bs RG rn RS)))) [0, 1, 2, 3, 4, 5, 6, 7, 8, 9, 10, 11, 12, 13, 14, 15, 16, 17, 18, 19, 20, 21, 22, 23, 24, 25, 26, 27, 28, 29, 30, 31, 32, 33, 34, 35, 36, 37, 38, 39, 40, 41, 42, 43, 44, 45, 46, 47, 48, 49, 50, 51, 52, 53, 54, 55, 56, 57, 58, 59, 60, 61, 62, 63, 64, 65, 66] (by decide) rfl
            have hFc := va_free (wc := wObj d0 o F ++ (wCfg cy (o 0) bc G (nI n) sc ++ (wCfg cy (o 1) bt Gk (nI (n + 1)) sck ++ (wHis cy (o 3) rg x kk cs bs RG rn RS)))) hD hS hA [0, 1, 2, 3, 4, 5, 6, 7, 8, 9, 10, 11, 12, 13, 14, 15, 16, 17, 18, 19, 20, 21, 22, 23, 24, 25, 26, 27, 28, 29, 30, 31, 32, 33, 34, 35, 36, 37, 38, 39, 40, 41, 42, 43, 44, 45, 46, 47, 48, 49, 50, 51, 52, 53, 54, 55, 56, 57, 58, 59, 60, 61, 62, 63, 64, 65, 66] rfl
            refine va_callv (va_runV (As := []) (rest := []) ⟨hx, hb, hml, hown, hts⟩ (c_X4_commitTrial l dC dI cy H.size d0 o F bc G n hn sc bt Gk (n + 1) (by omega) sck rg x kk hx6 hkk cs bs RG rn RS) (cwV 0 hts gX4_propose_X4_commitTrial rfl rfl rfl (by decide +kernel) ⟨Nat.le_of_ble_eq_true rfl, Nat.le_of_ble_eq_true rfl⟩) ⟨bl_in, va_recv hK hPc (ci := 4) (q0 := 0) rfl rfl, pr_in hPc hE hDc⟩ rfl rfl hl.1 rfl (lv_room (Nat.le_of_ble_eq_true rfl)) dX4_propose_143 ⟨Nat.le_of_ble_eq_true rfl, Nat.le_of_ble_eq_true rfl⟩) hS (fun q _ h => hFc q h) hFc (fun u t H1 locs ht hvm hw hB hz1 hk1 hS => ?_)
            obtain ⟨hP1, hD1⟩ := hB
            rw [ht] at hP1
            obtain ⟨hP, hD⟩ := va_join (wr := []) (w1 := wObj d0 o (upd F 7 0) ++ (wCfg cy (o 0) bc (cpG G Gk (n + 1)) (nI (n + 1)) sck ++ (wCfg cy (o 1) bt Gk (nI (n + 1)) sck ++ (wHis cy (o 3) rg ((x + 1) % 6) (hcnt kk) cs bs (va_up RG x (cpG (RG x) G n)) (va_up rn x n) (va_up RS x sc))))) hP hD [0, 1, 2, 3, 4, 5, 6, 7, 8, 9, 10, 11, 12, 13, 14, 15, 16, 17, 18, 19, 20, 21, 22, 23, 24, 25, 26, 27, 28, 29, 30, 31, 32, 33, 34, 35, 36, 37, 38, 39, 40, 41, 42, 43, 44, 45, 46, 47, 48, 49, 50, 51, 52, 53, 54, 55, 56, 57, 58, 59, 60, 61, 62, 63, 64, 65, 66] [] rfl rfl (by decide) (by decide) hk1 hFc hP1 hD1
            have hP : va_P (dC, dI) vwCl (wObj d0 o (upd F 7 0) ++ (wCfg cy (o 0) bc (cpG G Gk (n + 1)) (nI (n + 1)) sck ++ (wCfg cy (o 1) bt Gk (nI (n + 1)) sck ++ (wHis cy (o 3) rg ((x + 1) % 6) (hcnt kk) cs bs (va_up RG x (cpG (RG x) G n)) (va_up rn x n) (va_up RS x sc))))) H1 := hP.sub [0, 1, 2, 3, 4, 5, 6, 7, 8, 9, 10, 11, 12, 13, 14, 15, 16, 17, 18, 19, 20, 21, 22, 23, 24, 25, 26, 27, 28, 29, 30, 31, 32, 33, 34, 35, 36, 37, 38, 39, 40, 41, 42, 43, 44, 45, 46, 47, 48, 49, 50, 51, 52, 53, 54, 55, 56, 57, 58, 59, 60, 61, 62, 63, 64, 65, 66] rfl
            have hD : va_D A (wObj d0 o (upd F 7 0) ++ (wCfg cy (o 0) bc (cpG G Gk (n + 1)) (nI (n + 1)) sck ++ (wCfg cy (o 1) bt Gk (nI (n + 1)) sck ++ (wHis cy (o 3) rg ((x + 1) % 6) (hcnt kk) cs bs (va_up RG x (cpG (RG x) G n)) (va_up rn x n) (va_up RS x sc))))) := hD.sub [0, 1, 2, 3, 4, 5, 6, 7, 8, 9, 10, 11, 12, 13, 14, 15, 16, 17, 18, 19, 20, 21, 22, 23, 24, 25, 26, 27, 28, 29, 30, 31, 32, 33, 34, 35, 36, 37, 38, 39, 40, 41, 42, 43, 44, 45, 46, 47, 48, 49, 50, 51, 52, 53, 54, 55, 56, 57, 58, 59, 60, 61, 62, 63, 64, 65, 66] (by decide) rfl
            clear hz1 hk1 hPc hDc hFc hP1 hD1
            generalize H1 = H at hP hS ⊢
            refine lv_aload_n hx hb dX4_propose_146 rfl (lv_at hl 0 rfl) ?_
            refine va_get (D := (dC, dI)) (ci := 4) (v := .ref (o 0)) (C := RX4) (T := TX4) (N := 12) hx hb hts hin4 hown hK hP 0 rfl rfl 0 (by decide) f_12 (fun _ h9 => h9) rfl dX4_propose_147 ?_
            refine va_getN (D := (dC, dI)) (ci := 0) (v := .int (nI (n + 1))) (C := RX0) (T := TX0) (N := 9) hx hb hts hin0 hown hK hP 1 rfl rfl 7 (by decide) f_58 (fun _ h9 => h9) rfl dX4_propose_150 ?_
            refine lv_iconst (v := 1) hx hb dX4_propose_153 (by decide) ?_
            refine lv_isub hx hb dX4_propose_154 ?_
            refine lv_topi (fun y_ ey_ => ?_)
            obtain rfl : y_ = nI n := ey_.trans (nI_pred n)
            refine vx_ret ?_
            refine W.widen (k := 1) (n := 6) (Nat.le_of_ble_eq_true rfl) (Nat.le_of_ble_eq_true rfl) ?_
            have hP9 : va_P (dC, dI) vwCl (wObj d0 o (upd F 7 0) ++ (wCfg cy (o 0) bc (cpG G Gk (n + 1)) (nI (n + 1)) sck ++ (wCfg cy (o 1) bt Gk (nI (n + 1)) sck ++ (wHis cy (o 3) rg ((x + 1) % 6) (hcnt kk) cs bs (va_up RG x (cpG (RG x) G n)) (va_up rn x n) (va_up RS x sc))))) H := hP
            have hD9 : va_D A (wObj d0 o (upd F 7 0) ++ (wCfg cy (o 0) bc (cpG G Gk (n + 1)) (nI (n + 1)) sck ++ (wCfg cy (o 1) bt Gk (nI (n + 1)) sck ++ (wHis cy (o 3) rg ((x + 1) % 6) (hcnt kk) cs bs (va_up RG x (cpG (RG x) G n)) (va_up rn x n) (va_up RS x sc))))) := hD
            exact W.iret (v := nI n) hx hb hr (fun t ht hW => ⟨⟨nI n, (upd F 7 0, (cpG G Gk (n + 1), n + 1, sck), (Gk, n + 1, sck), ((x + 1) % 6, hcnt kk, va_up RG x (cpG (RG x) G n), va_up rn x n, va_up RS x sc)), rfl, ⟨by rw [cProp, if_pos htd, if_neg (by omega)], Or.inl ⟨by rw [hT]; exact g1, rfl, by rw [hT, ← esck]; rfl⟩⟩, by rw [ht]; exact hP9, hD9⟩, hS.F ht⟩) hS.2.2 dX4_propose_155
          · have g1 : gscale Gk (n + 1) = 0 := b01.mp (by rw [← ead]; exact c_133)
            refine lv_aload_n hx hb dX4_propose_136 rfl (lv_at hl 0 rfl) ?_
            have hPc := hP.sub (ws' := wObj d0 o F ++ (wCfg cy (o 1) bt Gk (nI (n + 1)) sck)) [0, 9, 10, 11, 12, 13, 14, 15, 16] rfl
            have hDc := hD.sub (ws' := wObj d0 o F ++ (wCfg cy (o 1) bt Gk (nI (n + 1)) sck)) [0, 9, 10, 11, 12, 13, 14, 15, 16] (by decide) rfl
            have hFc := va_free (wc := wObj d0 o F ++ (wCfg cy (o 1) bt Gk (nI (n + 1)) sck)) hD hS hA [0, 9, 10, 11, 12, 13, 14, 15, 16] rfl
            refine va_callv (va_runV (As := []) (rest := []) ⟨hx, hb, hml, hown, hts⟩ (c_X4_recordRejection l dC dI cy H.size d0 o F bt Gk (n + 1) (by omega) sck) (cwV 0 hts gX4_propose_X4_recordRejection rfl rfl rfl (by decide +kernel) ⟨Nat.le_of_ble_eq_true rfl, Nat.le_of_ble_eq_true rfl⟩) ⟨bl_in, va_recv hK hPc (ci := 4) (q0 := 0) rfl rfl, pr_in hPc hE hDc⟩ rfl rfl hl.1 rfl (lv_room (Nat.le_of_ble_eq_true rfl)) dX4_propose_137 ⟨Nat.le_of_ble_eq_true rfl, Nat.le_of_ble_eq_true rfl⟩) hS (fun q _ h => hFc q h) hFc (fun u t H1 locs ht hvm hw hB hz1 hk1 hS => ?_)
            obtain ⟨F9, rfl⟩ : ∃ z, z = u := ⟨_, rfl⟩
            have eF9 := hw
            obtain ⟨hP1, hD1⟩ := hB
            rw [ht] at hP1
            obtain ⟨hP, hD⟩ := va_join (wr := wCfg cy (o 0) bc G (nI n) sc ++ (wHis cy (o 3) rg x kk cs bs RG rn RS)) (w1 := wObj d0 o F9 ++ (wCfg cy (o 1) bt Gk (nI (n + 1)) sck)) hP hD [0, 9, 10, 11, 12, 13, 14, 15, 16] [1, 2, 3, 4, 5, 6, 7, 8, 17, 18, 19, 20, 21, 22, 23, 24, 25, 26, 27, 28, 29, 30, 31, 32, 33, 34, 35, 36, 37, 38, 39, 40, 41, 42, 43, 44, 45, 46, 47, 48, 49, 50, 51, 52, 53, 54, 55, 56, 57, 58, 59, 60, 61, 62, 63, 64, 65, 66] rfl rfl (by decide) (by decide) hk1 hFc hP1 hD1
            have hP : va_P (dC, dI) vwCl (wObj d0 o F9 ++ (wCfg cy (o 0) bc G (nI n) sc ++ (wCfg cy (o 1) bt Gk (nI (n + 1)) sck ++ (wHis cy (o 3) rg x kk cs bs RG rn RS)))) H1 := hP.sub [58, 0, 1, 2, 3, 4, 5, 6, 7, 59, 60, 61, 62, 63, 64, 65, 66, 8, 9, 10, 11, 12, 13, 14, 15, 16, 17, 18, 19, 20, 21, 22, 23, 24, 25, 26, 27, 28, 29, 30, 31, 32, 33, 34, 35, 36, 37, 38, 39, 40, 41, 42, 43, 44, 45, 46, 47, 48, 49, 50, 51, 52, 53, 54, 55, 56, 57] rfl
            have hD : va_D A (wObj d0 o F9 ++ (wCfg cy (o 0) bc G (nI n) sc ++ (wCfg cy (o 1) bt Gk (nI (n + 1)) sck ++ (wHis cy (o 3) rg x kk cs bs RG rn RS)))) := hD.sub [58, 0, 1, 2, 3, 4, 5, 6, 7, 59, 60, 61, 62, 63, 64, 65, 66, 8, 9, 10, 11, 12, 13, 14, 15, 16, 17, 18, 19, 20, 21, 22, 23, 24, 25, 26, 27, 28, 29, 30, 31, 32, 33, 34, 35, 36, 37, 38, 39, 40, 41, 42, 43, 44, 45, 46, 47, 48, 49, 50, 51, 52, 53, 54, 55, 56, 57] (by decide) rfl
            clear hz1 hk1 hPc hDc hFc hP1 hD1
            generalize H1 = H at hP hS ⊢
            refine lv_iconst (v := (-1)) hx hb dX4_propose_140 (by decide) ?_
            refine vx_ret ?_
            refine W.widen (k := 1) (n := 6) (Nat.le_of_ble_eq_true rfl) (Nat.le_of_ble_eq_true rfl) ?_
            have hP9 : va_P (dC, dI) vwCl (wObj d0 o F9 ++ (wCfg cy (o 0) bc G (nI n) sc ++ (wCfg cy (o 1) bt Gk (nI (n + 1)) sck ++ (wHis cy (o 3) rg x kk cs bs RG rn RS)))) H := hP
            have hD9 : va_D A (wObj d0 o F9 ++ (wCfg cy (o 0) bc G (nI n) sc ++ (wCfg cy (o 1) bt Gk (nI (n + 1)) sck ++ (wHis cy (o 3) rg x kk cs bs RG rn RS)))) := hD
            exact W.iret (v := (-1)) hx hb hr (fun t ht hW => ⟨⟨(-1), (F9, (G, n, sc), (Gk, n + 1, sck), (x, kk, RG, rn, RS)), rfl, ⟨by rw [cProp, if_pos htd, if_neg (by omega)], Or.inr ⟨by rw [hT]; exact g1, rfl, sck, by rw [hT, eF9]⟩⟩, by rw [ht]; exact hP9, hD9⟩, hS.F ht⟩) hS.2.2 dX4_propose_141
        have loop94 : ∀ (k : Nat) (f : Nat) (st : Nat) (ad : Int32) (Gk : vG) (sck : Int32) (ls : Array Slot), st + f = 16 → f < k → ad = (if gscale Gk (n + 1) = 0 then 0 else 1) → (¬ gscale Gk (n + 1) = 0 → sck = nI (gscale Gk (n + 1))) → dgl (n + 1) f Gk = pF (cpG Gt G n) n p0 p1 p2 p3 p4 p5 → ∀ (H : Heap) (locs : List Loc), va_P (dC, dI) vwCl (wObj d0 o F ++ (wCfg cy (o 0) bc G (nI n) sc ++ (wCfg cy (o 1) bt Gk (nI (n + 1)) sck ++ (wHis cy (o 3) rg x kk cs bs RG rn RS)))) H → va_D A (wObj d0 o F ++ (wCfg cy (o 0) bc G (nI n) sc ++ (wCfg cy (o 1) bt Gk (nI (n + 1)) sck ++ (wHis cy (o 3) rg x kk cs bs RG rn RS)))) → va_S A s.heap H locs → lv_has ls 9 [(0, .ref d0), (1, .int p0), (2, .int p1), (3, .int p2), (4, .int p3), (5, .int p4), (6, .int p5), (7, .int ad), (8, .int (nI st))] → W p l e (headSpec wsX4_propose ({ frames := 6, cells := 1, slots := 6, locals := 120 }) |>.room) s m (([.ref d0, .int p0, .int p1, .int p2, .int p3, .int p4, .int p5].toArray)) below meth c H locs 0 0 (vx_MQ below (va_Qi (fun (r : Int32) (u : AdmS) => kProp F G n sc Gt x kk RG rn RS p0 p1 p2 p3 p4 p5 r u) (fun (u : AdmS) t => va_P (dC, dI) vwCl (wAdm cy d0 o bc bt rg cs bs u) t.heap ∧ va_D (A) (wAdm cy d0 o bc bt rg cs bs u)) (A)) (vx_X (fun (_ : Unit) => True) (fun (E : String) (u : Unit) (t : State) => ((E = "java/lang/IllegalArgumentException" ∧ cProp n p0 p1 p2 p3 p4 p5 = 1) ∨ (E = "java/lang/IllegalStateException" ∧ cProp n p0 p1 p2 p3 p4 p5 = 2)) ∧ va_P (dC, dI) vwCl (wObj d0 o F ++ (wCfg cy (o 0) bc G (nI n) sc ++ (wCfg cy (o 1) bt Gt (nI nt) sct ++ (wHis cy (o 3) rg x kk cs bs RG rn RS)))) t.heap ∧ va_D (A) (wObj d0 o F ++ (wCfg cy (o 0) bc G (nI n) sc ++ (wCfg cy (o 1) bt Gt (nI nt) sct ++ (wHis cy (o 3) rg x kk cs bs RG rn RS))))) (A)) ([.ref d0, .int p0, .int p1, .int p2, .int p3, .int p4, .int p5].toArray) s 1 6 A) (F0 m 94 ls []) := by
          intro k
          induction k with
          | zero =>
            intro f st ad Gk sck ls hf hk ead esc ed
            exfalso; omega
          | succ k ih94 =>
            intro f st ad Gk sck ls hf hk ead esc ed H locs hP hD hS hl
            refine lv_iload hx hb dX4_propose_94 (lv_at hl 8 rfl) ?_
            refine lv_bipush (v := 16) hx hb dX4_propose_96 (by decide) ?_
            refine lv_icmp_ge (tgt := 131) hx hb dX4_propose_98 (by decide) (fun c_98 => ?_) (fun c_98 => ?_)
            · have hT : pF (cpG Gt G n) n p0 p1 p2 p3 p4 p5 = Gk := by rw [← ed, show f = 0 by have := (nI_leI (a := 16) (b := st) (by omega) (by omega)).mp c_98; omega]; rfl
              exact tail131 _ _ _ ls ead esc hT _ _ hP hD hS (lv_sub hl [0, 7] rfl)
            · obtain ⟨f, rfl⟩ : ∃ z, f = z + 1 := ⟨f - 1, by have h : ¬ (16 ≤ st) := fun h => c_98 ((nI_leI (a := 16) (b := st) (by omega) (by omega)).mpr h); omega⟩
              refine lv_iload hx hb dX4_propose_101 (lv_at hl 7 rfl) ?_
              refine lv_if_ne (tgt := 131) hx hb dX4_propose_103 (by decide) (fun c_103 => ?_) (fun c_103 => ?_)
              · have g0 : ¬ gscale Gk (n + 1) = 0 := fun h => c_103 (by rw [ead]; exact b01.mpr h)
                have hT : pF (cpG Gt G n) n p0 p1 p2 p3 p4 p5 = Gk := by rw [← ed, dgl, if_neg g0]
                exact tail131 _ _ _ ls ead esc hT _ _ hP hD hS (lv_sub hl [0, 7] rfl)
              · have g0 : gscale Gk (n + 1) = 0 := b01.mp (by rw [← ead]; exact c_103)
                refine lv_aload_n hx hb dX4_propose_106 rfl (lv_at hl 0 rfl) ?_
                refine va_get (D := (dC, dI)) (ci := 4) (v := .ref (o 1)) (C := RX4) (T := TX4) (N := 12) hx hb hts hin4 hown hK hP 0 rfl rfl 1 (by decide) f_16 (fun _ h9 => h9) rfl dX4_propose_107 ?_
                have hPc := hP.sub (ws' := wCfg cy (o 1) bt Gk (nI (n + 1)) sck) [9, 10, 11, 12, 13, 14, 15, 16] rfl
                have hDc := hD.sub (ws' := wCfg cy (o 1) bt Gk (nI (n + 1)) sck) [9, 10, 11, 12, 13, 14, 15, 16] (by decide) rfl
                have hFc := va_free (wc := wCfg cy (o 1) bt Gk (nI (n + 1)) sck) hD hS hA [9, 10, 11, 12, 13, 14, 15, 16] rfl
                refine va_calli (va_runV (As := []) (rest := []) ⟨hx, hb, hml, hown, hts⟩ (c_X0_degradeOnce l dC dI cy H.size (o 1) bt Gk (n + 1) (by omega) sck ) (cwV 0 hts gX4_propose_X0_degradeOnce rfl rfl rfl (by decide +kernel) ⟨Nat.le_of_ble_eq_true rfl, Nat.le_of_ble_eq_true rfl⟩) ⟨bl_in, va_recv hK hPc (ci := 0) (q0 := 0) rfl rfl, pr_in hPc hE hDc⟩ rfl rfl hl.1 rfl (lv_room (Nat.le_of_ble_eq_true rfl)) dX4_propose_110 ⟨Nat.le_of_ble_eq_true rfl, Nat.le_of_ble_eq_true rfl⟩) hS (fun q _ h => hFc q h) hFc (fun r u t H1 locs ht hvm hw hB hz1 hk1 hS => ?_)
                obtain ⟨rfl, rfl⟩ := hw
                obtain ⟨hP1, hD1⟩ := hB
                rw [ht] at hP1
                obtain ⟨hP, hD⟩ := va_join (wr := wObj d0 o F ++ (wCfg cy (o 0) bc G (nI n) sc ++ (wHis cy (o 3) rg x kk cs bs RG rn RS))) (w1 := wCfg cy (o 1) bt (degG Gk (n + 1)) (nI (n + 1)) sck) hP hD [9, 10, 11, 12, 13, 14, 15, 16] [0, 1, 2, 3, 4, 5, 6, 7, 8, 17, 18, 19, 20, 21, 22, 23, 24, 25, 26, 27, 28, 29, 30, 31, 32, 33, 34, 35, 36, 37, 38, 39, 40, 41, 42, 43, 44, 45, 46, 47, 48, 49, 50, 51, 52, 53, 54, 55, 56, 57, 58, 59, 60, 61, 62, 63, 64, 65, 66] rfl rfl (by decide) (by decide) hk1 hFc hP1 hD1
                have hP : va_P (dC, dI) vwCl (wObj d0 o F ++ (wCfg cy (o 0) bc G (nI n) sc ++ (wCfg cy (o 1) bt (degG Gk (n + 1)) (nI (n + 1)) sck ++ (wHis cy (o 3) rg x kk cs bs RG rn RS)))) H1 := hP.sub [0, 1, 2, 3, 4, 5, 6, 7, 8, 59, 60, 61, 62, 63, 64, 65, 66, 9, 10, 11, 12, 13, 14, 15, 16, 17, 18, 19, 20, 21, 22, 23, 24, 25, 26, 27, 28, 29, 30, 31, 32, 33, 34, 35, 36, 37, 38, 39, 40, 41, 42, 43, 44, 45, 46, 47, 48, 49, 50, 51, 52, 53, 54, 55, 56, 57, 58] rfl
                have hD : va_D A (wObj d0 o F ++ (wCfg cy (o 0) bc G (nI n) sc ++ (wCfg cy (o 1) bt (degG Gk (n + 1)) (nI (n + 1)) sck ++ (wHis cy (o 3) rg x kk cs bs RG rn RS)))) := hD.sub [0, 1, 2, 3, 4, 5, 6, 7, 8, 59, 60, 61, 62, 63, 64, 65, 66, 9, 10, 11, 12, 13, 14, 15, 16, 17, 18, 19, 20, 21, 22, 23, 24, 25, 26, 27, 28, 29, 30, 31, 32, 33, 34, 35, 36, 37, 38, 39, 40, 41, 42, 43, 44, 45, 46, 47, 48, 49, 50, 51, 52, 53, 54, 55, 56, 57, 58] (by decide) rfl
                clear hz1 hk1 hPc hDc hFc hP1 hD1
                generalize H1 = H at hP hS ⊢
                refine lv_topi (fun y_ ey_ => ?_)
                obtain rfl : y_ = match wk Gk (n + 1) with | none => 0 | some _ => 1 := ey_
                refine lv_if_eq (tgt := 131) hx hb dX4_propose_113 (by decide) (fun c_113 => ?_) (fun c_113 => ?_)
                · have hj := wk_m c_113
                  have hT : pF (cpG Gt G n) n p0 p1 p2 p3 p4 p5 = Gk := by rw [← ed, dgl, if_pos g0, hj]
                  rw [show degG Gk (n + 1) = Gk from by rw [degG, hj]] at hP hD
                  exact tail131 _ _ _ ls ead esc hT _ _ hP hD hS (lv_sub hl [0, 7] rfl)
                · obtain ⟨j9, hj⟩ := wk_n c_113
                  refine lv_aload_n hx hb dX4_propose_116 rfl (lv_at hl 0 rfl) ?_
                  refine va_get (D := (dC, dI)) (ci := 4) (v := .ref (o 1)) (C := RX4) (T := TX4) (N := 12) hx hb hts hin4 hown hK hP 0 rfl rfl 1 (by decide) f_16 (fun _ h9 => h9) rfl dX4_propose_117 ?_
                  have hPc := hP.sub (ws' := wCfg cy (o 1) bt (degG Gk (n + 1)) (nI (n + 1)) sck) [9, 10, 11, 12, 13, 14, 15, 16] rfl
                  have hDc := hD.sub (ws' := wCfg cy (o 1) bt (degG Gk (n + 1)) (nI (n + 1)) sck) [9, 10, 11, 12, 13, 14, 15, 16] (by decide) rfl
                  have hFc := va_free (wc := wCfg cy (o 1) bt (degG Gk (n + 1)) (nI (n + 1)) sck) hD hS hA [9, 10, 11, 12, 13, 14, 15, 16] rfl
                  refine va_calli (va_runV (As := []) (rest := []) ⟨hx, hb, hml, hown, hts⟩ (c_X0_takeGreatestScale l dC dI cy H.size (o 1) bt (degG Gk (n + 1)) (n + 1) (by omega) sck ) (cwV 0 hts gX4_propose_X0_takeGreatestScale rfl rfl rfl (by decide +kernel) ⟨Nat.le_of_ble_eq_true rfl, Nat.le_of_ble_eq_true rfl⟩) ⟨bl_in, va_recv hK hPc (ci := 0) (q0 := 0) rfl rfl, pr_in hPc hE hDc⟩ rfl rfl hl.1 rfl (lv_room (Nat.le_of_ble_eq_true rfl)) dX4_propose_120 ⟨Nat.le_of_ble_eq_true rfl, Nat.le_of_ble_eq_true rfl⟩) hS (fun q _ h => hFc q h) hFc (fun r u t H1 locs ht hvm hw hB hz1 hk1 hS => ?_)
                  obtain ⟨r_120, rfl⟩ : ∃ z, z = r := ⟨_, rfl⟩
                  obtain ⟨u_120, rfl⟩ : ∃ z, z = u := ⟨_, rfl⟩
                  obtain ⟨er_120, eu_120⟩ := hw
                  obtain ⟨hP1, hD1⟩ := hB
                  rw [ht] at hP1
                  obtain ⟨hP, hD⟩ := va_join (wr := wObj d0 o F ++ (wCfg cy (o 0) bc G (nI n) sc ++ (wHis cy (o 3) rg x kk cs bs RG rn RS))) (w1 := wCfg cy (o 1) bt (degG Gk (n + 1)) (nI (n + 1)) u_120) hP hD [9, 10, 11, 12, 13, 14, 15, 16] [0, 1, 2, 3, 4, 5, 6, 7, 8, 17, 18, 19, 20, 21, 22, 23, 24, 25, 26, 27, 28, 29, 30, 31, 32, 33, 34, 35, 36, 37, 38, 39, 40, 41, 42, 43, 44, 45, 46, 47, 48, 49, 50, 51, 52, 53, 54, 55, 56, 57, 58, 59, 60, 61, 62, 63, 64, 65, 66] rfl rfl (by decide) (by decide) hk1 hFc hP1 hD1
                  have hP : va_P (dC, dI) vwCl (wObj d0 o F ++ (wCfg cy (o 0) bc G (nI n) sc ++ (wCfg cy (o 1) bt (degG Gk (n + 1)) (nI (n + 1)) u_120 ++ (wHis cy (o 3) rg x kk cs bs RG rn RS)))) H1 := hP.sub [0, 1, 2, 3, 4, 5, 6, 7, 8, 59, 60, 61, 62, 63, 64, 65, 66, 9, 10, 11, 12, 13, 14, 15, 16, 17, 18, 19, 20, 21, 22, 23, 24, 25, 26, 27, 28, 29, 30, 31, 32, 33, 34, 35, 36, 37, 38, 39, 40, 41, 42, 43, 44, 45, 46, 47, 48, 49, 50, 51, 52, 53, 54, 55, 56, 57, 58] rfl
                  have hD : va_D A (wObj d0 o F ++ (wCfg cy (o 0) bc G (nI n) sc ++ (wCfg cy (o 1) bt (degG Gk (n + 1)) (nI (n + 1)) u_120 ++ (wHis cy (o 3) rg x kk cs bs RG rn RS)))) := hD.sub [0, 1, 2, 3, 4, 5, 6, 7, 8, 59, 60, 61, 62, 63, 64, 65, 66, 9, 10, 11, 12, 13, 14, 15, 16, 17, 18, 19, 20, 21, 22, 23, 24, 25, 26, 27, 28, 29, 30, 31, 32, 33, 34, 35, 36, 37, 38, 39, 40, 41, 42, 43, 44, 45, 46, 47, 48, 49, 50, 51, 52, 53, 54, 55, 56, 57, 58] (by decide) rfl
                  clear hz1 hk1 hPc hDc hFc hP1 hD1
                  generalize H1 = H at hP hS ⊢
                  refine lv_istore (lv' := [(7, .int r_120), (0, .ref d0), (1, .int p0), (2, .int p1), (3, .int p2), (4, .int p3), (5, .int p4), (6, .int p5), (8, .int (nI st))]) hx hb dX4_propose_123 hl (by decide) rfl (fun ls hl => ?_)
                  refine lv_iinc (v := nI (st + 1)) (lv' := [(8, .int (nI (st + 1))), (7, .int r_120), (0, .ref d0), (1, .int p0), (2, .int p1), (3, .int p2), (4, .int p3), (5, .int p4), (6, .int p5)]) hx hb dX4_propose_125 hl (k := 8) rfl (nI_1 _) (by decide) rfl (fun ls hl => ?_)
                  refine lv_goto (tgt := 94) hx hb dX4_propose_128 (by decide) ?_
                  exact ih94 f (st + 1) _ _ _ ls (by omega) (by omega) er_120 (fun h => eu_120.trans (if_neg h)) (by rw [← ed, dgl, if_pos g0, hj]) _ _ hP hD hS (lv_sub hl [2, 3, 4, 5, 6, 7, 8, 1, 0] rfl)
        exact loop94 17 16 0 _ _ _ ls rfl (by omega) er_86 (fun h => eu_86.trans (if_neg h)) rfl _ _ hP hD hS (lv_sub hl [2, 3, 4, 5, 6, 7, 8, 1, 0] rfl)
      · have hn9 : n = 8 := by rcases Nat.lt_or_ge n 8 with q | q; exact absurd (nI_lt (b := 8) q (by omega)) c_42; omega
        obtain ⟨sa, hsa⟩ := hX.s 1 (k := 64) (t := "there are 8 tasks") rfl
        exact vx_throwS (names := ["java/lang/RuntimeException", "java/lang/Exception"]) hx hb hst hown (by decide +kernel) (by decide +kernel) (hts (.classLink RX4 62 "java/lang/IllegalStateException") (by decide +kernel)) (hts (.initialized "java/lang/IllegalStateException") (by decide +kernel)) hsa (vx_hat (fun w h => hts w (List.mem_cons_of_mem _ (List.mem_append_right _ h))) ng_ISE (vx_c (va_Nw.use rfl (hX.c 1 rfl)) (vx_c (va_Nw.use rfl (hX.d 0 rfl)) (vx_c (va_Nw.use rfl (hX.d 1 rfl)) (vx_c (va_Nw.use rfl (hX.d 2 rfl)) vx_n))))) ot_ISE hZ.1 hZ.2 hS (hl.1.trans hml.symm) dX4_propose_45 dX4_propose_48 dX4_propose_49 dX4_propose_51 dX4_propose_54 (fun x hx9 => (hnt x hx9).elim) (Nat.le_of_ble_eq_true rfl) (Nat.le_of_ble_eq_true rfl) (Nat.le_of_ble_eq_true rfl) (Nat.le_of_ble_eq_true rfl) hlocks (fun t hvm hz hk => ⟨(), trivial, ⟨Or.inr ⟨rfl, by rw [cProp, if_pos htd, if_pos hn9]⟩, hP.kept (fun k q h9 => hk q.1 ((hP k q h9).lt)), hD⟩, ⟨Nat.le_trans hS.1 hz, fun q h1 h2 => (hk q (Nat.lt_of_lt_of_le h1 hS.1)).trans (hS.2.1 q h1 h2)⟩⟩) hS.2.2 (Nat.le_of_ble_eq_true rfl) (Nat.le_of_ble_eq_true rfl)
    · have htd : ¬ told p0 p1 p2 p3 p4 p5 := fun h => b10.mp c_20 (told_iff.mp h).2
      obtain ⟨sa, hsa⟩ := hX.s 0 (k := 53) (t := "a number is out of range") rfl
      exact vx_throwS (names := ["java/lang/RuntimeException", "java/lang/Exception"]) hx hb hst hown (by decide +kernel) (by decide +kernel) (hts (.classLink RX4 51 "java/lang/IllegalArgumentException") (by decide +kernel)) (hts (.initialized "java/lang/IllegalArgumentException") (by decide +kernel)) hsa (vx_hat (fun w h => hts w (List.mem_cons_of_mem _ (List.mem_append_left _ (List.mem_append_right _ h)))) ng_IAE (vx_c (va_Nw.use rfl (hX.c 0 rfl)) (vx_c (va_Nw.use rfl (hX.d 0 rfl)) (vx_c (va_Nw.use rfl (hX.d 1 rfl)) (vx_c (va_Nw.use rfl (hX.d 2 rfl)) vx_n))))) ot_IAE hZ.1 hZ.2 hS (hl.1.trans hml.symm) dX4_propose_23 dX4_propose_26 dX4_propose_27 dX4_propose_29 dX4_propose_32 (fun x hx9 => (hnt x hx9).elim) (Nat.le_of_ble_eq_true rfl) (Nat.le_of_ble_eq_true rfl) (Nat.le_of_ble_eq_true rfl) (Nat.le_of_ble_eq_true rfl) hlocks (fun t hvm hz hk => ⟨(), trivial, ⟨Or.inl ⟨rfl, if_neg htd⟩, hP.kept (fun k q h9 => hk q.1 ((hP k q h9).lt)), hD⟩, ⟨Nat.le_trans hS.1 hz, fun q h1 h2 => (hk q (Nat.lt_of_lt_of_le h1 hS.1)).trans (hS.2.1 q h1 h2)⟩⟩) hS.2.2 (Nat.le_of_ble_eq_true rfl) (Nat.le_of_ble_eq_true rfl)

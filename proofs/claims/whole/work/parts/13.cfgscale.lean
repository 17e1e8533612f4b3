/-! PART 13: the words for what the writing methods of Configuration do -/
theorem nI_m1 (n : Nat) : nI (n + 1) + Int32.ofInt (-1) = nI n := by rw [show Int32.ofInt (-1) = (-1 : Int32) from by decide]; exact pk_m1 n
theorem b10 {P : Prop} [Decidable P] : ((if P then (1 : Int32) else 0) = 0) ↔ ¬ P := by by_cases h : P <;> simp [h]
theorem b01 {P : Prop} [Decidable P] : ((if P then (0 : Int32) else 1) = 0) ↔ P := by by_cases h : P <;> simp [h]
/-- the first i columns of G2, the others of G -/
def cpG (G G2 : vG) (i : Nat) : vG := fun k j => if j < i then G2 k j else G k j
theorem cpG_0 (G G2 : vG) : cpG G G2 0 = G := by funext k j; simp [cpG]
theorem cpG_s (G G2 : vG) (i : Nat) : setc (cpG G G2 i) i (fun k => G2 k i) = cpG G G2 (i + 1) := by
  funext k j
  simp only [setc, upd, cpG]
  by_cases h : j = i
  · subst h; simp
  · by_cases h2 : j < i
    · simp [h, h2, Nat.lt_succ_of_lt h2]
    · simp [h, h2, show ¬ j < i + 1 by omega]
/-- task r taken out, as far as place i -/
def rmG (G : vG) (r i : Nat) : vG := fun k j => if r ≤ j ∧ j + 1 < i then G k (j + 1) else G k j
theorem rmG_0 (G : vG) (r : Nat) : rmG G r (r + 1) = G := by funext k j; simp only [rmG]; rw [if_neg (by omega)]
theorem rmG_s (G : vG) (r i : Nat) (h : r < i) : setc (rmG G r i) (i - 1) (fun k => rmG G r i k i) = rmG G r (i + 1) := by
  funext k j
  simp only [setc, upd, rmG]
  by_cases e : j = i - 1
  · subst e
    rw [if_pos rfl, if_neg (by omega), if_pos (by omega), show i - 1 + 1 = i by omega]
  · rw [if_neg e]
    by_cases h1 : r ≤ j ∧ j + 1 < i
    · rw [if_pos h1, if_pos (by omega)]
    · rw [if_neg h1, if_neg (by omega)]
def colA (p0 p1 p2 p3 p4 p5 : Int32) : Nat → Int32 := fun k => match k with
  | 0 => p0 | 1 => p1 | 2 => p2 | 3 => p3 | 4 => p4 | 5 => p5 | _ => 0
def degG (G : vG) (n : Nat) : vG := match wk G n with
  | none => G
  | some j => up2 G 6 j (G 6 j + 1)
theorem up2_back (G : vG) (i : Nat) : up2 (up2 G 6 i (G 6 i - 1)) 6 i (up2 G 6 i (G 6 i - 1) 6 i + 1) = G := by
  funext k j
  simp only [up2, upd]
  by_cases h : k = 6
  · subst h
    by_cases h2 : j = i
    · subst h2; simp [upd]
    · simp [upd, h2]
  · simp [h]
/-- lowering the level of task i at most k times: the rows, the scale, how often -/
def lwl (n i : Nat) : Nat → vG → Int32 → Nat → vG × Int32 × Nat
  | 0, G, sc, st => (G, sc, st)
  | k + 1, G, sc, st => if gscale (up2 G 6 i (G 6 i - 1)) n = 0 then (G, sc, st) else lwl n i k (up2 G 6 i (G 6 i - 1)) (nI (gscale (up2 G 6 i (G 6 i - 1)) n)) (st + 1)
set_option maxHeartbeats 1000000 in
set_option maxRecDepth 100000 in
/-- the greatest scale with which the tasks are schedulable, if there is one -/
theorem c_X0_takeGreatestScale (l : Launch) (dC : Nat → ClassId) (dI : Nat → Nat → Nat) (cy : Nat → ClassId) (sz : Nat) (c0 : Nat) (b : Nat → Nat) (G : vG) (n : Nat) (hn : n ≤ 8) (sc : Int32) : Met l yX0_takeGreatestScale wsX0_takeGreatestScale ({ frames := 4, cells := 0, slots := 0, locals := 99 }) (va_Pc [.ref c0] (pIn dC dI cy (wCfg cy c0 b G (nI n) sc) sz)) (va_Qi (fun (r u : Int32) => r = (if gscale G n = 0 then 0 else 1) ∧ u = (if gscale G n = 0 then sc else nI (gscale G n))) (fun (u : Int32) t => va_P (dC, dI) vwCl (wCfg cy c0 b G (nI n) u) t.heap ∧ va_D (va_A (wCfg cy c0 b G (nI n) sc) sz) (wCfg cy c0 b G (nI n) u)) (va_A (wCfg cy c0 b G (nI n) sc) sz)) 0 0 (va_A (wCfg cy c0 b G (nI n) sc) sz) := by
  refine Met.ofW (cc := cX0_takeGreatestScale) (maxL := 2) (ret := some .boolean) (by decide) rfl ?_
  intro p e s m args below meth c s₁ B hml hv
  obtain ⟨rfl, hsz, hP, hE, hD0⟩ := hv
  have hK := hE.1
  subst hsz
  have hD := hD0.self (sz := s.heap.size)
  generalize hAe : va_A (wCfg cy c0 b G (nI n) sc) s.heap.size = A at hD ⊢
  have hA : ∀ q : Nat, s.heap.size ≤ q → A q := fun q h => by rw [← hAe]; exact Or.inr h
  have hS : va_S A s.heap s.heap [] := va_S.rf
  have hP : va_P (dC, dI) vwCl (wCfg cy c0 b G (nI n) sc) s.heap := hP
  have hx := B.exec
  have hb := B.bytes
  have hr := B.returns
  have hts := atoms_spec (ws := wsX0_takeGreatestScale) B.pre
  have hown : s.vm.findClass RX0 = some m.cls := findClass_of_methodNamed B.named
  have hlocks := B.notSynchronized
  have hin0 : ∀ w ∈ u_ws RX0 TX0 9, w ∈ wsX0_takeGreatestScale := by decide +kernel
  have f_33 := hts (.fieldLink RX0 33 "DeadlineAdmission$Configuration" "scale" "I") (by decide +kernel)
  have hl := lv_entry ([.ref c0]) (n := 2) (Nat.le_of_ble_eq_true rfl)
  rw [lg_entry_eq]
  generalize (lg_sl ([.ref c0]) ++ List.replicate (2 - (lg_sl ([.ref c0])).length) Slot.unset).toArray = ls at hl ⊢
  have hl : lv_has ls 2 [(0, .ref c0)] := hl
  refine lv_bipush (v := 8) hx hb dX0_takeGreatestScale_0 (by decide) ?_
  refine lv_istore_n (lv' := [(1, .int 8), (0, .ref c0)]) hx hb dX0_takeGreatestScale_2 rfl hl (by decide) rfl (fun ls hl => ?_)
  have loop3 : ∀ (k : Nat) (j : Nat) (ls : Array Slot), j ≤ 8 → j < k → gsc G n j = gscale G n → lv_has ls 2 [(0, .ref c0), (1, .int (nI j))] → W p l e (headSpec wsX0_takeGreatestScale ({ frames := 4, cells := 0, slots := 0, locals := 99 }) |>.room) s m (([.ref c0].toArray)) below meth c s.heap [] 0 0 (MQ below (va_Qi (fun (r u : Int32) => r = (if gscale G n = 0 then 0 else 1) ∧ u = (if gscale G n = 0 then sc else nI (gscale G n))) (fun (u : Int32) t => va_P (dC, dI) vwCl (wCfg cy c0 b G (nI n) u) t.heap ∧ va_D (A) (wCfg cy c0 b G (nI n) u)) (A)) ([.ref c0].toArray) s 0 0 A) (F0 m 3 ls []) := by
    intro k
    induction k with
    | zero =>
      intro j ls hi hk eg
      exfalso; omega
    | succ k ih3 =>
      intro j ls hi hk eg hl
      refine lv_iload_n hx hb dX0_takeGreatestScale_3 rfl (lv_at hl 1 rfl) ?_
      refine lv_iconst (v := 1) hx hb dX0_takeGreatestScale_4 (by decide) ?_
      refine lv_icmp_lt (tgt := 29) hx hb dX0_takeGreatestScale_5 (by decide) (fun c_5 => ?_) (fun c_5 => ?_)
      · have e_j : j = 0 := by have := (nI_ltI (a := j) (b := 1) (by omega) (by omega)).mp c_5; omega
        refine lv_iconst (v := 0) hx hb dX0_takeGreatestScale_29 (by decide) ?_
        have hP9 : va_P (dC, dI) vwCl (wCfg cy c0 b G (nI n) sc) s.heap := hP
        have hD9 : va_D A (wCfg cy c0 b G (nI n) sc) := hD
        exact W.zret (v := 0) hx hb hr (by decide) (fun t ht hW => ⟨⟨0, sc, rfl, (by rw [← eg, e_j]; exact ⟨rfl, rfl⟩), by rw [ht]; exact hP9, hD9⟩, hS.F ht⟩) hS.2.2 dX0_takeGreatestScale_30
      · obtain ⟨j, rfl⟩ : ∃ z, j = z + 1 := ⟨j - 1, by have h : ¬ (j < 1) := fun h => c_5 ((nI_ltI (a := j) (b := 1) (by omega) (by omega)).mpr h); omega⟩
        refine lv_aload_n hx hb dX0_takeGreatestScale_8 rfl (lv_at hl 0 rfl) ?_
        refine lv_iload_n hx hb dX0_takeGreatestScale_9 rfl (lv_at hl 1 rfl) ?_
        refine vp_callSi (va_runV (As := [.int (nI (j + 1))]) (rest := []) ⟨hx, hb, hml, hown, hts⟩ (c_X0_isSchedulableWith l dC dI cy c0 b G n hn sc (nI (j + 1))) (cwV 1 hts gX0_takeGreatestScale_X0_isSchedulableWith rfl rfl rfl (by decide +kernel) ⟨Nat.le_of_ble_eq_true rfl, Nat.le_of_ble_eq_true rfl⟩) ⟨bl_ro, va_recv hK hP (ci := 0) (q0 := 0) rfl rfl, pr_ro hP hE⟩ rfl rfl hl.1 rfl (lv_room (Nat.le_of_ble_eq_true rfl)) dX0_takeGreatestScale_10 ⟨Nat.le_of_ble_eq_true rfl, Nat.le_of_ble_eq_true rfl⟩).run (fun r e_r => ?_)
        subst e_r
        refine lv_if_eq (tgt := 23) hx hb dX0_takeGreatestScale_13 (by decide) (fun c_13 => ?_) (fun c_13 => ?_)
        · refine lv_iinc (v := nI j) (lv' := [(1, .int (nI j)), (0, .ref c0)]) hx hb dX0_takeGreatestScale_23 hl (k := 1) rfl (nI_m1 _) (by decide) rfl (fun ls hl => ?_)
          refine lv_goto (tgt := 3) hx hb dX0_takeGreatestScale_26 (by decide) ?_
          exact ih3 j ls (by omega) (by omega) (by rw [← eg, gsc, if_neg (b10.mp c_13)]) (lv_sub hl [1, 0] rfl)
        · have hok := Decidable.not_not.mp (fun h => c_13 (b10.mpr h))
          have eg2 : gscale G n = j + 1 := by rw [← eg, gsc, if_pos hok]
          refine lv_aload_n hx hb dX0_takeGreatestScale_16 rfl (lv_at hl 0 rfl) ?_
          refine lv_iload_n hx hb dX0_takeGreatestScale_17 rfl (lv_at hl 1 rfl) ?_
          refine va_put (D := (dC, dI)) (ci := 0) (v := .int (nI (j + 1))) (ty := .int) (C := RX0) (T := TX0) (N := 9) hx hb hts hin0 tyX0 tyX0_ok nmX0 hown hK hP hD hS 0 rfl rfl 8 (by decide) f_33 (fun _ h9 => h9) rfl (by decide +kernel) rfl rfl (Nat.le_of_ble_eq_true rfl) dX0_takeGreatestScale_18 (fun H locs hP hD hS => ?_)
          have hP : va_P (dC, dI) vwCl (wCfg cy c0 b G (nI n) (nI (j + 1))) H := hP
          have hD : va_D A (wCfg cy c0 b G (nI n) (nI (j + 1))) := hD
          refine lv_iconst (v := 1) hx hb dX0_takeGreatestScale_21 (by decide) ?_
          have hP9 : va_P (dC, dI) vwCl (wCfg cy c0 b G (nI n) (nI (j + 1))) H := hP
          have hD9 : va_D A (wCfg cy c0 b G (nI n) (nI (j + 1))) := hD
          exact W.zret (v := 1) hx hb hr (by decide) (fun t ht hW => ⟨⟨1, (nI (j + 1)), rfl, (by rw [eg2]; exact ⟨rfl, rfl⟩), by rw [ht]; exact hP9, hD9⟩, hS.F ht⟩) hS.2.2 dX0_takeGreatestScale_22
  exact loop3 9 8 ls (Nat.le_refl _) (by omega) rfl (lv_sub hl [1, 0] rfl)
set_option maxHeartbeats 1000000 in
set_option maxRecDepth 100000 in
/-- one step of degradation, if one is possible -/
theorem c_X0_degradeOnce (l : Launch) (dC : Nat → ClassId) (dI : Nat → Nat → Nat) (cy : Nat → ClassId) (sz : Nat) (c0 : Nat) (b : Nat → Nat) (G : vG) (n : Nat) (hn : n ≤ 8) (sc : Int32) : Met l yX0_degradeOnce wsX0_degradeOnce ({ frames := 0, cells := 0, slots := 0, locals := 0 }) (va_Pc [.ref c0] (pIn dC dI cy (wCfg cy c0 b G (nI n) sc) sz)) (va_Qi (fun (r : Int32) (u : vG) => r = (match wk G n with | none => 0 | some _ => 1) ∧ u = degG G n) (fun (u : vG) t => va_P (dC, dI) vwCl (wCfg cy c0 b u (nI n) sc) t.heap ∧ va_D (va_A (wCfg cy c0 b G (nI n) sc) sz) (wCfg cy c0 b u (nI n) sc)) (va_A (wCfg cy c0 b G (nI n) sc) sz)) 0 0 (va_A (wCfg cy c0 b G (nI n) sc) sz) := by
  refine Met.ofW (cc := cX0_degradeOnce) (maxL := 3) (ret := some .boolean) (by decide) rfl ?_
  intro p e s m args below meth c s₁ B hml hv
  obtain ⟨rfl, hsz, hP, hE, hD0⟩ := hv
  have hK := hE.1
  subst hsz
  have hD := hD0.self (sz := s.heap.size)
  generalize hAe : va_A (wCfg cy c0 b G (nI n) sc) s.heap.size = A at hD ⊢
  have hA : ∀ q : Nat, s.heap.size ≤ q → A q := fun q h => by rw [← hAe]; exact Or.inr h
  have hS : va_S A s.heap s.heap [] := va_S.rf
  have hP : va_P (dC, dI) vwCl (wCfg cy c0 b G (nI n) sc) s.heap := hP
  have hx := B.exec
  have hb := B.bytes
  have hr := B.returns
  have hts := atoms_spec (ws := wsX0_degradeOnce) B.pre
  have hown : s.vm.findClass RX0 = some m.cls := findClass_of_methodNamed B.named
  have hlocks := B.notSynchronized
  have hin0 : ∀ w ∈ u_ws RX0 TX0 9, w ∈ wsX0_degradeOnce := by decide +kernel
  have f_24 := hts (.fieldLink RX0 24 "DeadlineAdmission$Configuration" "importance" "[I") (by decide +kernel)
  have f_27 := hts (.fieldLink RX0 27 "DeadlineAdmission$Configuration" "greatestLevel" "[I") (by decide +kernel)
  have f_30 := hts (.fieldLink RX0 30 "DeadlineAdmission$Configuration" "level" "[I") (by decide +kernel)
  have f_37 := hts (.fieldLink RX0 37 "DeadlineAdmission$Configuration" "count" "I") (by decide +kernel)
  have hl := lv_entry ([.ref c0]) (n := 3) (Nat.le_of_ble_eq_true rfl)
  rw [lg_entry_eq]
  generalize (lg_sl ([.ref c0]) ++ List.replicate (3 - (lg_sl ([.ref c0])).length) Slot.unset).toArray = ls at hl ⊢
  have hl : lv_has ls 3 [(0, .ref c0)] := hl
  refine lv_iconst (v := (-1)) hx hb dX0_degradeOnce_0 (by decide) ?_
  refine lv_istore_n (lv' := [(1, .int (-1)), (0, .ref c0)]) hx hb dX0_degradeOnce_1 rfl hl (by decide) rfl (fun ls hl => ?_)
  refine lv_iconst (v := 0) hx hb dX0_degradeOnce_2 (by decide) ?_
  refine lv_istore_n (lv' := [(2, .int 0), (1, .int (-1)), (0, .ref c0)]) hx hb dX0_degradeOnce_3 rfl hl (by decide) rfl (fun ls hl => ?_)
  have loop4 : ∀ (k : Nat) (i : Nat) (ch : Int32) (ls : Array Slot), i ≤ n → n < i + k → ch = wkI (wk G i) → lv_has ls 3 [(0, .ref c0), (1, .int ch), (2, .int (nI i))] → W p l e (headSpec wsX0_degradeOnce ({ frames := 0, cells := 0, slots := 0, locals := 0 }) |>.room) s m (([.ref c0].toArray)) below meth c s.heap [] 0 0 (MQ below (va_Qi (fun (r : Int32) (u : vG) => r = (match wk G n with | none => 0 | some _ => 1) ∧ u = degG G n) (fun (u : vG) t => va_P (dC, dI) vwCl (wCfg cy c0 b u (nI n) sc) t.heap ∧ va_D (A) (wCfg cy c0 b u (nI n) sc)) (A)) ([.ref c0].toArray) s 0 0 A) (F0 m 4 ls []) := by
    intro k
    induction k with
    | zero =>
      intro i ch ls hi hk ech
      exfalso; omega
    | succ k ih4 =>
      intro i ch ls hi hk ech hl
      refine lv_iload_n hx hb dX0_degradeOnce_4 rfl (lv_at hl 2 rfl) ?_
      refine lv_aload_n hx hb dX0_degradeOnce_5 rfl (lv_at hl 0 rfl) ?_
      refine va_get (D := (dC, dI)) (ci := 0) (v := .int (nI n)) (C := RX0) (T := TX0) (N := 9) hx hb hts hin0 hown hK hP 0 rfl rfl 7 (by decide) f_37 (fun _ h9 => h9) rfl dX0_degradeOnce_6 ?_
      refine lv_icmp_ge (tgt := 54) hx hb dX0_degradeOnce_9 (by decide) (fun c_9 => ?_) (fun c_9 => ?_)
      · have e_i : i = n := Nat.le_antisymm hi ((nI_leI (by omega) (by omega)).mp c_9)
        refine lv_iload_n hx hb dX0_degradeOnce_54 rfl (lv_at hl 1 rfl) ?_
        refine lv_if_ge (tgt := 60) hx hb dX0_degradeOnce_55 (by decide) (fun c_55 => ?_) (fun c_55 => ?_)
        · obtain ⟨j, hj⟩ : ∃ j, wk G i = some j := by rcases h : wk G i with _ | j; exact absurd c_55 (by rw [ech, h]; decide); exact ⟨j, rfl⟩
          have hjl := wk_lt G i j hj
          have ech2 : ch = nI j := by rw [ech, hj]; rfl
          refine lv_aload_n hx hb dX0_degradeOnce_60 rfl (lv_at hl 0 rfl) ?_
          refine va_get (D := (dC, dI)) (ci := 0) (v := .ref (b 6)) (C := RX0) (T := TX0) (N := 9) hx hb hts hin0 hown hK hP 0 rfl rfl 6 (by decide) f_30 (fun _ h9 => h9) rfl dX0_degradeOnce_61 ?_
          refine lv_iload_n hx hb dX0_degradeOnce_64 rfl (lv_at hl 1 rfl) ?_
          refine lv_dup2_11 hx hb dX0_degradeOnce_65 rfl rfl ?_
          refine wI_alv (v := G 6 j) hx hb hK hP 7 0 rfl rfl j ech2 (by omega) (by decide) rfl dX0_degradeOnce_66 ?_
          refine lv_iconst (v := 1) hx hb dX0_degradeOnce_67 (by decide) ?_
          refine lv_iadd hx hb dX0_degradeOnce_68 ?_
          refine wI_ast hx hb hK hP hD hS 7 0 rfl rfl j ech2 (by omega) (by decide) dX0_degradeOnce_69 (fun H locs hP hD hS => ?_)
          have hP : va_P (dC, dI) vwCl (wCfg cy c0 b (up2 G 6 j ((G 6 j) + 1)) (nI n) sc) H := hP
          have hD : va_D A (wCfg cy c0 b (up2 G 6 j ((G 6 j) + 1)) (nI n) sc) := hD
          refine lv_iconst (v := 1) hx hb dX0_degradeOnce_70 (by decide) ?_
          have hP9 : va_P (dC, dI) vwCl (wCfg cy c0 b (up2 G 6 j ((G 6 j) + 1)) (nI n) sc) H := hP
          have hD9 : va_D A (wCfg cy c0 b (up2 G 6 j ((G 6 j) + 1)) (nI n) sc) := hD
          exact W.zret (v := 1) hx hb hr (by decide) (fun t ht hW => ⟨⟨1, (up2 G 6 j ((G 6 j) + 1)), rfl, (by rw [← e_i, degG, hj]; exact ⟨rfl, rfl⟩), by rw [ht]; exact hP9, hD9⟩, hS.F ht⟩) hS.2.2 dX0_degradeOnce_71
        · have hj : wk G i = none := by rcases h : wk G i with _ | j; rfl; exact absurd (by rw [ech, h]; exact nI_pos' (n := j) (by have := wk_lt G i j h; omega)) c_55
          refine lv_iconst (v := 0) hx hb dX0_degradeOnce_58 (by decide) ?_
          have hP9 : va_P (dC, dI) vwCl (wCfg cy c0 b G (nI n) sc) s.heap := hP
          have hD9 : va_D A (wCfg cy c0 b G (nI n) sc) := hD
          exact W.zret (v := 0) hx hb hr (by decide) (fun t ht hW => ⟨⟨0, G, rfl, (by rw [← e_i, degG, hj]; exact ⟨rfl, rfl⟩), by rw [ht]; exact hP9, hD9⟩, hS.F ht⟩) hS.2.2 dX0_degradeOnce_59
      · have hlt : i < n := Nat.lt_of_not_le (fun h => c_9 (nI_le h (by omega)))
        refine lv_aload_n hx hb dX0_degradeOnce_12 rfl (lv_at hl 0 rfl) ?_
        refine va_get (D := (dC, dI)) (ci := 0) (v := .ref (b 6)) (C := RX0) (T := TX0) (N := 9) hx hb hts hin0 hown hK hP 0 rfl rfl 6 (by decide) f_30 (fun _ h9 => h9) rfl dX0_degradeOnce_13 ?_
        refine lv_iload_n hx hb dX0_degradeOnce_16 rfl (lv_at hl 2 rfl) ?_
        refine wI_alv (v := G 6 i) hx hb hK hP 7 0 rfl rfl i rfl (by omega) (by decide) rfl dX0_degradeOnce_17 ?_
        refine lv_aload_n hx hb dX0_degradeOnce_18 rfl (lv_at hl 0 rfl) ?_
        refine va_get (D := (dC, dI)) (ci := 0) (v := .ref (b 5)) (C := RX0) (T := TX0) (N := 9) hx hb hts hin0 hown hK hP 0 rfl rfl 5 (by decide) f_27 (fun _ h9 => h9) rfl dX0_degradeOnce_19 ?_
        refine lv_iload_n hx hb dX0_degradeOnce_22 rfl (lv_at hl 2 rfl) ?_
        refine wI_alv (v := G 5 i) hx hb hK hP 6 0 rfl rfl i rfl (by omega) (by decide) rfl dX0_degradeOnce_23 ?_
        refine lv_icmp_ge (tgt := 48) hx hb dX0_degradeOnce_24 (by decide) (fun c_24 => ?_) (fun c_24 => ?_)
        · refine lv_iinc (v := nI (i + 1)) (lv' := [(2, .int (nI (i + 1))), (0, .ref c0), (1, .int ch)]) hx hb dX0_degradeOnce_48 hl (k := 2) rfl (nI_1 _) (by decide) rfl (fun ls hl => ?_)
          refine lv_goto (tgt := 4) hx hb dX0_degradeOnce_51 (by decide) ?_
          exact ih4 (i + 1) _ ls (by omega) (by omega) (by rw [ech]; simp only [wk, c_24, ↓reduceIte]) (lv_sub hl [1, 2, 0] rfl)
        · refine lv_iload_n hx hb dX0_degradeOnce_27 rfl (lv_at hl 1 rfl) ?_
          refine lv_if_lt (tgt := 46) hx hb dX0_degradeOnce_28 (by decide) (fun c_28 => ?_) (fun c_28 => ?_)
          · have hj : wk G i = none := by rcases h : wk G i with _ | j; rfl; exact absurd (by rw [ech, h] at c_28; exact c_28) (nI_pos (n := j) (by have := wk_lt G i j h; omega))
            refine lv_iload_n hx hb dX0_degradeOnce_46 rfl (lv_at hl 2 rfl) ?_
            refine lv_istore_n (lv' := [(1, .int (nI i)), (0, .ref c0), (2, .int (nI i))]) hx hb dX0_degradeOnce_47 rfl hl (by decide) rfl (fun ls hl => ?_)
            refine lv_iinc (v := nI (i + 1)) (lv' := [(2, .int (nI (i + 1))), (1, .int (nI i)), (0, .ref c0)]) hx hb dX0_degradeOnce_48 hl (k := 2) rfl (nI_1 _) (by decide) rfl (fun ls hl => ?_)
            refine lv_goto (tgt := 4) hx hb dX0_degradeOnce_51 (by decide) ?_
            exact ih4 (i + 1) _ ls (by omega) (by omega) (by simp only [wk, c_24, hj, ↓reduceIte, wkI]) (lv_sub hl [2, 1, 0] rfl)
          · obtain ⟨j, hj⟩ : ∃ j, wk G i = some j := by rcases h : wk G i with _ | j; exact absurd (by rw [ech, h]; decide) c_28; exact ⟨j, rfl⟩
            have hjl := wk_lt G i j hj
            have ech2 : ch = nI j := by rw [ech, hj]; rfl
            refine lv_aload_n hx hb dX0_degradeOnce_31 rfl (lv_at hl 0 rfl) ?_
            refine va_get (D := (dC, dI)) (ci := 0) (v := .ref (b 4)) (C := RX0) (T := TX0) (N := 9) hx hb hts hin0 hown hK hP 0 rfl rfl 4 (by decide) f_24 (fun _ h9 => h9) rfl dX0_degradeOnce_32 ?_
            refine lv_iload_n hx hb dX0_degradeOnce_35 rfl (lv_at hl 2 rfl) ?_
            refine wI_alv (v := G 4 i) hx hb hK hP 5 0 rfl rfl i rfl (by omega) (by decide) rfl dX0_degradeOnce_36 ?_
            refine lv_aload_n hx hb dX0_degradeOnce_37 rfl (lv_at hl 0 rfl) ?_
            refine va_get (D := (dC, dI)) (ci := 0) (v := .ref (b 4)) (C := RX0) (T := TX0) (N := 9) hx hb hts hin0 hown hK hP 0 rfl rfl 4 (by decide) f_24 (fun _ h9 => h9) rfl dX0_degradeOnce_38 ?_
            refine lv_iload_n hx hb dX0_degradeOnce_41 rfl (lv_at hl 1 rfl) ?_
            refine wI_alv (v := G 4 j) hx hb hK hP 5 0 rfl rfl j ech2 (by omega) (by decide) rfl dX0_degradeOnce_42 ?_
            refine lv_icmp_ge (tgt := 48) hx hb dX0_degradeOnce_43 (by decide) (fun c_43 => ?_) (fun c_43 => ?_)
            · refine lv_iinc (v := nI (i + 1)) (lv' := [(2, .int (nI (i + 1))), (0, .ref c0), (1, .int ch)]) hx hb dX0_degradeOnce_48 hl (k := 2) rfl (nI_1 _) (by decide) rfl (fun ls hl => ?_)
              refine lv_goto (tgt := 4) hx hb dX0_degradeOnce_51 (by decide) ?_
              exact ih4 (i + 1) _ ls (by omega) (by omega) (by rw [ech2]; simp only [wk, c_24, hj, c_43, ↓reduceIte, wkI]) (lv_sub hl [1, 2, 0] rfl)
            · refine lv_iload_n hx hb dX0_degradeOnce_46 rfl (lv_at hl 2 rfl) ?_
              refine lv_istore_n (lv' := [(1, .int (nI i)), (0, .ref c0), (2, .int (nI i))]) hx hb dX0_degradeOnce_47 rfl hl (by decide) rfl (fun ls hl => ?_)
              refine lv_iinc (v := nI (i + 1)) (lv' := [(2, .int (nI (i + 1))), (1, .int (nI i)), (0, .ref c0)]) hx hb dX0_degradeOnce_48 hl (k := 2) rfl (nI_1 _) (by decide) rfl (fun ls hl => ?_)
              refine lv_goto (tgt := 4) hx hb dX0_degradeOnce_51 (by decide) ?_
              exact ih4 (i + 1) _ ls (by omega) (by omega) (by simp only [wk, c_24, hj, c_43, ↓reduceIte, wkI]) (lv_sub hl [2, 1, 0] rfl)
  exact loop4 (n + 1) 0 (-1) ls (Nat.zero_le _) (by omega) rfl (lv_sub hl [2, 1, 0] rfl)

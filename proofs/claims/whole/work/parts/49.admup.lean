/-! PART 49: DeadlineAdmission, upgrade, proposeText -/
set_option maxHeartbeats 1000000 in
set_option maxRecDepth 100000 in
/-- levels are lowered -/
theorem c_X4_upgrade (l : Launch) (dC : Nat → ClassId) (dI : Nat → Nat → Nat) (cy : Nat → ClassId) (sz : Nat) (d0 : Nat) (o : Nat → Nat) (F : Nat → Int32) (bc : Nat → Nat) (G : vG) (n : Nat) (hn : n ≤ 8) (sc : Int32) (bt : Nat → Nat) (Gt : vG) (nt : Nat) (hnt : nt ≤ 8) (sct : Int32) (hG0 : okG G n) (rg x kk : Nat) (hx6 : x < 6) (hkk : kk ≤ 6) (cs : Nat → Nat) (bs : Nat → Nat → Nat) (RG : Nat → vG) (rn : Nat → Nat) (RS : Nat → Int32) : Met l yX4_upgrade wsX4_upgrade ({ frames := 6, cells := 0, slots := 0, locals := 143 }) (va_Pc [.ref d0] (pIn dC dI cy (wObj d0 o F ++ (wCfg cy (o 0) bc G (nI n) sc ++ (wCfg cy (o 1) bt Gt (nI nt) sct ++ (wHis cy (o 3) rg x kk cs bs RG rn RS)))) sz)) (va_Qi (fun (r : Int32) (u : AdmS) => kUpg F G n sc Gt x kk RG rn RS r u) (fun (u : AdmS) t => va_P (dC, dI) vwCl (wAdm cy d0 o bc bt rg cs bs u) t.heap ∧ va_D (va_A (wObj d0 o F ++ (wCfg cy (o 0) bc G (nI n) sc ++ (wCfg cy (o 1) bt Gt (nI nt) sct ++ (wHis cy (o 3) rg x kk cs bs RG rn RS)))) sz) (wAdm cy d0 o bc bt rg cs bs u)) (va_A (wObj d0 o F ++ (wCfg cy (o 0) bc G (nI n) sc ++ (wCfg cy (o 1) bt Gt (nI nt) sct ++ (wHis cy (o 3) rg x kk cs bs RG rn RS)))) sz)) 0 0 (va_A (wObj d0 o F ++ (wCfg cy (o 0) bc G (nI n) sc ++ (wCfg cy (o 1) bt Gt (nI nt) sct ++ (wHis cy (o 3) rg x kk cs bs RG rn RS)))) sz) := by
  refine Met.ofW (cc := cX4_upgrade) (maxL := 4) (ret := some .int) (by decide) rfl ?_
  intro p e s m args below meth c s₁ B hml hv
  obtain ⟨rfl, hsz, hP, hE, hD0⟩ := hv
  have hK := hE.1
  subst hsz
  have hD := hD0.self (sz := s.heap.size)
  generalize hAe : va_A (wObj d0 o F ++ (wCfg cy (o 0) bc G (nI n) sc ++ (wCfg cy (o 1) bt Gt (nI nt) sct ++ (wHis cy (o 3) rg x kk cs bs RG rn RS)))) s.heap.size = A at hD ⊢
  have hA : ∀ q : Nat, s.heap.size ≤ q → A q := fun q h => by rw [← hAe]; exact Or.inr h
  have hS : va_S A s.heap s.heap [] := va_S.rf
  have hP : va_P (dC, dI) vwCl (wObj d0 o F ++ (wCfg cy (o 0) bc G (nI n) sc ++ (wCfg cy (o 1) bt Gt (nI nt) sct ++ (wHis cy (o 3) rg x kk cs bs RG rn RS)))) s.heap := hP
  have hx := B.exec
  have hb := B.bytes
  have hr := B.returns
  have hts := atoms_spec (ws := wsX4_upgrade) B.pre
  have hown : s.vm.findClass RX4 = some m.cls := findClass_of_methodNamed B.named
  have hlocks := B.notSynchronized
  have hin0 : ∀ w ∈ u_ws RX0 TX0 9, w ∈ wsX4_upgrade := by decide +kernel
  have hin4 : ∀ w ∈ u_ws RX4 TX4 12, w ∈ wsX4_upgrade := by decide +kernel
  have f_12 := hts (.fieldLink RX4 12 "DeadlineAdmission" "current" "LDeadlineAdmission$Configuration;") (by decide +kernel)
  have f_120 := va_Nw.use (A := ([.ref d0].toArray)) rfl (hE.f 6 rfl)
  have f_16 := hts (.fieldLink RX4 16 "DeadlineAdmission" "trial" "LDeadlineAdmission$Configuration;") (by decide +kernel)
  have f_58 := va_Nw.use (A := ([.ref d0].toArray)) rfl (hE.f 9 rfl)
  have hl := lv_entry ([.ref d0]) (n := 4) (Nat.le_of_ble_eq_true rfl)
  rw [lg_entry_eq]
  generalize (lg_sl ([.ref d0]) ++ List.replicate (4 - (lg_sl ([.ref d0])).length) Slot.unset).toArray = ls at hl ⊢
  have hl : lv_has ls 4 [(0, .ref d0)] := hl
  refine lv_aload_n hx hb dX4_upgrade_0 rfl (lv_at hl 0 rfl) ?_
  refine va_get (D := (dC, dI)) (ci := 4) (v := .ref (o 1)) (C := RX4) (T := TX4) (N := 12) hx hb hts hin4 hown hK hP 0 rfl rfl 1 (by decide) f_16 (fun _ h9 => h9) rfl dX4_upgrade_1 ?_
  refine lv_aload_n hx hb dX4_upgrade_4 rfl (lv_at hl 0 rfl) ?_
  refine va_get (D := (dC, dI)) (ci := 4) (v := .ref (o 0)) (C := RX4) (T := TX4) (N := 12) hx hb hts hin4 hown hK hP 0 rfl rfl 0 (by decide) f_12 (fun _ h9 => h9) rfl dX4_upgrade_5 ?_
  have hPc := hP.sub (ws' := wCfg cy (o 1) bt Gt (nI nt) sct ++ (wCfg cy (o 0) bc G (nI n) sc)) [9, 10, 11, 12, 13, 14, 15, 16, 1, 2, 3, 4, 5, 6, 7, 8] rfl
  have hDc := hD.sub (ws' := wCfg cy (o 1) bt Gt (nI nt) sct ++ (wCfg cy (o 0) bc G (nI n) sc)) [9, 10, 11, 12, 13, 14, 15, 16, 1, 2, 3, 4, 5, 6, 7, 8] (by decide) rfl
  have hFc := va_free (wc := wCfg cy (o 1) bt Gt (nI nt) sct ++ (wCfg cy (o 0) bc G (nI n) sc)) hD hS hA [9, 10, 11, 12, 13, 14, 15, 16, 1, 2, 3, 4, 5, 6, 7, 8] rfl
  refine va_callv (va_runV (As := [.ref (o 0)]) (rest := []) ⟨hx, hb, hml, hown, hts⟩ (c_X0_copyFrom l dC dI cy s.heap.size (o 1) bt Gt (nI nt) sct (o 0) bc G n (by omega) sc) (cwV 1 hts gX4_upgrade_X0_copyFrom rfl rfl rfl (by decide +kernel) ⟨Nat.le_of_ble_eq_true rfl, Nat.le_of_ble_eq_true rfl⟩) ⟨bl_in, va_recv hK hPc (ci := 0) (q0 := 0) rfl rfl, pr_in hPc hE hDc⟩ rfl rfl hl.1 rfl (lv_room (Nat.le_of_ble_eq_true rfl)) dX4_upgrade_8 ⟨Nat.le_of_ble_eq_true rfl, Nat.le_of_ble_eq_true rfl⟩) hS (fun q _ h => hFc q h) hFc (fun u t H1 locs ht hvm hw hB hz1 hk1 hS => ?_)
  obtain ⟨hP1, hD1⟩ := hB
  rw [ht] at hP1
  obtain ⟨hP, hD⟩ := va_join (wr := wObj d0 o F ++ (wHis cy (o 3) rg x kk cs bs RG rn RS)) (w1 := wCfg cy (o 1) bt (cpG Gt G n) (nI n) sc ++ (wCfg cy (o 0) bc G (nI n) sc)) hP hD [9, 10, 11, 12, 13, 14, 15, 16, 1, 2, 3, 4, 5, 6, 7, 8] [0, 17, 18, 19, 20, 21, 22, 23, 24, 25, 26, 27, 28, 29, 30, 31, 32, 33, 34, 35, 36, 37, 38, 39, 40, 41, 42, 43, 44, 45, 46, 47, 48, 49, 50, 51, 52, 53, 54, 55, 56, 57, 58, 59, 60, 61, 62, 63, 64, 65, 66] rfl rfl (by decide) (by decide) hk1 hFc hP1 hD1
  have hP : va_P (dC, dI) vwCl (wObj d0 o F ++ (wCfg cy (o 0) bc G (nI n) sc ++ (wCfg cy (o 1) bt (cpG Gt G n) (nI n) sc ++ (wHis cy (o 3) rg x kk cs bs RG rn RS)))) H1 := hP.sub [0, 59, 60, 61, 62, 63, 64, 65, 66, 51, 52, 53, 54, 55, 56, 57, 58, 1, 2, 3, 4, 5, 6, 7, 8, 9, 10, 11, 12, 13, 14, 15, 16, 17, 18, 19, 20, 21, 22, 23, 24, 25, 26, 27, 28, 29, 30, 31, 32, 33, 34, 35, 36, 37, 38, 39, 40, 41, 42, 43, 44, 45, 46, 47, 48, 49, 50] rfl
  have hD : va_D A (wObj d0 o F ++ (wCfg cy (o 0) bc G (nI n) sc ++ (wCfg cy (o 1) bt (cpG Gt G n) (nI n) sc ++ (wHis cy (o 3) rg x kk cs bs RG rn RS)))) := hD.sub [0, 59, 60, 61, 62, 63, 64, 65, 66, 51, 52, 53, 54, 55, 56, 57, 58, 1, 2, 3, 4, 5, 6, 7, 8, 9, 10, 11, 12, 13, 14, 15, 16, 17, 18, 19, 20, 21, 22, 23, 24, 25, 26, 27, 28, 29, 30, 31, 32, 33, 34, 35, 36, 37, 38, 39, 40, 41, 42, 43, 44, 45, 46, 47, 48, 49, 50] (by decide) rfl
  clear hz1 hk1 hPc hDc hFc hP1 hD1
  generalize H1 = H at hP hS ⊢
  refine lv_iconst (v := 0) hx hb dX4_upgrade_11 (by decide) ?_
  refine lv_istore_n (lv' := [(1, .int 0), (0, .ref d0)]) hx hb dX4_upgrade_12 rfl hl (by decide) rfl (fun ls hl => ?_)
  refine lv_bipush (v := 9) hx hb dX4_upgrade_13 (by decide) ?_
  refine lv_istore_n (lv' := [(2, .int 9), (1, .int 0), (0, .ref d0)]) hx hb dX4_upgrade_15 rfl hl (by decide) rfl (fun ls hl => ?_)
  have loop16 : ∀ (k : Nat) (q : Nat) (Gc : vG) (scc : Int32) (sm : Nat) (ls : Array Slot), okG Gc n → q ≤ 10 → q < k → upA n q (Gc, sm) = upgr n (cpG Gt G n) → ∀ (H : Heap) (locs : List Loc), va_P (dC, dI) vwCl (wObj d0 o F ++ (wCfg cy (o 0) bc G (nI n) sc ++ (wCfg cy (o 1) bt Gc (nI n) scc ++ (wHis cy (o 3) rg x kk cs bs RG rn RS)))) H → va_D A (wObj d0 o F ++ (wCfg cy (o 0) bc G (nI n) sc ++ (wCfg cy (o 1) bt Gc (nI n) scc ++ (wHis cy (o 3) rg x kk cs bs RG rn RS)))) → va_S A s.heap H locs → lv_has ls 4 [(0, .ref d0), (1, .int (nI sm)), (2, .int (nI q - 1))] → W p l e (headSpec wsX4_upgrade ({ frames := 6, cells := 0, slots := 0, locals := 143 }) |>.room) s m (([.ref d0].toArray)) below meth c H locs 0 0 (MQ below (va_Qi (fun (r : Int32) (u : AdmS) => kUpg F G n sc Gt x kk RG rn RS r u) (fun (u : AdmS) t => va_P (dC, dI) vwCl (wAdm cy d0 o bc bt rg cs bs u) t.heap ∧ va_D (A) (wAdm cy d0 o bc bt rg cs bs u)) (A)) ([.ref d0].toArray) s 0 0 A) (F0 m 16 ls []) := by
    intro k
    induction k with
    | zero =>
      intro q Gc scc sm ls hok hq hk er
      exfalso; omega
    | succ k ih16 =>
      intro q Gc scc sm ls hok hq hk er H locs hP hD hS hl
      refine lv_iload_n hx hb dX4_upgrade_16 rfl (lv_at hl 2 rfl) ?_
      refine lv_if_lt (tgt := 69) hx hb dX4_upgrade_17 (by decide) (fun c_17 => ?_) (fun c_17 => ?_)
      · have e_q : q = 0 := by rcases Nat.eq_zero_or_pos q with h | h; exact h; exact absurd (by rw [show nI q - 1 = nI (q - 1) from nsub rfl rfl h]; exact nI_pos' (by omega)) (Int32.not_le.mpr c_17)
        have er9 : (Gc, sm) = upgr n (cpG Gt G n) := by rw [← er, e_q]; rfl
        refine lv_aload_n hx hb dX4_upgrade_69 rfl (lv_at hl 0 rfl) ?_
        refine va_get (D := (dC, dI)) (ci := 4) (v := .ref (o 1)) (C := RX4) (T := TX4) (N := 12) hx hb hts hin4 hown hK hP 0 rfl rfl 1 (by decide) f_16 (fun _ h9 => h9) rfl dX4_upgrade_70 ?_
        have hPc := hP.sub (ws' := wCfg cy (o 1) bt Gc (nI n) scc) [9, 10, 11, 12, 13, 14, 15, 16] rfl
        have hDc := hD.sub (ws' := wCfg cy (o 1) bt Gc (nI n) scc) [9, 10, 11, 12, 13, 14, 15, 16] (by decide) rfl
        have hFc := va_free (wc := wCfg cy (o 1) bt Gc (nI n) scc) hD hS hA [9, 10, 11, 12, 13, 14, 15, 16] rfl
        refine va_calli (va_runV (As := []) (rest := []) ⟨hx, hb, hml, hown, hts⟩ (c_X0_takeGreatestScale l dC dI cy H.size (o 1) bt Gc n hn scc ) (cwV 0 hts gX4_upgrade_X0_takeGreatestScale rfl rfl rfl (by decide +kernel) ⟨Nat.le_of_ble_eq_true rfl, Nat.le_of_ble_eq_true rfl⟩) ⟨bl_in, va_recv hK hPc (ci := 0) (q0 := 0) rfl rfl, pr_in hPc hE hDc⟩ rfl rfl hl.1 rfl (lv_room (Nat.le_of_ble_eq_true rfl)) dX4_upgrade_73 ⟨Nat.le_of_ble_eq_true rfl, Nat.le_of_ble_eq_true rfl⟩) hS (fun q _ h => hFc q h) hFc (fun r u t H1 locs ht hvm hw hB hz1 hk1 hS => ?_)
        obtain ⟨r_73, rfl⟩ : ∃ z, z = r := ⟨_, rfl⟩
        obtain ⟨u_73, rfl⟩ : ∃ z, z = u := ⟨_, rfl⟩
        obtain ⟨er_73, eu_73⟩ := hw
        obtain ⟨hP1, hD1⟩ := hB
        rw [ht] at hP1
        obtain ⟨hP, hD⟩ := va_join (wr := wObj d0 o F ++ (wCfg cy (o 0) bc G (nI n) sc ++ (wHis cy (o 3) rg x kk cs bs RG rn RS))) (w1 := wCfg cy (o 1) bt Gc (nI n) u_73) hP hD [9, 10, 11, 12, 13, 14, 15, 16] [0, 1, 2, 3, 4, 5, 6, 7, 8, 17, 18, 19, 20, 21, 22, 23, 24, 25, 26, 27, 28, 29, 30, 31, 32, 33, 34, 35, 36, 37, 38, 39, 40, 41, 42, 43, 44, 45, 46, 47, 48, 49, 50, 51, 52, 53, 54, 55, 56, 57, 58, 59, 60, 61, 62, 63, 64, 65, 66] rfl rfl (by decide) (by decide) hk1 hFc hP1 hD1
        have hP : va_P (dC, dI) vwCl (wObj d0 o F ++ (wCfg cy (o 0) bc G (nI n) sc ++ (wCfg cy (o 1) bt Gc (nI n) u_73 ++ (wHis cy (o 3) rg x kk cs bs RG rn RS)))) H1 := hP.sub [0, 1, 2, 3, 4, 5, 6, 7, 8, 59, 60, 61, 62, 63, 64, 65, 66, 9, 10, 11, 12, 13, 14, 15, 16, 17, 18, 19, 20, 21, 22, 23, 24, 25, 26, 27, 28, 29, 30, 31, 32, 33, 34, 35, 36, 37, 38, 39, 40, 41, 42, 43, 44, 45, 46, 47, 48, 49, 50, 51, 52, 53, 54, 55, 56, 57, 58] rfl
        have hD : va_D A (wObj d0 o F ++ (wCfg cy (o 0) bc G (nI n) sc ++ (wCfg cy (o 1) bt Gc (nI n) u_73 ++ (wHis cy (o 3) rg x kk cs bs RG rn RS)))) := hD.sub [0, 1, 2, 3, 4, 5, 6, 7, 8, 59, 60, 61, 62, 63, 64, 65, 66, 9, 10, 11, 12, 13, 14, 15, 16, 17, 18, 19, 20, 21, 22, 23, 24, 25, 26, 27, 28, 29, 30, 31, 32, 33, 34, 35, 36, 37, 38, 39, 40, 41, 42, 43, 44, 45, 46, 47, 48, 49, 50, 51, 52, 53, 54, 55, 56, 57, 58] (by decide) rfl
        clear hz1 hk1 hPc hDc hFc hP1 hD1
        generalize H1 = H at hP hS ⊢
        refine lv_pop hx hb dX4_upgrade_76 rfl ?_
        refine lv_aload_n hx hb dX4_upgrade_77 rfl (lv_at hl 0 rfl) ?_
        have hPc := hP.sub (ws' := wObj d0 o F ++ (wCfg cy (o 0) bc G (nI n) sc ++ (wCfg cy (o 1) bt Gc (nI n) u_73 ++ (wHis cy (o 3) rg x kk cs bs RG rn RS)))) [0, 1, 2, 3, 4, 5, 6, 7, 8, 9, 10, 11, 12, 13, 14, 15, 16, 17, 18, 19, 20, 21, 22, 23, 24, 25, 26, 27, 28, 29, 30, 31, 32, 33, 34, 35, 36, 37, 38, 39, 40, 41, 42, 43, 44, 45, 46, 47, 48, 49, 50, 51, 52, 53, 54, 55, 56, 57, 58, 59, 60, 61, 62, 63, 64, 65, 66] rfl
        have hDc := hD.sub (ws' := wObj d0 o F ++ (wCfg cy (o 0) bc G (nI n) sc ++ (wCfg cy (o 1) bt Gc (nI n) u_73 ++ (wHis cy (o 3) rg x kk cs bs RG rn RS)))) [0, 1, 2, 3, 4, 5, 6, 7, 8, 9, 10, 11, 12, 13, 14, 15, 16, 17, 18, 19, 20, 21, 22, 23, 24, 25, 26, 27, 28, 29, 30, 31, 32, 33, 34, 35, 36, 37, 38, 39, 40, 41, 42, 43, 44, 45, 46, 47, 48, 49, 50, 51, 52, 53, 54, 55, 56, 57, 58, 59, 60, 61, 62, 63, 64, 65, 66] (by decide) rfl
        have hFc := va_free (wc := wObj d0 o F ++ (wCfg cy (o 0) bc G (nI n) sc ++ (wCfg cy (o 1) bt Gc (nI n) u_73 ++ (wHis cy (o 3) rg x kk cs bs RG rn RS)))) hD hS hA [0, 1, 2, 3, 4, 5, 6, 7, 8, 9, 10, 11, 12, 13, 14, 15, 16, 17, 18, 19, 20, 21, 22, 23, 24, 25, 26, 27, 28, 29, 30, 31, 32, 33, 34, 35, 36, 37, 38, 39, 40, 41, 42, 43, 44, 45, 46, 47, 48, 49, 50, 51, 52, 53, 54, 55, 56, 57, 58, 59, 60, 61, 62, 63, 64, 65, 66] rfl
        refine va_callv (va_runV (As := []) (rest := []) ⟨hx, hb, hml, hown, hts⟩ (c_X4_commitTrial l dC dI cy H.size d0 o F bc G n (by omega) sc bt Gc n (by omega) u_73 rg x kk hx6 hkk cs bs RG rn RS) (cwV 0 hts gX4_upgrade_X4_commitTrial rfl rfl rfl (by decide +kernel) ⟨Nat.le_of_ble_eq_true rfl, Nat.le_of_ble_eq_true rfl⟩) ⟨bl_in, va_recv hK hPc (ci := 4) (q0 := 0) rfl rfl, pr_in hPc hE hDc⟩ rfl rfl hl.1 rfl (lv_room (Nat.le_of_ble_eq_true rfl)) dX4_upgrade_78 ⟨Nat.le_of_ble_eq_true rfl, Nat.le_of_ble_eq_true rfl⟩) hS (fun q _ h => hFc q h) hFc (fun u t H1 locs ht hvm hw hB hz1 hk1 hS => ?_)
        obtain ⟨hP1, hD1⟩ := hB
        rw [ht] at hP1
        obtain ⟨hP, hD⟩ := va_join (wr := []) (w1 := wObj d0 o (upd F 7 0) ++ (wCfg cy (o 0) bc (cpG G Gc n) (nI n) u_73 ++ (wCfg cy (o 1) bt Gc (nI n) u_73 ++ (wHis cy (o 3) rg ((x + 1) % 6) (hcnt kk) cs bs (va_up RG x (cpG (RG x) G n)) (va_up rn x n) (va_up RS x sc))))) hP hD [0, 1, 2, 3, 4, 5, 6, 7, 8, 9, 10, 11, 12, 13, 14, 15, 16, 17, 18, 19, 20, 21, 22, 23, 24, 25, 26, 27, 28, 29, 30, 31, 32, 33, 34, 35, 36, 37, 38, 39, 40, 41, 42, 43, 44, 45, 46, 47, 48, 49, 50, 51, 52, 53, 54, 55, 56, 57, 58, 59, 60, 61, 62, 63, 64, 65, 66] [] rfl rfl (by decide) (by decide) hk1 hFc hP1 hD1
        have hP : va_P (dC, dI) vwCl (wObj d0 o (upd F 7 0) ++ (wCfg cy (o 0) bc (cpG G Gc n) (nI n) u_73 ++ (wCfg cy (o 1) bt Gc (nI n) u_73 ++ (wHis cy (o 3) rg ((x + 1) % 6) (hcnt kk) cs bs (va_up RG x (cpG (RG x) G n)) (va_up rn x n) (va_up RS x sc))))) H1 := hP.sub [0, 1, 2, 3, 4, 5, 6, 7, 8, 9, 10, 11, 12, 13, 14, 15, 16, 17, 18, 19, 20, 21, 22, 23, 24, 25, 26, 27, 28, 29, 30, 31, 32, 33, 34, 35, 36, 37, 38, 39, 40, 41, 42, 43, 44, 45, 46, 47, 48, 49, 50, 51, 52, 53, 54, 55, 56, 57, 58, 59, 60, 61, 62, 63, 64, 65, 66] rfl
        have hD : va_D A (wObj d0 o (upd F 7 0) ++ (wCfg cy (o 0) bc (cpG G Gc n) (nI n) u_73 ++ (wCfg cy (o 1) bt Gc (nI n) u_73 ++ (wHis cy (o 3) rg ((x + 1) % 6) (hcnt kk) cs bs (va_up RG x (cpG (RG x) G n)) (va_up rn x n) (va_up RS x sc))))) := hD.sub [0, 1, 2, 3, 4, 5, 6, 7, 8, 9, 10, 11, 12, 13, 14, 15, 16, 17, 18, 19, 20, 21, 22, 23, 24, 25, 26, 27, 28, 29, 30, 31, 32, 33, 34, 35, 36, 37, 38, 39, 40, 41, 42, 43, 44, 45, 46, 47, 48, 49, 50, 51, 52, 53, 54, 55, 56, 57, 58, 59, 60, 61, 62, 63, 64, 65, 66] (by decide) rfl
        clear hz1 hk1 hPc hDc hFc hP1 hD1
        generalize H1 = H at hP hS ⊢
        refine lv_iload_n hx hb dX4_upgrade_81 rfl (lv_at hl 1 rfl) ?_
        have hP9 : va_P (dC, dI) vwCl (wObj d0 o (upd F 7 0) ++ (wCfg cy (o 0) bc (cpG G Gc n) (nI n) u_73 ++ (wCfg cy (o 1) bt Gc (nI n) u_73 ++ (wHis cy (o 3) rg ((x + 1) % 6) (hcnt kk) cs bs (va_up RG x (cpG (RG x) G n)) (va_up rn x n) (va_up RS x sc))))) H := hP
        have hD9 : va_D A (wObj d0 o (upd F 7 0) ++ (wCfg cy (o 0) bc (cpG G Gc n) (nI n) u_73 ++ (wCfg cy (o 1) bt Gc (nI n) u_73 ++ (wHis cy (o 3) rg ((x + 1) % 6) (hcnt kk) cs bs (va_up RG x (cpG (RG x) G n)) (va_up rn x n) (va_up RS x sc))))) := hD
        exact W.iret (v := nI sm) hx hb hr (fun t ht hW => ⟨⟨nI sm, (upd F 7 0, (cpG G Gc n, n, u_73), (Gc, n, u_73), ((x + 1) % 6, hcnt kk, va_up RG x (cpG (RG x) G n), va_up rn x n, va_up RS x sc)), rfl, ⟨by rw [← er9], scc, by rw [← er9]; show _ = kChg F G n sc x kk RG rn RS Gc n (if gscale Gc n = 0 then scc else nI (gscale Gc n)); rw [← eu_73]; rfl⟩, by rw [ht]; exact hP9, hD9⟩, hS.F ht⟩) hS.2.2 dX4_upgrade_82
      · obtain ⟨q, rfl⟩ : ∃ z, q = z + 1 := ⟨q - 1, by rcases Nat.eq_zero_or_pos q with h | h; exact absurd (by rw [h]; decide) c_17; omega⟩
        rw [nI_pred q] at hl
        refine lv_iconst (v := 0) hx hb dX4_upgrade_20 (by decide) ?_
        refine lv_istore_n (lv' := [(3, .int 0), (0, .ref d0), (1, .int (nI sm)), (2, .int (nI q))]) hx hb dX4_upgrade_21 rfl hl (by decide) rfl (fun ls hl => ?_)
        have loop22 : ∀ (k : Nat) (j : Nat) (i : Nat) (Gc : vG) (scc : Int32) (sm : Nat) (ls : Array Slot), okG Gc n → i + j = n → j < k → upA n q (upJ n (nI q) j i (Gc, sm)) = upgr n (cpG Gt G n) → ∀ (H : Heap) (locs : List Loc), va_P (dC, dI) vwCl (wObj d0 o F ++ (wCfg cy (o 0) bc G (nI n) sc ++ (wCfg cy (o 1) bt Gc (nI n) scc ++ (wHis cy (o 3) rg x kk cs bs RG rn RS)))) H → va_D A (wObj d0 o F ++ (wCfg cy (o 0) bc G (nI n) sc ++ (wCfg cy (o 1) bt Gc (nI n) scc ++ (wHis cy (o 3) rg x kk cs bs RG rn RS)))) → va_S A s.heap H locs → lv_has ls 4 [(0, .ref d0), (1, .int (nI sm)), (2, .int (nI q)), (3, .int (nI i))] → W p l e (headSpec wsX4_upgrade ({ frames := 6, cells := 0, slots := 0, locals := 143 }) |>.room) s m (([.ref d0].toArray)) below meth c H locs 0 0 (MQ below (va_Qi (fun (r : Int32) (u : AdmS) => kUpg F G n sc Gt x kk RG rn RS r u) (fun (u : AdmS) t => va_P (dC, dI) vwCl (wAdm cy d0 o bc bt rg cs bs u) t.heap ∧ va_D (A) (wAdm cy d0 o bc bt rg cs bs u)) (A)) ([.ref d0].toArray) s 0 0 A) (F0 m 22 ls []) := by
          intro k
          induction k with
          | zero =>
            intro j i Gc scc sm ls hok hij hk2 er
            exfalso; omega
          | succ k ih22 =>
            intro j i Gc scc sm ls hok hij hk2 er H locs hP hD hS hl
            refine lv_iload_n hx hb dX4_upgrade_22 rfl (lv_at hl 3 rfl) ?_
            refine lv_aload_n hx hb dX4_upgrade_23 rfl (lv_at hl 0 rfl) ?_
            refine va_get (D := (dC, dI)) (ci := 4) (v := .ref (o 1)) (C := RX4) (T := TX4) (N := 12) hx hb hts hin4 hown hK hP 0 rfl rfl 1 (by decide) f_16 (fun _ h9 => h9) rfl dX4_upgrade_24 ?_
            refine va_getN (D := (dC, dI)) (ci := 0) (v := .int (nI n)) (C := RX0) (T := TX0) (N := 9) hx hb hts hin0 hown hK hP 9 rfl rfl 7 (by decide) f_58 (fun _ h9 => h9) rfl dX4_upgrade_27 ?_
            refine lv_icmp_ge (tgt := 63) hx hb dX4_upgrade_30 (by decide) (fun c_30 => ?_) (fun c_30 => ?_)
            · have e_j : j = 0 := by have := (nI_leI (a := n) (b := i) (by omega) (by omega)).mp c_30; omega
              refine lv_iinc (v := nI q - 1) (lv' := [(2, .int (nI q - 1)), (0, .ref d0), (1, .int (nI sm)), (3, .int (nI i))]) hx hb dX4_upgrade_63 hl (k := 2) rfl (im1 _) (by decide) rfl (fun ls hl => ?_)
              refine lv_goto (tgt := 16) hx hb dX4_upgrade_66 (by decide) ?_
              exact ih16 q _ _ _ ls hok (by omega) (by omega) (by rw [← er, e_j]; rfl) _ _ hP hD hS (lv_sub hl [1, 2, 0] rfl)
            · have hlt : i < n := Nat.lt_of_not_le (fun h => c_30 (nI_le h (by omega)))
              obtain ⟨j, rfl⟩ : ∃ z, j = z + 1 := ⟨j - 1, by omega⟩
              obtain ⟨lv, hlv, hl3⟩ := lvl_lt hok hlt
              refine lv_aload_n hx hb dX4_upgrade_33 rfl (lv_at hl 0 rfl) ?_
              refine va_get (D := (dC, dI)) (ci := 4) (v := .ref (o 1)) (C := RX4) (T := TX4) (N := 12) hx hb hts hin4 hown hK hP 0 rfl rfl 1 (by decide) f_16 (fun _ h9 => h9) rfl dX4_upgrade_34 ?_
              refine va_getN (D := (dC, dI)) (ci := 0) (v := .ref (bt 4)) (C := RX0) (T := TX0) (N := 9) hx hb hts hin0 hown hK hP 9 rfl rfl 4 (by decide) f_120 (fun _ h9 => h9) rfl dX4_upgrade_37 ?_
              refine lv_iload_n hx hb dX4_upgrade_40 rfl (lv_at hl 3 rfl) ?_
              refine wI_alv (v := Gc 4 i) hx hb hK hP 14 0 rfl rfl i rfl (by omega) (by decide) rfl dX4_upgrade_41 ?_
              refine lv_iload_n hx hb dX4_upgrade_42 rfl (lv_at hl 2 rfl) ?_
              refine lv_icmp_ne (tgt := 57) hx hb dX4_upgrade_43 (by decide) (fun c_43 => ?_) (fun c_43 => ?_)
              · refine lv_iinc (v := nI (i + 1)) (lv' := [(3, .int (nI (i + 1))), (0, .ref d0), (1, .int (nI sm)), (2, .int (nI q))]) hx hb dX4_upgrade_57 hl (k := 3) rfl (nI_1 _) (by decide) rfl (fun ls hl => ?_)
                refine lv_goto (tgt := 22) hx hb dX4_upgrade_60 (by decide) ?_
                exact ih22 j (i + 1) _ _ _ ls hok (by omega) (by omega) (by rw [← er, upJ, upS, if_neg c_43]) _ _ hP hD hS (lv_sub hl [1, 2, 3, 0] rfl)
              · refine lv_iload_n hx hb dX4_upgrade_46 rfl (lv_at hl 1 rfl) ?_
                refine lv_aload_n hx hb dX4_upgrade_47 rfl (lv_at hl 0 rfl) ?_
                refine va_get (D := (dC, dI)) (ci := 4) (v := .ref (o 1)) (C := RX4) (T := TX4) (N := 12) hx hb hts hin4 hown hK hP 0 rfl rfl 1 (by decide) f_16 (fun _ h9 => h9) rfl dX4_upgrade_48 ?_
                refine lv_iload_n hx hb dX4_upgrade_51 rfl (lv_at hl 3 rfl) ?_
                have hPc := hP.sub (ws' := wCfg cy (o 1) bt Gc (nI n) scc) [9, 10, 11, 12, 13, 14, 15, 16] rfl
                have hDc := hD.sub (ws' := wCfg cy (o 1) bt Gc (nI n) scc) [9, 10, 11, 12, 13, 14, 15, 16] (by decide) rfl
                have hFc := va_free (wc := wCfg cy (o 1) bt Gc (nI n) scc) hD hS hA [9, 10, 11, 12, 13, 14, 15, 16] rfl
                refine va_calli (va_runV (As := [.int (nI i)]) (rest := [.int (nI sm)]) ⟨hx, hb, hml, hown, hts⟩ (c_X0_lowerLevel l dC dI cy H.size (o 1) bt Gc n hn scc i (by omega) lv (by omega) hlv) (cwV 1 hts gX4_upgrade_X0_lowerLevel rfl rfl rfl (by decide +kernel) ⟨Nat.le_of_ble_eq_true rfl, Nat.le_of_ble_eq_true rfl⟩) ⟨bl_in, va_recv hK hPc (ci := 0) (q0 := 0) rfl rfl, pr_in hPc hE hDc⟩ rfl rfl hl.1 rfl (lv_room (Nat.le_of_ble_eq_true rfl)) dX4_upgrade_52 ⟨Nat.le_of_ble_eq_true rfl, Nat.le_of_ble_eq_true rfl⟩) hS (fun q _ h => hFc q h) hFc (fun r u t H1 locs ht hvm hw hB hz1 hk1 hS => ?_)
                obtain ⟨G9, s9⟩ := u
                obtain ⟨hw1, hw2, -⟩ := hw
                rw [(lwl_G lv Gc scc 0).1] at hw2
                rw [(lwl_G lv Gc scc 0).2, Nat.zero_add] at hw1
                obtain ⟨d9, ed9⟩ : ∃ z, z = (lwG n i lv Gc).2 := ⟨_, rfl⟩
                rw [← ed9] at hw1
                subst hw1
                have hok9 : okG G9 n := by have := okG_lwG hlt lv Gc hok hlv hl3; rw [← hw2] at this; exact this
                have hG9 : G9 = (lwG n i lv Gc).1 := hw2
                clear hw2
                obtain ⟨hP1, hD1⟩ := hB
                rw [ht] at hP1
                obtain ⟨hP, hD⟩ := va_join (wr := wObj d0 o F ++ (wCfg cy (o 0) bc G (nI n) sc ++ (wHis cy (o 3) rg x kk cs bs RG rn RS))) (w1 := wCfg cy (o 1) bt G9 (nI n) s9) hP hD [9, 10, 11, 12, 13, 14, 15, 16] [0, 1, 2, 3, 4, 5, 6, 7, 8, 17, 18, 19, 20, 21, 22, 23, 24, 25, 26, 27, 28, 29, 30, 31, 32, 33, 34, 35, 36, 37, 38, 39, 40, 41, 42, 43, 44, 45, 46, 47, 48, 49, 50, 51, 52, 53, 54, 55, 56, 57, 58, 59, 60, 61, 62, 63, 64, 65, 66] rfl rfl (by decide) (by decide) hk1 hFc hP1 hD1
                have hP : va_P (dC, dI) vwCl (wObj d0 o F ++ (wCfg cy (o 0) bc G (nI n) sc ++ (wCfg cy (o 1) bt G9 (nI n) s9 ++ (wHis cy (o 3) rg x kk cs bs RG rn RS)))) H1 := hP.sub [0, 1, 2, 3, 4, 5, 6, 7, 8, 59, 60, 61, 62, 63, 64, 65, 66, 9, 10, 11, 12, 13, 14, 15, 16, 17, 18, 19, 20, 21, 22, 23, 24, 25, 26, 27, 28, 29, 30, 31, 32, 33, 34, 35, 36, 37, 38, 39, 40, 41, 42, 43, 44, 45, 46, 47, 48, 49, 50, 51, 52, 53, 54, 55, 56, 57, 58] rfl
                have hD : va_D A (wObj d0 o F ++ (wCfg cy (o 0) bc G (nI n) sc ++ (wCfg cy (o 1) bt G9 (nI n) s9 ++ (wHis cy (o 3) rg x kk cs bs RG rn RS)))) := hD.sub [0, 1, 2, 3, 4, 5, 6, 7, 8, 59, 60, 61, 62, 63, 64, 65, 66, 9, 10, 11, 12, 13, 14, 15, 16, 17, 18, 19, 20, 21, 22, 23, 24, 25, 26, 27, 28, 29, 30, 31, 32, 33, 34, 35, 36, 37, 38, 39, 40, 41, 42, 43, 44, 45, 46, 47, 48, 49, 50, 51, 52, 53, 54, 55, 56, 57, 58] (by decide) rfl
                clear hz1 hk1 hPc hDc hFc hP1 hD1
                generalize H1 = H at hP hS ⊢
                refine lv_iadd hx hb dX4_upgrade_55 ?_
                refine lv_topi (fun y_ ey_ => ?_)
                obtain rfl : y_ = nI (sm + d9) := ey_.trans (nI_add _ _)
                refine lv_istore_n (lv' := [(1, .int (nI (sm + d9))), (0, .ref d0), (2, .int (nI q)), (3, .int (nI i))]) hx hb dX4_upgrade_56 rfl hl (by decide) rfl (fun ls hl => ?_)
                refine lv_iinc (v := nI (i + 1)) (lv' := [(3, .int (nI (i + 1))), (1, .int (nI (sm + d9))), (0, .ref d0), (2, .int (nI q))]) hx hb dX4_upgrade_57 hl (k := 3) rfl (nI_1 _) (by decide) rfl (fun ls hl => ?_)
                refine lv_goto (tgt := 22) hx hb dX4_upgrade_60 (by decide) ?_
                exact ih22 j (i + 1) _ _ _ ls hok9 (by omega) (by omega) (by rw [← er, upJ, upS]; simp only [hlv, nI_clamp (show lv < 2147483648 by omega)]; rw [if_pos c_43, hG9, ed9]) _ _ hP hD hS (lv_sub hl [2, 1, 3, 0] rfl)
        exact loop22 (n + 1) n 0 _ _ _ ls hok (by omega) (by omega) er _ _ hP hD hS (lv_sub hl [1, 2, 3, 0] rfl)
  exact loop16 11 10 (cpG Gt G n) sc 0 ls (okG_agr (agr_cp Gt G n).symm hG0) (Nat.le_refl _) (by omega) rfl _ _ hP hD hS (lv_sub hl [2, 1, 0] rfl)
set_option maxHeartbeats 1000000 in
set_option maxRecDepth 100000 in
/-- a proposal as text -/
theorem c_X4_proposeText (l : Launch) (hst : l.stackTraces = false) (dC : Nat → ClassId) (dI : Nat → Nat → Nat) (cy : Nat → ClassId) (sz : Nat) (d0 : Nat) (o : Nat → Nat) (F : Nat → Int32) (bc : Nat → Nat) (G : vG) (n : Nat) (hn : n ≤ 8) (sc : Int32) (bt : Nat → Nat) (Gt : vG) (nt : Nat) (hnt8 : nt ≤ 8) (sct : Int32) (rg x kk : Nat) (hx6 : x < 6) (hkk : kk ≤ 6) (cs : Nat → Nat) (bs : Nat → Nat → Nat) (RG : Nat → vG) (rn : Nat → Nat) (RS : Nat → Int32) (ta tb : Nat) (C N : Nat → Int32) (fl : Int32) (L : Nat) (hL : L ≤ 30) : vx_Met l yX4_proposeText wsX4_proposeText ({ frames := 7, cells := 1, slots := 6, locals := 148 }) (va_Pc [.ref d0] (pX dC dI cy (wObj d0 o F ++ (wCfg cy (o 0) bc G (nI n) sc ++ (wCfg cy (o 1) bt Gt (nI nt) sct ++ (wHis cy (o 3) rg x kk cs bs RG rn RS ++ (wTxt cy (o 4) ta tb C N (nI L) fl))))) sz)) (va_Qi (fun (r : Int32) (u : AdmS × (Nat → Int32)) => flt C L = -1 ∧ kProp F G n sc Gt x kk RG rn RS (nv C L 0) (nv C L 1) (nv C L 2) (nv C L 3) (nv C L 4) (nv C L 5) r u.1) (fun (u : AdmS × (Nat → Int32)) t => va_P (dC, dI) vwCl (wObj d0 o u.1.1 ++ (wCfg cy (o 0) bc u.1.2.1.1 (nI u.1.2.1.2.1) u.1.2.1.2.2 ++ (wCfg cy (o 1) bt u.1.2.2.1.1 (nI u.1.2.2.1.2.1) u.1.2.2.1.2.2 ++ (wHis cy (o 3) rg u.1.2.2.2.1 u.1.2.2.2.2.1 cs bs u.1.2.2.2.2.2.1 u.1.2.2.2.2.2.2.1 u.1.2.2.2.2.2.2.2 ++ (wTxt cy (o 4) ta tb C u.2 0 (flt C L)))))) t.heap ∧ va_D (va_A (wObj d0 o F ++ (wCfg cy (o 0) bc G (nI n) sc ++ (wCfg cy (o 1) bt Gt (nI nt) sct ++ (wHis cy (o 3) rg x kk cs bs RG rn RS ++ (wTxt cy (o 4) ta tb C N (nI L) fl))))) sz) (wObj d0 o u.1.1 ++ (wCfg cy (o 0) bc u.1.2.1.1 (nI u.1.2.1.2.1) u.1.2.1.2.2 ++ (wCfg cy (o 1) bt u.1.2.2.1.1 (nI u.1.2.2.1.2.1) u.1.2.2.1.2.2 ++ (wHis cy (o 3) rg u.1.2.2.2.1 u.1.2.2.2.2.1 cs bs u.1.2.2.2.2.2.1 u.1.2.2.2.2.2.2.1 u.1.2.2.2.2.2.2.2 ++ (wTxt cy (o 4) ta tb C u.2 0 (flt C L))))))) (va_A (wObj d0 o F ++ (wCfg cy (o 0) bc G (nI n) sc ++ (wCfg cy (o 1) bt Gt (nI nt) sct ++ (wHis cy (o 3) rg x kk cs bs RG rn RS ++ (wTxt cy (o 4) ta tb C N (nI L) fl))))) sz)) (vx_X (fun (_ : Nat → Int32) => True) (fun (E : String) (u : Nat → Int32) (t : State) => ((E = "java/lang/IllegalArgumentException" ∧ ¬ flt C L = -1) ∨ (flt C L = -1 ∧ ((E = "java/lang/IllegalArgumentException" ∧ cProp n (nv C L 0) (nv C L 1) (nv C L 2) (nv C L 3) (nv C L 4) (nv C L 5) = 1) ∨ (E = "java/lang/IllegalStateException" ∧ cProp n (nv C L 0) (nv C L 1) (nv C L 2) (nv C L 3) (nv C L 4) (nv C L 5) = 2)))) ∧ va_P (dC, dI) vwCl (wObj d0 o F ++ (wCfg cy (o 0) bc G (nI n) sc ++ (wCfg cy (o 1) bt Gt (nI nt) sct ++ (wHis cy (o 3) rg x kk cs bs RG rn RS ++ (wTxt cy (o 4) ta tb C u 0 (flt C L)))))) t.heap ∧ va_D (va_A (wObj d0 o F ++ (wCfg cy (o 0) bc G (nI n) sc ++ (wCfg cy (o 1) bt Gt (nI nt) sct ++ (wHis cy (o 3) rg x kk cs bs RG rn RS ++ (wTxt cy (o 4) ta tb C N (nI L) fl))))) sz) (wObj d0 o F ++ (wCfg cy (o 0) bc G (nI n) sc ++ (wCfg cy (o 1) bt Gt (nI nt) sct ++ (wHis cy (o 3) rg x kk cs bs RG rn RS ++ (wTxt cy (o 4) ta tb C u 0 (flt C L))))))) (va_A (wObj d0 o F ++ (wCfg cy (o 0) bc G (nI n) sc ++ (wCfg cy (o 1) bt Gt (nI nt) sct ++ (wHis cy (o 3) rg x kk cs bs RG rn RS ++ (wTxt cy (o 4) ta tb C N (nI L) fl))))) sz)) 1 6 (va_A (wObj d0 o F ++ (wCfg cy (o 0) bc G (nI n) sc ++ (wCfg cy (o 1) bt Gt (nI nt) sct ++ (wHis cy (o 3) rg x kk cs bs RG rn RS ++ (wTxt cy (o 4) ta tb C N (nI L) fl))))) sz) := by
  refine vx_ofW (cc := cX4_proposeText) (maxL := 2) (ret := some .int) (by decide) rfl ?_
  intro p e s m args below meth c s₁ B hml hnt hv
  obtain ⟨rfl, hsz, hP, hE, hD0, hX, hZ⟩ := hv
  have hK := hE.1
  subst hsz
  have hD := hD0.self (sz := s.heap.size)
  generalize hAe : va_A (wObj d0 o F ++ (wCfg cy (o 0) bc G (nI n) sc ++ (wCfg cy (o 1) bt Gt (nI nt) sct ++ (wHis cy (o 3) rg x kk cs bs RG rn RS ++ (wTxt cy (o 4) ta tb C N (nI L) fl))))) s.heap.size = A at hD hZ ⊢
  have hA : ∀ q : Nat, s.heap.size ≤ q → A q := fun q h => by rw [← hAe]; exact Or.inr h
  have hS : va_S A s.heap s.heap [] := va_S.rf
  have hP : va_P (dC, dI) vwCl (wObj d0 o F ++ (wCfg cy (o 0) bc G (nI n) sc ++ (wCfg cy (o 1) bt Gt (nI nt) sct ++ (wHis cy (o 3) rg x kk cs bs RG rn RS ++ (wTxt cy (o 4) ta tb C N (nI L) fl))))) s.heap := hP
  have hx := B.exec
  have hb := B.bytes
  have hr := B.returns
  have hts := atoms_spec (ws := wsX4_proposeText) B.pre
  have hown : s.vm.findClass RX4 = some m.cls := findClass_of_methodNamed B.named
  have hlocks := B.notSynchronized
  have hin3 : ∀ w ∈ u_ws RX3 TX3 4, w ∈ wsX4_proposeText := by decide +kernel
  have hin4 : ∀ w ∈ u_ws RX4 TX4 12, w ∈ wsX4_proposeText := by decide +kernel
  have f_32 := hts (.fieldLink RX4 32 "DeadlineAdmission" "text" "LDeadlineAdmission$TaskText;") (by decide +kernel)
  have f_91 := va_Nw.use (A := ([.ref d0].toArray)) rfl (hE.f 16 rfl)
  have f_96 := va_Nw.use (A := ([.ref d0].toArray)) rfl (hE.f 14 rfl)
  have hl := lv_entry ([.ref d0]) (n := 2) (Nat.le_of_ble_eq_true rfl)
  rw [lg_entry_eq]
  generalize (lg_sl ([.ref d0]) ++ List.replicate (2 - (lg_sl ([.ref d0])).length) Slot.unset).toArray = ls at hl ⊢
  have hl : lv_has ls 2 [(0, .ref d0)] := hl
  have hnt9 : nt ≤ 8 := hnt8
  refine lv_aload_n hx hb dX4_proposeText_0 rfl (lv_at hl 0 rfl) ?_
  refine va_get (D := (dC, dI)) (ci := 4) (v := .ref (o 4)) (C := RX4) (T := TX4) (N := 12) hx hb hts hin4 hown hK hP 0 rfl rfl 4 (by decide) f_32 (fun _ h9 => h9) rfl dX4_proposeText_1 ?_
  have hPc := hP.sub (ws' := wTxt cy (o 4) ta tb C N (nI L) fl) [67, 68, 69] rfl
  have hDc := hD.sub (ws' := wTxt cy (o 4) ta tb C N (nI L) fl) [67, 68, 69] (by decide) rfl
  have hFc := va_free (wc := wTxt cy (o 4) ta tb C N (nI L) fl) hD hS hA [67, 68, 69] rfl
  refine va_callv (va_runV (As := []) (rest := []) ⟨hx, hb, hml, hown, hts⟩ (c_X3_readAndEmpty l dC dI cy s.heap.size (o 4) ta tb C N fl L (by omega)) (cwV 0 hts gX4_proposeText_X3_readAndEmpty rfl rfl rfl (by decide +kernel) ⟨Nat.le_of_ble_eq_true rfl, Nat.le_of_ble_eq_true rfl⟩) ⟨bl_in, va_recv hK hPc (ci := 3) (q0 := 0) rfl rfl, pr_in hPc hE hDc⟩ rfl rfl hl.1 rfl (lv_room (Nat.le_of_ble_eq_true rfl)) dX4_proposeText_4 ⟨Nat.le_of_ble_eq_true rfl, Nat.le_of_ble_eq_true rfl⟩) hS (fun q _ h => hFc q h) hFc (fun u t H1 locs ht hvm hw hB hz1 hk1 hS => ?_)
  obtain ⟨N9, rfl⟩ : ∃ z, z = u := ⟨_, rfl⟩
  have hN9 := hw
  obtain ⟨hP1, hD1⟩ := hB
  rw [ht] at hP1
  obtain ⟨hP, hD⟩ := va_join (wr := wObj d0 o F ++ (wCfg cy (o 0) bc G (nI n) sc ++ (wCfg cy (o 1) bt Gt (nI nt) sct ++ (wHis cy (o 3) rg x kk cs bs RG rn RS)))) (w1 := wTxt cy (o 4) ta tb C N9 0 (flt C L)) hP hD [67, 68, 69] [0, 1, 2, 3, 4, 5, 6, 7, 8, 9, 10, 11, 12, 13, 14, 15, 16, 17, 18, 19, 20, 21, 22, 23, 24, 25, 26, 27, 28, 29, 30, 31, 32, 33, 34, 35, 36, 37, 38, 39, 40, 41, 42, 43, 44, 45, 46, 47, 48, 49, 50, 51, 52, 53, 54, 55, 56, 57, 58, 59, 60, 61, 62, 63, 64, 65, 66] rfl rfl (by decide) (by decide) hk1 hFc hP1 hD1
  have hP : va_P (dC, dI) vwCl (wObj d0 o F ++ (wCfg cy (o 0) bc G (nI n) sc ++ (wCfg cy (o 1) bt Gt (nI nt) sct ++ (wHis cy (o 3) rg x kk cs bs RG rn RS ++ (wTxt cy (o 4) ta tb C N9 0 (flt C L)))))) H1 := hP.sub [0, 1, 2, 3, 4, 5, 6, 7, 8, 9, 10, 11, 12, 13, 14, 15, 16, 17, 18, 19, 20, 21, 22, 23, 24, 25, 26, 27, 28, 29, 30, 31, 32, 33, 34, 35, 36, 37, 38, 39, 40, 41, 42, 43, 44, 45, 46, 47, 48, 49, 50, 51, 52, 53, 54, 55, 56, 57, 58, 59, 60, 61, 62, 63, 64, 65, 66, 67, 68, 69] rfl
  have hD : va_D A (wObj d0 o F ++ (wCfg cy (o 0) bc G (nI n) sc ++ (wCfg cy (o 1) bt Gt (nI nt) sct ++ (wHis cy (o 3) rg x kk cs bs RG rn RS ++ (wTxt cy (o 4) ta tb C N9 0 (flt C L)))))) := hD.sub [0, 1, 2, 3, 4, 5, 6, 7, 8, 9, 10, 11, 12, 13, 14, 15, 16, 17, 18, 19, 20, 21, 22, 23, 24, 25, 26, 27, 28, 29, 30, 31, 32, 33, 34, 35, 36, 37, 38, 39, 40, 41, 42, 43, 44, 45, 46, 47, 48, 49, 50, 51, 52, 53, 54, 55, 56, 57, 58, 59, 60, 61, 62, 63, 64, 65, 66, 67, 68, 69] (by decide) rfl
  clear hz1 hk1 hPc hDc hFc hP1 hD1
  generalize H1 = H at hP hS ⊢
  refine lv_aload_n hx hb dX4_proposeText_7 rfl (lv_at hl 0 rfl) ?_
  refine va_get (D := (dC, dI)) (ci := 4) (v := .ref (o 4)) (C := RX4) (T := TX4) (N := 12) hx hb hts hin4 hown hK hP 0 rfl rfl 4 (by decide) f_32 (fun _ h9 => h9) rfl dX4_proposeText_8 ?_
  refine va_getN (D := (dC, dI)) (ci := 3) (v := .int (flt C L)) (C := RX3) (T := TX3) (N := 4) hx hb hts hin3 hown hK hP 67 rfl rfl 3 (by decide) f_91 (fun _ h9 => h9) rfl dX4_proposeText_11 ?_
  refine lv_if_lt (tgt := 27) hx hb dX4_proposeText_14 (by decide) (fun c_14 => ?_) (fun c_14 => ?_)
  · have hm1 : flt C L = -1 := flt_neg hL c_14
    refine lv_aload_n hx hb dX4_proposeText_27 rfl (lv_at hl 0 rfl) ?_
    refine va_get (D := (dC, dI)) (ci := 4) (v := .ref (o 4)) (C := RX4) (T := TX4) (N := 12) hx hb hts hin4 hown hK hP 0 rfl rfl 4 (by decide) f_32 (fun _ h9 => h9) rfl dX4_proposeText_28 ?_
    refine va_getN (D := (dC, dI)) (ci := 3) (v := .ref tb) (C := RX3) (T := TX3) (N := 4) hx hb hts hin3 hown hK hP 67 rfl rfl 1 (by decide) f_96 (fun _ h9 => h9) rfl dX4_proposeText_31 ?_
    refine lv_astore_n (lv' := [(1, .ref tb), (0, .ref d0)]) hx hb dX4_proposeText_34 rfl hl (by decide) rfl (fun ls hl => ?_)
    refine lv_aload_n hx hb dX4_proposeText_35 rfl (lv_at hl 1 rfl) ?_
    refine lv_aload_n hx hb dX4_proposeText_36 rfl (lv_at hl 0 rfl) ?_
    refine lv_iconst (v := 0) hx hb dX4_proposeText_37 (by decide) ?_
    refine wI_alv (v := nv C L 0) hx hb hK hP 69 0 rfl rfl 0 rfl (by omega) (by decide) (hN9 hm1 0 (by decide)) dX4_proposeText_38 ?_
    refine lv_aload_n hx hb dX4_proposeText_39 rfl (lv_at hl 0 rfl) ?_
    refine lv_iconst (v := 1) hx hb dX4_proposeText_40 (by decide) ?_
    refine wI_alv (v := nv C L 1) hx hb hK hP 69 0 rfl rfl 1 rfl (by omega) (by decide) (hN9 hm1 1 (by decide)) dX4_proposeText_41 ?_
    refine lv_aload_n hx hb dX4_proposeText_42 rfl (lv_at hl 0 rfl) ?_
    refine lv_iconst (v := 2) hx hb dX4_proposeText_43 (by decide) ?_
    refine wI_alv (v := nv C L 2) hx hb hK hP 69 0 rfl rfl 2 rfl (by omega) (by decide) (hN9 hm1 2 (by decide)) dX4_proposeText_44 ?_
    refine lv_aload_n hx hb dX4_proposeText_45 rfl (lv_at hl 0 rfl) ?_
    refine lv_iconst (v := 3) hx hb dX4_proposeText_46 (by decide) ?_
    refine wI_alv (v := nv C L 3) hx hb hK hP 69 0 rfl rfl 3 rfl (by omega) (by decide) (hN9 hm1 3 (by decide)) dX4_proposeText_47 ?_
    refine lv_aload_n hx hb dX4_proposeText_48 rfl (lv_at hl 0 rfl) ?_
    refine lv_iconst (v := 4) hx hb dX4_proposeText_49 (by decide) ?_
    refine wI_alv (v := nv C L 4) hx hb hK hP 69 0 rfl rfl 4 rfl (by omega) (by decide) (hN9 hm1 4 (by decide)) dX4_proposeText_50 ?_
    refine lv_aload_n hx hb dX4_proposeText_51 rfl (lv_at hl 0 rfl) ?_
    refine lv_iconst (v := 5) hx hb dX4_proposeText_52 (by decide) ?_
    refine wI_alv (v := nv C L 5) hx hb hK hP 69 0 rfl rfl 5 rfl (by omega) (by decide) (hN9 hm1 5 (by decide)) dX4_proposeText_53 ?_
    have hPc := hP.sub (ws' := wObj d0 o F ++ (wCfg cy (o 0) bc G (nI n) sc ++ (wCfg cy (o 1) bt Gt (nI nt) sct ++ (wHis cy (o 3) rg x kk cs bs RG rn RS)))) [0, 1, 2, 3, 4, 5, 6, 7, 8, 9, 10, 11, 12, 13, 14, 15, 16, 17, 18, 19, 20, 21, 22, 23, 24, 25, 26, 27, 28, 29, 30, 31, 32, 33, 34, 35, 36, 37, 38, 39, 40, 41, 42, 43, 44, 45, 46, 47, 48, 49, 50, 51, 52, 53, 54, 55, 56, 57, 58, 59, 60, 61, 62, 63, 64, 65, 66] rfl
    have hDc := hD.sub (ws' := wObj d0 o F ++ (wCfg cy (o 0) bc G (nI n) sc ++ (wCfg cy (o 1) bt Gt (nI nt) sct ++ (wHis cy (o 3) rg x kk cs bs RG rn RS)))) [0, 1, 2, 3, 4, 5, 6, 7, 8, 9, 10, 11, 12, 13, 14, 15, 16, 17, 18, 19, 20, 21, 22, 23, 24, 25, 26, 27, 28, 29, 30, 31, 32, 33, 34, 35, 36, 37, 38, 39, 40, 41, 42, 43, 44, 45, 46, 47, 48, 49, 50, 51, 52, 53, 54, 55, 56, 57, 58, 59, 60, 61, 62, 63, 64, 65, 66] (by decide) rfl
    have hFc := va_free (wc := wObj d0 o F ++ (wCfg cy (o 0) bc G (nI n) sc ++ (wCfg cy (o 1) bt Gt (nI nt) sct ++ (wHis cy (o 3) rg x kk cs bs RG rn RS)))) hD hS hA [0, 1, 2, 3, 4, 5, 6, 7, 8, 9, 10, 11, 12, 13, 14, 15, 16, 17, 18, 19, 20, 21, 22, 23, 24, 25, 26, 27, 28, 29, 30, 31, 32, 33, 34, 35, 36, 37, 38, 39, 40, 41, 42, 43, 44, 45, 46, 47, 48, 49, 50, 51, 52, 53, 54, 55, 56, 57, 58, 59, 60, 61, 62, 63, 64, 65, 66] rfl
    refine vx_calli (vx_runV (As := [.int (nv C L 0), .int (nv C L 1), .int (nv C L 2), .int (nv C L 3), .int (nv C L 4), .int (nv C L 5)]) (rest := []) ⟨hx, hb, hml, hown, hts⟩ (c_X4_propose l hst dC dI cy H.size d0 o F bc G n hn sc bt Gt nt hnt9 sct rg x kk hx6 hkk cs bs RG rn RS (nv C L 0) (nv C L 1) (nv C L 2) (nv C L 3) (nv C L 4) (nv C L 5)) (cwV 6 hts gX4_proposeText_X4_propose rfl rfl rfl (by decide +kernel) ⟨Nat.le_of_ble_eq_true rfl, Nat.le_of_ble_eq_true rfl⟩) ⟨bl_X, va_recv hK hPc (ci := 4) (q0 := 0) rfl rfl, pr_X hPc hE hDc hX hZ hS hFc⟩ rfl rfl hl.1 rfl (lv_room (Nat.le_of_ble_eq_true rfl)) dX4_proposeText_54 ⟨Nat.le_of_ble_eq_true rfl, Nat.le_of_ble_eq_true rfl⟩) hS (fun q _ h => hFc q h) hFc (fun q _ h => hFc q h) (fun E ce q9 u t H1 locs ht hvm hpx hBX hz1 hk1 hS hce hcv hcl => ?_) (fun r u t H1 locs ht hvm hw hB hz1 hk1 hS => ?_)
    · obtain ⟨hxp, hP1, hD1⟩ := hBX
      rw [ht] at hP1
      obtain ⟨hP, hD⟩ := va_join (wr := wTxt cy (o 4) ta tb C N9 0 (flt C L)) (w1 := wObj d0 o F ++ (wCfg cy (o 0) bc G (nI n) sc ++ (wCfg cy (o 1) bt Gt (nI nt) sct ++ (wHis cy (o 3) rg x kk cs bs RG rn RS)))) hP hD [0, 1, 2, 3, 4, 5, 6, 7, 8, 9, 10, 11, 12, 13, 14, 15, 16, 17, 18, 19, 20, 21, 22, 23, 24, 25, 26, 27, 28, 29, 30, 31, 32, 33, 34, 35, 36, 37, 38, 39, 40, 41, 42, 43, 44, 45, 46, 47, 48, 49, 50, 51, 52, 53, 54, 55, 56, 57, 58, 59, 60, 61, 62, 63, 64, 65, 66] [67, 68, 69] rfl rfl (by decide) (by decide) hk1 hFc hP1 hD1
      have hP : va_P (dC, dI) vwCl (wObj d0 o F ++ (wCfg cy (o 0) bc G (nI n) sc ++ (wCfg cy (o 1) bt Gt (nI nt) sct ++ (wHis cy (o 3) rg x kk cs bs RG rn RS ++ (wTxt cy (o 4) ta tb C N9 0 (flt C L)))))) H1 := hP.sub [3, 4, 5, 6, 7, 8, 9, 10, 11, 12, 13, 14, 15, 16, 17, 18, 19, 20, 21, 22, 23, 24, 25, 26, 27, 28, 29, 30, 31, 32, 33, 34, 35, 36, 37, 38, 39, 40, 41, 42, 43, 44, 45, 46, 47, 48, 49, 50, 51, 52, 53, 54, 55, 56, 57, 58, 59, 60, 61, 62, 63, 64, 65, 66, 67, 68, 69, 0, 1, 2] rfl
      have hD : va_D A (wObj d0 o F ++ (wCfg cy (o 0) bc G (nI n) sc ++ (wCfg cy (o 1) bt Gt (nI nt) sct ++ (wHis cy (o 3) rg x kk cs bs RG rn RS ++ (wTxt cy (o 4) ta tb C N9 0 (flt C L)))))) := hD.sub [3, 4, 5, 6, 7, 8, 9, 10, 11, 12, 13, 14, 15, 16, 17, 18, 19, 20, 21, 22, 23, 24, 25, 26, 27, 28, 29, 30, 31, 32, 33, 34, 35, 36, 37, 38, 39, 40, 41, 42, 43, 44, 45, 46, 47, 48, 49, 50, 51, 52, 53, 54, 55, 56, 57, 58, 59, 60, 61, 62, 63, 64, 65, 66, 67, 68, 69, 0, 1, 2] (by decide) rfl
      exact vx_out (fun x hx9 => (hnt x hx9).elim) hlocks hce hcv hcl (fun t ht hvm => ⟨N9, trivial, ⟨Or.inr ⟨hm1, hxp⟩, by rw [ht]; exact hP, hD⟩, hS.F ht⟩) hS.2.2 (Nat.le_of_ble_eq_true rfl) (Nat.le_of_ble_eq_true rfl)
    obtain ⟨F9, ⟨Gc9, nc9, sc9⟩, ⟨Gt9, nt9, st9⟩, ⟨x9, k9, RG9, rn9, RS9⟩⟩ := u
    obtain ⟨hP1, hD1⟩ := hB
    rw [ht] at hP1
    obtain ⟨hP, hD⟩ := va_join (wr := wTxt cy (o 4) ta tb C N9 0 (flt C L)) (w1 := wObj d0 o F9 ++ (wCfg cy (o 0) bc Gc9 (nI nc9) sc9 ++ (wCfg cy (o 1) bt Gt9 (nI nt9) st9 ++ (wHis cy (o 3) rg x9 k9 cs bs RG9 rn9 RS9)))) hP hD [0, 1, 2, 3, 4, 5, 6, 7, 8, 9, 10, 11, 12, 13, 14, 15, 16, 17, 18, 19, 20, 21, 22, 23, 24, 25, 26, 27, 28, 29, 30, 31, 32, 33, 34, 35, 36, 37, 38, 39, 40, 41, 42, 43, 44, 45, 46, 47, 48, 49, 50, 51, 52, 53, 54, 55, 56, 57, 58, 59, 60, 61, 62, 63, 64, 65, 66] [67, 68, 69] rfl rfl (by decide) (by decide) hk1 hFc hP1 hD1
    have hP : va_P (dC, dI) vwCl (wObj d0 o F9 ++ (wCfg cy (o 0) bc Gc9 (nI nc9) sc9 ++ (wCfg cy (o 1) bt Gt9 (nI nt9) st9 ++ (wHis cy (o 3) rg x9 k9 cs bs RG9 rn9 RS9 ++ (wTxt cy (o 4) ta tb C N9 0 (flt C L)))))) H1 := hP.sub [3, 4, 5, 6, 7, 8, 9, 10, 11, 12, 13, 14, 15, 16, 17, 18, 19, 20, 21, 22, 23, 24, 25, 26, 27, 28, 29, 30, 31, 32, 33, 34, 35, 36, 37, 38, 39, 40, 41, 42, 43, 44, 45, 46, 47, 48, 49, 50, 51, 52, 53, 54, 55, 56, 57, 58, 59, 60, 61, 62, 63, 64, 65, 66, 67, 68, 69, 0, 1, 2] rfl
    have hD : va_D A (wObj d0 o F9 ++ (wCfg cy (o 0) bc Gc9 (nI nc9) sc9 ++ (wCfg cy (o 1) bt Gt9 (nI nt9) st9 ++ (wHis cy (o 3) rg x9 k9 cs bs RG9 rn9 RS9 ++ (wTxt cy (o 4) ta tb C N9 0 (flt C L)))))) := hD.sub [3, 4, 5, 6, 7, 8, 9, 10, 11, 12, 13, 14, 15, 16, 17, 18, 19, 20, 21, 22, 23, 24, 25, 26, 27, 28, 29, 30, 31, 32, 33, 34, 35, 36, 37, 38, 39, 40, 41, 42, 43, 44, 45, 46, 47, 48, 49, 50, 51, 52, 53, 54, 55, 56, 57, 58, 59, 60, 61, 62, 63, 64, 65, 66, 67, 68, 69, 0, 1, 2] (by decide) rfl
    clear hz1 hk1 hPc hDc hFc hP1 hD1
    generalize H1 = H at hP hS ⊢
    refine vx_ret ?_
    refine W.widen (k := 1) (n := 6) (Nat.le_of_ble_eq_true rfl) (Nat.le_of_ble_eq_true rfl) ?_
    have hP9 : va_P (dC, dI) vwCl (wObj d0 o F9 ++ (wCfg cy (o 0) bc Gc9 (nI nc9) sc9 ++ (wCfg cy (o 1) bt Gt9 (nI nt9) st9 ++ (wHis cy (o 3) rg x9 k9 cs bs RG9 rn9 RS9 ++ (wTxt cy (o 4) ta tb C N9 0 (flt C L)))))) H := hP
    have hD9 : va_D A (wObj d0 o F9 ++ (wCfg cy (o 0) bc Gc9 (nI nc9) sc9 ++ (wCfg cy (o 1) bt Gt9 (nI nt9) st9 ++ (wHis cy (o 3) rg x9 k9 cs bs RG9 rn9 RS9 ++ (wTxt cy (o 4) ta tb C N9 0 (flt C L)))))) := hD
    exact W.iret (v := r) hx hb hr (fun t ht hW => ⟨⟨r, ((F9, (Gc9, nc9, sc9), (Gt9, nt9, st9), (x9, k9, RG9, rn9, RS9)), N9), rfl, ⟨hm1, hw⟩, by rw [ht]; exact hP9, hD9⟩, hS.F ht⟩) hS.2.2 dX4_proposeText_57
  · obtain ⟨sa, hsa⟩ := hX.s 2 (k := 94) (t := "the text has a fault") rfl
    exact vx_throwS (names := ["java/lang/RuntimeException", "java/lang/Exception"]) hx hb hst hown (by decide +kernel) (by decide +kernel) (hts (.classLink RX4 51 "java/lang/IllegalArgumentException") (by decide +kernel)) (hts (.initialized "java/lang/IllegalArgumentException") (by decide +kernel)) hsa (vx_hat (fun w h => hts w (List.mem_cons_of_mem _ (List.mem_append_left _ (List.mem_append_right _ h)))) ng_IAE (vx_c (va_Nw.use rfl (hX.c 0 rfl)) (vx_c (va_Nw.use rfl (hX.d 0 rfl)) (vx_c (va_Nw.use rfl (hX.d 1 rfl)) (vx_c (va_Nw.use rfl (hX.d 2 rfl)) vx_n))))) ot_IAE hZ.1 hZ.2 hS (hl.1.trans hml.symm) dX4_proposeText_17 dX4_proposeText_20 dX4_proposeText_21 dX4_proposeText_23 dX4_proposeText_26 (fun x hx9 => (hnt x hx9).elim) (Nat.le_of_ble_eq_true rfl) (Nat.le_of_ble_eq_true rfl) (Nat.le_of_ble_eq_true rfl) (Nat.le_of_ble_eq_true rfl) hlocks (fun t hvm hz hk => ⟨N9, trivial, ⟨Or.inl ⟨rfl, flt_m1 c_14⟩, hP.kept (fun k q h9 => hk q.1 ((hP k q h9).lt)), hD⟩, ⟨Nat.le_trans hS.1 hz, fun q h1 h2 => (hk q (Nat.lt_of_lt_of_le h1 hS.1)).trans (hS.2.1 q h1 h2)⟩⟩) hS.2.2 (Nat.le_of_ble_eq_true rfl) (Nat.le_of_ble_eq_true rfl)

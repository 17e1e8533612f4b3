/-! PART 21: the reference, demands and tests -/
theorem hiD_ref {G : vG} {i : Nat} {t gap cyc : Int32} (h : okT G i) : hiD G i t gap cyc = if gap ≤ t then (if (¬ t - t / cyc * cyc < gap ∧ ¬ G 1 i - 1 < t - t / cyc * cyc) ∧ ¬ G 2 i + gap - (t - t / cyc * cyc) ≤ 0 then G 3 i * (1 + (t - gap) / cyc) - (G 2 i + gap - (t - t / cyc * cyc)) else G 3 i * (1 + (t - gap) / cyc)) else 0 := by
  obtain ⟨P, D, L, H, im, mo, lv, e0, e1, e2, e3, e4, e5, e6, h1⟩ := h
  have hc : (gap ≤ t - t / cyc * cyc ∧ t - t / cyc * cyc < G 1 i ∧ 0 < G 2 i + gap - (t - t / cyc * cyc)) ↔ ((¬ t - t / cyc * cyc < gap ∧ ¬ G 1 i - 1 < t - t / cyc * cyc) ∧ ¬ G 2 i + gap - (t - t / cyc * cyc) ≤ 0) := by
    rw [lt_pred e1 (by omega) (by omega), Int32.not_lt, Int32.not_le, Decidable.not_not]
    exact ⟨fun q => ⟨⟨q.1, q.2.1⟩, q.2.2⟩, fun q => ⟨q.1.1, q.1.2, q.2⟩⟩
  simp only [hiD, hc]
theorem Gs_upd1 (S : Nat → Int32) (x : Int32) : Gs (upd S 1 x) = Gs S := by
  funext k i
  simp only [Gs, upd]
  rw [if_neg (by omega)]
theorem upd_upd (f : Nat → Int32) (k : Nat) (x y : Int32) : upd (upd f k x) k y = upd f k y := by
  funext j
  simp only [upd]
  split <;> rfl
theorem upd_self (f : Nat → Int32) (k : Nat) : upd f k (f k) = f := by
  funext j
  simp only [upd]
  split
  · rename_i h; rw [h]
  · rfl
set_option maxHeartbeats 1000000 in
set_option maxRecDepth 100000 in
/-- the demand of a task in high mode -/
theorem c_X5_highDemand (l : Launch) (dC : Nat → ClassId) (dI : Nat → Nat → Nat) (cy : Nat → ClassId) (m0 : Nat) (a : Nat → Nat) (I : Nat → Int32) (R : vG) (p1 : Int32) (i : Nat) (hi8 : i < 8) (hok : okT (Gs (R 1)) i) : Met l yX5_highDemand wsX5_highDemand ({ frames := 2, cells := 0, slots := 0, locals := 43 }) (va_Pc [.ref m0, .int (nI i), .int p1] (fun U => va_P (dC, dI) vwCl (wMdl cy m0 a I R) U.heap ∧ EV dC dI cy U)) (vp_Si (fun r => r = (if Gs (R 1) 3 i ≤ 0 then 0 else hiD (Gs (R 1)) i p1 (Gs (R 1) 1 i - vdl (Gs (R 1)) (R 1 1) i) (per (Gs (R 1)) i)))) 0 0 (fun _ => False) := by
  refine Met.ofW (cc := cX5_highDemand) (maxL := 7) (ret := some .int) (by decide) rfl ?_
  intro p e s m args below meth c s₁ B hml hv
  obtain ⟨rfl, hP, hE⟩ := hv
  have hK := hE.1
  have hx := B.exec
  have hb := B.bytes
  have hr := B.returns
  have hts := atoms_spec (ws := wsX5_highDemand) B.pre
  have hown : s.vm.findClass RX5 = some m.cls := findClass_of_methodNamed B.named
  have hlocks := B.notSynchronized
  have hin5 : ∀ w ∈ u_ws RX5 TX5 32, w ∈ wsX5_highDemand := by decide +kernel
  have f_9 := hts (.fieldLink RX5 9 "DeadlineAdmissionModel" "s" "[I") (by decide +kernel)
  have hl := lv_entry ([.ref m0, .int (nI i), .int p1]) (n := 7) (Nat.le_of_ble_eq_true rfl)
  rw [lg_entry_eq]
  generalize (lg_sl ([.ref m0, .int (nI i), .int p1]) ++ List.replicate (7 - (lg_sl ([.ref m0, .int (nI i), .int p1])).length) Slot.unset).toArray = ls at hl ⊢
  have hl : lv_has ls 7 [(0, .ref m0), (1, .int (nI i)), (2, .int p1)] := hl
  refine lv_aload_n hx hb dX5_highDemand_0 rfl (lv_at hl 0 rfl) ?_
  refine va_get (D := (dC, dI)) (ci := 5) (v := .ref (a 1)) (C := RX5) (T := TX5) (N := 32) hx hb hts hin5 hown hK hP 0 rfl rfl 1 (by decide) f_9 (fun _ h9 => h9) rfl dX5_highDemand_1 ?_
  refine lv_bipush (v := 10) hx hb dX5_highDemand_4 (by decide) ?_
  refine lv_iload_n hx hb dX5_highDemand_6 rfl (lv_at hl 1 rfl) ?_
  refine lv_iadd hx hb dX5_highDemand_7 ?_
  refine wI_alv (v := Gs (R 1) 1 i) hx hb hK hP 1 0 rfl rfl (10 + i) (nadd rfl rfl) (by omega) (by decide) rfl dX5_highDemand_8 ?_
  refine lv_aload_n hx hb dX5_highDemand_9 rfl (lv_at hl 0 rfl) ?_
  refine lv_iload_n hx hb dX5_highDemand_10 rfl (lv_at hl 1 rfl) ?_
  refine vp_callSi (va_runV (As := [.int (nI i)]) (rest := [.int (Gs (R 1) 1 i)]) ⟨hx, hb, hml, hown, hts⟩ (c_X5_virtualOf l dC dI cy m0 a I R  i (by omega) hok) (cwV 1 hts gX5_highDemand_X5_virtualOf rfl rfl rfl (by decide +kernel) ⟨Nat.le_of_ble_eq_true rfl, Nat.le_of_ble_eq_true rfl⟩) ⟨bl_ro, va_recv hK hP (ci := 5) (q0 := 0) rfl rfl, pr_ro hP hE⟩ rfl rfl hl.1 rfl (lv_room (Nat.le_of_ble_eq_true rfl)) dX5_highDemand_11 ⟨Nat.le_of_ble_eq_true rfl, Nat.le_of_ble_eq_true rfl⟩).run (fun r e_r => ?_)
  subst e_r
  refine lv_isub hx hb dX5_highDemand_14 ?_
  refine lv_istore_n (lv' := [(3, .int ((Gs (R 1) 1 i) - (vdl (Gs (R 1)) ((R 1) 1) i))), (0, .ref m0), (1, .int (nI i)), (2, .int p1)]) hx hb dX5_highDemand_15 rfl hl (by decide) rfl (fun ls hl => ?_)
  refine lv_aload_n hx hb dX5_highDemand_16 rfl (lv_at hl 1 rfl) ?_
  refine lv_iload_n hx hb dX5_highDemand_17 rfl (lv_at hl 2 rfl) ?_
  refine vp_callSi (va_runV (As := [.int (nI i)]) (rest := []) ⟨hx, hb, hml, hown, hts⟩ (c_X5_isHighTask l dC dI cy m0 a I R  i (by omega)) (cwV 1 hts gX5_highDemand_X5_isHighTask rfl rfl rfl (by decide +kernel) ⟨Nat.le_of_ble_eq_true rfl, Nat.le_of_ble_eq_true rfl⟩) ⟨bl_ro, va_recv hK hP (ci := 5) (q0 := 0) rfl rfl, pr_ro hP hE⟩ rfl rfl hl.1 rfl (lv_room (Nat.le_of_ble_eq_true rfl)) dX5_highDemand_18 ⟨Nat.le_of_ble_eq_true rfl, Nat.le_of_ble_eq_true rfl⟩).run (fun r e_r => ?_)
  subst e_r
  refine lv_if_eq (tgt := 29) hx hb dX5_highDemand_21 (by decide) (fun c_21 => ?_) (fun c_21 => ?_)
  · refine lv_iconst (v := 0) hx hb dX5_highDemand_29 (by decide) ?_
    exact W.iret (v := 0) hx hb hr (fun t ht hW => ⟨_, rfl, (by rw [if_pos (b01.mp c_21)]), ht⟩) (fun q hq => absurd hq List.not_mem_nil) dX5_highDemand_30
  · refine lv_iload_n hx hb dX5_highDemand_24 rfl (lv_at hl 3 rfl) ?_
    refine lv_iload_n hx hb dX5_highDemand_25 rfl (lv_at hl 0 rfl) ?_
    refine lv_icmp_ge (tgt := 31) hx hb dX5_highDemand_26 (by decide) (fun c_26 => ?_) (fun c_26 => ?_)
    · refine lv_iload_n hx hb dX5_highDemand_31 rfl (lv_at hl 3 rfl) ?_
      refine lv_aload_n hx hb dX5_highDemand_32 rfl (lv_at hl 1 rfl) ?_
      refine lv_iload_n hx hb dX5_highDemand_33 rfl (lv_at hl 2 rfl) ?_
      refine vp_callSi (va_runV (As := [.int (nI i)]) (rest := [.int p1]) ⟨hx, hb, hml, hown, hts⟩ (c_X5_periodOf l dC dI cy m0 a I R  i (by omega) hok) (cwV 1 hts gX5_highDemand_X5_periodOf rfl rfl rfl (by decide +kernel) ⟨Nat.le_of_ble_eq_true rfl, Nat.le_of_ble_eq_true rfl⟩) ⟨bl_ro, va_recv hK hP (ci := 5) (q0 := 0) rfl rfl, pr_ro hP hE⟩ rfl rfl hl.1 rfl (lv_room (Nat.le_of_ble_eq_true rfl)) dX5_highDemand_34 ⟨Nat.le_of_ble_eq_true rfl, Nat.le_of_ble_eq_true rfl⟩).run (fun r e_r => ?_)
      subst e_r
      refine lv_irem hx hb dX5_highDemand_37 (per_pos _ _) ?_
      refine lv_istore (lv' := [(4, .int (p1 - p1 / (per (Gs (R 1)) i) * (per (Gs (R 1)) i))), (3, .int ((Gs (R 1) 1 i) - (vdl (Gs (R 1)) ((R 1) 1) i))), (0, .ref m0), (1, .int (nI i)), (2, .int p1)]) hx hb dX5_highDemand_38 hl (by decide) rfl (fun ls hl => ?_)
      refine lv_aload_n hx hb dX5_highDemand_40 rfl (lv_at hl 2 rfl) ?_
      refine va_get (D := (dC, dI)) (ci := 5) (v := .ref (a 1)) (C := RX5) (T := TX5) (N := 32) hx hb hts hin5 hown hK hP 0 rfl rfl 1 (by decide) f_9 (fun _ h9 => h9) rfl dX5_highDemand_41 ?_
      refine lv_bipush (v := 18) hx hb dX5_highDemand_44 (by decide) ?_
      refine lv_iload_n hx hb dX5_highDemand_46 rfl (lv_at hl 3 rfl) ?_
      refine lv_iadd hx hb dX5_highDemand_47 ?_
      refine wI_alv (v := Gs (R 1) 2 i) hx hb hK hP 1 0 rfl rfl (18 + i) (nadd rfl rfl) (by omega) (by decide) rfl dX5_highDemand_48 ?_
      refine lv_iload_n hx hb dX5_highDemand_49 rfl (lv_at hl 1 rfl) ?_
      refine lv_iadd hx hb dX5_highDemand_50 ?_
      refine lv_iload hx hb dX5_highDemand_51 (lv_at hl 0 rfl) ?_
      refine lv_isub hx hb dX5_highDemand_53 ?_
      refine lv_istore (lv' := [(5, .int (((Gs (R 1) 2 i) + ((Gs (R 1) 1 i) - (vdl (Gs (R 1)) ((R 1) 1) i))) - (p1 - p1 / (per (Gs (R 1)) i) * (per (Gs (R 1)) i)))), (4, .int (p1 - p1 / (per (Gs (R 1)) i) * (per (Gs (R 1)) i))), (3, .int ((Gs (R 1) 1 i) - (vdl (Gs (R 1)) ((R 1) 1) i))), (0, .ref m0), (1, .int (nI i)), (2, .int p1)]) hx hb dX5_highDemand_54 hl (by decide) rfl (fun ls hl => ?_)
      refine lv_aload_n hx hb dX5_highDemand_56 rfl (lv_at hl 3 rfl) ?_
      refine va_get (D := (dC, dI)) (ci := 5) (v := .ref (a 1)) (C := RX5) (T := TX5) (N := 32) hx hb hts hin5 hown hK hP 0 rfl rfl 1 (by decide) f_9 (fun _ h9 => h9) rfl dX5_highDemand_57 ?_
      refine lv_bipush (v := 26) hx hb dX5_highDemand_60 (by decide) ?_
      refine lv_iload_n hx hb dX5_highDemand_62 rfl (lv_at hl 4 rfl) ?_
      refine lv_iadd hx hb dX5_highDemand_63 ?_
      refine wI_alv (v := Gs (R 1) 3 i) hx hb hK hP 1 0 rfl rfl (26 + i) (nadd rfl rfl) (by omega) (by decide) rfl dX5_highDemand_64 ?_
      refine lv_iconst (v := 1) hx hb dX5_highDemand_65 (by decide) ?_
      refine lv_iload_n hx hb dX5_highDemand_66 rfl (lv_at hl 5 rfl) ?_
      refine lv_iload_n hx hb dX5_highDemand_67 rfl (lv_at hl 2 rfl) ?_
      refine lv_isub hx hb dX5_highDemand_68 ?_
      refine lv_aload_n hx hb dX5_highDemand_69 rfl (lv_at hl 3 rfl) ?_
      refine lv_iload_n hx hb dX5_highDemand_70 rfl (lv_at hl 4 rfl) ?_
      refine vp_callSi (va_runV (As := [.int (nI i)]) (rest := [.int (p1 - ((Gs (R 1) 1 i) - (vdl (Gs (R 1)) ((R 1) 1) i))), .int 1, .int (Gs (R 1) 3 i)]) ⟨hx, hb, hml, hown, hts⟩ (c_X5_periodOf l dC dI cy m0 a I R  i (by omega) hok) (cwV 1 hts gX5_highDemand_X5_periodOf rfl rfl rfl (by decide +kernel) ⟨Nat.le_of_ble_eq_true rfl, Nat.le_of_ble_eq_true rfl⟩) ⟨bl_ro, va_recv hK hP (ci := 5) (q0 := 0) rfl rfl, pr_ro hP hE⟩ rfl rfl hl.1 rfl (lv_room (Nat.le_of_ble_eq_true rfl)) dX5_highDemand_71 ⟨Nat.le_of_ble_eq_true rfl, Nat.le_of_ble_eq_true rfl⟩).run (fun r e_r => ?_)
      subst e_r
      refine lv_idiv hx hb dX5_highDemand_74 (per_pos _ _) ?_
      refine lv_iadd hx hb dX5_highDemand_75 ?_
      refine lv_imul hx hb dX5_highDemand_76 ?_
      refine lv_istore (lv' := [(6, .int ((Gs (R 1) 3 i) * (1 + ((p1 - ((Gs (R 1) 1 i) - (vdl (Gs (R 1)) ((R 1) 1) i))) / (per (Gs (R 1)) i))))), (5, .int (((Gs (R 1) 2 i) + ((Gs (R 1) 1 i) - (vdl (Gs (R 1)) ((R 1) 1) i))) - (p1 - p1 / (per (Gs (R 1)) i) * (per (Gs (R 1)) i)))), (4, .int (p1 - p1 / (per (Gs (R 1)) i) * (per (Gs (R 1)) i))), (3, .int ((Gs (R 1) 1 i) - (vdl (Gs (R 1)) ((R 1) 1) i))), (0, .ref m0), (1, .int (nI i)), (2, .int p1)]) hx hb dX5_highDemand_77 hl (by decide) rfl (fun ls hl => ?_)
      refine lv_iload hx hb dX5_highDemand_79 (lv_at hl 2 rfl) ?_
      refine lv_iload_n hx hb dX5_highDemand_81 rfl (lv_at hl 3 rfl) ?_
      refine lv_aload_n hx hb dX5_highDemand_82 rfl (lv_at hl 4 rfl) ?_
      refine va_get (D := (dC, dI)) (ci := 5) (v := .ref (a 1)) (C := RX5) (T := TX5) (N := 32) hx hb hts hin5 hown hK hP 0 rfl rfl 1 (by decide) f_9 (fun _ h9 => h9) rfl dX5_highDemand_83 ?_
      refine lv_bipush (v := 10) hx hb dX5_highDemand_86 (by decide) ?_
      refine lv_iload_n hx hb dX5_highDemand_88 rfl (lv_at hl 5 rfl) ?_
      refine lv_iadd hx hb dX5_highDemand_89 ?_
      refine wI_alv (v := Gs (R 1) 1 i) hx hb hK hP 1 0 rfl rfl (10 + i) (nadd rfl rfl) (by omega) (by decide) rfl dX5_highDemand_90 ?_
      refine lv_iconst (v := 1) hx hb dX5_highDemand_91 (by decide) ?_
      refine lv_isub hx hb dX5_highDemand_92 ?_
      refine vp_callSi (va_runS (As := [.int (p1 - p1 / (per (Gs (R 1)) i) * (per (Gs (R 1)) i)), .int ((Gs (R 1) 1 i) - (vdl (Gs (R 1)) ((R 1) 1) i)), .int ((Gs (R 1) 1 i) - 1)]) (rest := []) ⟨hx, hb, hml, hown, hts⟩ (c_X5_in l (p1 - p1 / (per (Gs (R 1)) i) * (per (Gs (R 1)) i)) ((Gs (R 1) 1 i) - (vdl (Gs (R 1)) ((R 1) 1) i)) ((Gs (R 1) 1 i) - 1)) (cwS 3 hts gX5_highDemand_X5_in rfl rfl rfl (by decide +kernel) ⟨Nat.le_of_ble_eq_true rfl, Nat.le_of_ble_eq_true rfl⟩) ⟨fun a U g mk q => q, fun U hU hW => ⟨rfl, trivial⟩⟩ rfl rfl hl.1 rfl (lv_room (Nat.le_of_ble_eq_true rfl)) dX5_highDemand_93 ⟨Nat.le_of_ble_eq_true rfl, Nat.le_of_ble_eq_true rfl⟩).run (fun r e_r => ?_)
      subst e_r
      refine lv_if_eq (tgt := 112) hx hb dX5_highDemand_96 (by decide) (fun c_96 => ?_) (fun c_96 => ?_)
      · refine lv_iload hx hb dX5_highDemand_112 (lv_at hl 0 rfl) ?_
        exact W.iret (v := (Gs (R 1) 3 i) * (1 + ((p1 - ((Gs (R 1) 1 i) - (vdl (Gs (R 1)) ((R 1) 1) i))) / (per (Gs (R 1)) i)))) hx hb hr (fun t ht hW => ⟨_, rfl, (by rw [if_neg (fun h => c_21 (b01.mpr h)), hiD_ref hok, if_pos c_26, if_neg (fun h => (b10.mp c_96) h.1)]), ht⟩) (fun q hq => absurd hq List.not_mem_nil) dX5_highDemand_114
      · refine lv_iload hx hb dX5_highDemand_99 (lv_at hl 1 rfl) ?_
        refine lv_if_le (tgt := 112) hx hb dX5_highDemand_101 (by decide) (fun c_101 => ?_) (fun c_101 => ?_)
        · refine lv_iload hx hb dX5_highDemand_112 (lv_at hl 0 rfl) ?_
          exact W.iret (v := (Gs (R 1) 3 i) * (1 + ((p1 - ((Gs (R 1) 1 i) - (vdl (Gs (R 1)) ((R 1) 1) i))) / (per (Gs (R 1)) i)))) hx hb hr (fun t ht hW => ⟨_, rfl, (by rw [if_neg (fun h => c_21 (b01.mpr h)), hiD_ref hok, if_pos c_26, if_neg (fun h => h.2 c_101)]), ht⟩) (fun q hq => absurd hq List.not_mem_nil) dX5_highDemand_114
        · refine lv_iload hx hb dX5_highDemand_104 (lv_at hl 0 rfl) ?_
          refine lv_iload hx hb dX5_highDemand_106 (lv_at hl 1 rfl) ?_
          refine lv_isub hx hb dX5_highDemand_108 ?_
          refine lv_goto (tgt := 114) hx hb dX5_highDemand_109 (by decide) ?_
          exact W.iret (v := ((Gs (R 1) 3 i) * (1 + ((p1 - ((Gs (R 1) 1 i) - (vdl (Gs (R 1)) ((R 1) 1) i))) / (per (Gs (R 1)) i)))) - (((Gs (R 1) 2 i) + ((Gs (R 1) 1 i) - (vdl (Gs (R 1)) ((R 1) 1) i))) - (p1 - p1 / (per (Gs (R 1)) i) * (per (Gs (R 1)) i)))) hx hb hr (fun t ht hW => ⟨_, rfl, (by rw [if_neg (fun h => c_21 (b01.mpr h)), hiD_ref hok, if_pos c_26, if_pos ⟨Decidable.not_not.mp (fun h => c_96 (b10.mpr h)), c_101⟩]), ht⟩) (fun q hq => absurd hq List.not_mem_nil) dX5_highDemand_114
    · refine lv_iconst (v := 0) hx hb dX5_highDemand_29 (by decide) ?_
      exact W.iret (v := 0) hx hb hr (fun t ht hW => ⟨_, rfl, (by rw [if_neg (fun h => c_21 (b01.mpr h)), hiD, if_neg c_26]), ht⟩) (fun q hq => absurd hq List.not_mem_nil) dX5_highDemand_30
set_option maxHeartbeats 1000000 in
set_option maxRecDepth 100000 in
/-- the demand of a mode -/
theorem c_X5_demandOf (l : Launch) (dC : Nat → ClassId) (dI : Nat → Nat → Nat) (cy : Nat → ClassId) (m0 : Nat) (a : Nat → Nat) (I : Nat → Int32) (R : vG) (n : Nat) (hn : n ≤ 8) (hS0 : R 1 0 = nI n) (hG : okG (Gs (R 1)) n) (p0 p1 : Int32) (hm : p0 = 0 ∨ p0 = 1) : Met l yX5_demandOf wsX5_demandOf ({ frames := 3, cells := 0, slots := 0, locals := 69 }) (va_Pc [.ref m0, .int p0, .int p1] (fun U => va_P (dC, dI) vwCl (wMdl cy m0 a I R) U.heap ∧ EV dC dI cy U)) (vp_Si (fun r => r = tdem (Gs (R 1)) n (R 1 1) p0 p1)) 0 0 (fun _ => False) := by
  refine Met.ofW (cc := cX5_demandOf) (maxL := 6) (ret := some .int) (by decide) rfl ?_
  intro p e s m args below meth c s₁ B hml hv
  obtain ⟨rfl, hP, hE⟩ := hv
  have hK := hE.1
  have hx := B.exec
  have hb := B.bytes
  have hr := B.returns
  have hts := atoms_spec (ws := wsX5_demandOf) B.pre
  have hown : s.vm.findClass RX5 = some m.cls := findClass_of_methodNamed B.named
  have hlocks := B.notSynchronized
  have hin5 : ∀ w ∈ u_ws RX5 TX5 32, w ∈ wsX5_demandOf := by decide +kernel
  have f_9 := hts (.fieldLink RX5 9 "DeadlineAdmissionModel" "s" "[I") (by decide +kernel)
  have hl := lv_entry ([.ref m0, .int p0, .int p1]) (n := 6) (Nat.le_of_ble_eq_true rfl)
  rw [lg_entry_eq]
  generalize (lg_sl ([.ref m0, .int p0, .int p1]) ++ List.replicate (6 - (lg_sl ([.ref m0, .int p0, .int p1])).length) Slot.unset).toArray = ls at hl ⊢
  have hl : lv_has ls 6 [(0, .ref m0), (1, .int p0), (2, .int p1)] := hl
  refine lv_iconst (v := 0) hx hb dX5_demandOf_0 (by decide) ?_
  refine lv_istore_n (lv' := [(3, .int 0), (0, .ref m0), (1, .int p0), (2, .int p1)]) hx hb dX5_demandOf_1 rfl hl (by decide) rfl (fun ls hl => ?_)
  refine lv_iconst (v := 0) hx hb dX5_demandOf_2 (by decide) ?_
  refine lv_istore (lv' := [(4, .int 0), (3, .int 0), (0, .ref m0), (1, .int p0), (2, .int p1)]) hx hb dX5_demandOf_3 hl (by decide) rfl (fun ls hl => ?_)
  have loop5 : ∀ (k : Nat) (i : Nat) (sm : Int32) (ls : Array Slot), i ≤ n → n < i + k → sm = bx_sum (dem (Gs (R 1)) (R 1 1) p0 p1) i → lv_has ls 6 [(0, .ref m0), (1, .int p0), (2, .int p1), (3, .int sm), (4, .int (nI i))] → W p l e (headSpec wsX5_demandOf ({ frames := 3, cells := 0, slots := 0, locals := 69 }) |>.room) s m (([.ref m0, .int p0, .int p1].toArray)) below meth c s.heap [] 0 0 (MQ below (vp_Si (fun r => r = tdem (Gs (R 1)) n (R 1 1) p0 p1)) ([.ref m0, .int p0, .int p1].toArray) s 0 0 (fun _ => False)) (F0 m 5 ls []) := by
    intro k
    induction k with
    | zero =>
      intro i sm ls hi hk esm
      exfalso; omega
    | succ k ih5 =>
      intro i sm ls hi hk esm hl
      refine lv_iload hx hb dX5_demandOf_5 (lv_at hl 4 rfl) ?_
      refine lv_aload_n hx hb dX5_demandOf_7 rfl (lv_at hl 0 rfl) ?_
      refine va_get (D := (dC, dI)) (ci := 5) (v := .ref (a 1)) (C := RX5) (T := TX5) (N := 32) hx hb hts hin5 hown hK hP 0 rfl rfl 1 (by decide) f_9 (fun _ h9 => h9) rfl dX5_demandOf_8 ?_
      refine lv_iconst (v := 0) hx hb dX5_demandOf_11 (by decide) ?_
      refine wI_alv (v := nI n) hx hb hK hP 1 0 rfl rfl 0 rfl (by omega) (by decide) hS0 dX5_demandOf_12 ?_
      refine lv_icmp_ge (tgt := 82) hx hb dX5_demandOf_13 (by decide) (fun c_13 => ?_) (fun c_13 => ?_)
      · have e_i : i = n := Nat.le_antisymm hi ((nI_leI (by omega) (by omega)).mp c_13)
        refine lv_iload_n hx hb dX5_demandOf_82 rfl (lv_at hl 3 rfl) ?_
        exact W.iret (v := sm) hx hb hr (fun t ht hW => ⟨_, rfl, (by rw [esm, e_i]; rfl), ht⟩) (fun q hq => absurd hq List.not_mem_nil) dX5_demandOf_83
      · have hlt : i < n := Nat.lt_of_not_le (fun h => c_13 (nI_le h (by omega)))
        refine lv_aload_n hx hb dX5_demandOf_16 rfl (lv_at hl 0 rfl) ?_
        refine lv_iload hx hb dX5_demandOf_17 (lv_at hl 4 rfl) ?_
        refine vp_callSi (va_runV (As := [.int (nI i)]) (rest := []) ⟨hx, hb, hml, hown, hts⟩ (c_X5_virtualOf l dC dI cy m0 a I R  i (by omega) (hG _ hlt)) (cwV 1 hts gX5_demandOf_X5_virtualOf rfl rfl rfl (by decide +kernel) ⟨Nat.le_of_ble_eq_true rfl, Nat.le_of_ble_eq_true rfl⟩) ⟨bl_ro, va_recv hK hP (ci := 5) (q0 := 0) rfl rfl, pr_ro hP hE⟩ rfl rfl hl.1 rfl (lv_room (Nat.le_of_ble_eq_true rfl)) dX5_demandOf_19 ⟨Nat.le_of_ble_eq_true rfl, Nat.le_of_ble_eq_true rfl⟩).run (fun r e_r => ?_)
        subst e_r
        refine lv_istore (lv' := [(5, .int (vdl (Gs (R 1)) ((R 1) 1) i)), (0, .ref m0), (1, .int p0), (2, .int p1), (3, .int sm), (4, .int (nI i))]) hx hb dX5_demandOf_22 hl (by decide) rfl (fun ls hl => ?_)
        refine lv_iload_n hx hb dX5_demandOf_24 rfl (lv_at hl 4 rfl) ?_
        refine lv_iload_n hx hb dX5_demandOf_25 rfl (lv_at hl 2 rfl) ?_
        refine lv_iconst (v := 1) hx hb dX5_demandOf_26 (by decide) ?_
        refine lv_icmp_ne (tgt := 40) hx hb dX5_demandOf_27 (by decide) (fun c_27 => ?_) (fun c_27 => ?_)
        · refine lv_iload_n hx hb dX5_demandOf_40 rfl (lv_at hl 3 rfl) ?_
          refine lv_iload hx hb dX5_demandOf_41 (lv_at hl 0 rfl) ?_
          refine lv_icmp_lt (tgt := 73) hx hb dX5_demandOf_43 (by decide) (fun c_43 => ?_) (fun c_43 => ?_)
          · refine lv_iconst (v := 0) hx hb dX5_demandOf_73 (by decide) ?_
            refine lv_iadd hx hb dX5_demandOf_74 ?_
            refine lv_istore_n (lv' := [(3, .int (sm + 0)), (5, .int (vdl (Gs (R 1)) ((R 1) 1) i)), (0, .ref m0), (1, .int p0), (2, .int p1), (4, .int (nI i))]) hx hb dX5_demandOf_75 rfl hl (by decide) rfl (fun ls hl => ?_)
            refine lv_iinc (v := nI (i + 1)) (lv' := [(4, .int (nI (i + 1))), (3, .int (sm + 0)), (5, .int (vdl (Gs (R 1)) ((R 1) 1) i)), (0, .ref m0), (1, .int p0), (2, .int p1)]) hx hb dX5_demandOf_76 hl (k := 5) rfl (nI_1 _) (by decide) rfl (fun ls hl => ?_)
            refine lv_goto (tgt := 5) hx hb dX5_demandOf_79 (by decide) ?_
            exact ih5 (i + 1) _ ls (by omega) (by omega) (by rw [esm]; simp only [bx_sum, dem, loD, hm.resolve_right c_27, ↓reduceIte, Int32.not_le.mpr c_43]) (lv_sub hl [3, 4, 5, 1, 0] rfl)
          · refine lv_aload_n hx hb dX5_demandOf_46 rfl (lv_at hl 1 rfl) ?_
            refine va_get (D := (dC, dI)) (ci := 5) (v := .ref (a 1)) (C := RX5) (T := TX5) (N := 32) hx hb hts hin5 hown hK hP 0 rfl rfl 1 (by decide) f_9 (fun _ h9 => h9) rfl dX5_demandOf_47 ?_
            refine lv_bipush (v := 18) hx hb dX5_demandOf_50 (by decide) ?_
            refine lv_iload hx hb dX5_demandOf_52 (lv_at hl 5 rfl) ?_
            refine lv_iadd hx hb dX5_demandOf_54 ?_
            refine wI_alv (v := Gs (R 1) 2 i) hx hb hK hP 1 0 rfl rfl (18 + i) (nadd rfl rfl) (by omega) (by decide) rfl dX5_demandOf_55 ?_
            refine lv_iconst (v := 1) hx hb dX5_demandOf_56 (by decide) ?_
            refine lv_iload_n hx hb dX5_demandOf_57 rfl (lv_at hl 3 rfl) ?_
            refine lv_iload hx hb dX5_demandOf_58 (lv_at hl 0 rfl) ?_
            refine lv_isub hx hb dX5_demandOf_60 ?_
            refine lv_aload_n hx hb dX5_demandOf_61 rfl (lv_at hl 1 rfl) ?_
            refine lv_iload hx hb dX5_demandOf_62 (lv_at hl 5 rfl) ?_
            refine vp_callSi (va_runV (As := [.int (nI i)]) (rest := [.int (p1 - (vdl (Gs (R 1)) ((R 1) 1) i)), .int 1, .int (Gs (R 1) 2 i), .int sm]) ⟨hx, hb, hml, hown, hts⟩ (c_X5_periodOf l dC dI cy m0 a I R  i (by omega) (hG _ hlt)) (cwV 1 hts gX5_demandOf_X5_periodOf rfl rfl rfl (by decide +kernel) ⟨Nat.le_of_ble_eq_true rfl, Nat.le_of_ble_eq_true rfl⟩) ⟨bl_ro, va_recv hK hP (ci := 5) (q0 := 0) rfl rfl, pr_ro hP hE⟩ rfl rfl hl.1 rfl (lv_room (Nat.le_of_ble_eq_true rfl)) dX5_demandOf_64 ⟨Nat.le_of_ble_eq_true rfl, Nat.le_of_ble_eq_true rfl⟩).run (fun r e_r => ?_)
            subst e_r
            refine lv_idiv hx hb dX5_demandOf_67 (per_pos _ _) ?_
            refine lv_iadd hx hb dX5_demandOf_68 ?_
            refine lv_imul hx hb dX5_demandOf_69 ?_
            refine lv_goto (tgt := 74) hx hb dX5_demandOf_70 (by decide) ?_
            refine lv_iadd hx hb dX5_demandOf_74 ?_
            refine lv_istore_n (lv' := [(3, .int (sm + ((Gs (R 1) 2 i) * (1 + ((p1 - (vdl (Gs (R 1)) ((R 1) 1) i)) / (per (Gs (R 1)) i)))))), (5, .int (vdl (Gs (R 1)) ((R 1) 1) i)), (0, .ref m0), (1, .int p0), (2, .int p1), (4, .int (nI i))]) hx hb dX5_demandOf_75 rfl hl (by decide) rfl (fun ls hl => ?_)
            refine lv_iinc (v := nI (i + 1)) (lv' := [(4, .int (nI (i + 1))), (3, .int (sm + ((Gs (R 1) 2 i) * (1 + ((p1 - (vdl (Gs (R 1)) ((R 1) 1) i)) / (per (Gs (R 1)) i)))))), (5, .int (vdl (Gs (R 1)) ((R 1) 1) i)), (0, .ref m0), (1, .int p0), (2, .int p1)]) hx hb dX5_demandOf_76 hl (k := 5) rfl (nI_1 _) (by decide) rfl (fun ls hl => ?_)
            refine lv_goto (tgt := 5) hx hb dX5_demandOf_79 (by decide) ?_
            exact ih5 (i + 1) _ ls (by omega) (by omega) (by rw [esm]; simp only [bx_sum, dem, loD, hm.resolve_right c_27, ↓reduceIte, Int32.not_lt.mp c_43]) (lv_sub hl [3, 4, 5, 1, 0] rfl)
        · refine lv_aload_n hx hb dX5_demandOf_30 rfl (lv_at hl 1 rfl) ?_
          refine lv_iload hx hb dX5_demandOf_31 (lv_at hl 5 rfl) ?_
          refine lv_iload_n hx hb dX5_demandOf_33 rfl (lv_at hl 3 rfl) ?_
          refine vp_callSi (va_runV (As := [.int (nI i), .int p1]) (rest := [.int sm]) ⟨hx, hb, hml, hown, hts⟩ (c_X5_highDemand l dC dI cy m0 a I R p1 i (by omega) (hG _ hlt)) (cwV 2 hts gX5_demandOf_X5_highDemand rfl rfl rfl (by decide +kernel) ⟨Nat.le_of_ble_eq_true rfl, Nat.le_of_ble_eq_true rfl⟩) ⟨bl_ro, va_recv hK hP (ci := 5) (q0 := 0) rfl rfl, pr_ro hP hE⟩ rfl rfl hl.1 rfl (lv_room (Nat.le_of_ble_eq_true rfl)) dX5_demandOf_34 ⟨Nat.le_of_ble_eq_true rfl, Nat.le_of_ble_eq_true rfl⟩).run (fun r e_r => ?_)
          subst e_r
          refine lv_goto (tgt := 74) hx hb dX5_demandOf_37 (by decide) ?_
          refine lv_iadd hx hb dX5_demandOf_74 ?_
          refine lv_istore_n (lv' := [(3, .int (sm + (if Gs (R 1) 3 i ≤ 0 then 0 else hiD (Gs (R 1)) i p1 (Gs (R 1) 1 i - vdl (Gs (R 1)) ((R 1) 1) i) (per (Gs (R 1)) i)))), (5, .int (vdl (Gs (R 1)) ((R 1) 1) i)), (0, .ref m0), (1, .int p0), (2, .int p1), (4, .int (nI i))]) hx hb dX5_demandOf_75 rfl hl (by decide) rfl (fun ls hl => ?_)
          refine lv_iinc (v := nI (i + 1)) (lv' := [(4, .int (nI (i + 1))), (3, .int (sm + (if Gs (R 1) 3 i ≤ 0 then 0 else hiD (Gs (R 1)) i p1 (Gs (R 1) 1 i - vdl (Gs (R 1)) ((R 1) 1) i) (per (Gs (R 1)) i)))), (5, .int (vdl (Gs (R 1)) ((R 1) 1) i)), (0, .ref m0), (1, .int p0), (2, .int p1)]) hx hb dX5_demandOf_76 hl (k := 5) rfl (nI_1 _) (by decide) rfl (fun ls hl => ?_)
          refine lv_goto (tgt := 5) hx hb dX5_demandOf_79 (by decide) ?_
          exact ih5 (i + 1) _ ls (by omega) (by omega) (by rw [esm, c_27]; simp only [bx_sum, dem]; rw [if_neg (show ¬ (1 : Int32) = 0 by decide)]) (lv_sub hl [3, 4, 5, 1, 0] rfl)
  exact loop5 (n + 1) 0 0 ls (Nat.zero_le _) (by omega) rfl (lv_sub hl [2, 3, 4, 1, 0] rfl)
set_option maxHeartbeats 1000000 in
set_option maxRecDepth 100000 in
/-- the least t for which the test fails -/
theorem c_X5_firstFailing (l : Launch) (dC : Nat → ClassId) (dI : Nat → Nat → Nat) (cy : Nat → ClassId) (m0 : Nat) (a : Nat → Nat) (I : Nat → Int32) (R : vG) (n : Nat) (hn : n ≤ 8) (hS0 : R 1 0 = nI n) (hG : okG (Gs (R 1)) n) (p0 : Int32) (hm : p0 = 0 ∨ p0 = 1) : Met l yX5_firstFailing wsX5_firstFailing ({ frames := 4, cells := 0, slots := 0, locals := 94 }) (va_Pc [.ref m0, .int p0] (fun U => va_P (dC, dI) vwCl (wMdl cy m0 a I R) U.heap ∧ EV dC dI cy U)) (vp_Si (fun r => r = ffail (Gs (R 1)) n (R 1 1) p0)) 0 0 (fun _ => False) := by
  refine Met.ofW (cc := cX5_firstFailing) (maxL := 3) (ret := some .int) (by decide) rfl ?_
  intro p e s m args below meth c s₁ B hml hv
  obtain ⟨rfl, hP, hE⟩ := hv
  have hK := hE.1
  have hx := B.exec
  have hb := B.bytes
  have hr := B.returns
  have hts := atoms_spec (ws := wsX5_firstFailing) B.pre
  have hown : s.vm.findClass RX5 = some m.cls := findClass_of_methodNamed B.named
  have hlocks := B.notSynchronized
  have hl := lv_entry ([.ref m0, .int p0]) (n := 3) (Nat.le_of_ble_eq_true rfl)
  rw [lg_entry_eq]
  generalize (lg_sl ([.ref m0, .int p0]) ++ List.replicate (3 - (lg_sl ([.ref m0, .int p0])).length) Slot.unset).toArray = ls at hl ⊢
  have hl : lv_has ls 3 [(0, .ref m0), (1, .int p0)] := hl
  refine lv_iconst (v := 1) hx hb dX5_firstFailing_0 (by decide) ?_
  refine lv_istore_n (lv' := [(2, .int 1), (0, .ref m0), (1, .int p0)]) hx hb dX5_firstFailing_1 rfl hl (by decide) rfl (fun ls hl => ?_)
  have loop2 : ∀ (k : Nat) (j : Nat) (t : Nat) (ls : Array Slot), t + j = 201 → j < k → ffr (tdem (Gs (R 1)) n (R 1 1) p0) j t = ffail (Gs (R 1)) n (R 1 1) p0 → lv_has ls 3 [(0, .ref m0), (1, .int p0), (2, .int (nI t))] → W p l e (headSpec wsX5_firstFailing ({ frames := 4, cells := 0, slots := 0, locals := 94 }) |>.room) s m (([.ref m0, .int p0].toArray)) below meth c s.heap [] 0 0 (MQ below (vp_Si (fun r => r = ffail (Gs (R 1)) n (R 1 1) p0)) ([.ref m0, .int p0].toArray) s 0 0 (fun _ => False)) (F0 m 2 ls []) := by
    intro k
    induction k with
    | zero =>
      intro j t ls hi hk ef
      exfalso; omega
    | succ k ih2 =>
      intro j t ls hi hk ef hl
      refine lv_iload_n hx hb dX5_firstFailing_2 rfl (lv_at hl 2 rfl) ?_
      refine lv_sipush (v := 200) hx hb dX5_firstFailing_3 (by decide) ?_
      refine lv_icmp_gt (tgt := 27) hx hb dX5_firstFailing_6 (by decide) (fun c_6 => ?_) (fun c_6 => ?_)
      · have e_j : j = 0 := by have := (nI_ltI (a := 200) (b := t) (by omega) (by omega)).mp c_6; omega
        refine lv_iconst (v := 0) hx hb dX5_firstFailing_27 (by decide) ?_
        exact W.iret (v := 0) hx hb hr (fun t ht hW => ⟨_, rfl, (by rw [← ef, e_j]; rfl), ht⟩) (fun q hq => absurd hq List.not_mem_nil) dX5_firstFailing_28
      · obtain ⟨j, rfl⟩ : ∃ z, j = z + 1 := ⟨j - 1, by have h : ¬ (200 < t) := fun h => c_6 ((nI_ltI (a := 200) (b := t) (by omega) (by omega)).mpr h); omega⟩
        refine lv_aload_n hx hb dX5_firstFailing_9 rfl (lv_at hl 0 rfl) ?_
        refine lv_iload_n hx hb dX5_firstFailing_10 rfl (lv_at hl 1 rfl) ?_
        refine lv_iload_n hx hb dX5_firstFailing_11 rfl (lv_at hl 2 rfl) ?_
        refine vp_callSi (va_runV (As := [.int p0, .int (nI t)]) (rest := []) ⟨hx, hb, hml, hown, hts⟩ (c_X5_demandOf l dC dI cy m0 a I R n hn hS0 hG p0 (nI t) hm) (cwV 2 hts gX5_firstFailing_X5_demandOf rfl rfl rfl (by decide +kernel) ⟨Nat.le_of_ble_eq_true rfl, Nat.le_of_ble_eq_true rfl⟩) ⟨bl_ro, va_recv hK hP (ci := 5) (q0 := 0) rfl rfl, pr_ro hP hE⟩ rfl rfl hl.1 rfl (lv_room (Nat.le_of_ble_eq_true rfl)) dX5_firstFailing_12 ⟨Nat.le_of_ble_eq_true rfl, Nat.le_of_ble_eq_true rfl⟩).run (fun r e_r => ?_)
        subst e_r
        refine lv_iload_n hx hb dX5_firstFailing_15 rfl (lv_at hl 2 rfl) ?_
        refine lv_icmp_le (tgt := 21) hx hb dX5_firstFailing_16 (by decide) (fun c_16 => ?_) (fun c_16 => ?_)
        · refine lv_iinc (v := nI (t + 1)) (lv' := [(2, .int (nI (t + 1))), (0, .ref m0), (1, .int p0)]) hx hb dX5_firstFailing_21 hl (k := 2) rfl (nI_1 _) (by decide) rfl (fun ls hl => ?_)
          refine lv_goto (tgt := 2) hx hb dX5_firstFailing_24 (by decide) ?_
          exact ih2 j (t + 1) ls (by omega) (by omega) (by rw [← ef, ffr, if_pos c_16]) (lv_sub hl [1, 2, 0] rfl)
        · refine lv_iload_n hx hb dX5_firstFailing_19 rfl (lv_at hl 2 rfl) ?_
          exact W.iret (v := nI t) hx hb hr (fun t ht hW => ⟨_, rfl, (by rw [← ef, ffr, if_neg c_16]), ht⟩) (fun q hq => absurd hq List.not_mem_nil) dX5_firstFailing_20
  exact loop2 201 200 1 ls rfl (by omega) rfl (lv_sub hl [1, 2, 0] rfl)
set_option maxHeartbeats 1000000 in
set_option maxRecDepth 100000 in
/-- the test of a mode -/
theorem c_X5_isPassing (l : Launch) (dC : Nat → ClassId) (dI : Nat → Nat → Nat) (cy : Nat → ClassId) (m0 : Nat) (a : Nat → Nat) (I : Nat → Int32) (R : vG) (n : Nat) (hn : n ≤ 8) (hS0 : R 1 0 = nI n) (hG : okG (Gs (R 1)) n) (p0 : Int32) (hm : p0 = 0 ∨ p0 = 1) : Met l yX5_isPassing wsX5_isPassing ({ frames := 5, cells := 0, slots := 0, locals := 116 }) (va_Pc [.ref m0, .int p0] (fun U => va_P (dC, dI) vwCl (wMdl cy m0 a I R) U.heap ∧ EV dC dI cy U)) (vp_Si (fun r => r = (if ffail (Gs (R 1)) n (R 1 1) p0 = 0 then 1 else 0))) 0 0 (fun _ => False) := by
  refine Met.ofW (cc := cX5_isPassing) (maxL := 2) (ret := some .boolean) (by decide) rfl ?_
  intro p e s m args below meth c s₁ B hml hv
  obtain ⟨rfl, hP, hE⟩ := hv
  have hK := hE.1
  have hx := B.exec
  have hb := B.bytes
  have hr := B.returns
  have hts := atoms_spec (ws := wsX5_isPassing) B.pre
  have hown : s.vm.findClass RX5 = some m.cls := findClass_of_methodNamed B.named
  have hlocks := B.notSynchronized
  have hl := lv_entry ([.ref m0, .int p0]) (n := 2) (Nat.le_of_ble_eq_true rfl)
  rw [lg_entry_eq]
  generalize (lg_sl ([.ref m0, .int p0]) ++ List.replicate (2 - (lg_sl ([.ref m0, .int p0])).length) Slot.unset).toArray = ls at hl ⊢
  have hl : lv_has ls 2 [(0, .ref m0), (1, .int p0)] := hl
  refine lv_aload_n hx hb dX5_isPassing_0 rfl (lv_at hl 0 rfl) ?_
  refine lv_iload_n hx hb dX5_isPassing_1 rfl (lv_at hl 1 rfl) ?_
  refine vp_callSi (va_runV (As := [.int p0]) (rest := []) ⟨hx, hb, hml, hown, hts⟩ (c_X5_firstFailing l dC dI cy m0 a I R n hn hS0 hG p0 hm) (cwV 1 hts gX5_isPassing_X5_firstFailing rfl rfl rfl (by decide +kernel) ⟨Nat.le_of_ble_eq_true rfl, Nat.le_of_ble_eq_true rfl⟩) ⟨bl_ro, va_recv hK hP (ci := 5) (q0 := 0) rfl rfl, pr_ro hP hE⟩ rfl rfl hl.1 rfl (lv_room (Nat.le_of_ble_eq_true rfl)) dX5_isPassing_2 ⟨Nat.le_of_ble_eq_true rfl, Nat.le_of_ble_eq_true rfl⟩).run (fun r e_r => ?_)
  subst e_r
  refine lv_if_ne (tgt := 12) hx hb dX5_isPassing_5 (by decide) (fun c_5 => ?_) (fun c_5 => ?_)
  · refine lv_iconst (v := 0) hx hb dX5_isPassing_12 (by decide) ?_
    exact W.zret (v := 0) hx hb hr (by decide) (fun t ht hW => ⟨_, rfl, (by simp only [c_5, ↓reduceIte]), ht⟩) (fun q hq => absurd hq List.not_mem_nil) dX5_isPassing_13
  · refine lv_iconst (v := 1) hx hb dX5_isPassing_8 (by decide) ?_
    refine lv_goto (tgt := 13) hx hb dX5_isPassing_9 (by decide) ?_
    exact W.zret (v := 1) hx hb hr (by decide) (fun t ht hW => ⟨_, rfl, (by simp only [c_5, ↓reduceIte]), ht⟩) (fun q hq => absurd hq List.not_mem_nil) dX5_isPassing_13
set_option maxHeartbeats 1000000 in
set_option maxRecDepth 100000 in
/-- the greatest scale with which the tasks are schedulable is set, else 1 -/
theorem c_X5_scales (l : Launch) (dC : Nat → ClassId) (dI : Nat → Nat → Nat) (cy : Nat → ClassId) (sz : Nat) (m0 : Nat) (a : Nat → Nat) (I : Nat → Int32) (R : vG) (n : Nat) (hn : n ≤ 8) (hS0 : R 1 0 = nI n) (hG : okG (Gs (R 1)) n) : Met l yX5_scales wsX5_scales ({ frames := 6, cells := 0, slots := 0, locals := 137 }) (va_Pc [.ref m0] (pIn dC dI cy (wMdl cy m0 a I R) sz)) (va_Qi (fun (r u : Int32) => r = (if gscale (Gs (R 1)) n = 0 then 0 else 1) ∧ u = (if gscale (Gs (R 1)) n = 0 then 1 else nI (gscale (Gs (R 1)) n))) (fun (u : Int32) t => va_P (dC, dI) vwCl (wMdl cy m0 a I (upr R 1 (upd (R 1) 1 u))) t.heap ∧ va_D (va_A (wMdl cy m0 a I R) sz) (wMdl cy m0 a I (upr R 1 (upd (R 1) 1 u)))) (va_A (wMdl cy m0 a I R) sz)) 0 0 (va_A (wMdl cy m0 a I R) sz) := by
  refine Met.ofW (cc := cX5_scales) (maxL := 2) (ret := some .boolean) (by decide) rfl ?_
  intro p e s m args below meth c s₁ B hml hv
  obtain ⟨rfl, hsz, hP, hE, hD0⟩ := hv
  have hK := hE.1
  subst hsz
  have hD := hD0.self (sz := s.heap.size)
  generalize hAe : va_A (wMdl cy m0 a I R) s.heap.size = A at hD ⊢
  have hA : ∀ q : Nat, s.heap.size ≤ q → A q := fun q h => by rw [← hAe]; exact Or.inr h
  have hS : va_S A s.heap s.heap [] := va_S.rf
  have hP : va_P (dC, dI) vwCl (wMdl cy m0 a I R) s.heap := hP
  have hx := B.exec
  have hb := B.bytes
  have hr := B.returns
  have hts := atoms_spec (ws := wsX5_scales) B.pre
  have hown : s.vm.findClass RX5 = some m.cls := findClass_of_methodNamed B.named
  have hlocks := B.notSynchronized
  have hin5 : ∀ w ∈ u_ws RX5 TX5 32, w ∈ wsX5_scales := by decide +kernel
  have f_9 := hts (.fieldLink RX5 9 "DeadlineAdmissionModel" "s" "[I") (by decide +kernel)
  have hl := lv_entry ([.ref m0]) (n := 2) (Nat.le_of_ble_eq_true rfl)
  rw [lg_entry_eq]
  generalize (lg_sl ([.ref m0]) ++ List.replicate (2 - (lg_sl ([.ref m0])).length) Slot.unset).toArray = ls at hl ⊢
  have hl : lv_has ls 2 [(0, .ref m0)] := hl
  refine lv_bipush (v := 8) hx hb dX5_scales_0 (by decide) ?_
  refine lv_istore_n (lv' := [(1, .int 8), (0, .ref m0)]) hx hb dX5_scales_2 rfl hl (by decide) rfl (fun ls hl => ?_)
  have loop3 : ∀ (k : Nat) (j : Nat) (y : Int32) (ls : Array Slot), j ≤ 8 → j < k → j = 8 ∨ y = nI (j + 1) → gsc (Gs (R 1)) n j = gscale (Gs (R 1)) n → ∀ (H : Heap) (locs : List Loc), va_P (dC, dI) vwCl (wMdl cy m0 a I (upr R 1 (upd (R 1) 1 y))) H → va_D A (wMdl cy m0 a I (upr R 1 (upd (R 1) 1 y))) → va_S A s.heap H locs → lv_has ls 2 [(0, .ref m0), (1, .int (nI j))] → W p l e (headSpec wsX5_scales ({ frames := 6, cells := 0, slots := 0, locals := 137 }) |>.room) s m (([.ref m0].toArray)) below meth c H locs 0 0 (MQ below (va_Qi (fun (r u : Int32) => r = (if gscale (Gs (R 1)) n = 0 then 0 else 1) ∧ u = (if gscale (Gs (R 1)) n = 0 then 1 else nI (gscale (Gs (R 1)) n))) (fun (u : Int32) t => va_P (dC, dI) vwCl (wMdl cy m0 a I (upr R 1 (upd (R 1) 1 u))) t.heap ∧ va_D (A) (wMdl cy m0 a I (upr R 1 (upd (R 1) 1 u)))) (A)) ([.ref m0].toArray) s 0 0 A) (F0 m 3 ls []) := by
    intro k
    induction k with
    | zero =>
      intro j y ls hi hk ey eg
      exfalso; omega
    | succ k ih3 =>
      intro j y ls hi hk ey eg H locs hP hD hS hl
      refine lv_iload_n hx hb dX5_scales_3 rfl (lv_at hl 1 rfl) ?_
      refine lv_if_le (tgt := 38) hx hb dX5_scales_4 (by decide) (fun c_4 => ?_) (fun c_4 => ?_)
      · have e_j : j = 0 := by have := (nI_leI (a := j) (b := 0) (by omega) (by omega)).mp c_4; omega
        refine lv_iconst (v := 0) hx hb dX5_scales_38 (by decide) ?_
        have hP9 : va_P (dC, dI) vwCl (wMdl cy m0 a I (upr R 1 (upd (R 1) 1 y))) H := hP
        have hD9 : va_D A (wMdl cy m0 a I (upr R 1 (upd (R 1) 1 y))) := hD
        exact W.zret (v := 0) hx hb hr (by decide) (fun t ht hW => ⟨⟨0, y, rfl, (by rw [← eg, e_j]; exact ⟨rfl, by rw [ey.resolve_left (by omega), e_j]; rfl⟩), by rw [ht]; exact hP9, hD9⟩, hS.F ht⟩) hS.2.2 dX5_scales_39
      · obtain ⟨j, rfl⟩ : ∃ z, j = z + 1 := ⟨j - 1, by have h : ¬ (j ≤ 0) := fun h => c_4 ((nI_leI (a := j) (b := 0) (by omega) (by omega)).mpr h); omega⟩
        refine lv_aload_n hx hb dX5_scales_7 rfl (lv_at hl 0 rfl) ?_
        refine va_get (D := (dC, dI)) (ci := 5) (v := .ref (a 1)) (C := RX5) (T := TX5) (N := 32) hx hb hts hin5 hown hK hP 0 rfl rfl 1 (by decide) f_9 (fun _ h9 => h9) rfl dX5_scales_8 ?_
        refine lv_iconst (v := 1) hx hb dX5_scales_11 (by decide) ?_
        refine lv_iload_n hx hb dX5_scales_12 rfl (lv_at hl 1 rfl) ?_
        refine wI_ast hx hb hK hP hD hS 1 0 rfl rfl 1 rfl (by omega) (by decide) dX5_scales_13 (fun H locs hP hD hS => ?_)
        have hP : va_P (dC, dI) vwCl (wMdl cy m0 a I (upr R 1 (upd (upd (R 1) 1 y) 1 (nI (j + 1))))) H := hP
        have hD : va_D A (wMdl cy m0 a I (upr R 1 (upd (upd (R 1) 1 y) 1 (nI (j + 1))))) := hD
        rw [upd_upd] at hP hD
        have hP : va_P (dC, dI) vwCl (wMdl cy m0 a I (upr R 1 (upd (R 1) 1 (nI (j + 1))))) H := hP
        have hD : va_D A (wMdl cy m0 a I (upr R 1 (upd (R 1) 1 (nI (j + 1))))) := hD
        refine lv_aload_n hx hb dX5_scales_14 rfl (lv_at hl 0 rfl) ?_
        refine lv_iconst (v := 0) hx hb dX5_scales_15 (by decide) ?_
        refine vp_callSi (va_runV (As := [.int 0]) (rest := []) ⟨hx, hb, hml, hown, hts⟩ (c_X5_isPassing l dC dI cy m0 a I (upr R 1 (upd (R 1) 1 (nI (j + 1)))) n hn hS0 (by rw [show upr R 1 (upd (R 1) 1 (nI (j + 1))) 1 = upd (R 1) 1 (nI (j + 1)) from rfl, Gs_upd1]; exact hG) 0 (Or.inl rfl)) (cwV 1 hts gX5_scales_X5_isPassing rfl rfl rfl (by decide +kernel) ⟨Nat.le_of_ble_eq_true rfl, Nat.le_of_ble_eq_true rfl⟩) ⟨bl_ro, va_recv hK hP (ci := 5) (q0 := 0) rfl rfl, pr_ro hP hE⟩ rfl rfl hl.1 rfl (lv_room (Nat.le_of_ble_eq_true rfl)) dX5_scales_16 ⟨Nat.le_of_ble_eq_true rfl, Nat.le_of_ble_eq_true rfl⟩).run (fun r e_r => ?_)
        subst e_r
        refine lv_topi (fun y_ ey_ => ?_)
        obtain rfl : y_ = if ffail (Gs (upd (R 1) 1 (nI (j + 1)))) n ((upd (R 1) 1 (nI (j + 1))) 1) 0 = 0 then 1 else 0 := ey_
        refine lv_if_eq (tgt := 32) hx hb dX5_scales_19 (by decide) (fun c_19 => ?_) (fun c_19 => ?_)
        · have g1 : ¬ ffail (Gs (R 1)) n (nI (j + 1)) 0 = 0 := by have h := b10.mp c_19; rw [Gs_upd1] at h; exact h
          refine lv_iinc (v := nI j) (lv' := [(1, .int (nI j)), (0, .ref m0)]) hx hb dX5_scales_32 hl (k := 1) rfl (nI_m1 _) (by decide) rfl (fun ls hl => ?_)
          refine lv_goto (tgt := 3) hx hb dX5_scales_35 (by decide) ?_
          exact ih3 j _ ls (by omega) (by omega) (Or.inr rfl) (by rw [← eg, gsc, if_neg (fun h => g1 h.1)]) _ _ hP hD hS (lv_sub hl [1, 0] rfl)
        · have g1 : ffail (Gs (R 1)) n (nI (j + 1)) 0 = 0 := by have h := Decidable.not_not.mp (fun h => c_19 (b10.mpr h)); rw [Gs_upd1] at h; exact h
          refine lv_aload_n hx hb dX5_scales_22 rfl (lv_at hl 0 rfl) ?_
          refine lv_iconst (v := 1) hx hb dX5_scales_23 (by decide) ?_
          refine vp_callSi (va_runV (As := [.int 1]) (rest := []) ⟨hx, hb, hml, hown, hts⟩ (c_X5_isPassing l dC dI cy m0 a I (upr R 1 (upd (R 1) 1 (nI (j + 1)))) n hn hS0 (by rw [show upr R 1 (upd (R 1) 1 (nI (j + 1))) 1 = upd (R 1) 1 (nI (j + 1)) from rfl, Gs_upd1]; exact hG) 1 (Or.inr rfl)) (cwV 1 hts gX5_scales_X5_isPassing rfl rfl rfl (by decide +kernel) ⟨Nat.le_of_ble_eq_true rfl, Nat.le_of_ble_eq_true rfl⟩) ⟨bl_ro, va_recv hK hP (ci := 5) (q0 := 0) rfl rfl, pr_ro hP hE⟩ rfl rfl hl.1 rfl (lv_room (Nat.le_of_ble_eq_true rfl)) dX5_scales_24 ⟨Nat.le_of_ble_eq_true rfl, Nat.le_of_ble_eq_true rfl⟩).run (fun r e_r => ?_)
          subst e_r
          refine lv_topi (fun y_ ey_ => ?_)
          obtain rfl : y_ = if ffail (Gs (upd (R 1) 1 (nI (j + 1)))) n ((upd (R 1) 1 (nI (j + 1))) 1) 1 = 0 then 1 else 0 := ey_
          refine lv_if_eq (tgt := 32) hx hb dX5_scales_27 (by decide) (fun c_27 => ?_) (fun c_27 => ?_)
          · have g2 : ¬ ffail (Gs (R 1)) n (nI (j + 1)) 1 = 0 := by have h := b10.mp c_27; rw [Gs_upd1] at h; exact h
            refine lv_iinc (v := nI j) (lv' := [(1, .int (nI j)), (0, .ref m0)]) hx hb dX5_scales_32 hl (k := 1) rfl (nI_m1 _) (by decide) rfl (fun ls hl => ?_)
            refine lv_goto (tgt := 3) hx hb dX5_scales_35 (by decide) ?_
            exact ih3 j _ ls (by omega) (by omega) (Or.inr rfl) (by rw [← eg, gsc, if_neg (fun h => g2 h.2)]) _ _ hP hD hS (lv_sub hl [1, 0] rfl)
          · have g2 : ffail (Gs (R 1)) n (nI (j + 1)) 1 = 0 := by have h := Decidable.not_not.mp (fun h => c_27 (b10.mpr h)); rw [Gs_upd1] at h; exact h
            refine lv_iconst (v := 1) hx hb dX5_scales_30 (by decide) ?_
            have hP9 : va_P (dC, dI) vwCl (wMdl cy m0 a I (upr R 1 (upd (R 1) 1 (nI (j + 1))))) H := hP
            have hD9 : va_D A (wMdl cy m0 a I (upr R 1 (upd (R 1) 1 (nI (j + 1))))) := hD
            exact W.zret (v := 1) hx hb hr (by decide) (fun t ht hW => ⟨⟨1, (nI (j + 1)), rfl, (by rw [show gscale (Gs (R 1)) n = j + 1 from by rw [← eg, gsc, if_pos ⟨g1, g2⟩]]; exact ⟨rfl, rfl⟩), by rw [ht]; exact hP9, hD9⟩, hS.F ht⟩) hS.2.2 dX5_scales_31
  exact loop3 9 8 (R 1 1) ls (Nat.le_refl _) (by omega) (Or.inl rfl) rfl _ _ (by rw [upd_self]; exact hP) (by rw [upd_self]; exact hD) hS (lv_sub hl [1, 0] rfl)

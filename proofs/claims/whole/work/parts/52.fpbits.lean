/-! PART 52: bits of floating point numbers; utilization and load of the class -/
theorem Met.ofWF {l : Launch} {y : MethodName} {ws ws' : List Cond} {rm : Room} {Pc : Array Value → State → Prop} {Qc : Array Value → State → Outcome → State → Prop} {mc ms : Nat} {free : Addr → Prop} {cc : ByteArray} {maxL : Nat} {ret : Option FieldType}
    (hy : plainFor y = true) (hw : ws = Cond.code y cc maxL ret :: ws')
    (body : ∀ p e s m args below meth c s₁, BodyLoose p l y (headSpec ws rm) cc maxL ret e s m args below meth c s₁ → c.maxLocals = maxL → Pc args s →
      W p l e (headSpec ws rm).room s m args below meth c s.heap [] 0 0 (MQ below Qc args s mc ms free) (entryFrame m args maxL)) : Met l y ws rm Pc Qc mc ms free := by
  refine MetFree.of_bodySF (code := cc) (maxLocals := maxL) (ret := ret) hy ?_ ?_
  · intro args s m h hn
    obtain ⟨meth, c, h1, h2, h3, h4, h5, h6, -, -⟩ := Cond.code_spec hn (atoms_spec (ws := ws) h _ (by rw [hw]; exact List.mem_cons_self))
    exact ⟨meth, c, h1, h2, h3, h4, h5, h6⟩
  · intro p e s m args below meth c s₁ B hml hP _
    have hh0 : s₁.heap = s.heap := by rw [B.state]; rfl
    obtain ⟨t, a1, o, b1, b2, b3⟩ := body p e s m args below meth c s₁ B hml hP s₁ hh0 (Stand.of_body B)
    exact ⟨t, o, a1, b1, b2, ⟨b3.1, b3.2⟩⟩
set_option maxHeartbeats 1000000 in
set_option maxRecDepth 100000 in
/-- is it no number -/
theorem c_Jxe99ae_isNaN_b9ae7 (l : Launch) (x : UInt64) (hnn : FP.Core.dIsNaN x = false) : Met l yJxe99ae_isNaN_b9ae7 wsJxe99ae_isNaN_b9ae7 ({ frames := 0, cells := 0, slots := 0, locals := 0 }) (va_Pc [.double x] (fun _ => True)) (vp_Si (fun r => r = 0)) 0 0 (fun _ => False) := by
  refine Met.ofWF (cc := cJxe99ae_isNaN_b9ae7) (maxL := 2) (ret := some .boolean) (by decide +kernel) rfl ?_
  intro p e s m args below meth c s₁ B hml hv
  obtain ⟨rfl, -⟩ := hv
  have hx := B.exec
  have hb := B.bytes
  have hr := B.returns
  have hts := atoms_spec (ws := wsJxe99ae_isNaN_b9ae7) B.pre
  have hown : s.vm.findClass RJxe99ae = some m.cls := findClass_of_methodNamed B.named
  have hlocks := B.notSynchronized
  have hl := lv_entry ([.double x]) (n := 2) (Nat.le_of_ble_eq_true rfl)
  rw [lg_entry_eq]
  generalize (lg_sl ([.double x]) ++ List.replicate (2 - (lg_sl ([.double x])).length) Slot.unset).toArray = ls at hl ⊢
  have hl : lv_has ls 2 [(0, .double x)] := hl
  refine lv_dload_n hx hb dJxe99ae_isNaN_b9ae7_0 rfl (lv_at hl 0 rfl) ?_
  refine lv_dload_n hx hb dJxe99ae_isNaN_b9ae7_1 rfl (lv_at hl 0 rfl) ?_
  refine lv_dcmp hx hb dJxe99ae_isNaN_b9ae7_2 ?_
  refine lv_if_eq (tgt := 10) hx hb dJxe99ae_isNaN_b9ae7_3 (by decide) (fun c_3 => ?_) (fun h0 => absurd (show Op.cmpValue (FP.dcmp x x) .l = 0 from by rw [show FP.dcmp x x = some .eq from FP.Core.dcmp_refl hnn]; rfl) h0)
  refine lv_iconst (v := 0) hx hb dJxe99ae_isNaN_b9ae7_10 (by decide) ?_
  exact W.zret (v := 0) hx hb hr (by decide) (fun t ht hW => ⟨_, rfl, rfl, ht⟩) (fun q hq => absurd hq List.not_mem_nil) dJxe99ae_isNaN_b9ae7_11
set_option maxHeartbeats 1000000 in
set_option maxRecDepth 100000 in
/-- is it no number -/
theorem c_Jxf58ca_isNaN_12338 (l : Launch) (x : UInt32) (hnn : FP.Core.fIsNaN x = false) : Met l yJxf58ca_isNaN_12338 wsJxf58ca_isNaN_12338 ({ frames := 0, cells := 0, slots := 0, locals := 0 }) (va_Pc [.float x] (fun _ => True)) (vp_Si (fun r => r = 0)) 0 0 (fun _ => False) := by
  refine Met.ofWF (cc := cJxf58ca_isNaN_12338) (maxL := 1) (ret := some .boolean) (by decide +kernel) rfl ?_
  intro p e s m args below meth c s₁ B hml hv
  obtain ⟨rfl, -⟩ := hv
  have hx := B.exec
  have hb := B.bytes
  have hr := B.returns
  have hts := atoms_spec (ws := wsJxf58ca_isNaN_12338) B.pre
  have hown : s.vm.findClass RJxf58ca = some m.cls := findClass_of_methodNamed B.named
  have hlocks := B.notSynchronized
  have hl := lv_entry ([.float x]) (n := 1) (Nat.le_of_ble_eq_true rfl)
  rw [lg_entry_eq]
  generalize (lg_sl ([.float x]) ++ List.replicate (1 - (lg_sl ([.float x])).length) Slot.unset).toArray = ls at hl ⊢
  have hl : lv_has ls 1 [(0, .float x)] := hl
  refine lv_fload_n hx hb dJxf58ca_isNaN_12338_0 rfl (lv_at hl 0 rfl) ?_
  refine lv_fload_n hx hb dJxf58ca_isNaN_12338_1 rfl (lv_at hl 0 rfl) ?_
  refine lv_fcmp hx hb dJxf58ca_isNaN_12338_2 ?_
  refine lv_if_eq (tgt := 10) hx hb dJxf58ca_isNaN_12338_3 (by decide) (fun c_3 => ?_) (fun h0 => absurd (show Op.cmpValue (FP.fcmp x x) .l = 0 from by rw [show FP.fcmp x x = some .eq from FP.Core.fcmp_refl hnn]; rfl) h0)
  refine lv_iconst (v := 0) hx hb dJxf58ca_isNaN_12338_10 (by decide) ?_
  exact W.zret (v := 0) hx hb hr (by decide) (fun t ht hW => ⟨_, rfl, rfl, ht⟩) (fun q hq => absurd hq List.not_mem_nil) dJxf58ca_isNaN_12338_11
set_option maxHeartbeats 1000000 in
set_option maxRecDepth 100000 in
/-- the bits of a number -/
theorem c_Jxe99ae_doubleToLongBits_ccdee (l : Launch) (x : UInt64) (hnn : FP.Core.dIsNaN x = false) : Met l yJxe99ae_doubleToLongBits_ccdee wsJxe99ae_doubleToLongBits_ccdee ({ frames := 1, cells := 0, slots := 0, locals := 30 }) (va_Pc [.double x] (fun _ => True)) (vp_Sl (fun r => r = x.toInt64)) 0 0 (fun _ => False) := by
  refine Met.ofWF (cc := cJxe99ae_doubleToLongBits_ccdee) (maxL := 2) (ret := some .long) (by decide +kernel) rfl ?_
  intro p e s m args below meth c s₁ B hml hv
  obtain ⟨rfl, -⟩ := hv
  have hx := B.exec
  have hb := B.bytes
  have hr := B.returns
  have hts := atoms_spec (ws := wsJxe99ae_doubleToLongBits_ccdee) B.pre
  have hown : s.vm.findClass RJxe99ae = some m.cls := findClass_of_methodNamed B.named
  have hlocks := B.notSynchronized
  have hl := lv_entry ([.double x]) (n := 2) (Nat.le_of_ble_eq_true rfl)
  rw [lg_entry_eq]
  generalize (lg_sl ([.double x]) ++ List.replicate (2 - (lg_sl ([.double x])).length) Slot.unset).toArray = ls at hl ⊢
  have hl : lv_has ls 2 [(0, .double x)] := hl
  refine lv_dload_n hx hb dJxe99ae_doubleToLongBits_ccdee_0 rfl (lv_at hl 0 rfl) ?_
  refine vp_callSi (va_runS (As := [.double x]) (rest := []) ⟨hx, hb, hml, hown, hts⟩ (c_Jxe99ae_isNaN_b9ae7 l x hnn) (cwS 1 hts gJxe99ae_doubleToLongBits_ccdee_Jxe99ae_isNaN_b9ae7 rfl rfl rfl (by decide +kernel) ⟨Nat.le_of_ble_eq_true rfl, Nat.le_of_ble_eq_true rfl⟩) ⟨fun a U g mk q => q, fun U hU hW => ⟨rfl, trivial⟩⟩ rfl rfl hl.1 rfl (lv_room (Nat.le_of_ble_eq_true rfl)) dJxe99ae_doubleToLongBits_ccdee_1 ⟨Nat.le_of_ble_eq_true rfl, Nat.le_of_ble_eq_true rfl⟩).run (fun r e_r => ?_)
  subst e_r
  refine lv_if_ne (tgt := 12) hx hb dJxe99ae_doubleToLongBits_ccdee_4 (by decide) (fun h0 => absurd h0 (by decide)) (fun _ => ?_)
  refine lv_dload_n hx hb dJxe99ae_doubleToLongBits_ccdee_7 rfl (lv_at hl 0 rfl) ?_
  refine vn_d2l hx hb (hml.trans hl.1.symm) hown (hts (.methodLink RJxe99ae 134 ⟨"java/lang/Double", "doubleToRawLongBits", "(D)J"⟩) (by decide +kernel)) (hts (.native ⟨"java/lang/Double", "doubleToRawLongBits", "(D)J"⟩) (by decide +kernel)) (hts (.static ⟨"java/lang/Double", "doubleToRawLongBits", "(D)J"⟩) (by decide +kernel)) (hts (.initialized "java/lang/Double") (by decide +kernel)) (Nat.le_of_ble_eq_true rfl) (Nat.le_of_ble_eq_true rfl) dJxe99ae_doubleToLongBits_ccdee_8 ?_
  exact W.lret (v := x.toInt64) hx hb hr (fun t ht hW => ⟨_, rfl, rfl, ht⟩) (fun q hq => absurd hq List.not_mem_nil) dJxe99ae_doubleToLongBits_ccdee_11
set_option maxHeartbeats 1000000 in
set_option maxRecDepth 100000 in
/-- the bits of a number -/
theorem c_Jxf58ca_floatToIntBits_5c35a (l : Launch) (x : UInt32) (hnn : FP.Core.fIsNaN x = false) : Met l yJxf58ca_floatToIntBits_5c35a wsJxf58ca_floatToIntBits_5c35a ({ frames := 1, cells := 0, slots := 0, locals := 30 }) (va_Pc [.float x] (fun _ => True)) (vp_Si (fun r => r = x.toInt32)) 0 0 (fun _ => False) := by
  refine Met.ofWF (cc := cJxf58ca_floatToIntBits_5c35a) (maxL := 1) (ret := some .int) (by decide +kernel) rfl ?_
  intro p e s m args below meth c s₁ B hml hv
  obtain ⟨rfl, -⟩ := hv
  have hx := B.exec
  have hb := B.bytes
  have hr := B.returns
  have hts := atoms_spec (ws := wsJxf58ca_floatToIntBits_5c35a) B.pre
  have hown : s.vm.findClass RJxf58ca = some m.cls := findClass_of_methodNamed B.named
  have hlocks := B.notSynchronized
  have hl := lv_entry ([.float x]) (n := 1) (Nat.le_of_ble_eq_true rfl)
  rw [lg_entry_eq]
  generalize (lg_sl ([.float x]) ++ List.replicate (1 - (lg_sl ([.float x])).length) Slot.unset).toArray = ls at hl ⊢
  have hl : lv_has ls 1 [(0, .float x)] := hl
  refine lv_fload_n hx hb dJxf58ca_floatToIntBits_5c35a_0 rfl (lv_at hl 0 rfl) ?_
  refine vp_callSi (va_runS (As := [.float x]) (rest := []) ⟨hx, hb, hml, hown, hts⟩ (c_Jxf58ca_isNaN_12338 l x hnn) (cwS 1 hts gJxf58ca_floatToIntBits_5c35a_Jxf58ca_isNaN_12338 rfl rfl rfl (by decide +kernel) ⟨Nat.le_of_ble_eq_true rfl, Nat.le_of_ble_eq_true rfl⟩) ⟨fun a U g mk q => q, fun U hU hW => ⟨rfl, trivial⟩⟩ rfl rfl hl.1 rfl (lv_room (Nat.le_of_ble_eq_true rfl)) dJxf58ca_floatToIntBits_5c35a_1 ⟨Nat.le_of_ble_eq_true rfl, Nat.le_of_ble_eq_true rfl⟩).run (fun r e_r => ?_)
  subst e_r
  refine lv_if_ne (tgt := 12) hx hb dJxf58ca_floatToIntBits_5c35a_4 (by decide) (fun h0 => absurd h0 (by decide)) (fun _ => ?_)
  refine lv_fload_n hx hb dJxf58ca_floatToIntBits_5c35a_7 rfl (lv_at hl 0 rfl) ?_
  refine vn_f2i hx hb (hml.trans hl.1.symm) hown (hts (.methodLink RJxf58ca 74 ⟨"java/lang/Float", "floatToRawIntBits", "(F)I"⟩) (by decide +kernel)) (hts (.native ⟨"java/lang/Float", "floatToRawIntBits", "(F)I"⟩) (by decide +kernel)) (hts (.static ⟨"java/lang/Float", "floatToRawIntBits", "(F)I"⟩) (by decide +kernel)) (hts (.initialized "java/lang/Float") (by decide +kernel)) (Nat.le_of_ble_eq_true rfl) (Nat.le_of_ble_eq_true rfl) dJxf58ca_floatToIntBits_5c35a_8 ?_
  exact W.iret (v := x.toInt32) hx hb hr (fun t ht hW => ⟨_, rfl, rfl, ht⟩) (fun q hq => absurd hq List.not_mem_nil) dJxf58ca_floatToIntBits_5c35a_11
set_option maxHeartbeats 1000000 in
set_option maxRecDepth 100000 in
/-- the bits, written out -/
theorem c_X4_doubleBits (l : Launch) (x : UInt64) (hpn : pn64 x) : Met l yX4_doubleBits wsX4_doubleBits ({ frames := 0, cells := 0, slots := 0, locals := 0 }) (va_Pc [.double x] (fun _ => True)) (vp_Sl (fun r => r = x.toInt64)) 0 0 (fun _ => False) := by
  refine Met.ofW (cc := cX4_doubleBits) (maxL := 7) (ret := some .long) (by decide) rfl ?_
  intro p e s m args below meth c s₁ B hml hv
  obtain ⟨rfl, -⟩ := hv
  have hx := B.exec
  have hb := B.bytes
  have hr := B.returns
  have hts := atoms_spec (ws := wsX4_doubleBits) B.pre
  have hown : s.vm.findClass RX4 = some m.cls := findClass_of_methodNamed B.named
  have hlocks := B.notSynchronized
  have hl := lv_entry ([.double x]) (n := 7) (Nat.le_of_ble_eq_true rfl)
  rw [lg_entry_eq]
  generalize (lg_sl ([.double x]) ++ List.replicate (7 - (lg_sl ([.double x])).length) Slot.unset).toArray = ls at hl ⊢
  have hl : lv_has ls 7 [(0, .double x)] := hl
  refine lv_dload_n hx hb dX4_doubleBits_0 rfl (lv_at hl 0 rfl) ?_
  refine lv_dconst0 hx hb dX4_doubleBits_1 ?_
  refine lv_dcmp hx hb dX4_doubleBits_2 ?_
  refine lv_if_gt (tgt := 8) hx hb dX4_doubleBits_3 (by decide) (fun c_3 => ?_) (fun c_3 => ?_)
  · obtain ⟨E0, mm, h1, h2, hm, rfl⟩ := pn64_mk hpn ((pn64_0 hpn).mp c_3)
    refine lv_dload_n hx hb dX4_doubleBits_8 rfl (lv_at hl 0 rfl) ?_
    refine lv_dstore_n (lv' := [(2, .double (mk64 E0 mm)), (0, .double (mk64 E0 mm))]) hx hb dX4_doubleBits_9 rfl hl (by decide) rfl (fun ls hl => ?_)
    refine lv_sipush (v := 1023) hx hb dX4_doubleBits_10 (by decide) ?_
    refine lv_istore (lv' := [(4, .int 1023), (2, .double (mk64 E0 mm)), (0, .double (mk64 E0 mm))]) hx hb dX4_doubleBits_13 hl (by decide) rfl (fun ls hl => ?_)
    refine lv_iconst (v := 0) hx hb dX4_doubleBits_15 (by decide) ?_
    refine lv_istore (lv' := [(5, .int 0), (4, .int 1023), (2, .double (mk64 E0 mm)), (0, .double (mk64 E0 mm))]) hx hb dX4_doubleBits_16 hl (by decide) rfl (fun ls hl => ?_)
    have tail81 : ∀  (ls : Array Slot),  lv_has ls 7 [(2, .double (mk64 1023 mm)), (4, .int (nI E0))] → W p l e (headSpec wsX4_doubleBits ({ frames := 0, cells := 0, slots := 0, locals := 0 }) |>.room) s m (([.double (mk64 E0 mm)].toArray)) below meth c s.heap [] 0 0 (MQ below (vp_Sl (fun r => r = (mk64 E0 mm).toInt64)) ([.double (mk64 E0 mm)].toArray) s 0 0 (fun _ => False)) (F0 m 81 ls []) := by
      intro  ls  hl
      refine lv_dload_n hx hb dX4_doubleBits_81 rfl (lv_at hl 0 rfl) ?_
      refine lv_dconst1 hx hb dX4_doubleBits_82 ?_
      refine lv_dsub hx hb dX4_doubleBits_83 (nn64 (frac64 hm).1) ?_
      refine lv_ldc2d hx hb hown (hts (.constantDouble RX4 298 4841369599423283200) (by decide +kernel)) dX4_doubleBits_84 ?_
      refine lv_dmul hx hb dX4_doubleBits_87 (nn64 (frac64 hm).2.1) ?_
      refine lv_d2l hx hb dX4_doubleBits_88 ?_
      refine lv_lstore (lv' := [(5, .long (FP.d2l (FP.dmul (FP.dsub (mk64 1023 mm) FP.dconst1) 4841369599423283200))), (2, .double (mk64 1023 mm)), (4, .int (nI E0))]) hx hb dX4_doubleBits_89 hl (by decide) rfl (fun ls hl => ?_)
      refine lv_iload hx hb dX4_doubleBits_91 (lv_at hl 2 rfl) ?_
      refine lv_i2l hx hb dX4_doubleBits_93 rfl ?_
      refine lv_bipush (v := 52) hx hb dX4_doubleBits_94 (by decide) ?_
      refine lv_lshl hx hb dX4_doubleBits_96 rfl ?_
      refine lv_lload hx hb dX4_doubleBits_97 (lv_at hl 0 rfl) ?_
      refine lv_ladd hx hb dX4_doubleBits_99 ?_
      exact W.lret (v := (((nI E0).toInt64) <<< (Int32.toInt64 52 &&& 63)) + (FP.d2l (FP.dmul (FP.dsub (mk64 1023 mm) FP.dconst1) 4841369599423283200))) hx hb hr (fun t ht hW => ⟨_, rfl, (bits64 (by omega) hm), ht⟩) (fun q hq => absurd hq List.not_mem_nil) dX4_doubleBits_100
    have tail49 : ∀ (E : Nat) (ex : Nat) (ls : Array Slot), ex + E = E0 + 1023 → 1 ≤ E → E ≤ 1023 → lv_has ls 7 [(2, .double (mk64 E mm)), (4, .int (nI ex))] → W p l e (headSpec wsX4_doubleBits ({ frames := 0, cells := 0, slots := 0, locals := 0 }) |>.room) s m (([.double (mk64 E0 mm)].toArray)) below meth c s.heap [] 0 0 (MQ below (vp_Sl (fun r => r = (mk64 E0 mm).toInt64)) ([.double (mk64 E0 mm)].toArray) s 0 0 (fun _ => False)) (F0 m 49 ls []) := by
      intro E ex ls hx8 hE1 hE2 hl
      refine lv_iconst (v := 0) hx hb dX4_doubleBits_49 (by decide) ?_
      refine lv_istore (lv' := [(5, .int 0), (2, .double (mk64 E mm)), (4, .int (nI ex))]) hx hb dX4_doubleBits_50 hl (by decide) rfl (fun ls hl => ?_)
      have loop52 : ∀ (k : Nat) (i : Nat) (E : Nat) (ex : Nat) (ls : Array Slot), ex + E = E0 + 1023 → i + 1 ≤ E → E ≤ 1023 → 1023 < E + k → lv_has ls 7 [(2, .double (mk64 E mm)), (4, .int (nI ex)), (5, .int (nI i))] → W p l e (headSpec wsX4_doubleBits ({ frames := 0, cells := 0, slots := 0, locals := 0 }) |>.room) s m (([.double (mk64 E0 mm)].toArray)) below meth c s.heap [] 0 0 (MQ below (vp_Sl (fun r => r = (mk64 E0 mm).toInt64)) ([.double (mk64 E0 mm)].toArray) s 0 0 (fun _ => False)) (F0 m 52 ls []) := by
        intro k
        induction k with
        | zero =>
          intro i E ex ls hx9 hiE hE2 hk
          exfalso; omega
        | succ k ih52 =>
          intro i E ex ls hx9 hiE hE2 hk hl
          refine lv_iload hx hb dX4_doubleBits_52 (lv_at hl 2 rfl) ?_
          refine lv_sipush (v := 1022) hx hb dX4_doubleBits_54 (by decide) ?_
          refine lv_icmp_ge (tgt := 81) hx hb dX4_doubleBits_57 (by decide) (fun c_57 => ?_) (fun c_57 => ?_)
          · have hEe : E = 1023 := by have := (nI_leI (a := 1022) (b := i) (by omega) (by omega)).mp c_57; omega
            have hxe : ex = E0 := by omega
            rw [hEe, hxe] at hl
            exact tail81  ls  (lv_sub hl [0, 1] rfl)
          · refine lv_dload_n hx hb dX4_doubleBits_60 rfl (lv_at hl 0 rfl) ?_
            refine lv_dconst1 hx hb dX4_doubleBits_61 ?_
            refine lv_dcmp hx hb dX4_doubleBits_62 ?_
            refine lv_if_ge (tgt := 81) hx hb dX4_doubleBits_63 (by decide) (fun c_63 => ?_) (fun c_63 => ?_)
            · have hEe : E = 1023 := by have := (cg1_64 (by omega) (by omega) hm).mp c_63; omega
              have hxe : ex = E0 := by omega
              rw [hEe, hxe] at hl
              exact tail81  ls  (lv_sub hl [0, 1] rfl)
            · have hEl : E < 1023 := by rcases Nat.lt_or_ge E 1023 with h | h; exact h; exact absurd ((cg1_64 (by omega) (by omega) hm).mpr h) c_63
              obtain ⟨ex, rfl⟩ : ∃ z, ex = z + 1 := ⟨ex - 1, by omega⟩
              refine lv_dload_n hx hb dX4_doubleBits_66 rfl (lv_at hl 0 rfl) ?_
              refine lv_ldc2d hx hb hown (hts (.constantDouble RX4 296 4611686018427387904) (by decide +kernel)) dX4_doubleBits_67 ?_
              refine lv_dmul hx hb dX4_doubleBits_70 (nn64 (by rw [show FP.dmul (mk64 E mm) 4611686018427387904 = _ from dbl_mk64 (E := E) (by omega) (by omega) hm]; exact fin_mk64 (by omega) (by omega) hm)) ?_
              refine lv_topd (fun y_ ey_ => ?_)
              obtain rfl : y_ = mk64 (E + 1) mm := ey_.trans (dbl_mk64 (by omega) (by omega) hm)
              refine lv_dstore_n (lv' := [(2, .double (mk64 (E + 1) mm)), (4, .int (nI (ex + 1))), (5, .int (nI i))]) hx hb dX4_doubleBits_71 rfl hl (by decide) rfl (fun ls hl => ?_)
              refine lv_iinc (v := nI ex) (lv' := [(4, .int (nI ex)), (2, .double (mk64 (E + 1) mm)), (5, .int (nI i))]) hx hb dX4_doubleBits_72 hl (k := 1) rfl (nI_m1 _) (by decide) rfl (fun ls hl => ?_)
              refine lv_iinc (v := nI (i + 1)) (lv' := [(5, .int (nI (i + 1))), (4, .int (nI ex)), (2, .double (mk64 (E + 1) mm))]) hx hb dX4_doubleBits_75 hl (k := 2) rfl (nI_1 _) (by decide) rfl (fun ls hl => ?_)
              refine lv_goto (tgt := 52) hx hb dX4_doubleBits_78 (by decide) ?_
              exact ih52 (i + 1) (E + 1) ex ls (by omega) (by omega) (by omega) (by omega) (lv_sub hl [2, 1, 0] rfl)
      exact loop52 1024 0 E ex ls hx8 hE1 hE2 (by omega) (lv_sub hl [1, 2, 0] rfl)
    have loop18 : ∀ (k : Nat) (j : Nat) (E : Nat) (ex : Nat) (ls : Array Slot), j + E = E0 → 1 ≤ E → ex = 1023 + j → (j = 0 ∨ 1023 ≤ E) → E < k → lv_has ls 7 [(2, .double (mk64 E mm)), (4, .int (nI ex)), (5, .int (nI j))] → W p l e (headSpec wsX4_doubleBits ({ frames := 0, cells := 0, slots := 0, locals := 0 }) |>.room) s m (([.double (mk64 E0 mm)].toArray)) below meth c s.heap [] 0 0 (MQ below (vp_Sl (fun r => r = (mk64 E0 mm).toInt64)) ([.double (mk64 E0 mm)].toArray) s 0 0 (fun _ => False)) (F0 m 18 ls []) := by
      intro k
      induction k with
      | zero =>
        intro j E ex ls hj hE1 hx9 hEB hk
        exfalso; omega
      | succ k ih18 =>
        intro j E ex ls hj hE1 hx9 hEB hk hl
        refine lv_iload hx hb dX4_doubleBits_18 (lv_at hl 2 rfl) ?_
        refine lv_sipush (v := 1023) hx hb dX4_doubleBits_20 (by decide) ?_
        refine lv_icmp_ge (tgt := 49) hx hb dX4_doubleBits_23 (by decide) (fun c_23 => ?_) (fun c_23 => ?_)
        · have hEt : E ≤ 1023 := by have := (nI_leI (a := 1023) (b := j) (by omega) (by omega)).mp c_23; omega
          exact tail49 _ _ ls (by omega) (by omega) hEt (lv_sub hl [0, 1] rfl)
        · refine lv_dload_n hx hb dX4_doubleBits_26 rfl (lv_at hl 0 rfl) ?_
          refine lv_ldc2d hx hb hown (hts (.constantDouble RX4 296 4611686018427387904) (by decide +kernel)) dX4_doubleBits_27 ?_
          refine lv_dcmp hx hb dX4_doubleBits_30 ?_
          refine lv_if_lt (tgt := 49) hx hb dX4_doubleBits_31 (by decide) (fun c_31 => ?_) (fun c_31 => ?_)
          · have hEt : E ≤ 1023 := by have := (cl2_64 hE1 (by omega) hm).mp c_31; omega
            exact tail49 _ _ ls (by omega) (by omega) hEt (lv_sub hl [0, 1] rfl)
          · have hEg : 1024 ≤ E := by rcases Nat.lt_or_ge E 1024 with h | h; exact absurd ((cl2_64 hE1 (by omega) hm).mpr h) c_31; exact h
            refine lv_dload_n hx hb dX4_doubleBits_34 rfl (lv_at hl 0 rfl) ?_
            refine lv_ldc2d hx hb hown (hts (.constantDouble RX4 296 4611686018427387904) (by decide +kernel)) dX4_doubleBits_35 ?_
            refine lv_ddiv hx hb dX4_doubleBits_38 (nn64 (by rw [show FP.ddiv (mk64 E mm) 4611686018427387904 = _ from half_mk64 (E := E) (by omega) (by omega) hm]; exact fin_mk64 (by omega) (by omega) hm)) ?_
            refine lv_topd (fun y_ ey_ => ?_)
            obtain rfl : y_ = mk64 (E - 1) mm := ey_.trans (half_mk64 (by omega) (by omega) hm)
            refine lv_dstore_n (lv' := [(2, .double (mk64 (E - 1) mm)), (4, .int (nI ex)), (5, .int (nI j))]) hx hb dX4_doubleBits_39 rfl hl (by decide) rfl (fun ls hl => ?_)
            refine lv_iinc (v := nI (ex + 1)) (lv' := [(4, .int (nI (ex + 1))), (2, .double (mk64 (E - 1) mm)), (5, .int (nI j))]) hx hb dX4_doubleBits_40 hl (k := 1) rfl (nI_1 _) (by decide) rfl (fun ls hl => ?_)
            refine lv_iinc (v := nI (j + 1)) (lv' := [(5, .int (nI (j + 1))), (4, .int (nI (ex + 1))), (2, .double (mk64 (E - 1) mm))]) hx hb dX4_doubleBits_43 hl (k := 2) rfl (nI_1 _) (by decide) rfl (fun ls hl => ?_)
            refine lv_goto (tgt := 18) hx hb dX4_doubleBits_46 (by decide) ?_
            exact ih18 (j + 1) (E - 1) (ex + 1) ls (by omega) (by omega) (by omega) (by omega) (by omega) (lv_sub hl [2, 1, 0] rfl)
    exact loop18 (E0 + 1) 0 E0 1023 ls (by omega) h1 rfl (Or.inl rfl) (by omega) (lv_sub hl [2, 1, 0] rfl)
  · have hz : x = 0 := Decidable.not_not.mp (fun h => c_3 ((pn64_0 hpn).mpr h))
    refine lv_lconst (v := 0) hx hb dX4_doubleBits_6 (by decide) ?_
    exact W.lret (v := 0) hx hb hr (fun t ht hW => ⟨_, rfl, (by rw [hz]; rfl), ht⟩) (fun q hq => absurd hq List.not_mem_nil) dX4_doubleBits_7
set_option maxHeartbeats 1000000 in
set_option maxRecDepth 100000 in
/-- the bits, written out -/
theorem c_X4_floatBits (l : Launch) (x : UInt32) (hpn : pn32 x) : Met l yX4_floatBits wsX4_floatBits ({ frames := 0, cells := 0, slots := 0, locals := 0 }) (va_Pc [.float x] (fun _ => True)) (vp_Si (fun r => r = x.toInt32)) 0 0 (fun _ => False) := by
  refine Met.ofW (cc := cX4_floatBits) (maxL := 4) (ret := some .int) (by decide) rfl ?_
  intro p e s m args below meth c s₁ B hml hv
  obtain ⟨rfl, -⟩ := hv
  have hx := B.exec
  have hb := B.bytes
  have hr := B.returns
  have hts := atoms_spec (ws := wsX4_floatBits) B.pre
  have hown : s.vm.findClass RX4 = some m.cls := findClass_of_methodNamed B.named
  have hlocks := B.notSynchronized
  have hl := lv_entry ([.float x]) (n := 4) (Nat.le_of_ble_eq_true rfl)
  rw [lg_entry_eq]
  generalize (lg_sl ([.float x]) ++ List.replicate (4 - (lg_sl ([.float x])).length) Slot.unset).toArray = ls at hl ⊢
  have hl : lv_has ls 4 [(0, .float x)] := hl
  refine lv_fload_n hx hb dX4_floatBits_0 rfl (lv_at hl 0 rfl) ?_
  refine lv_fconst0 hx hb dX4_floatBits_1 ?_
  refine lv_fcmp hx hb dX4_floatBits_2 ?_
  refine lv_if_gt (tgt := 8) hx hb dX4_floatBits_3 (by decide) (fun c_3 => ?_) (fun c_3 => ?_)
  · obtain ⟨E0, mm, h1, h2, hm, rfl⟩ := pn32_mk hpn ((pn32_0 hpn).mp c_3)
    refine lv_fload_n hx hb dX4_floatBits_8 rfl (lv_at hl 0 rfl) ?_
    refine lv_fstore_n (lv' := [(1, .float (mk32 E0 mm)), (0, .float (mk32 E0 mm))]) hx hb dX4_floatBits_9 rfl hl (by decide) rfl (fun ls hl => ?_)
    refine lv_bipush (v := 127) hx hb dX4_floatBits_10 (by decide) ?_
    refine lv_istore_n (lv' := [(2, .int 127), (1, .float (mk32 E0 mm)), (0, .float (mk32 E0 mm))]) hx hb dX4_floatBits_12 rfl hl (by decide) rfl (fun ls hl => ?_)
    refine lv_iconst (v := 0) hx hb dX4_floatBits_13 (by decide) ?_
    refine lv_istore_n (lv' := [(3, .int 0), (2, .int 127), (1, .float (mk32 E0 mm)), (0, .float (mk32 E0 mm))]) hx hb dX4_floatBits_14 rfl hl (by decide) rfl (fun ls hl => ?_)
    have tail67 : ∀  (ls : Array Slot),  lv_has ls 4 [(1, .float (mk32 127 mm)), (2, .int (nI E0))] → W p l e (headSpec wsX4_floatBits ({ frames := 0, cells := 0, slots := 0, locals := 0 }) |>.room) s m (([.float (mk32 E0 mm)].toArray)) below meth c s.heap [] 0 0 (MQ below (vp_Si (fun r => r = (mk32 E0 mm).toInt32)) ([.float (mk32 E0 mm)].toArray) s 0 0 (fun _ => False)) (F0 m 67 ls []) := by
      intro  ls  hl
      refine lv_fload_n hx hb dX4_floatBits_67 rfl (lv_at hl 0 rfl) ?_
      refine lv_fconst1 hx hb dX4_floatBits_68 ?_
      refine lv_fsub hx hb dX4_floatBits_69 (nn32 (frac32 hm).1) ?_
      refine lv_ldcwf hx hb hown (hts (.constantFloat RX4 300 1258291200) (by decide +kernel)) dX4_floatBits_70 ?_
      refine lv_fmul hx hb dX4_floatBits_73 (nn32 (frac32 hm).2.1) ?_
      refine lv_f2i hx hb dX4_floatBits_74 ?_
      refine lv_istore_n (lv' := [(3, .int (FP.f2i (FP.fmul (FP.fsub (mk32 127 mm) FP.fconst1) 1258291200))), (1, .float (mk32 127 mm)), (2, .int (nI E0))]) hx hb dX4_floatBits_75 rfl hl (by decide) rfl (fun ls hl => ?_)
      refine lv_iload_n hx hb dX4_floatBits_76 rfl (lv_at hl 2 rfl) ?_
      refine lv_bipush (v := 23) hx hb dX4_floatBits_77 (by decide) ?_
      refine lv_ishl hx hb dX4_floatBits_79 ?_
      refine lv_iload_n hx hb dX4_floatBits_80 rfl (lv_at hl 0 rfl) ?_
      refine lv_iadd hx hb dX4_floatBits_81 ?_
      exact W.iret (v := ((nI E0) <<< (23 &&& 31)) + (FP.f2i (FP.fmul (FP.fsub (mk32 127 mm) FP.fconst1) 1258291200))) hx hb hr (fun t ht hW => ⟨_, rfl, (bits32 (by omega) hm), ht⟩) (fun q hq => absurd hq List.not_mem_nil) dX4_floatBits_82
    have tail40 : ∀ (E : Nat) (ex : Nat) (ls : Array Slot), ex + E = E0 + 127 → 1 ≤ E → E ≤ 127 → lv_has ls 4 [(1, .float (mk32 E mm)), (2, .int (nI ex))] → W p l e (headSpec wsX4_floatBits ({ frames := 0, cells := 0, slots := 0, locals := 0 }) |>.room) s m (([.float (mk32 E0 mm)].toArray)) below meth c s.heap [] 0 0 (MQ below (vp_Si (fun r => r = (mk32 E0 mm).toInt32)) ([.float (mk32 E0 mm)].toArray) s 0 0 (fun _ => False)) (F0 m 40 ls []) := by
      intro E ex ls hx8 hE1 hE2 hl
      refine lv_iconst (v := 0) hx hb dX4_floatBits_40 (by decide) ?_
      refine lv_istore_n (lv' := [(3, .int 0), (1, .float (mk32 E mm)), (2, .int (nI ex))]) hx hb dX4_floatBits_41 rfl hl (by decide) rfl (fun ls hl => ?_)
      have loop42 : ∀ (k : Nat) (i : Nat) (E : Nat) (ex : Nat) (ls : Array Slot), ex + E = E0 + 127 → i + 1 ≤ E → E ≤ 127 → 127 < E + k → lv_has ls 4 [(1, .float (mk32 E mm)), (2, .int (nI ex)), (3, .int (nI i))] → W p l e (headSpec wsX4_floatBits ({ frames := 0, cells := 0, slots := 0, locals := 0 }) |>.room) s m (([.float (mk32 E0 mm)].toArray)) below meth c s.heap [] 0 0 (MQ below (vp_Si (fun r => r = (mk32 E0 mm).toInt32)) ([.float (mk32 E0 mm)].toArray) s 0 0 (fun _ => False)) (F0 m 42 ls []) := by
        intro k
        induction k with
        | zero =>
          intro i E ex ls hx9 hiE hE2 hk
          exfalso; omega
        | succ k ih42 =>
          intro i E ex ls hx9 hiE hE2 hk hl
          refine lv_iload_n hx hb dX4_floatBits_42 rfl (lv_at hl 2 rfl) ?_
          refine lv_bipush (v := 126) hx hb dX4_floatBits_43 (by decide) ?_
          refine lv_icmp_ge (tgt := 67) hx hb dX4_floatBits_45 (by decide) (fun c_45 => ?_) (fun c_45 => ?_)
          · have hEe : E = 127 := by have := (nI_leI (a := 126) (b := i) (by omega) (by omega)).mp c_45; omega
            have hxe : ex = E0 := by omega
            rw [hEe, hxe] at hl
            exact tail67  ls  (lv_sub hl [0, 1] rfl)
          · refine lv_fload_n hx hb dX4_floatBits_48 rfl (lv_at hl 0 rfl) ?_
            refine lv_fconst1 hx hb dX4_floatBits_49 ?_
            refine lv_fcmp hx hb dX4_floatBits_50 ?_
            refine lv_if_ge (tgt := 67) hx hb dX4_floatBits_51 (by decide) (fun c_51 => ?_) (fun c_51 => ?_)
            · have hEe : E = 127 := by have := (cg1_32 (by omega) (by omega) hm).mp c_51; omega
              have hxe : ex = E0 := by omega
              rw [hEe, hxe] at hl
              exact tail67  ls  (lv_sub hl [0, 1] rfl)
            · have hEl : E < 127 := by rcases Nat.lt_or_ge E 127 with h | h; exact h; exact absurd ((cg1_32 (by omega) (by omega) hm).mpr h) c_51
              obtain ⟨ex, rfl⟩ : ∃ z, ex = z + 1 := ⟨ex - 1, by omega⟩
              refine lv_fload_n hx hb dX4_floatBits_54 rfl (lv_at hl 0 rfl) ?_
              refine lv_fconst2 hx hb dX4_floatBits_55 ?_
              refine lv_fmul hx hb dX4_floatBits_56 (nn32 (by rw [show FP.fmul (mk32 E mm) FP.fconst2 = _ from dbl_mk32 (E := E) (by omega) (by omega) hm]; exact fin_mk32 (by omega) (by omega) hm)) ?_
              refine lv_topf (fun y_ ey_ => ?_)
              obtain rfl : y_ = mk32 (E + 1) mm := ey_.trans (dbl_mk32 (by omega) (by omega) hm)
              refine lv_fstore_n (lv' := [(1, .float (mk32 (E + 1) mm)), (2, .int (nI (ex + 1))), (3, .int (nI i))]) hx hb dX4_floatBits_57 rfl hl (by decide) rfl (fun ls hl => ?_)
              refine lv_iinc (v := nI ex) (lv' := [(2, .int (nI ex)), (1, .float (mk32 (E + 1) mm)), (3, .int (nI i))]) hx hb dX4_floatBits_58 hl (k := 1) rfl (nI_m1 _) (by decide) rfl (fun ls hl => ?_)
              refine lv_iinc (v := nI (i + 1)) (lv' := [(3, .int (nI (i + 1))), (2, .int (nI ex)), (1, .float (mk32 (E + 1) mm))]) hx hb dX4_floatBits_61 hl (k := 2) rfl (nI_1 _) (by decide) rfl (fun ls hl => ?_)
              refine lv_goto (tgt := 42) hx hb dX4_floatBits_64 (by decide) ?_
              exact ih42 (i + 1) (E + 1) ex ls (by omega) (by omega) (by omega) (by omega) (lv_sub hl [2, 1, 0] rfl)
      exact loop42 128 0 E ex ls hx8 hE1 hE2 (by omega) (lv_sub hl [1, 2, 0] rfl)
    have loop15 : ∀ (k : Nat) (j : Nat) (E : Nat) (ex : Nat) (ls : Array Slot), j + E = E0 → 1 ≤ E → ex = 127 + j → (j = 0 ∨ 127 ≤ E) → E < k → lv_has ls 4 [(1, .float (mk32 E mm)), (2, .int (nI ex)), (3, .int (nI j))] → W p l e (headSpec wsX4_floatBits ({ frames := 0, cells := 0, slots := 0, locals := 0 }) |>.room) s m (([.float (mk32 E0 mm)].toArray)) below meth c s.heap [] 0 0 (MQ below (vp_Si (fun r => r = (mk32 E0 mm).toInt32)) ([.float (mk32 E0 mm)].toArray) s 0 0 (fun _ => False)) (F0 m 15 ls []) := by
      intro k
      induction k with
      | zero =>
        intro j E ex ls hj hE1 hx9 hEB hk
        exfalso; omega
      | succ k ih15 =>
        intro j E ex ls hj hE1 hx9 hEB hk hl
        refine lv_iload_n hx hb dX4_floatBits_15 rfl (lv_at hl 2 rfl) ?_
        refine lv_bipush (v := 127) hx hb dX4_floatBits_16 (by decide) ?_
        refine lv_icmp_ge (tgt := 40) hx hb dX4_floatBits_18 (by decide) (fun c_18 => ?_) (fun c_18 => ?_)
        · have hEt : E ≤ 127 := by have := (nI_leI (a := 127) (b := j) (by omega) (by omega)).mp c_18; omega
          exact tail40 _ _ ls (by omega) (by omega) hEt (lv_sub hl [0, 1] rfl)
        · refine lv_fload_n hx hb dX4_floatBits_21 rfl (lv_at hl 0 rfl) ?_
          refine lv_fconst2 hx hb dX4_floatBits_22 ?_
          refine lv_fcmp hx hb dX4_floatBits_23 ?_
          refine lv_if_lt (tgt := 40) hx hb dX4_floatBits_24 (by decide) (fun c_24 => ?_) (fun c_24 => ?_)
          · have hEt : E ≤ 127 := by have := (cl2_32 hE1 (by omega) hm).mp c_24; omega
            exact tail40 _ _ ls (by omega) (by omega) hEt (lv_sub hl [0, 1] rfl)
          · have hEg : 128 ≤ E := by rcases Nat.lt_or_ge E 128 with h | h; exact absurd ((cl2_32 hE1 (by omega) hm).mpr h) c_24; exact h
            refine lv_fload_n hx hb dX4_floatBits_27 rfl (lv_at hl 0 rfl) ?_
            refine lv_fconst2 hx hb dX4_floatBits_28 ?_
            refine lv_fdiv hx hb dX4_floatBits_29 (nn32 (by rw [show FP.fdiv (mk32 E mm) FP.fconst2 = _ from half_mk32 (E := E) (by omega) (by omega) hm]; exact fin_mk32 (by omega) (by omega) hm)) ?_
            refine lv_topf (fun y_ ey_ => ?_)
            obtain rfl : y_ = mk32 (E - 1) mm := ey_.trans (half_mk32 (by omega) (by omega) hm)
            refine lv_fstore_n (lv' := [(1, .float (mk32 (E - 1) mm)), (2, .int (nI ex)), (3, .int (nI j))]) hx hb dX4_floatBits_30 rfl hl (by decide) rfl (fun ls hl => ?_)
            refine lv_iinc (v := nI (ex + 1)) (lv' := [(2, .int (nI (ex + 1))), (1, .float (mk32 (E - 1) mm)), (3, .int (nI j))]) hx hb dX4_floatBits_31 hl (k := 1) rfl (nI_1 _) (by decide) rfl (fun ls hl => ?_)
            refine lv_iinc (v := nI (j + 1)) (lv' := [(3, .int (nI (j + 1))), (2, .int (nI (ex + 1))), (1, .float (mk32 (E - 1) mm))]) hx hb dX4_floatBits_34 hl (k := 2) rfl (nI_1 _) (by decide) rfl (fun ls hl => ?_)
            refine lv_goto (tgt := 15) hx hb dX4_floatBits_37 (by decide) ?_
            exact ih15 (j + 1) (E - 1) (ex + 1) ls (by omega) (by omega) (by omega) (by omega) (by omega) (lv_sub hl [2, 1, 0] rfl)
    exact loop15 (E0 + 1) 0 E0 127 ls (by omega) h1 rfl (Or.inl rfl) (by omega) (lv_sub hl [2, 1, 0] rfl)
  · have hz : x = 0 := Decidable.not_not.mp (fun h => c_3 ((pn32_0 hpn).mpr h))
    refine lv_iconst (v := 0) hx hb dX4_floatBits_6 (by decide) ?_
    exact W.iret (v := 0) hx hb hr (fun t ht hW => ⟨_, rfl, (by rw [hz]; rfl), ht⟩) (fun q hq => absurd hq List.not_mem_nil) dX4_floatBits_7

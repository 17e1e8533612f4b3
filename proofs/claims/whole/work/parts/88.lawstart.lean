/-! PART 88: the law's start -/
theorem sf_nestF : ∀ x ∈ nestF, Cond.fieldLinkNest x.1 x.2.1 x.2.2.1 x.2.2.2.1 x.2.2.2.2.1 x.2.2.2.2.2 ∈ lw_tbl := by decide +kernel
theorem sf_nestM : ∀ x ∈ nestM, Cond.methodLinkNest x.1 x.2.1 x.2.2.1 x.2.2.2 ∈ lw_tbl := by decide +kernel
theorem sf_cast : ∀ E ∈ exL, Cond.castable E E ∈ lw_tbl := by decide +kernel
theorem sf_decl : ∀ Y ∈ decL, Cond.declares (Bundle.initS Y) ∈ lw_tbl := by decide +kernel
theorem sf_str : ∀ x ∈ strL, Cond.stringRef RX4 x.1 x.2 ∈ lw_tbl := by decide +kernel
theorem sf_strN : ∀ x ∈ strL, Cond.exactly (.string RX4 x.1) "java/lang/String" ∈ flatC (Jvm.Cond.and given_1 narrow_1) := by decide +kernel
theorem sf_nc : ∀ x ∈ ncL, Cond.not (.castable x.1 x.2) ∈ flatC (Jvm.Cond.and given_1 narrow_1) := by decide +kernel
theorem sf_arr {s : State} {A : Array Value} {t : FieldType} (h : (Cond.arrayClass t).before A s = true) : ∃ cA, ArrOfT s cA t ∧ s.vm.findClass ("[" ++ t.toString) = some cA := by
  obtain ⟨cA, kA, comp, h1, h2, h3⟩ := Cond.arrayClass_spec h
  exact ⟨cA, fun n z => ⟨fun k h => (by cases h), kA, h2, comp, h3⟩, h1⟩
theorem ao_spec {args : Array Value} {s : State} {t : FieldType} (h : (Cond.arrayOver (.array t)).before args s = true) : ∃ comp c k, s.vm.findClass (FieldType.array t).toString = some comp ∧ s.vm.classes[c]? = some k ∧ k.kind = .array comp (.array t) ∧ s.vm.findClass ("[" ++ (FieldType.array t).toString) = some c := Cond.arrayOver_specA h
theorem sf_K {s : State} {b : Nat} (hts : ∀ w ∈ lw_tbl, w.before #[Value.ref b] s = true) : ∃ (dC : Nat → ClassId) (dI : Nat → Nat → Nat), ∀ (k : Nat) (q : vw_C), vwCl[k]? = some q → u_Kn s q.1 q.2.1 q.2.2 (dC k) (dI k) := by
  obtain ⟨c0, i0, h0⟩ := u_known (C := RX0) (T := TX0) (N := 9) (n := 9) hts inX0 (hts (.instantiable RX0 9) (by decide +kernel))
  obtain ⟨c1, i1, h1⟩ := u_known (C := RX1) (T := TX1) (N := 3) (n := 3) hts inX1 (hts (.instantiable RX1 3) (by decide +kernel))
  obtain ⟨c2, i2, h2⟩ := u_known (C := RX2) (T := TX2) (N := 15) (n := 15) hts inX2 (hts (.instantiable RX2 15) (by decide +kernel))
  obtain ⟨c3, i3, h3⟩ := u_known (C := RX3) (T := TX3) (N := 4) (n := 4) hts inX3 (hts (.instantiable RX3 4) (by decide +kernel))
  obtain ⟨c4, i4, h4⟩ := u_known (C := RX4) (T := TX4) (N := 12) (n := 12) hts inX4 (hts (.instantiable RX4 12) (by decide +kernel))
  obtain ⟨c5, i5, h5⟩ := u_known (C := RX5) (T := TX5) (N := 32) (n := 32) hts inX5 (hts (.instantiable RX5 32) (by decide +kernel))
  refine ⟨fun k => if k = 0 then c0 else if k = 1 then c1 else if k = 2 then c2 else if k = 3 then c3 else if k = 4 then c4 else c5, fun k => if k = 0 then i0 else if k = 1 then i1 else if k = 2 then i2 else if k = 3 then i3 else if k = 4 then i4 else i5, ?_⟩
  intro k q hq
  match k, hq with
  | 0, hq => cases hq; exact h0
  | 1, hq => cases hq; exact h1
  | 2, hq => cases hq; exact h2
  | 3, hq => cases hq; exact h3
  | 4, hq => cases hq; exact h4
  | 5, hq => cases hq; exact h5
  | k + 6, hq => simp [vwCl] at hq
theorem sf_T {s : State} {b : Nat} (hts : ∀ w ∈ lw_tbl, w.before #[Value.ref b] s = true) : ∃ cy : Nat → ClassId, ∀ (k : Nat) (q : ClassId × FieldType), (tysL cy)[k]? = some q → ArrOfT s q.1 q.2 ∧ va_RA s q.1 q.2 := by
  obtain ⟨a0, g0, f0⟩ := sf_arr (hts (.arrayClass .int) (by decide +kernel))
  obtain ⟨a3, g3, f3⟩ := sf_arr (hts (.arrayClass .long) (by decide +kernel))
  obtain ⟨a4, g4, f4⟩ := sf_arr (hts (.arrayClass .double) (by decide +kernel))
  obtain ⟨p1, a1, k1, x1, x2, x3, x4, x5⟩ := Cond.arrayOver_spec (hts (.arrayOver (.object "DeadlineAdmission$Configuration")) (by decide +kernel))
  obtain ⟨p2, a2, k2, y1, y3, y4, y5⟩ := ao_spec (hts (.arrayOver (.array .int)) (by decide +kernel))
  refine ⟨fun k => if k = 0 then a0 else if k = 1 then a1 else if k = 2 then a2 else if k = 3 then a3 else a4, ?_⟩
  intro k q hq
  match k, hq with
  | 0, hq => cases hq; exact ⟨g0, f0⟩
  | 1, hq => cases hq; exact ⟨fun N z => ⟨(fun k h => by cases h), k1, x3, p1, x4⟩, k1, p1, x3, x4, x1, x5⟩
  | 2, hq => cases hq; exact ⟨fun N z => ⟨(fun k h => by cases h), k2, y3, p2, y4⟩, y5⟩
  | 3, hq => cases hq; exact ⟨g3, f3⟩
  | 4, hq => cases hq; exact ⟨g4, f4⟩
  | k + 5, hq => simp at hq
theorem start_facts {s : State} {b : Nat} (hts : ∀ w ∈ lw_tbl, w.before #[Value.ref b] s = true) (hgv : (Jvm.Cond.and given_1 narrow_1).before #[Value.ref b] s = true) : ∃ (dC : Nat → ClassId) (dI : Nat → Nat → Nat) (cy : Nat → ClassId), EV dC dI cy s ∧ XV s ∧ ZQ (AL s) s s.heap ∧ CV s ∧ NA s := by
  have hs := flat_of_before _ hgv
  obtain ⟨dC, dI, hK1⟩ := sf_K hts
  obtain ⟨cy, hK2⟩ := sf_T hts
  refine ⟨dC, dI, cy, ⟨⟨hK1, hK2⟩, fun x hx => va_Nw.of rfl (hts _ (sf_nestF x hx)), fun x hx => va_Nw.of rfl (hts _ (sf_nestM x hx))⟩, ⟨fun E hE => va_Nw.of rfl (hts _ (sf_cast E hE)), fun x hx => ?_, fun Y hY => va_Nw.of rfl (hts _ (sf_decl Y hY))⟩, ⟨?_, ?_⟩, fun x hx => va_Nc.of (hs _ (sf_nc x hx)), ⟨va_AO.of (hts (.arrayOver (.object "DeadlineAdmission$Configuration")) (by decide +kernel)), va_AOA.of (hts (.arrayOver (.array .int)) (by decide +kernel))⟩⟩
  · obtain ⟨sa, _, _, _, h1, _⟩ := Cond.exactly_spec (hs _ (sf_strN x hx))
    exact ⟨sa, vk_R.of (hts _ (sf_str x hx)) h1⟩
  · exact vx_Zqof (hts (.laysStatic Bundle.tN "UNASSIGNED_STACK" Bundle.steD) (by decide +kernel)) (hts (.initialized Bundle.tN) (by decide +kernel)) (hs (.isRef (.static Bundle.tN "UNASSIGNED_STACK" Bundle.steD)) (by decide +kernel)) (fun a ha => Nat.not_le.mpr ha)
  · exact vx_Zqof (hts (.laysStatic Bundle.tN "SUPPRESSED_SENTINEL" Bundle.listD) (by decide +kernel)) (hts (.initialized Bundle.tN) (by decide +kernel)) (hs (.isRef (.static Bundle.tN "SUPPRESSED_SENTINEL" Bundle.listD)) (by decide +kernel)) (fun a ha => Nat.not_le.mpr ha)

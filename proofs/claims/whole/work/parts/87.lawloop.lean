/-! PART 87: the law: its loop -/
/-! THE CLAIM OUT OF ONE WALK OF THE LAW'S BODY. Your part is whole_start (and what it stands on); all else here is the same for every law, but numbers. -/
def R_law : String := "DeadlineAdmissionLaw"
def lw_P (b : Addr) (xs : List Int32) (args : Array Value) (s : State) : Prop := args = #[.ref b] ∧ s.IntsAt b xs ∧ xs.length ≤ 3584 ∧ (Jvm.Cond.and given_1 narrow_1).before args s = true
/-- what a walk over the start with the record d0 says of its end, said of the start itself -/
theorem lw_closed {s t : State} {o : Outcome} {d0 : Drawn} {L : List Loc} {k n : Nat} (hd0 : s.drawn.sameBut d0 lw_cs) (hv : ∃ v, o = .returned v) (hW : (s.setDrawn d0).WarmedH t.vm) (hs : (s.setDrawn d0).sameButNew ({ t with vm := s.vm } : State) L k n) : State.butDraws s t lw_cs (fun t1 => Framed s o t1 L k n) := by
  have h2 : t.drawn = d0 := congrArg State.drawn hs.1
  refine ⟨⟨hv, hW, State.sameButNew.setDrawn hs s.drawn⟩, ?_, by decide⟩
  rw [h2]
  exact hd0
def lw_Q (_ : Array Value) (s : State) (o : Outcome) (t : State) : Prop := o = .returned (some (.int 1)) ∧ State.butDraws s t lw_cs (fun t1 => Framed s o t1 [] 601024 7293034)
def lw_Z (below : List Frame) (a : Array Value) (s : State) : State → Prop := fun t => ∃ o, t.status = .running ∧ Ended t below o ∧ lw_Q a s o t
/-- the law's own end, with 1 on the stack, nothing written that was there before, its room as the claim has it; d0: the record of draws at this point (at the entry s.drawn: begin with 'refine W.base ?_' and 'have hd0 := Drawn.sameBut.refl s.drawn lw_cs') -/
theorem lw_ret {p : Program} {l : Launch} {e : Env} {s : State} {m : MethodId} {below : List Frame} {meth : Method} {c : Code} {b : Nat} {d0 : Drawn} (hd0 : s.drawn.sameBut d0 lw_cs) (hx : p.tables.exec = Jvm.exec) (hb : c.code = code) (hr : meth.sig.returnType = ret) (hlocks : meth.locks = false) {pc : Nat} {H : Heap} {ls : Array Slot} (hdg : decode code pc = .ok (.ireturn, 1)) : W p l e room_1 (s.setDrawn d0) m #[Value.ref b] below meth c H [] 601024 7293034 (lw_Z below #[Value.ref b] s) (F0 m pc ls [.int 1]) := by
  intro T hT X
  obtain ⟨fs, hret, hrun, hended, hW, hframe⟩ := X.leave (v := some (.int 1)) (hlocks := hlocks) (fun h => by rw [hr] at h; cases h)
  have hmeth' : T.vm.method? m = some meth := X.method'
  refine ⟨T.setFrames fs, ?_, .returned (some (.int 1)), hrun, hended, rfl, lw_closed hd0 ⟨_, rfl⟩ hW hframe⟩
  jvm_step X.here [X.here.top, hx, hb, hdg, hmeth', hr, ret, narrow_b1]
  (try refine ⟨rfl, ?_⟩); (try refine ⟨rfl, ?_⟩)
  first | (intro acts; rw [hret _ acts rfl rfl rfl]) | rw [hret _ _ rfl rfl rfl]
  exact Steps.refl _
/-- what holds at the law's entry: the machine, the code, the tables' words (any of lw_tbl by 'hts w (by decide +kernel)'), the script of L ints xs at the cell b, what the Statement gives of the start (any of its parts by flat_of_before) -/
def lw_At (p : Program) (s : State) (m : MethodId) (meth : Method) (c : Code) (b L : Nat) (xs : Nat → Int32) : Prop :=
  p.tables.exec = Jvm.exec ∧ c.code = code ∧ meth.sig.returnType = ret ∧ c.maxLocals = 9 ∧ s.vm.findClass R_law = some m.cls ∧ (∀ w ∈ lw_tbl, w.before #[Value.ref b] s = true) ∧ va_X b L xs s s.heap ∧ b < s.heap.size ∧ meth.locks = false ∧ (Jvm.Cond.and given_1 narrow_1).before #[Value.ref b] s = true
theorem loop_cond {Lx j : Nat} (hLx : Lx ≤ 3584) (hj : 7 * j ≤ 4000) (h : ¬ nI Lx - 7 < nI (7 * j)) : 7 * j + 7 ≤ Lx := by
  rcases Nat.lt_or_ge Lx 7 with q | q
  · exfalso
    apply h
    have h1 : nI Lx - nI 7 < 0 := pk_sneg (by omega) q
    have h2 : (0 : Int32) ≤ nI (7 * j) := nI_pos' (by omega)
    exact Int32.lt_of_lt_of_le h1 h2
  · have e : nI Lx - 7 = nI (Lx - 7) := pk_sub (b := 7) q
    rw [e] at h
    rcases Nat.lt_or_ge (Lx - 7) (7 * j) with z | z
    · exact absurd (nI_lt z (by omega)) h
    · omega
set_option maxHeartbeats 4000000 in
set_option maxRecDepth 100000 in
theorem law_loop {p : Program} {l : Launch} {e : Env} {s : State} {m : MethodId} {below : List Frame} {meth : Method} {c : Code} {b Lx : Nat} {xs : Nat → Int32} {dC : Nat → ClassId} {dI : Nat → Nat → Nat} {cy : Nat → ClassId} (C : LCx p l s m meth c b Lx xs dC dI cy) (hr : meth.sig.returnType = ret) (hlocks : meth.locks = false) (hLx : Lx ≤ 3584) {κ : KA} {ol od m0 : Nat} {a : Nat → Nat} :
    ∀ (k j cells slots : Nat) (σ : CS) (I : Nat → Int32) (R : vG) (y : Int64) (yd : UInt64) (H : Heap) (locs : List Loc) (ls : Array Slot), Lx < 7 * (j + k) → j ≤ 512 → cells ≤ 200 + 3 * j → slots ≤ 20000 + 18 * j → Rel σ I R → LB dC dI cy κ ol od m0 a s σ I R y yd H locs → lv_has ls 9 (LV κ ol od m0 b j) → W p l e room_1 s m #[Value.ref b] below meth c H locs cells slots (lw_Z below #[Value.ref b] s) (F0 m 28 ls []) := by
  have hC := C
  obtain ⟨hx, hb, hml, hown, hts, hX0, hbl, hE, hXV, hZ, hV, hst⟩ := hC
  have hbA : ¬ AL s b := Nat.not_le.mpr hbl
  intro k
  induction k with
  | zero =>
    intro j cells slots σ I R y yd H locs ls h1 h2 h3 h4 hR hLB hl
    refine lv_iload hx hb dL_law_28 (lv_at hl 0 rfl) ?_
    refine lv_aload_n hx hb dL_law_30 rfl (lv_at hl 5 rfl) ?_
    refine va_slen hx hb hX0 hbl hbA hLB.2.2 dL_law_31 ?_
    refine lv_bipush (v := 7) hx hb dL_law_32 (by decide) ?_
    refine lv_isub hx hb dL_law_34 ?_
    refine lv_icmp_gt (tgt := 2113) hx hb dL_law_35 (by decide) (fun _ => ?_) (fun h0 => absurd (loop_cond hLx (by omega) h0) (by omega))
    refine lv_iconst (v := 1) hx hb dL_law_2113 (by decide) ?_
    refine va_forget (fun q hq => hLB.2.2.2.2 q hq) ?_
    refine W.widen (k := 601024) (n := 7293034) (by omega) (by omega) ?_
    exact W.base (lw_ret (Drawn.sameBut.refl s.drawn lw_cs) hx hb hr hlocks dL_law_2114)
  | succ k ih =>
    intro j cells slots σ I R y yd H locs ls h1 h2 h3 h4 hR hLB hl
    refine lv_iload hx hb dL_law_28 (lv_at hl 0 rfl) ?_
    refine lv_aload_n hx hb dL_law_30 rfl (lv_at hl 5 rfl) ?_
    refine va_slen hx hb hX0 hbl hbA hLB.2.2 dL_law_31 ?_
    refine lv_bipush (v := 7) hx hb dL_law_32 (by decide) ?_
    refine lv_isub hx hb dL_law_34 ?_
    refine lv_icmp_gt (tgt := 2113) hx hb dL_law_35 (by decide) (fun _ => ?_) (fun h0 => ?_)
    · refine lv_iconst (v := 1) hx hb dL_law_2113 (by decide) ?_
      refine va_forget (fun q hq => hLB.2.2.2.2 q hq) ?_
      refine W.widen (k := 601024) (n := 7293034) (by omega) (by omega) ?_
      exact W.base (lw_ret (Drawn.sameBut.refl s.drawn lw_cs) hx hb hr hlocks dL_law_2114)
    · have hj : 7 * j + 7 ≤ Lx := loop_cond hLx (by omega) h0
      have kk9 : KON p l e s m below meth c (lw_Z below #[Value.ref b] s) b dC dI cy κ ol od m0 a j (cells + 3) (slots + 18) := by
        intro σ I R y yd H locs ls hR hLB hl
        refine lv_iinc (v := nI (7 * (j + 1))) (lv' := LV κ ol od m0 b (j + 1)) hx hb dL_law_2107 hl (k := 0) rfl (by rw [show Int32.ofInt 7 = nI 7 from by decide]; exact nI_add (7 * j) 7) (by decide) rfl (fun ls hl => ?_)
        refine lv_goto (tgt := 28) hx hb dL_law_2110 (by decide) ?_
        exact ih (j + 1) (cells + 3) (slots + 18) σ I R y yd H locs ls (by omega) (by omega) (by omega) (by omega) hR hLB hl
      have hce : cells + 3 ≤ 601024 := by omega
      have hsl : slots + 18 ≤ 7293034 := by omega
      refine lv_aload_n hx hb dL_law_38 rfl (lv_at hl 5 rfl) ?_
      refine lv_iload hx hb dL_law_39 (lv_at hl 0 rfl) ?_
      refine vn_sld hx hb hX0 hbl hbA hLB.2.2 (7 * j) rfl (by omega) (by omega) dL_law_41 ?_
      refine lv_bipush (v := 63) hx hb dL_law_42 (by decide) ?_
      refine lv_iand hx hb dL_law_44 ?_
      obtain ⟨q, hq, eq9⟩ := pk_andE (xs (7 * j)) (m := 63) 6 (by decide)
      rw [eq9]
      have hall : q = 0 ∨ q = 1 ∨ q = 2 ∨ q = 3 ∨ q = 4 ∨ q = 5 ∨ q = 6 ∨ q = 7 ∨ q = 8 ∨ q = 9 ∨ q = 10 ∨ q = 11 ∨ q = 12 ∨ q = 13 ∨ q = 14 ∨ q = 15 ∨ q = 16 ∨ q = 17 ∨ q = 18 ∨ q = 19 ∨ q = 20 ∨ q = 21 ∨ q = 22 ∨ q = 23 ∨ q = 24 ∨ q = 25 ∨ q = 26 ∨ q = 27 ∨ q = 28 ∨ q = 29 ∨ q = 30 ∨ q = 31 ∨ q = 32 ∨ q = 33 ∨ q = 34 ∨ q = 35 ∨ q = 36 ∨ q = 37 ∨ 38 ≤ q := by omega
      rcases hall with rfl | rfl | rfl | rfl | rfl | rfl | rfl | rfl | rfl | rfl | rfl | rfl | rfl | rfl | rfl | rfl | rfl | rfl | rfl | rfl | rfl | rfl | rfl | rfl | rfl | rfl | rfl | rfl | rfl | rfl | rfl | rfl | rfl | rfl | rfl | rfl | rfl | rfl | hq9
      · refine lv_tableIn hx hb dL_law_45 (off := 167) (tgt := 212) (by decide) (by decide) (by decide) (by decide) ?_
        exact case_0 C hj hLx hce hsl kk9 hR hLB hl
      · refine lv_tableIn hx hb dL_law_45 (off := 285) (tgt := 330) (by decide) (by decide) (by decide) (by decide) ?_
        exact case_1 C hj hLx hce hsl kk9 hR hLB hl
      · refine lv_tableIn hx hb dL_law_45 (off := 329) (tgt := 374) (by decide) (by decide) (by decide) (by decide) ?_
        exact case_2 C hj hLx hce hsl kk9 hR hLB hl
      · refine lv_tableIn hx hb dL_law_45 (off := 385) (tgt := 430) (by decide) (by decide) (by decide) (by decide) ?_
        exact case_3 C hj hLx hce hsl kk9 hR hLB hl
      · refine lv_tableIn hx hb dL_law_45 (off := 398) (tgt := 443) (by decide) (by decide) (by decide) (by decide) ?_
        exact case_4 C hj hLx hce hsl kk9 hR hLB hl
      · refine lv_tableIn hx hb dL_law_45 (off := 454) (tgt := 499) (by decide) (by decide) (by decide) (by decide) ?_
        exact case_5 C hj hLx hce hsl kk9 hR hLB hl
      · refine lv_tableIn hx hb dL_law_45 (off := 467) (tgt := 512) (by decide) (by decide) (by decide) (by decide) ?_
        exact case_6 C hj hLx hce hsl kk9 hR hLB hl
      · refine lv_tableIn hx hb dL_law_45 (off := 535) (tgt := 580) (by decide) (by decide) (by decide) (by decide) ?_
        exact case_7 C hj hLx hce hsl kk9 hR hLB hl
      · refine lv_tableIn hx hb dL_law_45 (off := 579) (tgt := 624) (by decide) (by decide) (by decide) (by decide) ?_
        exact case_8 C hj hLx hce hsl kk9 hR hLB hl
      · refine lv_tableIn hx hb dL_law_45 (off := 592) (tgt := 637) (by decide) (by decide) (by decide) (by decide) ?_
        exact case_9 C hj hLx hce hsl kk9 hR hLB hl
      · refine lv_tableIn hx hb dL_law_45 (off := 605) (tgt := 650) (by decide) (by decide) (by decide) (by decide) ?_
        exact case_10 C hj hLx hce hsl kk9 hR hLB hl
      · refine lv_tableIn hx hb dL_law_45 (off := 661) (tgt := 706) (by decide) (by decide) (by decide) (by decide) ?_
        exact case_11 C hj hLx hce hsl kk9 hR hLB hl
      · refine lv_tableIn hx hb dL_law_45 (off := 717) (tgt := 762) (by decide) (by decide) (by decide) (by decide) ?_
        exact case_12 C hj hLx hce hsl kk9 hR hLB hl
      · refine lv_tableIn hx hb dL_law_45 (off := 773) (tgt := 818) (by decide) (by decide) (by decide) (by decide) ?_
        exact case_13 C hj hLx hce hsl kk9 hR hLB hl
      · refine lv_tableIn hx hb dL_law_45 (off := 841) (tgt := 886) (by decide) (by decide) (by decide) (by decide) ?_
        exact case_14 C hj hLx hce hsl kk9 hR hLB hl
      · refine lv_tableIn hx hb dL_law_45 (off := 897) (tgt := 942) (by decide) (by decide) (by decide) (by decide) ?_
        exact case_15 C hj hLx hce hsl kk9 hR hLB hl
      · refine lv_tableIn hx hb dL_law_45 (off := 960) (tgt := 1005) (by decide) (by decide) (by decide) (by decide) ?_
        exact case_16 C hj hLx hce hsl kk9 hR hLB hl
      · refine lv_tableIn hx hb dL_law_45 (off := 1028) (tgt := 1073) (by decide) (by decide) (by decide) (by decide) ?_
        exact case_17 C hj hLx hce hsl kk9 hR hLB hl
      · refine lv_tableIn hx hb dL_law_45 (off := 1084) (tgt := 1129) (by decide) (by decide) (by decide) (by decide) ?_
        exact case_18 C hj hLx hce hsl kk9 hR hLB hl
      · refine lv_tableIn hx hb dL_law_45 (off := 1140) (tgt := 1185) (by decide) (by decide) (by decide) (by decide) ?_
        exact case_19 C hj hLx hce hsl kk9 hR hLB hl
      · refine lv_tableIn hx hb dL_law_45 (off := 1215) (tgt := 1260) (by decide) (by decide) (by decide) (by decide) ?_
        exact case_20 C hj hLx hce hsl kk9 hR hLB hl
      · refine lv_tableIn hx hb dL_law_45 (off := 1228) (tgt := 1273) (by decide) (by decide) (by decide) (by decide) ?_
        exact case_21 C hj hLx hce hsl kk9 hR hLB hl
      · refine lv_tableIn hx hb dL_law_45 (off := 1305) (tgt := 1350) (by decide) (by decide) (by decide) (by decide) ?_
        exact case_22 C hj hLx hce hsl kk9 hR hLB hl
      · refine lv_tableIn hx hb dL_law_45 (off := 1360) (tgt := 1405) (by decide) (by decide) (by decide) (by decide) ?_
        exact case_23 C hj hLx hce hsl kk9 hR hLB hl
      · refine lv_tableIn hx hb dL_law_45 (off := 1438) (tgt := 1483) (by decide) (by decide) (by decide) (by decide) ?_
        exact case_24 C hj hLx hce hsl kk9 hR hLB hl
      · refine lv_tableIn hx hb dL_law_45 (off := 1494) (tgt := 1539) (by decide) (by decide) (by decide) (by decide) ?_
        exact case_25 C hj hLx hce hsl kk9 hR hLB hl
      · refine lv_tableIn hx hb dL_law_45 (off := 1507) (tgt := 1552) (by decide) (by decide) (by decide) (by decide) ?_
        exact case_26 C hj hLx hce hsl kk9 hR hLB hl
      · refine lv_tableIn hx hb dL_law_45 (off := 1563) (tgt := 1608) (by decide) (by decide) (by decide) (by decide) ?_
        exact case_27 C hj hLx hce hsl kk9 hR hLB hl
      · refine lv_tableIn hx hb dL_law_45 (off := 1607) (tgt := 1652) (by decide) (by decide) (by decide) (by decide) ?_
        exact case_28 C hj hLx hce hsl kk9 hR hLB hl
      · refine lv_tableIn hx hb dL_law_45 (off := 1651) (tgt := 1696) (by decide) (by decide) (by decide) (by decide) ?_
        exact case_29 C hj hLx hce hsl kk9 hR hLB hl
      · refine lv_tableIn hx hb dL_law_45 (off := 1695) (tgt := 1740) (by decide) (by decide) (by decide) (by decide) ?_
        exact case_30 C hj hLx hce hsl kk9 hR hLB hl
      · refine lv_tableIn hx hb dL_law_45 (off := 1775) (tgt := 1820) (by decide) (by decide) (by decide) (by decide) ?_
        exact case_31 C hj hLx hce hsl kk9 hR hLB hl
      · refine lv_tableIn hx hb dL_law_45 (off := 1819) (tgt := 1864) (by decide) (by decide) (by decide) (by decide) ?_
        exact case_32 C hj hLx hce hsl kk9 hR hLB hl
      · refine lv_tableIn hx hb dL_law_45 (off := 1863) (tgt := 1908) (by decide) (by decide) (by decide) (by decide) ?_
        exact case_33 C hj hLx hce hsl kk9 hR hLB hl
      · refine lv_tableIn hx hb dL_law_45 (off := 1907) (tgt := 1952) (by decide) (by decide) (by decide) (by decide) ?_
        exact case_34 C hj hLx hce hsl kk9 hR hLB hl
      · refine lv_tableIn hx hb dL_law_45 (off := 1951) (tgt := 1996) (by decide) (by decide) (by decide) (by decide) ?_
        exact case_35 C hj hLx hce hsl kk9 hR hLB hl
      · refine lv_tableIn hx hb dL_law_45 (off := 2007) (tgt := 2052) (by decide) (by decide) (by decide) (by decide) ?_
        exact case_36 C hj hLx hce hsl kk9 hR hLB hl
      · refine lv_tableIn hx hb dL_law_45 (off := 2018) (tgt := 2063) (by decide) (by decide) (by decide) (by decide) ?_
        exact case_37 C hj hLx hce hsl kk9 hR hLB hl
      · refine lv_tableOut hx hb dL_law_45 (tgt := 2107) (Or.inr (by rw [nI_toInt (by omega)]; omega)) (by decide) ?_
        refine W.widen (k := cells + 3) (n := slots + 18) (by omega) (by omega) ?_
        exact kk9 _ _ _ _ _ _ _ _ hR hLB hl

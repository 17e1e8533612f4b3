/-! PART 70: constructors: rows, leaves -/
def va_AOA (t : FieldType) (U : State) : Prop := (Cond.arrayOver (.array t)).before #[] U = true
theorem va_AOA.of {t : FieldType} {A : Array Value} {U : State} (h : (Cond.arrayOver (.array t)).before A U = true) : va_AOA t U := h
theorem va_AOA.use {t : FieldType} {A : Array Value} {U : State} (h : va_AOA t U) : (Cond.arrayOver (.array t)).before A U = true := h
theorem va_AOA.moved {t : FieldType} {u U : State} (hvm : u.vm.Alike U.vm) (h : va_AOA t u) : va_AOA t U := over_moved hvm h
/-! ===== BEGIN new T[n][m]: the outer array a place, the inner ones among the pooled ===== -/
/-- f, but v at every address of l -/
def vr_up {α : Type} (f : Nat → α) (l : List Nat) (v : α) : Nat → α := fun a => if a ∈ l then v else f a
theorem vr_up_in {α : Type} {f : Nat → α} {l : List Nat} {v : α} {a : Nat} (h : a ∈ l) : vr_up f l v a = v := if_pos h
theorem vr_up_ne {α : Type} {f : Nat → α} {l : List Nat} {v : α} {a : Nat} (h : a ∉ l) : vr_up f l v a = f a := if_neg h
theorem vr_rows {L l : List Nat} {f : Nat → va_E} {e : va_E} (h : ∀ a, a ∈ l → a ∉ L) : va_pl L f ++ l.map (fun a => (a, e)) = va_pl (L ++ l) (vr_up f l e) := by
  unfold va_pl
  rw [List.map_append]
  congr 1
  · apply List.map_congr_left
    intro a ha
    rw [vr_up_ne (fun q => h a q ha)]
  · apply List.map_congr_left
    intro a ha
    rw [vr_up_in ha]
theorem vr_lay {X rows : va_W} {x : Nat × va_E} {pl : va_W} {D : va_G} {cl : List vw_C} {H : Heap} (hP : va_P D cl (((X ++ pl) ++ [x]) ++ rows) H) : va_P D cl ((X ++ [x]) ++ (pl ++ rows)) H := by
  rw [List.append_assoc (X ++ pl)] at hP
  have h := va_P.swap hP
  rw [← List.append_assoc X] at h
  have h2 := va_P.swap h
  rw [List.append_assoc (X ++ [x])] at h2
  exact h2
theorem vr_layD {X rows : va_W} {x : Nat × va_E} {pl : va_W} {A : Nat → Prop} (hD : va_D A (((X ++ pl) ++ [x]) ++ rows)) : va_D A ((X ++ [x]) ++ (pl ++ rows)) := by
  rw [List.append_assoc (X ++ pl)] at hD
  have h := va_D.swap hD
  rw [← List.append_assoc X] at h
  have h2 := va_D.swap h
  rw [List.append_assoc (X ++ [x])] at h2
  exact h2
theorem vr_outer (c : ClassId) (N h0 : Nat) : ∀ i : Nat, Jvm.Free.Multi.outerC c N h0 i = arrV c N (fun j => va_rf (if j < i then some (h0 + 1 + j) else none))
  | 0 => by
    show ({ cls := c, slots := Array.replicate N .null, vm := .none } : Cell) = _
    rw [arrV_new]
    refine congrArg (arrV c N) (funext fun j => ?_)
    simp [va_rf]
  | i + 1 => by
    show (Jvm.Free.Multi.outerC c N h0 i).setSlot i (.ref (h0 + 1 + i)) = _
    rw [vr_outer c N h0 i, arrV_store]
    refine congrArg (arrV c N) (funext fun j => ?_)
    by_cases e : j = i
    · subst e
      simp [updV, va_rf]
    · by_cases h : j < i
      · simp [updV, e, h, Nat.lt_succ_of_lt h]
      · simp [updV, e, h, show ¬ j < i + 1 by omega]
section VGM
variable {p : Program} {l : Launch} {e : Env} {R : Room} {s : State} {m : MethodId} {args : Array Value} {below : List Frame} {meth : Method} {c : Code} {H : Heap} {locs : List Loc} {cells slots : Nat} {Q : State → Prop}
variable {cc : ByteArray} {pc : Nat} {ls : Array Slot} {rest : List Value} {D : va_G} {cl : List vw_C} {A : Nat → Prop} {a : Nat} {tys : List (ClassId × FieldType)} {ws : va_W} {H0 : Heap}
theorem va_mna {X : va_W} {L : List Nat} {f : Nat → va_E} {cc : ByteArray} (hexec : p.tables.exec = Jvm.exec) (hb : c.code = cc) {own : String} {index : Nat} {ty : FieldType} {cy : ClassId} (hown : s.vm.findClass own = some m.cls) (hclink : (Cond.classLink own index ("[" ++ (FieldType.array ty).toString)).before args s = true) (hover : va_AOA ty s) (harr : (Cond.arrayClass ty).before args s = true) (hcy : s.vm.findClass (FieldType.array ty).toString = some cy)
    (hK : va_K D cl tys s) (hP : va_P D cl (X ++ va_pl L f) H) (hD : va_D A (X ++ va_pl L f)) (hS : va_S A H0 H locs) (hA : ∀ q, H0.size ≤ q → A q) {n k : Int32} {N' K' : Nat} {z : vp_A} (hn : ¬ n < 0) (hk : ¬ k < 0) (hN : n.toNatClampNeg = N') (hM : k.toNatClampNeg = K')
    (hb1 : N' * 4 ≤ 536870912) (hb2 : K' * componentBytes ty ≤ 536870912) (hb3 : K' ≤ 536870912) (hdf : fits ty (defaultValue ty) = true) (hdd : (defaultValue ty).isDefault = true) (hcells : cells + (1 + N') ≤ R.cells) (hslots : slots + (N' + N' * K') ≤ R.slots) (hz : ∀ c : ClassId, Jvm.Free.Multi.innerC c K' (defaultValue ty) = vp_cell c z) (hdg : decode cc pc = .ok (.multianewarray index 2, 4))
    (kk : ∀ (q : Nat) (r : Nat → Nat) (cA : ClassId) (H1 : Heap), (∀ i j : Nat, i < N' → j < N' → r i = r j → i = j) → (∀ i : Nat, i < N' → r i ∉ L) → va_K D cl (tys ++ [(cA, .array ty)]) s →
      va_P D cl ((X ++ [(q, .inl (cA, N', .inr (.inr (.inr (.inr (fun i => if i < N' then some (r i) else none))))))]) ++ va_pl (L ++ (List.range N').map r) (vr_up f ((List.range N').map r) (.inl (cy, z)))) H1 → va_D A ((X ++ [(q, .inl (cA, N', .inr (.inr (.inr (.inr (fun i => if i < N' then some (r i) else none))))))]) ++ va_pl (L ++ (List.range N').map r) (vr_up f ((List.range N').map r) (.inl (cy, z)))) → va_S A H0 H1 locs →
      W p l e R s m args below meth c H1 locs (cells + 1 + N') (slots + N' + N' * K') Q (F0 m (pc + 4) ls (.ref q :: rest))) : W p l e R s m args below meth c H locs cells slots Q (F0 m pc ls (.int k :: .int n :: rest)) := by
  subst hN
  subst hM
  intro T hT Xs
  obtain ⟨vm₁, cA, comp, -, fA, fC, hO, -, X', step⟩ := Xs.multianewarray2F hexec hown hclink (va_AOA.use hover) harr (g := F0 m pc ls (.int k :: .int n :: rest)) rfl (by rw [hb]; exact hdg) rfl hn hk hb1 hb2 hb3 hdf hdd hcells hslots
  have ec : some cy = some comp := hcy.symm.trans fC
  cases ec
  generalize hF : Jvm.Free.Multi.fill (T.setVm vm₁) cA cy n.toNatClampNeg k.toNatClampNeg (defaultValue ty) n.toNatClampNeg = F at X' step
  have hTh : (T.setVm vm₁).heap = H := hT
  obtain ⟨f1, f2, -, -⟩ := Jvm.Free.Multi.fill_facts (T.setVm vm₁) cA cy n.toNatClampNeg k.toNatClampNeg (defaultValue ty) n.toNatClampNeg
  rw [hF, hTh] at f1 f2
  have hold : ∀ x : Nat, x < H.size → F.heap[x]? = H[x]? := fun x hx => by
    have := Jvm.Free.Multi.fill_old (T.setVm vm₁) cA cy n.toNatClampNeg k.toNatClampNeg (defaultValue ty) (a := x) (by rw [hTh]; exact hx) n.toNatClampNeg
    rw [hF, hTh] at this
    exact this
  have hrow : ∀ j : Nat, j < n.toNatClampNeg → F.heap[H.size + 1 + j]? = some (vp_cell cy z) := fun j hj => by
    have := Jvm.Free.Multi.fill_inner (T.setVm vm₁) cA cy n.toNatClampNeg k.toNatClampNeg (defaultValue ty) n.toNatClampNeg j hj
    rw [hF, hTh, hz] at this
    exact this
  have hout : Jvm.Free.Multi.outerC cA n.toNatClampNeg H.size n.toNatClampNeg = vp_cell cA (n.toNatClampNeg, .inr (.inr (.inr (.inr (fun i => if i < n.toNatClampNeg then some (H.size + 1 + i) else none))))) := by
    rw [vp_cell_q]
    exact vr_outer cA n.toNatClampNeg H.size n.toNatClampNeg
  rw [hout] at f2
  have hlt : ∀ a, a ∈ L → a < H.size := fun a ha => by
    obtain ⟨k9, hk9⟩ := va_pl_get (X := X) (f := f) ha
    exact (hP k9 _ hk9).lt
  have hnl : ∀ i : Nat, i < n.toNatClampNeg → H.size + 1 + i ∉ L := fun i _ h => by
    have := hlt _ h
    omega
  have hnm : ∀ a, a ∈ (List.range n.toNatClampNeg).map (fun i => H.size + 1 + i) → a ∉ L := fun a ha h => by
    obtain ⟨i, -, rfl⟩ := List.mem_map.mp ha
    have := hlt _ h
    omega
  have hP0 : va_P D cl (X ++ va_pl L f) F.heap := hP.kept (fun k9 x hx => hold x.1 ((hP k9 x hx).lt))
  have hP1 : va_P D cl ((X ++ va_pl L f) ++ [(H.size, .inl (cA, n.toNatClampNeg, .inr (.inr (.inr (.inr (fun i => if i < n.toNatClampNeg then some (H.size + 1 + i) else none))))))]) F.heap := hP0.app (fun k9 x hx => by
    have h0 : k9 < 1 := (List.getElem?_eq_some_iff.mp hx).1
    rw [show k9 = 0 by omega] at hx
    cases hx
    exact f2)
  have hP2 : va_P D cl (((X ++ va_pl L f) ++ [(H.size, .inl (cA, n.toNatClampNeg, .inr (.inr (.inr (.inr (fun i => if i < n.toNatClampNeg then some (H.size + 1 + i) else none))))))]) ++ ((List.range n.toNatClampNeg).map (fun i => H.size + 1 + i)).map (fun a => (a, .inl (cy, z)))) F.heap := hP1.app (fun k9 x hx => by
    obtain ⟨a, ha, rfl⟩ := List.mem_map.mp (List.mem_of_getElem? hx)
    obtain ⟨i, hi, rfl⟩ := List.mem_map.mp ha
    exact hrow i (List.mem_range.mp hi))
  have hD2 : va_D A (((X ++ va_pl L f) ++ [(H.size, .inl (cA, n.toNatClampNeg, .inr (.inr (.inr (.inr (fun i => if i < n.toNatClampNeg then some (H.size + 1 + i) else none))))))]) ++ ((List.range n.toNatClampNeg).map (fun i => H.size + 1 + i)).map (fun a => (a, .inl (cy, z)))) := by
    have hD1 := hD.push (e := .inl (cA, n.toNatClampNeg, .inr (.inr (.inr (.inr (fun i => if i < n.toNatClampNeg then some (H.size + 1 + i) else none)))))) hP rfl (hA _ hS.1)
    generalize hW1 : (X ++ va_pl L f) ++ [(H.size, .inl (cA, n.toNatClampNeg, .inr (.inr (.inr (.inr (fun i => if i < n.toNatClampNeg then some (H.size + 1 + i) else none))))))] = W1 at hD1 hP1 ⊢
    have hle : ∀ (k9 : Nat) (x : Nat × va_E), W1[k9]? = some x → x.1 ≤ H.size := fun k9 x hx => by
      rw [← hW1] at hx
      by_cases hl : k9 < (X ++ va_pl L f).length
      · rw [List.getElem?_append_left hl] at hx
        exact Nat.le_of_lt ((hP k9 x hx).lt)
      · rw [List.getElem?_append_right (by omega)] at hx
        have h0 : k9 - (X ++ va_pl L f).length < 1 := (List.getElem?_eq_some_iff.mp hx).1
        rw [show k9 - (X ++ va_pl L f).length = 0 by omega] at hx
        cases hx
        exact Nat.le_refl _
    have hr : ∀ (k9 : Nat) (x : Nat × va_E), (((List.range n.toNatClampNeg).map (fun i => H.size + 1 + i)).map (fun a => ((a, .inl (cy, z)) : Nat × va_E)))[k9]? = some x → x.1 = H.size + 1 + k9 := fun k9 x hx => by
      rw [List.getElem?_map, List.getElem?_map] at hx
      by_cases h9 : k9 < n.toNatClampNeg
      · rw [List.getElem?_range h9] at hx
        cases hx
        rfl
      · have hn0 : (List.range n.toNatClampNeg)[k9]? = none := List.getElem?_eq_none (by rw [List.length_range]; omega)
        rw [hn0] at hx
        cases hx
    refine ⟨fun i j x y hi hj hxy => ?_, fun k9 x hx => ?_⟩
    · by_cases h1 : i < W1.length <;> by_cases h2 : j < W1.length
      · rw [List.getElem?_append_left h1] at hi
        rw [List.getElem?_append_left h2] at hj
        exact hD1.1 i j x y hi hj hxy
      · rw [List.getElem?_append_left h1] at hi
        rw [List.getElem?_append_right (by omega)] at hj
        have := hle _ _ hi
        have := hr _ _ hj
        omega
      · rw [List.getElem?_append_right (by omega)] at hi
        rw [List.getElem?_append_left h2] at hj
        have := hle _ _ hj
        have := hr _ _ hi
        omega
      · rw [List.getElem?_append_right (by omega)] at hi hj
        have := hr _ _ hi
        have := hr _ _ hj
        omega
    · by_cases h1 : k9 < W1.length
      · rw [List.getElem?_append_left h1] at hx
        exact hD1.2 k9 x hx
      · rw [List.getElem?_append_right (by omega)] at hx
        have := hr _ _ hx
        exact hA _ (by have := hS.1; omega)
  have hAr : ArrOfT s cA (.array ty) := fun N9 z9 => by
    obtain ⟨-, k9, hk9, cm9, hkk9⟩ := (hO 0 0 0).1
    exact ⟨(fun q hq => by cases hq), k9, hk9, cm9, hkk9⟩
  have hK2 : va_K D cl (tys ++ [(cA, .array ty)]) s := ⟨hK.1, fun k9 x hx => by
    by_cases hl : k9 < tys.length
    · rw [List.getElem?_append_left hl] at hx
      exact hK.2 k9 x hx
    · rw [List.getElem?_append_right (by omega)] at hx
      have h0 : k9 - tys.length < 1 := (List.getElem?_eq_some_iff.mp hx).1
      rw [show k9 - tys.length = 0 by omega] at hx
      cases hx
      exact ⟨hAr, fA⟩⟩
  obtain ⟨t, a1, b1⟩ := kk H.size (fun i => H.size + 1 + i) cA F.heap (fun i j _ _ h => by have h9 : H.size + 1 + i = H.size + 1 + j := h; omega) hnl hK2 (by rw [← vr_rows hnm]; exact vr_lay hP2) (by rw [← vr_rows hnm]; exact vr_layD hD2) ⟨by rw [f1]; have := hS.1; omega, fun x h1 h2 => (hold x (Nat.lt_of_lt_of_le h1 hS.1)).trans (hS.2.1 x h1 h2), hS.2.2⟩ F rfl X'
  refine ⟨t, step t ?_, b1⟩
  have e : T.heap.size = H.size := by rw [hT]
  rw [e]
  exact a1
end VGM
/-! ===== END ===== -/

/-- a list's place, 0 behind its end -/
def pik : List Nat → Nat → Nat
  | [], _ => 0
  | a :: _, 0 => a
  | _ :: l, k + 1 => pik l k
theorem vn_set {D : va_G} {cl : List vw_C} {ws : va_W} {H : Heap} {a q0 : Nat} {cA : ClassId} {x y : vp_A} (hP : va_P D cl ws H) (h : ws[q0]? = some (a, .inl (cA, x))) (e : vp_cell cA x = vp_cell cA y) : va_P D cl (ws.set q0 (a, .inl (cA, y))) H := by
  intro k q hk
  by_cases hq : q0 = k
  · subst hq
    have hl : q0 < ws.length := (List.getElem?_eq_some_iff.mp h).1
    rw [List.getElem?_set_self hl] at hk
    cases hk
    show H[a]? = some (vp_cell cA y)
    rw [← e]
    exact hP q0 _ h
  · rw [List.getElem?_set_ne hq] at hk
    exact hP k q hk
theorem vn_refs {cA : ClassId} {n : Nat} {f g : Nat → Option Nat} (h : ∀ j, j < n → f j = g j) : vp_cell cA (n, .inr (.inr (.inr (.inr f)))) = vp_cell cA (n, .inr (.inr (.inr (.inr g)))) := by
  rw [vp_cell_q, vp_cell_q]
  unfold arrV
  congr 2
  funext j
  show va_rf (f j.val) = va_rf (g j.val)
  rw [h j.val j.isLt]
section VNEW
variable {p : Program} {l : Launch} {e : Env} {R : Room} {s : State} {m : MethodId} {args : Array Value} {below : List Frame} {meth : Method} {c : Code} {H : Heap} {locs : List Loc} {cells slots : Nat} {Q : State → Prop}
variable {cc : ByteArray} {pc : Nat} {ls : Array Slot} {rest : List Value} {D : va_G} {cl : List vw_C} {A : Nat → Prop} {tys : List (ClassId × FieldType)} {ws : va_W} {H0 : Heap}
theorem vn_cls {ty : FieldType} {cA cB : ClassId} (h1 : va_RA s cA ty) (h2 : va_RA s cB ty) : cA = cB := by
  cases ty with
  | object C =>
    obtain ⟨_, _, _, _, _, a⟩ := h1
    obtain ⟨_, _, _, _, _, b⟩ := h2
    exact Option.some.inj (a.symm.trans b)
  | _ => exact Option.some.inj (Eq.trans (Eq.symm h1) h2)
/-- a new int row, of the class that the tables name -/
theorem vn_newi (hexec : p.tables.exec = Jvm.exec) (hb : c.code = cc) (harr : (Cond.arrayClass .int).before args s = true) (hK : va_K D cl tys s) (t0 : Nat) {cA0 : ClassId} (ht : tys[t0]? = some (cA0, .int)) (hP : va_P D cl ws H) (hD : va_D A ws) (hS : va_S A H0 H locs) (hA : ∀ q, H0.size ≤ q → A q)
    {n : Int32} {N' : Nat} (hn : ¬ n < 0) (hN : n.toNatClampNeg = N') (hbytes : N' * 4 ≤ 536870912) (hcells : cells + 1 ≤ R.cells) (hslots : slots + N' ≤ R.slots) (hdg : decode cc pc = .ok (.newarray .int, 2))
    (kk : ∀ (q : Nat) (H1 : Heap), va_P D cl (ws ++ [(q, .inl (cA0, N', .inl (fun _ => 0)))]) H1 → va_D A (ws ++ [(q, .inl (cA0, N', .inl (fun _ => 0)))]) → va_S A H0 H1 locs →
      W p l e R s m args below meth c H1 locs (cells + 1) (slots + N') Q (F0 m (pc + 2) ls (.ref q :: rest))) : W p l e R s m args below meth c H locs cells slots Q (F0 m pc ls (.int n :: rest)) := by
  refine va_newa (atype := .int) (ty := .int) (a0 := (N', .inl (fun _ => 0))) hexec hb harr rfl hK hP hD hS hA (fun cA => rfl) hn hN hbytes hcells hslots hdg (fun q cA H1 hK1 hP1 hD1 hS1 => ?_)
  have h1 := (hK1.2 tys.length (cA, .int) (by rw [List.getElem?_append_right (Nat.le_refl _), Nat.sub_self]; rfl)).2
  have e9 : cA = cA0 := vn_cls h1 (hK.2 t0 _ ht).2
  subst e9
  exact kk q H1 hP1 hD1 hS1
/-- a new row of references -/
theorem vn_newq (hexec : p.tables.exec = Jvm.exec) (hb : c.code = cc) {own C : String} {index : Nat} (hown : s.vm.findClass own = some m.cls) (hclink : (Cond.classLink own index C).before args s = true) (hover : va_AO C s) (hK : va_K D cl tys s) (t0 : Nat) {cA0 : ClassId} (ht : tys[t0]? = some (cA0, .object C)) (hP : va_P D cl ws H) (hD : va_D A ws) (hS : va_S A H0 H locs) (hA : ∀ q, H0.size ≤ q → A q)
    {n : Int32} {N' : Nat} (hn : ¬ n < 0) (hN : n.toNatClampNeg = N') (hbytes : N' * 4 ≤ 536870912) (hcells : cells + 1 ≤ R.cells) (hslots : slots + N' ≤ R.slots) (hdg : decode cc pc = .ok (.anewarray index, 3))
    (kk : ∀ (q : Nat) (H1 : Heap), va_P D cl (ws ++ [(q, .inl (cA0, N', .inr (.inr (.inr (.inr (fun _ => none))))))]) H1 → va_D A (ws ++ [(q, .inl (cA0, N', .inr (.inr (.inr (.inr (fun _ => none))))))]) → va_S A H0 H1 locs →
      W p l e R s m args below meth c H1 locs (cells + 1) (slots + N') Q (F0 m (pc + 3) ls (.ref q :: rest))) : W p l e R s m args below meth c H locs cells slots Q (F0 m pc ls (.int n :: rest)) := by
  refine va_newq hexec hb hown hclink hover hK hP hD hS hA hn hN hbytes hcells hslots hdg (fun q cA H1 hK1 hP1 hD1 hS1 => ?_)
  have h1 := (hK1.2 tys.length (cA, .object C) (by rw [List.getElem?_append_right (Nat.le_refl _), Nat.sub_self]; rfl)).2
  have e9 : cA = cA0 := vn_cls h1 (hK.2 t0 _ ht).2
  subst e9
  exact kk q H1 hP1 hD1 hS1
/-- eight rows of 200 ints, and the row of them -/
theorem vn_mna (hexec : p.tables.exec = Jvm.exec) (hb : c.code = cc) {own : String} {index : Nat} (hown : s.vm.findClass own = some m.cls) (hclink : (Cond.classLink own index "[[I").before args s = true) (hover : va_AOA .int s) (harr : (Cond.arrayClass .int).before args s = true) (hK : va_K D cl tys s) (t0 t2 : Nat) {c0 c2 : ClassId} (ht0 : tys[t0]? = some (c0, .int)) (ht2 : tys[t2]? = some (c2, .array .int)) (hP : va_P D cl ws H) (hD : va_D A ws) (hS : va_S A H0 H locs) (hA : ∀ q, H0.size ≤ q → A q)
    (hcells : cells + 9 ≤ R.cells) (hslots : slots + 1608 ≤ R.slots) (hdg : decode cc pc = .ok (.multianewarray index 2, 4))
    (kk : ∀ (q : Nat) (r : Nat → Nat) (H1 : Heap), va_P D cl (ws ++ ((q, .inl (c2, 8, .inr (.inr (.inr (.inr (fun j => some (r j))))))) :: (List.range 8).map (fun j => (r j, .inl (c0, 200, .inl (fun _ => 0)))))) H1 → va_D A (ws ++ ((q, .inl (c2, 8, .inr (.inr (.inr (.inr (fun j => some (r j))))))) :: (List.range 8).map (fun j => (r j, .inl (c0, 200, .inl (fun _ => 0)))))) → va_S A H0 H1 locs →
      W p l e R s m args below meth c H1 locs (cells + 1 + 8) (slots + 8 + 8 * 200) Q (F0 m (pc + 4) ls (.ref q :: rest))) : W p l e R s m args below meth c H locs cells slots Q (F0 m pc ls (.int 200 :: .int 8 :: rest)) := by
  have hcy : s.vm.findClass (FieldType.array .int).toString = some c0 := by
    have h := va_nm_int (hK.2 t0 _ ht0).2
    rw [show (FieldType.array .int).toString = "[I" by decide +kernel]
    exact h
  refine va_mna (X := ws) (L := []) (f := fun _ => .inr (0, [])) (ty := .int) (cy := c0) (N' := 8) (K' := 200) (z := (200, .inl (fun _ => 0))) hexec hb hown (by rw [show "[" ++ (FieldType.array .int).toString = "[[I" by decide +kernel]; exact hclink) hover harr hcy hK (by rw [show va_pl [] (fun _ => (.inr (0, []) : va_E)) = [] from rfl, List.append_nil]; exact hP) (by rw [show va_pl [] (fun _ => (.inr (0, []) : va_E)) = [] from rfl, List.append_nil]; exact hD) hS hA (by decide) (by decide) (by decide) (by decide) (by decide) (by decide) (by decide) (by decide) (by decide) hcells hslots (fun cA => ?_) hdg (fun q r cA H1 h1 h2 hK1 hP1 hD1 hS1 => ?_)
  · show ({ cls := cA, slots := Array.replicate 200 (Value.int 0), vm := .none } : Cell) = _
    rw [arrV_new]; rfl
  · have h9 := (hK1.2 tys.length (cA, .array .int) (by rw [List.getElem?_append_right (Nat.le_refl _), Nat.sub_self]; rfl)).2
    have e9 : cA = c2 := vn_cls h9 (hK.2 t2 _ ht2).2
    subst e9
    have e1 : va_pl ([] ++ (List.range 8).map r) (vr_up (fun _ => (.inr (0, []) : va_E)) ((List.range 8).map r) (.inl (c0, 200, .inl (fun _ => 0)))) = (List.range 8).map (fun j => (r j, .inl (c0, 200, .inl (fun _ => 0)))) := by
      rw [List.nil_append]
      unfold va_pl
      rw [List.map_congr_left (g := fun a => (a, .inl (c0, 200, .inl (fun _ => 0)))) (fun a ha => by rw [vr_up_in ha]), List.map_map]
      rfl
    rw [e1, List.append_assoc] at hP1 hD1
    have hg : (ws ++ ([(q, .inl (cA, 8, .inr (.inr (.inr (.inr (fun i => if i < 8 then some (r i) else none))))))] ++ (List.range 8).map (fun j => ((r j, .inl (c0, 200, .inl (fun _ => 0))) : Nat × va_E))))[ws.length]? = some (q, .inl (cA, 8, .inr (.inr (.inr (.inr (fun i => if i < 8 then some (r i) else none)))))) := by
      rw [List.getElem?_append_right (Nat.le_refl _), Nat.sub_self]; rfl
    have hset : ∀ x : Nat × va_E, (ws ++ ([((q, .inl (cA, 8, .inr (.inr (.inr (.inr (fun i => if i < 8 then some (r i) else none)))))) : Nat × va_E)] ++ (List.range 8).map (fun j => ((r j, .inl (c0, 200, .inl (fun _ => 0))) : Nat × va_E)))).set ws.length x = ws ++ (x :: (List.range 8).map (fun j => (r j, .inl (c0, 200, .inl (fun _ => 0))))) := fun x => by
      rw [List.set_append_right _ _ (Nat.le_refl _), Nat.sub_self]; rfl
    have hP2 := vn_set (y := (8, .inr (.inr (.inr (.inr (fun j => some (r j))))))) hP1 hg (vn_refs (fun j hj => if_pos hj))
    have hD2 := hD1.set (e := .inl (cA, 8, .inr (.inr (.inr (.inr (fun j => some (r j)))))) ) hg
    rw [hset] at hP2 hD2
    exact kk q r H1 hP2 hD2 hS1
end VNEW
/-- what constructors take of the tables beside EV -/
def NA (U : State) : Prop := va_AO "DeadlineAdmission$Configuration" U ∧ va_AOA .int U
section PREN
variable {dC : Nat → ClassId} {dI : Nat → Nat → Nat} {cy : Nat → ClassId} {av : List Value} {W : va_W} {sz : Nat} {s : State} {H : Heap} {A : Nat → Prop}
abbrev pNw (dC : Nat → ClassId) (dI : Nat → Nat → Nat) (cy : Nat → ClassId) (W : va_W) (sz : Nat) (U : State) : Prop := U.heap.size = sz ∧ va_P (dC, dI) vwCl W U.heap ∧ EV dC dI cy U ∧ va_D (fun _ => True) W ∧ NA U
theorem NA.warm {s U : State} (hW : s.WarmedH U.vm) (h : NA s) : NA U := ⟨va_AO.moved hW.alike h.1, va_AOA.moved hW.alike h.2⟩
theorem NA.same {s U : State} (hv : s.vm = U.vm) (h : NA s) : NA U := ⟨va_AO.moved (by rw [hv]; exact Vm.Alike.refl _) h.1, va_AOA.moved (by rw [hv]; exact Vm.Alike.refl _) h.2⟩
theorem bl_N : FrameBlind (va_Pc av (pNw dC dI cy W sz)) := fun a U g mk q => ⟨q.1, q.2.1, q.2.2.1, EV.same (s := U) rfl q.2.2.2.1, q.2.2.2.2.1, NA.same (s := U) rfl q.2.2.2.2.2⟩
theorem pr_N (hP : va_P (dC, dI) vwCl W H) (hE : EV dC dI cy s) (hD : va_D A W) (hN : NA s) : ∀ U : State, U.heap = H → s.WarmedH U.vm → va_Pc av (pNw dC dI cy W H.size) av.toArray U := fun U hU hW => ⟨rfl, by rw [hU], by rw [hU]; exact hP, hE.warm hW, hD.weaken (fun _ _ _ _ => trivial), hN.warm hW⟩
end PREN
set_option maxHeartbeats 4000000 in
set_option maxRecDepth 100000 in
/-- a new configuration -/
theorem c_X0_init (l : Launch) (dC : Nat → ClassId) (dI : Nat → Nat → Nat) (cy : Nat → ClassId) (sz : Nat) (h0 : Nat) : Met l yX0_init wsX0_init ({ frames := 1, cells := 7, slots := 56, locals := 12 }) (va_Pc [.ref h0] (pNw dC dI cy ([(h0, .inr (0, [.null, .null, .null, .null, .null, .null, .null, .int 0, .int 0]))]) sz)) (va_Qv (fun (_ : Nat → Nat) => True) (fun (u : Nat → Nat) t => va_P (dC, dI) vwCl (wCfg cy h0 u (fun _ _ => 0) (nI 0) (nI 8)) t.heap ∧ va_D (va_A ([(h0, .inr (0, [.null, .null, .null, .null, .null, .null, .null, .int 0, .int 0]))]) sz) (wCfg cy h0 u (fun _ _ => 0) (nI 0) (nI 8))) (va_A ([(h0, .inr (0, [.null, .null, .null, .null, .null, .null, .null, .int 0, .int 0]))]) sz)) 7 56 (va_A ([(h0, .inr (0, [.null, .null, .null, .null, .null, .null, .null, .int 0, .int 0]))]) sz) := by
  refine Met.ofW (cc := cX0_init) (maxL := 1) (ret := none) (by decide) rfl ?_
  intro p e s m args below meth c s₁ B hml hv
  obtain ⟨rfl, hsz, hP, hE, hD0, hN⟩ := hv
  have hK := hE.1
  subst hsz
  have hD := hD0.self (sz := s.heap.size)
  generalize hAe : va_A ([(h0, .inr (0, [.null, .null, .null, .null, .null, .null, .null, .int 0, .int 0]))]) s.heap.size = A at hD ⊢
  have hA : ∀ q : Nat, s.heap.size ≤ q → A q := fun q h => by rw [← hAe]; exact Or.inr h
  have hS : va_S A s.heap s.heap [] := va_S.rf
  have hP : va_P (dC, dI) vwCl ([(h0, .inr (0, [.null, .null, .null, .null, .null, .null, .null, .int 0, .int 0]))]) s.heap := hP
  have hx := B.exec
  have hb := B.bytes
  have hr := B.returns
  have hts := atoms_spec (ws := wsX0_init) B.pre
  have hown : s.vm.findClass RX0 = some m.cls := findClass_of_methodNamed B.named
  have hin9 : meth.name = "<init>" := (name_of_methodNamed B.named B.method).1
  have hlocks := B.notSynchronized
  have hin0 : ∀ w ∈ u_ws RX0 TX0 9, w ∈ wsX0_init := by decide +kernel
  have f_15 := hts (.fieldLink RX0 15 "DeadlineAdmission$Configuration" "deadline" "[I") (by decide +kernel)
  have f_18 := hts (.fieldLink RX0 18 "DeadlineAdmission$Configuration" "lowBudget" "[I") (by decide +kernel)
  have f_21 := hts (.fieldLink RX0 21 "DeadlineAdmission$Configuration" "highBudget" "[I") (by decide +kernel)
  have f_24 := hts (.fieldLink RX0 24 "DeadlineAdmission$Configuration" "importance" "[I") (by decide +kernel)
  have f_27 := hts (.fieldLink RX0 27 "DeadlineAdmission$Configuration" "greatestLevel" "[I") (by decide +kernel)
  have f_30 := hts (.fieldLink RX0 30 "DeadlineAdmission$Configuration" "level" "[I") (by decide +kernel)
  have f_33 := hts (.fieldLink RX0 33 "DeadlineAdmission$Configuration" "scale" "I") (by decide +kernel)
  have f_9 := hts (.fieldLink RX0 9 "DeadlineAdmission$Configuration" "basePeriod" "[I") (by decide +kernel)
  have hl := lv_entry ([.ref h0]) (n := 1) (Nat.le_of_ble_eq_true rfl)
  rw [lg_entry_eq]
  generalize (lg_sl ([.ref h0]) ++ List.replicate (1 - (lg_sl ([.ref h0])).length) Slot.unset).toArray = ls at hl ⊢
  have hl : lv_has ls 1 [(0, .ref h0)] := hl
  refine lv_aload_n hx hb dX0_init_0 rfl (lv_at hl 0 rfl) ?_
  refine W.objInit hx hb hown (hts (.methodLink RX0 3 objectInit) (by decide +kernel)) (hts (.instanceMethod objectInit) (by decide +kernel)) (hts (.code objectInit ⟨#[0xb1]⟩ 1 none) (by decide +kernel)) rfl (by rw [hml]; exact hl.1) rfl dX0_init_1 (Nat.le_of_ble_eq_true rfl) (Nat.le_of_ble_eq_true rfl) ?_
  refine W.eq (g2 := F0 m 4 ls []) rfl ?_
  refine lv_aload_n hx hb dX0_init_4 rfl (lv_at hl 0 rfl) ?_
  refine lv_bipush (v := 8) hx hb dX0_init_5 (by decide) ?_
  refine vn_newi (N' := 8) hx hb (hts (.arrayClass .int) (by decide +kernel)) hK 0 rfl hP hD hS hA (by decide) (by decide) (by decide) (Nat.le_of_ble_eq_true rfl) (Nat.le_of_ble_eq_true rfl) dX0_init_7 (fun q_7 H hP hD hS => ?_)
  have hP : va_P (dC, dI) vwCl ([(h0, .inr (0, [.null, .null, .null, .null, .null, .null, .null, .int 0, .int 0])), (q_7, .inl ((cy 0), 8, .inl (fun _ => 0)))]) H := hP
  have hD : va_D A ([(h0, .inr (0, [.null, .null, .null, .null, .null, .null, .null, .int 0, .int 0])), (q_7, .inl ((cy 0), 8, .inl (fun _ => 0)))]) := hD
  refine va_putF (D := (dC, dI)) (ci := 0) (v := .ref q_7) (ty := (.array .int)) (C := RX0) (T := TX0) (N := 9) hx hb hts hin0 tyX0 tyX0_ok nmX0 hown hK hP hD hS 0 rfl rfl 0 (by decide) f_9 (fun _ h9 => h9) rfl hin9 rfl (by decide +kernel) rfl rfl (Nat.le_of_ble_eq_true rfl) dX0_init_9 (fun H locs hP hD hS => ?_)
  have hP : va_P (dC, dI) vwCl ([(h0, .inr (0, [.ref q_7, .null, .null, .null, .null, .null, .null, .int 0, .int 0])), (q_7, .inl ((cy 0), 8, .inl (fun _ => 0)))]) H := hP
  have hD : va_D A ([(h0, .inr (0, [.ref q_7, .null, .null, .null, .null, .null, .null, .int 0, .int 0])), (q_7, .inl ((cy 0), 8, .inl (fun _ => 0)))]) := hD
  refine lv_aload_n hx hb dX0_init_12 rfl (lv_at hl 0 rfl) ?_
  refine lv_bipush (v := 8) hx hb dX0_init_13 (by decide) ?_
  refine vn_newi (N' := 8) hx hb (hts (.arrayClass .int) (by decide +kernel)) hK 0 rfl hP hD hS hA (by decide) (by decide) (by decide) (Nat.le_of_ble_eq_true rfl) (Nat.le_of_ble_eq_true rfl) dX0_init_15 (fun q_15 H hP hD hS => ?_)
  have hP : va_P (dC, dI) vwCl ([(h0, .inr (0, [.ref q_7, .null, .null, .null, .null, .null, .null, .int 0, .int 0])), (q_7, .inl ((cy 0), 8, .inl (fun _ => 0))), (q_15, .inl ((cy 0), 8, .inl (fun _ => 0)))]) H := hP
  have hD : va_D A ([(h0, .inr (0, [.ref q_7, .null, .null, .null, .null, .null, .null, .int 0, .int 0])), (q_7, .inl ((cy 0), 8, .inl (fun _ => 0))), (q_15, .inl ((cy 0), 8, .inl (fun _ => 0)))]) := hD
  refine va_putF (D := (dC, dI)) (ci := 0) (v := .ref q_15) (ty := (.array .int)) (C := RX0) (T := TX0) (N := 9) hx hb hts hin0 tyX0 tyX0_ok nmX0 hown hK hP hD hS 0 rfl rfl 1 (by decide) f_15 (fun _ h9 => h9) rfl hin9 rfl (by decide +kernel) rfl rfl (Nat.le_of_ble_eq_true rfl) dX0_init_17 (fun H locs hP hD hS => ?_)
  have hP : va_P (dC, dI) vwCl ([(h0, .inr (0, [.ref q_7, .ref q_15, .null, .null, .null, .null, .null, .int 0, .int 0])), (q_7, .inl ((cy 0), 8, .inl (fun _ => 0))), (q_15, .inl ((cy 0), 8, .inl (fun _ => 0)))]) H := hP
  have hD : va_D A ([(h0, .inr (0, [.ref q_7, .ref q_15, .null, .null, .null, .null, .null, .int 0, .int 0])), (q_7, .inl ((cy 0), 8, .inl (fun _ => 0))), (q_15, .inl ((cy 0), 8, .inl (fun _ => 0)))]) := hD
  refine lv_aload_n hx hb dX0_init_20 rfl (lv_at hl 0 rfl) ?_
  refine lv_bipush (v := 8) hx hb dX0_init_21 (by decide) ?_
  refine vn_newi (N' := 8) hx hb (hts (.arrayClass .int) (by decide +kernel)) hK 0 rfl hP hD hS hA (by decide) (by decide) (by decide) (Nat.le_of_ble_eq_true rfl) (Nat.le_of_ble_eq_true rfl) dX0_init_23 (fun q_23 H hP hD hS => ?_)
  have hP : va_P (dC, dI) vwCl ([(h0, .inr (0, [.ref q_7, .ref q_15, .null, .null, .null, .null, .null, .int 0, .int 0])), (q_7, .inl ((cy 0), 8, .inl (fun _ => 0))), (q_15, .inl ((cy 0), 8, .inl (fun _ => 0))), (q_23, .inl ((cy 0), 8, .inl (fun _ => 0)))]) H := hP
  have hD : va_D A ([(h0, .inr (0, [.ref q_7, .ref q_15, .null, .null, .null, .null, .null, .int 0, .int 0])), (q_7, .inl ((cy 0), 8, .inl (fun _ => 0))), (q_15, .inl ((cy 0), 8, .inl (fun _ => 0))), (q_23, .inl ((cy 0), 8, .inl (fun _ => 0)))]) := hD
  refine va_putF (D := (dC, dI)) (ci := 0) (v := .ref q_23) (ty := (.array .int)) (C := RX0) (T := TX0) (N := 9) hx hb hts hin0 tyX0 tyX0_ok nmX0 hown hK hP hD hS 0 rfl rfl 2 (by decide) f_18 (fun _ h9 => h9) rfl hin9 rfl (by decide +kernel) rfl rfl (Nat.le_of_ble_eq_true rfl) dX0_init_25 (fun H locs hP hD hS => ?_)
  have hP : va_P (dC, dI) vwCl ([(h0, .inr (0, [.ref q_7, .ref q_15, .ref q_23, .null, .null, .null, .null, .int 0, .int 0])), (q_7, .inl ((cy 0), 8, .inl (fun _ => 0))), (q_15, .inl ((cy 0), 8, .inl (fun _ => 0))), (q_23, .inl ((cy 0), 8, .inl (fun _ => 0)))]) H := hP
  have hD : va_D A ([(h0, .inr (0, [.ref q_7, .ref q_15, .ref q_23, .null, .null, .null, .null, .int 0, .int 0])), (q_7, .inl ((cy 0), 8, .inl (fun _ => 0))), (q_15, .inl ((cy 0), 8, .inl (fun _ => 0))), (q_23, .inl ((cy 0), 8, .inl (fun _ => 0)))]) := hD
  refine lv_aload_n hx hb dX0_init_28 rfl (lv_at hl 0 rfl) ?_
  refine lv_bipush (v := 8) hx hb dX0_init_29 (by decide) ?_
  refine vn_newi (N' := 8) hx hb (hts (.arrayClass .int) (by decide +kernel)) hK 0 rfl hP hD hS hA (by decide) (by decide) (by decide) (Nat.le_of_ble_eq_true rfl) (Nat.le_of_ble_eq_true rfl) dX0_init_31 (fun q_31 H hP hD hS => ?_)
  have hP : va_P (dC, dI) vwCl ([(h0, .inr (0, [.ref q_7, .ref q_15, .ref q_23, .null, .null, .null, .null, .int 0, .int 0])), (q_7, .inl ((cy 0), 8, .inl (fun _ => 0))), (q_15, .inl ((cy 0), 8, .inl (fun _ => 0))), (q_23, .inl ((cy 0), 8, .inl (fun _ => 0))), (q_31, .inl ((cy 0), 8, .inl (fun _ => 0)))]) H := hP
  have hD : va_D A ([(h0, .inr (0, [.ref q_7, .ref q_15, .ref q_23, .null, .null, .null, .null, .int 0, .int 0])), (q_7, .inl ((cy 0), 8, .inl (fun _ => 0))), (q_15, .inl ((cy 0), 8, .inl (fun _ => 0))), (q_23, .inl ((cy 0), 8, .inl (fun _ => 0))), (q_31, .inl ((cy 0), 8, .inl (fun _ => 0)))]) := hD
  refine va_putF (D := (dC, dI)) (ci := 0) (v := .ref q_31) (ty := (.array .int)) (C := RX0) (T := TX0) (N := 9) hx hb hts hin0 tyX0 tyX0_ok nmX0 hown hK hP hD hS 0 rfl rfl 3 (by decide) f_21 (fun _ h9 => h9) rfl hin9 rfl (by decide +kernel) rfl rfl (Nat.le_of_ble_eq_true rfl) dX0_init_33 (fun H locs hP hD hS => ?_)
  have hP : va_P (dC, dI) vwCl ([(h0, .inr (0, [.ref q_7, .ref q_15, .ref q_23, .ref q_31, .null, .null, .null, .int 0, .int 0])), (q_7, .inl ((cy 0), 8, .inl (fun _ => 0))), (q_15, .inl ((cy 0), 8, .inl (fun _ => 0))), (q_23, .inl ((cy 0), 8, .inl (fun _ => 0))), (q_31, .inl ((cy 0), 8, .inl (fun _ => 0)))]) H := hP
  have hD : va_D A ([(h0, .inr (0, [.ref q_7, .ref q_15, .ref q_23, .ref q_31, .null, .null, .null, .int 0, .int 0])), (q_7, .inl ((cy 0), 8, .inl (fun _ => 0))), (q_15, .inl ((cy 0), 8, .inl (fun _ => 0))), (q_23, .inl ((cy 0), 8, .inl (fun _ => 0))), (q_31, .inl ((cy 0), 8, .inl (fun _ => 0)))]) := hD
  refine lv_aload_n hx hb dX0_init_36 rfl (lv_at hl 0 rfl) ?_
  refine lv_bipush (v := 8) hx hb dX0_init_37 (by decide) ?_
  refine vn_newi (N' := 8) hx hb (hts (.arrayClass .int) (by decide +kernel)) hK 0 rfl hP hD hS hA (by decide) (by decide) (by decide) (Nat.le_of_ble_eq_true rfl) (Nat.le_of_ble_eq_true rfl) dX0_init_39 (fun q_39 H hP hD hS => ?_)
  have hP : va_P (dC, dI) vwCl ([(h0, .inr (0, [.ref q_7, .ref q_15, .ref q_23, .ref q_31, .null, .null, .null, .int 0, .int 0])), (q_7, .inl ((cy 0), 8, .inl (fun _ => 0))), (q_15, .inl ((cy 0), 8, .inl (fun _ => 0))), (q_23, .inl ((cy 0), 8, .inl (fun _ => 0))), (q_31, .inl ((cy 0), 8, .inl (fun _ => 0))), (q_39, .inl ((cy 0), 8, .inl (fun _ => 0)))]) H := hP
  have hD : va_D A ([(h0, .inr (0, [.ref q_7, .ref q_15, .ref q_23, .ref q_31, .null, .null, .null, .int 0, .int 0])), (q_7, .inl ((cy 0), 8, .inl (fun _ => 0))), (q_15, .inl ((cy 0), 8, .inl (fun _ => 0))), (q_23, .inl ((cy 0), 8, .inl (fun _ => 0))), (q_31, .inl ((cy 0), 8, .inl (fun _ => 0))), (q_39, .inl ((cy 0), 8, .inl (fun _ => 0)))]) := hD
  refine va_putF (D := (dC, dI)) (ci := 0) (v := .ref q_39) (ty := (.array .int)) (C := RX0) (T := TX0) (N := 9) hx hb hts hin0 tyX0 tyX0_ok nmX0 hown hK hP hD hS 0 rfl rfl 4 (by decide) f_24 (fun _ h9 => h9) rfl hin9 rfl (by decide +kernel) rfl rfl (Nat.le_of_ble_eq_true rfl) dX0_init_41 (fun H locs hP hD hS => ?_)
  have hP : va_P (dC, dI) vwCl ([(h0, .inr (0, [.ref q_7, .ref q_15, .ref q_23, .ref q_31, .ref q_39, .null, .null, .int 0, .int 0])), (q_7, .inl ((cy 0), 8, .inl (fun _ => 0))), (q_15, .inl ((cy 0), 8, .inl (fun _ => 0))), (q_23, .inl ((cy 0), 8, .inl (fun _ => 0))), (q_31, .inl ((cy 0), 8, .inl (fun _ => 0))), (q_39, .inl ((cy 0), 8, .inl (fun _ => 0)))]) H := hP
  have hD : va_D A ([(h0, .inr (0, [.ref q_7, .ref q_15, .ref q_23, .ref q_31, .ref q_39, .null, .null, .int 0, .int 0])), (q_7, .inl ((cy 0), 8, .inl (fun _ => 0))), (q_15, .inl ((cy 0), 8, .inl (fun _ => 0))), (q_23, .inl ((cy 0), 8, .inl (fun _ => 0))), (q_31, .inl ((cy 0), 8, .inl (fun _ => 0))), (q_39, .inl ((cy 0), 8, .inl (fun _ => 0)))]) := hD
  refine lv_aload_n hx hb dX0_init_44 rfl (lv_at hl 0 rfl) ?_
  refine lv_bipush (v := 8) hx hb dX0_init_45 (by decide) ?_
  refine vn_newi (N' := 8) hx hb (hts (.arrayClass .int) (by decide +kernel)) hK 0 rfl hP hD hS hA (by decide) (by decide) (by decide) (Nat.le_of_ble_eq_true rfl) (Nat.le_of_ble_eq_true rfl) dX0_init_47 (fun q_47 H hP hD hS => ?_)
  have hP : va_P (dC, dI) vwCl ([(h0, .inr (0, [.ref q_7, .ref q_15, .ref q_23, .ref q_31, .ref q_39, .null, .null, .int 0, .int 0])), (q_7, .inl ((cy 0), 8, .inl (fun _ => 0))), (q_15, .inl ((cy 0), 8, .inl (fun _ => 0))), (q_23, .inl ((cy 0), 8, .inl (fun _ => 0))), (q_31, .inl ((cy 0), 8, .inl (fun _ => 0))), (q_39, .inl ((cy 0), 8, .inl (fun _ => 0))), (q_47, .inl ((cy 0), 8, .inl (fun _ => 0)))]) H := hP
  have hD : va_D A ([(h0, .inr (0, [.ref q_7, .ref q_15, .ref q_23, .ref q_31, .ref q_39, .null, .null, .int 0, .int 0])), (q_7, .inl ((cy 0), 8, .inl (fun _ => 0))), (q_15, .inl ((cy 0), 8, .inl (fun _ => 0))), (q_23, .inl ((cy 0), 8, .inl (fun _ => 0))), (q_31, .inl ((cy 0), 8, .inl (fun _ => 0))), (q_39, .inl ((cy 0), 8, .inl (fun _ => 0))), (q_47, .inl ((cy 0), 8, .inl (fun _ => 0)))]) := hD
  refine va_putF (D := (dC, dI)) (ci := 0) (v := .ref q_47) (ty := (.array .int)) (C := RX0) (T := TX0) (N := 9) hx hb hts hin0 tyX0 tyX0_ok nmX0 hown hK hP hD hS 0 rfl rfl 5 (by decide) f_27 (fun _ h9 => h9) rfl hin9 rfl (by decide +kernel) rfl rfl (Nat.le_of_ble_eq_true rfl) dX0_init_49 (fun H locs hP hD hS => ?_)
  have hP : va_P (dC, dI) vwCl ([(h0, .inr (0, [.ref q_7, .ref q_15, .ref q_23, .ref q_31, .ref q_39, .ref q_47, .null, .int 0, .int 0])), (q_7, .inl ((cy 0), 8, .inl (fun _ => 0))), (q_15, .inl ((cy 0), 8, .inl (fun _ => 0))), (q_23, .inl ((cy 0), 8, .inl (fun _ => 0))), (q_31, .inl ((cy 0), 8, .inl (fun _ => 0))), (q_39, .inl ((cy 0), 8, .inl (fun _ => 0))), (q_47, .inl ((cy 0), 8, .inl (fun _ => 0)))]) H := hP
  have hD : va_D A ([(h0, .inr (0, [.ref q_7, .ref q_15, .ref q_23, .ref q_31, .ref q_39, .ref q_47, .null, .int 0, .int 0])), (q_7, .inl ((cy 0), 8, .inl (fun _ => 0))), (q_15, .inl ((cy 0), 8, .inl (fun _ => 0))), (q_23, .inl ((cy 0), 8, .inl (fun _ => 0))), (q_31, .inl ((cy 0), 8, .inl (fun _ => 0))), (q_39, .inl ((cy 0), 8, .inl (fun _ => 0))), (q_47, .inl ((cy 0), 8, .inl (fun _ => 0)))]) := hD
  refine lv_aload_n hx hb dX0_init_52 rfl (lv_at hl 0 rfl) ?_
  refine lv_bipush (v := 8) hx hb dX0_init_53 (by decide) ?_
  refine vn_newi (N' := 8) hx hb (hts (.arrayClass .int) (by decide +kernel)) hK 0 rfl hP hD hS hA (by decide) (by decide) (by decide) (Nat.le_of_ble_eq_true rfl) (Nat.le_of_ble_eq_true rfl) dX0_init_55 (fun q_55 H hP hD hS => ?_)
  have hP : va_P (dC, dI) vwCl ([(h0, .inr (0, [.ref q_7, .ref q_15, .ref q_23, .ref q_31, .ref q_39, .ref q_47, .null, .int 0, .int 0])), (q_7, .inl ((cy 0), 8, .inl (fun _ => 0))), (q_15, .inl ((cy 0), 8, .inl (fun _ => 0))), (q_23, .inl ((cy 0), 8, .inl (fun _ => 0))), (q_31, .inl ((cy 0), 8, .inl (fun _ => 0))), (q_39, .inl ((cy 0), 8, .inl (fun _ => 0))), (q_47, .inl ((cy 0), 8, .inl (fun _ => 0))), (q_55, .inl ((cy 0), 8, .inl (fun _ => 0)))]) H := hP
  have hD : va_D A ([(h0, .inr (0, [.ref q_7, .ref q_15, .ref q_23, .ref q_31, .ref q_39, .ref q_47, .null, .int 0, .int 0])), (q_7, .inl ((cy 0), 8, .inl (fun _ => 0))), (q_15, .inl ((cy 0), 8, .inl (fun _ => 0))), (q_23, .inl ((cy 0), 8, .inl (fun _ => 0))), (q_31, .inl ((cy 0), 8, .inl (fun _ => 0))), (q_39, .inl ((cy 0), 8, .inl (fun _ => 0))), (q_47, .inl ((cy 0), 8, .inl (fun _ => 0))), (q_55, .inl ((cy 0), 8, .inl (fun _ => 0)))]) := hD
  refine va_putF (D := (dC, dI)) (ci := 0) (v := .ref q_55) (ty := (.array .int)) (C := RX0) (T := TX0) (N := 9) hx hb hts hin0 tyX0 tyX0_ok nmX0 hown hK hP hD hS 0 rfl rfl 6 (by decide) f_30 (fun _ h9 => h9) rfl hin9 rfl (by decide +kernel) rfl rfl (Nat.le_of_ble_eq_true rfl) dX0_init_57 (fun H locs hP hD hS => ?_)
  have hP : va_P (dC, dI) vwCl ([(h0, .inr (0, [.ref q_7, .ref q_15, .ref q_23, .ref q_31, .ref q_39, .ref q_47, .ref q_55, .int 0, .int 0])), (q_7, .inl ((cy 0), 8, .inl (fun _ => 0))), (q_15, .inl ((cy 0), 8, .inl (fun _ => 0))), (q_23, .inl ((cy 0), 8, .inl (fun _ => 0))), (q_31, .inl ((cy 0), 8, .inl (fun _ => 0))), (q_39, .inl ((cy 0), 8, .inl (fun _ => 0))), (q_47, .inl ((cy 0), 8, .inl (fun _ => 0))), (q_55, .inl ((cy 0), 8, .inl (fun _ => 0)))]) H := hP
  have hD : va_D A ([(h0, .inr (0, [.ref q_7, .ref q_15, .ref q_23, .ref q_31, .ref q_39, .ref q_47, .ref q_55, .int 0, .int 0])), (q_7, .inl ((cy 0), 8, .inl (fun _ => 0))), (q_15, .inl ((cy 0), 8, .inl (fun _ => 0))), (q_23, .inl ((cy 0), 8, .inl (fun _ => 0))), (q_31, .inl ((cy 0), 8, .inl (fun _ => 0))), (q_39, .inl ((cy 0), 8, .inl (fun _ => 0))), (q_47, .inl ((cy 0), 8, .inl (fun _ => 0))), (q_55, .inl ((cy 0), 8, .inl (fun _ => 0)))]) := hD
  refine lv_aload_n hx hb dX0_init_60 rfl (lv_at hl 0 rfl) ?_
  refine lv_bipush (v := 8) hx hb dX0_init_61 (by decide) ?_
  refine va_put (D := (dC, dI)) (ci := 0) (v := .int 8) (ty := .int) (C := RX0) (T := TX0) (N := 9) hx hb hts hin0 tyX0 tyX0_ok nmX0 hown hK hP hD hS 0 rfl rfl 8 (by decide) f_33 (fun _ h9 => h9) rfl (by decide +kernel) rfl rfl (Nat.le_of_ble_eq_true rfl) dX0_init_63 (fun H locs hP hD hS => ?_)
  have hP : va_P (dC, dI) vwCl ([(h0, .inr (0, [.ref q_7, .ref q_15, .ref q_23, .ref q_31, .ref q_39, .ref q_47, .ref q_55, .int 0, .int 8])), (q_7, .inl ((cy 0), 8, .inl (fun _ => 0))), (q_15, .inl ((cy 0), 8, .inl (fun _ => 0))), (q_23, .inl ((cy 0), 8, .inl (fun _ => 0))), (q_31, .inl ((cy 0), 8, .inl (fun _ => 0))), (q_39, .inl ((cy 0), 8, .inl (fun _ => 0))), (q_47, .inl ((cy 0), 8, .inl (fun _ => 0))), (q_55, .inl ((cy 0), 8, .inl (fun _ => 0)))]) H := hP
  have hD : va_D A ([(h0, .inr (0, [.ref q_7, .ref q_15, .ref q_23, .ref q_31, .ref q_39, .ref q_47, .ref q_55, .int 0, .int 8])), (q_7, .inl ((cy 0), 8, .inl (fun _ => 0))), (q_15, .inl ((cy 0), 8, .inl (fun _ => 0))), (q_23, .inl ((cy 0), 8, .inl (fun _ => 0))), (q_31, .inl ((cy 0), 8, .inl (fun _ => 0))), (q_39, .inl ((cy 0), 8, .inl (fun _ => 0))), (q_47, .inl ((cy 0), 8, .inl (fun _ => 0))), (q_55, .inl ((cy 0), 8, .inl (fun _ => 0)))]) := hD
  refine W.widen (k := 7) (n := 56) (Nat.le_of_ble_eq_true rfl) (Nat.le_of_ble_eq_true rfl) ?_
  have hP9 : va_P (dC, dI) vwCl (wCfg cy h0 (pik [q_7, q_15, q_23, q_31, q_39, q_47, q_55]) (fun _ _ => 0) (nI 0) (nI 8)) H := hP
  have hD9 : va_D A (wCfg cy h0 (pik [q_7, q_15, q_23, q_31, q_39, q_47, q_55]) (fun _ _ => 0) (nI 0) (nI 8)) := hD
  exact W.vret hx hb hr (fun t ht hW => ⟨⟨(pik [q_7, q_15, q_23, q_31, q_39, q_47, q_55]), rfl, trivial, by rw [ht]; exact hP9, hD9⟩, hS.F ht⟩) hS.2.2 dX0_init_66
set_option maxHeartbeats 4000000 in
set_option maxRecDepth 100000 in
/-- a new text -/
theorem c_X3_init (l : Launch) (dC : Nat → ClassId) (dI : Nat → Nat → Nat) (cy : Nat → ClassId) (sz : Nat) (h0 : Nat) : Met l yX3_init wsX3_init ({ frames := 1, cells := 2, slots := 36, locals := 12 }) (va_Pc [.ref h0] (pNw dC dI cy ([(h0, .inr (3, [.null, .null, .int 0, .int 0]))]) sz)) (va_Qv (fun (_ : Nat × Nat) => True) (fun (u : Nat × Nat) t => va_P (dC, dI) vwCl (wTxt cy h0 u.1 u.2 (fun _ => 0) (fun _ => 0) (nI 0) (-1)) t.heap ∧ va_D (va_A ([(h0, .inr (3, [.null, .null, .int 0, .int 0]))]) sz) (wTxt cy h0 u.1 u.2 (fun _ => 0) (fun _ => 0) (nI 0) (-1))) (va_A ([(h0, .inr (3, [.null, .null, .int 0, .int 0]))]) sz)) 2 36 (va_A ([(h0, .inr (3, [.null, .null, .int 0, .int 0]))]) sz) := by
  refine Met.ofW (cc := cX3_init) (maxL := 1) (ret := none) (by decide) rfl ?_
  intro p e s m args below meth c s₁ B hml hv
  obtain ⟨rfl, hsz, hP, hE, hD0, hN⟩ := hv
  have hK := hE.1
  subst hsz
  have hD := hD0.self (sz := s.heap.size)
  generalize hAe : va_A ([(h0, .inr (3, [.null, .null, .int 0, .int 0]))]) s.heap.size = A at hD ⊢
  have hA : ∀ q : Nat, s.heap.size ≤ q → A q := fun q h => by rw [← hAe]; exact Or.inr h
  have hS : va_S A s.heap s.heap [] := va_S.rf
  have hP : va_P (dC, dI) vwCl ([(h0, .inr (3, [.null, .null, .int 0, .int 0]))]) s.heap := hP
  have hx := B.exec
  have hb := B.bytes
  have hr := B.returns
  have hts := atoms_spec (ws := wsX3_init) B.pre
  have hown : s.vm.findClass RX3 = some m.cls := findClass_of_methodNamed B.named
  have hin9 : meth.name = "<init>" := (name_of_methodNamed B.named B.method).1
  have hlocks := B.notSynchronized
  have hin3 : ∀ w ∈ u_ws RX3 TX3 4, w ∈ wsX3_init := by decide +kernel
  have f_15 := hts (.fieldLink RX3 15 "DeadlineAdmission$TaskText" "numbers" "[I") (by decide +kernel)
  have f_18 := hts (.fieldLink RX3 18 "DeadlineAdmission$TaskText" "fault" "I") (by decide +kernel)
  have f_9 := hts (.fieldLink RX3 9 "DeadlineAdmission$TaskText" "characters" "[I") (by decide +kernel)
  have hl := lv_entry ([.ref h0]) (n := 1) (Nat.le_of_ble_eq_true rfl)
  rw [lg_entry_eq]
  generalize (lg_sl ([.ref h0]) ++ List.replicate (1 - (lg_sl ([.ref h0])).length) Slot.unset).toArray = ls at hl ⊢
  have hl : lv_has ls 1 [(0, .ref h0)] := hl
  refine lv_aload_n hx hb dX3_init_0 rfl (lv_at hl 0 rfl) ?_
  refine W.objInit hx hb hown (hts (.methodLink RX3 3 objectInit) (by decide +kernel)) (hts (.instanceMethod objectInit) (by decide +kernel)) (hts (.code objectInit ⟨#[0xb1]⟩ 1 none) (by decide +kernel)) rfl (by rw [hml]; exact hl.1) rfl dX3_init_1 (Nat.le_of_ble_eq_true rfl) (Nat.le_of_ble_eq_true rfl) ?_
  refine W.eq (g2 := F0 m 4 ls []) rfl ?_
  refine lv_aload_n hx hb dX3_init_4 rfl (lv_at hl 0 rfl) ?_
  refine lv_bipush (v := 30) hx hb dX3_init_5 (by decide) ?_
  refine vn_newi (N' := 30) hx hb (hts (.arrayClass .int) (by decide +kernel)) hK 0 rfl hP hD hS hA (by decide) (by decide) (by decide) (Nat.le_of_ble_eq_true rfl) (Nat.le_of_ble_eq_true rfl) dX3_init_7 (fun q_7 H hP hD hS => ?_)
  have hP : va_P (dC, dI) vwCl ([(h0, .inr (3, [.null, .null, .int 0, .int 0])), (q_7, .inl ((cy 0), 30, .inl (fun _ => 0)))]) H := hP
  have hD : va_D A ([(h0, .inr (3, [.null, .null, .int 0, .int 0])), (q_7, .inl ((cy 0), 30, .inl (fun _ => 0)))]) := hD
  refine va_putF (D := (dC, dI)) (ci := 3) (v := .ref q_7) (ty := (.array .int)) (C := RX3) (T := TX3) (N := 4) hx hb hts hin3 tyX3 tyX3_ok nmX3 hown hK hP hD hS 0 rfl rfl 0 (by decide) f_9 (fun _ h9 => h9) rfl hin9 rfl (by decide +kernel) rfl rfl (Nat.le_of_ble_eq_true rfl) dX3_init_9 (fun H locs hP hD hS => ?_)
  have hP : va_P (dC, dI) vwCl ([(h0, .inr (3, [.ref q_7, .null, .int 0, .int 0])), (q_7, .inl ((cy 0), 30, .inl (fun _ => 0)))]) H := hP
  have hD : va_D A ([(h0, .inr (3, [.ref q_7, .null, .int 0, .int 0])), (q_7, .inl ((cy 0), 30, .inl (fun _ => 0)))]) := hD
  refine lv_aload_n hx hb dX3_init_12 rfl (lv_at hl 0 rfl) ?_
  refine lv_bipush (v := 6) hx hb dX3_init_13 (by decide) ?_
  refine vn_newi (N' := 6) hx hb (hts (.arrayClass .int) (by decide +kernel)) hK 0 rfl hP hD hS hA (by decide) (by decide) (by decide) (Nat.le_of_ble_eq_true rfl) (Nat.le_of_ble_eq_true rfl) dX3_init_15 (fun q_15 H hP hD hS => ?_)
  have hP : va_P (dC, dI) vwCl ([(h0, .inr (3, [.ref q_7, .null, .int 0, .int 0])), (q_7, .inl ((cy 0), 30, .inl (fun _ => 0))), (q_15, .inl ((cy 0), 6, .inl (fun _ => 0)))]) H := hP
  have hD : va_D A ([(h0, .inr (3, [.ref q_7, .null, .int 0, .int 0])), (q_7, .inl ((cy 0), 30, .inl (fun _ => 0))), (q_15, .inl ((cy 0), 6, .inl (fun _ => 0)))]) := hD
  refine va_putF (D := (dC, dI)) (ci := 3) (v := .ref q_15) (ty := (.array .int)) (C := RX3) (T := TX3) (N := 4) hx hb hts hin3 tyX3 tyX3_ok nmX3 hown hK hP hD hS 0 rfl rfl 1 (by decide) f_15 (fun _ h9 => h9) rfl hin9 rfl (by decide +kernel) rfl rfl (Nat.le_of_ble_eq_true rfl) dX3_init_17 (fun H locs hP hD hS => ?_)
  have hP : va_P (dC, dI) vwCl ([(h0, .inr (3, [.ref q_7, .ref q_15, .int 0, .int 0])), (q_7, .inl ((cy 0), 30, .inl (fun _ => 0))), (q_15, .inl ((cy 0), 6, .inl (fun _ => 0)))]) H := hP
  have hD : va_D A ([(h0, .inr (3, [.ref q_7, .ref q_15, .int 0, .int 0])), (q_7, .inl ((cy 0), 30, .inl (fun _ => 0))), (q_15, .inl ((cy 0), 6, .inl (fun _ => 0)))]) := hD
  refine lv_aload_n hx hb dX3_init_20 rfl (lv_at hl 0 rfl) ?_
  refine lv_iconst (v := (-1)) hx hb dX3_init_21 (by decide) ?_
  refine va_put (D := (dC, dI)) (ci := 3) (v := .int (-1)) (ty := .int) (C := RX3) (T := TX3) (N := 4) hx hb hts hin3 tyX3 tyX3_ok nmX3 hown hK hP hD hS 0 rfl rfl 3 (by decide) f_18 (fun _ h9 => h9) rfl (by decide +kernel) rfl rfl (Nat.le_of_ble_eq_true rfl) dX3_init_22 (fun H locs hP hD hS => ?_)
  have hP : va_P (dC, dI) vwCl ([(h0, .inr (3, [.ref q_7, .ref q_15, .int 0, .int (-1)])), (q_7, .inl ((cy 0), 30, .inl (fun _ => 0))), (q_15, .inl ((cy 0), 6, .inl (fun _ => 0)))]) H := hP
  have hD : va_D A ([(h0, .inr (3, [.ref q_7, .ref q_15, .int 0, .int (-1)])), (q_7, .inl ((cy 0), 30, .inl (fun _ => 0))), (q_15, .inl ((cy 0), 6, .inl (fun _ => 0)))]) := hD
  refine W.widen (k := 2) (n := 36) (Nat.le_of_ble_eq_true rfl) (Nat.le_of_ble_eq_true rfl) ?_
  have hP9 : va_P (dC, dI) vwCl (wTxt cy h0 q_7 q_15 (fun _ => 0) (fun _ => 0) (nI 0) (-1)) H := hP
  have hD9 : va_D A (wTxt cy h0 q_7 q_15 (fun _ => 0) (fun _ => 0) (nI 0) (-1)) := hD
  exact W.vret hx hb hr (fun t ht hW => ⟨⟨(q_7, q_15), rfl, trivial, by rw [ht]; exact hP9, hD9⟩, hS.F ht⟩) hS.2.2 dX3_init_25
set_option maxHeartbeats 4000000 in
set_option maxRecDepth 100000 in
/-- a new reference -/
theorem c_X5_init (l : Launch) (dC : Nat → ClassId) (dI : Nat → Nat → Nat) (cy : Nat → ClassId) (sz : Nat) (h0 : Nat) : Met l yX5_init wsX5_init ({ frames := 1, cells := 12, slots := 7567, locals := 12 }) (va_Pc [.ref h0] (pNw dC dI cy ([(h0, .inr (5, [.int 0, .null, .null, .null, .null, .int 0, .int 0, .null, .int 0, .int 0, .int 0, .int 0, .int 0, .int 0, .int 0, .int 0, .int 0, .int 0, .int 0, .null, .null, .int 0, .null, .int 0, .null, .null, .null, .null, .int 0, .int 0, .int 0, .int 0]))]) sz)) (va_Qv (fun (_ : Nat → Nat) => True) (fun (u : Nat → Nat) t => va_P (dC, dI) vwCl (wMdl cy h0 u (upd (fun _ => 0) 9 (-1)) (upr (fun _ _ => 0) 1 (upd (fun _ => 0) 1 8))) t.heap ∧ va_D (va_A ([(h0, .inr (5, [.int 0, .null, .null, .null, .null, .int 0, .int 0, .null, .int 0, .int 0, .int 0, .int 0, .int 0, .int 0, .int 0, .int 0, .int 0, .int 0, .int 0, .null, .null, .int 0, .null, .int 0, .null, .null, .null, .null, .int 0, .int 0, .int 0, .int 0]))]) sz) (wMdl cy h0 u (upd (fun _ => 0) 9 (-1)) (upr (fun _ _ => 0) 1 (upd (fun _ => 0) 1 8)))) (va_A ([(h0, .inr (5, [.int 0, .null, .null, .null, .null, .int 0, .int 0, .null, .int 0, .int 0, .int 0, .int 0, .int 0, .int 0, .int 0, .int 0, .int 0, .int 0, .int 0, .null, .null, .int 0, .null, .int 0, .null, .null, .null, .null, .int 0, .int 0, .int 0, .int 0]))]) sz)) 12 7567 (va_A ([(h0, .inr (5, [.int 0, .null, .null, .null, .null, .int 0, .int 0, .null, .int 0, .int 0, .int 0, .int 0, .int 0, .int 0, .int 0, .int 0, .int 0, .int 0, .int 0, .null, .null, .int 0, .null, .int 0, .null, .null, .null, .null, .int 0, .int 0, .int 0, .int 0]))]) sz) := by
  refine Met.ofW (cc := cX5_init) (maxL := 1) (ret := none) (by decide) rfl ?_
  intro p e s m args below meth c s₁ B hml hv
  obtain ⟨rfl, hsz, hP, hE, hD0, hN⟩ := hv
  have hK := hE.1
  subst hsz
  have hD := hD0.self (sz := s.heap.size)
  generalize hAe : va_A ([(h0, .inr (5, [.int 0, .null, .null, .null, .null, .int 0, .int 0, .null, .int 0, .int 0, .int 0, .int 0, .int 0, .int 0, .int 0, .int 0, .int 0, .int 0, .int 0, .null, .null, .int 0, .null, .int 0, .null, .null, .null, .null, .int 0, .int 0, .int 0, .int 0]))]) s.heap.size = A at hD ⊢
  have hA : ∀ q : Nat, s.heap.size ≤ q → A q := fun q h => by rw [← hAe]; exact Or.inr h
  have hS : va_S A s.heap s.heap [] := va_S.rf
  have hP : va_P (dC, dI) vwCl ([(h0, .inr (5, [.int 0, .null, .null, .null, .null, .int 0, .int 0, .null, .int 0, .int 0, .int 0, .int 0, .int 0, .int 0, .int 0, .int 0, .int 0, .int 0, .int 0, .null, .null, .int 0, .null, .int 0, .null, .null, .null, .null, .int 0, .int 0, .int 0, .int 0]))]) s.heap := hP
  have hx := B.exec
  have hb := B.bytes
  have hr := B.returns
  have hts := atoms_spec (ws := wsX5_init) B.pre
  have hown : s.vm.findClass RX5 = some m.cls := findClass_of_methodNamed B.named
  have hin9 : meth.name = "<init>" := (name_of_methodNamed B.named B.method).1
  have hlocks := B.notSynchronized
  have hin5 : ∀ w ∈ u_ws RX5 TX5 32, w ∈ wsX5_init := by decide +kernel
  have f_13 := hts (.fieldLink RX5 13 "DeadlineAdmissionModel" "frame" "[I") (by decide +kernel)
  have f_16 := hts (.fieldLink RX5 16 "DeadlineAdmissionModel" "saved" "[I") (by decide +kernel)
  have f_19 := hts (.fieldLink RX5 19 "DeadlineAdmissionModel" "history" "[I") (by decide +kernel)
  have f_22 := hts (.fieldLink RX5 22 "DeadlineAdmissionModel" "text" "[I") (by decide +kernel)
  have f_25 := hts (.fieldLink RX5 25 "DeadlineAdmissionModel" "faultAt" "I") (by decide +kernel)
  have f_29 := hts (.fieldLink RX5 29 "DeadlineAdmissionModel" "responses" "[I") (by decide +kernel)
  have f_32 := hts (.fieldLink RX5 32 "DeadlineAdmissionModel" "numbers" "[I") (by decide +kernel)
  have f_35 := hts (.fieldLink RX5 35 "DeadlineAdmissionModel" "points" "[I") (by decide +kernel)
  have f_38 := hts (.fieldLink RX5 38 "DeadlineAdmissionModel" "jobTask" "[I") (by decide +kernel)
  have f_41 := hts (.fieldLink RX5 41 "DeadlineAdmissionModel" "jobRelease" "[I") (by decide +kernel)
  have f_44 := hts (.fieldLink RX5 44 "DeadlineAdmissionModel" "jobRan" "[I") (by decide +kernel)
  have f_47 := hts (.fieldLink RX5 47 "DeadlineAdmissionModel" "jobNeeds" "[I") (by decide +kernel)
  have f_9 := hts (.fieldLink RX5 9 "DeadlineAdmissionModel" "s" "[I") (by decide +kernel)
  have hl := lv_entry ([.ref h0]) (n := 1) (Nat.le_of_ble_eq_true rfl)
  rw [lg_entry_eq]
  generalize (lg_sl ([.ref h0]) ++ List.replicate (1 - (lg_sl ([.ref h0])).length) Slot.unset).toArray = ls at hl ⊢
  have hl : lv_has ls 1 [(0, .ref h0)] := hl
  refine lv_aload_n hx hb dX5_init_0 rfl (lv_at hl 0 rfl) ?_
  refine W.objInit hx hb hown (hts (.methodLink RX5 1 objectInit) (by decide +kernel)) (hts (.instanceMethod objectInit) (by decide +kernel)) (hts (.code objectInit ⟨#[0xb1]⟩ 1 none) (by decide +kernel)) rfl (by rw [hml]; exact hl.1) rfl dX5_init_1 (Nat.le_of_ble_eq_true rfl) (Nat.le_of_ble_eq_true rfl) ?_
  refine W.eq (g2 := F0 m 4 ls []) rfl ?_
  refine lv_aload_n hx hb dX5_init_4 rfl (lv_at hl 0 rfl) ?_
  refine lv_bipush (v := 58) hx hb dX5_init_5 (by decide) ?_
  refine vn_newi (N' := 58) hx hb (hts (.arrayClass .int) (by decide +kernel)) hK 0 rfl hP hD hS hA (by decide) (by decide) (by decide) (Nat.le_of_ble_eq_true rfl) (Nat.le_of_ble_eq_true rfl) dX5_init_7 (fun q_7 H hP hD hS => ?_)
  have hP : va_P (dC, dI) vwCl ([(h0, .inr (5, [.int 0, .null, .null, .null, .null, .int 0, .int 0, .null, .int 0, .int 0, .int 0, .int 0, .int 0, .int 0, .int 0, .int 0, .int 0, .int 0, .int 0, .null, .null, .int 0, .null, .int 0, .null, .null, .null, .null, .int 0, .int 0, .int 0, .int 0])), (q_7, .inl ((cy 0), 58, .inl (fun _ => 0)))]) H := hP
  have hD : va_D A ([(h0, .inr (5, [.int 0, .null, .null, .null, .null, .int 0, .int 0, .null, .int 0, .int 0, .int 0, .int 0, .int 0, .int 0, .int 0, .int 0, .int 0, .int 0, .int 0, .null, .null, .int 0, .null, .int 0, .null, .null, .null, .null, .int 0, .int 0, .int 0, .int 0])), (q_7, .inl ((cy 0), 58, .inl (fun _ => 0)))]) := hD
  refine va_putF (D := (dC, dI)) (ci := 5) (v := .ref q_7) (ty := (.array .int)) (C := RX5) (T := TX5) (N := 32) hx hb hts hin5 tyX5 tyX5_ok nmX5 hown hK hP hD hS 0 rfl rfl 1 (by decide) f_9 (fun _ h9 => h9) rfl hin9 rfl (by decide +kernel) rfl rfl (Nat.le_of_ble_eq_true rfl) dX5_init_9 (fun H locs hP hD hS => ?_)
  have hP : va_P (dC, dI) vwCl ([(h0, .inr (5, [.int 0, .ref q_7, .null, .null, .null, .int 0, .int 0, .null, .int 0, .int 0, .int 0, .int 0, .int 0, .int 0, .int 0, .int 0, .int 0, .int 0, .int 0, .null, .null, .int 0, .null, .int 0, .null, .null, .null, .null, .int 0, .int 0, .int 0, .int 0])), (q_7, .inl ((cy 0), 58, .inl (fun _ => 0)))]) H := hP
  have hD : va_D A ([(h0, .inr (5, [.int 0, .ref q_7, .null, .null, .null, .int 0, .int 0, .null, .int 0, .int 0, .int 0, .int 0, .int 0, .int 0, .int 0, .int 0, .int 0, .int 0, .int 0, .null, .null, .int 0, .null, .int 0, .null, .null, .null, .null, .int 0, .int 0, .int 0, .int 0])), (q_7, .inl ((cy 0), 58, .inl (fun _ => 0)))]) := hD
  refine lv_aload_n hx hb dX5_init_12 rfl (lv_at hl 0 rfl) ?_
  refine lv_bipush (v := 58) hx hb dX5_init_13 (by decide) ?_
  refine vn_newi (N' := 58) hx hb (hts (.arrayClass .int) (by decide +kernel)) hK 0 rfl hP hD hS hA (by decide) (by decide) (by decide) (Nat.le_of_ble_eq_true rfl) (Nat.le_of_ble_eq_true rfl) dX5_init_15 (fun q_15 H hP hD hS => ?_)
  have hP : va_P (dC, dI) vwCl ([(h0, .inr (5, [.int 0, .ref q_7, .null, .null, .null, .int 0, .int 0, .null, .int 0, .int 0, .int 0, .int 0, .int 0, .int 0, .int 0, .int 0, .int 0, .int 0, .int 0, .null, .null, .int 0, .null, .int 0, .null, .null, .null, .null, .int 0, .int 0, .int 0, .int 0])), (q_7, .inl ((cy 0), 58, .inl (fun _ => 0))), (q_15, .inl ((cy 0), 58, .inl (fun _ => 0)))]) H := hP
  have hD : va_D A ([(h0, .inr (5, [.int 0, .ref q_7, .null, .null, .null, .int 0, .int 0, .null, .int 0, .int 0, .int 0, .int 0, .int 0, .int 0, .int 0, .int 0, .int 0, .int 0, .int 0, .null, .null, .int 0, .null, .int 0, .null, .null, .null, .null, .int 0, .int 0, .int 0, .int 0])), (q_7, .inl ((cy 0), 58, .inl (fun _ => 0))), (q_15, .inl ((cy 0), 58, .inl (fun _ => 0)))]) := hD
  refine va_putF (D := (dC, dI)) (ci := 5) (v := .ref q_15) (ty := (.array .int)) (C := RX5) (T := TX5) (N := 32) hx hb hts hin5 tyX5 tyX5_ok nmX5 hown hK hP hD hS 0 rfl rfl 2 (by decide) f_13 (fun _ h9 => h9) rfl hin9 rfl (by decide +kernel) rfl rfl (Nat.le_of_ble_eq_true rfl) dX5_init_17 (fun H locs hP hD hS => ?_)
  have hP : va_P (dC, dI) vwCl ([(h0, .inr (5, [.int 0, .ref q_7, .ref q_15, .null, .null, .int 0, .int 0, .null, .int 0, .int 0, .int 0, .int 0, .int 0, .int 0, .int 0, .int 0, .int 0, .int 0, .int 0, .null, .null, .int 0, .null, .int 0, .null, .null, .null, .null, .int 0, .int 0, .int 0, .int 0])), (q_7, .inl ((cy 0), 58, .inl (fun _ => 0))), (q_15, .inl ((cy 0), 58, .inl (fun _ => 0)))]) H := hP
  have hD : va_D A ([(h0, .inr (5, [.int 0, .ref q_7, .ref q_15, .null, .null, .int 0, .int 0, .null, .int 0, .int 0, .int 0, .int 0, .int 0, .int 0, .int 0, .int 0, .int 0, .int 0, .int 0, .null, .null, .int 0, .null, .int 0, .null, .null, .null, .null, .int 0, .int 0, .int 0, .int 0])), (q_7, .inl ((cy 0), 58, .inl (fun _ => 0))), (q_15, .inl ((cy 0), 58, .inl (fun _ => 0)))]) := hD
  refine lv_aload_n hx hb dX5_init_20 rfl (lv_at hl 0 rfl) ?_
  refine lv_bipush (v := 58) hx hb dX5_init_21 (by decide) ?_
  refine vn_newi (N' := 58) hx hb (hts (.arrayClass .int) (by decide +kernel)) hK 0 rfl hP hD hS hA (by decide) (by decide) (by decide) (Nat.le_of_ble_eq_true rfl) (Nat.le_of_ble_eq_true rfl) dX5_init_23 (fun q_23 H hP hD hS => ?_)
  have hP : va_P (dC, dI) vwCl ([(h0, .inr (5, [.int 0, .ref q_7, .ref q_15, .null, .null, .int 0, .int 0, .null, .int 0, .int 0, .int 0, .int 0, .int 0, .int 0, .int 0, .int 0, .int 0, .int 0, .int 0, .null, .null, .int 0, .null, .int 0, .null, .null, .null, .null, .int 0, .int 0, .int 0, .int 0])), (q_7, .inl ((cy 0), 58, .inl (fun _ => 0))), (q_15, .inl ((cy 0), 58, .inl (fun _ => 0))), (q_23, .inl ((cy 0), 58, .inl (fun _ => 0)))]) H := hP
  have hD : va_D A ([(h0, .inr (5, [.int 0, .ref q_7, .ref q_15, .null, .null, .int 0, .int 0, .null, .int 0, .int 0, .int 0, .int 0, .int 0, .int 0, .int 0, .int 0, .int 0, .int 0, .int 0, .null, .null, .int 0, .null, .int 0, .null, .null, .null, .null, .int 0, .int 0, .int 0, .int 0])), (q_7, .inl ((cy 0), 58, .inl (fun _ => 0))), (q_15, .inl ((cy 0), 58, .inl (fun _ => 0))), (q_23, .inl ((cy 0), 58, .inl (fun _ => 0)))]) := hD
  refine va_putF (D := (dC, dI)) (ci := 5) (v := .ref q_23) (ty := (.array .int)) (C := RX5) (T := TX5) (N := 32) hx hb hts hin5 tyX5 tyX5_ok nmX5 hown hK hP hD hS 0 rfl rfl 3 (by decide) f_16 (fun _ h9 => h9) rfl hin9 rfl (by decide +kernel) rfl rfl (Nat.le_of_ble_eq_true rfl) dX5_init_25 (fun H locs hP hD hS => ?_)
  have hP : va_P (dC, dI) vwCl ([(h0, .inr (5, [.int 0, .ref q_7, .ref q_15, .ref q_23, .null, .int 0, .int 0, .null, .int 0, .int 0, .int 0, .int 0, .int 0, .int 0, .int 0, .int 0, .int 0, .int 0, .int 0, .null, .null, .int 0, .null, .int 0, .null, .null, .null, .null, .int 0, .int 0, .int 0, .int 0])), (q_7, .inl ((cy 0), 58, .inl (fun _ => 0))), (q_15, .inl ((cy 0), 58, .inl (fun _ => 0))), (q_23, .inl ((cy 0), 58, .inl (fun _ => 0)))]) H := hP
  have hD : va_D A ([(h0, .inr (5, [.int 0, .ref q_7, .ref q_15, .ref q_23, .null, .int 0, .int 0, .null, .int 0, .int 0, .int 0, .int 0, .int 0, .int 0, .int 0, .int 0, .int 0, .int 0, .int 0, .null, .null, .int 0, .null, .int 0, .null, .null, .null, .null, .int 0, .int 0, .int 0, .int 0])), (q_7, .inl ((cy 0), 58, .inl (fun _ => 0))), (q_15, .inl ((cy 0), 58, .inl (fun _ => 0))), (q_23, .inl ((cy 0), 58, .inl (fun _ => 0)))]) := hD
  refine lv_aload_n hx hb dX5_init_28 rfl (lv_at hl 0 rfl) ?_
  refine lv_sipush (v := 348) hx hb dX5_init_29 (by decide) ?_
  refine vn_newi (N' := 348) hx hb (hts (.arrayClass .int) (by decide +kernel)) hK 0 rfl hP hD hS hA (by decide) (by decide) (by decide) (Nat.le_of_ble_eq_true rfl) (Nat.le_of_ble_eq_true rfl) dX5_init_32 (fun q_32 H hP hD hS => ?_)
  have hP : va_P (dC, dI) vwCl ([(h0, .inr (5, [.int 0, .ref q_7, .ref q_15, .ref q_23, .null, .int 0, .int 0, .null, .int 0, .int 0, .int 0, .int 0, .int 0, .int 0, .int 0, .int 0, .int 0, .int 0, .int 0, .null, .null, .int 0, .null, .int 0, .null, .null, .null, .null, .int 0, .int 0, .int 0, .int 0])), (q_7, .inl ((cy 0), 58, .inl (fun _ => 0))), (q_15, .inl ((cy 0), 58, .inl (fun _ => 0))), (q_23, .inl ((cy 0), 58, .inl (fun _ => 0))), (q_32, .inl ((cy 0), 348, .inl (fun _ => 0)))]) H := hP
  have hD : va_D A ([(h0, .inr (5, [.int 0, .ref q_7, .ref q_15, .ref q_23, .null, .int 0, .int 0, .null, .int 0, .int 0, .int 0, .int 0, .int 0, .int 0, .int 0, .int 0, .int 0, .int 0, .int 0, .null, .null, .int 0, .null, .int 0, .null, .null, .null, .null, .int 0, .int 0, .int 0, .int 0])), (q_7, .inl ((cy 0), 58, .inl (fun _ => 0))), (q_15, .inl ((cy 0), 58, .inl (fun _ => 0))), (q_23, .inl ((cy 0), 58, .inl (fun _ => 0))), (q_32, .inl ((cy 0), 348, .inl (fun _ => 0)))]) := hD
  refine va_putF (D := (dC, dI)) (ci := 5) (v := .ref q_32) (ty := (.array .int)) (C := RX5) (T := TX5) (N := 32) hx hb hts hin5 tyX5 tyX5_ok nmX5 hown hK hP hD hS 0 rfl rfl 4 (by decide) f_19 (fun _ h9 => h9) rfl hin9 rfl (by decide +kernel) rfl rfl (Nat.le_of_ble_eq_true rfl) dX5_init_34 (fun H locs hP hD hS => ?_)
  have hP : va_P (dC, dI) vwCl ([(h0, .inr (5, [.int 0, .ref q_7, .ref q_15, .ref q_23, .ref q_32, .int 0, .int 0, .null, .int 0, .int 0, .int 0, .int 0, .int 0, .int 0, .int 0, .int 0, .int 0, .int 0, .int 0, .null, .null, .int 0, .null, .int 0, .null, .null, .null, .null, .int 0, .int 0, .int 0, .int 0])), (q_7, .inl ((cy 0), 58, .inl (fun _ => 0))), (q_15, .inl ((cy 0), 58, .inl (fun _ => 0))), (q_23, .inl ((cy 0), 58, .inl (fun _ => 0))), (q_32, .inl ((cy 0), 348, .inl (fun _ => 0)))]) H := hP
  have hD : va_D A ([(h0, .inr (5, [.int 0, .ref q_7, .ref q_15, .ref q_23, .ref q_32, .int 0, .int 0, .null, .int 0, .int 0, .int 0, .int 0, .int 0, .int 0, .int 0, .int 0, .int 0, .int 0, .int 0, .null, .null, .int 0, .null, .int 0, .null, .null, .null, .null, .int 0, .int 0, .int 0, .int 0])), (q_7, .inl ((cy 0), 58, .inl (fun _ => 0))), (q_15, .inl ((cy 0), 58, .inl (fun _ => 0))), (q_23, .inl ((cy 0), 58, .inl (fun _ => 0))), (q_32, .inl ((cy 0), 348, .inl (fun _ => 0)))]) := hD
  refine lv_aload_n hx hb dX5_init_37 rfl (lv_at hl 0 rfl) ?_
  refine lv_bipush (v := 30) hx hb dX5_init_38 (by decide) ?_
  refine vn_newi (N' := 30) hx hb (hts (.arrayClass .int) (by decide +kernel)) hK 0 rfl hP hD hS hA (by decide) (by decide) (by decide) (Nat.le_of_ble_eq_true rfl) (Nat.le_of_ble_eq_true rfl) dX5_init_40 (fun q_40 H hP hD hS => ?_)
  have hP : va_P (dC, dI) vwCl ([(h0, .inr (5, [.int 0, .ref q_7, .ref q_15, .ref q_23, .ref q_32, .int 0, .int 0, .null, .int 0, .int 0, .int 0, .int 0, .int 0, .int 0, .int 0, .int 0, .int 0, .int 0, .int 0, .null, .null, .int 0, .null, .int 0, .null, .null, .null, .null, .int 0, .int 0, .int 0, .int 0])), (q_7, .inl ((cy 0), 58, .inl (fun _ => 0))), (q_15, .inl ((cy 0), 58, .inl (fun _ => 0))), (q_23, .inl ((cy 0), 58, .inl (fun _ => 0))), (q_32, .inl ((cy 0), 348, .inl (fun _ => 0))), (q_40, .inl ((cy 0), 30, .inl (fun _ => 0)))]) H := hP
  have hD : va_D A ([(h0, .inr (5, [.int 0, .ref q_7, .ref q_15, .ref q_23, .ref q_32, .int 0, .int 0, .null, .int 0, .int 0, .int 0, .int 0, .int 0, .int 0, .int 0, .int 0, .int 0, .int 0, .int 0, .null, .null, .int 0, .null, .int 0, .null, .null, .null, .null, .int 0, .int 0, .int 0, .int 0])), (q_7, .inl ((cy 0), 58, .inl (fun _ => 0))), (q_15, .inl ((cy 0), 58, .inl (fun _ => 0))), (q_23, .inl ((cy 0), 58, .inl (fun _ => 0))), (q_32, .inl ((cy 0), 348, .inl (fun _ => 0))), (q_40, .inl ((cy 0), 30, .inl (fun _ => 0)))]) := hD
  refine va_putF (D := (dC, dI)) (ci := 5) (v := .ref q_40) (ty := (.array .int)) (C := RX5) (T := TX5) (N := 32) hx hb hts hin5 tyX5 tyX5_ok nmX5 hown hK hP hD hS 0 rfl rfl 7 (by decide) f_22 (fun _ h9 => h9) rfl hin9 rfl (by decide +kernel) rfl rfl (Nat.le_of_ble_eq_true rfl) dX5_init_42 (fun H locs hP hD hS => ?_)
  have hP : va_P (dC, dI) vwCl ([(h0, .inr (5, [.int 0, .ref q_7, .ref q_15, .ref q_23, .ref q_32, .int 0, .int 0, .ref q_40, .int 0, .int 0, .int 0, .int 0, .int 0, .int 0, .int 0, .int 0, .int 0, .int 0, .int 0, .null, .null, .int 0, .null, .int 0, .null, .null, .null, .null, .int 0, .int 0, .int 0, .int 0])), (q_7, .inl ((cy 0), 58, .inl (fun _ => 0))), (q_15, .inl ((cy 0), 58, .inl (fun _ => 0))), (q_23, .inl ((cy 0), 58, .inl (fun _ => 0))), (q_32, .inl ((cy 0), 348, .inl (fun _ => 0))), (q_40, .inl ((cy 0), 30, .inl (fun _ => 0)))]) H := hP
  have hD : va_D A ([(h0, .inr (5, [.int 0, .ref q_7, .ref q_15, .ref q_23, .ref q_32, .int 0, .int 0, .ref q_40, .int 0, .int 0, .int 0, .int 0, .int 0, .int 0, .int 0, .int 0, .int 0, .int 0, .int 0, .null, .null, .int 0, .null, .int 0, .null, .null, .null, .null, .int 0, .int 0, .int 0, .int 0])), (q_7, .inl ((cy 0), 58, .inl (fun _ => 0))), (q_15, .inl ((cy 0), 58, .inl (fun _ => 0))), (q_23, .inl ((cy 0), 58, .inl (fun _ => 0))), (q_32, .inl ((cy 0), 348, .inl (fun _ => 0))), (q_40, .inl ((cy 0), 30, .inl (fun _ => 0)))]) := hD
  refine lv_aload_n hx hb dX5_init_45 rfl (lv_at hl 0 rfl) ?_
  refine lv_iconst (v := (-1)) hx hb dX5_init_46 (by decide) ?_
  refine va_put (D := (dC, dI)) (ci := 5) (v := .int (-1)) (ty := .int) (C := RX5) (T := TX5) (N := 32) hx hb hts hin5 tyX5 tyX5_ok nmX5 hown hK hP hD hS 0 rfl rfl 9 (by decide) f_25 (fun _ h9 => h9) rfl (by decide +kernel) rfl rfl (Nat.le_of_ble_eq_true rfl) dX5_init_47 (fun H locs hP hD hS => ?_)
  have hP : va_P (dC, dI) vwCl ([(h0, .inr (5, [.int 0, .ref q_7, .ref q_15, .ref q_23, .ref q_32, .int 0, .int 0, .ref q_40, .int 0, .int (-1), .int 0, .int 0, .int 0, .int 0, .int 0, .int 0, .int 0, .int 0, .int 0, .null, .null, .int 0, .null, .int 0, .null, .null, .null, .null, .int 0, .int 0, .int 0, .int 0])), (q_7, .inl ((cy 0), 58, .inl (fun _ => 0))), (q_15, .inl ((cy 0), 58, .inl (fun _ => 0))), (q_23, .inl ((cy 0), 58, .inl (fun _ => 0))), (q_32, .inl ((cy 0), 348, .inl (fun _ => 0))), (q_40, .inl ((cy 0), 30, .inl (fun _ => 0)))]) H := hP
  have hD : va_D A ([(h0, .inr (5, [.int 0, .ref q_7, .ref q_15, .ref q_23, .ref q_32, .int 0, .int 0, .ref q_40, .int 0, .int (-1), .int 0, .int 0, .int 0, .int 0, .int 0, .int 0, .int 0, .int 0, .int 0, .null, .null, .int 0, .null, .int 0, .null, .null, .null, .null, .int 0, .int 0, .int 0, .int 0])), (q_7, .inl ((cy 0), 58, .inl (fun _ => 0))), (q_15, .inl ((cy 0), 58, .inl (fun _ => 0))), (q_23, .inl ((cy 0), 58, .inl (fun _ => 0))), (q_32, .inl ((cy 0), 348, .inl (fun _ => 0))), (q_40, .inl ((cy 0), 30, .inl (fun _ => 0)))]) := hD
  refine lv_aload_n hx hb dX5_init_50 rfl (lv_at hl 0 rfl) ?_
  refine lv_bipush (v := 8) hx hb dX5_init_51 (by decide) ?_
  refine vn_newi (N' := 8) hx hb (hts (.arrayClass .int) (by decide +kernel)) hK 0 rfl hP hD hS hA (by decide) (by decide) (by decide) (Nat.le_of_ble_eq_true rfl) (Nat.le_of_ble_eq_true rfl) dX5_init_53 (fun q_53 H hP hD hS => ?_)
  have hP : va_P (dC, dI) vwCl ([(h0, .inr (5, [.int 0, .ref q_7, .ref q_15, .ref q_23, .ref q_32, .int 0, .int 0, .ref q_40, .int 0, .int (-1), .int 0, .int 0, .int 0, .int 0, .int 0, .int 0, .int 0, .int 0, .int 0, .null, .null, .int 0, .null, .int 0, .null, .null, .null, .null, .int 0, .int 0, .int 0, .int 0])), (q_7, .inl ((cy 0), 58, .inl (fun _ => 0))), (q_15, .inl ((cy 0), 58, .inl (fun _ => 0))), (q_23, .inl ((cy 0), 58, .inl (fun _ => 0))), (q_32, .inl ((cy 0), 348, .inl (fun _ => 0))), (q_40, .inl ((cy 0), 30, .inl (fun _ => 0))), (q_53, .inl ((cy 0), 8, .inl (fun _ => 0)))]) H := hP
  have hD : va_D A ([(h0, .inr (5, [.int 0, .ref q_7, .ref q_15, .ref q_23, .ref q_32, .int 0, .int 0, .ref q_40, .int 0, .int (-1), .int 0, .int 0, .int 0, .int 0, .int 0, .int 0, .int 0, .int 0, .int 0, .null, .null, .int 0, .null, .int 0, .null, .null, .null, .null, .int 0, .int 0, .int 0, .int 0])), (q_7, .inl ((cy 0), 58, .inl (fun _ => 0))), (q_15, .inl ((cy 0), 58, .inl (fun _ => 0))), (q_23, .inl ((cy 0), 58, .inl (fun _ => 0))), (q_32, .inl ((cy 0), 348, .inl (fun _ => 0))), (q_40, .inl ((cy 0), 30, .inl (fun _ => 0))), (q_53, .inl ((cy 0), 8, .inl (fun _ => 0)))]) := hD
  refine va_putF (D := (dC, dI)) (ci := 5) (v := .ref q_53) (ty := (.array .int)) (C := RX5) (T := TX5) (N := 32) hx hb hts hin5 tyX5 tyX5_ok nmX5 hown hK hP hD hS 0 rfl rfl 19 (by decide) f_29 (fun _ h9 => h9) rfl hin9 rfl (by decide +kernel) rfl rfl (Nat.le_of_ble_eq_true rfl) dX5_init_55 (fun H locs hP hD hS => ?_)
  have hP : va_P (dC, dI) vwCl ([(h0, .inr (5, [.int 0, .ref q_7, .ref q_15, .ref q_23, .ref q_32, .int 0, .int 0, .ref q_40, .int 0, .int (-1), .int 0, .int 0, .int 0, .int 0, .int 0, .int 0, .int 0, .int 0, .int 0, .ref q_53, .null, .int 0, .null, .int 0, .null, .null, .null, .null, .int 0, .int 0, .int 0, .int 0])), (q_7, .inl ((cy 0), 58, .inl (fun _ => 0))), (q_15, .inl ((cy 0), 58, .inl (fun _ => 0))), (q_23, .inl ((cy 0), 58, .inl (fun _ => 0))), (q_32, .inl ((cy 0), 348, .inl (fun _ => 0))), (q_40, .inl ((cy 0), 30, .inl (fun _ => 0))), (q_53, .inl ((cy 0), 8, .inl (fun _ => 0)))]) H := hP
  have hD : va_D A ([(h0, .inr (5, [.int 0, .ref q_7, .ref q_15, .ref q_23, .ref q_32, .int 0, .int 0, .ref q_40, .int 0, .int (-1), .int 0, .int 0, .int 0, .int 0, .int 0, .int 0, .int 0, .int 0, .int 0, .ref q_53, .null, .int 0, .null, .int 0, .null, .null, .null, .null, .int 0, .int 0, .int 0, .int 0])), (q_7, .inl ((cy 0), 58, .inl (fun _ => 0))), (q_15, .inl ((cy 0), 58, .inl (fun _ => 0))), (q_23, .inl ((cy 0), 58, .inl (fun _ => 0))), (q_32, .inl ((cy 0), 348, .inl (fun _ => 0))), (q_40, .inl ((cy 0), 30, .inl (fun _ => 0))), (q_53, .inl ((cy 0), 8, .inl (fun _ => 0)))]) := hD
  refine lv_aload_n hx hb dX5_init_58 rfl (lv_at hl 0 rfl) ?_
  refine lv_bipush (v := 6) hx hb dX5_init_59 (by decide) ?_
  refine vn_newi (N' := 6) hx hb (hts (.arrayClass .int) (by decide +kernel)) hK 0 rfl hP hD hS hA (by decide) (by decide) (by decide) (Nat.le_of_ble_eq_true rfl) (Nat.le_of_ble_eq_true rfl) dX5_init_61 (fun q_61 H hP hD hS => ?_)
  have hP : va_P (dC, dI) vwCl ([(h0, .inr (5, [.int 0, .ref q_7, .ref q_15, .ref q_23, .ref q_32, .int 0, .int 0, .ref q_40, .int 0, .int (-1), .int 0, .int 0, .int 0, .int 0, .int 0, .int 0, .int 0, .int 0, .int 0, .ref q_53, .null, .int 0, .null, .int 0, .null, .null, .null, .null, .int 0, .int 0, .int 0, .int 0])), (q_7, .inl ((cy 0), 58, .inl (fun _ => 0))), (q_15, .inl ((cy 0), 58, .inl (fun _ => 0))), (q_23, .inl ((cy 0), 58, .inl (fun _ => 0))), (q_32, .inl ((cy 0), 348, .inl (fun _ => 0))), (q_40, .inl ((cy 0), 30, .inl (fun _ => 0))), (q_53, .inl ((cy 0), 8, .inl (fun _ => 0))), (q_61, .inl ((cy 0), 6, .inl (fun _ => 0)))]) H := hP
  have hD : va_D A ([(h0, .inr (5, [.int 0, .ref q_7, .ref q_15, .ref q_23, .ref q_32, .int 0, .int 0, .ref q_40, .int 0, .int (-1), .int 0, .int 0, .int 0, .int 0, .int 0, .int 0, .int 0, .int 0, .int 0, .ref q_53, .null, .int 0, .null, .int 0, .null, .null, .null, .null, .int 0, .int 0, .int 0, .int 0])), (q_7, .inl ((cy 0), 58, .inl (fun _ => 0))), (q_15, .inl ((cy 0), 58, .inl (fun _ => 0))), (q_23, .inl ((cy 0), 58, .inl (fun _ => 0))), (q_32, .inl ((cy 0), 348, .inl (fun _ => 0))), (q_40, .inl ((cy 0), 30, .inl (fun _ => 0))), (q_53, .inl ((cy 0), 8, .inl (fun _ => 0))), (q_61, .inl ((cy 0), 6, .inl (fun _ => 0)))]) := hD
  refine va_putF (D := (dC, dI)) (ci := 5) (v := .ref q_61) (ty := (.array .int)) (C := RX5) (T := TX5) (N := 32) hx hb hts hin5 tyX5 tyX5_ok nmX5 hown hK hP hD hS 0 rfl rfl 20 (by decide) f_32 (fun _ h9 => h9) rfl hin9 rfl (by decide +kernel) rfl rfl (Nat.le_of_ble_eq_true rfl) dX5_init_63 (fun H locs hP hD hS => ?_)
  have hP : va_P (dC, dI) vwCl ([(h0, .inr (5, [.int 0, .ref q_7, .ref q_15, .ref q_23, .ref q_32, .int 0, .int 0, .ref q_40, .int 0, .int (-1), .int 0, .int 0, .int 0, .int 0, .int 0, .int 0, .int 0, .int 0, .int 0, .ref q_53, .ref q_61, .int 0, .null, .int 0, .null, .null, .null, .null, .int 0, .int 0, .int 0, .int 0])), (q_7, .inl ((cy 0), 58, .inl (fun _ => 0))), (q_15, .inl ((cy 0), 58, .inl (fun _ => 0))), (q_23, .inl ((cy 0), 58, .inl (fun _ => 0))), (q_32, .inl ((cy 0), 348, .inl (fun _ => 0))), (q_40, .inl ((cy 0), 30, .inl (fun _ => 0))), (q_53, .inl ((cy 0), 8, .inl (fun _ => 0))), (q_61, .inl ((cy 0), 6, .inl (fun _ => 0)))]) H := hP
  have hD : va_D A ([(h0, .inr (5, [.int 0, .ref q_7, .ref q_15, .ref q_23, .ref q_32, .int 0, .int 0, .ref q_40, .int 0, .int (-1), .int 0, .int 0, .int 0, .int 0, .int 0, .int 0, .int 0, .int 0, .int 0, .ref q_53, .ref q_61, .int 0, .null, .int 0, .null, .null, .null, .null, .int 0, .int 0, .int 0, .int 0])), (q_7, .inl ((cy 0), 58, .inl (fun _ => 0))), (q_15, .inl ((cy 0), 58, .inl (fun _ => 0))), (q_23, .inl ((cy 0), 58, .inl (fun _ => 0))), (q_32, .inl ((cy 0), 348, .inl (fun _ => 0))), (q_40, .inl ((cy 0), 30, .inl (fun _ => 0))), (q_53, .inl ((cy 0), 8, .inl (fun _ => 0))), (q_61, .inl ((cy 0), 6, .inl (fun _ => 0)))]) := hD
  refine lv_aload_n hx hb dX5_init_66 rfl (lv_at hl 0 rfl) ?_
  refine lv_sipush (v := 201) hx hb dX5_init_67 (by decide) ?_
  refine vn_newi (N' := 201) hx hb (hts (.arrayClass .int) (by decide +kernel)) hK 0 rfl hP hD hS hA (by decide) (by decide) (by decide) (Nat.le_of_ble_eq_true rfl) (Nat.le_of_ble_eq_true rfl) dX5_init_70 (fun q_70 H hP hD hS => ?_)
  have hP : va_P (dC, dI) vwCl ([(h0, .inr (5, [.int 0, .ref q_7, .ref q_15, .ref q_23, .ref q_32, .int 0, .int 0, .ref q_40, .int 0, .int (-1), .int 0, .int 0, .int 0, .int 0, .int 0, .int 0, .int 0, .int 0, .int 0, .ref q_53, .ref q_61, .int 0, .null, .int 0, .null, .null, .null, .null, .int 0, .int 0, .int 0, .int 0])), (q_7, .inl ((cy 0), 58, .inl (fun _ => 0))), (q_15, .inl ((cy 0), 58, .inl (fun _ => 0))), (q_23, .inl ((cy 0), 58, .inl (fun _ => 0))), (q_32, .inl ((cy 0), 348, .inl (fun _ => 0))), (q_40, .inl ((cy 0), 30, .inl (fun _ => 0))), (q_53, .inl ((cy 0), 8, .inl (fun _ => 0))), (q_61, .inl ((cy 0), 6, .inl (fun _ => 0))), (q_70, .inl ((cy 0), 201, .inl (fun _ => 0)))]) H := hP
  have hD : va_D A ([(h0, .inr (5, [.int 0, .ref q_7, .ref q_15, .ref q_23, .ref q_32, .int 0, .int 0, .ref q_40, .int 0, .int (-1), .int 0, .int 0, .int 0, .int 0, .int 0, .int 0, .int 0, .int 0, .int 0, .ref q_53, .ref q_61, .int 0, .null, .int 0, .null, .null, .null, .null, .int 0, .int 0, .int 0, .int 0])), (q_7, .inl ((cy 0), 58, .inl (fun _ => 0))), (q_15, .inl ((cy 0), 58, .inl (fun _ => 0))), (q_23, .inl ((cy 0), 58, .inl (fun _ => 0))), (q_32, .inl ((cy 0), 348, .inl (fun _ => 0))), (q_40, .inl ((cy 0), 30, .inl (fun _ => 0))), (q_53, .inl ((cy 0), 8, .inl (fun _ => 0))), (q_61, .inl ((cy 0), 6, .inl (fun _ => 0))), (q_70, .inl ((cy 0), 201, .inl (fun _ => 0)))]) := hD
  refine va_putF (D := (dC, dI)) (ci := 5) (v := .ref q_70) (ty := (.array .int)) (C := RX5) (T := TX5) (N := 32) hx hb hts hin5 tyX5 tyX5_ok nmX5 hown hK hP hD hS 0 rfl rfl 22 (by decide) f_35 (fun _ h9 => h9) rfl hin9 rfl (by decide +kernel) rfl rfl (Nat.le_of_ble_eq_true rfl) dX5_init_72 (fun H locs hP hD hS => ?_)
  have hP : va_P (dC, dI) vwCl ([(h0, .inr (5, [.int 0, .ref q_7, .ref q_15, .ref q_23, .ref q_32, .int 0, .int 0, .ref q_40, .int 0, .int (-1), .int 0, .int 0, .int 0, .int 0, .int 0, .int 0, .int 0, .int 0, .int 0, .ref q_53, .ref q_61, .int 0, .ref q_70, .int 0, .null, .null, .null, .null, .int 0, .int 0, .int 0, .int 0])), (q_7, .inl ((cy 0), 58, .inl (fun _ => 0))), (q_15, .inl ((cy 0), 58, .inl (fun _ => 0))), (q_23, .inl ((cy 0), 58, .inl (fun _ => 0))), (q_32, .inl ((cy 0), 348, .inl (fun _ => 0))), (q_40, .inl ((cy 0), 30, .inl (fun _ => 0))), (q_53, .inl ((cy 0), 8, .inl (fun _ => 0))), (q_61, .inl ((cy 0), 6, .inl (fun _ => 0))), (q_70, .inl ((cy 0), 201, .inl (fun _ => 0)))]) H := hP
  have hD : va_D A ([(h0, .inr (5, [.int 0, .ref q_7, .ref q_15, .ref q_23, .ref q_32, .int 0, .int 0, .ref q_40, .int 0, .int (-1), .int 0, .int 0, .int 0, .int 0, .int 0, .int 0, .int 0, .int 0, .int 0, .ref q_53, .ref q_61, .int 0, .ref q_70, .int 0, .null, .null, .null, .null, .int 0, .int 0, .int 0, .int 0])), (q_7, .inl ((cy 0), 58, .inl (fun _ => 0))), (q_15, .inl ((cy 0), 58, .inl (fun _ => 0))), (q_23, .inl ((cy 0), 58, .inl (fun _ => 0))), (q_32, .inl ((cy 0), 348, .inl (fun _ => 0))), (q_40, .inl ((cy 0), 30, .inl (fun _ => 0))), (q_53, .inl ((cy 0), 8, .inl (fun _ => 0))), (q_61, .inl ((cy 0), 6, .inl (fun _ => 0))), (q_70, .inl ((cy 0), 201, .inl (fun _ => 0)))]) := hD
  refine lv_aload_n hx hb dX5_init_75 rfl (lv_at hl 0 rfl) ?_
  refine lv_sipush (v := 1700) hx hb dX5_init_76 (by decide) ?_
  refine vn_newi (N' := 1700) hx hb (hts (.arrayClass .int) (by decide +kernel)) hK 0 rfl hP hD hS hA (by decide) (by decide) (by decide) (Nat.le_of_ble_eq_true rfl) (Nat.le_of_ble_eq_true rfl) dX5_init_79 (fun q_79 H hP hD hS => ?_)
  have hP : va_P (dC, dI) vwCl ([(h0, .inr (5, [.int 0, .ref q_7, .ref q_15, .ref q_23, .ref q_32, .int 0, .int 0, .ref q_40, .int 0, .int (-1), .int 0, .int 0, .int 0, .int 0, .int 0, .int 0, .int 0, .int 0, .int 0, .ref q_53, .ref q_61, .int 0, .ref q_70, .int 0, .null, .null, .null, .null, .int 0, .int 0, .int 0, .int 0])), (q_7, .inl ((cy 0), 58, .inl (fun _ => 0))), (q_15, .inl ((cy 0), 58, .inl (fun _ => 0))), (q_23, .inl ((cy 0), 58, .inl (fun _ => 0))), (q_32, .inl ((cy 0), 348, .inl (fun _ => 0))), (q_40, .inl ((cy 0), 30, .inl (fun _ => 0))), (q_53, .inl ((cy 0), 8, .inl (fun _ => 0))), (q_61, .inl ((cy 0), 6, .inl (fun _ => 0))), (q_70, .inl ((cy 0), 201, .inl (fun _ => 0))), (q_79, .inl ((cy 0), 1700, .inl (fun _ => 0)))]) H := hP
  have hD : va_D A ([(h0, .inr (5, [.int 0, .ref q_7, .ref q_15, .ref q_23, .ref q_32, .int 0, .int 0, .ref q_40, .int 0, .int (-1), .int 0, .int 0, .int 0, .int 0, .int 0, .int 0, .int 0, .int 0, .int 0, .ref q_53, .ref q_61, .int 0, .ref q_70, .int 0, .null, .null, .null, .null, .int 0, .int 0, .int 0, .int 0])), (q_7, .inl ((cy 0), 58, .inl (fun _ => 0))), (q_15, .inl ((cy 0), 58, .inl (fun _ => 0))), (q_23, .inl ((cy 0), 58, .inl (fun _ => 0))), (q_32, .inl ((cy 0), 348, .inl (fun _ => 0))), (q_40, .inl ((cy 0), 30, .inl (fun _ => 0))), (q_53, .inl ((cy 0), 8, .inl (fun _ => 0))), (q_61, .inl ((cy 0), 6, .inl (fun _ => 0))), (q_70, .inl ((cy 0), 201, .inl (fun _ => 0))), (q_79, .inl ((cy 0), 1700, .inl (fun _ => 0)))]) := hD
  refine va_putF (D := (dC, dI)) (ci := 5) (v := .ref q_79) (ty := (.array .int)) (C := RX5) (T := TX5) (N := 32) hx hb hts hin5 tyX5 tyX5_ok nmX5 hown hK hP hD hS 0 rfl rfl 24 (by decide) f_38 (fun _ h9 => h9) rfl hin9 rfl (by decide +kernel) rfl rfl (Nat.le_of_ble_eq_true rfl) dX5_init_81 (fun H locs hP hD hS => ?_)
  have hP : va_P (dC, dI) vwCl ([(h0, .inr (5, [.int 0, .ref q_7, .ref q_15, .ref q_23, .ref q_32, .int 0, .int 0, .ref q_40, .int 0, .int (-1), .int 0, .int 0, .int 0, .int 0, .int 0, .int 0, .int 0, .int 0, .int 0, .ref q_53, .ref q_61, .int 0, .ref q_70, .int 0, .ref q_79, .null, .null, .null, .int 0, .int 0, .int 0, .int 0])), (q_7, .inl ((cy 0), 58, .inl (fun _ => 0))), (q_15, .inl ((cy 0), 58, .inl (fun _ => 0))), (q_23, .inl ((cy 0), 58, .inl (fun _ => 0))), (q_32, .inl ((cy 0), 348, .inl (fun _ => 0))), (q_40, .inl ((cy 0), 30, .inl (fun _ => 0))), (q_53, .inl ((cy 0), 8, .inl (fun _ => 0))), (q_61, .inl ((cy 0), 6, .inl (fun _ => 0))), (q_70, .inl ((cy 0), 201, .inl (fun _ => 0))), (q_79, .inl ((cy 0), 1700, .inl (fun _ => 0)))]) H := hP
  have hD : va_D A ([(h0, .inr (5, [.int 0, .ref q_7, .ref q_15, .ref q_23, .ref q_32, .int 0, .int 0, .ref q_40, .int 0, .int (-1), .int 0, .int 0, .int 0, .int 0, .int 0, .int 0, .int 0, .int 0, .int 0, .ref q_53, .ref q_61, .int 0, .ref q_70, .int 0, .ref q_79, .null, .null, .null, .int 0, .int 0, .int 0, .int 0])), (q_7, .inl ((cy 0), 58, .inl (fun _ => 0))), (q_15, .inl ((cy 0), 58, .inl (fun _ => 0))), (q_23, .inl ((cy 0), 58, .inl (fun _ => 0))), (q_32, .inl ((cy 0), 348, .inl (fun _ => 0))), (q_40, .inl ((cy 0), 30, .inl (fun _ => 0))), (q_53, .inl ((cy 0), 8, .inl (fun _ => 0))), (q_61, .inl ((cy 0), 6, .inl (fun _ => 0))), (q_70, .inl ((cy 0), 201, .inl (fun _ => 0))), (q_79, .inl ((cy 0), 1700, .inl (fun _ => 0)))]) := hD
  refine lv_aload_n hx hb dX5_init_84 rfl (lv_at hl 0 rfl) ?_
  refine lv_sipush (v := 1700) hx hb dX5_init_85 (by decide) ?_
  refine vn_newi (N' := 1700) hx hb (hts (.arrayClass .int) (by decide +kernel)) hK 0 rfl hP hD hS hA (by decide) (by decide) (by decide) (Nat.le_of_ble_eq_true rfl) (Nat.le_of_ble_eq_true rfl) dX5_init_88 (fun q_88 H hP hD hS => ?_)
  have hP : va_P (dC, dI) vwCl ([(h0, .inr (5, [.int 0, .ref q_7, .ref q_15, .ref q_23, .ref q_32, .int 0, .int 0, .ref q_40, .int 0, .int (-1), .int 0, .int 0, .int 0, .int 0, .int 0, .int 0, .int 0, .int 0, .int 0, .ref q_53, .ref q_61, .int 0, .ref q_70, .int 0, .ref q_79, .null, .null, .null, .int 0, .int 0, .int 0, .int 0])), (q_7, .inl ((cy 0), 58, .inl (fun _ => 0))), (q_15, .inl ((cy 0), 58, .inl (fun _ => 0))), (q_23, .inl ((cy 0), 58, .inl (fun _ => 0))), (q_32, .inl ((cy 0), 348, .inl (fun _ => 0))), (q_40, .inl ((cy 0), 30, .inl (fun _ => 0))), (q_53, .inl ((cy 0), 8, .inl (fun _ => 0))), (q_61, .inl ((cy 0), 6, .inl (fun _ => 0))), (q_70, .inl ((cy 0), 201, .inl (fun _ => 0))), (q_79, .inl ((cy 0), 1700, .inl (fun _ => 0))), (q_88, .inl ((cy 0), 1700, .inl (fun _ => 0)))]) H := hP
  have hD : va_D A ([(h0, .inr (5, [.int 0, .ref q_7, .ref q_15, .ref q_23, .ref q_32, .int 0, .int 0, .ref q_40, .int 0, .int (-1), .int 0, .int 0, .int 0, .int 0, .int 0, .int 0, .int 0, .int 0, .int 0, .ref q_53, .ref q_61, .int 0, .ref q_70, .int 0, .ref q_79, .null, .null, .null, .int 0, .int 0, .int 0, .int 0])), (q_7, .inl ((cy 0), 58, .inl (fun _ => 0))), (q_15, .inl ((cy 0), 58, .inl (fun _ => 0))), (q_23, .inl ((cy 0), 58, .inl (fun _ => 0))), (q_32, .inl ((cy 0), 348, .inl (fun _ => 0))), (q_40, .inl ((cy 0), 30, .inl (fun _ => 0))), (q_53, .inl ((cy 0), 8, .inl (fun _ => 0))), (q_61, .inl ((cy 0), 6, .inl (fun _ => 0))), (q_70, .inl ((cy 0), 201, .inl (fun _ => 0))), (q_79, .inl ((cy 0), 1700, .inl (fun _ => 0))), (q_88, .inl ((cy 0), 1700, .inl (fun _ => 0)))]) := hD
  refine va_putF (D := (dC, dI)) (ci := 5) (v := .ref q_88) (ty := (.array .int)) (C := RX5) (T := TX5) (N := 32) hx hb hts hin5 tyX5 tyX5_ok nmX5 hown hK hP hD hS 0 rfl rfl 25 (by decide) f_41 (fun _ h9 => h9) rfl hin9 rfl (by decide +kernel) rfl rfl (Nat.le_of_ble_eq_true rfl) dX5_init_90 (fun H locs hP hD hS => ?_)
  have hP : va_P (dC, dI) vwCl ([(h0, .inr (5, [.int 0, .ref q_7, .ref q_15, .ref q_23, .ref q_32, .int 0, .int 0, .ref q_40, .int 0, .int (-1), .int 0, .int 0, .int 0, .int 0, .int 0, .int 0, .int 0, .int 0, .int 0, .ref q_53, .ref q_61, .int 0, .ref q_70, .int 0, .ref q_79, .ref q_88, .null, .null, .int 0, .int 0, .int 0, .int 0])), (q_7, .inl ((cy 0), 58, .inl (fun _ => 0))), (q_15, .inl ((cy 0), 58, .inl (fun _ => 0))), (q_23, .inl ((cy 0), 58, .inl (fun _ => 0))), (q_32, .inl ((cy 0), 348, .inl (fun _ => 0))), (q_40, .inl ((cy 0), 30, .inl (fun _ => 0))), (q_53, .inl ((cy 0), 8, .inl (fun _ => 0))), (q_61, .inl ((cy 0), 6, .inl (fun _ => 0))), (q_70, .inl ((cy 0), 201, .inl (fun _ => 0))), (q_79, .inl ((cy 0), 1700, .inl (fun _ => 0))), (q_88, .inl ((cy 0), 1700, .inl (fun _ => 0)))]) H := hP
  have hD : va_D A ([(h0, .inr (5, [.int 0, .ref q_7, .ref q_15, .ref q_23, .ref q_32, .int 0, .int 0, .ref q_40, .int 0, .int (-1), .int 0, .int 0, .int 0, .int 0, .int 0, .int 0, .int 0, .int 0, .int 0, .ref q_53, .ref q_61, .int 0, .ref q_70, .int 0, .ref q_79, .ref q_88, .null, .null, .int 0, .int 0, .int 0, .int 0])), (q_7, .inl ((cy 0), 58, .inl (fun _ => 0))), (q_15, .inl ((cy 0), 58, .inl (fun _ => 0))), (q_23, .inl ((cy 0), 58, .inl (fun _ => 0))), (q_32, .inl ((cy 0), 348, .inl (fun _ => 0))), (q_40, .inl ((cy 0), 30, .inl (fun _ => 0))), (q_53, .inl ((cy 0), 8, .inl (fun _ => 0))), (q_61, .inl ((cy 0), 6, .inl (fun _ => 0))), (q_70, .inl ((cy 0), 201, .inl (fun _ => 0))), (q_79, .inl ((cy 0), 1700, .inl (fun _ => 0))), (q_88, .inl ((cy 0), 1700, .inl (fun _ => 0)))]) := hD
  refine lv_aload_n hx hb dX5_init_93 rfl (lv_at hl 0 rfl) ?_
  refine lv_sipush (v := 1700) hx hb dX5_init_94 (by decide) ?_
  refine vn_newi (N' := 1700) hx hb (hts (.arrayClass .int) (by decide +kernel)) hK 0 rfl hP hD hS hA (by decide) (by decide) (by decide) (Nat.le_of_ble_eq_true rfl) (Nat.le_of_ble_eq_true rfl) dX5_init_97 (fun q_97 H hP hD hS => ?_)
  have hP : va_P (dC, dI) vwCl ([(h0, .inr (5, [.int 0, .ref q_7, .ref q_15, .ref q_23, .ref q_32, .int 0, .int 0, .ref q_40, .int 0, .int (-1), .int 0, .int 0, .int 0, .int 0, .int 0, .int 0, .int 0, .int 0, .int 0, .ref q_53, .ref q_61, .int 0, .ref q_70, .int 0, .ref q_79, .ref q_88, .null, .null, .int 0, .int 0, .int 0, .int 0])), (q_7, .inl ((cy 0), 58, .inl (fun _ => 0))), (q_15, .inl ((cy 0), 58, .inl (fun _ => 0))), (q_23, .inl ((cy 0), 58, .inl (fun _ => 0))), (q_32, .inl ((cy 0), 348, .inl (fun _ => 0))), (q_40, .inl ((cy 0), 30, .inl (fun _ => 0))), (q_53, .inl ((cy 0), 8, .inl (fun _ => 0))), (q_61, .inl ((cy 0), 6, .inl (fun _ => 0))), (q_70, .inl ((cy 0), 201, .inl (fun _ => 0))), (q_79, .inl ((cy 0), 1700, .inl (fun _ => 0))), (q_88, .inl ((cy 0), 1700, .inl (fun _ => 0))), (q_97, .inl ((cy 0), 1700, .inl (fun _ => 0)))]) H := hP
  have hD : va_D A ([(h0, .inr (5, [.int 0, .ref q_7, .ref q_15, .ref q_23, .ref q_32, .int 0, .int 0, .ref q_40, .int 0, .int (-1), .int 0, .int 0, .int 0, .int 0, .int 0, .int 0, .int 0, .int 0, .int 0, .ref q_53, .ref q_61, .int 0, .ref q_70, .int 0, .ref q_79, .ref q_88, .null, .null, .int 0, .int 0, .int 0, .int 0])), (q_7, .inl ((cy 0), 58, .inl (fun _ => 0))), (q_15, .inl ((cy 0), 58, .inl (fun _ => 0))), (q_23, .inl ((cy 0), 58, .inl (fun _ => 0))), (q_32, .inl ((cy 0), 348, .inl (fun _ => 0))), (q_40, .inl ((cy 0), 30, .inl (fun _ => 0))), (q_53, .inl ((cy 0), 8, .inl (fun _ => 0))), (q_61, .inl ((cy 0), 6, .inl (fun _ => 0))), (q_70, .inl ((cy 0), 201, .inl (fun _ => 0))), (q_79, .inl ((cy 0), 1700, .inl (fun _ => 0))), (q_88, .inl ((cy 0), 1700, .inl (fun _ => 0))), (q_97, .inl ((cy 0), 1700, .inl (fun _ => 0)))]) := hD
  refine va_putF (D := (dC, dI)) (ci := 5) (v := .ref q_97) (ty := (.array .int)) (C := RX5) (T := TX5) (N := 32) hx hb hts hin5 tyX5 tyX5_ok nmX5 hown hK hP hD hS 0 rfl rfl 26 (by decide) f_44 (fun _ h9 => h9) rfl hin9 rfl (by decide +kernel) rfl rfl (Nat.le_of_ble_eq_true rfl) dX5_init_99 (fun H locs hP hD hS => ?_)
  have hP : va_P (dC, dI) vwCl ([(h0, .inr (5, [.int 0, .ref q_7, .ref q_15, .ref q_23, .ref q_32, .int 0, .int 0, .ref q_40, .int 0, .int (-1), .int 0, .int 0, .int 0, .int 0, .int 0, .int 0, .int 0, .int 0, .int 0, .ref q_53, .ref q_61, .int 0, .ref q_70, .int 0, .ref q_79, .ref q_88, .ref q_97, .null, .int 0, .int 0, .int 0, .int 0])), (q_7, .inl ((cy 0), 58, .inl (fun _ => 0))), (q_15, .inl ((cy 0), 58, .inl (fun _ => 0))), (q_23, .inl ((cy 0), 58, .inl (fun _ => 0))), (q_32, .inl ((cy 0), 348, .inl (fun _ => 0))), (q_40, .inl ((cy 0), 30, .inl (fun _ => 0))), (q_53, .inl ((cy 0), 8, .inl (fun _ => 0))), (q_61, .inl ((cy 0), 6, .inl (fun _ => 0))), (q_70, .inl ((cy 0), 201, .inl (fun _ => 0))), (q_79, .inl ((cy 0), 1700, .inl (fun _ => 0))), (q_88, .inl ((cy 0), 1700, .inl (fun _ => 0))), (q_97, .inl ((cy 0), 1700, .inl (fun _ => 0)))]) H := hP
  have hD : va_D A ([(h0, .inr (5, [.int 0, .ref q_7, .ref q_15, .ref q_23, .ref q_32, .int 0, .int 0, .ref q_40, .int 0, .int (-1), .int 0, .int 0, .int 0, .int 0, .int 0, .int 0, .int 0, .int 0, .int 0, .ref q_53, .ref q_61, .int 0, .ref q_70, .int 0, .ref q_79, .ref q_88, .ref q_97, .null, .int 0, .int 0, .int 0, .int 0])), (q_7, .inl ((cy 0), 58, .inl (fun _ => 0))), (q_15, .inl ((cy 0), 58, .inl (fun _ => 0))), (q_23, .inl ((cy 0), 58, .inl (fun _ => 0))), (q_32, .inl ((cy 0), 348, .inl (fun _ => 0))), (q_40, .inl ((cy 0), 30, .inl (fun _ => 0))), (q_53, .inl ((cy 0), 8, .inl (fun _ => 0))), (q_61, .inl ((cy 0), 6, .inl (fun _ => 0))), (q_70, .inl ((cy 0), 201, .inl (fun _ => 0))), (q_79, .inl ((cy 0), 1700, .inl (fun _ => 0))), (q_88, .inl ((cy 0), 1700, .inl (fun _ => 0))), (q_97, .inl ((cy 0), 1700, .inl (fun _ => 0)))]) := hD
  refine lv_aload_n hx hb dX5_init_102 rfl (lv_at hl 0 rfl) ?_
  refine lv_sipush (v := 1700) hx hb dX5_init_103 (by decide) ?_
  refine vn_newi (N' := 1700) hx hb (hts (.arrayClass .int) (by decide +kernel)) hK 0 rfl hP hD hS hA (by decide) (by decide) (by decide) (Nat.le_of_ble_eq_true rfl) (Nat.le_of_ble_eq_true rfl) dX5_init_106 (fun q_106 H hP hD hS => ?_)
  have hP : va_P (dC, dI) vwCl ([(h0, .inr (5, [.int 0, .ref q_7, .ref q_15, .ref q_23, .ref q_32, .int 0, .int 0, .ref q_40, .int 0, .int (-1), .int 0, .int 0, .int 0, .int 0, .int 0, .int 0, .int 0, .int 0, .int 0, .ref q_53, .ref q_61, .int 0, .ref q_70, .int 0, .ref q_79, .ref q_88, .ref q_97, .null, .int 0, .int 0, .int 0, .int 0])), (q_7, .inl ((cy 0), 58, .inl (fun _ => 0))), (q_15, .inl ((cy 0), 58, .inl (fun _ => 0))), (q_23, .inl ((cy 0), 58, .inl (fun _ => 0))), (q_32, .inl ((cy 0), 348, .inl (fun _ => 0))), (q_40, .inl ((cy 0), 30, .inl (fun _ => 0))), (q_53, .inl ((cy 0), 8, .inl (fun _ => 0))), (q_61, .inl ((cy 0), 6, .inl (fun _ => 0))), (q_70, .inl ((cy 0), 201, .inl (fun _ => 0))), (q_79, .inl ((cy 0), 1700, .inl (fun _ => 0))), (q_88, .inl ((cy 0), 1700, .inl (fun _ => 0))), (q_97, .inl ((cy 0), 1700, .inl (fun _ => 0))), (q_106, .inl ((cy 0), 1700, .inl (fun _ => 0)))]) H := hP
  have hD : va_D A ([(h0, .inr (5, [.int 0, .ref q_7, .ref q_15, .ref q_23, .ref q_32, .int 0, .int 0, .ref q_40, .int 0, .int (-1), .int 0, .int 0, .int 0, .int 0, .int 0, .int 0, .int 0, .int 0, .int 0, .ref q_53, .ref q_61, .int 0, .ref q_70, .int 0, .ref q_79, .ref q_88, .ref q_97, .null, .int 0, .int 0, .int 0, .int 0])), (q_7, .inl ((cy 0), 58, .inl (fun _ => 0))), (q_15, .inl ((cy 0), 58, .inl (fun _ => 0))), (q_23, .inl ((cy 0), 58, .inl (fun _ => 0))), (q_32, .inl ((cy 0), 348, .inl (fun _ => 0))), (q_40, .inl ((cy 0), 30, .inl (fun _ => 0))), (q_53, .inl ((cy 0), 8, .inl (fun _ => 0))), (q_61, .inl ((cy 0), 6, .inl (fun _ => 0))), (q_70, .inl ((cy 0), 201, .inl (fun _ => 0))), (q_79, .inl ((cy 0), 1700, .inl (fun _ => 0))), (q_88, .inl ((cy 0), 1700, .inl (fun _ => 0))), (q_97, .inl ((cy 0), 1700, .inl (fun _ => 0))), (q_106, .inl ((cy 0), 1700, .inl (fun _ => 0)))]) := hD
  refine va_putF (D := (dC, dI)) (ci := 5) (v := .ref q_106) (ty := (.array .int)) (C := RX5) (T := TX5) (N := 32) hx hb hts hin5 tyX5 tyX5_ok nmX5 hown hK hP hD hS 0 rfl rfl 27 (by decide) f_47 (fun _ h9 => h9) rfl hin9 rfl (by decide +kernel) rfl rfl (Nat.le_of_ble_eq_true rfl) dX5_init_108 (fun H locs hP hD hS => ?_)
  have hP : va_P (dC, dI) vwCl ([(h0, .inr (5, [.int 0, .ref q_7, .ref q_15, .ref q_23, .ref q_32, .int 0, .int 0, .ref q_40, .int 0, .int (-1), .int 0, .int 0, .int 0, .int 0, .int 0, .int 0, .int 0, .int 0, .int 0, .ref q_53, .ref q_61, .int 0, .ref q_70, .int 0, .ref q_79, .ref q_88, .ref q_97, .ref q_106, .int 0, .int 0, .int 0, .int 0])), (q_7, .inl ((cy 0), 58, .inl (fun _ => 0))), (q_15, .inl ((cy 0), 58, .inl (fun _ => 0))), (q_23, .inl ((cy 0), 58, .inl (fun _ => 0))), (q_32, .inl ((cy 0), 348, .inl (fun _ => 0))), (q_40, .inl ((cy 0), 30, .inl (fun _ => 0))), (q_53, .inl ((cy 0), 8, .inl (fun _ => 0))), (q_61, .inl ((cy 0), 6, .inl (fun _ => 0))), (q_70, .inl ((cy 0), 201, .inl (fun _ => 0))), (q_79, .inl ((cy 0), 1700, .inl (fun _ => 0))), (q_88, .inl ((cy 0), 1700, .inl (fun _ => 0))), (q_97, .inl ((cy 0), 1700, .inl (fun _ => 0))), (q_106, .inl ((cy 0), 1700, .inl (fun _ => 0)))]) H := hP
  have hD : va_D A ([(h0, .inr (5, [.int 0, .ref q_7, .ref q_15, .ref q_23, .ref q_32, .int 0, .int 0, .ref q_40, .int 0, .int (-1), .int 0, .int 0, .int 0, .int 0, .int 0, .int 0, .int 0, .int 0, .int 0, .ref q_53, .ref q_61, .int 0, .ref q_70, .int 0, .ref q_79, .ref q_88, .ref q_97, .ref q_106, .int 0, .int 0, .int 0, .int 0])), (q_7, .inl ((cy 0), 58, .inl (fun _ => 0))), (q_15, .inl ((cy 0), 58, .inl (fun _ => 0))), (q_23, .inl ((cy 0), 58, .inl (fun _ => 0))), (q_32, .inl ((cy 0), 348, .inl (fun _ => 0))), (q_40, .inl ((cy 0), 30, .inl (fun _ => 0))), (q_53, .inl ((cy 0), 8, .inl (fun _ => 0))), (q_61, .inl ((cy 0), 6, .inl (fun _ => 0))), (q_70, .inl ((cy 0), 201, .inl (fun _ => 0))), (q_79, .inl ((cy 0), 1700, .inl (fun _ => 0))), (q_88, .inl ((cy 0), 1700, .inl (fun _ => 0))), (q_97, .inl ((cy 0), 1700, .inl (fun _ => 0))), (q_106, .inl ((cy 0), 1700, .inl (fun _ => 0)))]) := hD
  refine lv_aload_n hx hb dX5_init_111 rfl (lv_at hl 0 rfl) ?_
  refine va_get (D := (dC, dI)) (ci := 5) (v := .ref q_7) (C := RX5) (T := TX5) (N := 32) hx hb hts hin5 hown hK hP 0 rfl rfl 1 (by decide) f_9 (fun _ h9 => h9) rfl dX5_init_112 ?_
  refine lv_iconst (v := 1) hx hb dX5_init_115 (by decide) ?_
  refine lv_bipush (v := 8) hx hb dX5_init_116 (by decide) ?_
  refine wI_ast hx hb hK hP hD hS 1 0 rfl rfl 1 rfl (by omega) (by decide) dX5_init_118 (fun H locs hP hD hS => ?_)
  have hP : va_P (dC, dI) vwCl ([(h0, .inr (5, [.int 0, .ref q_7, .ref q_15, .ref q_23, .ref q_32, .int 0, .int 0, .ref q_40, .int 0, .int (-1), .int 0, .int 0, .int 0, .int 0, .int 0, .int 0, .int 0, .int 0, .int 0, .ref q_53, .ref q_61, .int 0, .ref q_70, .int 0, .ref q_79, .ref q_88, .ref q_97, .ref q_106, .int 0, .int 0, .int 0, .int 0])), (q_7, .inl ((cy 0), 58, .inl (upd (fun _ => 0) 1 8))), (q_15, .inl ((cy 0), 58, .inl (fun _ => 0))), (q_23, .inl ((cy 0), 58, .inl (fun _ => 0))), (q_32, .inl ((cy 0), 348, .inl (fun _ => 0))), (q_40, .inl ((cy 0), 30, .inl (fun _ => 0))), (q_53, .inl ((cy 0), 8, .inl (fun _ => 0))), (q_61, .inl ((cy 0), 6, .inl (fun _ => 0))), (q_70, .inl ((cy 0), 201, .inl (fun _ => 0))), (q_79, .inl ((cy 0), 1700, .inl (fun _ => 0))), (q_88, .inl ((cy 0), 1700, .inl (fun _ => 0))), (q_97, .inl ((cy 0), 1700, .inl (fun _ => 0))), (q_106, .inl ((cy 0), 1700, .inl (fun _ => 0)))]) H := hP
  have hD : va_D A ([(h0, .inr (5, [.int 0, .ref q_7, .ref q_15, .ref q_23, .ref q_32, .int 0, .int 0, .ref q_40, .int 0, .int (-1), .int 0, .int 0, .int 0, .int 0, .int 0, .int 0, .int 0, .int 0, .int 0, .ref q_53, .ref q_61, .int 0, .ref q_70, .int 0, .ref q_79, .ref q_88, .ref q_97, .ref q_106, .int 0, .int 0, .int 0, .int 0])), (q_7, .inl ((cy 0), 58, .inl (upd (fun _ => 0) 1 8))), (q_15, .inl ((cy 0), 58, .inl (fun _ => 0))), (q_23, .inl ((cy 0), 58, .inl (fun _ => 0))), (q_32, .inl ((cy 0), 348, .inl (fun _ => 0))), (q_40, .inl ((cy 0), 30, .inl (fun _ => 0))), (q_53, .inl ((cy 0), 8, .inl (fun _ => 0))), (q_61, .inl ((cy 0), 6, .inl (fun _ => 0))), (q_70, .inl ((cy 0), 201, .inl (fun _ => 0))), (q_79, .inl ((cy 0), 1700, .inl (fun _ => 0))), (q_88, .inl ((cy 0), 1700, .inl (fun _ => 0))), (q_97, .inl ((cy 0), 1700, .inl (fun _ => 0))), (q_106, .inl ((cy 0), 1700, .inl (fun _ => 0)))]) := hD
  refine W.widen (k := 12) (n := 7567) (Nat.le_of_ble_eq_true rfl) (Nat.le_of_ble_eq_true rfl) ?_
  have hP9 : va_P (dC, dI) vwCl (wMdl cy h0 (pik [0, q_7, q_15, q_23, q_32, 0, 0, q_40, 0, 0, 0, 0, 0, 0, 0, 0, 0, 0, 0, q_53, q_61, 0, q_70, 0, q_79, q_88, q_97, q_106]) (upd (fun _ => 0) 9 (-1)) (upr (fun _ _ => 0) 1 (upd (fun _ => 0) 1 8))) H := hP
  have hD9 : va_D A (wMdl cy h0 (pik [0, q_7, q_15, q_23, q_32, 0, 0, q_40, 0, 0, 0, 0, 0, 0, 0, 0, 0, 0, 0, q_53, q_61, 0, q_70, 0, q_79, q_88, q_97, q_106]) (upd (fun _ => 0) 9 (-1)) (upr (fun _ _ => 0) 1 (upd (fun _ => 0) 1 8))) := hD
  exact W.vret hx hb hr (fun t ht hW => ⟨⟨(pik [0, q_7, q_15, q_23, q_32, 0, 0, q_40, 0, 0, 0, 0, 0, 0, 0, 0, 0, 0, 0, q_53, q_61, 0, q_70, 0, q_79, q_88, q_97, q_106]), rfl, trivial, by rw [ht]; exact hP9, hD9⟩, hS.F ht⟩) hS.2.2 dX5_init_119

/-! PART 55: the class's simulation: words -/
section WB
variable {p : Program} {l : Launch} {e : Env} {R : Room} {s : State} {m : MethodId} {args : Array Value} {below : List Frame} {meth : Method} {c : Code} {H : Heap} {locs : List Loc} {cells slots : Nat} {Q : State → Prop}
variable {D : va_G} {cl : List vw_C} {ws : va_W} {tys : List (ClassId × FieldType)} {cc : ByteArray} {pc a : Nat} {ls : Array Slot} {rest : List Value}
/-- a row of rows is read at a natural place -/
theorem wB_ald {q : Nat} (hexec : p.tables.exec = Jvm.exec) (hb : c.code = cc) (hK : va_K D cl tys s) (hP : va_P D cl ws H) (q0 t0 : Nat) {cA : ClassId} {n : Nat} {f : Nat → Option Nat} (ha : ws[q0]? = some (a, .inl (cA, n, .inr (.inr (.inr (.inr f)))))) (ht : tys[t0]? = some (cA, .array .int)) {i : Int32} (j : Nat) (hi : i = nI j) (hj : j < n) (hn : n < 2147483648) (hv : f j = some q) (hdg : decode cc pc = .ok (.aaload, 1))
    (kk : W p l e R s m args below meth c H locs cells slots Q (F0 m (pc + 1) ls (.ref q :: rest))) : W p l e R s m args below meth c H locs cells slots Q (F0 m pc ls (.int i :: .ref a :: rest)) := by
  subst hi
  have hin := vp_in_nI hj hn
  have hlt : (nI j).toNatClampNeg < n := Nat.not_le.mp fun q => hin (Or.inr q)
  refine W.aald (v := va_rf (f (nI j).toNatClampNeg)) (ty := .array .int) hexec hb (hP q0 _ ha) ((hK.2 t0 _ ht).1 n (fun j => va_rf (f j))) rfl (fun q => by cases q) (by show ¬ (nI j < 0 ∨ (arrV _ _ _).slots.size ≤ _); rw [arrV_size]; exact hin) (by show (arrV _ _ _).slots[_]? = _; rw [arrV_read _ _ hlt]) rfl rfl hdg ?_
  rw [nI_clamp (Nat.lt_trans hj hn), hv]
  exact kk
end WB
/-- the rows of the simulation: Q 1 pending jobs, 2 oldest release, 3 has run, 5 greatest response; T the running times -/
abbrev wArr (cy : Nat → ClassId) (z rt : Nat → Nat) (Q T : vG) : va_W := [(z 1, .inl (cy 0, 8, .inl (Q 1))), (z 2, .inl (cy 0, 8, .inl (Q 2))), (z 3, .inl (cy 0, 8, .inl (Q 3))), (z 4, .inl (cy 2, 8, .inr (.inr (.inr (.inr (fun j => some (rt j))))))), (z 5, .inl (cy 0, 8, .inl (Q 5))), (rt 0, .inl (cy 0, 200, .inl (T 0))), (rt 1, .inl (cy 0, 200, .inl (T 1))), (rt 2, .inl (cy 0, 200, .inl (T 2))), (rt 3, .inl (cy 0, 200, .inl (T 3))), (rt 4, .inl (cy 0, 200, .inl (T 4))), (rt 5, .inl (cy 0, 200, .inl (T 5))), (rt 6, .inl (cy 0, 200, .inl (T 6))), (rt 7, .inl (cy 0, 200, .inl (T 7)))]
def drw (d : Int32) : Int32 := d * 1103515245 + 12345
def shr (x : Int32) : Int32 := (x.toUInt32 >>> (Int32.toUInt32 16 &&& Int32.toUInt32 31)).toInt32
abbrev ovr (d p : Int32) : Prop := shr d - shr d / 100 * 100 < p
def eff (G : vG) (sc : Int32) (M : Nat → Int32) (Q : vG) (i : Nat) : Int32 := Q 2 i + (if M 6 = 0 then vdl G sc i else G 1 i)
/-- the task of the earliest deadline, of the first i; and that deadline -/
def ect (G : vG) (sc : Int32) (M : Nat → Int32) (Q : vG) : Nat → Int32 × Int32
  | 0 => (-1, 0)
  | i + 1 => if Q 1 i ≤ 0 then ect G sc M Q i else if (ect G sc M Q i).1 < 0 then (nI i, eff G sc M Q i) else if (ect G sc M Q i).2 ≤ eff G sc M Q i then ect G sc M Q i else (nI i, eff G sc M Q i)
abbrev SSt : Type := (Nat → Int32) × vG × vG
def nds (G : vG) (i : Nat) (M : Nat → Int32) : Int32 := if G 3 i ≤ 0 then G 2 i else if ovr (drw (M 7)) (M 8) then G 3 i else G 2 i
def drM (G : vG) (i : Nat) (M : Nat → Int32) : Nat → Int32 := if G 3 i ≤ 0 then M else upd M 7 (drw (M 7))
def relQ (Q : vG) (i u : Nat) : vG := up2 (if Q 1 i = 0 then up2 (up2 Q 2 i (nI u)) 3 i 0 else Q) 1 i (Q 1 i + 1)
def relJ (G : vG) (i u : Nat) (s : SSt) : SSt := (drM G i s.1, relQ s.2.1 i u, up2 s.2.2 i u (nds G i s.1))
def rls1 (G : vG) (u i : Nat) (s : SSt) : SSt := if nI u - nI u / per G i * per G i = 0 then (if s.1 6 = 1 ∧ G 3 i ≤ 0 then (upd s.1 12 (s.1 12 + 1), s.2.1, s.2.2) else relJ G i u s) else s
/-- j tasks from i on release what is due -/
def rls (G : vG) (u : Nat) : Nat → Nat → SSt → SSt
  | 0, _, s => s
  | j + 1, i, s => rls G u j (i + 1) (rls1 G u i s)
def cnl (G : vG) (i : Nat) (rel : Int32) (M : Nat → Int32) : Nat → Int32 := if M 9 < rel + G 1 i then M else upd M 10 (M 10 + 1)
def cplM (G : vG) (i : Nat) (tm : Int32) (M : Nat → Int32) (Q : vG) : Nat → Int32 := if tm - Q 2 i ≤ G 1 i then upd M 11 (M 11 + 1) else cnl G i (Q 2 i) (upd M 11 (M 11 + 1))
def cplQ (G : vG) (i : Nat) (tm : Int32) (Q : vG) : vG := up2 (up2 (up2 (up2 Q 5 i (if Q 5 i < tm - Q 2 i then tm - Q 2 i else Q 5 i)) 1 i (Q 1 i - 1)) 2 i (Q 2 i + per G i)) 3 i 0
def dpp (G : vG) : Nat → (Nat → Int32) × vG → (Nat → Int32) × vG
  | 0, s => s
  | i + 1, s => if G 3 i ≤ 0 then (upd (dpp G i s).1 12 ((dpp G i s).1 12 + (dpp G i s).2 1 i), up2 (dpp G i s).2 1 i 0) else dpp G i s
def runO (G : vG) (n i u : Nat) (s : SSt) : SSt :=
  if s.2.1 3 i + 1 = s.2.2 i (s.2.1 2 i).toNatClampNeg then (cplM G i (nI u + 1) s.1 (up2 s.2.1 3 i (s.2.1 3 i + 1)), cplQ G i (nI u + 1) (up2 s.2.1 3 i (s.2.1 3 i + 1)), s.2.2)
  else if s.1 6 = 0 ∧ ¬ G 3 i ≤ 0 ∧ s.2.1 3 i + 1 = G 2 i then ((dpp G n (upd (upd s.1 6 1) 13 (s.1 13 + 1), up2 s.2.1 3 i (s.2.1 3 i + 1))).1, (dpp G n (upd (upd s.1 6 1) 13 (s.1 13 + 1), up2 s.2.1 3 i (s.2.1 3 i + 1))).2, s.2.2)
  else (s.1, up2 s.2.1 3 i (s.2.1 3 i + 1), s.2.2)
/-- jobs of task i from number q on, j of them -/
def clt (G : vG) (Q : vG) (i : Nat) : Nat → Nat → (Nat → Int32) → (Nat → Int32)
  | 0, _, M => M
  | j + 1, q, M => clt G Q i j (q + 1) (cnl G i (Q 2 i + nI q * per G i) M)
def clp (G : vG) (Q : vG) : Nat → Nat → (Nat → Int32) → (Nat → Int32)
  | 0, _, M => M
  | j + 1, i, M => clp G Q j (i + 1) (clt G Q i (Q 1 i).toNatClampNeg 0 M)
def clrQ (Q : vG) (i : Nat) : vG := fun k j => if (k = 1 ∨ k = 5) ∧ j < i then 0 else Q k j
theorem clrQ_0 (Q : vG) : clrQ Q 0 = Q := by funext k j; simp [clrQ]
theorem clrQ_s (Q : vG) (i : Nat) : up2 (up2 (clrQ Q i) 1 i 0) 5 i 0 = clrQ Q (i + 1) := by
  funext k j
  simp only [up2, upd, clrQ]
  by_cases h5 : k = 5
  · subst h5
    by_cases h : j = i
    · subst h; simp [upd, clrQ]
    · by_cases h2 : j < i
      · simp [upd, clrQ, h, h2, Nat.lt_succ_of_lt h2]
      · simp [upd, clrQ, h, h2, show ¬ j < i + 1 by omega]
  · by_cases h1 : k = 1
    · subst h1
      by_cases h : j = i
      · subst h; simp [upd, clrQ]
      · by_cases h2 : j < i
        · simp [upd, clrQ, h, h2, Nat.lt_succ_of_lt h2]
        · simp [upd, clrQ, h, h2, show ¬ j < i + 1 by omega]
    · simp [h5, h1, clrQ]
def clrM (M : Nat → Int32) : Nat → Int32 := upd (upd (upd (upd (upd (upd M 6 0) 10 0) 11 0) 12 0) 13 0) 14 0
/-- one unit of time -/
def stp (G : vG) (sc : Int32) (n u : Nat) (s : SSt) : SSt :=
  let s2 := rls G u n 0 (if (ect G sc s.1 s.2.1 n).1 < 0 then upd s.1 6 0 else s.1, s.2.1, s.2.2)
  if (ect G sc s2.1 s2.2.1 n).1 < 0 then (upd s2.1 14 (s2.1 14 + 1), s2.2.1, s2.2.2) else runO G n (ect G sc s2.1 s2.2.1 n).1.toNatClampNeg u s2
def stps (G : vG) (sc : Int32) (n : Nat) : Nat → Nat → SSt → SSt
  | 0, _, s => s
  | k + 1, u, s => stps G sc n k (u + 1) (stp G sc n u s)
theorem ect_i {G : vG} {sc : Int32} {M : Nat → Int32} {Q : vG} : ∀ i, i ≤ 8 → (ect G sc M Q i).1 = -1 ∨ ∃ j, j < i ∧ (ect G sc M Q i).1 = nI j ∧ ¬ Q 1 j ≤ 0 := by
  intro i
  induction i with
  | zero => intro _; exact Or.inl rfl
  | succ i ih =>
    intro hi
    have h := ih (by omega)
    have h2 : (ect G sc M Q i).1 = -1 ∨ ∃ j, j < i + 1 ∧ (ect G sc M Q i).1 = nI j ∧ ¬ Q 1 j ≤ 0 := h.imp id (fun ⟨j, a, b⟩ => ⟨j, by omega, b⟩)
    simp only [ect]
    split
    · exact h2
    · rename_i hq
      split
      · exact Or.inr ⟨i, by omega, rfl, hq⟩
      · split
        · exact h2
        · exact Or.inr ⟨i, by omega, rfl, hq⟩

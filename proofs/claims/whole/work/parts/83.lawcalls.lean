/-! PART 83: the law: rows for its calls -/
abbrev AL (s : State) : Nat → Prop := fun q => s.heap.size ≤ q
theorem glue_cons (b : va_W) : ∀ r : List va_W, glue (b :: r) = b ++ glue r
  | [] => (List.append_nil b).symm
  | _ :: _ => rfl
theorem glue_append : ∀ (bs cs : List va_W), glue (bs ++ cs) = glue bs ++ glue cs
  | [], _ => rfl
  | b :: r, cs => by
    rw [List.cons_append, glue_cons, glue_append r cs, glue_cons, List.append_assoc]
theorem exp_P {dC : Nat → ClassId} {dI : Nat → Nat → Nat} {cy : Nat → ClassId} {κ : KA} {σ : CS} {r : List va_W} {H : Heap} : BP (dC, dI) vwCl (wK cy κ σ :: r) H ↔ BP (dC, dI) vwCl (bK cy κ σ ++ r) H := by
  rw [← gl_P, ← gl_P, glue_cons, glue_append]; rfl
theorem exp_D {A : Nat → Prop} {cy : Nat → ClassId} {κ : KA} {σ : CS} {r : List va_W} : BD A (wK cy κ σ :: r) ↔ BD A (bK cy κ σ ++ r) := by
  rw [← gl_D, ← gl_D, glue_cons, glue_append]; rfl
theorem lcmp_self (x : Int64) : lg_cmp x x = 0 := by
  simp [lg_cmp]
theorem dc_self {x : UInt64} (h : FP.Core.DFin x) {op : CmpOp} : Op.cmpValue (FP.dcmp x x) op = 0 := by
  have e : FP.dcmp x x = some .eq := FP.Core.dcmp_self (fun z => by
    obtain ⟨s, c, q, e⟩ := h
    rw [e] at z
    cases z)
  rw [e]; cases op <;> rfl
theorem f2d_fin9 {x : UInt32} (h : pn32 x) : FP.Core.DFin (FP.f2d x) := by
  have hf := pn32_fin h
  rw [FP.f2d_core ((FP.Core.notNaN_iff32 x).mpr (fun z => by
    obtain ⟨s, c, q, e⟩ := hf
    rw [e] at z
    cases z))]
  exact FP.Core.f2d_fin hf
theorem dok_agr {G G' : vG} {n : Nat} {sc mode : Int32} (h : agr G G' n) (hd : dok G n sc mode) : dok G' n sc mode := by
  intro t h1 h2
  rw [← tdem_agr h]
  exact hd t h1 h2
theorem st_rv {σ : CS} {I I' : Nat → Int32} {R : vG} {code code' r : Int32} {val z : Int64} {u : CS × Int64} (h : Rel σ I R) (hk : rdL σ code val r u) (hI : I' = upd I 0 code') (e1 : code' = code) (hv : code = 0 → val = z) : I' 0 = r ∧ (r = 0 → u.2 = z) ∧ Rel u.1 I' R := by
  obtain ⟨k1, k2, k3⟩ := hk
  subst k2; subst e1; subst hI
  rw [k1]
  exact ⟨rfl, fun g => (k3 g).trans (hv g), h.th _⟩
theorem st_rD {σ : CS} {I I' : Nat → Int32} {R : vG} {code code' r : Int32} {val z : UInt64} {u : CS × UInt64} (h : Rel σ I R) (hk : rdD σ code val r u) (hI : I' = upd I 0 code') (e1 : code' = code) (hv : code = 0 → val = z) : I' 0 = r ∧ (r = 0 → u.2 = z) ∧ Rel u.1 I' R := by
  obtain ⟨k1, k2, k3⟩ := hk
  subst k2; subst e1; subst hI
  rw [k1]
  exact ⟨rfl, fun g => (k3 g).trans (hv g), h.th _⟩
section LAWR
variable {p : Program} {l : Launch} {e : Env} {R : Room} {s : State} {m : MethodId} {args : Array Value} {below : List Frame} {meth : Method} {c : Code} {H : Heap} {locs : List Loc} {cells slots : Nat} {Q : State → Prop}
variable {pc : Nat} {ls : Array Slot} {rest st0 : List Value} {aa : Array Value} {mc ms : Nat} {dC : Nat → ClassId} {dI : Nat → Nat → Nat} {cy : Nat → ClassId} {cc : ByteArray}
variable {κ : KA} {σ : CS} {m0 oq : Nat} {a : Nat → Nat} {I : Nat → Int32} {Rw : vG} {K9 o1 o2 M9 : va_W}
theorem vn_sld (hexec : p.tables.exec = Jvm.exec) (hb : c.code = cc) {b L : Nat} {xs : Nat → Int32} {H0 : Heap} {A : Nat → Prop} (hX : va_X b L xs s H0) (hbl : b < H0.size) (hbA : ¬ A b) (hS : va_S A H0 H locs) {i : Int32} (q : Nat) (hi : i = nI q) (hq : q < L) (hL : L < 2147483648) (hdg : decode cc pc = .ok (.iaload, 1))
    (kk : W p l e R s m args below meth c H locs cells slots Q (F0 m (pc + 1) ls (.int (xs q) :: rest))) : W p l e R s m args below meth c H locs cells slots Q (F0 m pc ls (.int i :: .ref b :: rest)) := by
  subst hi
  refine va_sld hexec hb hX hbl hbA hS (vp_in_nI hq hL) hdg ?_
  rw [nI_clamp (Nat.lt_trans hq hL)]
  exact kk
variable {y : Int64}
theorem lc_L {post : Int32 → CS × Int64 → Prop} (hr : va_Run p l e R s m args below meth c H locs cells slots mc ms (F0 m pc ls st0) rest (va_Qi post (fun (u : CS × Int64) t => va_P (dC, dI) vwCl (wK cy κ u.1 ++ oL cy oq u.2) t.heap ∧ va_D (va_A (wK cy κ σ ++ oL cy oq y) H.size) (wK cy κ u.1 ++ oL cy oq u.2)) (va_A (wK cy κ σ ++ oL cy oq y) H.size) aa) (va_A (wK cy κ σ ++ oL cy oq y) H.size)) (hB : BP (dC, dI) vwCl [wK cy κ σ, oL cy oq y, o1, M9] H) (hBD : BD (AL s) [wK cy κ σ, oL cy oq y, o1, M9]) (hS : va_S (AL s) s.heap H locs)
    (kk : ∀ (r : Int32) (u : CS × Int64) (H1 : Heap) (locs1 : List Loc), post r u → BP (dC, dI) vwCl [wK cy κ u.1, oL cy oq u.2, o1, M9] H1 → BD (AL s) [wK cy κ u.1, oL cy oq u.2, o1, M9] → va_S (AL s) s.heap H1 locs1 → W p l e R s m args below meth c H1 locs1 (cells + mc) (slots + ms) Q (F0 m (pc + 3) ls (.int r :: rest))) : W p l e R s m args below meth c H locs cells slots Q (F0 m pc ls st0) := by
  have hFc : ∀ q, va_A (wK cy κ σ ++ oL cy oq y) H.size q → AL s q := BF (cb := [wK cy κ σ, oL cy oq y]) hBD hS (fun _ h => h) [0, 1] rfl
  refine va_calli hr hS (fun q _ h => hFc q h) hFc (fun r u t H1 locs1 ht hvm hw hB1 hz1 hk1 hS1 => ?_)
  obtain ⟨hP1, hD1⟩ := hB1
  rw [ht] at hP1
  obtain ⟨h1, h2⟩ := BJ (cb := [wK cy κ σ, oL cy oq y]) (rb := [o1, M9]) (nb := [wK cy κ u.1, oL cy oq u.2]) hB hBD [0, 1] [2, 3] rfl rfl (by decide) (by decide) hk1 hFc hP1 hD1
  exact kk r u H1 locs1 hw (h1.sub [2, 3, 0, 1] rfl) (h2.sub [2, 3, 0, 1] (by decide) rfl) hS1
variable {y : UInt64}
theorem lc_D {post : Int32 → CS × UInt64 → Prop} (hr : va_Run p l e R s m args below meth c H locs cells slots mc ms (F0 m pc ls st0) rest (va_Qi post (fun (u : CS × UInt64) t => va_P (dC, dI) vwCl (wK cy κ u.1 ++ oD cy oq u.2) t.heap ∧ va_D (va_A (wK cy κ σ ++ oD cy oq y) H.size) (wK cy κ u.1 ++ oD cy oq u.2)) (va_A (wK cy κ σ ++ oD cy oq y) H.size) aa) (va_A (wK cy κ σ ++ oD cy oq y) H.size)) (hB : BP (dC, dI) vwCl [wK cy κ σ, o1, oD cy oq y, M9] H) (hBD : BD (AL s) [wK cy κ σ, o1, oD cy oq y, M9]) (hS : va_S (AL s) s.heap H locs)
    (kk : ∀ (r : Int32) (u : CS × UInt64) (H1 : Heap) (locs1 : List Loc), post r u → BP (dC, dI) vwCl [wK cy κ u.1, o1, oD cy oq u.2, M9] H1 → BD (AL s) [wK cy κ u.1, o1, oD cy oq u.2, M9] → va_S (AL s) s.heap H1 locs1 → W p l e R s m args below meth c H1 locs1 (cells + mc) (slots + ms) Q (F0 m (pc + 3) ls (.int r :: rest))) : W p l e R s m args below meth c H locs cells slots Q (F0 m pc ls st0) := by
  have hFc : ∀ q, va_A (wK cy κ σ ++ oD cy oq y) H.size q → AL s q := BF (cb := [wK cy κ σ, oD cy oq y]) hBD hS (fun _ h => h) [0, 2] rfl
  refine va_calli hr hS (fun q _ h => hFc q h) hFc (fun r u t H1 locs1 ht hvm hw hB1 hz1 hk1 hS1 => ?_)
  obtain ⟨hP1, hD1⟩ := hB1
  rw [ht] at hP1
  obtain ⟨h1, h2⟩ := BJ (cb := [wK cy κ σ, oD cy oq y]) (rb := [o1, M9]) (nb := [wK cy κ u.1, oD cy oq u.2]) hB hBD [0, 2] [1, 3] rfl rfl (by decide) (by decide) hk1 hFc hP1 hD1
  exact kk r u H1 locs1 hw (h1.sub [2, 0, 3, 1] rfl) (h2.sub [2, 0, 3, 1] (by decide) rfl) hS1
theorem lc_Mi {S : Type} (fI : S → Nat → Int32) (fR : S → vG) {post : Int32 → S → Prop} (hr : va_Run p l e R s m args below meth c H locs cells slots mc ms (F0 m pc ls st0) rest (va_Qi post (fun (u : S) t => va_P (dC, dI) vwCl (wMdl cy m0 a (fI u) (fR u)) t.heap ∧ va_D (va_A (wMdl cy m0 a I Rw) H.size) (wMdl cy m0 a (fI u) (fR u))) (va_A (wMdl cy m0 a I Rw) H.size) aa) (va_A (wMdl cy m0 a I Rw) H.size)) (hB : BP (dC, dI) vwCl [K9, o1, o2, wMdl cy m0 a I Rw] H) (hBD : BD (AL s) [K9, o1, o2, wMdl cy m0 a I Rw]) (hS : va_S (AL s) s.heap H locs)
    (kk : ∀ (r : Int32) (u : S) (H1 : Heap) (locs1 : List Loc), post r u → BP (dC, dI) vwCl [K9, o1, o2, wMdl cy m0 a (fI u) (fR u)] H1 → BD (AL s) [K9, o1, o2, wMdl cy m0 a (fI u) (fR u)] → va_S (AL s) s.heap H1 locs1 → W p l e R s m args below meth c H1 locs1 (cells + mc) (slots + ms) Q (F0 m (pc + 3) ls (.int r :: rest))) : W p l e R s m args below meth c H locs cells slots Q (F0 m pc ls st0) := by
  have hFc : ∀ q, va_A (wMdl cy m0 a I Rw) H.size q → AL s q := BF (cb := [wMdl cy m0 a I Rw]) hBD hS (fun _ h => h) [3] rfl
  refine va_calli hr hS (fun q _ h => hFc q h) hFc (fun r u t H1 locs1 ht hvm hw hB1 hz1 hk1 hS1 => ?_)
  obtain ⟨hP1, hD1⟩ := hB1
  rw [ht] at hP1
  obtain ⟨h1, h2⟩ := BJ (cb := [wMdl cy m0 a I Rw]) (rb := [K9, o1, o2]) (nb := [wMdl cy m0 a (fI u) (fR u)]) hB hBD [3] [0, 1, 2] rfl rfl (by decide) (by decide) hk1 hFc hP1 hD1
  exact kk r u H1 locs1 hw h1 h2 hS1
theorem lc_Ml {S : Type} (fI : S → Nat → Int32) (fR : S → vG) {post : Int64 → S → Prop} (hr : va_Run p l e R s m args below meth c H locs cells slots mc ms (F0 m pc ls st0) rest (va_Ql post (fun (u : S) t => va_P (dC, dI) vwCl (wMdl cy m0 a (fI u) (fR u)) t.heap ∧ va_D (va_A (wMdl cy m0 a I Rw) H.size) (wMdl cy m0 a (fI u) (fR u))) (va_A (wMdl cy m0 a I Rw) H.size) aa) (va_A (wMdl cy m0 a I Rw) H.size)) (hB : BP (dC, dI) vwCl [K9, o1, o2, wMdl cy m0 a I Rw] H) (hBD : BD (AL s) [K9, o1, o2, wMdl cy m0 a I Rw]) (hS : va_S (AL s) s.heap H locs)
    (kk : ∀ (r : Int64) (u : S) (H1 : Heap) (locs1 : List Loc), post r u → BP (dC, dI) vwCl [K9, o1, o2, wMdl cy m0 a (fI u) (fR u)] H1 → BD (AL s) [K9, o1, o2, wMdl cy m0 a (fI u) (fR u)] → va_S (AL s) s.heap H1 locs1 → W p l e R s m args below meth c H1 locs1 (cells + mc) (slots + ms) Q (F0 m (pc + 3) ls (.long r :: rest))) : W p l e R s m args below meth c H locs cells slots Q (F0 m pc ls st0) := by
  have hFc : ∀ q, va_A (wMdl cy m0 a I Rw) H.size q → AL s q := BF (cb := [wMdl cy m0 a I Rw]) hBD hS (fun _ h => h) [3] rfl
  refine va_calll hr hS (fun q _ h => hFc q h) hFc (fun r u t H1 locs1 ht hvm hw hB1 hz1 hk1 hS1 => ?_)
  obtain ⟨hP1, hD1⟩ := hB1
  rw [ht] at hP1
  obtain ⟨h1, h2⟩ := BJ (cb := [wMdl cy m0 a I Rw]) (rb := [K9, o1, o2]) (nb := [wMdl cy m0 a (fI u) (fR u)]) hB hBD [3] [0, 1, 2] rfl rfl (by decide) (by decide) hk1 hFc hP1 hD1
  exact kk r u H1 locs1 hw h1 h2 hS1
theorem lc_Md {S : Type} (fI : S → Nat → Int32) (fR : S → vG) {post : UInt64 → S → Prop} (hr : va_Run p l e R s m args below meth c H locs cells slots mc ms (F0 m pc ls st0) rest (va_Qd post (fun (u : S) t => va_P (dC, dI) vwCl (wMdl cy m0 a (fI u) (fR u)) t.heap ∧ va_D (va_A (wMdl cy m0 a I Rw) H.size) (wMdl cy m0 a (fI u) (fR u))) (va_A (wMdl cy m0 a I Rw) H.size) aa) (va_A (wMdl cy m0 a I Rw) H.size)) (hB : BP (dC, dI) vwCl [K9, o1, o2, wMdl cy m0 a I Rw] H) (hBD : BD (AL s) [K9, o1, o2, wMdl cy m0 a I Rw]) (hS : va_S (AL s) s.heap H locs)
    (kk : ∀ (r : UInt64) (u : S) (H1 : Heap) (locs1 : List Loc), post r u → BP (dC, dI) vwCl [K9, o1, o2, wMdl cy m0 a (fI u) (fR u)] H1 → BD (AL s) [K9, o1, o2, wMdl cy m0 a (fI u) (fR u)] → va_S (AL s) s.heap H1 locs1 → W p l e R s m args below meth c H1 locs1 (cells + mc) (slots + ms) Q (F0 m (pc + 3) ls (.double r :: rest))) : W p l e R s m args below meth c H locs cells slots Q (F0 m pc ls st0) := by
  have hFc : ∀ q, va_A (wMdl cy m0 a I Rw) H.size q → AL s q := BF (cb := [wMdl cy m0 a I Rw]) hBD hS (fun _ h => h) [3] rfl
  refine va_calld hr hS (fun q _ h => hFc q h) hFc (fun r u t H1 locs1 ht hvm hw hB1 hz1 hk1 hS1 => ?_)
  obtain ⟨hP1, hD1⟩ := hB1
  rw [ht] at hP1
  obtain ⟨h1, h2⟩ := BJ (cb := [wMdl cy m0 a I Rw]) (rb := [K9, o1, o2]) (nb := [wMdl cy m0 a (fI u) (fR u)]) hB hBD [3] [0, 1, 2] rfl rfl (by decide) (by decide) hk1 hFc hP1 hD1
  exact kk r u H1 locs1 hw h1 h2 hS1
theorem lc_Mf {S : Type} (fI : S → Nat → Int32) (fR : S → vG) {post : UInt32 → S → Prop} (hr : va_Run p l e R s m args below meth c H locs cells slots mc ms (F0 m pc ls st0) rest (va_Qf post (fun (u : S) t => va_P (dC, dI) vwCl (wMdl cy m0 a (fI u) (fR u)) t.heap ∧ va_D (va_A (wMdl cy m0 a I Rw) H.size) (wMdl cy m0 a (fI u) (fR u))) (va_A (wMdl cy m0 a I Rw) H.size) aa) (va_A (wMdl cy m0 a I Rw) H.size)) (hB : BP (dC, dI) vwCl [K9, o1, o2, wMdl cy m0 a I Rw] H) (hBD : BD (AL s) [K9, o1, o2, wMdl cy m0 a I Rw]) (hS : va_S (AL s) s.heap H locs)
    (kk : ∀ (r : UInt32) (u : S) (H1 : Heap) (locs1 : List Loc), post r u → BP (dC, dI) vwCl [K9, o1, o2, wMdl cy m0 a (fI u) (fR u)] H1 → BD (AL s) [K9, o1, o2, wMdl cy m0 a (fI u) (fR u)] → va_S (AL s) s.heap H1 locs1 → W p l e R s m args below meth c H1 locs1 (cells + mc) (slots + ms) Q (F0 m (pc + 3) ls (.float r :: rest))) : W p l e R s m args below meth c H locs cells slots Q (F0 m pc ls st0) := by
  have hFc : ∀ q, va_A (wMdl cy m0 a I Rw) H.size q → AL s q := BF (cb := [wMdl cy m0 a I Rw]) hBD hS (fun _ h => h) [3] rfl
  refine va_callf hr hS (fun q _ h => hFc q h) hFc (fun r u t H1 locs1 ht hvm hw hB1 hz1 hk1 hS1 => ?_)
  obtain ⟨hP1, hD1⟩ := hB1
  rw [ht] at hP1
  obtain ⟨h1, h2⟩ := BJ (cb := [wMdl cy m0 a I Rw]) (rb := [K9, o1, o2]) (nb := [wMdl cy m0 a (fI u) (fR u)]) hB hBD [3] [0, 1, 2] rfl rfl (by decide) (by decide) hk1 hFc hP1 hD1
  exact kk r u H1 locs1 hw h1 h2 hS1
theorem lc_Mv {S : Type} (fI : S → Nat → Int32) (fR : S → vG) {post : S → Prop} (hr : va_Run p l e R s m args below meth c H locs cells slots mc ms (F0 m pc ls st0) rest (va_Qv post (fun (u : S) t => va_P (dC, dI) vwCl (wMdl cy m0 a (fI u) (fR u)) t.heap ∧ va_D (va_A (wMdl cy m0 a I Rw) H.size) (wMdl cy m0 a (fI u) (fR u))) (va_A (wMdl cy m0 a I Rw) H.size) aa) (va_A (wMdl cy m0 a I Rw) H.size)) (hB : BP (dC, dI) vwCl [K9, o1, o2, wMdl cy m0 a I Rw] H) (hBD : BD (AL s) [K9, o1, o2, wMdl cy m0 a I Rw]) (hS : va_S (AL s) s.heap H locs)
    (kk : ∀ (u : S) (H1 : Heap) (locs1 : List Loc), post u → BP (dC, dI) vwCl [K9, o1, o2, wMdl cy m0 a (fI u) (fR u)] H1 → BD (AL s) [K9, o1, o2, wMdl cy m0 a (fI u) (fR u)] → va_S (AL s) s.heap H1 locs1 → W p l e R s m args below meth c H1 locs1 (cells + mc) (slots + ms) Q (F0 m (pc + 3) ls rest)) : W p l e R s m args below meth c H locs cells slots Q (F0 m pc ls st0) := by
  have hFc : ∀ q, va_A (wMdl cy m0 a I Rw) H.size q → AL s q := BF (cb := [wMdl cy m0 a I Rw]) hBD hS (fun _ h => h) [3] rfl
  refine va_callv hr hS (fun q _ h => hFc q h) hFc (fun u t H1 locs1 ht hvm hw hB1 hz1 hk1 hS1 => ?_)
  obtain ⟨hP1, hD1⟩ := hB1
  rw [ht] at hP1
  obtain ⟨h1, h2⟩ := BJ (cb := [wMdl cy m0 a I Rw]) (rb := [K9, o1, o2]) (nb := [wMdl cy m0 a (fI u) (fR u)]) hB hBD [3] [0, 1, 2] rfl rfl (by decide) (by decide) hk1 hFc hP1 hD1
  exact kk u H1 locs1 hw h1 h2 hS1
end LAWR
/-- what stands all along -/
def LCx (p : Program) (l : Launch) (s : State) (m : MethodId) (meth : Method) (c : Code) (b Lx : Nat) (xs : Nat → Int32) (dC : Nat → ClassId) (dI : Nat → Nat → Nat) (cy : Nat → ClassId) : Prop :=
  p.tables.exec = Jvm.exec ∧ c.code = cL_law ∧ c.maxLocals = 9 ∧ s.vm.findClass RL = some m.cls ∧ (∀ w ∈ wnL_law, w.before #[Value.ref b] s = true) ∧ va_X b Lx xs s s.heap ∧ b < s.heap.size ∧ EV dC dI cy s ∧ XV s ∧ ZQ (AL s) s s.heap ∧ CV s ∧ l.stackTraces = false
/-- the world of the law -/
def LB (dC : Nat → ClassId) (dI : Nat → Nat → Nat) (cy : Nat → ClassId) (κ : KA) (ol od m0 : Nat) (a : Nat → Nat) (s : State) (σ : CS) (I : Nat → Int32) (R : vG) (y : Int64) (yd : UInt64) (H : Heap) (locs : List Loc) : Prop :=
  BP (dC, dI) vwCl [wK cy κ σ, oL cy ol y, oD cy od yd, wMdl cy m0 a I R] H ∧ BD (AL s) [wK cy κ σ, oL cy ol y, oD cy od yd, wMdl cy m0 a I R] ∧ va_S (AL s) s.heap H locs
abbrev LV (κ : KA) (ol od m0 b j : Nat) : List (Nat × Value) := [(5, .int (nI (7 * j))), (4, .ref od), (3, .ref ol), (2, .ref m0), (1, .ref κ.1), (0, .ref b)]
/-- behind a call of the script -/
def KON (p : Program) (l : Launch) (e : Env) (s : State) (m : MethodId) (below : List Frame) (meth : Method) (c : Code) (Q : State → Prop) (b : Nat) (dC : Nat → ClassId) (dI : Nat → Nat → Nat) (cy : Nat → ClassId) (κ : KA) (ol od m0 : Nat) (a : Nat → Nat) (j cells slots : Nat) : Prop :=
  ∀ (σ : CS) (I : Nat → Int32) (R : vG) (y : Int64) (yd : UInt64) (H : Heap) (locs : List Loc) (ls : Array Slot), Rel σ I R → LB dC dI cy κ ol od m0 a s σ I R y yd H locs → lv_has ls 9 (LV κ ol od m0 b j) → W p l e room_1 s m #[Value.ref b] below meth c H locs cells slots Q (F0 m 2107 ls [])

/-! PART 78: the class's state beside the reference's -/
/-- a row of the reference holds a configuration -/
def cfgR (row : Nat → Int32) (G : vG) (n : Nat) (sc : Int32) : Prop := n ≤ 8 ∧ okG G n ∧ ¬ gscale G n = 0 ∧ sc = nI (gscale G n) ∧ row 0 = nI n ∧ row 1 = sc ∧ agr (Gs row) G n
theorem cfgR.cg {row row' : Nat → Int32} {G : vG} {n : Nat} {sc : Int32} (h : cfgR row G n sc) (e : ∀ k, k < 58 → row' k = row k) : cfgR row' G n sc := by
  obtain ⟨h1, h2, h3, h4, h5, h6, h7⟩ := h
  refine ⟨h1, h2, h3, h4, (e 0 (by omega)).trans h5, (e 1 (by omega)).trans h6, fun k hk j hj => ?_⟩
  show row' (2 + 8 * k + j) = _
  rw [e _ (by omega)]
  exact h7 k hk j hj
theorem cfgR.ag {row : Nat → Int32} {G G' : vG} {n : Nat} {sc : Int32} (h : cfgR row G n sc) (a : agr G' G n) : cfgR row G' n sc := by
  obtain ⟨h1, h2, h3, h4, h5, h6, h7⟩ := h
  have e : gscale G' n = gscale G n := gscale_agr a
  exact ⟨h1, okG_agr a.symm h2, by rw [e]; exact h3, by rw [e]; exact h4, h5, h6, h7.trans a.symm⟩
/-- the history as rows beside the ring -/
def hisR (h : Nat → Int32) (x kk : Nat) (RG : Nat → vG) (rn : Nat → Nat) (RS : Nat → Int32) : Prop := ∀ j, j < kk → cfgR (fun k => h (58 * j + k)) (RG ((x + 6 - kk + j) % 6)) (rn ((x + 6 - kk + j) % 6)) (RS ((x + 6 - kk + j) % 6))
theorem upq_s {α : Type} {f : Nat → α} {k : Nat} {v : α} : va_up f k v k = v := if_pos rfl
theorem upq_n {α : Type} {f : Nat → α} {k j : Nat} {v : α} (h : j ≠ k) : va_up f k v j = f j := if_neg h
theorem his_rec {h f : Nat → Int32} {x kk : Nat} {RG : Nat → vG} {rn : Nat → Nat} {RS : Nat → Int32} {G : vG} {n : Nat} {sc : Int32} (hx : x < 6) (hk : kk ≤ 6) (hh : hisR h x kk RG rn RS) (hc : cfgR f G n sc) : hisR (hrec h f kk) ((x + 1) % 6) (hcnt kk) (va_up RG x (cpG (RG x) G n)) (va_up rn x n) (va_up RS x sc) := by
  have new : cfgR f (va_up RG x (cpG (RG x) G n) x) (va_up rn x n x) (va_up RS x sc x) := by
    rw [upq_s, upq_s, upq_s]; exact hc.ag (agr_cp _ _ _)
  have old : ∀ q, q ≠ x → ∀ row : Nat → Int32, cfgR row (RG q) (rn q) (RS q) → cfgR row (va_up RG x (cpG (RG x) G n) q) (va_up rn x n q) (va_up RS x sc q) := fun q hq row h9 => by
    rw [upq_n hq, upq_n hq, upq_n hq]; exact h9
  intro j hj
  by_cases h6 : kk = 6
  · subst h6
    have e1 : hcnt 6 = 6 := rfl
    rw [e1] at hj ⊢
    have e2 : hrec h f 6 = hput (hsh h 290) 5 f 58 := if_pos rfl
    rw [e2]
    rcases Nat.lt_or_ge j 5 with q | q
    · have hs : ((x + 1) % 6 + 6 - 6 + j) % 6 = (x + 6 - 6 + (j + 1)) % 6 := by omega
      rw [hs]
      refine old _ (by omega) _ ((hh (j + 1) (by omega)).cg (fun k hk => ?_))
      show hput (hsh h 290) 5 f 58 (58 * j + k) = h (58 * (j + 1) + k)
      simp only [hput, hsh]
      rw [if_neg (by omega), if_pos (by omega), show 58 * j + k + 58 = 58 * (j + 1) + k by omega]
    · have : j = 5 := by omega
      subst this
      have hs : ((x + 1) % 6 + 6 - 6 + 5) % 6 = x := by omega
      rw [hs]
      refine new.cg (fun k hk => ?_)
      show hput (hsh h 290) 5 f 58 (58 * 5 + k) = f k
      simp only [hput]
      rw [if_pos (by omega), show 58 * 5 + k - 58 * 5 = k by omega]
  · have e1 : hcnt kk = kk + 1 := if_neg h6
    rw [e1] at hj ⊢
    have e2 : hrec h f kk = hput h kk f 58 := if_neg h6
    rw [e2]
    have hs : ((x + 1) % 6 + 6 - (kk + 1) + j) % 6 = (x + 6 - kk + j) % 6 := by omega
    rw [hs]
    rcases Nat.lt_or_ge j kk with q | q
    · refine old _ (by omega) _ ((hh j q).cg (fun k hk => ?_))
      show hput h kk f 58 (58 * j + k) = h (58 * j + k)
      simp only [hput]
      rw [if_neg (by omega)]
    · have : j = kk := by omega
      subst this
      have hs2 : (x + 6 - j + j) % 6 = x := by omega
      rw [hs2]
      refine new.cg (fun k hk => ?_)
      show hput h j f 58 (58 * j + k) = f k
      simp only [hput]
      rw [if_pos (by omega), show 58 * j + k - 58 * j = k by omega]
/-- the class's state and the reference's -/
def Rel (σ : CS) (I : Nat → Int32) (R : vG) : Prop := match σ with
  | ((F, (G, n, sc), (Gt, nt, sct), (x, kk, RG, rn, RS)), (Gv, nv9, scv), (C, N, L, fl), (M, (Gz, nz, scz), Q, T)) => cfgR (R 1) G n sc ∧ nt ≤ 8 ∧ x < 6 ∧ kk ≤ 6 ∧ I 5 = nI kk ∧ (∀ j, j < 6 → rn j ≤ 8) ∧ hisR (R 4) x kk RG rn RS ∧ nv9 ≤ 8 ∧ I 6 = F 6 ∧ (¬ F 6 = 0 → cfgR (R 3) Gv nv9 scv) ∧ L ≤ 30 ∧ I 8 = nI L ∧ (∀ i, i < L → R 7 i = C i) ∧ I 9 = fl ∧ nz ≤ 8 ∧ I 10 = F 8 ∧ I 11 = F 9 ∧ I 12 = F 10 ∧ I 13 = F 11 ∧ I 14 = F 7 ∧ nnQ Q ∧ (¬ F 7 = 0 → I 15 = M 11 ∧ I 16 = M 12 ∧ I 17 = M 13 ∧ I 18 = M 14 ∧ ∀ i, i < 8 → R 19 i = Q 5 i)
theorem Rel.ok {σ : CS} {I : Nat → Int32} {R : vG} (h : Rel σ I R) : KOk σ := by
  obtain ⟨⟨F, ⟨G, n, sc⟩, ⟨Gt, nt, sct⟩, x, kk, RG, rn, RS⟩, ⟨Gv, nv9, scv⟩, ⟨C, N, L, fl⟩, M, ⟨Gz, nz, scz⟩, Q, T⟩ := σ
  obtain ⟨hc, hnt, hx6, hkk, hI5, hrn, hh, hnv, hI6, hsv, hL, hI8, htx, hI9, hnz, hI10, hI11, hI12, hI13, hI14, hnn, hsm⟩ := h
  obtain ⟨h1, h2, h3, h4, h5, h6, h7⟩ := hc
  have hs : scOk sc := by rw [h4]; exact gscale_sc h3
  have hf := gsc_sched 8 h3
  exact ⟨h1, hnt, hx6, hkk, hrn, hnv, hL, hnz, h2, hs, dok_of h2 h1 hs (by rw [h4]; exact hf.1), dok_of h2 h1 hs (by rw [h4]; exact hf.2), hnn⟩
theorem Rel.cg {σ : CS} {I I' : Nat → Int32} {R R' : vG} (h : Rel σ I R) (hI : ∀ k, k ≤ 18 → ¬ k = 0 → I' k = I k) (hR : ∀ k, k ≤ 19 → ¬ k = 2 → R' k = R k) : Rel σ I' R' := by
  obtain ⟨⟨F, ⟨G, n, sc⟩, ⟨Gt, nt, sct⟩, x, kk, RG, rn, RS⟩, ⟨Gv, nv9, scv⟩, ⟨C, N, L, fl⟩, M, ⟨Gz, nz, scz⟩, Q, T⟩ := σ
  obtain ⟨hc, hnt, hx6, hkk, hI5, hrn, hh, hnv, hI6, hsv, hL, hI8, htx, hI9, hnz, hI10, hI11, hI12, hI13, hI14, hnn, hsm⟩ := h
  have r1 := hR 1 (by omega) (by omega)
  have r3 := hR 3 (by omega) (by omega)
  have r4 := hR 4 (by omega) (by omega)
  have r7 := hR 7 (by omega) (by omega)
  have r19 := hR 19 (by omega) (by omega)
  have i9 : ∀ k, k ≤ 18 → ¬ k = 0 → ∀ {y : Int32}, I k = y → I' k = y := fun k a b y e => (hI k a b).trans e
  refine ⟨by rw [r1]; exact hc, hnt, hx6, hkk, i9 5 (by omega) (by omega) hI5, hrn, by rw [r4]; exact hh, hnv, i9 6 (by omega) (by omega) hI6, fun g => by rw [r3]; exact hsv g, hL, i9 8 (by omega) (by omega) hI8, fun i hi => by rw [r7]; exact htx i hi, i9 9 (by omega) (by omega) hI9, hnz, i9 10 (by omega) (by omega) hI10, i9 11 (by omega) (by omega) hI11, i9 12 (by omega) (by omega) hI12, i9 13 (by omega) (by omega) hI13, i9 14 (by omega) (by omega) hI14, hnn, fun g => ?_⟩
  obtain ⟨s1, s2, s3, s4, s5⟩ := hsm g
  exact ⟨i9 15 (by omega) (by omega) s1, i9 16 (by omega) (by omega) s2, i9 17 (by omega) (by omega) s3, i9 18 (by omega) (by omega) s4, fun i hi => by rw [r19]; exact s5 i hi⟩
theorem Rel.th {σ : CS} {I : Nat → Int32} {R : vG} (h : Rel σ I R) (y : Int32) : Rel σ (upd I 0 y) R := h.cg (fun _ _ g => pk_un g) (fun _ _ _ => rfl)
/-- a change of both: the new configuration, the old one kept -/
theorem chg_rel {F : Nat → Int32} {G : vG} {n : Nat} {sc : Int32} {Gt : vG} {nt : Nat} {sct : Int32} {x kk : Nat} {RG : Nat → vG} {rn : Nat → Nat} {RS : Nat → Int32} {Gv : vG} {nv9 : Nat} {scv : Int32} {C N : Nat → Int32} {L : Nat} {fl : Int32} {M : Nat → Int32} {Gz : vG} {nz : Nat} {scz : Int32} {Q T : vG} {I : Nat → Int32} {R : vG} (h : Rel ((F, (G, n, sc), (Gt, nt, sct), (x, kk, RG, rn, RS)), (Gv, nv9, scv), (C, N, L, fl), (M, (Gz, nz, scz), Q, T)) I R) {T9 : vG} {m : Nat} {s : Int32} {S' : Nat → Int32} (hT : cfgR S' T9 m s) : Rel ((kChg F G n sc x kk RG rn RS T9 m s, (Gv, nv9, scv), (C, N, L, fl), (M, (Gz, nz, scz), Q, T))) (recd I R kk S').1 (recd I R kk S').2 := by
  obtain ⟨hc, hnt, hx6, hkk, hI5, hrn, hh, hnv, hI6, hsv, hL, hI8, htx, hI9, hnz, hI10, hI11, hI12, hI13, hI14, hnn, hsm⟩ := h
  refine ⟨hT.ag (agr_cp _ _ _), hT.1, Nat.mod_lt _ (by decide), ?_, rfl, fun j hj => ?_, his_rec hx6 hkk hh (hc.cg (fun k hk => if_pos hk)), hnv, hI6, hsv, hL, hI8, htx, hI9, hnz, hI10, hI11, hI12, hI13, rfl, hnn, fun g => absurd rfl g⟩
  · unfold hcnt
    split <;> omega
  · by_cases e : j = x
    · subst e; rw [upq_s]; exact hc.1
    · rw [upq_n e]; exact hrn j hj
theorem cT_lt {n : Nat} (hn : n ≤ 8) {p0 : Int32} (h : cT n p0 = 0) : p0.toNatClampNeg < n := by
  obtain ⟨i, hi, rfl⟩ := cT_get hn h
  rw [nI_clamp (by omega)]; exact hi
theorem st_rd {σ : CS} {I I' : Nat → Int32} {R : vG} {code code' r b : Int32} {val : Int64} {u : CS × Int64} (h : Rel σ I R) (hk : rdL σ code val r u) (hI : I' = upd I 0 code') (e1 : code' = code) (hv : code = 0 → val = b.toInt64) : I' 0 = r ∧ (r = 0 → u.2 = b.toInt64) ∧ Rel u.1 I' R := by
  obtain ⟨k1, k2, k3⟩ := hk
  subst k2; subst e1; subst hI
  rw [k1]
  exact ⟨rfl, fun g => (k3 g).trans (hv g), h.th _⟩
theorem cBud_agr {G G' : vG} {n : Nat} (hn : n ≤ 8) (h : agr G G' n) (p0 p1 : Int32) : cBud G n p0 p1 = cBud G' n p0 p1 := by
  unfold cBud
  by_cases g : cT n p0 = 0
  · rw [if_pos g, if_pos g, h 3 (by decide) _ (cT_lt hn g)]
  · rw [if_neg g, if_neg g]
theorem cBud_T {G : vG} {n : Nat} {p0 p1 : Int32} (h : cBud G n p0 p1 = 0) : cT n p0 = 0 := by
  unfold cBud at h
  by_cases g : cT n p0 = 0
  · exact g
  · rw [if_neg g] at h; exact absurd h (by decide)
theorem vBud_agr {G G' : vG} {n : Nat} (hn : n ≤ 8) (h : agr G G' n) {p0 p1 : Int32} (g : cT n p0 = 0) : vBud G p0 p1 = vBud G' p0 p1 := by
  unfold vBud
  rw [h 2 (by decide) _ (cT_lt hn g), h 3 (by decide) _ (cT_lt hn g)]
theorem dnext_agr {G G' : vG} {n : Nat} (h : agr G G' n) (sc : Int32) : dnext G n sc = dnext G' n sc := by
  funext p
  simp only [dnext, tdem_agr h, ltp_agr h sc n (Nat.le_refl n), gtp_agr h sc p n (Nat.le_refl n)]
theorem dcnt_agr {G G' : vG} {n : Nat} (h : agr G G' n) (sc : Int32) : ∀ (k : Nat) (p : Int32), dcnt G n sc k p = dcnt G' n sc k p := by
  intro k
  induction k with
  | zero => intro p; rfl
  | succ k ih => intro p; simp only [dcnt, dnext_agr h, ih]
theorem dpt_agr {G G' : vG} {n : Nat} (h : agr G G' n) (sc : Int32) : ∀ (k : Nat) (p : Int32), dpt G n sc k p = dpt G' n sc k p := by
  intro k
  induction k with
  | zero => intro p; rfl
  | succ k ih => intro p; simp only [dpt, dnext_agr h, ih]
theorem dlen_agr {G G' : vG} {n : Nat} (h : agr G G' n) (sc : Int32) : dlen G n sc = dlen G' n sc := by
  unfold dlen
  rw [gtp_agr h sc 201 n (Nat.le_refl n), dcnt_agr h]
theorem dpoint_agr {G G' : vG} {n : Nat} (h : agr G G' n) (sc : Int32) (k : Nat) : dpoint G n sc k = dpoint G' n sc k := by
  unfold dpoint
  rw [gtp_agr h sc 201 n (Nat.le_refl n), dpt_agr h]
theorem lod_agr {G G' : vG} {n : Nat} (h : agr G G' n) (sc mode : Int32) : lod G n sc mode = lod G' n sc mode := by
  unfold lod
  rw [tdem_agr h]
/-- the upgrade -/
theorem lwG_agr {n i : Nat} (hi : i < n) : ∀ (k : Nat) {G G' : vG}, agr G G' n → agr (lwG n i k G).1 (lwG n i k G').1 n ∧ (lwG n i k G).2 = (lwG n i k G').2 := by
  intro k
  induction k with
  | zero => intro G G' h; exact ⟨h, rfl⟩
  | succ k ih =>
    intro G G' h
    have h1 : agr (up2 G 6 i (G 6 i - 1)) (up2 G' 6 i (G' 6 i - 1)) n := by rw [h 6 (by decide) i hi]; exact agr_up2 h 6 i _ (by decide)
    obtain ⟨a, b⟩ := ih h1
    simp only [lwG, gscale_agr h1]
    split
    · exact ⟨h, rfl⟩
    · exact ⟨a, by rw [b]⟩
theorem lwG_4 {n i : Nat} : ∀ (k : Nat) (G : vG), (lwG n i k G).1 4 = G 4 := by
  intro k
  induction k with
  | zero => intro G; rfl
  | succ k ih =>
    intro G
    simp only [lwG]
    split
    · rfl
    · show (lwG n i k (up2 G 6 i (G 6 i - 1))).1 4 = G 4
      rw [ih]; rfl
theorem upJ_agr {n : Nat} {im : Int32} : ∀ (j i : Nat) {s s' : vG × Nat}, i + j ≤ n → agr s.1 s'.1 n → s.2 = s'.2 → agr (upJ n im j i s).1 (upJ n im j i s').1 n ∧ (upJ n im j i s).2 = (upJ n im j i s').2 := by
  intro j
  induction j with
  | zero => intro i s s' _ h e; exact ⟨h, e⟩
  | succ j ih =>
    intro i s s' hi h e
    simp only [upJ]
    have key : agr (upS n im i s).1 (upS n im i s').1 n ∧ (upS n im i s).2 = (upS n im i s').2 := by
      unfold upS
      rw [h 4 (by decide) i (by omega), h 6 (by decide) i (by omega)]
      split
      · obtain ⟨a, b⟩ := lwG_agr (i := i) (by omega) (s'.1 6 i).toNatClampNeg h
        exact ⟨a, by show s.2 + _ = s'.2 + _; rw [b, e]⟩
      · exact ⟨h, e⟩
    exact ih (i + 1) (by omega) key.1 key.2
theorem upA_agr {n : Nat} : ∀ (k : Nat) {s s' : vG × Nat}, agr s.1 s'.1 n → s.2 = s'.2 → agr (upA n k s).1 (upA n k s').1 n ∧ (upA n k s).2 = (upA n k s').2 := by
  intro k
  induction k with
  | zero => intro s s' h e; exact ⟨h, e⟩
  | succ k ih =>
    intro s s' h e
    simp only [upA]
    obtain ⟨a, b⟩ := upJ_agr (im := nI k) n 0 (by omega) h e
    exact ih a b
theorem upJ_ok {n : Nat} {im : Int32} : ∀ (j i : Nat) (s : vG × Nat), i + j ≤ n → okG s.1 n → ¬ gscale s.1 n = 0 → okG (upJ n im j i s).1 n ∧ ¬ gscale (upJ n im j i s).1 n = 0 := by
  intro j
  induction j with
  | zero => intro i s _ h g; exact ⟨h, g⟩
  | succ j ih =>
    intro i s hi h g
    simp only [upJ]
    have key : okG (upS n im i s).1 n ∧ ¬ gscale (upS n im i s).1 n = 0 := by
      unfold upS
      split
      · obtain ⟨lv, e, hl⟩ := lvl_lt h (show i < n by omega)
        rw [e, nI_clamp (by omega)]
        exact ⟨okG_lwG (by omega) lv s.1 h e hl, gs_lwG lv s.1 g⟩
      · exact ⟨h, g⟩
    exact ih (i + 1) _ (by omega) key.1 key.2
theorem upA_ok {n : Nat} : ∀ (k : Nat) (s : vG × Nat), okG s.1 n → ¬ gscale s.1 n = 0 → okG (upA n k s).1 n ∧ ¬ gscale (upA n k s).1 n = 0 := by
  intro k
  induction k with
  | zero => intro s h g; exact ⟨h, g⟩
  | succ k ih =>
    intro s h g
    simp only [upA]
    obtain ⟨a, b⟩ := upJ_ok (im := nI k) n 0 s (by omega) h g
    exact ih _ a b
theorem rmG_agr {G G' : vG} {n r : Nat} (h : agr G G' n) : agr (rmG G r n) (rmG G' r n) n := by
  intro k hk j hj
  simp only [rmG]
  split
  · exact h k hk _ (by omega)
  · exact h k hk j hj
theorem setc_agr {G G' : vG} {n : Nat} {col : Nat → Int32} (h : agr G G' n) : agr (setc G n col) (setc G' n col) (n + 1) := by
  intro k hk j hj
  show upd (G k) n (col k) j = upd (G' k) n (col k) j
  by_cases e : j = n
  · subst e; rw [pk_us, pk_us]
  · rw [pk_un e, pk_un e]; exact h k hk j (by omega)
theorem pF_agr {G G' : vG} {n : Nat} {p0 p1 p2 p3 p4 p5 : Int32} (h : agr G G' n) : agr (pF G n p0 p1 p2 p3 p4 p5) (pF G' n p0 p1 p2 p3 p4 p5) (n + 1) := dgl_agr 16 (setc_agr h)
theorem rej_cg {F : Nat → Int32} {I : Nat → Int32} {G G' : vG} {n : Nat} (h : agr G G' n) : rejI I G' n 10 = rejF F G n 8 ∧ rejI I G' n 11 = rejF F G n 9 ∧ rejI I G' n 12 = rejF F G n 10 ∧ rejI I G' n 13 = rejF F G n 11 := by
  rw [← rejI_agr h]
  exact ⟨rfl, rfl, rfl, rfl⟩
theorem rejF_o {F : Nat → Int32} {G : vG} {n k : Nat} (h : k < 8) : rejF F G n k = F k := by
  unfold rejF
  rw [pk_un (by omega), pk_un (by omega), pk_un (by omega), pk_un (by omega)]
theorem rejI_o {I : Nat → Int32} {G : vG} {n k : Nat} (h : k < 10 ∨ 13 < k) : rejI I G n k = I k := by
  unfold rejI
  rw [pk_un (by omega), pk_un (by omega), pk_un (by omega), pk_un (by omega)]
/-- proposals -/
theorem prop_rel {F : Nat → Int32} {G : vG} {n : Nat} {sc : Int32} {Gt : vG} {nt : Nat} {sct : Int32} {x kk : Nat} {RG : Nat → vG} {rn : Nat → Nat} {RS : Nat → Int32} {Gv : vG} {nv9 : Nat} {scv : Int32} {C N : Nat → Int32} {L : Nat} {fl : Int32} {M : Nat → Int32} {Gz : vG} {nz : Nat} {scz : Int32} {Q T : vG} {I : Nat → Int32} {R : vG} (h : Rel ((F, (G, n, sc), (Gt, nt, sct), (x, kk, RG, rn, RS)), (Gv, nv9, scv), (C, N, L, fl), (M, (Gz, nz, scz), Q, T)) I R) {p0 p1 p2 p3 p4 p5 v b : Int32} {w : AdmS} {u : (Nat → Int32) × vG} (hk : kProp F G n sc Gt x kk RG rn RS p0 p1 p2 p3 p4 p5 v w) (hm : qPropose I R n G kk p0 p1 p2 p3 p4 p5 b u) : u.1 0 = 0 ∧ v = b ∧ Rel ((w, (Gv, nv9, scv), (C, N, L, fl), (M, (Gz, nz, scz), Q, T))) u.1 u.2 := by
  obtain ⟨k1, k2⟩ := hk
  have htd : told p0 p1 p2 p3 p4 p5 ∧ ¬ n = 8 := by
    unfold cProp at k1
    by_cases a : told p0 p1 p2 p3 p4 p5
    · rw [if_pos a] at k1
      by_cases c : n = 8
      · rw [if_pos c] at k1; exact absurd k1 (by decide)
      · exact ⟨a, c⟩
    · rw [if_neg a] at k1; exact absurd k1 (by decide)
  have hc := h.1
  have ha : agr (pF (cpG Gt G n) n p0 p1 p2 p3 p4 p5) (pF G n p0 p1 p2 p3 p4 p5) (n + 1) := pF_agr (agr_cp Gt G n)
  have hg := gscale_agr ha
  rcases hm with ⟨m1, _⟩ | ⟨_, m1, _⟩ | ⟨_, m2, m3, m4, S', m5, m6, m7, m8⟩ | ⟨_, m2, m3, m4, S', m5, m6⟩
  · exact absurd htd.1 m1
  · exact absurd m1 htd.2
  · rcases k2 with ⟨g1, g2, g3⟩ | ⟨g1, _⟩
    · rw [g3, m5, g2, m4]
      refine ⟨rfl, rfl, chg_rel h ?_⟩
      have hok : okG (pF G n p0 p1 p2 p3 p4 p5) (n + 1) := okG_dgl 16 (okG_col hc.2.1 htd.1)
      have hcf : cfgR S' (pF G n p0 p1 p2 p3 p4 p5) (n + 1) (nI (gscale (pF G n p0 p1 p2 p3 p4 p5) (n + 1))) := ⟨by omega, hok, m3, rfl, m6, m7, m8⟩
      rw [hg]
      exact hcf.ag ha
    · rw [hg] at g1; exact absurd g1 m3
  · rcases k2 with ⟨g1, _⟩ | ⟨g1, g2, s9, g3⟩
    · rw [hg] at g1; exact absurd m3 g1
    · rw [g3, m5, g2, m4]
      obtain ⟨hc, hnt, hx6, hkk, hI5, hrn, hh, hnv, hI6, hsv, hL, hI8, htx, hI9, hnz, hI10, hI11, hI12, hI13, hI14, hnn, hsm⟩ := h
      obtain ⟨r1, r2, r3, r4⟩ := rej_cg (F := F) (I := upd I 0 0) ha
      have f6 := rejF_o (F := F) (G := pF (cpG Gt G n) n p0 p1 p2 p3 p4 p5) (n := n + 1) (k := 6) (by omega)
      have f7 := rejF_o (F := F) (G := pF (cpG Gt G n) n p0 p1 p2 p3 p4 p5) (n := n + 1) (k := 7) (by omega)
      have i9 : ∀ k, k < 10 ∨ 13 < k → ¬ k = 0 → rejI (upd I 0 0) (pF G n p0 p1 p2 p3 p4 p5) (n + 1) k = I k := fun k a c => (rejI_o a).trans (pk_un c)
      have i0 : rejI (upd I 0 0) (pF G n p0 p1 p2 p3 p4 p5) (n + 1) 0 = 0 := (rejI_o (by omega)).trans pk_us
      clear ha hg k1 g1 g2 g3 m3 m4 m5
      generalize rejF F (pF (cpG Gt G n) n p0 p1 p2 p3 p4 p5) (n + 1) = F9 at r1 r2 r3 r4 f6 f7 ⊢
      generalize rejI (upd I 0 0) (pF G n p0 p1 p2 p3 p4 p5) (n + 1) = J9 at r1 r2 r3 r4 i9 i0 ⊢
      generalize pF (cpG Gt G n) n p0 p1 p2 p3 p4 p5 = T9
      refine ⟨i0, rfl, hc.cg m6, by show n + 1 ≤ 8; omega, hx6, hkk, (i9 5 (by omega) (by omega)).trans hI5, hrn, hh, hnv, (i9 6 (by omega) (by omega)).trans (hI6.trans f6.symm), fun g => hsv (fun z => g (f6.trans z)), hL, (i9 8 (by omega) (by omega)).trans hI8, htx, (i9 9 (by omega) (by omega)).trans hI9, hnz, r1, r2, r3, r4, (i9 14 (by omega) (by omega)).trans (hI14.trans f7.symm), hnn, fun g => ?_⟩
      obtain ⟨s1, s2, s3, s4, s5⟩ := hsm (fun z => g (f7.trans z))
      exact ⟨(i9 15 (by omega) (by omega)).trans s1, (i9 16 (by omega) (by omega)).trans s2, (i9 17 (by omega) (by omega)).trans s3, (i9 18 (by omega) (by omega)).trans s4, s5⟩
theorem st_prop {F : Nat → Int32} {G : vG} {n : Nat} {sc : Int32} {Gt : vG} {nt : Nat} {sct : Int32} {x kk : Nat} {RG : Nat → vG} {rn : Nat → Nat} {RS : Nat → Int32} {Gv : vG} {nv9 : Nat} {scv : Int32} {C N : Nat → Int32} {L : Nat} {fl : Int32} {M : Nat → Int32} {Gz : vG} {nz : Nat} {scz : Int32} {Q T : vG} {I : Nat → Int32} {R : vG} (h : Rel ((F, (G, n, sc), (Gt, nt, sct), (x, kk, RG, rn, RS)), (Gv, nv9, scv), (C, N, L, fl), (M, (Gz, nz, scz), Q, T)) I R) {p0 p1 p2 p3 p4 p5 r b : Int32} {u : CS × Int64} {v : (Nat → Int32) × vG} (hk : wrL ((F, (G, n, sc), (Gt, nt, sct), (x, kk, RG, rn, RS)), (Gv, nv9, scv), (C, N, L, fl), (M, (Gz, nz, scz), Q, T)) (fun v u => ∃ w, kProp F G n sc Gt x kk RG rn RS p0 p1 p2 p3 p4 p5 v w ∧ u = (w, (Gv, nv9, scv), (C, N, L, fl), (M, (Gz, nz, scz), Q, T))) (fun r u => r = cProp n p0 p1 p2 p3 p4 p5 ∧ u = ((F, (G, n, sc), (Gt, nt, sct), (x, kk, RG, rn, RS)), (Gv, nv9, scv), (C, N, L, fl), (M, (Gz, nz, scz), Q, T))) r u) (hm : qPropose I R n G kk p0 p1 p2 p3 p4 p5 b v) : v.1 0 = r ∧ (r = 0 → u.2 = b.toInt64) ∧ Rel u.1 v.1 v.2 := by
  rcases hk with ⟨rfl, y, ⟨w, k1, k2⟩, k3⟩ | ⟨k0, k1, k2⟩
  · obtain ⟨a, c, d⟩ := prop_rel h k1 hm
    rw [k2]
    exact ⟨a, fun _ => by rw [k3, c], d⟩
  · rw [k2]
    refine ⟨?_, fun g => absurd g k0, ?_⟩
    · rw [k1]
      unfold cProp
      rcases hm with ⟨m1, rfl⟩ | ⟨m0, m1, rfl⟩ | ⟨m0, m2, _⟩ | ⟨m0, m2, _⟩
      · rw [if_neg m1]; rfl
      · rw [if_pos m0, if_pos m1]; rfl
      · exact absurd (by rw [k1, cProp, if_pos m0, if_neg (by omega)]) k0
      · exact absurd (by rw [k1, cProp, if_pos m0, if_neg (by omega)]) k0
    · rcases hm with ⟨m1, rfl⟩ | ⟨m0, m1, rfl⟩ | ⟨m0, m2, _⟩ | ⟨m0, m2, _⟩
      · exact h.th _
      · exact h.th _
      · exact absurd (by rw [k1, cProp, if_pos m0, if_neg (by omega)]) k0
      · exact absurd (by rw [k1, cProp, if_pos m0, if_neg (by omega)]) k0

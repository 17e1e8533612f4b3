/-! PART 79: the class's state beside the reference's: the other calls -/
theorem hrr_cg {t t' : Nat → Int32} {L : Nat} (h : ∀ i, i < L → t i = t' i) (p : Nat) : hrr t L p = hrr t' L p := by
  unfold hrr
  split
  · rfl
  · exact h p (by omega)
theorem rlen_cg {t t' : Nat → Int32} {L : Nat} (h : ∀ i, i < L → t i = t' i) (p : Nat) : rlen t L p = rlen t' L p := by
  unfold rlen isd
  rw [hrr_cg h p, hrr_cg h (p + 1)]
theorem rval_cg {t t' : Nat → Int32} {L : Nat} (h : ∀ i, i < L → t i = t' i) (p : Nat) : rval t L p = rval t' L p := by
  unfold rval isd
  rw [hrr_cg h p, hrr_cg h (p + 1)]
theorem pst_cg {t t' : Nat → Int32} {L : Nat} (h : ∀ i, i < L → t i = t' i) : ∀ k, pst t L k = pst t' L k := by
  intro k
  induction k with
  | zero => simp only [pst, rlen_cg h]
  | succ k ih => simp only [pst, rlen_cg h, hrr_cg h, ih]
theorem flt_cg {t t' : Nat → Int32} {L : Nat} (h : ∀ i, i < L → t i = t' i) : flt t L = flt t' L := by
  unfold flt
  rw [pst_cg h]
theorem nv_cg {t t' : Nat → Int32} {L : Nat} (h : ∀ i, i < L → t i = t' i) (k : Nat) : nv t L k = nv t' L k := by
  unfold nv
  rw [rval_cg h]
  cases k with
  | zero => rfl
  | succ k => simp only [psp, pst_cg h]
/-- the text was read -/
theorem txt_rel {F : Nat → Int32} {G : vG} {n : Nat} {sc : Int32} {Gt : vG} {nt : Nat} {sct : Int32} {x kk : Nat} {RG : Nat → vG} {rn : Nat → Nat} {RS : Nat → Int32} {Gv : vG} {nv9 : Nat} {scv : Int32} {C N : Nat → Int32} {L : Nat} {fl : Int32} {M : Nat → Int32} {Gz : vG} {nz : Nat} {scz : Int32} {Q T : vG} {I : Nat → Int32} {R : vG} (h : Rel ((F, (G, n, sc), (Gt, nt, sct), (x, kk, RG, rn, RS)), (Gv, nv9, scv), (C, N, L, fl), (M, (Gz, nz, scz), Q, T)) I R) (N1 : Nat → Int32) (z y fl1 : Int32) (N2 : Nat → Int32) : Rel (((F, (G, n, sc), (Gt, nt, sct), (x, kk, RG, rn, RS)), (Gv, nv9, scv), (C, N1, 0, fl1), (M, (Gz, nz, scz), Q, T))) (upd (upd (upd (upd I 0 z) 8 0) 9 fl1) 21 y) (upr R 20 N2) := by
  obtain ⟨hc, hnt, hx6, hkk, hI5, hrn, hh, hnv, hI6, hsv, hL, hI8, htx, hI9, hnz, hI10, hI11, hI12, hI13, hI14, hnn, hsm⟩ := h
  exact ⟨hc, hnt, hx6, hkk, hI5, hrn, hh, hnv, hI6, hsv, by show 0 ≤ 30; omega, rfl, fun i hi => absurd hi (Nat.not_lt_zero _), rfl, hnz, hI10, hI11, hI12, hI13, hI14, hnn, hsm⟩
theorem st_ptext {F : Nat → Int32} {G : vG} {n : Nat} {sc : Int32} {Gt : vG} {nt : Nat} {sct : Int32} {x kk : Nat} {RG : Nat → vG} {rn : Nat → Nat} {RS : Nat → Int32} {Gv : vG} {nv9 : Nat} {scv : Int32} {C N : Nat → Int32} {L : Nat} {fl : Int32} {M : Nat → Int32} {Gz : vG} {nz : Nat} {scz : Int32} {Q T : vG} {I : Nat → Int32} {R : vG} (h : Rel ((F, (G, n, sc), (Gt, nt, sct), (x, kk, RG, rn, RS)), (Gv, nv9, scv), (C, N, L, fl), (M, (Gz, nz, scz), Q, T)) I R) {r b : Int32} {u : CS × Int64} {v : (Nat → Int32) × vG} (hk : wrL ((F, (G, n, sc), (Gt, nt, sct), (x, kk, RG, rn, RS)), (Gv, nv9, scv), (C, N, L, fl), (M, (Gz, nz, scz), Q, T)) (fun v u => ∃ w N1, flt C L = -1 ∧ kProp F G n sc Gt x kk RG rn RS (nv C L 0) (nv C L 1) (nv C L 2) (nv C L 3) (nv C L 4) (nv C L 5) v w ∧ u = (w, (Gv, nv9, scv), (C, N1, 0, flt C L), (M, (Gz, nz, scz), Q, T))) (fun r u => ∃ N1, ((r = 1 ∧ ¬ flt C L = -1) ∨ (flt C L = -1 ∧ r = cProp n (nv C L 0) (nv C L 1) (nv C L 2) (nv C L 3) (nv C L 4) (nv C L 5))) ∧ u = ((F, (G, n, sc), (Gt, nt, sct), (x, kk, RG, rn, RS)), (Gv, nv9, scv), (C, N1, 0, flt C L), (M, (Gz, nz, scz), Q, T))) r u) (hm : qPText I R n G kk L b v) : v.1 0 = r ∧ (r = 0 → u.2 = b.toInt64) ∧ Rel u.1 v.1 v.2 := by
  have htx : ∀ i, i < L → R 7 i = C i := by obtain ⟨hc, hnt, hx6, hkk, hI5, hrn, hh, hnv, hI6, hsv, hL, hI8, htx, hI9, hnz, hI10, hI11, hI12, hI13, hI14, hnn, hsm⟩ := h; exact htx
  obtain ⟨y, N2, hm⟩ := hm
  rw [flt_cg htx] at hm
  simp only [nv_cg htx] at hm
  rcases hk with ⟨rfl, y9, ⟨w, N1, k0, k1, k2⟩, k3⟩ | ⟨k0, N1, k1, k2⟩
  · rcases hm with ⟨m1, _⟩ | ⟨_, m2⟩
    · exact absurd k0 m1
    · have hR := txt_rel h N1 0 y (-1) N2
      obtain ⟨a, c, d⟩ := prop_rel hR k1 m2
      rw [k2, k0]
      exact ⟨a, fun _ => by rw [k3, c], d⟩
  · rw [k2]
    rcases k1 with ⟨rfl, k4⟩ | ⟨k4, k5⟩
    · rcases hm with ⟨_, rfl⟩ | ⟨m1, _⟩
      · exact ⟨rfl, fun g => absurd g k0, txt_rel h N1 1 y _ N2⟩
      · exact absurd m1 k4
    · rcases hm with ⟨m1, _⟩ | ⟨_, m2⟩
      · exact absurd k4 m1
      · have hR := txt_rel h N1 0 y (-1) N2
        have := st_prop hR (u := (((F, (G, n, sc), (Gt, nt, sct), (x, kk, RG, rn, RS)), (Gv, nv9, scv), (C, N1, 0, -1), (M, (Gz, nz, scz), Q, T)), 0)) (r := r) (Or.inr ⟨k0, k5, rfl⟩) m2
        rw [k4]
        exact ⟨this.1, fun g => absurd g k0, this.2.2⟩
theorem st_app {F : Nat → Int32} {G : vG} {n : Nat} {sc : Int32} {Gt : vG} {nt : Nat} {sct : Int32} {x kk : Nat} {RG : Nat → vG} {rn : Nat → Nat} {RS : Nat → Int32} {Gv : vG} {nv9 : Nat} {scv : Int32} {C N : Nat → Int32} {L : Nat} {fl : Int32} {M : Nat → Int32} {Gz : vG} {nz : Nat} {scz : Int32} {Q T : vG} {I : Nat → Int32} {R : vG} (h : Rel ((F, (G, n, sc), (Gt, nt, sct), (x, kk, RG, rn, RS)), (Gv, nv9, scv), (C, N, L, fl), (M, (Gz, nz, scz), Q, T)) I R) {p0 r b : Int32} {u : CS × Int64} {v : (Nat → Int32) × vG} (hk : wrL ((F, (G, n, sc), (Gt, nt, sct), (x, kk, RG, rn, RS)), (Gv, nv9, scv), (C, N, L, fl), (M, (Gz, nz, scz), Q, T)) (fun v u => cApp L p0 = 0 ∧ v = nI (L + 1) ∧ u = ((F, (G, n, sc), (Gt, nt, sct), (x, kk, RG, rn, RS)), (Gv, nv9, scv), (upd C L p0, N, L + 1, fl), (M, (Gz, nz, scz), Q, T))) (fun r u => r = cApp L p0 ∧ u = ((F, (G, n, sc), (Gt, nt, sct), (x, kk, RG, rn, RS)), (Gv, nv9, scv), (C, N, L, fl), (M, (Gz, nz, scz), Q, T))) r u) (hm : qApp I R L p0 b v) : v.1 0 = r ∧ (r = 0 → u.2 = b.toInt64) ∧ Rel u.1 v.1 v.2 := by
  rcases hk with ⟨rfl, y, ⟨k1, k2, k3⟩, k4⟩ | ⟨k0, k1, k2⟩
  · rcases hm with ⟨m1, _⟩ | ⟨m0, m1, _⟩ | ⟨m0, m1, rfl, rfl⟩
    · rw [cApp, if_neg m1] at k1; exact absurd k1 (by decide)
    · rw [cApp, if_pos m0, if_pos m1] at k1; exact absurd k1 (by decide)
    · rw [k3]
      refine ⟨rfl, fun _ => by rw [k4, k2], ?_⟩
      obtain ⟨hc, hnt, hx6, hkk, hI5, hrn, hh, hnv, hI6, hsv, hL, hI8, htx, hI9, hnz, hI10, hI11, hI12, hI13, hI14, hnn, hsm⟩ := h
      refine ⟨hc, hnt, hx6, hkk, hI5, hrn, hh, hnv, hI6, hsv, by show L + 1 ≤ 30; omega, rfl, fun i hi => ?_, hI9, hnz, hI10, hI11, hI12, hI13, hI14, hnn, hsm⟩
      show upd (R 7) L p0 i = upd C L p0 i
      by_cases e : i = L
      · subst e; rw [pk_us, pk_us]
      · rw [pk_un e, pk_un e]; exact htx i (by omega)
  · rw [k2]
    rcases hm with ⟨m1, rfl⟩ | ⟨m0, m1, rfl⟩ | ⟨m0, m1, _⟩
    · exact ⟨by rw [k1, cApp, if_neg m1]; rfl, fun g => absurd g k0, h.th _⟩
    · exact ⟨by rw [k1, cApp, if_pos m0, if_pos m1]; rfl, fun g => absurd g k0, h.th _⟩
    · exact absurd (by rw [k1, cApp, if_pos m0, if_neg (by omega)]) k0
theorem st_with {F : Nat → Int32} {G : vG} {n : Nat} {sc : Int32} {Gt : vG} {nt : Nat} {sct : Int32} {x kk : Nat} {RG : Nat → vG} {rn : Nat → Nat} {RS : Nat → Int32} {Gv : vG} {nv9 : Nat} {scv : Int32} {C N : Nat → Int32} {L : Nat} {fl : Int32} {M : Nat → Int32} {Gz : vG} {nz : Nat} {scz : Int32} {Q T : vG} {I : Nat → Int32} {R : vG} (h : Rel ((F, (G, n, sc), (Gt, nt, sct), (x, kk, RG, rn, RS)), (Gv, nv9, scv), (C, N, L, fl), (M, (Gz, nz, scz), Q, T)) I R) {p0 r b : Int32} {u : CS × Int64} {v : (Nat → Int32) × vG} (hk : wrL ((F, (G, n, sc), (Gt, nt, sct), (x, kk, RG, rn, RS)), (Gv, nv9, scv), (C, N, L, fl), (M, (Gz, nz, scz), Q, T)) (fun v u => ∃ w, kWith F G n sc Gt x kk RG rn RS p0 v w ∧ u = (w, (Gv, nv9, scv), (C, N, L, fl), (M, (Gz, nz, scz), Q, T))) (fun r u => r = 1 ∧ cT n p0 = 1 ∧ u = ((F, (G, n, sc), (Gt, nt, sct), (x, kk, RG, rn, RS)), (Gv, nv9, scv), (C, N, L, fl), (M, (Gz, nz, scz), Q, T))) r u) (hm : qWith I R n G kk p0 b v) : v.1 0 = r ∧ (r = 0 → u.2 = b.toInt64) ∧ Rel u.1 v.1 v.2 := by
  have hc := h.1
  rcases hk with ⟨rfl, y, ⟨w, ⟨i, m, e1, e2, e3, e4, e5⟩, k2⟩, k3⟩ | ⟨k0, k1, k4, k2⟩
  · rcases hm with ⟨m1, _⟩ | ⟨i', m', f1, f2, f3, f4, S', f5, f6, f7, f8⟩
    · rw [e3, cT_ok hc.1 e2] at m1; exact absurd m1 (by decide)
    · have hn8 := hc.1
      have em : m' = m := by omega
      have ei : i' = i := (nI_eq (by omega) (by omega)).mp (f3.symm.trans e3)
      subst em; subst ei
      rw [k2, e5, f5]
      refine ⟨rfl, fun _ => by rw [k3, e4, f4], chg_rel h ?_⟩
      subst e1
      have ha : agr (rmG (cpG Gt G (m' + 1)) i' (m' + 1)) (rmG G i' (m' + 1)) m' := (rmG_agr (agr_cp Gt G (m' + 1))).mono (by omega)
      have hg := gscale_agr ha
      have h0 := gs_rm hc.2.1 hn8 e2 hc.2.2.1
      rw [if_neg h0] at f7
      rw [hg, if_neg h0]
      have hcf : cfgR S' (rmG G i' (m' + 1)) m' (nI (gscale (rmG G i' (m' + 1)) m')) := ⟨by omega, okG_rm hc.2.1, h0, rfl, f6, f7, f8⟩
      exact hcf.ag ha
  · rw [k2]
    rcases hm with ⟨_, rfl⟩ | ⟨i', m', f1, f2, f3, _⟩
    · exact ⟨k1.symm, fun g => absurd g k0, h.th _⟩
    · rw [f3, cT_ok hc.1 f2] at k4; exact absurd k4 (by decide)
theorem up2_agr6 {G G' : vG} {n i : Nat} {p : Int32} (h : agr G G' n) : agr (up2 G 6 i p) (up2 G' 6 i p) n := agr_up2 h 6 i p (by decide)
theorem st_setl {F : Nat → Int32} {G : vG} {n : Nat} {sc : Int32} {Gt : vG} {nt : Nat} {sct : Int32} {x kk : Nat} {RG : Nat → vG} {rn : Nat → Nat} {RS : Nat → Int32} {Gv : vG} {nv9 : Nat} {scv : Int32} {C N : Nat → Int32} {L : Nat} {fl : Int32} {M : Nat → Int32} {Gz : vG} {nz : Nat} {scz : Int32} {Q T : vG} {I : Nat → Int32} {R : vG} (h : Rel ((F, (G, n, sc), (Gt, nt, sct), (x, kk, RG, rn, RS)), (Gv, nv9, scv), (C, N, L, fl), (M, (Gz, nz, scz), Q, T)) I R) {p0 p1 r b : Int32} {u : CS × Int64} {v : (Nat → Int32) × vG} (hk : wrL ((F, (G, n, sc), (Gt, nt, sct), (x, kk, RG, rn, RS)), (Gv, nv9, scv), (C, N, L, fl), (M, (Gz, nz, scz), Q, T)) (fun v u => ∃ w, kSetL F G n sc Gt x kk RG rn RS p0 p1 v w ∧ u = (w, (Gv, nv9, scv), (C, N, L, fl), (M, (Gz, nz, scz), Q, T))) (fun r u => ∃ (Gt1 : vG) (nt1 : Nat) (sct1 : Int32), nt1 ≤ 8 ∧ ((r = 1 ∧ cT n p0 = 1) ∨ (r = 2 ∧ ∃ i, i < n ∧ p0 = nI i ∧ ¬ inr p1 0 (G 5 i)) ∨ (r = 3 ∧ ∃ i, i < n ∧ p0 = nI i ∧ inr p1 0 (G 5 i) ∧ gscale (up2 (cpG Gt G n) 6 i p1) n = 0)) ∧ u = ((F, (G, n, sc), (Gt1, nt1, sct1), (x, kk, RG, rn, RS)), (Gv, nv9, scv), (C, N, L, fl), (M, (Gz, nz, scz), Q, T))) r u) (hm : qSetL I R n G kk p0 p1 b v) : v.1 0 = r ∧ (r = 0 → u.2 = b.toInt64) ∧ Rel u.1 v.1 v.2 := by
  have hc := h.1
  have hn8 := hc.1
  have hga : ∀ i, gscale (up2 (cpG Gt G n) 6 i p1) n = gscale (up2 G 6 i p1) n := fun i => gscale_agr (up2_agr6 (agr_cp Gt G n))
  have hnx : ∀ {i j : Nat}, i < n → j < n → p0 = nI i → p0 = nI j → j = i := fun hi hj e1 e2 => (nI_eq (by omega) (by omega)).mp (e2.symm.trans e1)
  have htri : ∀ (y : Int32) (Gt1 : vG) (nt1 : Nat) (sct1 : Int32), nt1 ≤ 8 → Rel ((F, (G, n, sc), (Gt1, nt1, sct1), (x, kk, RG, rn, RS)), (Gv, nv9, scv), (C, N, L, fl), (M, (Gz, nz, scz), Q, T)) (upd I 0 y) R := by
    intro y Gt1 nt1 sct1 h8
    have h9 := h.th y
    obtain ⟨hc, hnt, hx6, hkk, hI5, hrn, hh, hnv, hI6, hsv, hL, hI8, htx, hI9, hnz, hI10, hI11, hI12, hI13, hI14, hnn, hsm⟩ := h9
    exact ⟨hc, h8, hx6, hkk, hI5, hrn, hh, hnv, hI6, hsv, hL, hI8, htx, hI9, hnz, hI10, hI11, hI12, hI13, hI14, hnn, hsm⟩
  rcases hk with ⟨rfl, y, ⟨w, ⟨i, e1, e2, e3, e4, e5, e6⟩, k2⟩, k3⟩ | ⟨k0, Gt1, nt1, sct1, h8, k1, k2⟩
  · rw [hga] at e4
    rcases hm with ⟨m1, _⟩ | ⟨i', f1, f2, ⟨f3, _⟩ | ⟨f3, f4, _⟩ | ⟨f3, f4, f5, S', f6, f7, f8, f9⟩⟩
    · rw [e2, cT_ok hc.1 e1] at m1; exact absurd m1 (by decide)
    · have := hnx e1 f1 e2 f2; subst this; exact absurd e3 f3
    · have := hnx e1 f1 e2 f2; subst this; exact absurd f4 e4
    · have := hnx e1 f1 e2 f2; subst this
      rw [k2, e6, f6]
      refine ⟨rfl, fun _ => by rw [k3, e5, f5], chg_rel h ?_⟩
      rw [hga]
      obtain ⟨j, hj, rfl⟩ := nI_of e3.1
      have hlev := e3.2
      obtain ⟨P, D, L9, H, im, mo, lv, g0, g1, g2, g3, g4, g5, g6, gr⟩ := hc.2.1 i' f1
      have hj2 : j ≤ mo := by
        rcases Nat.lt_or_ge mo j with q | q
        · exact absurd (by rw [g5]; exact nI_lt q hj) hlev
        · exact q
      have hok : okG (up2 G 6 i' (nI j)) n := okG_lev hc.2.1 rfl (by rw [g5]; exact nI_le hj2 (by omega)) (by omega)
      have hcf : cfgR S' (up2 G 6 i' (nI j)) n (nI (gscale (up2 G 6 i' (nI j)) n)) := ⟨hn8, hok, f4, rfl, f7, f8, f9⟩
      exact hcf.ag (up2_agr6 (agr_cp Gt G n))
  · rw [k2]
    rcases hm with ⟨m1, rfl⟩ | ⟨i', f1, f2, ⟨f3, rfl⟩ | ⟨f3, f4, S', rfl, f5⟩ | ⟨f3, f4, _⟩⟩
    · rcases k1 with ⟨rfl, _⟩ | ⟨rfl, i, e1, e2, _⟩ | ⟨rfl, i, e1, e2, _⟩
      · exact ⟨rfl, fun g => absurd g k0, htri _ _ _ _ h8⟩
      · rw [e2, cT_ok hc.1 e1] at m1; exact absurd m1 (by decide)
      · rw [e2, cT_ok hc.1 e1] at m1; exact absurd m1 (by decide)
    · rcases k1 with ⟨rfl, e1⟩ | ⟨rfl, i, e1, e2, e3⟩ | ⟨rfl, i, e1, e2, e3, _⟩
      · rw [f2, cT_ok hc.1 f1] at e1; exact absurd e1 (by decide)
      · exact ⟨rfl, fun g => absurd g k0, htri _ _ _ _ h8⟩
      · have := hnx e1 f1 e2 f2; subst this; exact absurd e3 f3
    · rcases k1 with ⟨rfl, e1⟩ | ⟨rfl, i, e1, e2, e3⟩ | ⟨rfl, i, e1, e2, e3, e4⟩
      · rw [f2, cT_ok hc.1 f1] at e1; exact absurd e1 (by decide)
      · have := hnx e1 f1 e2 f2; subst this; exact absurd f3 e3
      · refine ⟨rfl, fun g => absurd g k0, ?_⟩
        have h9 := htri 3 Gt1 nt1 sct1 h8
        obtain ⟨hc, hnt, hx6, hkk, hI5, hrn, hh, hnv, hI6, hsv, hL, hI8, htx, hI9, hnz, hI10, hI11, hI12, hI13, hI14, hnn, hsm⟩ := h9
        exact ⟨hc.cg f5, h8, hx6, hkk, hI5, hrn, hh, hnv, hI6, hsv, hL, hI8, htx, hI9, hnz, hI10, hI11, hI12, hI13, hI14, hnn, hsm⟩
    · rcases k1 with ⟨rfl, e1⟩ | ⟨rfl, i, e1, e2, e3⟩ | ⟨rfl, i, e1, e2, e3, e4⟩
      · rw [f2, cT_ok hc.1 f1] at e1; exact absurd e1 (by decide)
      · have := hnx e1 f1 e2 f2; subst this; exact absurd f3 e3
      · have := hnx e1 f1 e2 f2; subst this; rw [hga] at e4; exact absurd e4 f4
theorem st_undo {F : Nat → Int32} {G : vG} {n : Nat} {sc : Int32} {Gt : vG} {nt : Nat} {sct : Int32} {x kk : Nat} {RG : Nat → vG} {rn : Nat → Nat} {RS : Nat → Int32} {Gv : vG} {nv9 : Nat} {scv : Int32} {C N : Nat → Int32} {L : Nat} {fl : Int32} {M : Nat → Int32} {Gz : vG} {nz : Nat} {scz : Int32} {Q T : vG} {I : Nat → Int32} {R : vG} (h : Rel ((F, (G, n, sc), (Gt, nt, sct), (x, kk, RG, rn, RS)), (Gv, nv9, scv), (C, N, L, fl), (M, (Gz, nz, scz), Q, T)) I R) {r b : Int32} {u : CS × Int64} {v : (Nat → Int32) × vG} (hk : wrL ((F, (G, n, sc), (Gt, nt, sct), (x, kk, RG, rn, RS)), (Gv, nv9, scv), (C, N, L, fl), (M, (Gz, nz, scz), Q, T)) (fun v u => ∃ k1, kk = k1 + 1 ∧ v = nI k1 ∧ u = ((upd F 7 0, (cpG G (RG ((x + 5) % 6)) (rn ((x + 5) % 6)), rn ((x + 5) % 6), RS ((x + 5) % 6)), (Gt, nt, sct), ((x + 5) % 6, k1, RG, rn, RS)), (Gv, nv9, scv), (C, N, L, fl), (M, (Gz, nz, scz), Q, T))) (fun r u => r = 1 ∧ kk = 0 ∧ u = ((F, (G, n, sc), (Gt, nt, sct), (x, kk, RG, rn, RS)), (Gv, nv9, scv), (C, N, L, fl), (M, (Gz, nz, scz), Q, T))) r u) (hm : qUndo I R kk b v) : v.1 0 = r ∧ (r = 0 → u.2 = b.toInt64) ∧ Rel u.1 v.1 v.2 := by
  rcases hk with ⟨rfl, y, ⟨k1, e1, e2, k2⟩, k3⟩ | ⟨k0, k1, k4, k2⟩
  · rcases hm with ⟨m1, _⟩ | ⟨c9, f1, f2, rfl⟩
    · omega
    · have : c9 = k1 := by omega
      subst this
      rw [k2]
      refine ⟨rfl, fun _ => by rw [k3, e2, f2], ?_⟩
      obtain ⟨hc, hnt, hx6, hkk, hI5, hrn, hh, hnv, hI6, hsv, hL, hI8, htx, hI9, hnz, hI10, hI11, hI12, hI13, hI14, hnn, hsm⟩ := h
      have hs : (x + 6 - kk + c9) % 6 = (x + 5) % 6 := by omega
      have hold := hh c9 (by omega)
      rw [hs] at hold
      refine ⟨(hold.ag (agr_cp _ _ _)).cg (fun k hk => if_pos hk), hnt, Nat.mod_lt _ (by decide), by show c9 ≤ 6; omega, rfl, hrn, fun j hj => ?_, hnv, hI6, hsv, hL, hI8, htx, hI9, hnz, hI10, hI11, hI12, hI13, rfl, hnn, fun g => absurd rfl g⟩
      have h9 := hh j (by omega)
      rw [show (x + 6 - kk + j) % 6 = ((x + 5) % 6 + 6 - c9 + j) % 6 by omega] at h9
      exact h9
  · rw [k2]
    rcases hm with ⟨_, rfl⟩ | ⟨c9, f1, _⟩
    · exact ⟨k1.symm, fun g => absurd g k0, h.th _⟩
    · omega
theorem st_rest {F : Nat → Int32} {G : vG} {n : Nat} {sc : Int32} {Gt : vG} {nt : Nat} {sct : Int32} {x kk : Nat} {RG : Nat → vG} {rn : Nat → Nat} {RS : Nat → Int32} {Gv : vG} {nv9 : Nat} {scv : Int32} {C N : Nat → Int32} {L : Nat} {fl : Int32} {M : Nat → Int32} {Gz : vG} {nz : Nat} {scz : Int32} {Q T : vG} {I : Nat → Int32} {R : vG} (h : Rel ((F, (G, n, sc), (Gt, nt, sct), (x, kk, RG, rn, RS)), (Gv, nv9, scv), (C, N, L, fl), (M, (Gz, nz, scz), Q, T)) I R) {r b : Int32} {u : CS × Int64} {v : (Nat → Int32) × vG} (hk : wrL ((F, (G, n, sc), (Gt, nt, sct), (x, kk, RG, rn, RS)), (Gv, nv9, scv), (C, N, L, fl), (M, (Gz, nz, scz), Q, T)) (fun v u => ¬ F 6 = 0 ∧ v = nI nv9 ∧ ∃ w, w = kChg F G n sc x kk RG rn RS (cpG Gt Gv nv9) nv9 scv ∧ u = (w, (Gv, nv9, scv), (C, N, L, fl), (M, (Gz, nz, scz), Q, T))) (fun r u => r = 1 ∧ F 6 = 0 ∧ u = ((F, (G, n, sc), (Gt, nt, sct), (x, kk, RG, rn, RS)), (Gv, nv9, scv), (C, N, L, fl), (M, (Gz, nz, scz), Q, T))) r u) (hm : qRest I R kk b v) : v.1 0 = r ∧ (r = 0 → u.2 = b.toInt64) ∧ Rel u.1 v.1 v.2 := by
  have h9 := h
  obtain ⟨hc, hnt, hx6, hkk, hI5, hrn, hh, hnv, hI6, hsv, hL, hI8, htx, hI9, hnz, hI10, hI11, hI12, hI13, hI14, hnn, hsm⟩ := h9
  rcases hk with ⟨rfl, y, ⟨k1, e2, w, e5, k2⟩, k3⟩ | ⟨k0, k1, k4, k2⟩
  · have hs := hsv k1
    rcases hm with ⟨m1, _⟩ | ⟨f1, f2, rfl⟩
    · exact absurd (hI6.symm.trans m1) k1
    · rw [k2, e5]
      refine ⟨rfl, fun _ => by rw [k3, e2, f2, hs.2.2.2.2.1], chg_rel h ?_⟩
      exact (hs.ag (agr_cp _ _ _)).cg (fun k hk => if_pos hk)
  · rw [k2]
    rcases hm with ⟨_, rfl⟩ | ⟨f1, _⟩
    · exact ⟨k1.symm, fun g => absurd g k0, h.th _⟩
    · exact absurd (hI6.trans k4) f1
theorem sim_rel2 {F : Nat → Int32} {G : vG} {n : Nat} {sc : Int32} {Gt : vG} {nt : Nat} {sct : Int32} {x kk : Nat} {RG : Nat → vG} {rn : Nat → Nat} {RS : Nat → Int32} {Gv : vG} {nv9 : Nat} {scv : Int32} {C N : Nat → Int32} {L : Nat} {fl : Int32} {M : Nat → Int32} {Gz : vG} {nz : Nat} {scz : Int32} {Q T : vG} {I : Nat → Int32} {R : vG} (h : Rel ((F, (G, n, sc), (Gt, nt, sct), (x, kk, RG, rn, RS)), (Gv, nv9, scv), (C, N, L, fl), (M, (Gz, nz, scz), Q, T)) I R) {p0 p1 p2 : Int32} {Gq : vG} (hGq : cpG Gz G n = Gq) : (∀ hz, 1 ≤ hz → hz ≤ 200 → p2 = nI hz → inr p1 0 100 → simOk Gq sc n hz (sim0 M Q T p0 p1 hz)) ∧ (∀ hz, 1 ≤ hz → hz ≤ 200 → p2 = nI hz → inr p1 0 100 → simOkR p1 n hz (simR0 I R p0)) := by
  have hc := h.1
  have ha : agr Gq G n := by rw [← hGq]; exact agr_cp _ _ _
  have hs : scOk sc := by rw [hc.2.2.2.1]; exact gscale_sc hc.2.2.1
  have key := fun hz (hh : hz ≤ 200) => sim_main (I := I) (R := R) (M := M) (Q := Q) (T := T) (sd := p0) (ov := p1) (hz := hz) (okG_agr ha.symm hc.2.1) hc.1 hs (hc.2.2.2.2.2.2.trans ha.symm) hc.2.2.2.2.2.1 hh
  exact ⟨fun hz _ h2 _ _ => (key hz h2).1, fun hz _ h2 _ _ => (key hz h2).2.1⟩
theorem st_sim {F : Nat → Int32} {G : vG} {n : Nat} {sc : Int32} {Gt : vG} {nt : Nat} {sct : Int32} {x kk : Nat} {RG : Nat → vG} {rn : Nat → Nat} {RS : Nat → Int32} {Gv : vG} {nv9 : Nat} {scv : Int32} {C N : Nat → Int32} {L : Nat} {fl : Int32} {M : Nat → Int32} {Gz : vG} {nz : Nat} {scz : Int32} {Q T : vG} {I : Nat → Int32} {R : vG} (h : Rel ((F, (G, n, sc), (Gt, nt, sct), (x, kk, RG, rn, RS)), (Gv, nv9, scv), (C, N, L, fl), (M, (Gz, nz, scz), Q, T)) I R) {p0 p1 p2 : Int32} {Gq : vG} (hGq : cpG Gz G n = Gq) {r b : Int32} {u : CS × Int64} {v : (Nat → Int32) × vG} (hk : wrL ((F, (G, n, sc), (Gt, nt, sct), (x, kk, RG, rn, RS)), (Gv, nv9, scv), (C, N, L, fl), (M, (Gz, nz, scz), Q, T)) (fun v u => ∃ F1 M1 Q1 T1, kSim F Gq n sc M Q T p0 p1 p2 v (F1, M1, Q1, T1) ∧ u = ((F1, (G, n, sc), (Gt, nt, sct), (x, kk, RG, rn, RS)), (Gv, nv9, scv), (C, N, L, fl), (M1, (Gq, n, sc), Q1, T1))) (fun r u => r = 1 ∧ cSim p1 p2 = 1 ∧ u = ((F, (G, n, sc), (Gt, nt, sct), (x, kk, RG, rn, RS)), (Gv, nv9, scv), (C, N, L, fl), (M, (Gz, nz, scz), Q, T))) r u) (hm : qSim I R n p0 p1 p2 b v) : v.1 0 = r ∧ (r = 0 → u.2 = b.toInt64) ∧ Rel u.1 v.1 v.2 := by
  rcases hk with ⟨rfl, y, ⟨F1, M1, Q1, T1, ⟨k1, hz, e1, e2, e3, e4, e5⟩, k2⟩, k3⟩ | ⟨k0, k1, k4, k2⟩
  · rcases hm with ⟨m1, _⟩ | ⟨m1, hz', f1, f2, f3, f4, f5⟩
    · rw [k1] at m1; exact absurd m1 (by decide)
    · have : hz' = hz := (nI_eq (by omega) (by omega)).mp (f3.symm.trans e3)
      subst this
      have hc := h.1
      have ha : agr Gq G n := by rw [← hGq]; exact agr_cp _ _ _
      have hs : scOk sc := by rw [hc.2.2.2.1]; exact gscale_sc hc.2.2.1
      obtain ⟨_, _, s9, q9, g1, g2, g3, g4, g5, g6, g7, g8, g9, g10⟩ := sim_main (I := I) (R := R) (M := M) (Q := Q) (T := T) (sd := p0) (ov := p1) (hz := hz') (okG_agr ha.symm hc.2.1) hc.1 hs (hc.2.2.2.2.2.2.trans ha.symm) hc.2.2.2.2.2.1 e2
      have hnn9 : nnQ s9.2.1 := by rw [g1]; exact nn_sim
      rw [← g1] at e4
      rw [← g2] at f5
      obtain ⟨e6, e7⟩ := Prod.mk.inj e4
      rw [← e7] at g3 g4 g5 g6 g7 g8 hnn9
      rw [f5] at f4 ⊢
      rw [k2]
      have i9 : ∀ k, k < 14 → ¬ k = 0 → q9.1 k = I k := fun k a c => by
        rw [g9 k (by omega)]
        show upd (upd (upd (upd (upd (upd (upd (upd (upd (upd I 0 0) 14 1) 15 0) 16 0) 17 0) 18 0) 28 0) 29 0) 30 p0) 31 0 k = I k
        rw [pk_un (by omega), pk_un (by omega), pk_un (by omega), pk_un (by omega), pk_un (by omega), pk_un (by omega), pk_un (by omega), pk_un (by omega), pk_un (by omega), pk_un c]
      refine ⟨g9 0 (by omega), fun _ => ?_, ?_⟩
      · rw [k3, e5, f4, g3]
      · obtain ⟨hc, hnt, hx6, hkk, hI5, hrn, hh, hnv, hI6, hsv, hL, hI8, htx, hI9, hnz, hI10, hI11, hI12, hI13, hI14, hnn, hsm⟩ := h
        have r9 : ∀ k, k < 19 → q9.2 k = R k := g10
        rw [e6]
        refine ⟨by rw [r9 1 (by omega)]; exact hc, hnt, hx6, hkk, (i9 5 (by omega) (by omega)).trans hI5, hrn, by rw [r9 4 (by omega)]; exact hh, hnv, (i9 6 (by omega) (by omega)).trans hI6, fun g => by rw [r9 3 (by omega)]; exact hsv g, hL, (i9 8 (by omega) (by omega)).trans hI8, fun i hi => by rw [r9 7 (by omega)]; exact htx i hi, (i9 9 (by omega) (by omega)).trans hI9, hc.1, (i9 10 (by omega) (by omega)).trans hI10, (i9 11 (by omega) (by omega)).trans hI11, (i9 12 (by omega) (by omega)).trans hI12, (i9 13 (by omega) (by omega)).trans hI13, g9 14 (by omega), hnn9, fun _ => ⟨g4, g5, g6, g7, g8⟩⟩
  · rw [k2]
    rcases hm with ⟨_, rfl⟩ | ⟨m1, _⟩
    · exact ⟨k1.symm, fun g => absurd g k0, h.th _⟩
    · rw [k4] at m1; exact absurd m1 (by decide)
theorem st_upg {F : Nat → Int32} {G : vG} {n : Nat} {sc : Int32} {Gt : vG} {nt : Nat} {sct : Int32} {x kk : Nat} {RG : Nat → vG} {rn : Nat → Nat} {RS : Nat → Int32} {Gv : vG} {nv9 : Nat} {scv : Int32} {C N : Nat → Int32} {L : Nat} {fl : Int32} {M : Nat → Int32} {Gz : vG} {nz : Nat} {scz : Int32} {Q T : vG} {I : Nat → Int32} {R : vG} (h : Rel ((F, (G, n, sc), (Gt, nt, sct), (x, kk, RG, rn, RS)), (Gv, nv9, scv), (C, N, L, fl), (M, (Gz, nz, scz), Q, T)) I R) {r b : Int32} {w : AdmS} {v : (Nat → Int32) × vG} (hk : kUpg F G n sc Gt x kk RG rn RS r w) (hm : qUpg I R n G kk b v) : r = b ∧ Rel (w, (Gv, nv9, scv), (C, N, L, fl), (M, (Gz, nz, scz), Q, T)) v.1 v.2 := by
  obtain ⟨k1, s9, k2⟩ := hk
  obtain ⟨m1, S', m2, m3, m4, m5⟩ := hm
  have hc := h.1
  obtain ⟨a1, a2⟩ := upA_agr (n := n) 10 (s := (cpG Gt G n, 0)) (s' := (G, 0)) (agr_cp Gt G n) rfl
  obtain ⟨b1, b2⟩ := upA_ok (n := n) 10 (G, 0) hc.2.1 hc.2.2.1
  have a1' : agr (upgr n (cpG Gt G n)).1 (upgr n G).1 n := a1
  have a2' : (upgr n (cpG Gt G n)).2 = (upgr n G).2 := a2
  have b1' : okG (upgr n G).1 n := b1
  have b2' : ¬ gscale (upgr n G).1 n = 0 := b2
  have hg := gscale_agr a1'
  rw [if_neg b2'] at m4
  rw [hg, if_neg b2'] at k2
  rw [k1, m1, a2', k2, m2]
  refine ⟨rfl, chg_rel h ?_⟩
  have hcf : cfgR S' (upgr n G).1 n (nI (gscale (upgr n G).1 n)) := ⟨hc.1, b1', b2', rfl, m3, m4, m5⟩
  exact hcf.ag a1'
theorem st_save {F : Nat → Int32} {G : vG} {n : Nat} {sc : Int32} {Gt : vG} {nt : Nat} {sct : Int32} {x kk : Nat} {RG : Nat → vG} {rn : Nat → Nat} {RS : Nat → Int32} {Gv : vG} {nv9 : Nat} {scv : Int32} {C N : Nat → Int32} {L : Nat} {fl : Int32} {M : Nat → Int32} {Gz : vG} {nz : Nat} {scz : Int32} {Q T : vG} {I : Nat → Int32} {R : vG} (h : Rel ((F, (G, n, sc), (Gt, nt, sct), (x, kk, RG, rn, RS)), (Gv, nv9, scv), (C, N, L, fl), (M, (Gz, nz, scz), Q, T)) I R) : Rel ((upd F 6 1, (G, n, sc), (Gt, nt, sct), (x, kk, RG, rn, RS)), (cpG Gv G n, n, sc), (C, N, L, fl), (M, (Gz, nz, scz), Q, T)) (upd (upd I 0 0) 6 1) (upr R 3 (cpR (R 1) (R 3) 58)) := by
  obtain ⟨hc, hnt, hx6, hkk, hI5, hrn, hh, hnv, hI6, hsv, hL, hI8, htx, hI9, hnz, hI10, hI11, hI12, hI13, hI14, hnn, hsm⟩ := h
  exact ⟨hc, hnt, hx6, hkk, hI5, hrn, hh, hc.1, rfl, fun _ => (hc.ag (agr_cp _ _ _)).cg (fun k hk => if_pos hk), hL, hI8, htx, hI9, hnz, hI10, hI11, hI12, hI13, hI14, hnn, hsm⟩

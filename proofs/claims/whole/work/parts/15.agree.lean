/-! PART 15: configurations that agree below the count; what keeps a configuration well formed; the steps of degradation -/
def agr (G G' : vG) (n : Nat) : Prop := ∀ k, k < 7 → ∀ j, j < n → G k j = G' k j
theorem agr.refl (G : vG) (n : Nat) : agr G G n := fun _ _ _ _ => rfl
theorem agr.symm {G G' : vG} {n : Nat} (h : agr G G' n) : agr G' G n := fun k hk j hj => (h k hk j hj).symm
theorem agr.trans {G G' G2 : vG} {n : Nat} (h : agr G G' n) (h2 : agr G' G2 n) : agr G G2 n := fun k hk j hj => (h k hk j hj).trans (h2 k hk j hj)
theorem agr.mono {G G' : vG} {m n : Nat} (h : agr G G' n) (hm : m ≤ n) : agr G G' m := fun k hk j hj => h k hk j (Nat.lt_of_lt_of_le hj hm)
theorem per_agr {G G' : vG} {n j : Nat} (h : agr G G' n) (hj : j < n) : per G j = per G' j := by
  simp only [per, h 0 (by decide) j hj, h 6 (by decide) j hj]
theorem vdl_agr {G G' : vG} {n j : Nat} (h : agr G G' n) (hj : j < n) (sc : Int32) : vdl G sc j = vdl G' sc j := by
  simp only [vdl, h 1 (by decide) j hj, h 2 (by decide) j hj, h 3 (by decide) j hj]
theorem dem_agr {G G' : vG} {n j : Nat} (h : agr G G' n) (hj : j < n) (sc mode t : Int32) : dem G sc mode t j = dem G' sc mode t j := by
  simp only [dem, loD, hiD, vdl_agr h hj, per_agr h hj, h 1 (by decide) j hj, h 2 (by decide) j hj, h 3 (by decide) j hj]
theorem bx_congr {f g : Nat → Int32} : ∀ {n : Nat}, (∀ j, j < n → f j = g j) → bx_sum f n = bx_sum g n := by
  intro n
  induction n with
  | zero => intro _; rfl
  | succ n ih =>
    intro h
    simp only [bx_sum]
    rw [ih (fun j hj => h j (Nat.lt_succ_of_lt hj)), h n (Nat.lt_succ_self n)]
theorem tdem_agr {G G' : vG} {n : Nat} (h : agr G G' n) : tdem G n = tdem G' n := by
  funext sc mode t
  exact bx_congr (fun j hj => dem_agr h hj sc mode t)
theorem ffail_agr {G G' : vG} {n : Nat} (h : agr G G' n) : ffail G n = ffail G' n := by
  funext sc mode
  simp only [ffail, tdem_agr h]
theorem gsc_agr {G G' : vG} {n : Nat} (h : agr G G' n) : ∀ k, gsc G n k = gsc G' n k := by
  intro k
  induction k with
  | zero => rfl
  | succ k ih => simp only [gsc, ffail_agr h, ih]
theorem gscale_agr {G G' : vG} {n : Nat} (h : agr G G' n) : gscale G n = gscale G' n := gsc_agr h 8
theorem wk_agr {G G' : vG} {n : Nat} (h : agr G G' n) : ∀ i, i ≤ n → wk G i = wk G' i := by
  intro i
  induction i with
  | zero => intro _; rfl
  | succ i ih =>
    intro hi
    have e := ih (by omega)
    simp only [wk, e, h 5 (by decide) i (by omega), h 6 (by decide) i (by omega), h 4 (by decide) i (by omega)]
    rcases hw : wk G' i with _ | j
    · rfl
    · have hj := wk_lt G' i j hw
      simp only [h 4 (by decide) j (by omega)]
theorem gtp_agr {G G' : vG} {n : Nat} (h : agr G G' n) (sc lim : Int32) : ∀ i, i ≤ n → gtp G sc lim i = gtp G' sc lim i := by
  intro i
  induction i with
  | zero => intro _; rfl
  | succ i ih =>
    intro hi
    simp only [gtp, ih (by omega), vdl_agr h (show i < n by omega), per_agr h (show i < n by omega)]
theorem ltp_agr {G G' : vG} {n : Nat} (h : agr G G' n) (sc : Int32) : ∀ i, i ≤ n → ltp G sc i = ltp G' sc i := by
  intro i
  induction i with
  | zero => intro _; rfl
  | succ i ih =>
    intro hi
    simp only [ltp, ih (by omega), vdl_agr h (show i < n by omega)]
theorem agr_up2 {G G' : vG} {n : Nat} (h : agr G G' n) (k i : Nat) (x : Int32) (hk : k < 7) : agr (up2 G k i x) (up2 G' k i x) n := by
  intro k' hk' j hj
  simp only [up2]
  by_cases e : k' = k
  · rw [if_pos e, if_pos e]; simp only [upd]; rw [h k hk j hj]
  · rw [if_neg e, if_neg e]; exact h k' hk' j hj
theorem agr_deg {G G' : vG} {n : Nat} (h : agr G G' n) : agr (degG G n) (degG G' n) n := by
  simp only [degG, wk_agr h n (Nat.le_refl n)]
  rcases hw : wk G' n with _ | j
  · exact h
  · have hj := wk_lt G' n j hw
    simp only [h 6 (by decide) j hj]
    exact agr_up2 h 6 j _ (by decide)
/-- a task as the class admits it -/
def okT (G : vG) (i : Nat) : Prop := ∃ P D L H im mo lv : Nat, G 0 i = nI P ∧ G 1 i = nI D ∧ G 2 i = nI L ∧ G 3 i = nI H ∧ G 4 i = nI im ∧ G 5 i = nI mo ∧ G 6 i = nI lv ∧ 1 ≤ P ∧ P ≤ 40 ∧ 1 ≤ D ∧ D ≤ P ∧ 1 ≤ L ∧ L ≤ D ∧ (H = 0 ∨ (L ≤ H ∧ H ≤ D)) ∧ im ≤ 9 ∧ mo ≤ 2 ∧ (H = 0 ∨ mo = 0) ∧ lv ≤ mo
def okG (G : vG) (n : Nat) : Prop := ∀ i, i < n → okT G i
theorem okT_agr {G G' : vG} {n j : Nat} (h : agr G G' n) (hj : j < n) (ho : okT G j) : okT G' j := by
  obtain ⟨P, D, L, H, im, mo, lv, e0, e1, e2, e3, e4, e5, e6, hr⟩ := ho
  exact ⟨P, D, L, H, im, mo, lv, by rw [← h 0 (by decide) j hj]; exact e0, by rw [← h 1 (by decide) j hj]; exact e1, by rw [← h 2 (by decide) j hj]; exact e2, by rw [← h 3 (by decide) j hj]; exact e3, by rw [← h 4 (by decide) j hj]; exact e4, by rw [← h 5 (by decide) j hj]; exact e5, by rw [← h 6 (by decide) j hj]; exact e6, hr⟩
theorem okG_agr {G G' : vG} {n : Nat} (h : agr G G' n) (ho : okG G n) : okG G' n := fun j hj => okT_agr h hj (ho j hj)
/-- a new level of a task, within its bound -/
theorem okT_lev {G : vG} {j : Nat} {x : Int32} {lv : Nat} (ho : okT G j) (hx : x = nI lv) (hl : nI lv ≤ G 5 j) (hs : lv < 8) : okT (up2 G 6 j x) j := by
  obtain ⟨P, D, L, H, im, mo, lv0, e0, e1, e2, e3, e4, e5, e6, h1, h2, h3, h4, h5, h6, h7, h8, h9, h10, h11⟩ := ho
  refine ⟨P, D, L, H, im, mo, lv, e0, e1, e2, e3, e4, e5, ?_, h1, h2, h3, h4, h5, h6, h7, h8, h9, h10, ?_⟩
  · show upd (G 6) j x j = _
    rw [pk_us, hx]
  · rw [e5] at hl
    exact (nI_leI (by omega) (by omega)).mp hl
theorem okG_lev {G : vG} {n j : Nat} {x : Int32} {lv : Nat} (ho : okG G n) (hx : x = nI lv) (hl : nI lv ≤ G 5 j) (hs : lv < 8) : okG (up2 G 6 j x) n := by
  intro i hi
  by_cases e : i = j
  · subst e; exact okT_lev (ho i hi) hx hl hs
  · obtain ⟨P, D, L, H, im, mo, lv0, e0, e1, e2, e3, e4, e5, e6, hr⟩ := ho i hi
    refine ⟨P, D, L, H, im, mo, lv0, e0, e1, e2, e3, e4, e5, ?_, hr⟩
    show upd (G 6) j x i = _
    rw [pk_un e]; exact e6
theorem wk_room {G : vG} : ∀ (n j : Nat), wk G n = some j → ¬ G 5 j ≤ G 6 j := by
  intro n
  induction n with
  | zero => intro j h; simp [wk] at h
  | succ n ih =>
    intro j h
    unfold wk at h
    split at h
    · exact ih j h
    · rename_i hn
      split at h
      · cases h; exact hn
      · rename_i j0 hj
        split at h
        · cases h; exact ih _ hj
        · cases h; exact hn
theorem okG_deg {G : vG} {n : Nat} (ho : okG G n) : okG (degG G n) n := by
  unfold degG
  rcases hw : wk G n with _ | j
  · exact ho
  · have hj := wk_lt G n j hw
    have hr := wk_room n j hw
    obtain ⟨P, D, L, H, im, mo, lv, e0, e1, e2, e3, e4, e5, e6, h1, h2, h3, h4, h5, h6, h7, h8, h9, h10, h11⟩ := ho j hj
    refine okG_lev (lv := lv + 1) ho (by rw [e6]; exact nI_1 lv) ?_ (by omega)
    rw [e5]
    have : ¬ mo ≤ lv := fun q => hr (by rw [e5, e6]; exact nI_le q (by omega))
    exact nI_le (by omega) (by omega)
/-- how many steps of degradation are left -/
def mu (G : vG) : Nat → Nat
  | 0 => 0
  | n + 1 => mu G n + ((G 5 n).toNatClampNeg - (G 6 n).toNatClampNeg)
theorem mu_le {G : vG} : ∀ {n : Nat}, okG G n → mu G n ≤ 2 * n := by
  intro n
  induction n with
  | zero => intro _; exact Nat.le_refl 0
  | succ n ih =>
    intro ho
    have h1 := ih (fun i hi => ho i (Nat.lt_succ_of_lt hi))
    obtain ⟨P, D, L, H, im, mo, lv, e0, e1, e2, e3, e4, e5, e6, h1', h2, h3, h4, h5, h6, h7, h8, h9, h10, h11⟩ := ho n (Nat.lt_succ_self n)
    simp only [mu]
    rw [e5, nI_clamp (by omega)]
    omega
theorem mu_out {G : vG} {j : Nat} {x : Int32} : ∀ {n : Nat}, n ≤ j → mu (up2 G 6 j x) n = mu G n := by
  intro n
  induction n with
  | zero => intro _; rfl
  | succ n ih =>
    intro h
    simp only [mu]
    rw [ih (by omega)]
    have e6 : up2 G 6 j x 6 n = G 6 n := by show upd (G 6) j x n = _; exact pk_un (by omega)
    have e5 : up2 G 6 j x 5 n = G 5 n := rfl
    rw [e6, e5]
theorem mu_up {G : vG} {j lv mo : Nat} : ∀ {n : Nat}, j < n → G 5 j = nI mo → G 6 j = nI lv → lv < mo → mo < 8 → mu (up2 G 6 j (G 6 j + 1)) n + 1 = mu G n := by
  intro n
  induction n with
  | zero => intro h; omega
  | succ n ih =>
    intro h e5 e6 hl hm
    simp only [mu]
    by_cases e : j = n
    · subst e
      rw [mu_out (Nat.le_refl j)]
      have a6 : up2 G 6 j (G 6 j + 1) 6 j = nI (lv + 1) := by
        show upd (G 6) j (G 6 j + 1) j = _
        rw [pk_us, e6]; exact nI_1 lv
      have a5 : up2 G 6 j (G 6 j + 1) 5 j = nI mo := e5
      rw [a6, a5, e5, e6, nI_clamp (by omega), nI_clamp (by omega), nI_clamp (by omega)]
      omega
    · have h1 := ih (by omega) e5 e6 hl hm
      have a6 : up2 G 6 j (G 6 j + 1) 6 n = G 6 n := by show upd (G 6) j (G 6 j + 1) n = _; exact pk_un (fun q => e q.symm)
      have a5 : up2 G 6 j (G 6 j + 1) 5 n = G 5 n := rfl
      rw [a6, a5]
      omega
theorem mu_deg {G : vG} {n j : Nat} (ho : okG G n) (hw : wk G n = some j) : mu (degG G n) n + 1 = mu G n := by
  have hj := wk_lt G n j hw
  have hr := wk_room n j hw
  obtain ⟨P, D, L, H, im, mo, lv, e0, e1, e2, e3, e4, e5, e6, h1, h2, h3, h4, h5, h6, h7, h8, h9, h10, h11⟩ := ho j hj
  have hlt : ¬ mo ≤ lv := fun q => hr (by rw [e5, e6]; exact nI_le q (by omega))
  simp only [degG, hw]
  exact mu_up hj e5 e6 (by omega) (by omega)
/-- the configuration behind the steps of degradation -/
def dgl (n : Nat) : Nat → vG → vG
  | 0, G => G
  | f + 1, G => if gscale G n = 0 then (match wk G n with
    | none => G
    | some _ => dgl n f (degG G n)) else G
theorem dgl_agr {n : Nat} : ∀ (f : Nat) {G G' : vG}, agr G G' n → agr (dgl n f G) (dgl n f G') n := by
  intro f
  induction f with
  | zero => intro G G' h; exact h
  | succ f ih =>
    intro G G' h
    simp only [dgl, gscale_agr h, wk_agr h n (Nat.le_refl n)]
    split
    · split
      · exact h
      · exact ih (agr_deg h)
    · exact h
theorem okG_dgl {n : Nat} : ∀ (f : Nat) {G : vG}, okG G n → okG (dgl n f G) n := by
  intro f
  induction f with
  | zero => intro G h; exact h
  | succ f ih =>
    intro G h
    simp only [dgl]
    split
    · split
      · exact h
      · exact ih (okG_deg h)
    · exact h

/-! ===== PURE: what the take-over and the settlement answer does not hang on old rows ===== -/
theorem tb_i : ∀ s, s < 64 → ∀ t, t < 6 → ((nI s >>> (nI t &&& 31)) &&& nI 1 = 0 ↔ s / 2 ^ t % 2 = 0) := by decide +kernel
theorem tb_sub : ∀ s, s < 64 → ∀ d, d < 64 → ((nI s &&& (nI d ^^^ -1)) = 0 ↔ s &&& d = s) := by decide +kernel
theorem tb_x : ∀ s, s < 64 → ∀ t, t < 6 → s / 2 ^ t % 2 ≠ 0 → s ^^^ 2 ^ t < s ∧ tk_bc (s ^^^ 2 ^ t) + 1 = tk_bc s := by decide +kernel
theorem tb_sx : ∀ s, s < 64 → ∀ t, t < 6 → s / 2 ^ t % 2 ≠ 0 → ∀ d, d < 64 → s &&& d = s → (s ^^^ 2 ^ t) &&& d = s ^^^ 2 ^ t := by decide +kernel
/-- two rows of rows agree on the first traders and horizons -/
def tk_ae (tr hz : Nat) (a b : Nat → Nat → Int32) : Prop := ∀ t, t < tr → ∀ h, h < hz → a t h = b t h
theorem tk_s1_ae {a b : Nat → Nat → Int32} {rg : Nat → Int32} {t : Nat} {x : Int32} : ∀ c, (∀ h, h < c → a t h = b t h) → tk_s1 a rg t x c = tk_s1 b rg t x c
  | 0, _ => rfl
  | c + 1, h => by
    unfold tk_s1
    rw [tk_s1_ae c (fun k hk => h k (by omega)), h c (by omega)]
theorem tk_sm_ae {sd hz tr : Nat} {a b : Nat → Nat → Int32} {rg : Nat → Int32} (h : tk_ae tr hz a b) : ∀ c, c ≤ tr → tk_sm sd a rg hz c = tk_sm sd b rg hz c
  | 0, _ => rfl
  | c + 1, hc => by
    unfold tk_sm
    rw [tk_sm_ae h c (by omega), tk_s1_ae hz (fun k hk => h c (by omega) k hk)]
theorem tk_af_ae {tr hz : Nat} {a b : Nat → Nat → Int32} (h : tk_ae tr hz a b) (c j : Nat) (x : Int32) : tk_ae tr hz (tk_af a c j x) (tk_af b c j x) := by
  intro t ht k hk
  by_cases e : t = c
  · subst e
    simp only [tk_af_at]
    by_cases e2 : k = j
    · subst e2
      rw [pk_us, pk_us, h t ht k hk]
    · rw [pk_un e2, pk_un e2, h t ht k hk]
  · simp only [tk_af, va_up, if_neg e]
    exact h t ht k hk
theorem tk_lp_ext {α : Type} {P Q : Nat → α → α} {b : α} : ∀ c, (∀ i x, i < c → P i x = Q i x) → tk_lp P c b = tk_lp Q c b
  | 0, _ => rfl
  | c + 1, h => by
    show P c (tk_lp P c b) = Q c (tk_lp Q c b)
    rw [tk_lp_ext c (fun i x hi => h i x (by omega)), h c _ (by omega)]
theorem tk_try_ae {sd tr hz nd : Nat} {rg hs hs' ps ps' : Nat → Int32} (hh : ∀ i, i < nd → hs i = hs' i ∧ ps i = ps' i) : ∀ (f free : Nat) (tk : Nat → Int32) (a b : Nat → Nat → Int32) (x : tk_B), f ≤ nd → tk_ae tr hz a b → tk_try sd tr hz nd rg hs ps f free tk a x = tk_try sd tr hz nd rg hs' ps' f free tk b x
  | 0, free, tk, a, b, x, _, h => by
    unfold tk_try
    rw [tk_sm_ae h tr (Nat.le_refl _)]
  | f + 1, free, tk, a, b, x, hf, h => by
    have h2 := hh (nd - (f + 1)) (by omega)
    unfold tk_try
    refine tk_lp_ext tr (fun c y hc => ?_)
    show (if _ then _ else _) = (if _ then _ else _)
    split
    · rfl
    · rw [← h2.1, ← h2.2]
      exact tk_try_ae hh f _ _ _ _ _ (by omega) (tk_af_ae h _ _ _)
/-- the canonical rows for the default of d -/
def tk_h0 (M : mk_T) (d : Nat) : Nat → Int32 := fun i => nI ((tk_pz M d (mk_hz M)).getD i (0, 0)).1
def tk_p0 (M : mk_T) (d : Nat) : Nat → Int32 := fun i => ((tk_pz M d (mk_hz M)).getD i (0, 0)).2
def tk_nd (M : mk_T) (d : Nat) : Nat := (tk_pz M d (mk_hz M)).length
def tk_sd (M : mk_T) (d : Nat) : Nat := tk_so M d (mk_tr M)
/-- the best way for the default of d: the sum, the takers -/
def tk_res (M : mk_T) (d : Nat) : tk_B := tk_try (tk_sd M d) (mk_tr M) (mk_hz M) (tk_nd M d) (mk_ar M 2) (tk_h0 M d) (tk_p0 M d) (tk_nd M d) (tk_sd M d) (fun _ => 0) (tk_ag M d) (1000000000, fun _ => 0)
theorem tk_pz_in (M : mk_T) (d : Nat) : ∀ c, ∀ i, i < (tk_pz M d c).length → ((tk_pz M d c).getD i (0, 0)).1 < c
  | 0, i, h => absurd h (Nat.not_lt_zero i)
  | c + 1, i, h => by
    unfold tk_pz at h ⊢
    split
    · rename_i z
      rw [if_pos z] at h
      have := tk_pz_in M d c i h
      omega
    · rename_i z
      rw [if_neg z] at h
      rw [List.length_append] at h
      have h : i < (tk_pz M d c).length + 1 := h
      by_cases q : i = (tk_pz M d c).length
      · subst q
        simp
      · have h9 := tk_pz_in M d c i (by omega)
        simp only [List.getD_eq_getElem?_getD] at h9 ⊢
        rw [List.getElem?_append_left (by omega)]
        omega
/-! what is said of the rows after prepare -/
def tk_pre (M : mk_T) (d : Nat) (sd nd : Nat) (af : Nat → Nat → Int32) (hs ps : Nat → Int32) : Prop := sd = tk_sd M d ∧ nd = tk_nd M d ∧ tk_ho hs ps (tk_pz M d (mk_hz M)) ∧ ∀ i, i < mk_tr M → ∀ k, k < mk_hz M → af i k = tk_ag M d i k
theorem tk_pre_hs {M : mk_T} {d sd nd : Nat} {af : Nat → Nat → Int32} {hs ps : Nat → Int32} (H : tk_pre M d sd nd af hs ps) (hz : mk_hz M ≤ 4) : ∀ i, i < nd → ∃ j, j < 4 ∧ hs i = nI j := by
  obtain ⟨-, rfl, h3, -⟩ := H
  intro i hi
  have := tk_pz_in M d (mk_hz M) i hi
  exact ⟨_, by omega, (h3 i hi).1⟩
/-- another row of best takers at the start matters only when no way is better -/
theorem tk_lp_dep {P : Nat → tk_B → tk_B} (hP : ∀ i b b', b.1 = b'.1 → (P i b = b ∧ P i b' = b') ∨ P i b = P i b') {b b' : tk_B} (h : b.1 = b'.1) : ∀ c, (tk_lp P c b = b ∧ tk_lp P c b' = b') ∨ tk_lp P c b = tk_lp P c b'
  | 0 => Or.inl ⟨rfl, rfl⟩
  | c + 1 => by
    show (P c (tk_lp P c b) = b ∧ P c (tk_lp P c b') = b') ∨ P c (tk_lp P c b) = P c (tk_lp P c b')
    rcases tk_lp_dep hP h c with ⟨h1, h2⟩ | h1
    · rw [h1, h2]
      exact hP c b b' h
    · rw [h1]
      exact Or.inr rfl
theorem tk_try_dep {sd tr hz nd : Nat} {rg hs ps : Nat → Int32} : ∀ (f free : Nat) (tk : Nat → Int32) (a : Nat → Nat → Int32) (b b' : tk_B), b.1 = b'.1 → (tk_try sd tr hz nd rg hs ps f free tk a b = b ∧ tk_try sd tr hz nd rg hs ps f free tk a b' = b') ∨ tk_try sd tr hz nd rg hs ps f free tk a b = tk_try sd tr hz nd rg hs ps f free tk a b'
  | 0, free, tk, a, b, b', h => by
    unfold tk_try
    rw [h]
    split
    · exact Or.inr rfl
    · exact Or.inl ⟨rfl, rfl⟩
  | f + 1, free, tk, a, b, b', h => by
    unfold tk_try
    refine tk_lp_dep (fun i x y hx => ?_) h tr
    show ((if _ then _ else _) = _ ∧ (if _ then _ else _) = _) ∨ (if _ then _ else _) = (if _ then _ else _)
    by_cases z : (nI free >>> (nI i &&& 31)) &&& nI 1 = 0
    · rw [if_pos z, if_pos z]
      exact Or.inl ⟨rfl, rfl⟩
    · rw [if_neg z, if_neg z]
      exact tk_try_dep f _ _ _ _ _ hx
theorem tk_pre_res {M : mk_T} {d sd nd : Nat} {af : Nat → Nat → Int32} {hs ps tk bt : Nat → Int32} {r : tk_B} (H : tk_pre M d sd nd af hs ps) (hr : tk_try sd (mk_tr M) (mk_hz M) nd (mk_ar M 2) hs ps nd sd tk af (1000000000, bt) = r) : r.1 = (tk_res M d).1 ∧ ((tk_res M d).1 < 1000000000 → ∀ i, i < nd → r.2 i = (tk_res M d).2 i) := by
  obtain ⟨rfl, rfl, h3, h4⟩ := H
  subst hr
  rw [tk_try_ae (nd := tk_nd M d) (hs' := tk_h0 M d) (ps' := tk_p0 M d) (fun i hi => h3 i hi) (tk_nd M d) _ _ af (tk_ag M d) _ (Nat.le_refl _) h4]
  have e1 := tk_try_eq (sd := tk_sd M d) (tr := mk_tr M) (hz := mk_hz M) (nd := tk_nd M d) (rg := mk_ar M 2) (hs := tk_h0 M d) (ps := tk_p0 M d) (tk_nd M d) (tk_sd M d) tk (fun _ => 0) (tk_ag M d) (1000000000, bt) (1000000000, bt) (fun i hi => absurd hi (by omega)) ⟨rfl, fun _ _ => rfl⟩
  have e2 := tk_try_dep (sd := tk_sd M d) (tr := mk_tr M) (hz := mk_hz M) (nd := tk_nd M d) (rg := mk_ar M 2) (hs := tk_h0 M d) (ps := tk_p0 M d) (tk_nd M d) (tk_sd M d) (fun _ => 0) (tk_ag M d) (1000000000, bt) (1000000000, fun _ => 0) rfl
  unfold tk_res
  generalize tk_try (tk_sd M d) (mk_tr M) (mk_hz M) (tk_nd M d) (mk_ar M 2) (tk_h0 M d) (tk_p0 M d) (tk_nd M d) (tk_sd M d) tk (tk_ag M d) (1000000000, bt) = a at e1
  generalize tk_try (tk_sd M d) (mk_tr M) (mk_hz M) (tk_nd M d) (mk_ar M 2) (tk_h0 M d) (tk_p0 M d) (tk_nd M d) (tk_sd M d) (fun _ => 0) (tk_ag M d) (1000000000, bt) = b at e1 e2
  generalize tk_try (tk_sd M d) (mk_tr M) (mk_hz M) (tk_nd M d) (mk_ar M 2) (tk_h0 M d) (tk_p0 M d) (tk_nd M d) (tk_sd M d) (fun _ => 0) (tk_ag M d) (1000000000, fun _ => 0) = c at e2
  rcases e2 with ⟨h1, h2⟩ | h1
  · subst h1 h2
    refine ⟨e1.1, fun z => absurd z ?_⟩
    show ¬ (1000000000 : Int32) < 1000000000
    decide
  · subst h1
    exact ⟨e1.1, fun _ => e1.2⟩
/-! the sum by sets -/
theorem tk_wl_ae {a b : Nat → Nat → Int32} {rg : Nat → Int32} {hj s tr : Nat} {p : Int32} {lf lf' : Nat → Int32} (h : ∀ t, t < tr → a t hj = b t hj) (hl : ∀ t, t < tr → s / 2 ^ t % 2 ≠ 0 → lf (s ^^^ 2 ^ t) = lf' (s ^^^ 2 ^ t)) (hs : s < 64) (htr : tr ≤ 6) : ∀ c, c ≤ tr → tk_wl a rg hj p lf s c = tk_wl b rg hj p lf' s c
  | 0, _ => rfl
  | c + 1, hc => by
    unfold tk_wl
    by_cases z : (nI s >>> (nI c &&& 31)) &&& nI 1 = 0
    · rw [if_pos z, if_pos z]
      exact tk_wl_ae h hl hs htr c (by omega)
    · rw [if_neg z, if_neg z, tk_wl_ae h hl hs htr c (by omega), h c (by omega), hl c (by omega) (fun q => z ((tb_i s hs c (by omega)).mpr q))]
theorem tk_sl_ae {sd tr hz nd : Nat} {rg hs hs' ps ps' : Nat → Int32} {a b : Nat → Nat → Int32} {x : Int32} {lf lf' : Nat → Int32} (hsd : sd < 64) (htr : tr ≤ 6) (hh : ∀ i, i < nd → hs i = hs' i ∧ ps i = ps' i ∧ (hs i).toNatClampNeg < hz) (h : tk_ae tr hz a b) : ∀ c, c ≤ 64 → (tk_sl sd tr hz nd rg hs ps a c (x, lf)).1 = (tk_sl sd tr hz nd rg hs' ps' b c (x, lf')).1 ∧ ∀ s, s < c → s &&& sd = s → tk_bc s ≤ nd → (tk_sl sd tr hz nd rg hs ps a c (x, lf)).2 s = (tk_sl sd tr hz nd rg hs' ps' b c (x, lf')).2 s
  | 0, _ => ⟨rfl, fun s hs => absurd hs (Nat.not_lt_zero s)⟩
  | c + 1, hc => by
    obtain ⟨i1, i2⟩ := tk_sl_ae (x := x) (lf := lf) (lf' := lf') (rg := rg) hsd htr hh h c (by omega)
    show (tk_ss _ _ _ _ _ _ _ _ c (tk_sl sd tr hz nd rg hs ps a c (x, lf))).1 = (tk_ss _ _ _ _ _ _ _ _ c (tk_sl sd tr hz nd rg hs' ps' b c (x, lf'))).1 ∧ ∀ s, s < c + 1 → s &&& sd = s → tk_bc s ≤ nd → (tk_ss _ _ _ _ _ _ _ _ c (tk_sl sd tr hz nd rg hs ps a c (x, lf))).2 s = (tk_ss _ _ _ _ _ _ _ _ c (tk_sl sd tr hz nd rg hs' ps' b c (x, lf'))).2 s
    generalize tk_sl sd tr hz nd rg hs ps a c (x, lf) = y at i1 i2
    generalize tk_sl sd tr hz nd rg hs' ps' b c (x, lf') = y' at i1 i2
    by_cases z : (nI c &&& (nI sd ^^^ -1)) = 0 ∧ tk_bc c ≤ nd
    · have hv := (tb_sub c (by omega) sd hsd).mp z.1
      have ev : ∀ v v' : Int32, v = v' → (if tk_bc c = nd then (if v < y.1 then v else y.1) else y.1) = (if tk_bc c = nd then (if v' < y'.1 then v' else y'.1) else y'.1) ∧ ∀ s, s < c + 1 → s &&& sd = s → tk_bc s ≤ nd → upd y.2 c v s = upd y'.2 c v' s := by
        intro v v' e
        subst e
        rw [i1]
        refine ⟨rfl, fun s hs h1 h2 => ?_⟩
        by_cases q : s = c
        · subst q
          rw [pk_us, pk_us]
        · rw [pk_un q, pk_un q]
          exact i2 s (by omega) h1 h2
      by_cases z0 : tk_bc c = 0
      · rw [tk_ss_0 z.1 z.2 z0, tk_ss_0 z.1 z.2 z0]
        exact ev _ _ (tk_sm_ae h tr (Nat.le_refl _))
      · obtain ⟨g1, g2, g3⟩ := hh (tk_bc c - 1) (by omega)
        unfold tk_ss
        rw [if_pos z, if_pos z, if_neg z0, if_neg z0, ← g1, ← g2]
        refine ev _ _ (tk_wl_ae (fun t ht => h t ht _ g3) (fun t ht hb => ?_) (by omega) htr tr (Nat.le_refl _))
        have k1 := tb_x c (by omega) t (by omega) hb
        exact i2 _ k1.1 (tb_sx c (by omega) t (by omega) hb sd hsd hv) (by omega)
    · rw [tk_ss_n z, tk_ss_n z]
      refine ⟨i1, fun s hs h1 h2 => ?_⟩
      by_cases q : s = c
      · subst q
        exact absurd ⟨(tb_sub s (by omega) sd hsd).mpr h1, h2⟩ z
      · exact i2 s (by omega) h1 h2
def tk_rs (M : mk_T) (d : Nat) : Int32 := (tk_sl (tk_sd M d) (mk_tr M) (mk_hz M) (tk_nd M d) (mk_ar M 2) (tk_h0 M d) (tk_p0 M d) (tk_ag M d) (2 ^ mk_tr M) (1000000000, fun _ => 0)).1
theorem tk_pre_sl {M : mk_T} {d sd nd : Nat} {af : Nat → Nat → Int32} {hs ps lf : Nat → Int32} (H : tk_pre M d sd nd af hs ps) (hz : mk_hz M ≤ 4) (ht : mk_tr M ≤ 6) : (tk_sl sd (mk_tr M) (mk_hz M) nd (mk_ar M 2) hs ps af (2 ^ mk_tr M) (1000000000, lf)).1 = tk_rs M d := by
  obtain ⟨rfl, rfl, h3, h4⟩ := H
  have hp := hp_p6 ht
  have hs := tk_so_lt M d (mk_tr M)
  refine (tk_sl_ae (by show tk_so M d (mk_tr M) < 64; omega) ht (fun i hi => ⟨(h3 i hi).1, (h3 i hi).2, ?_⟩) h4 (2 ^ mk_tr M) hp).1
  have := tk_pz_in M d (mk_hz M) i hi
  rw [(h3 i hi).1, nI_clamp (by omega)]
  exact this
/-! ===== the settlement ===== -/
theorem st_ss_ae {v v' : Nat → Int32} {s : Nat} : ∀ c, (∀ i, i < c → v i = v' i) → st_ss v s c = st_ss v' s c
  | 0, _ => rfl
  | c + 1, h => by
    unfold st_ss
    rw [st_ss_ae c (fun i hi => h i (by omega)), h c (by omega)]
theorem st_gm_ae {g g' : Nat → Int32} {s : Nat} (hs : s < 64) : ∀ c, c ≤ 6 → (∀ x, x < s → g x = g' x) → st_gm g s c = st_gm g' s c
  | 0, _, _ => rfl
  | c + 1, hc, h => by
    unfold st_gm
    by_cases z : ((nI s >>> (nI c &&& 31)) &&& nI 1) = 0
    · rw [if_pos z, if_pos z]
      exact st_gm_ae hs c (by omega) h
    · rw [if_neg z, if_neg z, st_gm_ae hs c (by omega) h, h _ (tb_x s hs c (by omega) (fun q => z ((tb_i s hs c (by omega)).mpr q))).1]
theorem st_gt_ae {v v' : Nat → Int32} {cnt : Nat} {g g' : Nat → Int32} (hc : cnt ≤ 6) (hv : ∀ i, i < cnt → v i = v' i) : ∀ k, k < 64 → ∀ x, x ≤ k → st_gt v cnt g k x = st_gt v' cnt g' k x
  | 0, _, x, hx => by
    have e : x = 0 := by omega
    subst e
    unfold st_gt
    rw [pk_us, pk_us]
  | k + 1, hk, x, hx => by
    have ih := st_gt_ae (g := g) (g' := g') hc hv k (by omega)
    unfold st_gt
    rw [st_ss_ae cnt hv, st_gm_ae (s := k + 1) (by omega) cnt hc (fun y hy => ih y (by omega))]
    by_cases q : x = k + 1
    · subst q
      rw [pk_us, pk_us]
    · rw [pk_un q, pk_un q]
      exact ih x (by omega)
theorem st_pg_ae {v v' : Nat → Int32} {cnt : Nat} (hv : ∀ i, i < cnt → v i = v' i) : ∀ (f gr : Nat) (a : Nat → Int32) (m : Nat), f ≤ cnt → st_pg v cnt f gr a m = st_pg v' cnt f gr a m
  | 0, gr, a, m, _ => rfl
  | f + 1, gr, a, m, hf => by
    unfold st_pg
    rw [hv (cnt - (f + 1)) (by omega), st_lp_congr (P' := fun c k => st_pg v' cnt f gr (upd a c (a c + v' (cnt - (f + 1)))) k) (fun i k _ => st_pg_ae hv f gr _ k (by omega))]
    exact st_pg_ae hv f (gr + 1) _ _ (by omega)
def py_v (M : mk_T) : Nat → Int32 := fun i => (nz M (mk_tr M)).getD i 0
def py_n (M : mk_T) : Nat := (nz M (mk_tr M)).length
/-- the payments by sets, by groups -/
def py_s (M : mk_T) : Int32 := nI (py_n M) - st_gt (py_v M) (py_n M) (fun _ => 0) (2 ^ py_n M - 1) (2 ^ py_n M - 1)
def py_g (M : mk_T) : Int32 := nI (py_n M) - nI (st_pg (py_v M) (py_n M) (py_n M) 0 (fun _ => 0) 0)
theorem py_s_ae {M : mk_T} (ht : mk_tr M ≤ 6) {v gi : Nat → Int32} (hv : ∀ i, i < (nz M (mk_tr M)).length → v i = (nz M (mk_tr M)).getD i 0) : nI (nz M (mk_tr M)).length - st_gt v (nz M (mk_tr M)).length gi (2 ^ (nz M (mk_tr M)).length - 1) (2 ^ (nz M (mk_tr M)).length - 1) = py_s M := by
  have h1 := nz_len M (mk_tr M)
  have h2 := hp_p6 (k := (nz M (mk_tr M)).length) (by omega)
  show nI (py_n M) - _ = nI (py_n M) - _
  rw [st_gt_ae (g' := fun _ => 0) (by omega) hv (2 ^ (nz M (mk_tr M)).length - 1) (by omega) _ (Nat.le_refl _)]
  rfl
theorem py_g_ae {M : mk_T} {v su : Nat → Int32} (hv : ∀ i, i < (nz M (mk_tr M)).length → v i = (nz M (mk_tr M)).getD i 0) : nI (nz M (mk_tr M)).length - nI (st_pg v (nz M (mk_tr M)).length (nz M (mk_tr M)).length 0 su 0) = py_g M := by
  rw [st_pg_ae hv _ _ _ _ (Nat.le_refl _), st_pg_congr _ 0 su (fun _ => 0) 0 (fun i hi => absurd hi (Nat.not_lt_zero i))]
  rfl

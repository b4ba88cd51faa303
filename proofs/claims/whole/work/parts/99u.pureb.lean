/-! ===== PURE: modifications keep the invariants ===== -/
theorem wi_n {x : Int32} {lo hi : Nat} (hh : hi < 2 ^ 31) (hl : lo < 2 ^ 31) (h : hp_wi x (nI lo) (nI hi)) : ∃ p, lo ≤ p ∧ p ≤ hi ∧ x = nI p := by
  have h1 := Int32.le_iff_toInt_le.mp h.1
  have h2 := Int32.le_iff_toInt_le.mp h.2
  rw [nI_toInt hl] at h1
  rw [nI_toInt hh] at h2
  refine ⟨x.toInt.toNat, by omega, by omega, Int32.toInt.inj ?_⟩
  rw [nI_toInt (by omega)]
  omega
theorem l_add {a : Int64} {b : Int32} (ha : 0 ≤ a.toInt ∧ a.toInt ≤ 1000000000) (hb : 0 ≤ b.toInt ∧ b.toInt ≤ 1000000000) : (a + b.toInt64).toInt = a.toInt + b.toInt := by
  rw [Int64.toInt_add, Int32.toInt_toInt64]
  exact Int.bmod_eq_of_le (by omega) (by omega)
theorem fH_0 {M : mk_T} {a b : Int32} (h : mk_fH M a b = nI 0) : (∃ p, 1 ≤ p ∧ p ≤ 99 ∧ a = nI p) ∧ (∃ r, 1 ≤ r ∧ r ≤ 20 ∧ b = nI r) ∧ mk_hz M < 4 := by
  unfold mk_fH at h
  split at h
  · exact absurd h (by decide)
  · rename_i z
    split at h
    · exact absurd h (by decide)
    · exact ⟨wi_n (by decide) (by decide) (Decidable.not_not.mp (fun y => z (Or.inl y))), wi_n (by decide) (by decide) (Decidable.not_not.mp (fun y => z (Or.inr y))), by omega⟩
theorem fR_0 {M : mk_T} {a : Int32} (h : mk_fR M a = nI 0) : (∃ p, 0 ≤ p ∧ p ≤ 9999 ∧ a = nI p) ∧ mk_tr M < 6 := by
  unfold mk_fR at h
  split at h
  · exact absurd h (by decide)
  · rename_i z
    split at h
    · exact absurd h (by decide)
    · exact ⟨wi_n (by decide) (by decide) (Decidable.not_not.mp z), by omega⟩
theorem fT_0 {M : mk_T} (H : Ic M) {b s on q d : Int32} (h : mk_fT M b s on q d = nI 0) : ∃ jb js jo jq jd, jb < mk_tr M ∧ js < mk_tr M ∧ jo < mk_hz M ∧ jb ≠ js ∧ 1 ≤ jq ∧ jq ≤ 20 ∧ 1 ≤ jd ∧ jd ≤ 9 ∧ b = nI jb ∧ s = nI js ∧ on = nI jo ∧ q = nI jq ∧ d = nI jd ∧ mk_ct M < 20 := by
  obtain ⟨h1, h2, h3⟩ := H.1
  unfold mk_fT at h
  split at h
  · exact absurd h (by decide)
  · rename_i z1
    split at h
    · exact absurd h (by decide)
    · rename_i z2
      split at h
      · exact absurd h (by decide)
      · rename_i z3
        obtain ⟨jb, b1, b2⟩ := hp_num_j (Decidable.not_not.mp (fun y => z1 (Or.inl y))) (by omega)
        obtain ⟨js, s1, s2⟩ := hp_num_j (Decidable.not_not.mp (fun y => z1 (Or.inr (Or.inl y)))) (by omega)
        obtain ⟨jo, o1, o2⟩ := hp_num_j (Decidable.not_not.mp (fun y => z1 (Or.inr (Or.inr y)))) (by omega)
        obtain ⟨jq, q1, q2, q3⟩ := wi_n (by decide) (by decide) (Decidable.not_not.mp (fun y => z2 (Or.inr (Or.inl y))))
        obtain ⟨jd, d1, d2, d3⟩ := wi_n (by decide) (by decide) (Decidable.not_not.mp (fun y => z2 (Or.inr (Or.inr y))))
        exact ⟨jb, js, jo, jq, jd, b1, s1, o1, fun y => z2 (Or.inl (by rw [b2, s2, y])), q1, q2, d1, d2, b2, s2, o2, q3, d3, by
          have : ¬ 20 ≤ mk_ct M := fun y => z3 (Or.inl y)
          omega⟩
theorem fB_0 {M : mk_T} (H : Ic M) {t a : Int32} (h : mk_fB M t a = nI 0) : ∃ j p, j < mk_tr M ∧ t = nI j ∧ 1 ≤ p ∧ p ≤ 9999 ∧ a = nI p := by
  obtain ⟨h1, h2, h3⟩ := H.1
  unfold mk_fB at h
  split at h
  · exact absurd h (by decide)
  · rename_i z1
    split at h
    · exact absurd h (by decide)
    · rename_i z2
      obtain ⟨j, j1, j2⟩ := hp_num_j (Decidable.not_not.mp z1) (by omega)
      obtain ⟨p, p1, p2, p3⟩ := wi_n (by decide) (by decide) (Decidable.not_not.mp z2)
      exact ⟨j, p, j1, j2, p1, p2, p3⟩
theorem fK_0 {M : mk_T} {t a : Int32} (h : mk_fK M t a = nI 0) : mk_fB M t a = nI 0 := by
  unfold mk_fK at h
  split at h
  · exact h
  · rename_i z
    exact Decidable.not_not.mp z
theorem fQ_0 {M : mk_T} (H : Ic M) {on q : Int32} (h : mk_fQ M on q = nI 0) : ∃ j p, j < mk_hz M ∧ on = nI j ∧ 1 ≤ p ∧ p ≤ 99 ∧ q = nI p := by
  obtain ⟨h1, h2, h3⟩ := H.1
  unfold mk_fQ at h
  split at h
  · exact absurd h (by decide)
  · rename_i z1
    split at h
    · rename_i z2
      obtain ⟨j, j1, j2⟩ := hp_num_j (Decidable.not_not.mp z1) (by omega)
      obtain ⟨p, p1, p2, p3⟩ := wi_n (by decide) (by decide) z2
      exact ⟨j, p, j1, j2, p1, p2, p3⟩
    · exact absurd h (by decide)
/-- money alone changes -/
theorem Ic.m {M M' : mk_T} (H : Ic M) (h1 : M'.1 = M.1) (h2 : ∀ k i, k ≠ 3 → mk_ar M' k i = mk_ar M k i) : Ic M' := by
  refine H.c h1 (fun k i hk hi => ?_) (fun t ht => ?_) (fun k i h5 hk hi => h2 k i (by omega))
  · rw [if_neg (fun z => z.2 (h2 0 i (by decide)))]
    exact h2 k i (by omega)
  · rw [h2 4 t (by decide)]
    exact H.2.2.2 t ht
theorem iab_n {x : Int} : iab x = x ∨ iab x = -x := by
  unfold iab
  split
  · exact Or.inl rfl
  · exact Or.inr rfl
theorem plH_ar (M : mk_T) (p r : Int32) (k i : Nat) : mk_ar (mk_plH M p r) k i = if k < 3 ∧ i = mk_hz M then (if k = 2 then r else p) else mk_ar M k i := by
  show mk_ar (mk_st (mk_st (mk_st M 0 (mk_hz M) p) 1 (mk_hz M) p) 2 (mk_hz M) r) k i = _
  rw [mk_st_ar, mk_st_ar, mk_st_ar]
  by_cases q : i = mk_hz M
  · by_cases z2 : k = 2
    · rw [if_pos ⟨z2, q⟩, if_pos ⟨by omega, q⟩, if_pos z2]
    · rw [if_neg (fun z => z2 z.1)]
      by_cases z1 : k = 1
      · rw [if_pos ⟨z1, q⟩, if_pos ⟨by omega, q⟩, if_neg z2]
      · rw [if_neg (fun z => z1 z.1)]
        by_cases z0 : k = 0
        · rw [if_pos ⟨z0, q⟩, if_pos ⟨by omega, q⟩, if_neg z2]
        · rw [if_neg (fun z => z0 z.1), if_neg (by omega)]
  · rw [if_neg (fun z => q z.2), if_neg (fun z => q z.2), if_neg (fun z => q z.2), if_neg (fun z => q z.2)]
theorem plT_ar (M : mk_T) (m : Int32) (k i : Nat) : mk_ar (mk_plT M m) k i = if k = 4 ∧ i = mk_tr M then nI 0 else if k = 3 ∧ i = mk_tr M then m else mk_ar M k i := by
  show mk_ar (mk_st (mk_st M 3 (mk_tr M) m) 4 (mk_tr M) (nI 0)) k i = _
  rw [mk_st_ar, mk_st_ar]
theorem con_ar (M : mk_T) (b s on q d : Int32) (k i : Nat) : mk_ar (mk_con M b s on q d) k i = if i = mk_ct M ∧ k = 9 then mk_dy M + d else if i = mk_ct M ∧ k = 8 then q else if i = mk_ct M ∧ k = 7 then on else if i = mk_ct M ∧ k = 6 then s else if i = mk_ct M ∧ k = 5 then b else mk_ar M k i := by
  show mk_ar (mk_st (mk_st (mk_st (mk_st (mk_st M 5 (mk_ct M) b) 6 (mk_ct M) s) 7 (mk_ct M) on) 8 (mk_ct M) q) 9 (mk_ct M) (mk_dy M + d)) k i = _
  rw [mk_st_ar, mk_st_ar, mk_st_ar, mk_st_ar, mk_st_ar]
  by_cases z : i = mk_ct M
  · simp only [z, and_true, true_and]
  · simp only [z, and_false, false_and]
theorem Ia.po0 {w : Nat} {M : mk_T} (H : Ia w M) {a b : Int32} (h : mk_fH M a b = nI 0) : Ia (w + 1) (mk_plH M a b) := by
  obtain ⟨⟨p, p1, p2, p3⟩, ⟨r, r1, r2, r3⟩, h4⟩ := fH_0 h
  obtain ⟨⟨⟨i1, i2, i3⟩, i4, i5, i6⟩, A, E⟩ := H
  refine ⟨⟨⟨show mk_hz M + 1 ≤ 4 by omega, i2, i3⟩, fun i hi => ?_, fun c hc => ?_, fun t ht => ?_⟩, (A.up (Nat.le_succ w)).c rfl rfl (fun t ht => by rw [plH_ar, if_neg (by omega)]), fun c hc => ?_⟩
  · have hi : i < mk_hz M + 1 := hi
    by_cases q : i = mk_hz M
    · exact ⟨p, p, r, p1, p2, p1, p2, r1, r2, (plH_ar M a b 0 i).trans ((if_pos ⟨by decide, q⟩).trans ((if_neg (by decide)).trans p3)), (plH_ar M a b 1 i).trans ((if_pos ⟨by decide, q⟩).trans ((if_neg (by decide)).trans p3)), (plH_ar M a b 2 i).trans ((if_pos ⟨by decide, q⟩).trans ((if_pos rfl).trans r3))⟩
    · rw [plH_ar, plH_ar, plH_ar, if_neg (fun z => q z.2), if_neg (fun z => q z.2), if_neg (fun z => q z.2)]
      exact i4 i (by omega)
  · obtain ⟨b, s, x, q, g1, g2, g3, g4, g5, g6, g7⟩ := i5 c hc
    rw [plH_ar, plH_ar, plH_ar, plH_ar, if_neg (by omega), if_neg (by omega), if_neg (by omega), if_neg (by omega)]
    exact ⟨b, s, x, q, g1, g2, g3, show x < mk_hz M + 1 by omega, g5, g6, g7⟩
  · rw [plH_ar, if_neg (by omega)]
    exact i6 t ht
  · obtain ⟨e, he, h9⟩ := E c hc
    exact ⟨e, by omega, by rw [plH_ar, if_neg (by omega)]; exact h9⟩
theorem Ia.po1 {w : Nat} {M : mk_T} (H : Ia w M) (hw : w ≤ 599) {a : Int32} (h : mk_fR M a = nI 0) : Ia (w + 1) (mk_plT M a) := by
  obtain ⟨⟨p, p1, p2, p3⟩, h6⟩ := fR_0 h
  obtain ⟨⟨⟨i1, i2, i3⟩, i4, i5, i6⟩, A, E⟩ := H
  have ea : a.toInt = (p : Int) := by rw [p3]; exact nI_toInt (by omega)
  refine ⟨⟨⟨i1, show mk_tr M + 1 ≤ 6 by omega, i3⟩, fun i hi => ?_, fun c hc => ?_, fun t ht => ?_⟩, ?_, fun c hc => ?_⟩
  · rw [plT_ar, plT_ar, plT_ar, if_neg (by omega), if_neg (by omega), if_neg (by omega), if_neg (by omega), if_neg (by omega), if_neg (by omega)]
    exact i4 i hi
  · obtain ⟨b, s, x, q, g1, g2, g3, g4, g5, g6, g7⟩ := i5 c hc
    rw [plT_ar, plT_ar, plT_ar, plT_ar, if_neg (by omega), if_neg (by omega), if_neg (by omega), if_neg (by omega), if_neg (by omega), if_neg (by omega), if_neg (by omega), if_neg (by omega)]
    exact ⟨b, s, x, q, show b < mk_tr M + 1 by omega, show s < mk_tr M + 1 by omega, g3, g4, g5, g6, g7⟩
  · have ht : t < mk_tr M + 1 := ht
    rw [plT_ar]
    by_cases q : t = mk_tr M
    · rw [if_pos ⟨rfl, q⟩]
      exact Or.inl rfl
    · rw [if_neg (fun z => q z.2), if_neg (by omega)]
      exact i6 t (by omega)
  · obtain ⟨a1, a2, a3, a4, a5, a6, a7, a8, a9⟩ := A
    have lo : ∀ t, t < mk_tr M → mk_ar (mk_plT M a) 3 t = mk_ar M 3 t := fun t ht => by rw [plT_ar, if_neg (by omega), if_neg (by omega)]
    have hi : mk_ar (mk_plT M a) 3 (mk_tr M) = a := by rw [plT_ar, if_neg (by omega), if_pos ⟨rfl, rfl⟩]
    have e1 : ab (mk_plT M a) (mk_tr M + 1) = ab M (mk_tr M) + (p : Int) := by
      show sI (fun t => iab (mk_ar (mk_plT M a) 3 t).toInt) (mk_tr M) + iab (mk_ar (mk_plT M a) 3 (mk_tr M)).toInt = _
      rw [sI_c (g := fun t => iab (mk_ar M 3 t).toInt) _ (fun t ht => by rw [lo t ht]), hi, ea, show iab (p : Int) = p from if_pos (by omega)]
      rfl
    have e2 : sm (mk_plT M a) (mk_tr M + 1) = sm M (mk_tr M) + (p : Int) := by
      show sI (fun t => (mk_ar (mk_plT M a) 3 t).toInt) (mk_tr M) + (mk_ar (mk_plT M a) 3 (mk_tr M)).toInt = _
      rw [sI_c (g := fun t => (mk_ar M 3 t).toInt) _ (fun t ht => by rw [lo t ht]), hi, ea]
      rfl
    have e3 : (M.2.2.2.1 + a.toInt64).toInt = M.2.2.2.1.toInt + (p : Int) := by rw [l_add (by omega) (by omega), ea]
    refine ⟨a1, a2, ?_, ?_, ?_, ?_, a7, ?_, ?_⟩
    · show (mk_fu M).toInt + (mk_lo M).toInt + ab (mk_plT M a) (mk_tr M + 1) ≤ _
      omega
    · show (mk_fu M).toInt + sm (mk_plT M a) (mk_tr M + 1) = (M.2.2.2.1 + a.toInt64).toInt - M.2.2.2.2.toInt + (mk_lo M).toInt
      omega
    · show 0 ≤ (M.2.2.2.1 + a.toInt64).toInt
      omega
    · show (M.2.2.2.1 + a.toInt64).toInt ≤ _
      omega
    · show M.2.2.2.2.toInt ≤ _
      omega
    · obtain ⟨dd, d1, d2⟩ := a9
      exact ⟨dd, by omega, d2⟩
  · obtain ⟨e, he, h9⟩ := E c hc
    exact ⟨e, by omega, by rw [plT_ar, if_neg (by omega), if_neg (by omega)]; exact h9⟩
theorem Ia.po2 {w : Nat} {M : mk_T} (H : Ia w M) {b s on q d : Int32} (h : mk_fT M b s on q d = nI 0) : Ia (w + 1) (mk_con M b s on q d) := by
  obtain ⟨jb, js, jo, jq, jd, x1, x2, x3, x4, x5, x6, x7, x8, y1, y2, y3, y4, y5, h20⟩ := fT_0 H.1 h
  obtain ⟨⟨⟨i1, i2, i3⟩, i4, i5, i6⟩, A, E⟩ := H
  have lo : ∀ k i, i ≠ mk_ct M ∨ k < 5 → mk_ar (mk_con M b s on q d) k i = mk_ar M k i := fun k i hh => by
    rw [con_ar, if_neg (by omega), if_neg (by omega), if_neg (by omega), if_neg (by omega), if_neg (by omega)]
  refine ⟨⟨⟨i1, i2, show mk_ct M + 1 ≤ 20 by omega⟩, fun i hi => ?_, fun c hc => ?_, fun t ht => ?_⟩, (A.up (Nat.le_succ w)).c rfl rfl (fun t ht => lo 3 t (Or.inr (by decide))), fun c hc => ?_⟩
  · rw [lo 0 i (Or.inr (by decide)), lo 1 i (Or.inr (by decide)), lo 2 i (Or.inr (by decide))]
    exact i4 i hi
  · have hc : c < mk_ct M + 1 := hc
    by_cases z : c = mk_ct M
    · subst z
      refine ⟨jb, js, jo, jq, x1, x2, x4, x3, x5, x6, ?_, ?_, ?_, ?_⟩
      · rw [con_ar, if_neg (by omega), if_neg (by omega), if_neg (by omega), if_neg (by omega), if_pos ⟨rfl, rfl⟩]
        exact y1
      · rw [con_ar, if_neg (by omega), if_neg (by omega), if_neg (by omega), if_pos ⟨rfl, rfl⟩]
        exact y2
      · rw [con_ar, if_neg (by omega), if_neg (by omega), if_pos ⟨rfl, rfl⟩]
        exact y3
      · rw [con_ar, if_neg (by omega), if_pos ⟨rfl, rfl⟩]
        exact y4
    · rw [lo 5 c (Or.inl z), lo 6 c (Or.inl z), lo 7 c (Or.inl z), lo 8 c (Or.inl z)]
      exact i5 c (by omega)
  · rw [lo 4 t (Or.inr (by decide))]
    exact i6 t ht
  · have hc : c < mk_ct M + 1 := hc
    by_cases z : c = mk_ct M
    · subst z
      obtain ⟨dd, d1, d2⟩ := A.2.2.2.2.2.2.2.2
      refine ⟨dd + jd, by omega, ?_⟩
      rw [con_ar, if_pos ⟨rfl, rfl⟩, d2, y5]
      exact nI_add _ _
    · obtain ⟨e, he, h9⟩ := E c (by omega)
      exact ⟨e, by omega, (lo 9 c (Or.inl z)).trans h9⟩
theorem Ia.po3 {w : Nat} {M : mk_T} (H : Ia w M) {a b : Int32} (h : mk_fQ M a b = nI 0) : Ia (w + 1) (mk_st M 1 a.toNatClampNeg b) := by
  obtain ⟨j, p, x1, x2, x3, x4, x5⟩ := fQ_0 H.1 h
  obtain ⟨⟨⟨i1, i2, i3⟩, i4, i5, i6⟩, A, E⟩ := H
  rw [x2, nI_clamp (by omega)]
  refine ⟨⟨⟨i1, i2, i3⟩, fun i hi => ?_, fun c hc => ?_, fun t ht => ?_⟩, (A.up (Nat.le_succ w)).c rfl rfl (fun t ht => by rw [mk_st_ar, if_neg (by omega)]), fun c hc => ?_⟩
  · obtain ⟨p0, u0, r0, g1, g2, g3, g4, g5, g6, g7, g8, g9⟩ := i4 i hi
    rw [mk_st_ar, mk_st_ar, mk_st_ar, if_neg (by omega), if_neg (show ¬ (2 = 1 ∧ i = j) by omega)]
    by_cases z : i = j
    · rw [if_pos ⟨rfl, z⟩]
      exact ⟨p0, p, r0, g1, g2, x3, x4, g5, g6, g7, x5, g9⟩
    · rw [if_neg (fun y => z y.2)]
      exact ⟨p0, u0, r0, g1, g2, g3, g4, g5, g6, g7, g8, g9⟩
  · rw [mk_st_ar, mk_st_ar, mk_st_ar, mk_st_ar, if_neg (by omega), if_neg (by omega), if_neg (by omega), if_neg (by omega)]
    exact i5 c hc
  · rw [mk_st_ar, if_neg (by omega)]
    exact i6 t ht
  · obtain ⟨e, he, h9⟩ := E c hc
    exact ⟨e, by omega, by rw [mk_st_ar, if_neg (by omega)]; exact h9⟩
/-- the money of one changes by little -/
theorem Ia.mo {w : Nat} {M M' : mk_T} (H : Ia w M) (hw : w ≤ 599) {j : Nat} (hj : j < mk_tr M) {x : Int} (hx : -9999 ≤ x ∧ x ≤ 9999) {v : Int32} (hv : v.toInt = (mk_ar M 3 j).toInt + x) (h1 : M'.1 = M.1) (h2 : ∀ k i, mk_ar M' k i = mk_ar (mk_st M 3 j v) k i) (hd : mk_dy M' = mk_dy M) (hl : mk_lo M' = mk_lo M) {f i q : Int} (hf : (mk_fu M').toInt = (mk_fu M).toInt + f) (hi : M'.2.2.2.1.toInt = M.2.2.2.1.toInt + i) (hq : M'.2.2.2.2.toInt = M.2.2.2.2.toInt + q) (f1 : 0 ≤ f ∧ f ≤ 9999) (i1 : 0 ≤ i ∧ i ≤ 9999) (q1 : 0 ≤ q ∧ q ≤ 9999) (hs : f + x = i - q) : Ia (w + 1) M' := by
  have hm := H.2.1.m (by omega) hj
  have etr : mk_tr M' = mk_tr M := congrArg (fun z => z.2.1) h1
  have ect : mk_ct M' = mk_ct M := congrArg (fun z => z.2.2) h1
  obtain ⟨s1, s2⟩ := ab_st M hj v
  have e1 : ab M' (mk_tr M) = ab (mk_st M 3 j v) (mk_tr M) := sI_c _ (fun t _ => by rw [h2])
  have e2 : sm M' (mk_tr M) = sm (mk_st M 3 j v) (mk_tr M) := sI_c _ (fun t _ => by rw [h2])
  refine ⟨H.1.m h1 (fun k i hk => by rw [h2, mk_st_ar, if_neg (fun z => hk z.1)]), ?_, fun c hc => ?_⟩
  · obtain ⟨a1, a2, a3, a4, a5, a6, a7, a8, dd, d1, d2⟩ := H.2.1
    have h9 := iab_add (mk_ar M 3 j).toInt x
    have h8 : iab x ≤ 9999 := by
      unfold iab
      split <;> omega
    rw [← hv] at h9
    unfold Ac
    rw [etr, e1, e2, s1, s2, hl, hf, hi, hq, hv, hd]
    rw [hv] at h9
    refine ⟨by omega, a2, by omega, by omega, by omega, by omega, by omega, by omega, dd, by omega, d2⟩
  · obtain ⟨e, he, h9⟩ := H.2.2 c (by omega)
    exact ⟨e, by omega, by rw [h2, mk_st_ar, if_neg (by omega)]; exact h9⟩
theorem Ia.po {w : Nat} {M : mk_T} (H : Ia w M) (hw : w ≤ 598) {c : Nat} (hc : c < 8) {a b k d e : Int32} (h : fo M c a b k d e = nI 0) : Ia (w + 1) (po_M M c a b k d e) := by
  match c, hc, h with
  | 0, _, h =>
    rw [(fo_0 M a b k d e).1] at h
    rw [(fo_0 M a b k d e).2.1]
    exact H.po0 h
  | 1, _, h =>
    rw [(fo_1 M a b k d e).1] at h
    rw [(fo_1 M a b k d e).2.1]
    exact H.po1 (by omega) h
  | 2, _, h =>
    rw [(fo_2 M a b k d e).1] at h
    rw [(fo_2 M a b k d e).2.1]
    exact H.po2 h
  | 3, _, h =>
    rw [(fo_3 M a b k d e).1] at h
    rw [(fo_3 M a b k d e).2.1]
    exact H.po3 h
  | 4, _, _ =>
    rw [(fo_4 M a b k d e).2.1]
    exact H.l (by omega) _ (Nat.le_refl _)
  | 5, _, h =>
    rw [(fo_5 M a b k d e).1] at h
    rw [(fo_5 M a b k d e).2.1]
    obtain ⟨j, p, x1, x2, x3, x4, x5⟩ := fB_0 H.1 h
    have h6 := H.1.1.2.1
    have hm := H.2.1.m (by omega) x1
    have ea : b.toInt = (p : Int) := by rw [x5]; exact nI_toInt (by omega)
    obtain ⟨-, -, -, -, a5, a6, a7, a8, -⟩ := H.2.1
    rw [x2, nI_clamp (by omega)]
    exact H.mo (by omega) x1 (x := (p : Int)) (by omega) (v := mk_ar M 3 j + b) (by rw [i_add (m := 600000000) (n := 9999) hm (by omega) (by decide), ea]) rfl (fun _ _ => rfl) rfl rfl (f := 0) (i := (p : Int)) (q := 0) (Int.add_zero _).symm (by show (M.2.2.2.1 + b.toInt64).toInt = _; rw [l_add (by omega) (by omega), ea]) (Int.add_zero _).symm (by omega) (by omega) (by omega) (by omega)
  | 6, _, h =>
    rw [(fo_6 M a b k d e).1] at h
    rw [(fo_6 M a b k d e).2.1]
    obtain ⟨j, p, x1, x2, x3, x4, x5⟩ := fB_0 H.1 (fK_0 h)
    have h6 := H.1.1.2.1
    have hm := H.2.1.m (by omega) x1
    have ea : b.toInt = (p : Int) := by rw [x5]; exact nI_toInt (by omega)
    obtain ⟨-, -, -, -, a5, a6, a7, a8, -⟩ := H.2.1
    rw [x2, nI_clamp (by omega)]
    exact H.mo (by omega) x1 (x := -(p : Int)) (by omega) (v := mk_ar M 3 j - b) (by rw [i_sub (m := 600000000) (n := 9999) hm (by omega) (by decide), ea]; omega) rfl (fun _ _ => rfl) rfl rfl (f := 0) (i := 0) (q := (p : Int)) (Int.add_zero _).symm (Int.add_zero _).symm (by show (M.2.2.2.2 + b.toInt64).toInt = _; rw [l_add (by omega) (by omega), ea]) (by omega) (by omega) (by omega) (by omega)
  | 7, _, h =>
    rw [(fo_7 M a b k d e).1] at h
    rw [(fo_7 M a b k d e).2.1]
    obtain ⟨j, p, x1, x2, x3, x4, x5⟩ := fB_0 H.1 (fK_0 h)
    have h6 := H.1.1.2.1
    have hm := H.2.1.m (by omega) x1
    have ea : b.toInt = (p : Int) := by rw [x5]; exact nI_toInt (by omega)
    obtain ⟨hf1, hf2, hf3⟩ := H.2.1.f (by omega)
    have hf0 := H.2.1.1
    rw [x2, nI_clamp (by omega)]
    exact H.mo (by omega) x1 (x := -(p : Int)) (by omega) (v := mk_ar M 3 j - b) (by rw [i_sub (m := 600000000) (n := 9999) hm (by omega) (by decide), ea]; omega) rfl (fun _ _ => rfl) rfl rfl (f := (p : Int)) (i := 0) (q := 0) (by show (mk_fu M + b).toInt = _; rw [i_add (m := 600000000) (n := 9999) (by omega) (by omega) (by decide), ea]) (Int.add_zero _).symm (Int.add_zero _).symm (by omega) (by omega) (by omega) (by omega)
/-- what goes in and out is bounded -/
theorem Ia.bd {w : Nat} {M : mk_T} (H : Ia w M) (hw : w ≤ 599) : mo_bd M := by
  obtain ⟨-, -, -, -, a5, a6, a7, a8, -⟩ := H.2.1
  exact ⟨a5, by omega, a7, by omega⟩
/-- a new market -/
theorem Ia.z : Ia 0 mk_0 := ⟨⟨⟨by decide, by decide, by decide⟩, fun i hi => absurd hi (Nat.not_lt_zero i), fun i hi => absurd hi (Nat.not_lt_zero i), fun i hi => absurd hi (Nat.not_lt_zero i)⟩, ⟨by decide, by decide, by decide, by decide, by decide, by decide, by decide, by decide, 0, Nat.le_refl 0, rfl⟩, fun i hi => absurd hi (Nat.not_lt_zero i)⟩

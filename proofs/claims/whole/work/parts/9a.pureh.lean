/-! ===== PURE: the payments agree ===== -/
def ln (M : mk_T) (t : Nat) : Nat := (nz M t).length
def et (M : mk_T) (t : Nat) : Nat → Nat := match t with
  | 0 => fun _ => 0
  | t + 1 => if mk_va M (nI t) (mk_hz M) = 0 then et M t else va_up (et M t) (ln M t) t
theorem aB_v {M : mk_T} (H : Ic M) {t : Nat} : aB M t = true ↔ ¬ mk_va M (nI t) (mk_hz M) = 0 := by
  rw [aB_e, i_z, va_e H]
  exact Iff.rfl
theorem ln_0 {M : mk_T} {t : Nat} (h : mk_va M (nI t) (mk_hz M) = 0) : nz M (t + 1) = nz M t := if_pos h
theorem ln_1 {M : mk_T} {t : Nat} (h : ¬ mk_va M (nI t) (mk_hz M) = 0) : nz M (t + 1) = nz M t ++ [mk_va M (nI t) (mk_hz M)] := if_neg h
theorem ln_1l {M : mk_T} {t : Nat} (h : ¬ mk_va M (nI t) (mk_hz M) = 0) : ln M (t + 1) = ln M t + 1 := by
  unfold ln
  rw [ln_1 h, List.length_append]
  rfl
theorem ln_le {M : mk_T} : ∀ k t, ln M t ≤ ln M (t + k)
  | 0, t => Nat.le_refl _
  | k + 1, t => by
    have ih := ln_le (M := M) k t
    by_cases z : mk_va M (nI (t + k)) (mk_hz M) = 0
    · have : ln M (t + k + 1) = ln M (t + k) := congrArg List.length (ln_0 z)
      rw [← Nat.add_assoc]
      omega
    · have := ln_1l z
      rw [← Nat.add_assoc]
      omega
theorem ln_mono {M : mk_T} {t u : Nat} (h : t ≤ u) : ln M t ≤ ln M u := by
  have := ln_le (M := M) (u - t) t
  rw [show t + (u - t) = u by omega] at this
  exact this
theorem ln_lt {M : mk_T} {t u : Nat} (h : t < u) (hz : ¬ mk_va M (nI t) (mk_hz M) = 0) : ln M t < ln M u := by
  have h1 := ln_1l hz
  have h2 := ln_mono (M := M) (t := t + 1) (u := u) h
  omega
theorem gd_l {l l' : List Int32} {n : Nat} {d : Int32} (h : n < l.length) : (l ++ l').getD n d = l.getD n d := by
  rw [List.getD_eq_getElem?_getD, List.getD_eq_getElem?_getD, List.getElem?_append_left h]
theorem gd_r {l : List Int32} {x d : Int32} : (l ++ [x]).getD l.length d = x := by
  rw [List.getD_eq_getElem?_getD, List.getElem?_append_right (Nat.le_refl _), Nat.sub_self]
  rfl
theorem nz_at {M : mk_T} {t : Nat} (h : ¬ mk_va M (nI t) (mk_hz M) = 0) : ∀ k, (nz M (t + 1 + k)).getD (ln M t) 0 = mk_va M (nI t) (mk_hz M)
  | 0 => by
    show (nz M (t + 1)).getD (ln M t) 0 = _
    rw [ln_1 h]
    exact gd_r
  | k + 1 => by
    have ih := nz_at h k
    have hl : ln M t < (nz M (t + 1 + k)).length := ln_lt (u := t + 1 + k) (by omega) h
    by_cases z : mk_va M (nI (t + 1 + k)) (mk_hz M) = 0
    · rw [← Nat.add_assoc, ln_0 z, ih]
    · rw [← Nat.add_assoc, ln_1 z, gd_l hl, ih]
theorem py_at {M : mk_T} {t : Nat} (ht : t < mk_tr M) (h : ¬ mk_va M (nI t) (mk_hz M) = 0) : py_v M (ln M t) = mk_va M (nI t) (mk_hz M) := by
  have := nz_at h (mk_tr M - (t + 1))
  rw [show t + 1 + (mk_tr M - (t + 1)) = mk_tr M by omega] at this
  exact this
theorem ln_s {M : mk_T} : ∀ t j, j < ln M t → ∃ x, x < t ∧ (¬ mk_va M (nI x) (mk_hz M) = 0) ∧ ln M x = j
  | 0, j, hj => absurd hj (Nat.not_lt_zero _)
  | t + 1, j, hj => by
    by_cases z : mk_va M (nI t) (mk_hz M) = 0
    · have e : ln M (t + 1) = ln M t := congrArg List.length (ln_0 z)
      obtain ⟨x, x1, x2⟩ := ln_s (M := M) t j (by omega)
      exact ⟨x, by omega, x2⟩
    · have e := ln_1l z
      by_cases q : j = ln M t
      · exact ⟨t, Nat.lt_succ_self _, z, q.symm⟩
      · obtain ⟨x, x1, x2⟩ := ln_s (M := M) t j (by omega)
        exact ⟨x, by omega, x2⟩
theorem et_e {M : mk_T} : ∀ t x, x < t → (¬ mk_va M (nI x) (mk_hz M) = 0) → et M t (ln M x) = x
  | 0, x, hx, _ => absurd hx (Nat.not_lt_zero _)
  | t + 1, x, hx, h => by
    unfold et
    by_cases z : mk_va M (nI t) (mk_hz M) = 0
    · have q : x ≠ t := fun y => h (y ▸ z)
      rw [if_pos z]
      exact et_e t x (by omega) h
    · rw [if_neg z]
      by_cases q : x = t
      · subst q
        exact up_s
      · have := ln_lt (M := M) (t := x) (u := t) (by omega) h
        rw [up_n (by omega)]
        exact et_e t x (by omega) h
abbrev vC (M : mk_T) : Nat → Int := fun i => (py_v M i).toInt
def hat (M : mk_T) (T : Nat → Bool) : Nat → Bool := fun t => aB M t && T (ln M t)
theorem hat_e {M : mk_T} {T : Nat → Bool} {t : Nat} : hat M T t = true ↔ aB M t = true ∧ T (ln M t) = true := by
  unfold hat
  cases aB M t <;> cases T (ln M t) <;> decide
theorem zs_hat {M : mk_T} (H : Ic M) {T : Nat → Bool} : ∀ t, t ≤ mk_tr M → zs (vC M) (ln M t) T = zs (vI M) t (hat M T)
  | 0, _ => by
    show (0 : Int) = 0
    rfl
  | t + 1, ht => by
    have ih := zs_hat H (T := T) t (by omega)
    show _ = zs (vI M) t (hat M T) + (if hat M T t = true then vI M t else 0)
    by_cases z : mk_va M (nI t) (mk_hz M) = 0
    · have e : ln M (t + 1) = ln M t := congrArg List.length (ln_0 z)
      rw [e, ih, if_neg (fun y => (aB_v H).mp (hat_e.mp y).1 z), Int.add_zero]
    · rw [ln_1l z]
      show zs (vC M) (ln M t) T + (if T (ln M t) = true then vC M (ln M t) else 0) = _
      have ev : vC M (ln M t) = vI M t := by
        show (py_v M (ln M t)).toInt = _
        rw [py_at (by omega) z, va_e H]
        rfl
      rw [ih, ev]
      by_cases y : T (ln M t) = true
      · rw [if_pos y, if_pos (hat_e.mpr ⟨(aB_v H).mpr z, y⟩)]
      · rw [if_neg y, if_neg (fun u => y (hat_e.mp u).2)]
theorem Dj_hat {M : mk_T} (H : Ic M) : ∀ k S, Dj (vC M) (py_n M) k S → Dj (vI M) (mk_tr M) k (hat M S)
  | 0, _, _ => trivial
  | k + 1, S, ⟨T, h1, ⟨j, j1, j2⟩, h3, h4⟩ => by
    obtain ⟨x, x1, x2, x3⟩ := ln_s (mk_tr M) j j1
    refine ⟨hat M T, fun t ht y => ?_, ⟨x, x1, hat_e.mpr ⟨(aB_v H).mpr x2, by rw [x3]; exact j2⟩⟩, (zs_hat H _ (Nat.le_refl _)).symm.trans h3, Dj_m k _ _ (fun t ht y => ?_) (Dj_hat H k _ h4)⟩
    · have y1 := hat_e.mp y
      exact hat_e.mpr ⟨y1.1, h1 _ (ln_lt ht ((aB_v H).mp y1.1)) y1.2⟩
    · have y1 := hat_e.mp y
      have y2 := bS_e.mp y1.2
      exact bS_e.mpr ⟨hat_e.mpr ⟨y1.1, y2.1⟩, fun z => y2.2 (hat_e.mp z).2⟩
theorem Dj_hat' {M : mk_T} (H : Ic M) : ∀ k S' S, (∀ t, t < mk_tr M → S' t = true → aB M t = true ∧ S (ln M t) = true) → Dj (vI M) (mk_tr M) k S' → Dj (vC M) (py_n M) k S
  | 0, _, _, _, _ => trivial
  | k + 1, S', S, hs, ⟨T', h1, ⟨t, t1, t2⟩, h3, h4⟩ => by
    have at_ : ∀ t, t < mk_tr M → aB M t = true → et M (mk_tr M) (ln M t) = t := fun t ht ha => et_e _ t ht ((aB_v H).mp ha)
    have same : ∀ t, t < mk_tr M → (hat M (fun j => T' (et M (mk_tr M) j)) t = true ↔ T' t = true) := fun t ht => by
      rw [hat_e]
      constructor
      · rintro ⟨a, b⟩
        have b : T' (et M (mk_tr M) (ln M t)) = true := b
        rw [at_ t ht a] at b
        exact b
      · intro y
        have a := (hs t ht (h1 t ht y)).1
        refine ⟨a, ?_⟩
        show T' (et M (mk_tr M) (ln M t)) = true
        rw [at_ t ht a]
        exact y
    have ha := hs t t1 (h1 t t1 t2)
    refine ⟨fun j => T' (et M (mk_tr M) j), fun j hj y => ?_, ⟨ln M t, ln_lt t1 ((aB_v H).mp ha.1), (hat_e.mp ((same t t1).mpr t2)).2⟩, ?_, Dj_hat' H k _ _ (fun t ht y => ?_) h4⟩
    · obtain ⟨x, x1, x2, x3⟩ := ln_s (mk_tr M) j hj
      have y : T' (et M (mk_tr M) j) = true := y
      rw [← x3, at_ x x1 ((aB_v H).mpr x2)] at y
      rw [← x3]
      exact (hs x x1 (h1 x x1 y)).2
    · exact (zs_hat H _ (Nat.le_refl _)).trans ((zs_c same).trans h3)
    · have y1 := bS_e.mp y
      have y2 := hs t ht y1.1
      refine ⟨y2.1, bS_e.mpr ⟨y2.2, fun z => y1.2 ?_⟩⟩
      exact (same t ht).mp (hat_e.mpr ⟨y2.1, z⟩)
theorem Mx_hat {M : mk_T} (H : Ic M) {K : Int} (h : Mx (vC M) (py_n M) (fun _ => true) K) : Mx (vI M) (mk_tr M) (aB M) K := by
  obtain ⟨⟨k, e, hk⟩, h2⟩ := h
  exact ⟨⟨k, e, Dj_m k _ _ (fun t _ y => (hat_e.mp y).1) (Dj_hat H k _ hk)⟩, fun j hj => h2 j (Dj_hat' H j _ _ (fun t _ y => ⟨y, rfl⟩) hj)⟩
theorem pan_e {M : mk_T} (H : Ic M) : ∀ t, pa_n M t = ln M t
  | 0 => rfl
  | t + 1 => by
    have ih := pan_e H t
    unfold pa_n
    by_cases z : mk_va M (nI t) (mk_hz M) = 0
    · have e : ln M (t + 1) = ln M t := congrArg List.length (ln_0 z)
      rw [if_pos (by rw [← va_e H]; exact z), e, ih]
    · rw [if_neg (fun y => z (by rw [va_e H]; exact y)), ln_1l z, ih]
theorem all_1 : ∀ n, n < 7 → ∀ i, i < 6 → i < n → ¬ (2 ^ n - 1) / 2 ^ i % 2 = 0 := by decide
theorem py_bd {M : mk_T} (H : Ic M) : bdV (vC M) (py_n M) := fun j hj => by
  obtain ⟨x, x1, x2, x3⟩ := ln_s (mk_tr M) j hj
  have h := vI_bd H x
  have e : vC M j = vI M x := by
    rw [← x3]
    show (py_v M (ln M x)).toInt = _
    rw [py_at x1 x2, va_e H]
    rfl
  rw [e]
  exact h
theorem nI6 : ∀ x, x < 7 → (nI x).toInt = (x : Int) := by decide
/-- payments by sets are the model's -/
theorem py_sp {M : mk_T} (H : Ic M) : py_s M = pa_v M := by
  have h6 := H.1.2.1
  have hn : py_n M ≤ mk_tr M := nz_len M (mk_tr M)
  have hp := hp_p1 (py_n M)
  have g := gt_e (v := py_v M) (n := py_n M) (by omega) (py_bd H) (2 ^ py_n M - 1) (by omega) _ (Nat.le_refl _)
  have g2 := Mx_hat H (Mx_c (T := fun _ => true) (fun i hi => ⟨fun _ => rfl, fun _ => mS_e.mpr (all_1 _ (by omega) i (by omega) hi)⟩) g)
  have e := Int32.toInt.inj (Mx_u g2 (pa_mx H))
  unfold py_s pa_v
  rw [e, pan_e H]
  rfl
/-- payments by groups are the model's -/
theorem py_gp {M : mk_T} (H : Ic M) : py_g M = pa_v M := by
  have h6 := H.1.2.1
  have hn : py_n M ≤ mk_tr M := nz_len M (mk_tr M)
  have g := pg_mx (v := py_v M) (cnt := py_n M) (by omega) (py_bd H) (by
    refine (zs_hat H _ (Nat.le_refl _)).trans ?_
    refine (zs_c (T := aB M) (fun i _ => ⟨fun y => (hat_e.mp y).1, fun y => hat_e.mpr ⟨y, rfl⟩⟩)).trans ?_
    rw [zs_all]
    exact vI_0 H)
  have g2 := Mx_u (Mx_hat H g) (pa_mx H)
  have k6 : st_pg (py_v M) (py_n M) (py_n M) 0 (fun _ => 0) 0 ≤ 6 := by
    obtain ⟨⟨k, e, hk⟩, -⟩ := g
    have := Dj_le _ k _ (fun i hi _ => hi) hk
    omega
  have e : nI (st_pg (py_v M) (py_n M) (py_n M) 0 (fun _ => 0) 0) = pa_o 63 1 (pa_m M (pa_a M (mk_tr M))) (pa_a M (mk_tr M)) := by
    apply Int32.toInt.inj
    rw [← g2]
    generalize st_pg (py_v M) (py_n M) (py_n M) 0 (fun _ => 0) 0 = x at k6
    exact nI6 x (by omega)
  unfold py_g pa_v
  rw [e, pan_e H]
  rfl

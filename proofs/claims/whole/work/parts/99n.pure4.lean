/-! ===== PURE: words, numbers, texts ===== -/
theorem cm_sh (s w : Nat → Nat) (m : Nat) : ∀ e c, rd_cm s w e (m + c) = m + rd_cm (fun j => s (m + j)) (fun j => w (m + j)) e c
  | 0, c => rfl
  | e + 1, c => by
    unfold rd_cm
    rw [Nat.add_assoc m c 1, cm_sh s w m e (c + 1)]
    show (if _ then _ else _) = m + (if _ then _ else _)
    split <;> rfl
theorem cm_w {s w w' : Nat → Nat} : ∀ e c, (∀ j, c ≤ j → j < c + e → w j = w' j) → rd_cm s w e c = rd_cm s w' e c
  | 0, c, _ => rfl
  | e + 1, c, h => by
    unfold rd_cm
    rw [h c (Nat.le_refl _) (by omega), cm_w e (c + 1) (fun j h1 h2 => h j (by omega) (by omega))]
/-- a word that begins otherwise -/
theorem cm_0 {s w : Nat → Nat} {e : Nat} (h : ¬ s 0 = w 0) : rd_cm s w (e + 1) 0 = 0 := if_neg h
/-- a word that begins so -/
theorem cm_1 {s w w' : Nat → Nat} {e m : Nat} (h : ∀ j, j < m → s j = w j) (hw : ∀ j, j < e → w (m + j) = w' j) : rd_cm s w (m + e) 0 = m + rd_cm (fun j => s (m + j)) w' e 0 := by
  have h2 : ∀ k, k ≤ m → rd_cm s w (m + e) 0 = rd_cm s w (m - k + e) k := by
    intro k
    induction k with
    | zero => exact fun _ => rfl
    | succ k ih =>
      intro hk
      rw [ih (by omega), show m - k + e = (m - (k + 1) + e) + 1 by omega]
      show (if s k = w k then _ else _) = _
      rw [if_pos (h k (by omega))]
  rw [h2 m (Nat.le_refl _), Nat.sub_self, Nat.zero_add]
  have h3 := cm_sh s w m e 0
  rw [Nat.add_zero] at h3
  rw [h3, cm_w e 0 (fun j _ h1 => hw j (by omega))]
theorem one_0 {s : Nat → Nat} {k : Nat} {b : rd_W} (h : rd_cm s (ks_t (15 + k)) (ks_l (15 + k)).length 0 = 0) (hl : 0 < (ks_l (15 + k)).length) : rd_one s k b = b := by
  unfold rd_one
  rw [h]
  show (if 0 = (ks_l (15 + k)).length ∧ b.2.1 < 0 then _ else _) = b
  rw [if_neg (by omega)]
  show (b.1, b.2.1, if b.2.2 < 0 then 0 else b.2.2) = b
  rw [if_neg (by omega)]
theorem one_v {s : Nat → Nat} {k m : Nat} {b : rd_W} (h : rd_cm s (ks_t (15 + k)) (ks_l (15 + k)).length 0 = m) : rd_one s k b = (if m = (ks_l (15 + k)).length ∧ b.2.1 < m then (nI k, m, if b.2.2 < m then m else b.2.2) else (b.1, b.2.1, if b.2.2 < m then m else b.2.2)) := by
  unfold rd_one
  rw [h]
/-- the word that is read at s, by its number, and how far it goes -/
def wd (s : Nat → Nat) : Int32 × Nat :=
  if s 0 = 104 then (if rd_cm (fun j => s (1 + j)) (ks_t 35) 6 0 = 6 then (nI 0, 7) else (-1, 1 + rd_cm (fun j => s (1 + j)) (ks_t 35) 6 0))
  else if s 0 = 116 then (if rd_cm (fun j => s (1 + j)) (ks_t 36) 4 0 = 4 then (if s 5 = 114 then (nI 1, 6) else (nI 2, 5)) else (-1, 1 + rd_cm (fun j => s (1 + j)) (ks_t 36) 4 0))
  else if s 0 = 113 then (if rd_cm (fun j => s (1 + j)) (ks_t 38) 4 0 = 4 then (nI 3, 5) else (-1, 1 + rd_cm (fun j => s (1 + j)) (ks_t 38) 4 0))
  else if s 0 = 100 then (if s 1 = 97 then (if rd_cm (fun j => s (2 + j)) (ks_t 39) 2 0 = 2 then (nI 4, 4) else (-1, 2 + rd_cm (fun j => s (2 + j)) (ks_t 39) 2 0)) else (if rd_cm (fun j => s (1 + j)) (ks_t 40) 3 0 = 3 then (nI 6, 4) else (-1, 1 + rd_cm (fun j => s (1 + j)) (ks_t 40) 3 0)))
  else if s 0 = 112 then (if rd_cm (fun j => s (1 + j)) (ks_t 41) 2 0 = 2 then (nI 5, 3) else (-1, 1 + rd_cm (fun j => s (1 + j)) (ks_t 41) 2 0))
  else if s 0 = 103 then (if rd_cm (fun j => s (1 + j)) (ks_t 42) 3 0 = 3 then (nI 7, 4) else (-1, 1 + rd_cm (fun j => s (1 + j)) (ks_t 42) 3 0))
  else (-1, 0)
theorem ws_e (s : Nat → Nat) : rd_ws s 8 = rd_one s 7 (rd_one s 6 (rd_one s 5 (rd_one s 4 (rd_one s 3 (rd_one s 2 (rd_one s 1 (rd_one s 0 (-1, 0, 0)))))))) := rfl
theorem cm_le0 (s w : Nat → Nat) (e : Nat) : rd_cm s w e 0 ≤ e := by
  have := rd_cm_le s w e 0
  omega
section WDD
variable {s : Nat → Nat}
theorem one_n {b : rd_W} (k c e : Nat) (hk : ks_t (15 + k) 0 = c) (hl : (ks_l (15 + k)).length = e + 1) (h : ¬ s 0 = c) : rd_one s k b = b := by
  refine one_0 ?_ (by omega)
  rw [hl]
  exact cm_0 (by rw [hk]; exact h)
theorem on_0 {b : rd_W} (h : ¬ s 0 = 104) : rd_one s 0 b = b := one_n 0 104 6 rfl rfl h
theorem on_1 {b : rd_W} (h : ¬ s 0 = 116) : rd_one s 1 b = b := one_n 1 116 5 rfl rfl h
theorem on_2 {b : rd_W} (h : ¬ s 0 = 116) : rd_one s 2 b = b := one_n 2 116 4 rfl rfl h
theorem on_3 {b : rd_W} (h : ¬ s 0 = 113) : rd_one s 3 b = b := one_n 3 113 4 rfl rfl h
theorem on_4 {b : rd_W} (h : ¬ s 0 = 100) : rd_one s 4 b = b := one_n 4 100 3 rfl rfl h
theorem on_5 {b : rd_W} (h : ¬ s 0 = 112) : rd_one s 5 b = b := one_n 5 112 2 rfl rfl h
theorem on_6 {b : rd_W} (h : ¬ s 0 = 100) : rd_one s 6 b = b := one_n 6 100 3 rfl rfl h
theorem on_7 {b : rd_W} (h : ¬ s 0 = 103) : rd_one s 7 b = b := one_n 7 103 3 rfl rfl h
/-- one word alone -/
theorem one_s {k m : Nat} (h : rd_cm s (ks_t (15 + k)) (ks_l (15 + k)).length 0 = m) (hm : 0 < m) (hl : (ks_l (15 + k)).length = 0 + (ks_l (15 + k)).length) : rd_one s k (-1, 0, 0) = (if m = (ks_l (15 + k)).length then (nI k, m, m) else (-1, 0, m)) := by
  rw [one_v h]
  show (if m = (ks_l (15 + k)).length ∧ 0 < m then (nI k, m, if 0 < m then m else 0) else (-1, 0, if 0 < m then m else 0)) = _
  rw [if_pos hm]
  by_cases z : m = (ks_l (15 + k)).length
  · rw [if_pos z, if_pos ⟨z, hm⟩]
  · rw [if_neg z, if_neg (fun y => z y.1)]
theorem ws_wd : (rd_ws s 8).1 = (wd s).1 ∧ (rd_ws s 8).2.2 = (wd s).2 := by
  rw [ws_e]
  unfold wd
  by_cases h104 : s 0 = 104
  · rw [if_pos h104]
    have hc : rd_cm s (ks_t (15 + 0)) (ks_l (15 + 0)).length 0 = 1 + rd_cm (fun j => s (1 + j)) (ks_t 35) 6 0 := cm_1 (m := 1) (e := 6) (fun j hj => by rw [show j = 0 by omega]; exact h104) (by decide)
    have hle := cm_le0 (fun j => s (1 + j)) (ks_t 35) 6
    rw [on_7 (s := s) (by omega), on_6 (s := s) (by omega), on_5 (s := s) (by omega), on_4 (s := s) (by omega), on_3 (s := s) (by omega), on_2 (s := s) (by omega), on_1 (s := s) (by omega), one_s hc (by omega) (Nat.zero_add _).symm]
    generalize rd_cm (fun j => s (1 + j)) (ks_t 35) 6 0 = m at hle
    by_cases z : m = 6
    · subst z
      exact ⟨rfl, rfl⟩
    · rw [if_neg (show ¬ 1 + m = (ks_l (15 + 0)).length from fun y => z (by have y : 1 + m = 7 := y; omega)), if_neg z]
      exact ⟨rfl, rfl⟩
  rw [if_neg h104]
  by_cases h116 : s 0 = 116
  · rw [if_pos h116]
    have h2 : rd_cm s (ks_t (15 + 2)) (ks_l (15 + 2)).length 0 = 1 + rd_cm (fun j => s (1 + j)) (ks_t 36) 4 0 := cm_1 (m := 1) (e := 4) (fun j hj => by rw [show j = 0 by omega]; exact h116) (by decide)
    have h1 : rd_cm s (ks_t (15 + 1)) (ks_l (15 + 1)).length 0 = 1 + rd_cm (fun j => s (1 + j)) (fun j => ks_t 16 (1 + j)) 5 0 := cm_1 (m := 1) (e := 5) (fun j hj => by rw [show j = 0 by omega]; exact h116) (fun _ _ => rfl)
    have h3 : ∀ e c, c + e = 4 → rd_cm (fun j => s (1 + j)) (fun j => ks_t 16 (1 + j)) (e + 1) c = if rd_cm (fun j => s (1 + j)) (ks_t 36) e c = 4 then (if s 5 = 114 then 5 else 4) else rd_cm (fun j => s (1 + j)) (ks_t 36) e c := by
      intro e
      induction e with
      | zero =>
        intro c hc
        have hc : c = 4 := by omega
        subst hc
        rfl
      | succ e ih =>
        intro c hc
        have ek : ks_t 16 (1 + c) = ks_t 36 c := (show ∀ c, c < 4 → ks_t 16 (1 + c) = ks_t 36 c by decide) c (by omega)
        have e1 : rd_cm (fun j => s (1 + j)) (fun j => ks_t 16 (1 + j)) (e + 1 + 1) c = if s (1 + c) = ks_t 16 (1 + c) then rd_cm (fun j => s (1 + j)) (fun j => ks_t 16 (1 + j)) (e + 1) (c + 1) else c := rfl
        have e2 : rd_cm (fun j => s (1 + j)) (ks_t 36) (e + 1) c = if s (1 + c) = ks_t 36 c then rd_cm (fun j => s (1 + j)) (ks_t 36) e (c + 1) else c := rfl
        rw [e1, e2, ek]
        by_cases y : s (1 + c) = ks_t 36 c
        · rw [if_pos y, if_pos y]
          exact ih (c + 1) (by omega)
        · rw [if_neg y, if_neg y, if_neg (by omega)]
    rw [h3 4 0 rfl] at h1
    have hle := cm_le0 (fun j => s (1 + j)) (ks_t 36) 4
    rw [on_7 (s := s) (by omega), on_6 (s := s) (by omega), on_5 (s := s) (by omega), on_4 (s := s) (by omega), on_3 (s := s) (by omega), on_0 (s := s) (by omega)]
    generalize rd_cm (fun j => s (1 + j)) (ks_t 36) 4 0 = m at hle h1 h2
    by_cases z : m = 4
    · subst z
      rw [if_pos rfl] at h1
      rw [if_pos rfl]
      by_cases y : s 5 = 114
      · rw [if_pos y] at h1
        rw [if_pos y, one_s h1 (by decide) (Nat.zero_add _).symm, one_v h2]
        exact ⟨rfl, rfl⟩
      · rw [if_neg y] at h1
        rw [if_neg y, one_s h1 (by decide) (Nat.zero_add _).symm, one_v h2]
        exact ⟨rfl, rfl⟩
    · rw [if_neg z] at h1
      rw [if_neg z, one_s h1 (by omega) (Nat.zero_add _).symm, one_v h2, if_neg (show ¬ 1 + m = (ks_l (15 + 1)).length from fun y => by have y : 1 + m = 6 := y; omega), if_neg (show ¬ (1 + m = (ks_l (15 + 2)).length ∧ _) from fun y => z (by have y : 1 + m = 5 := y.1; omega))]
      refine ⟨rfl, ?_⟩
      show (if 1 + m < 1 + m then 1 + m else 1 + m) = 1 + m
      rw [if_neg (Nat.lt_irrefl _)]
  rw [if_neg h116]
  by_cases h113 : s 0 = 113
  · rw [if_pos h113]
    have hc : rd_cm s (ks_t (15 + 3)) (ks_l (15 + 3)).length 0 = 1 + rd_cm (fun j => s (1 + j)) (ks_t 38) 4 0 := cm_1 (m := 1) (e := 4) (fun j hj => by rw [show j = 0 by omega]; exact h113) (by decide)
    have hle := cm_le0 (fun j => s (1 + j)) (ks_t 38) 4
    rw [on_7 (s := s) (by omega), on_6 (s := s) (by omega), on_5 (s := s) (by omega), on_4 (s := s) (by omega), on_2 (s := s) (by omega), on_1 (s := s) (by omega), on_0 (s := s) (by omega), one_s hc (by omega) (Nat.zero_add _).symm]
    generalize rd_cm (fun j => s (1 + j)) (ks_t 38) 4 0 = m at hle
    by_cases z : m = 4
    · subst z
      exact ⟨rfl, rfl⟩
    · rw [if_neg (show ¬ 1 + m = (ks_l (15 + 3)).length from fun y => z (by have y : 1 + m = 5 := y; omega)), if_neg z]
      exact ⟨rfl, rfl⟩
  rw [if_neg h113]
  by_cases h100 : s 0 = 100
  · rw [if_pos h100, on_7 (s := s) (by omega), on_5 (s := s) (by omega), on_3 (s := s) (by omega), on_2 (s := s) (by omega), on_1 (s := s) (by omega), on_0 (s := s) (by omega)]
    by_cases h97 : s 1 = 97
    · rw [if_pos h97]
      have h4 : rd_cm s (ks_t (15 + 4)) (ks_l (15 + 4)).length 0 = 2 + rd_cm (fun j => s (2 + j)) (ks_t 39) 2 0 := cm_1 (m := 2) (e := 2) (fun j hj => by by_cases q : j = 0; (rw [q]; exact h100); (rw [show j = 1 by omega]; exact h97)) (by decide)
      have h6 : rd_cm s (ks_t (15 + 6)) (ks_l (15 + 6)).length 0 = 1 + rd_cm (fun j => s (1 + j)) (ks_t 40) 3 0 := cm_1 (m := 1) (e := 3) (fun j hj => by rw [show j = 0 by omega]; exact h100) (by decide)
      rw [cm_0 (s := fun j => s (1 + j)) (w := ks_t 40) (e := 2) (show ¬ s 1 = 114 by omega)] at h6
      have hle := cm_le0 (fun j => s (2 + j)) (ks_t 39) 2
      generalize rd_cm (fun j => s (2 + j)) (ks_t 39) 2 0 = m at hle h4
      rw [one_s h4 (by omega) (Nat.zero_add _).symm, one_v h6]
      by_cases z : m = 2
      · subst z
        exact ⟨rfl, rfl⟩
      · rw [if_neg (show ¬ 2 + m = (ks_l (15 + 4)).length from fun y => z (by have y : 2 + m = 4 := y; omega)), if_neg z]
        refine ⟨rfl, ?_⟩
        show (if 2 + m < 1 then 1 else 2 + m) = 2 + m
        rw [if_neg (by omega)]
    · rw [if_neg h97]
      have h6 : rd_cm s (ks_t (15 + 6)) (ks_l (15 + 6)).length 0 = 1 + rd_cm (fun j => s (1 + j)) (ks_t 40) 3 0 := cm_1 (m := 1) (e := 3) (fun j hj => by rw [show j = 0 by omega]; exact h100) (by decide)
      have h4 : rd_cm s (ks_t (15 + 4)) (ks_l (15 + 4)).length 0 = 1 + rd_cm (fun j => s (1 + j)) (fun j => ks_t 19 (1 + j)) 3 0 := cm_1 (m := 1) (e := 3) (fun j hj => by rw [show j = 0 by omega]; exact h100) (fun _ _ => rfl)
      rw [cm_0 (s := fun j => s (1 + j)) (w := fun j => ks_t 19 (1 + j)) (e := 2) (show ¬ s 1 = 97 from h97)] at h4
      have hle := cm_le0 (fun j => s (1 + j)) (ks_t 40) 3
      generalize rd_cm (fun j => s (1 + j)) (ks_t 40) 3 0 = m at hle h6
      rw [one_s h4 (by omega) (Nat.zero_add _).symm, one_v h6]
      by_cases z : m = 3
      · subst z
        exact ⟨rfl, rfl⟩
      · rw [if_neg (show ¬ (1 + m = (ks_l (15 + 6)).length ∧ _) from fun y => z (by have y : 1 + m = 4 := y.1; omega)), if_neg z]
        refine ⟨rfl, ?_⟩
        show (if 1 < 1 + m then 1 + m else 1) = 1 + m
        by_cases y : m = 0
        · subst y
          rfl
        · rw [if_pos (by omega)]
  rw [if_neg h100]
  by_cases h112 : s 0 = 112
  · rw [if_pos h112]
    have hc : rd_cm s (ks_t (15 + 5)) (ks_l (15 + 5)).length 0 = 1 + rd_cm (fun j => s (1 + j)) (ks_t 41) 2 0 := cm_1 (m := 1) (e := 2) (fun j hj => by rw [show j = 0 by omega]; exact h112) (by decide)
    have hle := cm_le0 (fun j => s (1 + j)) (ks_t 41) 2
    rw [on_7 (s := s) (by omega), on_6 (s := s) (by omega), on_4 (s := s) (by omega), on_3 (s := s) (by omega), on_2 (s := s) (by omega), on_1 (s := s) (by omega), on_0 (s := s) (by omega), one_s hc (by omega) (Nat.zero_add _).symm]
    generalize rd_cm (fun j => s (1 + j)) (ks_t 41) 2 0 = m at hle
    by_cases z : m = 2
    · subst z
      exact ⟨rfl, rfl⟩
    · rw [if_neg (show ¬ 1 + m = (ks_l (15 + 5)).length from fun y => z (by have y : 1 + m = 3 := y; omega)), if_neg z]
      exact ⟨rfl, rfl⟩
  rw [if_neg h112]
  by_cases h103 : s 0 = 103
  · rw [if_pos h103]
    have hc : rd_cm s (ks_t (15 + 7)) (ks_l (15 + 7)).length 0 = 1 + rd_cm (fun j => s (1 + j)) (ks_t 42) 3 0 := cm_1 (m := 1) (e := 3) (fun j hj => by rw [show j = 0 by omega]; exact h103) (by decide)
    have hle := cm_le0 (fun j => s (1 + j)) (ks_t 42) 3
    rw [on_6 (s := s) (by omega), on_5 (s := s) (by omega), on_4 (s := s) (by omega), on_3 (s := s) (by omega), on_2 (s := s) (by omega), on_1 (s := s) (by omega), on_0 (s := s) (by omega), one_s hc (by omega) (Nat.zero_add _).symm]
    generalize rd_cm (fun j => s (1 + j)) (ks_t 42) 3 0 = m at hle
    by_cases z : m = 3
    · subst z
      exact ⟨rfl, rfl⟩
    · rw [if_neg (show ¬ 1 + m = (ks_l (15 + 7)).length from fun y => z (by have y : 1 + m = 4 := y; omega)), if_neg z]
      exact ⟨rfl, rfl⟩
  rw [if_neg h103]
  rw [on_7 (s := s) h103, on_6 (s := s) h100, on_5 (s := s) h112, on_4 (s := s) h100, on_3 (s := s) h113, on_2 (s := s) h116, on_1 (s := s) h116, on_0 (s := s) h104]
  exact ⟨rfl, rfl⟩
end WDD

/-! ===== THE MODEL: a trader defaults ===== -/
theorem mo_lw_q (M : mk_T) (d : Nat) : ∀ e left taken (T T' : Nat → Int32), (mo_lw M d e left taken T).1 = (mo_lw M d e left taken T').1 ∧ ((mo_lw M d e left taken T).1 = true → (∀ i, i < e → (mo_lw M d e left taken T).2 i = (mo_lw M d e left taken T').2 i) ∧ ∀ i, e ≤ i → (mo_lw M d e left taken T).2 i = T i ∧ (mo_lw M d e left taken T').2 i = T' i)
  | 0, left, taken, T, T' => ⟨rfl, fun _ => ⟨fun i hi => absurd hi (Nat.not_lt_zero i), fun _ _ => ⟨rfl, rfl⟩⟩⟩
  | e + 1, left, taken, T, T' => by
    unfold mo_lw
    split
    · split
      · exact ⟨rfl, fun z => by cases z⟩
      · obtain ⟨h1, h2⟩ := mo_lw_q M d e (left / 6) taken (upd T e (-1)) (upd T' e (-1))
        refine ⟨h1, fun z => ?_⟩
        obtain ⟨k1, k2⟩ := h2 z
        refine ⟨fun i hi => ?_, fun i hi => ?_⟩
        · by_cases q : i < e
          · exact k1 i q
          · have q : i = e := by omega
            subst q
            have := k2 i (Nat.le_refl _)
            rw [this.1, this.2, pk_us, pk_us]
        · have := k2 i (by omega)
          rw [this.1, this.2, pk_un (by omega), pk_un (by omega)]
          exact ⟨rfl, rfl⟩
    · split
      · exact ⟨rfl, fun z => by cases z⟩
      · obtain ⟨h1, h2⟩ := mo_lw_q M d e (left / 6) (taken ||| 2 ^ (left % 6)) (upd (upd T e (-1)) e (nI (left % 6))) (upd (upd T' e (-1)) e (nI (left % 6)))
        refine ⟨h1, fun z => ?_⟩
        obtain ⟨k1, k2⟩ := h2 z
        refine ⟨fun i hi => ?_, fun i hi => ?_⟩
        · by_cases q : i < e
          · exact k1 i q
          · have q : i = e := by omega
            subst q
            have := k2 i (Nat.le_refl _)
            rw [this.1, this.2, pk_us, pk_us]
        · have := k2 i (by omega)
          rw [this.1, this.2, pk_un (by omega), pk_un (by omega), pk_un (by omega), pk_un (by omega)]
          exact ⟨rfl, rfl⟩
theorem mo_mi_q {M : mk_T} {T T' : Nat → Int32} {d t : Nat} {acc : Int32} : ∀ c, (∀ i, i < c → T i = T' i) → mo_mi M T d t acc c = mo_mi M T' d t acc c
  | 0, _ => rfl
  | c + 1, h => by
    unfold mo_mi
    rw [mo_mi_q c (fun i hi => h i (by omega)), h c (by omega)]
theorem mo_mt_q {M : mk_T} {T T' : Nat → Int32} {d : Nat} (h : ∀ i, i < mk_hz M → T i = T' i) : ∀ c, mo_mt M T d c = mo_mt M T' d c
  | 0 => rfl
  | c + 1 => by
    unfold mo_mt
    rw [mo_mt_q h c]
    split
    · rfl
    · exact mo_mi_q _ h
/-- two best ways that are the same -/
def ls_q (hz : Nat) (R R' : ls_T) : Prop := R.1 = R'.1 ∧ (0 ≤ R.1 → ∀ i, i < hz → R.2.2 i = R'.2.2 i)
theorem ls_1_q {M : mk_T} {d way : Nat} {R R' : ls_T} (hz4 : mk_hz M ≤ 4) (H : ls_q (mk_hz M) R R') : ls_q (mk_hz M) (ls_1 M d way R) (ls_1 M d way R') := by
  obtain ⟨h1, h2⟩ := mo_lw_q M d (mk_hz M) way 0 R.2.1 R'.2.1
  unfold ls_1
  generalize mo_lw M d (mk_hz M) way 0 R.2.1 = Q at h1 h2
  generalize mo_lw M d (mk_hz M) way 0 R'.2.1 = Q' at h1 h2
  show ls_q _ (if Q.1 = true then (if 0 ≤ R.1 ∧ R.1 ≤ mo_mt M Q.2 d (mk_tr M) then (R.1, Q.2, R.2.2) else (mo_mt M Q.2 d (mk_tr M), Q.2, ls_b Q.2 R.2.2 4)) else (R.1, Q.2, R.2.2)) (if Q'.1 = true then (if 0 ≤ R'.1 ∧ R'.1 ≤ mo_mt M Q'.2 d (mk_tr M) then (R'.1, Q'.2, R'.2.2) else (mo_mt M Q'.2 d (mk_tr M), Q'.2, ls_b Q'.2 R'.2.2 4)) else (R'.1, Q'.2, R'.2.2))
  rw [← h1, ← H.1]
  by_cases z : Q.1 = true
  · obtain ⟨k1, -⟩ := h2 z
    rw [if_pos z, if_pos z, mo_mt_q (d := d) k1 (mk_tr M)]
    split
    · exact ⟨rfl, H.2⟩
    · refine ⟨rfl, fun _ i hi => ?_⟩
      show ls_b Q.2 R.2.2 4 i = ls_b Q'.2 R'.2.2 4 i
      unfold ls_b
      rw [if_pos (by omega), if_pos (by omega)]
      exact k1 i hi
  · rw [if_neg z, if_neg z]
    exact ⟨rfl, H.2⟩
theorem ls_r_q {M : mk_T} {d : Nat} (hz4 : mk_hz M ≤ 4) : ∀ e way (R R' : ls_T), ls_q (mk_hz M) R R' → ls_q (mk_hz M) (ls_r M d e way R) (ls_r M d e way R')
  | 0, way, R, R', H => H
  | e + 1, way, R, R', H => ls_r_q hz4 e (way + 1) _ _ (ls_1_q hz4 H)
/-- the least sum of margins, its takers -/
def lk_R (M : mk_T) (d : Nat) : ls_T := ls_f M d (fun _ => 0) (fun _ => 0)
def lk_v (M : mk_T) (d : Nat) : Int32 := if ld_a M d (mk_tr M) < ld_n M d (mk_hz M) then -1 else (lk_R M d).1
def lk_B (M : mk_T) (d : Nat) : Nat → Int32 := (lk_R M d).2.2
theorem ls_f_q {M : mk_T} {d : Nat} (hz4 : mk_hz M ≤ 4) (T B : Nat → Int32) : ls_q (mk_hz M) (ls_f M d T B) (lk_R M d) := ls_r_q hz4 _ _ _ _ ⟨rfl, fun z => absurd z (by show ¬ (0 : Int32) ≤ -1; decide)⟩
theorem ls_v_k {S : mo_T} {M : mk_T} {d : Nat} (hz4 : mk_hz M ≤ 4) : ls_v S M d = lk_v M d := by
  unfold ls_v lk_v
  rw [(ls_f_q hz4 (S.1 6) (S.1 7)).1]
theorem ls_k_k {S : mo_T} {M : mk_T} {d : Nat} (hz4 : mk_hz M ≤ 4) (h0 : ¬ lk_v M d < 0) : ∀ i, i < mk_hz M → ls_k S M d i = lk_B M d i := by
  intro i hi
  have h9 := ls_f_q (d := d) hz4 (S.1 6) (S.1 7)
  unfold lk_v at h0
  unfold ls_k
  by_cases z : ld_a M d (mk_tr M) < ld_n M d (mk_hz M)
  · rw [if_pos z] at h0
    exact absurd (show (-1 : Int32) < 0 by decide) h0
  · rw [if_neg z] at h0 ⊢
    exact h9.2 (by rw [h9.1]; exact Int32.not_lt.mp h0) i hi
theorem hd_1_c {B : Nat → Int32} {d τ z : Int32} {M : mk_T} {c : Nat} (P : mk_T → Prop) (h0 : P M) (h1 : P (mk_rm M c)) (h2 : ∀ k v, k = 5 ∨ k = 6 → P (mk_st M k c v)) (h3 : ∀ k v, k = 5 ∨ k = 6 → P (mk_rm (mk_st M k c v) c)) : P (hd_1 B d τ z M c) := by
  unfold hd_1
  have hk : (if mk_ar M 5 c = d then (5 : Nat) else 6) = 5 ∨ (if mk_ar M 5 c = d then (5 : Nat) else 6) = 6 := by
    by_cases q : mk_ar M 5 c = d
    · exact Or.inl (if_pos q)
    · exact Or.inr (if_neg q)
  generalize (if mk_ar M 5 c = d then (5 : Nat) else 6) = k at hk ⊢
  by_cases a : mk_ar M 5 c = d ∨ mk_ar M 6 c = d
  · rw [if_pos a]
    by_cases b : τ = 0 ∨ (z >>> (mk_ar M 7 c &&& 31)) &&& nI 1 = 0
    · rw [if_pos b]
      exact h1
    · rw [if_neg b]
      by_cases e : mk_ar (mk_st M k c (B (mk_ar M 7 c).toNatClampNeg)) 5 c = mk_ar (mk_st M k c (B (mk_ar M 7 c).toNatClampNeg)) 6 c
      · rw [if_pos e]
        exact h3 k _ hk
      · rw [if_neg e]
        exact h2 k _ hk
  · rw [if_neg a]
    exact h0
theorem hd_1_p (B : Nat → Int32) (d τ z : Int32) (M : mk_T) (c : Nat) : (hd_1 B d τ z M c).1.1 = M.1.1 ∧ (hd_1 B d τ z M c).1.2.1 = M.1.2.1 ∧ (mo_hk M → mo_hk (hd_1 B d τ z M c)) :=
  hd_1_c (fun X => X.1.1 = M.1.1 ∧ X.1.2.1 = M.1.2.1 ∧ (mo_hk M → mo_hk X)) ⟨rfl, rfl, id⟩ ⟨rfl, rfl, fun h => h.rm c⟩ (fun k v hk => ⟨rfl, rfl, fun h => h.st (by omega)⟩) (fun k v hk => ⟨rfl, rfl, fun h => (h.st (by omega)).rm c⟩)
theorem hd_1_q {B B' : Nat → Int32} {d τ z : Int32} {M : mk_T} {c : Nat} (hc : c < mk_ct M) (hK : mo_hk M) (h4 : mk_hz M ≤ 4) (hB : τ = 0 ∨ ∀ i, i < mk_hz M → B i = B' i) : hd_1 B d τ z M c = hd_1 B' d τ z M c := by
  obtain ⟨o, ho, eo⟩ := hK c hc
  unfold hd_1
  rcases hB with hB | hB
  · rw [if_pos (Or.inl hB), if_pos (Or.inl hB)]
  · rw [eo, nI_clamp (by omega), hB o ho]
theorem hd_1_ct (B : Nat → Int32) (d τ z : Int32) (M : mk_T) (c : Nat) (hc : c + 1 ≤ mk_ct M) : c ≤ mk_ct (hd_1 B d τ z M c) :=
  hd_1_c (fun X => c ≤ mk_ct X) (by omega) (show c ≤ mk_ct M - 1 by omega) (fun k v hk => show c ≤ mk_ct M by omega) (fun k v hk => show c ≤ mk_ct M - 1 by omega)
theorem hd_r_p (B : Nat → Int32) (d τ z : Int32) : ∀ c (M : mk_T), (hd_r B d τ z M c).1.1 = M.1.1 ∧ (hd_r B d τ z M c).1.2.1 = M.1.2.1 ∧ (mo_hk M → mo_hk (hd_r B d τ z M c))
  | 0, M => ⟨rfl, rfl, id⟩
  | c + 1, M => by
    obtain ⟨a1, a2, a3⟩ := hd_1_p B d τ z M c
    obtain ⟨b1, b2, b3⟩ := hd_r_p B d τ z c (hd_1 B d τ z M c)
    exact ⟨b1.trans a1, b2.trans a2, fun h => b3 (a3 h)⟩
theorem hd_r_q {B B' : Nat → Int32} {d τ z : Int32} : ∀ c (M : mk_T), c ≤ mk_ct M → mo_hk M → mk_hz M ≤ 4 → (τ = 0 ∨ ∀ i, i < mk_hz M → B i = B' i) → hd_r B d τ z M c = hd_r B' d τ z M c
  | 0, M, _, _, _, _ => rfl
  | c + 1, M, hc, hK, h4, hB => by
    unfold hd_r
    rw [hd_1_q (by omega) hK h4 hB]
    obtain ⟨a1, a2, a3⟩ := hd_1_p B' d τ z M c
    have a1 : mk_hz (hd_1 B' d τ z M c) = mk_hz M := a1
    exact hd_r_q c _ (hd_1_ct B' d τ z M c hc) (a3 hK) (by omega) (hB.imp id (fun h i hi => h i (by omega)))
/-- what a default does to the account -/
def df_p (M : mk_T) (m : Int32) : Int32 := if mk_fu M = nI 0 then nI 0 else if -m < mk_fu M then -m else mk_fu M
def df_a (M : mk_T) (m : Int32) : mk_T := if 0 ≤ m then mk_pfu M (mk_fu M + m) else mk_plo (mk_pfu M (mk_fu M - df_p M m)) (mk_lo M + (-m - df_p M m))
def df_e (M : mk_T) (d : Nat) : mk_T := mk_st (mk_st (df_a M (mk_ar M 3 d)) 3 d (nI 0)) 4 d (nI 2)
def df_t (M : mk_T) (d : Nat) : Int32 := if lk_v M d < 0 then nI 0 else nI 1
def df_M (M : mk_T) (d : Nat) : mk_T := df_e (hd_M (lk_B M d) d (df_t M d) M) d
theorem df_a_p (M : mk_T) (m : Int32) : (df_a M m).1 = M.1 ∧ (df_a M m).2.1 = M.2.1 := by
  unfold df_a
  split <;> exact ⟨rfl, rfl⟩
theorem df_e_p (M : mk_T) (d : Nat) : (df_e M d).1 = M.1 := (df_a_p M _).1
theorem df_e_k {M : mk_T} {d : Nat} (h : mo_hk M) : mo_hk (df_e M d) := by
  refine mo_hk.st (mo_hk.st ?_ (by decide)) (by decide)
  intro c hc
  obtain ⟨e1, e2⟩ := df_a_p M (mk_ar M 3 d)
  rw [show mk_ct (df_a M (mk_ar M 3 d)) = mk_ct M from congrArg (fun z => z.2.2) e1] at hc
  rw [show mk_ar (df_a M (mk_ar M 3 d)) = mk_ar M from e2, show mk_hz (df_a M (mk_ar M 3 d)) = mk_hz M from congrArg (fun z => z.1) e1]
  exact h c hc
theorem df_M_p (M : mk_T) (d : Nat) : mk_hz (df_M M d) = mk_hz M ∧ mk_tr (df_M M d) = mk_tr M := by
  unfold df_M
  have e := df_e_p (hd_M (lk_B M d) d (df_t M d) M) d
  obtain ⟨a, b, -⟩ := hd_r_p (lk_B M d) (nI d) (df_t M d) (nI (hd_z M d (mk_hz M))) (mk_ct M) M
  exact ⟨(congrArg (fun z => z.1) e).trans a, (congrArg (fun z => z.2.1) e).trans b⟩
theorem df_M_k {M : mk_T} {d : Nat} (h : mo_hk M) : mo_hk (df_M M d) := df_e_k ((hd_r_p _ _ _ _ _ _).2.2 h)
theorem hd_M_q {S : mo_T} {M : mk_T} {d : Nat} {τ : Int32} (hz4 : mk_hz M ≤ 4) (hK : mo_hk M) (hτ : τ = df_t M d) : hd_M (ls_k S M d) d τ M = hd_M (lk_B M d) d (df_t M d) M := by
  subst hτ
  refine hd_r_q _ M (Nat.le_refl _) hK hz4 ?_
  by_cases z : lk_v M d < 0
  · exact Or.inl (if_pos z)
  · exact Or.inr (ls_k_k hz4 z)
theorem Gr.u4 {g g' : Nat → Int32} {M : mk_T} (H : Gr g M) {t : Nat} (ht : t < mk_tr M) {v : Int32} (hv : v = nI 0 ∨ v = nI 1 ∨ v = nI 2) (h1 : g' (18 + 3 * t + 1) = hp_b (v = nI 1)) (h2 : g' (18 + 3 * t + 2) = hp_b (v = nI 2)) (h3 : ∀ i, i ≠ 18 + 3 * t + 1 → i ≠ 18 + 3 * t + 2 → g' i = g i) : Gr g' (mk_st M 4 t v) := by
  obtain ⟨⟨a0, a1, a2, a3, a4, a5, a6, a7⟩, b, c, d, e1, e2, e3⟩ := H
  refine ⟨⟨(h3 _ (by omega) (by omega)).trans a0, (h3 _ (by omega) (by omega)).trans a1, (h3 _ (by omega) (by omega)).trans a2, (h3 _ (by omega) (by omega)).trans a3, (h3 _ (by omega) (by omega)).trans a4, (h3 _ (by omega) (by omega)).trans a5, (by rw [h3 _ (by omega) (by omega)]; exact a6), (by rw [h3 _ (by omega) (by omega)]; exact a7)⟩, fun i (hi : i < mk_hz M) k hk => ?_, fun s (hs : s < mk_tr M) => ?_, fun c2 (hc : c2 < mk_ct M) k hk => ?_, e1, e2, e3⟩
  · rw [h3 _ (by omega) (by omega), mk_st_ar, if_neg (by omega)]
    exact b i hi k hk
  · by_cases q : s = t
    · subst q
      rw [mk_st_ar, mk_st_ar, if_neg (show ¬ (3 = 4 ∧ s = s) by omega), if_pos ⟨rfl, rfl⟩, h3 _ (by omega) (by omega)]
      exact ⟨(c s hs).1, h1, h2, hv⟩
    · rw [mk_st_ar, mk_st_ar, if_neg (by omega), if_neg (by omega), h3 _ (by omega) (by omega), h3 _ (by omega) (by omega), h3 _ (by omega) (by omega)]
      exact c s hs
  · rw [h3 _ (by omega) (by omega), mk_st_ar, if_neg (by omega)]
    exact d c2 hc k hk
set_option maxHeartbeats 4000000 in
theorem tail_X8_defaults {G : hp_G} {K : hp_C} {P : hp_P} {n0 : Nat} {h0 h : Nat → Option va_E} {y d : Nat} {S2 : mo_T} {M1 : mk_T} {g : Nat → Int32} {x3 x4 x2 : Option Value} {tr : Nat} (C : hp_Cx G K MX8_defaults) (E : hp_End G K P) (hRm : hp_Rm K = hp_rm 4 0 0) (hl : K.2.1.stackTraces = false) (hbase : G.2.1 ≤ y) (hd0 : d < tr) (hd : d < mk_tr M1) (hp : ∀ h g, Gr g (df_e M1 d) → Mo G h y (mo_sg S2 g) → (∀ a, (a < y ∨ y + 13 ≤ a) → h a = h0 a) → P (.inl none) (n0, h)) (hg : Gr g (df_a M1 (mk_ar M1 3 d))) (H : Mo G h y (mo_sg S2 g)) (hO : (∀ a, (a < y ∨ y + 13 ≤ a) → h a = h0 a)) : V G K MX8_defaults 0 0 (n0, h) 110 [some (.ref y), some (.int (nI d)), x2, x3, x4] [] := by
  have htr := hg.tr
  have et : mk_tr (df_a M1 (mk_ar M1 3 d)) = mk_tr M1 := congrArg (fun z => z.2.1) (df_a_p M1 (mk_ar M1 3 d)).1
  have hd1 : d < mk_tr (df_a M1 (mk_ar M1 3 d)) := by omega
  refine v_aload_n C dX8_defaults_110 rfl ?_
  refine v_iload_n C dX8_defaults_111 rfl ?_
  refine v_iconst (v := nI 0) C dX8_defaults_112 (by decide) ?_
  refine v_iconst (v := nI 0) C dX8_defaults_113 (by decide) ?_
  refine v_callVv C (c_X8_lays hl H (i := d) (k := 0) (by omega) (by decide) (nI 0)) dX8_defaults_114 mX8_lays rfl H.o rfl wd7_97 rfl rfl (Nat.le_of_ble_eq_true rfl) (hp_rmle hRm (by decide) (by decide)) (Nat.le_of_ble_eq_true rfl) (Nat.le_of_ble_eq_true rfl) (fun n114 h114 q114 => ?_)
  obtain ⟨k114, Y114, W114⟩ := q114
  have z114 := Eq.symm k114
  have z114 : n0 = n114 := z114
  subst z114
  have W114 : ∀ a, (a < y ∨ y + 13 ≤ a) → h114 a = h0 a := fun a ha => (W114 a ha).trans (hO a ha)
  have X114 := Y114.to mo_sg_sa
  refine v_aload_n C dX8_defaults_117 rfl ?_
  refine v_iload_n C dX8_defaults_118 rfl ?_
  refine v_iconst (v := nI 1) C dX8_defaults_119 (by decide) ?_
  refine v_iconst (v := nI 0) C dX8_defaults_120 (by decide) ?_
  refine v_callVv C (c_X8_lays hl X114 (i := d) (k := 1) (by omega) (by decide) (nI 0)) dX8_defaults_121 mX8_lays rfl X114.o rfl wd7_97 rfl rfl (Nat.le_of_ble_eq_true rfl) (hp_rmle hRm (by decide) (by decide)) (Nat.le_of_ble_eq_true rfl) (Nat.le_of_ble_eq_true rfl) (fun n121 h121 q121 => ?_)
  obtain ⟨k121, Y121, W121⟩ := q121
  have z121 := Eq.symm k121
  have z121 : n0 = n121 := z121
  subst z121
  have W121 : ∀ a, (a < y ∨ y + 13 ≤ a) → h121 a = h0 a := fun a ha => (W121 a ha).trans (W114 a ha)
  have X121 := Y121.to mo_sg_sa
  refine v_aload_n C dX8_defaults_124 rfl ?_
  refine v_iload_n C dX8_defaults_125 rfl ?_
  refine v_iconst (v := nI 2) C dX8_defaults_126 (by decide) ?_
  refine v_iconst (v := nI 1) C dX8_defaults_127 (by decide) ?_
  refine v_callVv C (c_X8_lays hl X121 (i := d) (k := 2) (by omega) (by decide) (nI 1)) dX8_defaults_128 mX8_lays rfl X121.o rfl wd7_97 rfl rfl (Nat.le_of_ble_eq_true rfl) (hp_rmle hRm (by decide) (by decide)) (Nat.le_of_ble_eq_true rfl) (Nat.le_of_ble_eq_true rfl) (fun n128 h128 q128 => ?_)
  obtain ⟨k128, Y128, W128⟩ := q128
  have z128 := Eq.symm k128
  have z128 : n0 = n128 := z128
  subst z128
  have W128 : ∀ a, (a < y ∨ y + 13 ≤ a) → h128 a = h0 a := fun a ha => (W128 a ha).trans (W121 a ha)
  have X128 := Y128.to mo_sg_sa
  have G1 := hg.u3 hd1 (nI 0)
  have G2 : Gr (upd (upd (upd g (18 + 3 * d + 0) (nI 0)) (18 + 3 * d + 1) (nI 0)) (18 + 3 * d + 2) (nI 1)) (df_e M1 d) := G1.u4 (t := d) (v := nI 2) hd1 (Or.inr (Or.inr rfl)) (by rw [pk_un (by omega), pk_us]; rfl) (by rw [pk_us]; rfl) (fun i i1 i2 => by rw [pk_un i2, pk_un i1])
  exact v_vret C E dX8_defaults_131 rfl (hp _ _ G2 X128 W128)
set_option maxHeartbeats 8000000 in
/-- a trader defaults -/
theorem c_X8_defaults {G : hp_G} {l : Launch} (hl : l.stackTraces = false) {n0 : Nat} {h0 : Nat → Option va_E} {y : Nat} {S : mo_T} (hS : Mo G h0 y S) {M : mk_T} (hg : Gr (S.1 0) M) (hK : mo_hk M) {d : Nat} (hd : d < mk_tr M) : Ct G l yX8_defaults cX8_defaults 5 none 4 0 0 [.ref y, .int (nI d)] (n0, h0) (hp_vq (fun τ => τ.1 = n0 ∧ (∃ S2, Mo G τ.2 y S2 ∧ Gr (S2.1 0) (df_M M d) ∧ mo_wk S S2 ∧ S2.2 3 = S.2 3) ∧ ∀ a, (a < y ∨ y + 13 ≤ a) → τ.2 a = h0 a)) := by
  have hbase := hS.base
  have hhz := hg.hz
  have htr := hg.tr
  have hct := hg.ct
  refine Ct.of rfl hl (by simp [Value.category]) (Nat.le_of_ble_eq_true rfl) (fun K C E hRm hKl => ?_)
  subst hKl
  refine v_aload_n C dX8_defaults_0 rfl ?_
  refine v_iload_n C dX8_defaults_1 rfl ?_
  refine v_callVq C (c_X8_least hl hS hg (d := d) (by omega)) dX8_defaults_2 mX8_least rfl hS.o rfl wd7_172 rfl rfl (Nat.le_of_ble_eq_true rfl) (hp_rmle hRm (by decide) (by decide)) (Nat.le_of_ble_eq_true rfl) (Nat.le_of_ble_eq_true rfl) (fun r2 n2 h2 q2 => ?_)
  obtain ⟨e2, k2, Y2, W2⟩ := q2
  have z2 := Eq.symm k2
  have z2 : n0 = n2 := z2
  subst z2
  have e2 : r2 = lk_v M d := e2.trans (ls_v_k hhz)
  subst e2
  have X2 := Y2.to (mo_sg_eq (show (ls_S S M d).1 0 = S.1 0 by unfold ls_S; split <;> rfl))
  refine v_istore_n C dX8_defaults_5 (by decide) ?_
  refine v_aload_n C dX8_defaults_6 rfl ?_
  refine v_iload_n C dX8_defaults_7 rfl ?_
  refine v_iload_n C dX8_defaults_8 rfl ?_
  refine v_if_lt (tgt := 16) C dX8_defaults_9 (by decide) (fun c9 => ?_) (fun c9 => ?_)
  · have hτ : nI 0 = df_t M d := (if_pos c9).symm
    refine v_iconst (v := nI 0) C dX8_defaults_16 (by decide) ?_
    refine v_callVv C (c_X8_hands hl X2 hg hK (d := d) (nI 0)) dX8_defaults_17 mX8_hands rfl X2.o rfl wd7_188 rfl rfl (Nat.le_of_ble_eq_true rfl) (hp_rmle hRm (by decide) (by decide)) (Nat.le_of_ble_eq_true rfl) (Nat.le_of_ble_eq_true rfl) (fun n17 h17 q17 => ?_)
    obtain ⟨k17, ⟨g17, G17, K17, Y17⟩, W17⟩ := q17
    have z17 := Eq.symm k17
    have z17 : n0 = n17 := z17
    subst z17
    have W17 : ∀ a, (a < y ∨ y + 13 ≤ a) → h17 a = h0 a := fun a ha => (W17 a ha).trans (W2 a ha)
    rw [ls_S_7, hd_M_q hhz hK hτ] at G17 K17
    have ht1 : d < mk_tr (hd_M (lk_B M d) d (df_t M d) M) := by rw [show mk_tr (hd_M (lk_B M d) d (df_t M d) M) = mk_tr M from (hd_r_p _ _ _ _ _ _).2.1]; exact hd
    generalize hM1 : hd_M (lk_B M d) d (df_t M d) M = M1 at *
    have hD : ∀ h g, Gr g (df_e M1 d) → Mo G h y (mo_sg (ls_S S M d) g) → (∀ a, (a < y ∨ y + 13 ≤ a) → h a = h0 a) → (hp_vq (fun τ => τ.1 = n0 ∧ (∃ S2, Mo G τ.2 y S2 ∧ Gr (S2.1 0) (df_M M d) ∧ mo_wk S S2 ∧ S2.2 3 = S.2 3) ∧ ∀ a, (a < y ∨ y + 13 ≤ a) → τ.2 a = h0 a)) (.inl none) (n0, h) := fun h g g1 g2 g3 => ⟨rfl, rfl, ⟨_, g2, (by unfold df_M; rw [hM1]; exact g1), (mo_wk.rf S).ls.sg, (show (ls_S S M d).2 3 = S.2 3 by unfold ls_S; split <;> rfl)⟩, g3⟩
    refine v_aload_n C dX8_defaults_20 rfl ?_
    refine v_iload_n C dX8_defaults_21 rfl ?_
    refine v_iconst (v := nI 0) C dX8_defaults_22 (by decide) ?_
    refine v_callVi C (c_X8_of hl Y17 (i := d) (k := 0) (by omega) (by decide)) dX8_defaults_23 mX8_of rfl Y17.o rfl wd7_117 rfl rfl (Nat.le_of_ble_eq_true rfl) (hp_rmle hRm (by decide) (by decide)) (Nat.le_of_ble_eq_true rfl) (Nat.le_of_ble_eq_true rfl) ?_
    rw [mo_sg_0, G17.of0 ht1]
    refine v_istore_n C dX8_defaults_26 (by decide) ?_
    refine v_iload_n C dX8_defaults_27 rfl ?_
    refine v_if_ge (tgt := 40) C dX8_defaults_28 (by decide) (fun c28 => ?_) (fun c28 => ?_)
    · have hm : 0 ≤ mk_ar M1 3 d := c28
      refine v_iconst (v := nI 0) C dX8_defaults_40 (by decide) ?_
      refine v_goto (tgt := 66) C dX8_defaults_41 (by decide) ?_
      refine v_istore C dX8_defaults_66 (by decide) ?_
      refine v_iload_n C dX8_defaults_68 rfl ?_
      refine v_if_lt (tgt := 85) C dX8_defaults_69 (by decide) (fun c69 => absurd c69 (Int32.not_lt.mpr hm)) (fun c69 => ?_)
      refine v_aload_n C dX8_defaults_72 rfl ?_
      refine v_get C 0 dX8_defaults_73 wd6_237 Y17.o rfl (by decide) ⟨rfl, rfl, rfl⟩ rfl ?_
      refine v_iconst (v := nI 4) C dX8_defaults_76 (by decide) ?_
      refine v_dup2 C dX8_defaults_77 rfl rfl ?_
      refine v_ialdN C dX8_defaults_78 Y17.a0 (by omega) (by decide) ?_
      rw [mo_sg_0, G17.g4]
      refine v_iload_n C dX8_defaults_79 rfl ?_
      refine v_iadd C dX8_defaults_80 ?_
      refine v_iastN C dX8_defaults_81 (by omega) Y17.a0 (by omega) (by decide) (fun h81 e81 g81 => ?_)
      have Y81 := Y17.s0 e81 g81
      have W81 : ∀ a, (a < y ∨ y + 13 ≤ a) → h81 a = h0 a := fun a ha => (g81 a (by omega)).trans (W17 a ha)
      have X81 := Y81.to mo_sg_sa
      have G81 := G17.ufu (mk_fu M1 + mk_ar M1 3 d)
      refine v_goto (tgt := 110) C dX8_defaults_82 (by decide) ?_
      exact tail_X8_defaults C E hRm hl hbase (S2 := ls_S S M d) (M1 := M1) hd ht1 hD (show Gr _ (df_a M1 (mk_ar M1 3 d)) by unfold df_a; rw [if_pos hm]; exact G81) X81 W81
    · have hm : ¬ 0 ≤ mk_ar M1 3 d := c28
      refine v_aload_n C dX8_defaults_31 rfl ?_
      refine v_get C 0 dX8_defaults_32 wd6_237 Y17.o rfl (by decide) ⟨rfl, rfl, rfl⟩ rfl ?_
      refine v_iconst (v := nI 4) C dX8_defaults_35 (by decide) ?_
      refine v_ialdN C dX8_defaults_36 Y17.a0 (by omega) (by decide) ?_
      rw [mo_sg_0, G17.g4]
      refine v_if_ne (tgt := 44) C dX8_defaults_37 (by decide) (fun c37 => ?_) (fun c37 => ?_)
      · refine v_iload_n C dX8_defaults_44 rfl ?_
        refine v_ineg C dX8_defaults_45 ?_
        refine v_aload_n C dX8_defaults_46 rfl ?_
        refine v_get C 0 dX8_defaults_47 wd6_237 Y17.o rfl (by decide) ⟨rfl, rfl, rfl⟩ rfl ?_
        refine v_iconst (v := nI 4) C dX8_defaults_50 (by decide) ?_
        refine v_ialdN C dX8_defaults_51 Y17.a0 (by omega) (by decide) ?_
        rw [mo_sg_0, G17.g4]
        refine v_icmp_ge (tgt := 60) C dX8_defaults_52 (by decide) (fun c52 => ?_) (fun c52 => ?_)
        · have hp : mk_fu M1 = df_p M1 (mk_ar M1 3 d) := ((if_neg c37).trans (if_neg (fun z => Int32.not_lt.mpr c52 z))).symm
          refine v_aload_n C dX8_defaults_60 rfl ?_
          refine v_get C 0 dX8_defaults_61 wd6_237 Y17.o rfl (by decide) ⟨rfl, rfl, rfl⟩ rfl ?_
          refine v_iconst (v := nI 4) C dX8_defaults_64 (by decide) ?_
          refine v_ialdN C dX8_defaults_65 Y17.a0 (by omega) (by decide) ?_
          rw [mo_sg_0, G17.g4]
          refine v_istore C dX8_defaults_66 (by decide) ?_
          refine v_iload_n C dX8_defaults_68 rfl ?_
          refine v_if_lt (tgt := 85) C dX8_defaults_69 (by decide) (fun c69 => ?_) (fun c69 => absurd c69 (fun z => c69 (Int32.not_le.mp hm)))
          refine v_aload_n C dX8_defaults_85 rfl ?_
          refine v_get C 0 dX8_defaults_86 wd6_237 Y17.o rfl (by decide) ⟨rfl, rfl, rfl⟩ rfl ?_
          refine v_iconst (v := nI 4) C dX8_defaults_89 (by decide) ?_
          refine v_dup2 C dX8_defaults_90 rfl rfl ?_
          refine v_ialdN C dX8_defaults_91 Y17.a0 (by omega) (by decide) ?_
          rw [mo_sg_0, G17.g4]
          refine v_iload C dX8_defaults_92 rfl ?_
          refine v_isub C dX8_defaults_94 ?_
          refine v_iastN C dX8_defaults_95 (by omega) Y17.a0 (by omega) (by decide) (fun h95 e95 g95 => ?_)
          have Y95 := Y17.s0 e95 g95
          have W95 : ∀ a, (a < y ∨ y + 13 ≤ a) → h95 a = h0 a := fun a ha => (g95 a (by omega)).trans (W17 a ha)
          have X95 := Y95.to mo_sg_sa
          have G95 := G17.ufu (mk_fu M1 - mk_fu M1)
          refine v_aload_n C dX8_defaults_96 rfl ?_
          refine v_get C 0 dX8_defaults_97 wd6_237 X95.o rfl (by decide) ⟨rfl, rfl, rfl⟩ rfl ?_
          refine v_iconst (v := nI 5) C dX8_defaults_100 (by decide) ?_
          refine v_dup2 C dX8_defaults_101 rfl rfl ?_
          refine v_ialdN C dX8_defaults_102 X95.a0 (by omega) (by decide) ?_
          rw [mo_sg_0, pk_un (by decide), G17.g5]
          refine v_iload_n C dX8_defaults_103 rfl ?_
          refine v_ineg C dX8_defaults_104 ?_
          refine v_iload C dX8_defaults_105 rfl ?_
          refine v_isub C dX8_defaults_107 ?_
          refine v_iadd C dX8_defaults_108 ?_
          refine v_iastN C dX8_defaults_109 (by omega) X95.a0 (by omega) (by decide) (fun h109 e109 g109 => ?_)
          have Y109 := X95.s0 e109 g109
          have W109 : ∀ a, (a < y ∨ y + 13 ≤ a) → h109 a = h0 a := fun a ha => (g109 a (by omega)).trans (W95 a ha)
          have X109 := Y109.to mo_sg_sa
          have G109 := G95.ulo (mk_lo M1 + (-mk_ar M1 3 d - mk_fu M1))
          exact tail_X8_defaults C E hRm hl hbase (S2 := ls_S S M d) (M1 := M1) hd ht1 hD (show Gr _ (df_a M1 (mk_ar M1 3 d)) by unfold df_a; rw [if_neg hm, ← hp]; exact G109) X109 W109
        · have hp : -mk_ar M1 3 d = df_p M1 (mk_ar M1 3 d) := ((if_neg c37).trans (if_pos (Int32.not_le.mp c52))).symm
          refine v_iload_n C dX8_defaults_55 rfl ?_
          refine v_ineg C dX8_defaults_56 ?_
          refine v_goto (tgt := 66) C dX8_defaults_57 (by decide) ?_
          refine v_istore C dX8_defaults_66 (by decide) ?_
          refine v_iload_n C dX8_defaults_68 rfl ?_
          refine v_if_lt (tgt := 85) C dX8_defaults_69 (by decide) (fun c69 => ?_) (fun c69 => absurd c69 (fun z => c69 (Int32.not_le.mp hm)))
          refine v_aload_n C dX8_defaults_85 rfl ?_
          refine v_get C 0 dX8_defaults_86 wd6_237 Y17.o rfl (by decide) ⟨rfl, rfl, rfl⟩ rfl ?_
          refine v_iconst (v := nI 4) C dX8_defaults_89 (by decide) ?_
          refine v_dup2 C dX8_defaults_90 rfl rfl ?_
          refine v_ialdN C dX8_defaults_91 Y17.a0 (by omega) (by decide) ?_
          rw [mo_sg_0, G17.g4]
          refine v_iload C dX8_defaults_92 rfl ?_
          refine v_isub C dX8_defaults_94 ?_
          refine v_iastN C dX8_defaults_95 (by omega) Y17.a0 (by omega) (by decide) (fun h95 e95 g95 => ?_)
          have Y95 := Y17.s0 e95 g95
          have W95 : ∀ a, (a < y ∨ y + 13 ≤ a) → h95 a = h0 a := fun a ha => (g95 a (by omega)).trans (W17 a ha)
          have X95 := Y95.to mo_sg_sa
          have G95 := G17.ufu (mk_fu M1 - -mk_ar M1 3 d)
          refine v_aload_n C dX8_defaults_96 rfl ?_
          refine v_get C 0 dX8_defaults_97 wd6_237 X95.o rfl (by decide) ⟨rfl, rfl, rfl⟩ rfl ?_
          refine v_iconst (v := nI 5) C dX8_defaults_100 (by decide) ?_
          refine v_dup2 C dX8_defaults_101 rfl rfl ?_
          refine v_ialdN C dX8_defaults_102 X95.a0 (by omega) (by decide) ?_
          rw [mo_sg_0, pk_un (by decide), G17.g5]
          refine v_iload_n C dX8_defaults_103 rfl ?_
          refine v_ineg C dX8_defaults_104 ?_
          refine v_iload C dX8_defaults_105 rfl ?_
          refine v_isub C dX8_defaults_107 ?_
          refine v_iadd C dX8_defaults_108 ?_
          refine v_iastN C dX8_defaults_109 (by omega) X95.a0 (by omega) (by decide) (fun h109 e109 g109 => ?_)
          have Y109 := X95.s0 e109 g109
          have W109 : ∀ a, (a < y ∨ y + 13 ≤ a) → h109 a = h0 a := fun a ha => (g109 a (by omega)).trans (W95 a ha)
          have X109 := Y109.to mo_sg_sa
          have G109 := G95.ulo (mk_lo M1 + (-mk_ar M1 3 d - -mk_ar M1 3 d))
          exact tail_X8_defaults C E hRm hl hbase (S2 := ls_S S M d) (M1 := M1) hd ht1 hD (show Gr _ (df_a M1 (mk_ar M1 3 d)) by unfold df_a; rw [if_neg hm, ← hp]; exact G109) X109 W109
      · have hp : nI 0 = df_p M1 (mk_ar M1 3 d) := (if_pos c37).symm
        refine v_iconst (v := nI 0) C dX8_defaults_40 (by decide) ?_
        refine v_goto (tgt := 66) C dX8_defaults_41 (by decide) ?_
        refine v_istore C dX8_defaults_66 (by decide) ?_
        refine v_iload_n C dX8_defaults_68 rfl ?_
        refine v_if_lt (tgt := 85) C dX8_defaults_69 (by decide) (fun c69 => ?_) (fun c69 => absurd c69 (fun z => c69 (Int32.not_le.mp hm)))
        refine v_aload_n C dX8_defaults_85 rfl ?_
        refine v_get C 0 dX8_defaults_86 wd6_237 Y17.o rfl (by decide) ⟨rfl, rfl, rfl⟩ rfl ?_
        refine v_iconst (v := nI 4) C dX8_defaults_89 (by decide) ?_
        refine v_dup2 C dX8_defaults_90 rfl rfl ?_
        refine v_ialdN C dX8_defaults_91 Y17.a0 (by omega) (by decide) ?_
        rw [mo_sg_0, G17.g4]
        refine v_iload C dX8_defaults_92 rfl ?_
        refine v_isub C dX8_defaults_94 ?_
        refine v_iastN C dX8_defaults_95 (by omega) Y17.a0 (by omega) (by decide) (fun h95 e95 g95 => ?_)
        have Y95 := Y17.s0 e95 g95
        have W95 : ∀ a, (a < y ∨ y + 13 ≤ a) → h95 a = h0 a := fun a ha => (g95 a (by omega)).trans (W17 a ha)
        have X95 := Y95.to mo_sg_sa
        have G95 := G17.ufu (mk_fu M1 - nI 0)
        refine v_aload_n C dX8_defaults_96 rfl ?_
        refine v_get C 0 dX8_defaults_97 wd6_237 X95.o rfl (by decide) ⟨rfl, rfl, rfl⟩ rfl ?_
        refine v_iconst (v := nI 5) C dX8_defaults_100 (by decide) ?_
        refine v_dup2 C dX8_defaults_101 rfl rfl ?_
        refine v_ialdN C dX8_defaults_102 X95.a0 (by omega) (by decide) ?_
        rw [mo_sg_0, pk_un (by decide), G17.g5]
        refine v_iload_n C dX8_defaults_103 rfl ?_
        refine v_ineg C dX8_defaults_104 ?_
        refine v_iload C dX8_defaults_105 rfl ?_
        refine v_isub C dX8_defaults_107 ?_
        refine v_iadd C dX8_defaults_108 ?_
        refine v_iastN C dX8_defaults_109 (by omega) X95.a0 (by omega) (by decide) (fun h109 e109 g109 => ?_)
        have Y109 := X95.s0 e109 g109
        have W109 : ∀ a, (a < y ∨ y + 13 ≤ a) → h109 a = h0 a := fun a ha => (g109 a (by omega)).trans (W95 a ha)
        have X109 := Y109.to mo_sg_sa
        have G109 := G95.ulo (mk_lo M1 + (-mk_ar M1 3 d - nI 0))
        exact tail_X8_defaults C E hRm hl hbase (S2 := ls_S S M d) (M1 := M1) hd ht1 hD (show Gr _ (df_a M1 (mk_ar M1 3 d)) by unfold df_a; rw [if_neg hm, ← hp]; exact G109) X109 W109
  · have hτ : nI 1 = df_t M d := (if_neg c9).symm
    refine v_iconst (v := nI 1) C dX8_defaults_12 (by decide) ?_
    refine v_goto (tgt := 17) C dX8_defaults_13 (by decide) ?_
    refine v_callVv C (c_X8_hands hl X2 hg hK (d := d) (nI 1)) dX8_defaults_17 mX8_hands rfl X2.o rfl wd7_188 rfl rfl (Nat.le_of_ble_eq_true rfl) (hp_rmle hRm (by decide) (by decide)) (Nat.le_of_ble_eq_true rfl) (Nat.le_of_ble_eq_true rfl) (fun n17 h17 q17 => ?_)
    obtain ⟨k17, ⟨g17, G17, K17, Y17⟩, W17⟩ := q17
    have z17 := Eq.symm k17
    have z17 : n0 = n17 := z17
    subst z17
    have W17 : ∀ a, (a < y ∨ y + 13 ≤ a) → h17 a = h0 a := fun a ha => (W17 a ha).trans (W2 a ha)
    rw [ls_S_7, hd_M_q hhz hK hτ] at G17 K17
    have ht1 : d < mk_tr (hd_M (lk_B M d) d (df_t M d) M) := by rw [show mk_tr (hd_M (lk_B M d) d (df_t M d) M) = mk_tr M from (hd_r_p _ _ _ _ _ _).2.1]; exact hd
    generalize hM1 : hd_M (lk_B M d) d (df_t M d) M = M1 at *
    have hD : ∀ h g, Gr g (df_e M1 d) → Mo G h y (mo_sg (ls_S S M d) g) → (∀ a, (a < y ∨ y + 13 ≤ a) → h a = h0 a) → (hp_vq (fun τ => τ.1 = n0 ∧ (∃ S2, Mo G τ.2 y S2 ∧ Gr (S2.1 0) (df_M M d) ∧ mo_wk S S2 ∧ S2.2 3 = S.2 3) ∧ ∀ a, (a < y ∨ y + 13 ≤ a) → τ.2 a = h0 a)) (.inl none) (n0, h) := fun h g g1 g2 g3 => ⟨rfl, rfl, ⟨_, g2, (by unfold df_M; rw [hM1]; exact g1), (mo_wk.rf S).ls.sg, (show (ls_S S M d).2 3 = S.2 3 by unfold ls_S; split <;> rfl)⟩, g3⟩
    refine v_aload_n C dX8_defaults_20 rfl ?_
    refine v_iload_n C dX8_defaults_21 rfl ?_
    refine v_iconst (v := nI 0) C dX8_defaults_22 (by decide) ?_
    refine v_callVi C (c_X8_of hl Y17 (i := d) (k := 0) (by omega) (by decide)) dX8_defaults_23 mX8_of rfl Y17.o rfl wd7_117 rfl rfl (Nat.le_of_ble_eq_true rfl) (hp_rmle hRm (by decide) (by decide)) (Nat.le_of_ble_eq_true rfl) (Nat.le_of_ble_eq_true rfl) ?_
    rw [mo_sg_0, G17.of0 ht1]
    refine v_istore_n C dX8_defaults_26 (by decide) ?_
    refine v_iload_n C dX8_defaults_27 rfl ?_
    refine v_if_ge (tgt := 40) C dX8_defaults_28 (by decide) (fun c28 => ?_) (fun c28 => ?_)
    · have hm : 0 ≤ mk_ar M1 3 d := c28
      refine v_iconst (v := nI 0) C dX8_defaults_40 (by decide) ?_
      refine v_goto (tgt := 66) C dX8_defaults_41 (by decide) ?_
      refine v_istore C dX8_defaults_66 (by decide) ?_
      refine v_iload_n C dX8_defaults_68 rfl ?_
      refine v_if_lt (tgt := 85) C dX8_defaults_69 (by decide) (fun c69 => absurd c69 (Int32.not_lt.mpr hm)) (fun c69 => ?_)
      refine v_aload_n C dX8_defaults_72 rfl ?_
      refine v_get C 0 dX8_defaults_73 wd6_237 Y17.o rfl (by decide) ⟨rfl, rfl, rfl⟩ rfl ?_
      refine v_iconst (v := nI 4) C dX8_defaults_76 (by decide) ?_
      refine v_dup2 C dX8_defaults_77 rfl rfl ?_
      refine v_ialdN C dX8_defaults_78 Y17.a0 (by omega) (by decide) ?_
      rw [mo_sg_0, G17.g4]
      refine v_iload_n C dX8_defaults_79 rfl ?_
      refine v_iadd C dX8_defaults_80 ?_
      refine v_iastN C dX8_defaults_81 (by omega) Y17.a0 (by omega) (by decide) (fun h81 e81 g81 => ?_)
      have Y81 := Y17.s0 e81 g81
      have W81 : ∀ a, (a < y ∨ y + 13 ≤ a) → h81 a = h0 a := fun a ha => (g81 a (by omega)).trans (W17 a ha)
      have X81 := Y81.to mo_sg_sa
      have G81 := G17.ufu (mk_fu M1 + mk_ar M1 3 d)
      refine v_goto (tgt := 110) C dX8_defaults_82 (by decide) ?_
      exact tail_X8_defaults C E hRm hl hbase (S2 := ls_S S M d) (M1 := M1) hd ht1 hD (show Gr _ (df_a M1 (mk_ar M1 3 d)) by unfold df_a; rw [if_pos hm]; exact G81) X81 W81
    · have hm : ¬ 0 ≤ mk_ar M1 3 d := c28
      refine v_aload_n C dX8_defaults_31 rfl ?_
      refine v_get C 0 dX8_defaults_32 wd6_237 Y17.o rfl (by decide) ⟨rfl, rfl, rfl⟩ rfl ?_
      refine v_iconst (v := nI 4) C dX8_defaults_35 (by decide) ?_
      refine v_ialdN C dX8_defaults_36 Y17.a0 (by omega) (by decide) ?_
      rw [mo_sg_0, G17.g4]
      refine v_if_ne (tgt := 44) C dX8_defaults_37 (by decide) (fun c37 => ?_) (fun c37 => ?_)
      · refine v_iload_n C dX8_defaults_44 rfl ?_
        refine v_ineg C dX8_defaults_45 ?_
        refine v_aload_n C dX8_defaults_46 rfl ?_
        refine v_get C 0 dX8_defaults_47 wd6_237 Y17.o rfl (by decide) ⟨rfl, rfl, rfl⟩ rfl ?_
        refine v_iconst (v := nI 4) C dX8_defaults_50 (by decide) ?_
        refine v_ialdN C dX8_defaults_51 Y17.a0 (by omega) (by decide) ?_
        rw [mo_sg_0, G17.g4]
        refine v_icmp_ge (tgt := 60) C dX8_defaults_52 (by decide) (fun c52 => ?_) (fun c52 => ?_)
        · have hp : mk_fu M1 = df_p M1 (mk_ar M1 3 d) := ((if_neg c37).trans (if_neg (fun z => Int32.not_lt.mpr c52 z))).symm
          refine v_aload_n C dX8_defaults_60 rfl ?_
          refine v_get C 0 dX8_defaults_61 wd6_237 Y17.o rfl (by decide) ⟨rfl, rfl, rfl⟩ rfl ?_
          refine v_iconst (v := nI 4) C dX8_defaults_64 (by decide) ?_
          refine v_ialdN C dX8_defaults_65 Y17.a0 (by omega) (by decide) ?_
          rw [mo_sg_0, G17.g4]
          refine v_istore C dX8_defaults_66 (by decide) ?_
          refine v_iload_n C dX8_defaults_68 rfl ?_
          refine v_if_lt (tgt := 85) C dX8_defaults_69 (by decide) (fun c69 => ?_) (fun c69 => absurd c69 (fun z => c69 (Int32.not_le.mp hm)))
          refine v_aload_n C dX8_defaults_85 rfl ?_
          refine v_get C 0 dX8_defaults_86 wd6_237 Y17.o rfl (by decide) ⟨rfl, rfl, rfl⟩ rfl ?_
          refine v_iconst (v := nI 4) C dX8_defaults_89 (by decide) ?_
          refine v_dup2 C dX8_defaults_90 rfl rfl ?_
          refine v_ialdN C dX8_defaults_91 Y17.a0 (by omega) (by decide) ?_
          rw [mo_sg_0, G17.g4]
          refine v_iload C dX8_defaults_92 rfl ?_
          refine v_isub C dX8_defaults_94 ?_
          refine v_iastN C dX8_defaults_95 (by omega) Y17.a0 (by omega) (by decide) (fun h95 e95 g95 => ?_)
          have Y95 := Y17.s0 e95 g95
          have W95 : ∀ a, (a < y ∨ y + 13 ≤ a) → h95 a = h0 a := fun a ha => (g95 a (by omega)).trans (W17 a ha)
          have X95 := Y95.to mo_sg_sa
          have G95 := G17.ufu (mk_fu M1 - mk_fu M1)
          refine v_aload_n C dX8_defaults_96 rfl ?_
          refine v_get C 0 dX8_defaults_97 wd6_237 X95.o rfl (by decide) ⟨rfl, rfl, rfl⟩ rfl ?_
          refine v_iconst (v := nI 5) C dX8_defaults_100 (by decide) ?_
          refine v_dup2 C dX8_defaults_101 rfl rfl ?_
          refine v_ialdN C dX8_defaults_102 X95.a0 (by omega) (by decide) ?_
          rw [mo_sg_0, pk_un (by decide), G17.g5]
          refine v_iload_n C dX8_defaults_103 rfl ?_
          refine v_ineg C dX8_defaults_104 ?_
          refine v_iload C dX8_defaults_105 rfl ?_
          refine v_isub C dX8_defaults_107 ?_
          refine v_iadd C dX8_defaults_108 ?_
          refine v_iastN C dX8_defaults_109 (by omega) X95.a0 (by omega) (by decide) (fun h109 e109 g109 => ?_)
          have Y109 := X95.s0 e109 g109
          have W109 : ∀ a, (a < y ∨ y + 13 ≤ a) → h109 a = h0 a := fun a ha => (g109 a (by omega)).trans (W95 a ha)
          have X109 := Y109.to mo_sg_sa
          have G109 := G95.ulo (mk_lo M1 + (-mk_ar M1 3 d - mk_fu M1))
          exact tail_X8_defaults C E hRm hl hbase (S2 := ls_S S M d) (M1 := M1) hd ht1 hD (show Gr _ (df_a M1 (mk_ar M1 3 d)) by unfold df_a; rw [if_neg hm, ← hp]; exact G109) X109 W109
        · have hp : -mk_ar M1 3 d = df_p M1 (mk_ar M1 3 d) := ((if_neg c37).trans (if_pos (Int32.not_le.mp c52))).symm
          refine v_iload_n C dX8_defaults_55 rfl ?_
          refine v_ineg C dX8_defaults_56 ?_
          refine v_goto (tgt := 66) C dX8_defaults_57 (by decide) ?_
          refine v_istore C dX8_defaults_66 (by decide) ?_
          refine v_iload_n C dX8_defaults_68 rfl ?_
          refine v_if_lt (tgt := 85) C dX8_defaults_69 (by decide) (fun c69 => ?_) (fun c69 => absurd c69 (fun z => c69 (Int32.not_le.mp hm)))
          refine v_aload_n C dX8_defaults_85 rfl ?_
          refine v_get C 0 dX8_defaults_86 wd6_237 Y17.o rfl (by decide) ⟨rfl, rfl, rfl⟩ rfl ?_
          refine v_iconst (v := nI 4) C dX8_defaults_89 (by decide) ?_
          refine v_dup2 C dX8_defaults_90 rfl rfl ?_
          refine v_ialdN C dX8_defaults_91 Y17.a0 (by omega) (by decide) ?_
          rw [mo_sg_0, G17.g4]
          refine v_iload C dX8_defaults_92 rfl ?_
          refine v_isub C dX8_defaults_94 ?_
          refine v_iastN C dX8_defaults_95 (by omega) Y17.a0 (by omega) (by decide) (fun h95 e95 g95 => ?_)
          have Y95 := Y17.s0 e95 g95
          have W95 : ∀ a, (a < y ∨ y + 13 ≤ a) → h95 a = h0 a := fun a ha => (g95 a (by omega)).trans (W17 a ha)
          have X95 := Y95.to mo_sg_sa
          have G95 := G17.ufu (mk_fu M1 - -mk_ar M1 3 d)
          refine v_aload_n C dX8_defaults_96 rfl ?_
          refine v_get C 0 dX8_defaults_97 wd6_237 X95.o rfl (by decide) ⟨rfl, rfl, rfl⟩ rfl ?_
          refine v_iconst (v := nI 5) C dX8_defaults_100 (by decide) ?_
          refine v_dup2 C dX8_defaults_101 rfl rfl ?_
          refine v_ialdN C dX8_defaults_102 X95.a0 (by omega) (by decide) ?_
          rw [mo_sg_0, pk_un (by decide), G17.g5]
          refine v_iload_n C dX8_defaults_103 rfl ?_
          refine v_ineg C dX8_defaults_104 ?_
          refine v_iload C dX8_defaults_105 rfl ?_
          refine v_isub C dX8_defaults_107 ?_
          refine v_iadd C dX8_defaults_108 ?_
          refine v_iastN C dX8_defaults_109 (by omega) X95.a0 (by omega) (by decide) (fun h109 e109 g109 => ?_)
          have Y109 := X95.s0 e109 g109
          have W109 : ∀ a, (a < y ∨ y + 13 ≤ a) → h109 a = h0 a := fun a ha => (g109 a (by omega)).trans (W95 a ha)
          have X109 := Y109.to mo_sg_sa
          have G109 := G95.ulo (mk_lo M1 + (-mk_ar M1 3 d - -mk_ar M1 3 d))
          exact tail_X8_defaults C E hRm hl hbase (S2 := ls_S S M d) (M1 := M1) hd ht1 hD (show Gr _ (df_a M1 (mk_ar M1 3 d)) by unfold df_a; rw [if_neg hm, ← hp]; exact G109) X109 W109
      · have hp : nI 0 = df_p M1 (mk_ar M1 3 d) := (if_pos c37).symm
        refine v_iconst (v := nI 0) C dX8_defaults_40 (by decide) ?_
        refine v_goto (tgt := 66) C dX8_defaults_41 (by decide) ?_
        refine v_istore C dX8_defaults_66 (by decide) ?_
        refine v_iload_n C dX8_defaults_68 rfl ?_
        refine v_if_lt (tgt := 85) C dX8_defaults_69 (by decide) (fun c69 => ?_) (fun c69 => absurd c69 (fun z => c69 (Int32.not_le.mp hm)))
        refine v_aload_n C dX8_defaults_85 rfl ?_
        refine v_get C 0 dX8_defaults_86 wd6_237 Y17.o rfl (by decide) ⟨rfl, rfl, rfl⟩ rfl ?_
        refine v_iconst (v := nI 4) C dX8_defaults_89 (by decide) ?_
        refine v_dup2 C dX8_defaults_90 rfl rfl ?_
        refine v_ialdN C dX8_defaults_91 Y17.a0 (by omega) (by decide) ?_
        rw [mo_sg_0, G17.g4]
        refine v_iload C dX8_defaults_92 rfl ?_
        refine v_isub C dX8_defaults_94 ?_
        refine v_iastN C dX8_defaults_95 (by omega) Y17.a0 (by omega) (by decide) (fun h95 e95 g95 => ?_)
        have Y95 := Y17.s0 e95 g95
        have W95 : ∀ a, (a < y ∨ y + 13 ≤ a) → h95 a = h0 a := fun a ha => (g95 a (by omega)).trans (W17 a ha)
        have X95 := Y95.to mo_sg_sa
        have G95 := G17.ufu (mk_fu M1 - nI 0)
        refine v_aload_n C dX8_defaults_96 rfl ?_
        refine v_get C 0 dX8_defaults_97 wd6_237 X95.o rfl (by decide) ⟨rfl, rfl, rfl⟩ rfl ?_
        refine v_iconst (v := nI 5) C dX8_defaults_100 (by decide) ?_
        refine v_dup2 C dX8_defaults_101 rfl rfl ?_
        refine v_ialdN C dX8_defaults_102 X95.a0 (by omega) (by decide) ?_
        rw [mo_sg_0, pk_un (by decide), G17.g5]
        refine v_iload_n C dX8_defaults_103 rfl ?_
        refine v_ineg C dX8_defaults_104 ?_
        refine v_iload C dX8_defaults_105 rfl ?_
        refine v_isub C dX8_defaults_107 ?_
        refine v_iadd C dX8_defaults_108 ?_
        refine v_iastN C dX8_defaults_109 (by omega) X95.a0 (by omega) (by decide) (fun h109 e109 g109 => ?_)
        have Y109 := X95.s0 e109 g109
        have W109 : ∀ a, (a < y ∨ y + 13 ≤ a) → h109 a = h0 a := fun a ha => (g109 a (by omega)).trans (W95 a ha)
        have X109 := Y109.to mo_sg_sa
        have G109 := G95.ulo (mk_lo M1 + (-mk_ar M1 3 d - nI 0))
        exact tail_X8_defaults C E hRm hl hbase (S2 := ls_S S M d) (M1 := M1) hd ht1 hD (show Gr _ (df_a M1 (mk_ar M1 3 d)) by unfold df_a; rw [if_neg hm, ← hp]; exact G109) X109 W109

/-! ===== PURE: the market behind a default ===== -/
abbrev gd_b (M : mk_T) (d : Nat) (b : Int32 × (Nat → Nat)) : Prop := b.1 = 1000000000 ∨ ∀ h, h < mk_hz M → ¬ zp M d h → gd M d (b.2 h)
theorem sr_gd {M : mk_T} (H : Ic M) {d : Nat} : ∀ k h free D (b : Int32 × (Nat → Nat)), h + k = mk_hz M → free < 64 → (∀ c, c < 6 → ¬ free / 2 ^ c % 2 = 0 → gd M d c) → (∀ i, i < h → ¬ zp M d i → gd M d (D i)) → gd_b M d b → gd_b M d (sr (sF M d) M d k h free D b)
  | 0, h, free, D, b, hh, hf, hg, hD, hb => by
    show gd_b M d (if sS M d D < b.1 then (sS M d D, D) else b)
    split
    · exact Or.inr (fun i hi hz => hD i (by omega) hz)
    · exact hb
  | k + 1, h, free, D, b, hh, hf, hg, hD, hb => by
    have h6 := H.1.2.1
    unfold sr
    by_cases z : zp M d h
    · rw [if_pos z]
      refine sr_gd H k (h + 1) free _ b (by omega) hf hg (fun i hi hz => ?_) hb
      have q : i ≠ h := fun y => hz (y ▸ z)
      rw [show va_up D h 0 i = D i from if_neg q]
      exact hD i (by omega) hz
    · rw [if_neg z]
      have inv : ∀ n, n ≤ mk_tr M → gd_b M d (tk_lp (fun c b => if free / 2 ^ c % 2 = 0 then b else sr (sF M d) M d k (h + 1) (free ^^^ 2 ^ c) (va_up D h c) b) n b) := by
        intro n
        induction n with
        | zero => exact fun _ => hb
        | succ n ih =>
          intro hn
          show gd_b M d (if free / 2 ^ n % 2 = 0 then _ else _)
          by_cases y : free / 2 ^ n % 2 = 0
          · rw [if_pos y]
            exact ih (by omega)
          · rw [if_neg y]
            refine sr_gd H k (h + 1) _ _ _ (by omega) (Nat.xor_lt_two_pow (n := 6) hf (Nat.pow_lt_pow_right (by decide) (by omega))) (fun c hc hbc => hg c hc (fun u => hbc ((tb_xo free hf n (by omega) y c hc).mpr (Or.inl u)))) (fun i hi hz => ?_) (ih (by omega))
            by_cases q : i = h
            · subst q
              rw [show va_up D i n i = n from if_pos rfl]
              exact hg n (by omega) y
            · rw [show va_up D h n i = D i from if_neg q]
              exact hD i (by omega) hz
      exact inv _ (Nat.le_refl _)
theorem sB_gd {M : mk_T} (H : Ic M) {d : Nat} : gd_b M d (sB M d) := by
  have h6 := H.1.2.1
  refine sr_gd H (mk_hz M) 0 (tk_sd M d) _ _ (Nat.zero_add _) (tk_sd_lt h6) (fun c hc hb => ?_) (fun i hi => absurd hi (Nat.not_lt_zero _)) (Or.inl rfl)
  have := (so_bit (M := M) (d := d) h6 (mk_tr M) (Nat.le_refl _) c hc)
  exact Decidable.not_not.mp (fun k => hb (this.mpr k))
/-- the taker on a horizon, in both -/
theorem tkr {M : mk_T} (H : Ic M) {d h : Nat} (hd : d < mk_tr M) (hc : tk_can M d) (hh : h < mk_hz M) (z : ¬ zp M d h) : ∃ x, gd M d x ∧ tk_on M d (nI h) = nI x ∧ lk_B M d h = nI x := by
  obtain ⟨-, r2, r3, r4⟩ := res_lk H hd hc
  obtain ⟨e1, -, -, e2⟩ := r4 h hh z
  obtain ⟨b1, -⟩ := res_sB (d := d) H.1.1 H.1.2.1
  have hg := (sB_gd H (d := d)).resolve_left (fun y => by
    rw [b1, y] at r3
    exact absurd r3 (by decide))
  refine ⟨_, hg h hh z, ?_, e2⟩
  rw [on_e H hh, if_neg z, e1, e2]
theorem on_z {M : mk_T} (H : Ic M) {d h : Nat} (hh : h < mk_hz M) (z : zp M d h) : tk_on M d (nI h) = -1 := by
  rw [on_e H hh, if_pos z]
/-- a market whose contracts may be of a trader with itself -/
def Iw (M : mk_T) : Prop := (mk_hz M ≤ 4 ∧ mk_tr M ≤ 6 ∧ mk_ct M ≤ 20) ∧ (∀ i, i < mk_hz M → ∃ p u r, 1 ≤ p ∧ p ≤ 99 ∧ 1 ≤ u ∧ u ≤ 99 ∧ 1 ≤ r ∧ r ≤ 20 ∧ mk_ar M 0 i = nI p ∧ mk_ar M 1 i = nI u ∧ mk_ar M 2 i = nI r) ∧ (∀ c, c < mk_ct M → ∃ b s h q, b < mk_tr M ∧ s < mk_tr M ∧ h < mk_hz M ∧ 1 ≤ q ∧ q ≤ 20 ∧ mk_ar M 5 c = nI b ∧ mk_ar M 6 c = nI s ∧ mk_ar M 7 c = nI h ∧ mk_ar M 8 c = nI q) ∧ ∀ t, t < mk_tr M → mk_ar M 4 t = nI 0 ∨ mk_ar M 4 t = nI 1 ∨ mk_ar M 4 t = nI 2
theorem Iw.ic {M : mk_T} (H : Iw M) (h : ∀ i, i < mk_ct M → mk_ar M 5 i ≠ mk_ar M 6 i) : Ic M := ⟨H.1, H.2.1, fun c hc => by
  obtain ⟨b, s, x, q, h1, h2, h3, h4, h5, e5, e6, e7, e8⟩ := H.2.2.1 c hc
  exact ⟨b, s, x, q, h1, h2, fun z => h c hc (by rw [e5, e6, z]), h3, h4, h5, e5, e6, e7, e8⟩, H.2.2.2⟩
theorem Ic.iw {M : mk_T} (H : Ic M) : Iw M := ⟨H.1, H.2.1, fun c hc => by
  obtain ⟨b, s, x, q, h1, h2, _, h3, h4, h5, e5, e6, e7, e8⟩ := H.2.2.1 c hc
  exact ⟨b, s, x, q, h1, h2, h3, h4, h5, e5, e6, e7, e8⟩, H.2.2.2⟩
theorem rm_ar (M : mk_T) (c k i : Nat) : mk_ar (mk_rm M c) k i = if 5 ≤ k ∧ k < 10 ∧ c ≤ i ∧ i < mk_ct M - 1 then mk_ar M k (i + 1) else mk_ar M k i := rfl
theorem Iw.rm {M : mk_T} (H : Iw M) (c : Nat) : Iw (mk_rm M c) := by
  obtain ⟨⟨h1, h2, h3⟩, a, b, d⟩ := H
  refine ⟨⟨h1, h2, show mk_ct M - 1 ≤ 20 by omega⟩, fun i hi => ?_, fun i hi => ?_, fun t ht => ?_⟩
  · rw [rm_ar, rm_ar, rm_ar, if_neg (by omega), if_neg (by omega), if_neg (by omega)]
    exact a i hi
  · have hi : i < mk_ct M - 1 := hi
    rw [rm_ar, rm_ar, rm_ar, rm_ar]
    by_cases z : c ≤ i
    · rw [if_pos ⟨by omega, by omega, z, hi⟩, if_pos ⟨by omega, by omega, z, hi⟩, if_pos ⟨by omega, by omega, z, hi⟩, if_pos ⟨by omega, by omega, z, hi⟩]
      exact b (i + 1) (by omega)
    · rw [if_neg (by omega), if_neg (by omega), if_neg (by omega), if_neg (by omega)]
      exact b i (by omega)
  · rw [rm_ar, if_neg (by omega)]
    exact d t ht
theorem ic_eo {t : Int32} : ∀ c (A : mk_T), Iw A → c ≤ mk_ct A → (∀ i, c ≤ i → i < mk_ct A → mk_ar A 5 i ≠ mk_ar A 6 i) → Ic (mk_eo A t c)
  | 0, A, H, _, h => H.ic (fun i hi => h i (Nat.zero_le _) hi)
  | c + 1, A, H, hc, h => by
    unfold mk_eo
    by_cases z : (mk_ar A 5 c = t ∨ mk_ar A 6 c = t) ∨ mk_ar A 5 c = mk_ar A 6 c
    · rw [if_pos z]
      refine ic_eo c _ (H.rm c) (show c ≤ mk_ct A - 1 by omega) (fun i h1 h2 => ?_)
      have h2 : i < mk_ct A - 1 := h2
      rw [rm_ar, rm_ar, if_pos ⟨by omega, by omega, h1, h2⟩, if_pos ⟨by omega, by omega, h1, h2⟩]
      exact h (i + 1) (by omega) (by omega)
    · rw [if_neg z]
      refine ic_eo c _ H (by omega) (fun i h1 h2 => ?_)
      by_cases q : i = c
      · subst q
        exact fun y => z (Or.inr y)
      · exact h i (by omega) h2
theorem co_l_k {M : mk_T} (d : Nat) : ∀ n k i, ¬ (k = 5 ∨ k = 6) → mk_ar (co_l M d n) k i = mk_ar M k i
  | 0, k, i, _ => rfl
  | n + 1, k, i, hk => by
    unfold co_l
    split
    · exact co_l_k d n k i hk
    · rw [mk_rt_ar, if_neg (fun z => hk (Or.inl z.1)), if_neg (fun z => hk (Or.inr z.1))]
      exact co_l_k d n k i hk
theorem co_b_k {M : mk_T} {d k i : Nat} (hk : ¬ (k = 5 ∨ k = 6)) : mk_ar (co_b M d) k i = mk_ar M k i := by
  unfold co_b
  split
  · exact co_l_k d _ k i hk
  · rfl
theorem co_l_2 {M : mk_T} (d : Nat) : ∀ n, (co_l M d n).2.2 = M.2.2
  | 0 => rfl
  | n + 1 => by
    unfold co_l
    split
    · exact co_l_2 d n
    · exact co_l_2 d n
theorem co_b_2 {M : mk_T} {d : Nat} : (co_b M d).2.2 = M.2.2 := by
  unfold co_b
  split
  · exact co_l_2 d _
  · rfl
/-- buyer and seller after the take-over, by the contract's horizon -/
theorem co_b_5 {M : mk_T} (H : Ic M) {d i h : Nat} (hi : i < mk_ct M) (e7 : mk_ar M 7 i = nI h) (hh : h < mk_hz M) : (¬ tk_can M d ∨ zp M d h → mk_ar (co_b M d) 5 i = mk_ar M 5 i ∧ mk_ar (co_b M d) 6 i = mk_ar M 6 i) ∧ (tk_can M d → ¬ zp M d h → ¬ tk_on M d (nI h) = -1 → mk_ar (co_b M d) 5 i = (if mk_ar M 5 i = nI d then tk_on M d (nI h) else mk_ar M 5 i) ∧ mk_ar (co_b M d) 6 i = (if ¬ mk_ar M 5 i = nI d ∧ mk_ar M 6 i = nI d then tk_on M d (nI h) else mk_ar M 6 i)) := by
  have a5 := co_ar H (d := d) (mk_hz M) (Nat.le_refl _) 5 i hi h e7 hh
  have a6 := co_ar H (d := d) (mk_hz M) (Nat.le_refl _) 6 i hi h e7 hh
  unfold co_b
  constructor
  · intro z
    by_cases y : tk_nd M d ≤ tk_bc (tk_sd M d)
    · have z : zp M d h := z.resolve_left (fun k => k y)
      have on := on_z H hh z
      rw [if_pos y, a5, a6, if_neg (fun k => k.2.2.1 on), if_neg (fun k => k.2.2.1 on), if_neg (fun k => k.2.2.1 on), if_neg (fun k => k.2.2.1 on)]
      exact ⟨rfl, rfl⟩
    · rw [if_neg y]
      exact ⟨rfl, rfl⟩
  · intro y z on
    rw [if_pos y, a5, a6]
    constructor
    · by_cases u : mk_ar M 5 i = nI d
      · rw [if_pos ⟨rfl, hh, on, u⟩, if_pos u]
      · rw [if_neg (fun k => u k.2.2.2), if_neg (by omega), if_neg u]
    · rw [if_neg (by omega)]
      by_cases u : ¬ mk_ar M 5 i = nI d ∧ mk_ar M 6 i = nI d
      · rw [if_pos ⟨rfl, hh, on, u⟩, if_pos u]
      · rw [if_neg (fun k => u k.2.2.2), if_neg u]
theorem co_b_iw {M : mk_T} (H : Ic M) {d : Nat} (hd : d < mk_tr M) : Iw (co_b M d) := by
  have e1 := co_b_hz M d
  have ehz : mk_hz (co_b M d) = mk_hz M := congrArg (fun z => z.1) e1
  have etr : mk_tr (co_b M d) = mk_tr M := congrArg (fun z => z.2.1) e1
  have ect : mk_ct (co_b M d) = mk_ct M := congrArg (fun z => z.2.2) e1
  refine ⟨?_, fun i hi => ?_, fun i hi => ?_, fun t ht => ?_⟩
  · rw [ehz, etr, ect]
    exact H.1
  · rw [co_b_k (by omega), co_b_k (by omega), co_b_k (by omega)]
    exact H.2.1 i (by omega)
  · obtain ⟨b, s, h, q, h1, h2, h3, h4, h5, h6, e5, e6, e7, e8⟩ := H.2.2.1 i (by omega)
    obtain ⟨c1, c2⟩ := co_b_5 H (d := d) (by omega) e7 h4
    rw [co_b_k (k := 7) (by omega), co_b_k (k := 8) (by omega), ehz, etr]
    by_cases z : ¬ tk_can M d ∨ zp M d h
    · obtain ⟨g5, g6⟩ := c1 z
      exact ⟨b, s, h, q, h1, h2, h4, h5, h6, g5.trans e5, g6.trans e6, e7, e8⟩
    · have y1 : tk_can M d := Decidable.not_not.mp (fun k => z (Or.inl k))
      have y2 : ¬ zp M d h := fun k => z (Or.inr k)
      obtain ⟨x, gx, ox, -⟩ := tkr H hd y1 h4 y2
      have h6t := H.1.2.1
      have hx := gx.1
      obtain ⟨g5, g6⟩ := c2 y1 y2 (by rw [ox]; exact nI_m1 (by omega))
      rw [ox] at g5 g6
      refine ⟨if mk_ar M 5 i = nI d then x else b, if ¬ mk_ar M 5 i = nI d ∧ mk_ar M 6 i = nI d then x else s, h, q, ?_, ?_, h4, h5, h6, ?_, ?_, e7, e8⟩
      · split
        · exact hx
        · exact h1
      · split
        · exact hx
        · exact h2
      · rw [g5]
        split
        · rfl
        · exact e5
      · rw [g6]
        split
        · rfl
        · exact e6
  · rw [co_b_k (by omega)]
    exact H.2.2.2 t (by omega)
theorem ca_ar (A : mk_T) (d k i : Nat) : mk_ar (mk_ca A d) k i = if k = 4 ∧ i = d then nI 2 else if k = 3 ∧ i = d then nI 0 else mk_ar A k i := by
  rw [mk_st_ar, mk_st_ar]
  by_cases z : mk_ar A 3 d ≤ 0
  · rw [if_pos z]
  · rw [if_neg z]
theorem ca_1 (A : mk_T) (d : Nat) : (mk_ca A d).1 = A.1 := by
  show (if mk_ar A 3 d ≤ 0 then _ else _ : mk_T).1 = A.1
  split <;> rfl
theorem Ic.ca {A : mk_T} (H : Ic A) (d : Nat) : Ic (mk_ca A d) := by
  have e1 := ca_1 A d
  have ehz : mk_hz (mk_ca A d) = mk_hz A := congrArg (fun z => z.1) e1
  have etr : mk_tr (mk_ca A d) = mk_tr A := congrArg (fun z => z.2.1) e1
  have ect : mk_ct (mk_ca A d) = mk_ct A := congrArg (fun z => z.2.2) e1
  refine ⟨?_, fun i hi => ?_, fun i hi => ?_, fun t ht => ?_⟩
  · rw [ehz, etr, ect]
    exact H.1
  · rw [ca_ar, ca_ar, ca_ar, if_neg (by omega), if_neg (by omega), if_neg (by omega), if_neg (by omega), if_neg (by omega), if_neg (by omega)]
    exact H.2.1 i (by omega)
  · rw [ca_ar, ca_ar, ca_ar, ca_ar, if_neg (by omega), if_neg (by omega), if_neg (by omega), if_neg (by omega), if_neg (by omega), if_neg (by omega), if_neg (by omega), if_neg (by omega), ehz, etr]
    exact H.2.2.1 i (by omega)
  · rw [ca_ar]
    by_cases q : t = d
    · rw [if_pos ⟨rfl, q⟩]
      exact Or.inr (Or.inr rfl)
    · rw [if_neg (fun z => q z.2), if_neg (by omega)]
      exact H.2.2.2 t (by omega)
theorem ic_eob {M : mk_T} (H : Ic M) {d : Nat} (hd : d < mk_tr M) : Ic (mk_eo (co_b M d) (nI d) (mk_ct (co_b M d))) := ic_eo _ _ (co_b_iw H hd) (Nat.le_refl _) (fun i h1 h2 => absurd h2 (by omega))
theorem ic_cod {M : mk_T} (H : Ic M) {d : Nat} (hd : d < mk_tr M) : Ic (co_d M d) := (ic_eob H hd).ca d
/-! the contracts in the class and in the model -/
def Jr (M Y A B : mk_T) (c : Nat) : Prop := A.1 = B.1 ∧ A.2.2 = B.2.2 ∧ c ≤ mk_ct A ∧ (∀ k, k < 5 → ∀ i, mk_ar A k i = mk_ar B k i) ∧ (∀ k, 5 ≤ k → k < 10 → ∀ i, c ≤ i → i < mk_ct A → mk_ar A k i = mk_ar B k i) ∧ ∀ k, 5 ≤ k → k < 10 → ∀ i, i < c → mk_ar A k i = mk_ar Y k i ∧ mk_ar B k i = mk_ar M k i
/-- the same but for buyer and seller of the contract c -/
def Bo (B B2 : mk_T) (c : Nat) : Prop := B2.1 = B.1 ∧ B2.2.2 = B.2.2 ∧ ∀ k i, (i ≠ c ∨ (k ≠ 5 ∧ k ≠ 6)) → mk_ar B2 k i = mk_ar B k i
theorem Bo.rf (B : mk_T) (c : Nat) : Bo B B c := ⟨rfl, rfl, fun _ _ _ => rfl⟩
theorem Bo.st (B : mk_T) {c k : Nat} (hk : k = 5 ∨ k = 6) (v : Int32) : Bo B (mk_st B k c v) c := ⟨rfl, rfl, fun j i h => by rw [mk_st_ar, if_neg (by omega)]⟩
theorem Jr.rm {M Y A B B2 : mk_T} {c : Nat} (J : Jr M Y A B (c + 1)) (hb : Bo B B2 c) : Jr M Y (mk_rm A c) (mk_rm B2 c) c := by
  obtain ⟨j1, j2, j3, j4, j5, j6⟩ := J
  obtain ⟨b1, b2, b3⟩ := hb
  have ec : mk_ct B2 = mk_ct A := (congrArg (fun z => z.2.2) b1).trans (congrArg (fun z => z.2.2) j1).symm
  refine ⟨?_, j2.trans b2.symm, (show c ≤ mk_ct A - 1 by omega), fun k hk i => ?_, fun k h5 hk i h1 h2 => ?_, fun k h5 hk i hi => ?_⟩
  · show (mk_hz A, mk_tr A, mk_ct A - 1) = (mk_hz B2, mk_tr B2, mk_ct B2 - 1)
    rw [ec, show mk_hz B2 = mk_hz A from (congrArg (fun z => z.1) b1).trans (congrArg (fun z => z.1) j1).symm, show mk_tr B2 = mk_tr A from (congrArg (fun z => z.2.1) b1).trans (congrArg (fun z => z.2.1) j1).symm]
  · rw [rm_ar, rm_ar, if_neg (by omega), if_neg (by omega), b3 k i (Or.inr (by omega))]
    exact j4 k hk i
  · have h2 : i < mk_ct A - 1 := h2
    rw [rm_ar, rm_ar, ec, if_pos ⟨h5, hk, h1, h2⟩, if_pos ⟨h5, hk, h1, h2⟩, b3 k (i + 1) (Or.inl (by omega))]
    exact j5 k h5 hk (i + 1) (by omega) (by omega)
  · rw [rm_ar, rm_ar, if_neg (by omega), if_neg (by omega), b3 k i (Or.inl (by omega))]
    exact j6 k h5 hk i (by omega)
theorem Jr.kp {M Y A B B2 : mk_T} {c : Nat} (J : Jr M Y A B (c + 1)) (hb : Bo B B2 c) (h : ∀ k, 5 ≤ k → k < 10 → mk_ar A k c = mk_ar B2 k c) : Jr M Y A B2 c := by
  obtain ⟨j1, j2, j3, j4, j5, j6⟩ := J
  obtain ⟨b1, b2, b3⟩ := hb
  refine ⟨j1.trans b1.symm, j2.trans b2.symm, by omega, fun k hk i => ?_, fun k h5 hk i h1 h2 => ?_, fun k h5 hk i hi => ?_⟩
  · rw [b3 k i (Or.inr (by omega))]
    exact j4 k hk i
  · by_cases q : i = c
    · subst q
      exact h k h5 hk
    · rw [b3 k i (Or.inl q)]
      exact j5 k h5 hk i (by omega) h2
  · rw [b3 k i (Or.inl (by omega))]
    exact j6 k h5 hk i (by omega)
theorem df_t_can {M : mk_T} (H : Ic M) {d : Nat} (hd : d < mk_tr M) : df_t M d = 0 ↔ ¬ tk_can M d := by
  obtain ⟨a, b⟩ := lk_v_can H hd
  unfold df_t
  constructor
  · intro h hc
    rw [if_neg (a hc).2] at h
    exact absurd h (by decide)
  · intro h
    rw [if_pos (b h).2]
    rfl
theorem eo_hd {M : mk_T} (H : Ic M) {d : Nat} (hd : d < mk_tr M) : ∀ c (A B : mk_T), c ≤ mk_ct M → Jr M (co_b M d) A B c → Jr M (co_b M d) (mk_eo A (nI d) c) (hd_r (lk_B M d) (nI d) (df_t M d) (nI (hd_z M d (mk_hz M))) B c) 0
  | 0, A, B, _, J => J
  | c + 1, A, B, hc, J => by
    have h6 := H.1.2.1
    have h4 := H.1.1
    obtain ⟨b, s, h, q, hb, hs, hbs, hh, hq1, hq2, e5, e6, e7, e8⟩ := H.2.2.1 c (by omega)
    obtain ⟨c1, c2⟩ := co_b_5 H (d := d) (by omega) e7 hh
    have jA : ∀ k, 5 ≤ k → k < 10 → mk_ar A k c = mk_ar (co_b M d) k c := fun k h5 hk => (J.2.2.2.2.2 k h5 hk c (by omega)).1
    have jB : ∀ k, 5 ≤ k → k < 10 → mk_ar B k c = mk_ar M k c := fun k h5 hk => (J.2.2.2.2.2 k h5 hk c (by omega)).2
    have jO : ∀ k, 7 ≤ k → k < 10 → mk_ar A k c = mk_ar B k c := fun k h5 hk => by rw [jA k (by omega) hk, jB k (by omega) hk, co_b_k (by omega)]
    have B5 := (jB 5 (by decide) (by decide)).trans e5
    have B6 := (jB 6 (by decide) (by decide)).trans e6
    have B7 := (jB 7 (by decide) (by decide)).trans e7
    have A5 := jA 5 (by decide) (by decide)
    have A6 := jA 6 (by decide) (by decide)
    have nb : nI b = nI d ↔ b = d := nI_eq (by omega) (by omega)
    have ns : nI s = nI d ↔ s = d := nI_eq (by omega) (by omega)
    have nbs : ¬ nI b = nI s := fun z => hbs ((nI_eq (by omega) (by omega)).mp z)
    have hbit := (z_bit H (d := d) (mk_hz M) h4)
    have hz64 : hd_z M d (mk_hz M) < 64 := Nat.lt_of_lt_of_le hbit.1 (hp_p6 (by omega))
    have hbt := tb_i (hd_z M d (mk_hz M)) hz64 h (by omega)
    have hzb : (nI (hd_z M d (mk_hz M)) >>> (nI h &&& 31)) &&& nI 1 = 0 ↔ zp M d h := by
      rw [hbt, hbit.2 h (by omega)]
      constructor
      · intro u
        exact Decidable.not_not.mp (fun k => u ⟨hh, k⟩)
      · intro u k
        exact k.2 u
    unfold mk_eo hd_r
    refine eo_hd H hd c _ _ (by omega) ?_
    by_cases cn : b = d ∨ s = d
    · have cB : mk_ar B 5 c = nI d ∨ mk_ar B 6 c = nI d := by
        rw [B5, B6]
        exact cn.imp nb.mpr ns.mpr
      by_cases tz : df_t M d = 0 ∨ (nI (hd_z M d (mk_hz M)) >>> (mk_ar B 7 c &&& 31)) &&& nI 1 = 0
      · have e1 : hd_1 (lk_B M d) (nI d) (df_t M d) (nI (hd_z M d (mk_hz M))) B c = mk_rm B c := (if_pos cB).trans (if_pos tz)
        have tz2 : ¬ tk_can M d ∨ zp M d h := tz.imp (df_t_can H hd).mp (fun k => by rw [B7] at k; exact hzb.mp k)
        obtain ⟨g5, g6⟩ := c1 tz2
        rw [e1, if_pos (Or.inl (by rw [A5, A6, g5, g6, e5, e6]; exact cn.imp nb.mpr ns.mpr))]
        exact J.rm (Bo.rf B c)
      · have y1 : tk_can M d := Decidable.not_not.mp (fun k => tz (Or.inl ((df_t_can H hd).mpr k)))
        have y2 : ¬ zp M d h := fun k => tz (Or.inr (by rw [B7]; exact hzb.mpr k))
        obtain ⟨x, gx, ox, bx⟩ := tkr H hd y1 hh y2
        have hx := gx.1
        obtain ⟨g5, g6⟩ := c2 y1 y2 (by rw [ox]; exact nI_m1 (by omega))
        have nx : ¬ nI x = nI d := fun k => gx.2.1 ((nI_eq (by omega) (by omega)).mp k)
        have ev : lk_B M d (mk_ar B 7 c).toNatClampNeg = nI x := by
          rw [B7, nI_clamp (by omega)]
          exact bx
        rw [ox, e5] at g5
        rw [ox, e5, e6] at g6
        -- the model's new contract
        have go : ∀ k, (k = 5 ∨ k = 6) → (if mk_ar B 5 c = nI d then (5 : Nat) else 6) = k → mk_ar (co_b M d) 5 c = (if k = 5 then nI x else nI b) → mk_ar (co_b M d) 6 c = (if k = 6 then nI x else nI s) → (k = 5 → s ≠ d) → (k = 6 → b ≠ d) → Jr M (co_b M d) (if (mk_ar A 5 c = nI d ∨ mk_ar A 6 c = nI d) ∨ mk_ar A 5 c = mk_ar A 6 c then mk_rm A c else A) (hd_1 (lk_B M d) (nI d) (df_t M d) (nI (hd_z M d (mk_hz M))) B c) c := by
          intro k hk ek a5 a6 k5 k6
          have m5 : mk_ar (mk_st B k c (nI x)) 5 c = if k = 5 then nI x else nI b := by
            rw [mk_st_ar, B5]
            by_cases q : k = 5
            · rw [if_pos ⟨q.symm, rfl⟩, if_pos q]
            · rw [if_neg (fun u => q u.1.symm), if_neg q]
          have m6 : mk_ar (mk_st B k c (nI x)) 6 c = if k = 6 then nI x else nI s := by
            rw [mk_st_ar, B6]
            by_cases q : k = 6
            · rw [if_pos ⟨q.symm, rfl⟩, if_pos q]
            · rw [if_neg (fun u => q u.1.symm), if_neg q]
          have n5 : ¬ mk_ar A 5 c = nI d := by
            rw [A5, a5]
            by_cases q : k = 5
            · rw [if_pos q]
              exact nx
            · rw [if_neg q]
              exact fun u => k6 (hk.resolve_left q) (nb.mp u)
          have n6 : ¬ mk_ar A 6 c = nI d := by
            rw [A6, a6]
            by_cases q : k = 6
            · rw [if_pos q]
              exact nx
            · rw [if_neg q]
              exact fun u => k5 (hk.resolve_right q) (ns.mp u)
          by_cases same : mk_ar (mk_st B k c (nI x)) 5 c = mk_ar (mk_st B k c (nI x)) 6 c
          · have e1 : hd_1 (lk_B M d) (nI d) (df_t M d) (nI (hd_z M d (mk_hz M))) B c = mk_rm (mk_st B k c (nI x)) c := by
              unfold hd_1
              rw [if_pos cB, if_neg tz, ek, ev, if_pos same]
            rw [e1, if_pos (Or.inr (by rw [A5, A6, a5, a6, ← m5, ← m6]; exact same))]
            exact J.rm (Bo.st B hk _)
          · have e1 : hd_1 (lk_B M d) (nI d) (df_t M d) (nI (hd_z M d (mk_hz M))) B c = mk_st B k c (nI x) := by
              unfold hd_1
              rw [if_pos cB, if_neg tz, ek, ev, if_neg same]
            rw [e1, if_neg (fun u => u.elim (fun v => v.elim n5 n6) (fun v => same (by rw [m5, m6, ← a5, ← a6, ← A5, ← A6]; exact v)))]
            refine J.kp (Bo.st B hk _) (fun j h5 h10 => ?_)
            by_cases j5 : j = 5
            · subst j5
              rw [A5, a5, m5]
            · by_cases j6 : j = 6
              · subst j6
                rw [A6, a6, m6]
              · rw [mk_st_ar, if_neg (by omega)]
                exact jO j (by omega) h10
        by_cases bd : b = d
        · refine go 5 (Or.inl rfl) (if_pos (by rw [B5]; exact nb.mpr bd)) ?_ ?_ (fun _ k => hbs (bd.trans k.symm)) (fun k => absurd k (by decide))
          · rw [g5, if_pos (nb.mpr bd), if_pos rfl]
          · rw [g6, if_neg (fun u => u.1 (nb.mpr bd)), if_neg (by decide)]
        · have sd : s = d := cn.resolve_left bd
          refine go 6 (Or.inr rfl) (if_neg (by rw [B5]; exact fun u => bd (nb.mp u))) ?_ ?_ (fun k => absurd k (by decide)) (fun _ => bd)
          · rw [g5, if_neg (fun u => bd (nb.mp u)), if_neg (by decide)]
          · rw [g6, if_pos ⟨fun u => bd (nb.mp u), ns.mpr sd⟩, if_pos rfl]
    · have n1 : ¬ nI b = nI d := fun u => cn (Or.inl (nb.mp u))
      have n2 : ¬ nI s = nI d := fun u => cn (Or.inr (ns.mp u))
      have e1 : hd_1 (lk_B M d) (nI d) (df_t M d) (nI (hd_z M d (mk_hz M))) B c = B := if_neg (by rw [B5, B6]; exact fun u => u.elim n1 n2)
      have g : mk_ar (co_b M d) 5 c = nI b ∧ mk_ar (co_b M d) 6 c = nI s := by
        by_cases z : ¬ tk_can M d ∨ zp M d h
        · obtain ⟨g5, g6⟩ := c1 z
          exact ⟨g5.trans e5, g6.trans e6⟩
        · have y1 : tk_can M d := Decidable.not_not.mp (fun k => z (Or.inl k))
          have y2 : ¬ zp M d h := fun k => z (Or.inr k)
          obtain ⟨x, gx, ox, -⟩ := tkr H hd y1 hh y2
          have hx := gx.1
          obtain ⟨g5, g6⟩ := c2 y1 y2 (by rw [ox]; exact nI_m1 (by omega))
          rw [e5, if_neg n1] at g5
          rw [e5, e6, if_neg (fun u => n2 u.2)] at g6
          exact ⟨g5, g6⟩
      rw [e1, if_neg (by rw [A5, A6, g.1, g.2]; exact fun u => u.elim (fun v => v.elim n1 n2) nbs)]
      refine J.kp (Bo.rf B c) (fun j h5 h10 => ?_)
      by_cases j5 : j = 5
      · subst j5
        rw [A5, g.1, B5]
      · by_cases j6 : j = 6
        · subst j6
          rw [A6, g.2, B6]
        · exact jO j (by omega) h10
theorem hd_q {M : mk_T} (H : Ic M) {d : Nat} (hd : d < mk_tr M) : mk_q (hd_M (lk_B M d) d (df_t M d) M) (mk_eo (co_b M d) (nI d) (mk_ct (co_b M d))) := by
  have ect : mk_ct (co_b M d) = mk_ct M := congrArg (fun z => z.2.2) (co_b_hz M d)
  have J := eo_hd H hd (mk_ct M) (co_b M d) M (Nat.le_refl _) ⟨co_b_hz M d, co_b_2, by rw [ect]; exact Nat.le_refl _, fun k hk i => co_b_k (by omega), fun k _ _ i h1 h2 => absurd h2 (by omega), fun k _ _ i hi => ⟨rfl, rfl⟩⟩
  rw [ect]
  obtain ⟨j1, j2, -, j4, j5, -⟩ := J
  refine ⟨j1.symm, j2.symm, fun k hk i _ => (j4 k (by omega) i).symm, fun k _ hk i _ => (j4 k hk i).symm, fun k h5 hk i hi => (j5 k h5 hk i (Nat.zero_le _) ?_).symm⟩
  rw [show mk_ct (mk_eo (co_b M d) (nI d) (mk_ct M)) = _ from congrArg (fun z => z.2.2) j1]
  exact hi
/-! the account -/
theorem df_22 (B : mk_T) (m : Int32) : (df_a B m).2.2 = if 0 ≤ m then ((B.2.2.1.1, mk_fu B + m, mk_lo B), B.2.2.2) else ((B.2.2.1.1, mk_fu B - df_p B m, mk_lo B + (-m - df_p B m)), B.2.2.2) := by
  unfold df_a
  split <;> rfl
/-- what the class pays -/
def ca_p (fu m : Int32) : Int32 := if fu < -m then fu else -m
theorem ca_22 (A : mk_T) (d : Nat) : (mk_ca A d).2.2 = if mk_ar A 3 d ≤ 0 then ((A.2.2.1.1, mk_fu A - ca_p (mk_fu A) (mk_ar A 3 d), mk_lo A + (-mk_ar A 3 d - ca_p (mk_fu A) (mk_ar A 3 d))), A.2.2.2) else ((A.2.2.1.1, mk_fu A + mk_ar A 3 d, mk_lo A), A.2.2.2) := by
  show (if mk_ar A 3 d ≤ 0 then _ else _ : mk_T).2.2 = _
  split <;> rfl
theorem ca_p_0 {fu : Int32} (hf : 0 ≤ fu) : ca_p fu 0 = 0 := by
  unfold ca_p
  rw [Int32.neg_zero, if_neg (Int32.not_lt.mpr hf)]
theorem ca_p_n {fu m : Int32} (hf : 0 ≤ fu) (hm : ¬ 0 ≤ m) (hn : m ≠ hp_mn) : (if fu = nI 0 then nI 0 else if -m < fu then -m else fu) = ca_p fu m := by
  have e0 : (0 : Int32).toInt = 0 := by decide
  have hm1 := Int32.le_toInt m
  have hm2 : m.toInt ≠ -2147483648 := fun u => hn (Int32.toInt.inj (u.trans (by decide)))
  have hm3 : m.toInt < 0 := by
    have := Int32.lt_iff_toInt_lt.mp (Int32.not_le.mp hm)
    omega
  have hneg : (-m).toInt = -m.toInt := by
    rw [Int32.toInt_neg]
    exact Int.bmod_eq_of_le (by omega) (by omega)
  unfold ca_p
  by_cases f0 : fu = nI 0
  · rw [if_pos f0, f0, if_pos]
    rw [Int32.lt_iff_toInt_lt, hneg]
    show (0 : Int) < _
    omega
  · rw [if_neg f0]
    by_cases v : -m < fu
    · rw [if_pos v, if_neg (Int32.not_lt.mpr (Int32.le_of_lt v))]
    · rw [if_neg v]
      by_cases x : fu < -m
      · rw [if_pos x]
      · rw [if_neg x]
        exact Int32.le_antisymm (Int32.not_lt.mp v) (Int32.not_lt.mp x) |>.symm ▸ rfl
theorem df_ca {A B : mk_T} {d : Nat} (hd : d < mk_tr A) (Q : mk_q B A) (hf : 0 ≤ mk_fu A) (hn : mk_ar A 3 d ≠ hp_mn) : mk_q (df_e B d) (mk_ca A d) := by
  obtain ⟨q1, q2, q3, q4, q5⟩ := Q
  have etr : mk_tr B = mk_tr A := congrArg (fun z => z.2.1) q1
  have em : mk_ar B 3 d = mk_ar A 3 d := q4 3 (by decide) (by decide) d (by omega)
  have ef : mk_fu B = mk_fu A := congrArg (fun z => z.1.2.1) q2
  have el : mk_lo B = mk_lo A := congrArg (fun z => z.1.2.2) q2
  have ey : B.2.2.1.1 = A.2.2.1.1 := congrArg (fun z => z.1.1) q2
  have e2 : B.2.2.2 = A.2.2.2 := congrArg (fun z => z.2) q2
  have acc : (df_a B (mk_ar A 3 d)).2.2 = (mk_ca A d).2.2 := by
    rw [df_22, ca_22]
    unfold df_p
    rw [ey, ef, el, e2]
    by_cases z : 0 ≤ mk_ar A 3 d
    · rw [if_pos z]
      by_cases y : mk_ar A 3 d ≤ 0
      · have m0 : mk_ar A 3 d = 0 := Int32.le_antisymm y z
        rw [if_pos y, m0, ca_p_0 hf, Int32.neg_zero, Int32.sub_zero, Int32.sub_zero, Int32.add_zero, Int32.add_zero]
      · rw [if_neg y]
    · rw [if_neg z, if_pos (Int32.le_of_lt (Int32.not_le.mp z)), ca_p_n hf z hn]
  have b2 := df_a_p B (mk_ar B 3 d)
  have eB : ∀ k i, mk_ar (df_e B d) k i = if k = 4 ∧ i = d then nI 2 else if k = 3 ∧ i = d then nI 0 else mk_ar B k i := fun k i => by
    unfold df_e
    rw [mk_st_ar, mk_st_ar, show mk_ar (df_a B (mk_ar B 3 d)) = mk_ar B from b2.2]
  have ehz : mk_hz (df_e B d) = mk_hz B := congrArg (fun z => z.1) (df_e_p B d)
  have etr2 : mk_tr (df_e B d) = mk_tr B := congrArg (fun z => z.2.1) (df_e_p B d)
  have ect : mk_ct (df_e B d) = mk_ct B := congrArg (fun z => z.2.2) (df_e_p B d)
  refine ⟨(df_e_p B d).trans (q1.trans (ca_1 A d).symm), ?_, fun k hk i hi => ?_, fun k h3 hk i hi => ?_, fun k h5 hk i hi => ?_⟩
  · show (df_a B (mk_ar B 3 d)).2.2 = _
    rw [em, acc]
  · rw [eB, ca_ar, if_neg (by omega), if_neg (by omega), if_neg (by omega), if_neg (by omega)]
    exact q3 k hk i (by omega)
  · rw [eB, ca_ar, q4 k h3 hk i (by omega)]
  · rw [eB, ca_ar, if_neg (by omega), if_neg (by omega), if_neg (by omega), if_neg (by omega)]
    exact q5 k h5 hk i (by omega)

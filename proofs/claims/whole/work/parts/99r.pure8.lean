/-! ===== PURE: a default goes the same way ===== -/
theorem bc_1 : ∀ s, s < 64 → 1 ≤ tk_bc s → ∃ c, c < 6 ∧ ¬ s / 2 ^ c % 2 = 0 := by decide +kernel
theorem bc_or : ∀ c, c < 6 → ∀ s, s < 64 → s < 2 ^ c → tk_bc (s ||| 2 ^ c) = tk_bc s + 1 := by decide +kernel
abbrev lo_b (b : Int32 × (Nat → Nat)) : Prop := b.1.toInt ≤ 384000
theorem lp_in {α : Type} {P : Nat → α → α} {r : α → Prop} (h : ∀ c a, r a → r (P c a)) {a : α} (h0 : r a) : ∀ c, r (tk_lp P c a)
  | 0 => h0
  | c + 1 => h c _ (lp_in h h0 c)
theorem lp_ex {α : Type} {P : Nat → α → α} {r : α → Prop} (h : ∀ c a, r a → r (P c a)) {c0 : Nat} (h1 : ∀ a, r (P c0 a)) (a : α) : ∀ n, c0 < n → r (tk_lp P n a)
  | 0, hn => absurd hn (Nat.not_lt_zero _)
  | n + 1, hn => by
    by_cases q : c0 = n
    · subst q
      exact h1 _
    · exact h n _ (lp_ex h h1 a n (by omega))
theorem sr_lo {M : mk_T} (H : Ic M) {d : Nat} : ∀ k h free D b, lo_b b → lo_b (sr (sF M d) M d k h free D b)
  | 0, h, free, D, b, hb => by
    show lo_b (if sS M d D < b.1 then (sS M d D, D) else b)
    split
    · exact (sS_bd H d D).2
    · exact hb
  | k + 1, h, free, D, b, hb => by
    unfold sr
    split
    · exact sr_lo H k _ _ _ _ hb
    · refine lp_in (fun c a ha => ?_) hb _
      show lo_b (if _ then _ else _)
      split
      · exact ha
      · exact sr_lo H k _ _ _ _ ha
theorem sr_ex {M : mk_T} (H : Ic M) {d : Nat} : ∀ k h free D (b : Int32 × (Nat → Nat)), h + k = mk_hz M → free < 64 → (∀ c, c < 6 → ¬ free / 2 ^ c % 2 = 0 → c < mk_tr M) → pl M d (mk_hz M) ≤ pl M d h + tk_bc free → b.1 = 1000000000 ∨ lo_b b → lo_b (sr (sF M d) M d k h free D b)
  | 0, h, free, D, b, hh, hf, ht, hp, hb => by
    have hS := sS_bd H d D
    show lo_b (if sS M d D < b.1 then (sS M d D, D) else b)
    rcases hb with hb | hb
    · rw [hb, if_pos (by rw [Int32.lt_iff_toInt_lt]; show (sS M d D).toInt < 1000000000; omega)]
      exact hS.2
    · split
      · exact hS.2
      · exact hb
  | k + 1, h, free, D, b, hh, hf, ht, hp, hb => by
    have h6 := H.1.2.1
    unfold sr
    by_cases z : zp M d h
    · rw [if_pos z]
      exact sr_ex H k (h + 1) free _ b (by omega) hf ht (by rw [pl_0 z]; exact hp) hb
    · rw [if_neg z]
      have e1 := pl_1 z
      have e2 := pl_lt (show h < mk_hz M by omega) z
      obtain ⟨c0, hc0, hbit⟩ := bc_1 free hf (by omega)
      have hc1 := ht c0 hc0 hbit
      by_cases hb2 : lo_b b
      · refine lp_in (fun c a ha => ?_) hb2 _
        show lo_b (if _ then _ else _)
        split
        · exact ha
        · exact sr_lo H k _ _ _ _ ha
      · have hb1 : b.1 = 1000000000 := hb.resolve_right hb2
        have inv : ∀ n, n ≤ mk_tr M → (fun x : Int32 × (Nat → Nat) => (x.1 = 1000000000 ∨ lo_b x) ∧ (c0 < n → lo_b x)) (tk_lp (fun c b => if free / 2 ^ c % 2 = 0 then b else sr (sF M d) M d k (h + 1) (free ^^^ 2 ^ c) (va_up D h c) b) n b) := by
          intro n
          induction n with
          | zero => exact fun _ => ⟨Or.inl hb1, fun q => absurd q (Nat.not_lt_zero _)⟩
          | succ n ih =>
            intro hn
            obtain ⟨i1, i2⟩ := ih (by omega)
            show (fun x : Int32 × (Nat → Nat) => (x.1 = 1000000000 ∨ lo_b x) ∧ (c0 < n + 1 → lo_b x)) (if free / 2 ^ n % 2 = 0 then _ else _)
            by_cases y : free / 2 ^ n % 2 = 0
            · rw [if_pos y]
              exact ⟨i1, fun q => i2 (by
                have : c0 ≠ n := fun u => hbit (u ▸ y)
                omega)⟩
            · rw [if_neg y]
              have tx := tb_x free hf n (by omega) y
              have hx64 : free ^^^ 2 ^ n < 64 := Nat.xor_lt_two_pow (n := 6) hf (Nat.pow_lt_pow_right (by decide) (by omega))
              have := sr_ex H (d := d) k (h + 1) (free ^^^ 2 ^ n) (va_up D h n) _ (by omega) hx64 (fun c hc hbc => ht c hc (fun u => hbc ((tb_xo free hf n (by omega) y c hc).mpr (Or.inl u)))) (by omega) i1
              exact ⟨Or.inr this, fun _ => this⟩
        exact (inv _ (Nat.le_refl _)).2 hc1
theorem pl_ld {M : mk_T} (H : Ic M) (d : Nat) : ∀ c, ld_n M d c = pl M d c
  | 0 => rfl
  | c + 1 => by
    have ih := pl_ld H d c
    unfold ld_n
    rw [← po_e H]
    by_cases z : zp M d c
    · rw [if_pos z, pl_0 z]
      exact ih
    · rw [if_neg z, pl_1 z, ih]
theorem so_ld {M : mk_T} (ht6 : mk_tr M ≤ 6) (d : Nat) : ∀ c, c ≤ mk_tr M → ld_a M d c = tk_bc (tk_so M d c)
  | 0, _ => by show 0 = tk_bc 0; decide
  | c + 1, hc => by
    have ih := so_ld ht6 d c (by omega)
    have hl := tk_so_lt M d c
    have hl2 : tk_so M d c < 64 := Nat.lt_of_lt_of_le hl (hp_p6 (by omega))
    unfold ld_a tk_so
    by_cases z : ¬ c = d ∧ mk_ar M 4 c = nI 0
    · rw [if_pos z, if_pos (show c ≠ d ∧ mk_ar M 4 c = 0 from z), bc_or c (by omega) _ hl2 hl, ih]
    · rw [if_neg z, if_neg (show ¬ (c ≠ d ∧ mk_ar M 4 c = 0) from z), ih]
      rfl
/-- whether a take-over is possible -/
abbrev tk_can (M : mk_T) (d : Nat) : Prop := tk_nd M d ≤ tk_bc (tk_sd M d)
theorem sB_ex {M : mk_T} (H : Ic M) {d : Nat} (hc : tk_can M d) : 0 ≤ (sB M d).1.toInt ∨ True := Or.inr trivial
theorem sB_lo {M : mk_T} (H : Ic M) {d : Nat} (hc : tk_can M d) : lo_b (sB M d) := by
  have h6 := H.1.2.1
  refine sr_ex H (mk_hz M) 0 (tk_sd M d) _ _ (Nat.zero_add _) (tk_sd_lt h6) (fun c hc hb => ?_) ?_ (Or.inl rfl)
  · have := (so_bit (M := M) (d := d) h6 (mk_tr M) (Nat.le_refl _) c hc)
    exact (Decidable.not_not.mp (fun k => hb (this.mpr k))).1
  · show pl M d (mk_hz M) ≤ 0 + tk_bc (tk_sd M d)
    rw [Nat.zero_add]
    exact hc
/-- the class's sum, the model's sum -/
theorem res_lk {M : mk_T} (H : Ic M) {d : Nat} (hd : d < mk_tr M) (hc : tk_can M d) : (tk_res M d).1 = (lk_R M d).1 ∧ 0 ≤ (tk_res M d).1.toInt ∧ (tk_res M d).1.toInt ≤ 384000 ∧ ∀ h, h < mk_hz M → ¬ zp M d h → (tk_res M d).2 (pl M d h) = lk_B M d h ∧ ∃ x, x < 2 ^ 31 ∧ lk_B M d h = nI ((sB M d).2 h) := by
  obtain ⟨r1, r2⟩ := res_sB (d := d) H.1.1 H.1.2.1
  have hl := sB_lo H hc
  rcases lk_sB H hd with ⟨k1, k2⟩ | ⟨k1, k2, k3, k4⟩
  · unfold lo_b at hl
    rw [k2] at hl
    exact absurd hl (by decide)
  · refine ⟨by rw [r1, k1], by rw [r1]; exact k2, by rw [r1]; exact k3, fun h hh hz => ?_⟩
    have e := k4 h hh hz
    exact ⟨(r2 h hh hz).trans e.symm, 0, by decide, e⟩
theorem good_all {M : mk_T} (H : Ic M) {d : Nat} (hd : d < mk_tr M) (hc : tk_can M d) : (tk_res M d).1 < 1000000000 := by
  obtain ⟨-, -, h3, -⟩ := res_lk H hd hc
  rw [Int32.lt_iff_toInt_lt]
  show (tk_res M d).1.toInt < 1000000000
  omega
theorem can_ld {M : mk_T} (H : Ic M) {d : Nat} : ¬ ld_a M d (mk_tr M) < ld_n M d (mk_hz M) ↔ tk_can M d := by
  rw [pl_ld H, so_ld H.1.2.1 d _ (Nat.le_refl _)]
  exact Nat.not_lt
theorem lk_v_can {M : mk_T} (H : Ic M) {d : Nat} (hd : d < mk_tr M) : (tk_can M d → lk_v M d = (tk_res M d).1 ∧ ¬ lk_v M d < 0) ∧ (¬ tk_can M d → lk_v M d = -1 ∧ lk_v M d < 0) := by
  unfold lk_v
  constructor
  · intro hc
    obtain ⟨h1, h2, -⟩ := res_lk H hd hc
    rw [if_neg ((can_ld H).mpr hc), ← h1]
    refine ⟨rfl, fun z => ?_⟩
    have := Int32.lt_iff_toInt_lt.mp z
    have e0 : (0 : Int32).toInt = 0 := by decide
    omega
  · intro hc
    rw [if_pos (Decidable.not_not.mp (fun z => hc ((can_ld H).mp z)))]
    exact ⟨rfl, by decide⟩
/-! the taker on a horizon -/
theorem pz_inv {M : mk_T} {d : Nat} : ∀ c i, i < (tk_pz M d c).length → ∃ h, h < c ∧ ¬ zp M d h ∧ pl M d h = i ∧ ((tk_pz M d c).getD i (0, 0)).1 = h
  | 0, i, hi => absurd hi (Nat.not_lt_zero _)
  | c + 1, i, hi => by
    by_cases z : zp M d c
    · have e : tk_pz M d (c + 1) = tk_pz M d c := if_pos z
      rw [e] at hi ⊢
      obtain ⟨h, h1, h2, h3, h4⟩ := pz_inv c i hi
      exact ⟨h, by omega, h2, h3, h4⟩
    · by_cases q : i = pl M d c
      · exact ⟨c, Nat.lt_succ_self _, z, q.symm, by rw [q, pz_at z _ (Nat.lt_succ_self _)]⟩
      · have e : tk_pz M d (c + 1) = tk_pz M d c ++ [(c, mk_po M (nI d) (nI c))] := if_neg z
        have hl : i < pl M d (c + 1) := hi
        rw [pl_1 z] at hl
        have hi2 : i < (tk_pz M d c).length := show i < pl M d c by omega
        obtain ⟨h, h1, h2, h3, h4⟩ := pz_inv c i hi2
        refine ⟨h, by omega, h2, h3, ?_⟩
        rw [e]
        simp only [List.getD_eq_getElem?_getD] at h4 ⊢
        rw [List.getElem?_append_left hi2]
        exact h4
theorem to_no {hs bt : Nat → Int32} {on : Int32} : ∀ f c, (∀ i, c ≤ i → i < c + f → ¬ hs i = on) → tk_to hs bt on f c = -1
  | 0, c, _ => rfl
  | f + 1, c, h => by
    unfold tk_to
    rw [if_neg (h c (Nat.le_refl _) (by omega))]
    exact to_no f (c + 1) (fun i h1 h2 => h i (by omega) (by omega))
theorem to_at {hs bt : Nat → Int32} {on : Int32} {j : Nat} (hj : hs j = on) : ∀ f c, c ≤ j → j < c + f → (∀ i, c ≤ i → i < j → ¬ hs i = on) → tk_to hs bt on f c = bt j
  | 0, c, h1, h2, _ => by omega
  | f + 1, c, h1, h2, h => by
    unfold tk_to
    by_cases q : c = j
    · subst q
      rw [if_pos hj]
    · rw [if_neg (h c (Nat.le_refl _) (by omega))]
      exact to_at hj f (c + 1) (by omega) (by omega) (fun i h3 h4 => h i (by omega) h4)
theorem on_e {M : mk_T} (H : Ic M) {d h : Nat} (hh : h < mk_hz M) : tk_on M d (nI h) = if zp M d h then -1 else (tk_res M d).2 (pl M d h) := by
  have h4 := H.1.1
  have inv : ∀ i, i < tk_nd M d → tk_h0 M d i = nI h → ¬ zp M d h ∧ i = pl M d h := fun i hi he => by
    obtain ⟨h9, a1, a2, a3, a4⟩ := pz_inv (M := M) (d := d) (mk_hz M) i hi
    have e : nI h9 = nI h := by
      rw [← a4]
      exact he
    have e2 := (nI_eq (by omega) (by omega)).mp e
    subst e2
    exact ⟨a2, a3.symm⟩
  unfold tk_on
  by_cases z : zp M d h
  · rw [if_pos z]
    exact to_no _ _ (fun i _ hi he => (inv i (by omega) he).1 z)
  · rw [if_neg z]
    have hlt : pl M d h < tk_nd M d := pl_lt hh z
    refine to_at (j := pl M d h) ?_ _ _ (Nat.zero_le _) (by omega) (fun i _ hi he => ?_)
    · show nI ((tk_pz M d (mk_hz M)).getD (pl M d h) (0, 0)).1 = nI h
      rw [pz_at z _ hh]
    · have := (inv i (by omega) he).2
      omega
/-! ===== the contracts of the one that defaults ===== -/
theorem z_bit {M : mk_T} (H : Ic M) {d : Nat} : ∀ c, c ≤ 4 → hd_z M d c < 2 ^ c ∧ ∀ h, h < 4 → (hd_z M d c / 2 ^ h % 2 = 0 ↔ ¬ (h < c ∧ ¬ zp M d h))
  | 0, _ => ⟨by show 0 < 2 ^ 0; decide, fun h hh => by
    show 0 / 2 ^ h % 2 = 0 ↔ _
    rw [Nat.zero_div]
    exact ⟨fun _ z => Nat.not_lt_zero _ z.1, fun _ => rfl⟩⟩
  | c + 1, hc => by
    obtain ⟨i1, i2⟩ := z_bit H (d := d) c (by omega)
    have e2 : 2 ^ (c + 1) = 2 ^ c * 2 := Nat.pow_succ 2 c
    have i64 : hd_z M d c < 64 := Nat.lt_of_lt_of_le i1 (hp_p6 (by omega))
    have hz : hd_z M d (c + 1) = hd_z M d c ||| (if zp M d c then 0 else 2 ^ c) := by
      show hd_z M d c ||| (if mo_po M (nI d) (nI c) = 0 then 0 else 2 ^ c) = _
      rw [← po_e H]
    rw [hz]
    by_cases z : zp M d c
    · rw [if_pos z, Nat.or_zero]
      refine ⟨by omega, fun h hh => ?_⟩
      rw [i2 h hh]
      constructor
      · intro a b
        by_cases q : h = c
        · exact b.2 (q ▸ z)
        · exact a ⟨by omega, b.2⟩
      · intro a b
        exact a ⟨by omega, b.2⟩
    · rw [if_neg z]
      refine ⟨Nat.or_lt_two_pow (by omega) (by omega), fun h hh => ?_⟩
      rw [tb_or _ i64 c (by omega) h (by omega), i2 h hh]
      constructor
      · intro a b
        by_cases q : h = c
        · exact a.2 q
        · exact a.1 ⟨by omega, b.2⟩
      · intro a
        refine ⟨fun b => a ⟨by omega, b.2⟩, fun q => a ?_⟩
        subst q
        exact ⟨Nat.lt_succ_self _, z⟩
theorem ite_2 {α : Type} {p q p' q' : Prop} [Decidable p] [Decidable q] [Decidable p'] [Decidable q'] {a b c : α} (h1 : p ↔ p') (h2 : q ↔ q') : (if p then a else if q then b else c) = if p' then a else if q' then b else c := by
  by_cases z : p
  · rw [if_pos z, if_pos (h1.mp z)]
  · rw [if_neg z, if_neg (fun y => z (h1.mpr y))]
    by_cases x : q
    · rw [if_pos x, if_pos (h2.mp x)]
    · rw [if_neg x, if_neg (fun y => x (h2.mpr y))]
/-- the class's contracts after the take-over on the first n horizons -/
theorem co_ar {M : mk_T} (H : Ic M) {d : Nat} : ∀ n, n ≤ mk_hz M → ∀ k i, i < mk_ct M → ∀ h, mk_ar M 7 i = nI h → h < mk_hz M → mk_ar (co_l M d n) k i = if k = 5 ∧ h < n ∧ ¬ tk_on M d (nI h) = -1 ∧ mk_ar M 5 i = nI d then tk_on M d (nI h) else if k = 6 ∧ h < n ∧ ¬ tk_on M d (nI h) = -1 ∧ ¬ mk_ar M 5 i = nI d ∧ mk_ar M 6 i = nI d then tk_on M d (nI h) else mk_ar M k i
  | 0, _, k, i, hi, h, e7, hh => by
    rw [if_neg (fun z => Nat.not_lt_zero _ z.2.1), if_neg (fun z => Nat.not_lt_zero _ z.2.1)]
    rfl
  | n + 1, hn, k, i, hi, h, e7, hh => by
    have ih := co_ar H (d := d) n (by omega)
    have h4 := H.1.1
    have hc : mk_ct (co_l M d n) = mk_ct M := congrArg (fun z => z.2.2) (co_l_hz M d n)
    have i5 := ih 5 i hi h e7 hh
    have i6 := ih 6 i hi h e7 hh
    have i7 : mk_ar (co_l M d n) 7 i = nI h := (ih 7 i hi h e7 hh).trans (by rw [if_neg (by omega), if_neg (by omega)]; exact e7)
    unfold co_l
    by_cases y : tk_on M d (nI n) = -1
    · rw [if_pos y, ih k i hi h e7 hh]
      by_cases q : h = n
      · subst q
        rw [if_neg (fun z => Nat.lt_irrefl _ z.2.1), if_neg (fun z => Nat.lt_irrefl _ z.2.1), if_neg (fun z => z.2.2.1 y), if_neg (fun z => z.2.2.1 y)]
      · exact ite_2 ⟨fun u => ⟨u.1, by omega, u.2.2⟩, fun u => ⟨u.1, by omega, u.2.2⟩⟩ ⟨fun u => ⟨u.1, by omega, u.2.2⟩, fun u => ⟨u.1, by omega, u.2.2⟩⟩
    · rw [if_neg y]
      show (if k = 5 ∧ i < mk_ct (co_l M d n) ∧ mk_ar (co_l M d n) 7 i = nI n ∧ mk_ar (co_l M d n) 5 i = nI d then tk_on M d (nI n) else if k = 6 ∧ i < mk_ct (co_l M d n) ∧ mk_ar (co_l M d n) 7 i = nI n ∧ ¬ mk_ar (co_l M d n) 5 i = nI d ∧ mk_ar (co_l M d n) 6 i = nI d then tk_on M d (nI n) else mk_ar (co_l M d n) k i) = _
      rw [i7, hc]
      by_cases q : h = n
      · subst q
        have j5 : mk_ar (co_l M d h) 5 i = mk_ar M 5 i := i5.trans (by rw [if_neg (fun z => Nat.lt_irrefl _ z.2.1), if_neg (fun z => Nat.lt_irrefl _ z.2.1)])
        have j6 : mk_ar (co_l M d h) 6 i = mk_ar M 6 i := i6.trans (by rw [if_neg (fun z => Nat.lt_irrefl _ z.2.1), if_neg (fun z => Nat.lt_irrefl _ z.2.1)])
        have jk : mk_ar (co_l M d h) k i = mk_ar M k i := (ih k i hi h e7 hh).trans (by rw [if_neg (fun z => Nat.lt_irrefl _ z.2.1), if_neg (fun z => Nat.lt_irrefl _ z.2.1)])
        rw [j5, j6, jk]
        exact ite_2 ⟨fun u => ⟨u.1, Nat.lt_succ_self _, y, u.2.2.2⟩, fun u => ⟨u.1, hi, rfl, u.2.2.2⟩⟩ ⟨fun u => ⟨u.1, Nat.lt_succ_self _, y, u.2.2.2⟩, fun u => ⟨u.1, hi, rfl, u.2.2.2⟩⟩
      · have nq : ¬ nI h = nI n := fun z => q ((nI_eq (by omega) (by omega)).mp z)
        rw [if_neg (fun z => nq z.2.2.1), if_neg (fun z => nq z.2.2.1), ih k i hi h e7 hh]
        exact ite_2 ⟨fun u => ⟨u.1, by omega, u.2.2⟩, fun u => ⟨u.1, by omega, u.2.2⟩⟩ ⟨fun u => ⟨u.1, by omega, u.2.2⟩, fun u => ⟨u.1, by omega, u.2.2⟩⟩

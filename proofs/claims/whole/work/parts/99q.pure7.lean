/-! ===== PURE: the model's ways ===== -/
theorem tb_or : ∀ s, s < 64 → ∀ x, x < 6 → ∀ y, y < 6 → ((s ||| 2 ^ x) / 2 ^ y % 2 = 0 ↔ s / 2 ^ y % 2 = 0 ∧ ¬ y = x) := by decide +kernel
theorem tb_xo : ∀ s, s < 64 → ∀ x, x < 6 → ¬ s / 2 ^ x % 2 = 0 → ∀ y, y < 6 → ((s ^^^ 2 ^ x) / 2 ^ y % 2 = 0 ↔ s / 2 ^ y % 2 = 0 ∨ y = x) := by decide +kernel
theorem so_bit {M : mk_T} {d : Nat} (ht6 : mk_tr M ≤ 6) : ∀ c, c ≤ mk_tr M → ∀ x, x < 6 → (tk_so M d c / 2 ^ x % 2 = 0 ↔ ¬ (x < c ∧ x ≠ d ∧ mk_ar M 4 x = 0))
  | 0, _, x, hx => by
    show 0 / 2 ^ x % 2 = 0 ↔ _
    rw [Nat.zero_div]
    exact ⟨fun _ z => Nat.not_lt_zero _ z.1, fun _ => rfl⟩
  | c + 1, hc, x, hx => by
    have ih := so_bit (d := d) ht6 c (by omega) x hx
    have hl : tk_so M d c < 64 := Nat.lt_of_lt_of_le (tk_so_lt M d c) (hp_p6 (by omega))
    unfold tk_so
    split
    · rename_i y
      rw [tb_or _ hl c (by omega) x hx, ih]
      constructor
      · intro z u
        by_cases q : x = c
        · exact z.2 q
        · exact z.1 ⟨by omega, u.2⟩
      · intro z
        refine ⟨fun u => z ⟨by omega, u.2⟩, fun q => z ?_⟩
        subst q
        exact ⟨Nat.lt_succ_self _, y⟩
    · rename_i y
      rw [ih]
      constructor
      · intro z u
        by_cases q : x = c
        · subst q
          exact y u.2
        · exact z ⟨by omega, u.2⟩
      · intro z u
        exact z ⟨by omega, u.2⟩
/-- the digit of a way for a horizon -/
def dg (e way h : Nat) : Nat := way / 6 ^ (e - 1 - h) % 6
theorem dg_e (e way : Nat) : dg (e + 1) way e = way % 6 := by
  unfold dg
  rw [show e + 1 - 1 - e = 0 by omega, Nat.pow_zero, Nat.div_one]
theorem dg_s {e way h : Nat} (hh : h < e) : dg (e + 1) way h = dg e (way / 6) h := by
  unfold dg
  rw [Nat.div_div_eq_div_mul, show e + 1 - 1 - h = (e - 1 - h) + 1 by omega, Nat.pow_succ', Nat.mul_comm]
theorem dg_lt (e way h : Nat) : dg e way h < 6 := Nat.mod_lt _ (by decide)
/-- a trader that can take -/
abbrev gd (M : mk_T) (d x : Nat) : Prop := x < mk_tr M ∧ x ≠ d ∧ mk_ar M 4 x = 0
/-- the digits below e are a way -/
def okD (M : mk_T) (d e : Nat) (D : Nat → Nat) : Prop := ∀ h, h < e → (zp M d h → D h = 0) ∧ (¬ zp M d h → gd M d (D h) ∧ ∀ i, i < h → ¬ zp M d i → D i ≠ D h)
theorem okD_s {M : mk_T} {d e : Nat} {D : Nat → Nat} : okD M d (e + 1) D ↔ okD M d e D ∧ (zp M d e → D e = 0) ∧ (¬ zp M d e → gd M d (D e) ∧ ∀ i, i < e → ¬ zp M d i → D i ≠ D e) := by
  constructor
  · intro h
    exact ⟨fun i hi => h i (by omega), h e (Nat.lt_succ_self _)⟩
  · rintro ⟨h1, h2⟩ i hi
    by_cases q : i = e
    · subst q
      exact h2
    · exact h1 i (by omega)
theorem okD_c {M : mk_T} {d e : Nat} {D D' : Nat → Nat} (h : ∀ i, i < e → D i = D' i) : okD M d e D ↔ okD M d e D' := by
  constructor
  · intro H i hi
    obtain ⟨a, b⟩ := H i hi
    refine ⟨fun z => by rw [← h i hi]; exact a z, fun z => ?_⟩
    obtain ⟨g, k⟩ := b z
    rw [← h i hi]
    exact ⟨g, fun j hj hz => by rw [← h j (by omega)]; exact k j hj hz⟩
  · intro H i hi
    obtain ⟨a, b⟩ := H i hi
    refine ⟨fun z => by rw [h i hi]; exact a z, fun z => ?_⟩
    obtain ⟨g, k⟩ := b z
    rw [h i hi]
    exact ⟨g, fun j hj hz => by rw [h j (by omega)]; exact k j hj hz⟩
theorem lw_up {M : mk_T} {d : Nat} : ∀ e left taken (T : Nat → Int32), (mo_lw M d e left taken T).1 = true → ∀ i, e ≤ i → (mo_lw M d e left taken T).2 i = T i := fun e left taken T h i hi => ((mo_lw_q M d e left taken T T).2 h).2 i hi |>.1
theorem lw_ok {M : mk_T} (H : Ic M) {d : Nat} : ∀ e left taken (T : Nat → Int32), taken < 64 → ((mo_lw M d e left taken T).1 = true ↔ okD M d e (dg e left) ∧ ∀ h, h < e → ¬ zp M d h → taken / 2 ^ (dg e left h) % 2 = 0) ∧ ((mo_lw M d e left taken T).1 = true → ∀ h, h < e → (mo_lw M d e left taken T).2 h = if zp M d h then -1 else nI (dg e left h))
  | 0, left, taken, T, _ => ⟨⟨fun _ => ⟨fun h hh => absurd hh (Nat.not_lt_zero _), fun h hh => absurd hh (Nat.not_lt_zero _)⟩, fun _ => rfl⟩, fun _ h hh => absurd hh (Nat.not_lt_zero _)⟩
  | e + 1, left, taken, T, htk => by
    have hx6 : left % 6 < 6 := Nat.mod_lt _ (by decide)
    have ex := dg_e e left
    have es : ∀ h, h < e → dg (e + 1) left h = dg e (left / 6) h := fun h hh => dg_s hh
    have oc : okD M d e (dg (e + 1) left) ↔ okD M d e (dg e (left / 6)) := okD_c es
    have ez : (mo_po M (nI d) (nI e) = 0) ↔ zp M d e := by rw [← po_e H]
    rw [okD_s, oc, ex]
    unfold mo_lw
    by_cases z : zp M d e
    · rw [if_pos (ez.mpr z)]
      by_cases y : 0 < left % 6
      · rw [if_pos y]
        exact ⟨⟨fun u => (by cases u), fun u => absurd (u.1.2.1 z) (by omega)⟩, fun u => (by cases u)⟩
      · rw [if_neg y]
        obtain ⟨i1, i2⟩ := lw_ok H (d := d) e (left / 6) taken (upd T e (-1)) htk
        refine ⟨⟨fun u => ?_, fun u => ?_⟩, fun u h hh => ?_⟩
        · obtain ⟨a, b⟩ := i1.mp u
          refine ⟨⟨a, fun _ => by omega, fun k => absurd z k⟩, fun h hh hz => ?_⟩
          have q : h ≠ e := fun k => hz (k ▸ z)
          rw [es h (by omega)]
          exact b h (by omega) hz
        · refine i1.mpr ⟨u.1.1, fun h hh hz => ?_⟩
          rw [← es h hh]
          exact u.2 h (by omega) hz
        · by_cases q : h = e
          · subst q
            rw [lw_up h _ _ _ u h (Nat.le_refl _), pk_us, if_pos z]
          · rw [i2 u h (by omega), es h (by omega)]
    · rw [if_neg (fun k => z (ez.mp k))]
      by_cases y : mk_tr M ≤ left % 6 ∨ left % 6 = d ∨ ¬ mk_ar M 4 (left % 6) = nI 0 ∨ taken / 2 ^ (left % 6) % 2 = 1
      · rw [if_pos y]
        refine ⟨⟨fun u => (by cases u), fun u => ?_⟩, fun u => (by cases u)⟩
        obtain ⟨⟨g1, g2, g3⟩, -⟩ := u.1.2.2 z
        have g4 := u.2 e (Nat.lt_succ_self _) z
        rw [ex] at g4
        rcases y with y | y | y | y
        · omega
        · exact absurd y g2
        · exact absurd g3 y
        · omega
      · rw [if_neg y]
        have y1 : left % 6 < mk_tr M := Nat.lt_of_not_le (fun k => y (Or.inl k))
        have y2 : left % 6 ≠ d := fun k => y (Or.inr (Or.inl k))
        have y3 : mk_ar M 4 (left % 6) = 0 := Decidable.not_not.mp (fun k => y (Or.inr (Or.inr (Or.inl k))))
        have y4 : taken / 2 ^ (left % 6) % 2 = 0 := by
          have : ¬ taken / 2 ^ (left % 6) % 2 = 1 := fun k => y (Or.inr (Or.inr (Or.inr k)))
          omega
        obtain ⟨i1, i2⟩ := lw_ok H (d := d) e (left / 6) (taken ||| 2 ^ (left % 6)) (upd (upd T e (-1)) e (nI (left % 6))) (Nat.or_lt_two_pow (n := 6) htk (Nat.lt_of_lt_of_le (Nat.pow_lt_pow_right (by decide) hx6) (by decide)))
        refine ⟨⟨fun u => ?_, fun u => ?_⟩, fun u h hh => ?_⟩
        · obtain ⟨a, b⟩ := i1.mp u
          have b2 : ∀ h, h < e → ¬ zp M d h → taken / 2 ^ (dg e (left / 6) h) % 2 = 0 ∧ ¬ dg e (left / 6) h = left % 6 := fun h hh hz => (tb_or taken htk _ hx6 _ (dg_lt _ _ _)).mp (b h hh hz)
          refine ⟨⟨a, fun k => absurd k z, fun _ => ⟨⟨y1, y2, y3⟩, fun i hi hz => ?_⟩⟩, fun h hh hz => ?_⟩
          · rw [es i hi]
            exact (b2 i hi hz).2
          · by_cases q : h = e
            · subst q
              rw [ex]
              exact y4
            · rw [es h (by omega)]
              exact (b2 h (by omega) hz).1
        · refine i1.mpr ⟨u.1.1, fun h hh hz => ?_⟩
          refine (tb_or taken htk _ hx6 _ (dg_lt _ _ _)).mpr ⟨?_, ?_⟩
          · rw [← es h hh]
            exact u.2 h (by omega) hz
          · rw [← es h hh]
            exact (u.1.2.2 z).2 h hh hz
        · by_cases q : h = e
          · subst q
            rw [lw_up h _ _ _ u h (Nat.le_refl _), pk_us, if_neg z, ex]
          · rw [i2 u h (by omega), es h (by omega)]
/-! the sum of a way -/
theorem ring_4 (A B C : Int32) : A + B + nI 0 - (C + B) = A - C := by
  rw [show nI 0 = (0 : Int32) from rfl]
  grind
theorem ring_5 (A B : Int32) : A + nI 0 - B = A - B := by
  rw [show nI 0 = (0 : Int32) from rfl]
  grind
theorem ring_6 (A B Q : Int32) : A - B + Q = A + Q - B := by grind
theorem ring_7 (A B Q : Int32) : A - B - Q = A + -Q - B := by grind
theorem ring_8 (A B Q : Int32) : A - B = A + Q - (B + Q) := by grind
theorem ring_9 (A B : Int32) : A - B = A + nI 0 - (B + nI 0) := by
  rw [show nI 0 = (0 : Int32) from rfl]
  grind
theorem gw_pw {M : mk_T} (H : Ic M) {d t : Nat} (hd : d < mk_tr M) (ht : t < mk_tr M) (hdt : t ≠ d) (on : Int32) : ∀ c, c ≤ mk_ct M → mk_pw M (nI t) on (nI d) c = mo_pw M (nI t) on c - mo_gw M (nI d) (nI t) on c
  | 0, _ => by
    show (0 : Int32) = nI 0 - nI 0
    decide
  | c + 1, hc => by
    have ih := gw_pw H hd ht hdt on c (by omega)
    obtain ⟨b, s, h, q, hb, hs, hbs, hh, hq1, hq2, e5, e6, e7, e8⟩ := H.2.2.1 c (by omega)
    have h6 := H.1.2.1
    unfold mk_pw mo_pw mo_gw
    rw [ih]
    by_cases z : mk_ar M 7 c = on
    · rw [if_pos z, if_pos z, e5, e6]
      have nb : ∀ x, x < mk_tr M → (nI b = nI x ↔ b = x) := fun x hx => nI_eq (by omega) (by omega)
      have ns : ∀ x, x < mk_tr M → (nI s = nI x ↔ s = x) := fun x hx => nI_eq (by omega) (by omega)
      by_cases y : b = d ∨ s = d
      · have y1 : nI b = nI d ∨ nI s = nI d := y.imp (nb d hd).mpr (ns d hd).mpr
        rw [if_neg (fun k => k.2 y1)]
        rcases y with y | y
        · subst y
          rw [if_neg (show ¬ nI b = nI t from fun k => hdt ((nb t ht).mp k).symm), if_neg (show ¬ (nI b = nI t ∧ nI s = nI b) from fun k => hdt ((nb t ht).mp k.1).symm)]
          by_cases x : s = t
          · rw [if_pos ((ns t ht).mpr x), if_pos ⟨(ns t ht).mpr x, rfl⟩]
            exact ring_8 _ _ _
          · rw [if_neg (fun k => x ((ns t ht).mp k)), if_neg (fun k => x ((ns t ht).mp k.1))]
            exact ring_9 _ _
        · subst y
          by_cases x : b = t
          · rw [if_pos ((nb t ht).mpr x), if_pos ⟨(nb t ht).mpr x, rfl⟩]
            exact ring_8 _ _ _
          · rw [if_neg (fun k => x ((nb t ht).mp k)), if_neg (show ¬ nI s = nI t from fun k => hdt ((ns t ht).mp k).symm), if_neg (show ¬ (nI b = nI t ∧ nI s = nI s) from fun k => x ((nb t ht).mp k.1)), if_neg (show ¬ (nI s = nI t ∧ nI b = nI s) from fun k => hdt ((ns t ht).mp k.1).symm)]
            exact ring_9 _ _
      · have y1 : ¬ (nI b = nI d ∨ nI s = nI d) := fun k => y (k.imp (nb d hd).mp (ns d hd).mp)
        rw [if_pos ⟨z, y1⟩, if_neg (show ¬ (nI b = nI t ∧ nI s = nI d) from fun k => y1 (Or.inr k.2)), if_neg (show ¬ (nI s = nI t ∧ nI b = nI d) from fun k => y1 (Or.inl k.2))]
        by_cases x : nI b = nI t
        · rw [if_pos x, if_pos x]
          rw [show mo_gw M (nI d) (nI t) on c + nI 0 = mo_gw M (nI d) (nI t) on c from Int32.add_zero _]
          exact ring_6 _ _ _
        · rw [if_neg x, if_neg x]
          rw [show mo_gw M (nI d) (nI t) on c + nI 0 = mo_gw M (nI d) (nI t) on c from Int32.add_zero _]
          by_cases v : nI s = nI t
          · rw [if_pos v, if_pos v]
            exact ring_7 _ _ _
          · rw [if_neg v, if_neg v, show mo_pw M (nI t) on c + nI 0 = mo_pw M (nI t) on c from Int32.add_zero _]
    · rw [if_neg (fun k => z k.1), if_neg z, if_neg z]
/-- the takers of a way, as the model lays them -/
def tkd (M : mk_T) (d : Nat) (D : Nat → Nat) (T : Nat → Int32) : Prop := ∀ h, h < mk_hz M → T h = if zp M d h then -1 else nI (D h)
theorem mi_s1 {M : mk_T} (H : Ic M) {d t : Nat} (hd : d < mk_tr M) (ht : t < mk_tr M) (hdt : t ≠ d) {D : Nat → Nat} (hD : ∀ h, h < mk_hz M → ¬ zp M d h → D h < 2 ^ 31) {T : Nat → Int32} (hT : tkd M d D T) (acc : Int32) : ∀ c, c ≤ mk_hz M → mo_mi M T d t acc c = tk_s1 (afD M d (mk_hz M) D) (mk_ar M 2) t acc c
  | 0, _ => rfl
  | c + 1, hc => by
    have h6 := H.1.2.1
    have ih := mi_s1 H hd ht hdt hD hT acc c (by omega)
    have hc2 : c < mk_hz M := by omega
    unfold mo_mi tk_s1
    rw [ih, hT c hc2, ← po_e H, ← po_e H]
    have ea : mk_po M (nI t) (nI c) + (if (if zp M d c then (-1 : Int32) else nI (D c)) = nI t then mk_po M (nI d) (nI c) else nI 0) - (if mk_po M (nI d) (nI c) = 0 then mo_gw M (nI d) (nI t) (nI c) (mk_ct M) else nI 0) = afD M d (mk_hz M) D t c := by
      unfold afD tk_ag tk_en
      by_cases z : zp M d c
      · rw [if_pos z, if_pos z, if_neg (show ¬ (-1 : Int32) = nI t from nI_neg1 (by omega)), if_neg (fun k => k.2.1 z), if_pos z, gw_pw H hd ht hdt _ _ (Nat.le_refl _), po_e H]
        exact ring_5 _ _
      · rw [if_neg z, if_neg z]
        have hn : nI (D c) = nI t ↔ D c = t := nI_eq (hD c hc2 z) (by omega)
        rw [show ∀ X : Int32, X - nI 0 = X from fun X => Int32.sub_zero X, if_neg z]
        by_cases y : D c = t
        · rw [if_pos (hn.mpr y), if_pos ⟨hc2, z, y⟩]
          rfl
        · rw [if_neg (fun k => y (hn.mp k)), if_neg (fun k => y k.2.2)]
          exact Int32.add_zero _
    rw [ea]
theorem mt_sm {M : mk_T} (H : Ic M) {d : Nat} (hd : d < mk_tr M) {D : Nat → Nat} (hD : ∀ h, h < mk_hz M → ¬ zp M d h → D h < 2 ^ 31) {T : Nat → Int32} (hT : tkd M d D T) : ∀ c, c ≤ mk_tr M → mo_mt M T d c = tk_sm (tk_sd M d) (afD M d (mk_hz M) D) (mk_ar M 2) (mk_hz M) c
  | 0, _ => rfl
  | c + 1, hc => by
    have h6 := H.1.2.1
    have ih := mt_sm H hd hD hT c (by omega)
    have hb := so_bit (M := M) (d := d) h6 (mk_tr M) (Nat.le_refl _) c (by omega)
    have hb2 := tb_i (tk_sd M d) (tk_sd_lt h6) c (by omega)
    unfold mo_mt tk_sm
    rw [ih]
    by_cases z : c = d ∨ ¬ mk_ar M 4 c = nI 0
    · rw [if_pos z, if_pos (hb2.mpr (hb.mpr (fun k => z.elim k.2.1 (fun y => y k.2.2))))]
    · have z1 : c ≠ d := fun y => z (Or.inl y)
      have z2 : mk_ar M 4 c = 0 := Decidable.not_not.mp (fun y => z (Or.inr y))
      rw [if_neg z, if_neg (fun k => (hb.mp (hb2.mp k)) ⟨by omega, z1, z2⟩)]
      exact mi_s1 H hd (by omega) z1 hD hT _ _ (Nat.le_refl _)
theorem mt_sS {M : mk_T} (H : Ic M) {d : Nat} (hd : d < mk_tr M) {D : Nat → Nat} (hD : ∀ h, h < mk_hz M → ¬ zp M d h → D h < 2 ^ 31) {T : Nat → Int32} (hT : tkd M d D T) : mo_mt M T d (mk_tr M) = sS M d D := mt_sm H hd hD hT _ (Nat.le_refl _)
/-! the model's best way and the one by horizons -/
def RM (M : mk_T) (d : Nat) (R : ls_T) (b : Int32 × (Nat → Nat)) : Prop := (R.1 = -1 ∧ b.1 = 1000000000) ∨ (R.1 = b.1 ∧ 0 ≤ b.1.toInt ∧ b.1.toInt ≤ 384000 ∧ ∀ h, h < mk_hz M → ¬ zp M d h → R.2.2 h = nI (b.2 h))
theorem RM_T {M : mk_T} {d : Nat} {R : ls_T} {b : Int32 × (Nat → Nat)} (H : RM M d R b) (T : Nat → Int32) : RM M d (R.1, T, R.2.2) b := H
theorem ls_add (M : mk_T) (d : Nat) : ∀ a b w (R : ls_T), ls_r M d (a + b) w R = ls_r M d b (w + a) (ls_r M d a w R)
  | 0, b, w, R => by
    rw [Nat.zero_add]
    rfl
  | a + 1, b, w, R => by
    rw [show a + 1 + b = (a + b) + 1 by omega, show w + (a + 1) = w + 1 + a by omega]
    exact ls_add M d a b (w + 1) (ls_1 M d w R)
theorem leaf {M : mk_T} (H : Ic M) {d : Nat} (hd : d < mk_tr M) {way : Nat} {D : Nat → Nat} (hD : ∀ h, h < mk_hz M → D h = dg (mk_hz M) way h) {R : ls_T} {b : Int32 × (Nat → Nat)} (hR : RM M d R b) : (okD M d (mk_hz M) (dg (mk_hz M) way) → RM M d (ls_1 M d way R) (sF M d D b)) ∧ (¬ okD M d (mk_hz M) (dg (mk_hz M) way) → RM M d (ls_1 M d way R) b) := by
  obtain ⟨h1, h2⟩ := lw_ok H (d := d) (mk_hz M) way 0 R.2.1 (by decide)
  have h4 := H.1.1
  unfold ls_1
  obtain ⟨Q, hQ⟩ : ∃ Q, Q = mo_lw M d (mk_hz M) way 0 R.2.1 := ⟨_, rfl⟩
  rw [← hQ] at h1 h2 ⊢
  show (_ → RM M d (if Q.1 = true then (if 0 ≤ R.1 ∧ R.1 ≤ mo_mt M Q.2 d (mk_tr M) then (R.1, Q.2, R.2.2) else (mo_mt M Q.2 d (mk_tr M), Q.2, ls_b Q.2 R.2.2 4)) else (R.1, Q.2, R.2.2)) _) ∧ (_ → RM M d (if Q.1 = true then (if 0 ≤ R.1 ∧ R.1 ≤ mo_mt M Q.2 d (mk_tr M) then (R.1, Q.2, R.2.2) else (mo_mt M Q.2 d (mk_tr M), Q.2, ls_b Q.2 R.2.2 4)) else (R.1, Q.2, R.2.2)) _)
  constructor
  · intro ok
    have q1 : Q.1 = true := h1.mpr ⟨ok, fun h _ _ => by rw [Nat.zero_div]⟩
    have hT : tkd M d D Q.2 := fun h hh => by rw [h2 q1 h hh, hD h hh]
    have eS := mt_sS H hd (fun h hh _ => by rw [hD h hh]; have := dg_lt (mk_hz M) way h; omega) hT
    have hS := sS_bd H d D
    have hB : ∀ h, h < mk_hz M → ¬ zp M d h → ls_b Q.2 R.2.2 4 h = nI (D h) := fun h hh hz => by
      unfold ls_b
      rw [if_pos (by omega), hT h hh, if_neg hz]
    rw [if_pos q1, eS]
    unfold sF
    rcases hR with ⟨r1, r2⟩ | ⟨r1, r2, r3, r4⟩
    · rw [if_neg (fun k => absurd k.1 (by rw [r1]; decide)), if_pos (by rw [r2, Int32.lt_iff_toInt_lt]; show (sS M d D).toInt < 1000000000; omega)]
      exact Or.inr ⟨rfl, hS.1, hS.2, hB⟩
    · have e0 : (0 : Int32) ≤ R.1 := by
        rw [r1, Int32.le_iff_toInt_le]
        exact r2
      by_cases y : R.1 ≤ sS M d D
      · rw [if_pos ⟨e0, y⟩, if_neg (by rw [← r1]; exact Int32.not_lt.mpr y)]
        exact Or.inr ⟨r1, r2, r3, r4⟩
      · rw [if_neg (fun k => y k.2), if_pos (by rw [← r1]; exact Int32.not_le.mp y)]
        exact Or.inr ⟨rfl, hS.1, hS.2, hB⟩
  · intro ok
    have q1 : ¬ Q.1 = true := fun k => ok (h1.mp k).1
    rw [if_neg q1]
    exact hR
theorem dg_p {h pre x i : Nat} (hx : x < 6) (hi : i < h) : dg (h + 1) (pre * 6 + x) i = dg h pre i := by
  rw [dg_s hi, show (pre * 6 + x) / 6 = pre by omega]
theorem dg_q {h pre x : Nat} (hx : x < 6) : dg (h + 1) (pre * 6 + x) h = x := by
  rw [dg_e]
  omega
theorem lr_sr {M : mk_T} (H : Ic M) {d : Nat} (hd : d < mk_tr M) : ∀ k h pre free (D : Nat → Nat) (R : ls_T) (b : Int32 × (Nat → Nat)), h + k = mk_hz M → free < 64 → (∀ i, i < h → D i = dg h pre i) → RM M d R b → (okD M d h (dg h pre) → (∀ c, c < 6 → (¬ free / 2 ^ c % 2 = 0 ↔ gd M d c ∧ ∀ i, i < h → ¬ zp M d i → D i ≠ c)) → RM M d (ls_r M d (6 ^ k) (pre * 6 ^ k) R) (sr (sF M d) M d k h free D b)) ∧ (¬ okD M d h (dg h pre) → RM M d (ls_r M d (6 ^ k) (pre * 6 ^ k) R) b)
  | 0, h, pre, free, D, R, b, hh, hf, hD, hR => by
    have e : h = mk_hz M := by omega
    subst e
    rw [Nat.pow_zero, Nat.mul_one]
    obtain ⟨a1, a2⟩ := leaf H hd hD hR
    exact ⟨fun ok _ => a1 ok, a2⟩
  | k + 1, h, pre, free, D, R, b, hh, hf, hD, hR => by
    have h6 := H.1.2.1
    -- the first x digits
    have step : ∀ x, ls_r M d ((x + 1) * 6 ^ k) (pre * 6 ^ (k + 1)) R = ls_r M d (6 ^ k) ((pre * 6 + x) * 6 ^ k) (ls_r M d (x * 6 ^ k) (pre * 6 ^ (k + 1)) R) := fun x => by
      rw [Nat.succ_mul, ls_add]
      congr 1
      rw [Nat.pow_succ, Nat.add_mul, Nat.mul_assoc pre 6, Nat.mul_comm 6 (6 ^ k)]
    have z0 : ls_r M d (0 * 6 ^ k) (pre * 6 ^ (k + 1)) R = R := by
      rw [Nat.zero_mul]
      rfl
    have e6 : 6 ^ (k + 1) = 6 * 6 ^ k := by rw [Nat.pow_succ, Nat.mul_comm]
    have op : ∀ x, x < 6 → (okD M d (h + 1) (dg (h + 1) (pre * 6 + x)) ↔ okD M d h (dg h pre) ∧ (zp M d h → x = 0) ∧ (¬ zp M d h → gd M d x ∧ ∀ i, i < h → ¬ zp M d i → dg h pre i ≠ x)) := fun x hx => by
      rw [okD_s, okD_c (D' := dg h pre) (fun i hi => dg_p hx hi), dg_q hx]
      refine and_congr_right (fun _ => and_congr_right (fun _ => ?_))
      constructor
      · intro a z
        exact ⟨(a z).1, fun i hi hz => by rw [← dg_p (pre := pre) hx hi]; exact (a z).2 i hi hz⟩
      · intro a z
        exact ⟨(a z).1, fun i hi hz => by rw [dg_p hx hi]; exact (a z).2 i hi hz⟩
    have hDx : ∀ x, x < 6 → ∀ i, i < h + 1 → va_up D h x i = dg (h + 1) (pre * 6 + x) i := fun x hx i hi => by
      by_cases q : i = h
      · subst q
        rw [dg_q hx]
        exact if_pos rfl
      · rw [dg_p hx (by omega), ← hD i (by omega)]
        exact if_neg q
    rw [e6]
    refine ⟨fun ok hfr => ?_, fun ok => ?_⟩
    · unfold sr
      by_cases z : zp M d h
      · rw [if_pos z]
        have all : ∀ x, x ≤ 5 → RM M d (ls_r M d ((x + 1) * 6 ^ k) (pre * (6 * 6 ^ k)) R) (sr (sF M d) M d k (h + 1) free (va_up D h 0) b) := by
          rw [← e6]
          intro x
          induction x with
          | zero =>
            intro _
            rw [step 0, z0]
            refine (lr_sr H hd k (h + 1) (pre * 6 + 0) free (va_up D h 0) R b (by omega) hf (hDx 0 (by decide)) hR).1 ((op 0 (by decide)).mpr ⟨ok, fun _ => rfl, fun y => absurd z y⟩) (fun c hc => ?_)
            rw [hfr c hc]
            refine and_congr_right (fun _ => ?_)
            constructor
            · intro a i hi hz
              have q : i ≠ h := fun y => hz (y ▸ z)
              rw [show va_up D h 0 i = D i from if_neg q]
              exact a i (by omega) hz
            · intro a i hi hz
              have q : i ≠ h := by omega
              have := a i (by omega) hz
              rw [show va_up D h 0 i = D i from if_neg q] at this
              exact this
          | succ x ih =>
            intro hx
            rw [step (x + 1)]
            exact (lr_sr H hd k (h + 1) (pre * 6 + (x + 1)) free (va_up D h (x + 1)) _ _ (by omega) hf (hDx (x + 1) (by omega)) (ih (by omega))).2 (fun y => absurd (((op (x + 1) (by omega)).mp y).2.1 z) (by omega))
        exact all 5 (Nat.le_refl _)
      · rw [if_neg z]
        have all : ∀ x, x ≤ 6 → RM M d (ls_r M d (x * 6 ^ k) (pre * (6 * 6 ^ k)) R) (tk_lp (fun c b => if free / 2 ^ c % 2 = 0 then b else sr (sF M d) M d k (h + 1) (free ^^^ 2 ^ c) (va_up D h c) b) (min x (mk_tr M)) b) := by
          rw [← e6]
          intro x
          induction x with
          | zero =>
            intro _
            rw [z0, Nat.zero_min]
            exact hR
          | succ x ih =>
            intro hx
            have ih := ih (by omega)
            rw [step x]
            have hl := lr_sr H hd k (h + 1) (pre * 6 + x) (free ^^^ 2 ^ x) (va_up D h x) _ _ (by omega) (Nat.xor_lt_two_pow (n := 6) hf (Nat.pow_lt_pow_right (by decide) (by omega))) (hDx x (by omega)) ih
            have oq := op x (by omega)
            have fq := hfr x (by omega)
            by_cases y : free / 2 ^ x % 2 = 0
            · have nok : ¬ okD M d (h + 1) (dg (h + 1) (pre * 6 + x)) := fun u => by
                obtain ⟨g1, g2⟩ := (oq.mp u).2.2 z
                exact (fq.mpr ⟨g1, fun i hi hz => by rw [hD i hi]; exact g2 i hi hz⟩) y
              have hr := hl.2 nok
              by_cases v : x < mk_tr M
              · rw [show min (x + 1) (mk_tr M) = x + 1 by omega]
                rw [show min x (mk_tr M) = x by omega] at hr
                show RM M d _ (if free / 2 ^ x % 2 = 0 then _ else _)
                rw [if_pos y]
                exact hr
              · rw [show min (x + 1) (mk_tr M) = min x (mk_tr M) by omega]
                exact hr
            · obtain ⟨g1, g2⟩ := fq.mp y
              have v : x < mk_tr M := g1.1
              have ok2 : okD M d (h + 1) (dg (h + 1) (pre * 6 + x)) := oq.mpr ⟨ok, fun u => absurd u z, fun _ => ⟨g1, fun i hi hz => by rw [← hD i hi]; exact g2 i hi hz⟩⟩
              have hr := hl.1 ok2 (fun c hc => by
                have tx := tb_xo free hf x (by omega) y c hc
                constructor
                · intro u
                  have u2 : ¬ (free / 2 ^ c % 2 = 0 ∨ c = x) := fun k => u (tx.mpr k)
                  obtain ⟨a1, a2⟩ := (hfr c hc).mp (fun k => u2 (Or.inl k))
                  refine ⟨a1, fun i hi hz => ?_⟩
                  by_cases q : i = h
                  · subst q
                    rw [show va_up D i x i = x from if_pos rfl]
                    exact fun k => u2 (Or.inr k.symm)
                  · rw [show va_up D h x i = D i from if_neg q]
                    exact a2 i (by omega) hz
                · intro u k
                  rcases tx.mp k with k | k
                  · refine ((hfr c hc).mpr ⟨u.1, fun i hi hz => ?_⟩) k
                    have := u.2 i (by omega) hz
                    rw [show va_up D h x i = D i from if_neg (by omega)] at this
                    exact this
                  · have := u.2 h (Nat.lt_succ_self _) z
                    rw [show va_up D h x h = x from if_pos rfl] at this
                    exact this k.symm)
              rw [show min (x + 1) (mk_tr M) = x + 1 by omega]
              rw [show min x (mk_tr M) = x by omega] at hr
              show RM M d _ (if free / 2 ^ x % 2 = 0 then _ else _)
              rw [if_neg y]
              exact hr
        have := all 6 (Nat.le_refl _)
        rw [show min 6 (mk_tr M) = mk_tr M by omega] at this
        exact this
    · have all : ∀ x, x ≤ 6 → RM M d (ls_r M d (x * 6 ^ k) (pre * (6 * 6 ^ k)) R) b := by
        rw [← e6]
        intro x
        induction x with
        | zero =>
          intro _
          rw [z0]
          exact hR
        | succ x ih =>
          intro hx
          rw [step x]
          exact (lr_sr H hd k (h + 1) (pre * 6 + x) free (va_up D h x) _ _ (by omega) hf (hDx x (by omega)) (ih (by omega))).2 (fun y => ok ((op x (by omega)).mp y).1)
      exact all 6 (Nat.le_refl _)
/-- over all ways the two searches find the same -/
theorem lk_sB {M : mk_T} (H : Ic M) {d : Nat} (hd : d < mk_tr M) : RM M d (lk_R M d) (sB M d) := by
  have h6 := H.1.2.1
  have h := (lr_sr H hd (mk_hz M) 0 0 (tk_sd M d) (fun _ => 0) (-1, fun _ => 0, fun _ => 0) (1000000000, fun _ => 0) (Nat.zero_add _) (tk_sd_lt h6) (fun i hi => absurd hi (Nat.not_lt_zero _)) (Or.inl ⟨rfl, rfl⟩)).1 (fun i hi => absurd hi (Nat.not_lt_zero _)) (fun c hc => by
    have hb := so_bit (M := M) (d := d) h6 (mk_tr M) (Nat.le_refl _) c hc
    show ¬ tk_so M d (mk_tr M) / 2 ^ c % 2 = 0 ↔ _
    rw [hb]
    constructor
    · intro u
      exact ⟨Decidable.not_not.mp u, fun i hi => absurd hi (Nat.not_lt_zero _)⟩
    · intro u k
      exact k u.1)
  rw [Nat.zero_mul] at h
  exact h

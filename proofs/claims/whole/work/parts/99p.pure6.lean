/-! ===== PURE: who takes over; the sums ===== -/
abbrev zp (M : mk_T) (d h : Nat) : Prop := mk_po M (nI d) (nI h) = 0
/-- over all ways to give the positions on k horizons from h on to the free ones -/
def sr {β : Type} (F : (Nat → Nat) → β → β) (M : mk_T) (d k h free : Nat) (D : Nat → Nat) (b : β) : β := match k with
  | 0 => F D b
  | k + 1 => if zp M d h then sr F M d k (h + 1) free (va_up D h 0) b else tk_lp (fun c b => if free / 2 ^ c % 2 = 0 then b else sr F M d k (h + 1) (free ^^^ 2 ^ c) (va_up D h c) b) (mk_tr M) b
/-- what each keeps when the positions below h are given away by D -/
def afD (M : mk_T) (d h : Nat) (D : Nat → Nat) : Nat → Nat → Int32 := fun t c => if c < h ∧ ¬ zp M d c ∧ D c = t then tk_ag M d t c + mk_po M (nI d) (nI c) else tk_ag M d t c
def sS (M : mk_T) (d : Nat) (D : Nat → Nat) : Int32 := tk_sm (tk_sd M d) (afD M d (mk_hz M) D) (mk_ar M 2) (mk_hz M) (mk_tr M)
def sF (M : mk_T) (d : Nat) (D : Nat → Nat) (b : Int32 × (Nat → Nat)) : Int32 × (Nat → Nat) := if sS M d D < b.1 then (sS M d D, D) else b
/-- how many positions there are below h -/
def pl (M : mk_T) (d h : Nat) : Nat := (tk_pz M d h).length
theorem pl_0 {M : mk_T} {d h : Nat} (z : zp M d h) : pl M d (h + 1) = pl M d h := congrArg List.length (if_pos z)
theorem pl_1 {M : mk_T} {d h : Nat} (z : ¬ zp M d h) : pl M d (h + 1) = pl M d h + 1 := (congrArg List.length (if_neg z : tk_pz M d (h + 1) = _)).trans (by rw [List.length_append]; rfl)
theorem pl_le {M : mk_T} {d : Nat} : ∀ k h, pl M d h ≤ pl M d (h + k)
  | 0, h => Nat.le_refl _
  | k + 1, h => by
    have ih := pl_le (M := M) (d := d) k h
    by_cases z : zp M d (h + k)
    · rw [← Nat.add_assoc, pl_0 z]
      exact ih
    · rw [← Nat.add_assoc, pl_1 z]
      omega
theorem pl_lt {M : mk_T} {d h h2 : Nat} (hh : h < h2) (z : ¬ zp M d h) : pl M d h < pl M d h2 := by
  have h1 := pl_1 z
  have h3 := pl_le (M := M) (d := d) (h2 - (h + 1)) (h + 1)
  rw [show h + 1 + (h2 - (h + 1)) = h2 by omega] at h3
  omega
theorem pz_at {M : mk_T} {d h : Nat} (z : ¬ zp M d h) : ∀ c, h < c → (tk_pz M d c).getD (pl M d h) (0, 0) = (h, mk_po M (nI d) (nI h))
  | 0, hc => absurd hc (Nat.not_lt_zero _)
  | c + 1, hc => by
    have h9 : pl M d h < (tk_pz M d (c + 1)).length := pl_lt hc z
    unfold tk_pz at h9 ⊢
    by_cases q : h = c
    · subst q
      rw [if_neg z]
      unfold pl
      simp
    · have ih := pz_at z c (by omega)
      have h8 : pl M d h < (tk_pz M d c).length := pl_lt (by omega) z
      split
      · exact ih
      · simp only [List.getD_eq_getElem?_getD] at ih ⊢
        rw [List.getElem?_append_left h8]
        exact ih
theorem afD_0 (M : mk_T) (d : Nat) (D : Nat → Nat) : afD M d 0 D = tk_ag M d := funext fun t => funext fun c => if_neg (fun z => Nat.not_lt_zero _ z.1)
theorem afD_z {M : mk_T} {d h : Nat} {D : Nat → Nat} {x : Nat} (z : zp M d h) : afD M d (h + 1) (va_up D h x) = afD M d h D := by
  refine funext fun t => funext fun c => ?_
  unfold afD
  by_cases q : c = h
  · subst q
    rw [if_neg (fun y => y.2.1 z), if_neg (fun y => y.2.1 z)]
  · have e : va_up D h x c = D c := if_neg q
    rw [e]
    by_cases y : c < h ∧ ¬ zp M d c ∧ D c = t
    · rw [if_pos y, if_pos ⟨by omega, y.2⟩]
    · rw [if_neg y, if_neg (fun u => y ⟨by omega, u.2⟩)]
theorem afD_s {M : mk_T} {d h : Nat} {D : Nat → Nat} {x : Nat} (z : ¬ zp M d h) : tk_af (afD M d h D) x h (mk_po M (nI d) (nI h)) = afD M d (h + 1) (va_up D h x) := by
  refine funext fun t => funext fun c => ?_
  show va_up (afD M d h D) x (upd (afD M d h D x) h (afD M d h D x h + mk_po M (nI d) (nI h))) t c = _
  unfold va_up
  by_cases q : t = x
  · subst q
    rw [if_pos rfl]
    by_cases p : c = h
    · subst p
      rw [pk_us]
      unfold afD
      rw [if_neg (fun y => Nat.lt_irrefl _ y.1), if_pos ⟨Nat.lt_succ_self _, z, if_pos rfl⟩]
    · rw [pk_un p]
      unfold afD
      have e : (fun j => if j = h then t else D j) c = D c := if_neg p
      rw [e]
      by_cases y : c < h ∧ ¬ zp M d c ∧ D c = t
      · rw [if_pos y, if_pos ⟨by omega, y.2⟩]
      · rw [if_neg y, if_neg (fun u => y ⟨by omega, u.2⟩)]
  · rw [if_neg q]
    unfold afD
    by_cases p : c = h
    · subst p
      rw [if_neg (fun y => Nat.lt_irrefl _ y.1), if_neg (fun y => q (((if_pos rfl).symm.trans y.2.2).symm))]
    · have e : (fun j => if j = h then x else D j) c = D c := if_neg p
      rw [e]
      by_cases y : c < h ∧ ¬ zp M d c ∧ D c = t
      · rw [if_pos y, if_pos ⟨by omega, y.2⟩]
      · rw [if_neg y, if_neg (fun u => y ⟨by omega, u.2⟩)]
/-- the class's best way and the one by horizons -/
def RB (M : mk_T) (d : Nat) (b : tk_B) (b' : Int32 × (Nat → Nat)) : Prop := b.1 = b'.1 ∧ ∀ h, h < mk_hz M → ¬ zp M d h → b.2 (pl M d h) = nI (b'.2 h)
theorem lp_rel {α β : Type} {P : Nat → α → α} {Q : Nat → β → β} {r : α → β → Prop} (h : ∀ c, (∀ a b, r a b → r (P c a) (Q c b))) {a : α} {b : β} (h0 : r a b) : ∀ c, r (tk_lp P c a) (tk_lp Q c b)
  | 0 => h0
  | c + 1 => h c _ _ (lp_rel h h0 c)
theorem lp_rel_lt {α β : Type} {P : Nat → α → α} {Q : Nat → β → β} {r : α → β → Prop} {n : Nat} (h : ∀ c, c < n → (∀ a b, r a b → r (P c a) (Q c b))) {a : α} {b : β} (h0 : r a b) : ∀ c, c ≤ n → r (tk_lp P c a) (tk_lp Q c b)
  | 0, _ => h0
  | c + 1, hc => h c (by omega) _ _ (lp_rel_lt h h0 c (by omega))
theorem try_sr {M : mk_T} {d : Nat} (hz4 : mk_hz M ≤ 4) (ht6 : mk_tr M ≤ 6) : ∀ k h free (tk : Nat → Int32) (D : Nat → Nat) (b : tk_B) (b' : Int32 × (Nat → Nat)), h + k = mk_hz M → free < 64 → RB M d b b' → (∀ i, i < h → ¬ zp M d i → tk (pl M d i) = nI (D i)) → RB M d (tk_try (tk_sd M d) (mk_tr M) (mk_hz M) (tk_nd M d) (mk_ar M 2) (tk_h0 M d) (tk_p0 M d) (tk_nd M d - pl M d h) free tk (afD M d h D) b) (sr (sF M d) M d k h free D b')
  | 0, h, free, tk, D, b, b', hh, hf, hb, ht => by
    have e : h = mk_hz M := by omega
    subst e
    have e2 : tk_nd M d - pl M d (mk_hz M) = 0 := Nat.sub_self _
    rw [e2]
    show RB M d (if sS M d D < b.1 then (sS M d D, tk) else b) (if sS M d D < b'.1 then (sS M d D, D) else b')
    rw [← hb.1]
    split
    · exact ⟨rfl, ht⟩
    · exact hb
  | k + 1, h, free, tk, D, b, b', hh, hf, hb, ht => by
    unfold sr
    by_cases z : zp M d h
    · rw [if_pos z]
      have ih := try_sr hz4 ht6 k (h + 1) free tk (va_up D h 0) b b' (by omega) hf hb (fun i hi hz => by
        have q : i ≠ h := fun y => hz (y ▸ z)
        rw [ht i (by omega) hz]
        exact congrArg nI (show D i = (if i = h then 0 else D i) from (if_neg q).symm))
      rw [pl_0 z, afD_z z] at ih
      exact ih
    · rw [if_neg z]
      have hlt : pl M d h < tk_nd M d := pl_lt (by omega) z
      have e1 : tk_nd M d - pl M d h = (tk_nd M d - pl M d (h + 1)) + 1 := by
        have := pl_1 z
        omega
      have e2 : tk_nd M d - (tk_nd M d - pl M d (h + 1) + 1) = pl M d h := by omega
      rw [e1]
      unfold tk_try
      rw [e2]
      have e3 : (tk_h0 M d (pl M d h)).toNatClampNeg = h := by
        show (nI ((tk_pz M d (mk_hz M)).getD (pl M d h) (0, 0)).1).toNatClampNeg = h
        rw [pz_at z _ (by omega)]
        exact nI_clamp (by omega)
      have e4 : tk_p0 M d (pl M d h) = mk_po M (nI d) (nI h) := by
        show ((tk_pz M d (mk_hz M)).getD (pl M d h) (0, 0)).2 = _
        rw [pz_at z _ (by omega)]
      rw [e3, e4]
      refine lp_rel_lt (n := mk_tr M) (fun c hc a a' ha => ?_) hb _ (Nat.le_refl _)
      have hbit := tb_i free hf c (by omega)
      show RB M d (if (nI free >>> (nI c &&& 31)) &&& nI 1 = 0 then a else _) (if free / 2 ^ c % 2 = 0 then a' else _)
      by_cases y : free / 2 ^ c % 2 = 0
      · rw [if_pos y, if_pos (hbit.mpr y)]
        exact ha
      · rw [if_neg y, if_neg (fun u => y (hbit.mp u)), afD_s z]
        refine try_sr hz4 ht6 k (h + 1) (free ^^^ 2 ^ c) _ _ _ _ (by omega) (Nat.xor_lt_two_pow (n := 6) hf (Nat.pow_lt_pow_right (by decide) (by omega))) ha (fun i hi hz => ?_)
        by_cases q : i = h
        · subst q
          rw [pk_us]
          exact congrArg nI (show c = (if i = i then c else D i) from (if_pos rfl).symm)
        · have hi2 := pl_lt (show i < h by omega) hz
          rw [pk_un (by omega), ht i (by omega) hz]
          exact congrArg nI (show D i = (if i = h then c else D i) from (if_neg q).symm)
/-- the best way by horizons -/
def sB (M : mk_T) (d : Nat) : Int32 × (Nat → Nat) := sr (sF M d) M d (mk_hz M) 0 (tk_sd M d) (fun _ => 0) (1000000000, fun _ => 0)
theorem tk_sd_lt {M : mk_T} {d : Nat} (ht6 : mk_tr M ≤ 6) : tk_sd M d < 64 := Nat.lt_of_lt_of_le (tk_so_lt M d _) (hp_p6 ht6)
theorem res_sB {M : mk_T} {d : Nat} (hz4 : mk_hz M ≤ 4) (ht6 : mk_tr M ≤ 6) : RB M d (tk_res M d) (sB M d) := by
  have h := try_sr (d := d) hz4 ht6 (mk_hz M) 0 (tk_sd M d) (fun _ => 0) (fun _ => 0) (1000000000, fun _ => 0) (1000000000, fun _ => 0) (Nat.zero_add _) (tk_sd_lt ht6) ⟨rfl, fun _ _ _ => rfl⟩ (fun i hi => absurd hi (Nat.not_lt_zero i))
  rw [afD_0] at h
  exact h
/-! bounds -/
theorem i_add {a b : Int32} {m n : Int} (ha : -m ≤ a.toInt ∧ a.toInt ≤ m) (hb : -n ≤ b.toInt ∧ b.toInt ≤ n) (h : m + n ≤ 2000000000) : (a + b).toInt = a.toInt + b.toInt := by
  rw [Int32.toInt_add]
  exact Int.bmod_eq_of_le (by omega) (by omega)
theorem i_sub {a b : Int32} {m n : Int} (ha : -m ≤ a.toInt ∧ a.toInt ≤ m) (hb : -n ≤ b.toInt ∧ b.toInt ≤ n) (h : m + n ≤ 2000000000) : (a - b).toInt = a.toInt - b.toInt := by
  rw [Int32.toInt_sub]
  exact Int.bmod_eq_of_le (by omega) (by omega)
theorem i_neg {a : Int32} (ha : -2000000000 ≤ a.toInt ∧ a.toInt ≤ 2000000000) : (-a).toInt = -a.toInt := by
  rw [Int32.toInt_neg]
  exact Int.bmod_eq_of_le (by omega) (by omega)
theorem i_mul {a b : Int32} {m : Int} (h : -m ≤ a.toInt * b.toInt ∧ a.toInt * b.toInt ≤ m) (hm : m ≤ 2000000000) : (a * b).toInt = a.toInt * b.toInt := by
  rw [Int32.toInt_mul]
  exact Int.bmod_eq_of_le (by omega) (by omega)
theorem i_abs {a : Int32} (ha : -2000000000 ≤ a.toInt ∧ a.toInt ≤ 2000000000) : (hp_abs a).toInt = if 0 ≤ a.toInt then a.toInt else -a.toInt := by
  unfold hp_abs
  by_cases z : (0 : Int32) ≤ a
  · have z2 := Int32.le_iff_toInt_le.mp z
    rw [if_pos z, if_pos (show 0 ≤ a.toInt from z2)]
  · have z2 : ¬ 0 ≤ a.toInt := fun y => z (Int32.le_iff_toInt_le.mpr y)
    rw [if_neg z, if_neg z2, Int32.zero_sub]
    exact i_neg ha
theorem pw_bd {M : mk_T} (H : Ic M) (t on ot : Int32) : ∀ c, c ≤ mk_ct M → -(20 * (c : Int)) ≤ (mk_pw M t on ot c).toInt ∧ (mk_pw M t on ot c).toInt ≤ 20 * (c : Int)
  | 0, _ => by
    show -(20 * ((0 : Nat) : Int)) ≤ (0 : Int32).toInt ∧ (0 : Int32).toInt ≤ 20 * ((0 : Nat) : Int)
    decide
  | c + 1, hc => by
    have ih := pw_bd H t on ot c (by omega)
    obtain ⟨b, s, h, q, hb, hs, hbs, hh, hq1, hq2, e5, e6, e7, e8⟩ := H.2.2.1 c (by omega)
    have h20 := H.1.2.2
    have eq : (mk_ar M 8 c).toInt = (q : Int) := by rw [e8]; exact nI_toInt (by omega)
    unfold mk_pw
    split
    · split
      · rw [i_add (m := 20 * (c : Int)) (n := 20) ih (by omega) (by omega)]
        omega
      · split
        · rw [i_sub (m := 20 * (c : Int)) (n := 20) ih (by omega) (by omega)]
          omega
        · omega
    · omega
theorem po_bd {M : mk_T} (H : Ic M) (t on : Int32) : -400 ≤ (mk_po M t on).toInt ∧ (mk_po M t on).toInt ≤ 400 := by
  have h := pw_bd H t on (-1) _ (Nat.le_refl _)
  have h20 := H.1.2.2
  show -400 ≤ (mk_pw M t on (-1) (mk_ct M)).toInt ∧ (mk_pw M t on (-1) (mk_ct M)).toInt ≤ 400
  omega
theorem ag_bd {M : mk_T} (H : Ic M) (d t c : Nat) : -400 ≤ (tk_ag M d t c).toInt ∧ (tk_ag M d t c).toInt ≤ 400 := by
  have h := pw_bd H (nI t) (nI c) (tk_en M d c) _ (Nat.le_refl _)
  have h20 := H.1.2.2
  show -400 ≤ (mk_pw M (nI t) (nI c) (tk_en M d c) (mk_ct M)).toInt ∧ (mk_pw M (nI t) (nI c) (tk_en M d c) (mk_ct M)).toInt ≤ 400
  omega
theorem afD_bd {M : mk_T} (H : Ic M) (d h : Nat) (D : Nat → Nat) (t c : Nat) : -800 ≤ (afD M d h D t c).toInt ∧ (afD M d h D t c).toInt ≤ 800 := by
  have h1 := ag_bd H d t c
  have h2 := po_bd H (nI d) (nI c)
  unfold afD
  split
  · rw [i_add (m := 400) (n := 400) h1 h2 (by decide)]
    omega
  · omega
theorem rg_bd {M : mk_T} (H : Ic M) {c : Nat} (hc : c < mk_hz M) : 1 ≤ (mk_ar M 2 c).toInt ∧ (mk_ar M 2 c).toInt ≤ 20 := by
  obtain ⟨p, u, r, -, -, -, -, h1, h2, -, -, e⟩ := H.2.1 c hc
  rw [e, nI_toInt (by omega)]
  omega
theorem ml_bd {a b : Int} {m : Int} (h0 : 0 ≤ a) (h1 : a ≤ m) (h2 : 1 ≤ b) (h3 : b ≤ 20) : 0 ≤ a * b ∧ a * b ≤ m * 20 := ⟨Int.mul_nonneg h0 (by omega), Int.mul_le_mul h1 h3 (by omega) (by omega)⟩
theorem s1_bd {M : mk_T} (H : Ic M) {af : Nat → Nat → Int32} (haf : ∀ t c, -800 ≤ (af t c).toInt ∧ (af t c).toInt ≤ 800) {t : Nat} {x : Int32} {m : Int} (hx : 0 ≤ x.toInt ∧ x.toInt ≤ m) (hm : m ≤ 1000000) : ∀ c, c ≤ mk_hz M → 0 ≤ (tk_s1 af (mk_ar M 2) t x c).toInt ∧ (tk_s1 af (mk_ar M 2) t x c).toInt ≤ m + 16000 * (c : Int)
  | 0, _ => by
    show 0 ≤ x.toInt ∧ x.toInt ≤ m + 16000 * ((0 : Nat) : Int)
    omega
  | c + 1, hc => by
    have ih := s1_bd H haf (t := t) hx hm c (by omega)
    have hr := rg_bd H (c := c) (by omega)
    have ha := haf t c
    have h4 := H.1.1
    have eb := i_abs (a := af t c) (by omega)
    have hb : 0 ≤ (hp_abs (af t c)).toInt ∧ (hp_abs (af t c)).toInt ≤ 800 := by
      rw [eb]
      split <;> omega
    have hm2 := ml_bd hb.1 hb.2 hr.1 hr.2
    have em := i_mul (a := hp_abs (af t c)) (b := mk_ar M 2 c) (m := 16000) (by omega) (by decide)
    unfold tk_s1
    rw [i_add (m := m + 16000 * (c : Int)) (n := 16000) (by omega) (by omega) (by omega), em]
    omega
theorem sm_bd {M : mk_T} (H : Ic M) {sd : Nat} {af : Nat → Nat → Int32} (haf : ∀ t c, -800 ≤ (af t c).toInt ∧ (af t c).toInt ≤ 800) : ∀ c, c ≤ 6 → 0 ≤ (tk_sm sd af (mk_ar M 2) (mk_hz M) c).toInt ∧ (tk_sm sd af (mk_ar M 2) (mk_hz M) c).toInt ≤ 64000 * (c : Int)
  | 0, _ => by
    show 0 ≤ (nI 0).toInt ∧ (nI 0).toInt ≤ 64000 * ((0 : Nat) : Int)
    decide
  | c + 1, hc => by
    have ih := sm_bd H (sd := sd) haf c (by omega)
    have h4 := H.1.1
    unfold tk_sm
    split
    · omega
    · have h9 := s1_bd H haf (t := c) ih (by omega) (mk_hz M) (Nat.le_refl _)
      omega
theorem sS_bd {M : mk_T} (H : Ic M) (d : Nat) (D : Nat → Nat) : 0 ≤ (sS M d D).toInt ∧ (sS M d D).toInt ≤ 384000 := by
  have h := sm_bd H (sd := tk_sd M d) (afD_bd H d (mk_hz M) D) (mk_tr M) H.1.2.1
  have h6 := H.1.2.1
  unfold sS
  omega

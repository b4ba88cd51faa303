/-! ===== PURE: margins over scenarios, accounts ===== -/
/-- a position's weight -/
def ph (M : mk_T) (t : Int32) (h : Nat) : Int := (mk_po M t (nI h)).toInt * (mk_ar M 2 h).toInt
theorem ph_bd {M : mk_T} (H : Ic M) (t : Int32) {h : Nat} (hh : h < mk_hz M) : -8000 ≤ ph M t h ∧ ph M t h ≤ 8000 ∧ (mk_po M t (nI h) * mk_ar M 2 h).toInt = ph M t h ∧ (hp_abs (mk_po M t (nI h)) * mk_ar M 2 h).toInt = iab (ph M t h) := by
  have hp := po_bd H t (nI h)
  have hr := rg_bd H hh
  have eb := i_abs (a := mk_po M t (nI h)) (by omega)
  by_cases z : 0 ≤ (mk_po M t (nI h)).toInt
  · rw [if_pos z] at eb
    have hm := ml_bd z hp.2 hr.1 hr.2
    have h1 : ph M t h = (mk_po M t (nI h)).toInt * (mk_ar M 2 h).toInt := rfl
    have e1 := i_mul (a := mk_po M t (nI h)) (b := mk_ar M 2 h) (m := 8000) (by omega) (by decide)
    have e2 := i_mul (a := hp_abs (mk_po M t (nI h))) (b := mk_ar M 2 h) (m := 8000) (by rw [eb]; omega) (by decide)
    refine ⟨by omega, by omega, e1, ?_⟩
    rw [e2, eb, ← h1]
    unfold iab
    rw [if_pos (by omega)]
  · rw [if_neg z] at eb
    have hm := ml_bd (a := -(mk_po M t (nI h)).toInt) (m := 400) (by omega) (by omega) hr.1 hr.2
    rw [Int.neg_mul] at hm
    have h1 : ph M t h = (mk_po M t (nI h)).toInt * (mk_ar M 2 h).toInt := rfl
    have e1 := i_mul (a := mk_po M t (nI h)) (b := mk_ar M 2 h) (m := 8000) (by omega) (by decide)
    have e2 := i_mul (a := hp_abs (mk_po M t (nI h))) (b := mk_ar M 2 h) (m := 8000) (by rw [eb, Int.neg_mul]; omega) (by decide)
    refine ⟨by omega, by omega, e1, ?_⟩
    rw [e2, eb, Int.neg_mul, ← h1]
    unfold iab
    split <;> omega
theorem mg_i {M : mk_T} (H : Ic M) (t : Int32) : ∀ c, c ≤ mk_hz M → (mk_mg M t c).toInt = sI (fun h => iab (ph M t h)) c ∧ 0 ≤ (mk_mg M t c).toInt ∧ (mk_mg M t c).toInt ≤ 8000 * (c : Int)
  | 0, _ => ⟨by
      show (0 : Int32).toInt = 0
      decide, by
      show 0 ≤ (0 : Int32).toInt
      decide, by
      show (0 : Int32).toInt ≤ 8000 * ((0 : Nat) : Int)
      decide⟩
  | c + 1, hc => by
    obtain ⟨i1, i2, i3⟩ := mg_i H t c (by omega)
    obtain ⟨b1, b2, b3, b4⟩ := ph_bd H t (h := c) (by omega)
    have h4 := H.1.1
    have hi : 0 ≤ iab (ph M t c) ∧ iab (ph M t c) ≤ 8000 := ⟨iab_0 _, by unfold iab; split <;> omega⟩
    have e : (mk_mg M t (c + 1)).toInt = (mk_mg M t c).toInt + iab (ph M t c) := by
      rw [show mk_mg M t (c + 1) = mk_mg M t c + hp_abs (mk_po M t (nI c)) * mk_ar M 2 c from rfl, i_add (m := 8000 * (c : Int)) (n := 8000) (by omega) (by rw [b4]; omega) (by omega), b4]
    refine ⟨?_, by omega, by omega⟩
    rw [e, i1]
    rfl
/-- the sign of a scenario on a horizon -/
def sn (s h : Nat) (x : Int) : Int := if s / 2 ^ h % 2 = 0 then x else -x
theorem sl_i {M : mk_T} (H : Ic M) (t : Int32) {s : Nat} (hs : s < 64) : ∀ c, c ≤ mk_hz M → (mk_sl M t s c).toInt = sI (fun h => sn s h (ph M t h)) c ∧ -(8000 * (c : Int)) ≤ (mk_sl M t s c).toInt ∧ (mk_sl M t s c).toInt ≤ 8000 * (c : Int)
  | 0, _ => ⟨by
      show (nI 0).toInt = 0
      decide, by
      show -(8000 * ((0 : Nat) : Int)) ≤ (nI 0).toInt
      decide, by
      show (nI 0).toInt ≤ 8000 * ((0 : Nat) : Int)
      decide⟩
  | c + 1, hc => by
    obtain ⟨i1, i2, i3⟩ := sl_i H t hs c (by omega)
    obtain ⟨b1, b2, b3, b4⟩ := ph_bd H t (h := c) (by omega)
    have h4 := H.1.1
    have hb := tb_i s hs c (by omega)
    have e : (mk_sl M t s (c + 1)).toInt = (mk_sl M t s c).toInt + sn s c (ph M t c) := by
      show (mk_sl M t s c + (if ((nI s >>> (nI c &&& 31)) &&& nI 1) = 0 then mk_po M t (nI c) * mk_ar M 2 c else -(mk_po M t (nI c) * mk_ar M 2 c))).toInt = _
      unfold sn
      by_cases z : s / 2 ^ c % 2 = 0
      · rw [if_pos (hb.mpr z), if_pos z, i_add (m := 8000 * (c : Int)) (n := 8000) (by omega) (by rw [b3]; omega) (by omega), b3]
      · rw [if_neg (fun y => z (hb.mp y)), if_neg z]
        have en := i_neg (a := mk_po M t (nI c) * mk_ar M 2 c) (by rw [b3]; omega)
        rw [i_add (m := 8000 * (c : Int)) (n := 8000) (by omega) (by rw [en, b3]; omega) (by omega), en, b3]
    have hsn : -8000 ≤ sn s c (ph M t c) ∧ sn s c (ph M t c) ≤ 8000 := by
      unfold sn
      split <;> omega
    refine ⟨?_, by omega, by omega⟩
    rw [e, i1]
    rfl
theorem sI_mono {f g : Nat → Int} : ∀ n, (∀ i, i < n → f i ≤ g i) → sI f n ≤ sI g n
  | 0, _ => Int.le_refl _
  | n + 1, h => by
    have h1 := sI_mono n (fun i hi => h i (by omega))
    have h2 := h n (Nat.lt_succ_self n)
    unfold sI
    omega
theorem sl_le {M : mk_T} (H : Ic M) (t : Int32) {s : Nat} (hs : s < 64) : (mk_sl M t s (mk_hz M)).toInt ≤ (mk_mg M t (mk_hz M)).toInt := by
  rw [(sl_i H t hs _ (Nat.le_refl _)).1, (mg_i H t _ (Nat.le_refl _)).1]
  refine sI_mono _ (fun i _ => ?_)
  unfold sn iab
  split <;> split <;> omega
/-- the worst scenario -/
def wo (M : mk_T) (t : Int32) (c : Nat) : Nat := match c with
  | 0 => 0
  | c + 1 => if ph M t c < 0 then wo M t c ||| 2 ^ c else wo M t c
theorem wo_b (M : mk_T) (t : Int32) : ∀ c, c ≤ 4 → wo M t c < 2 ^ c ∧ ∀ h, h < 4 → (wo M t c / 2 ^ h % 2 = 0 ↔ ¬ (h < c ∧ ph M t h < 0))
  | 0, _ => ⟨by show 0 < 2 ^ 0; decide, fun h hh => by
    show 0 / 2 ^ h % 2 = 0 ↔ _
    rw [Nat.zero_div]
    exact ⟨fun _ z => Nat.not_lt_zero _ z.1, fun _ => rfl⟩⟩
  | c + 1, hc => by
    obtain ⟨i1, i2⟩ := wo_b M t c (by omega)
    have e2 : 2 ^ (c + 1) = 2 ^ c * 2 := Nat.pow_succ 2 c
    have i64 : wo M t c < 64 := Nat.lt_of_lt_of_le i1 (hp_p6 (by omega))
    unfold wo
    by_cases z : ph M t c < 0
    · rw [if_pos z]
      refine ⟨Nat.or_lt_two_pow (by omega) (by omega), fun h hh => ?_⟩
      rw [tb_or _ i64 c (by omega) h (by omega), i2 h hh]
      constructor
      · intro a b
        by_cases q : h = c
        · exact a.2 q
        · exact a.1 ⟨by omega, b.2⟩
      · intro a
        refine ⟨fun b => a ⟨by omega, b.2⟩, fun q => a ?_⟩
        subst q
        exact ⟨Nat.lt_succ_self _, z⟩
    · rw [if_neg z]
      refine ⟨by omega, fun h hh => ?_⟩
      rw [i2 h hh]
      constructor
      · intro a b
        by_cases q : h = c
        · exact z (q ▸ b.2)
        · exact a ⟨by omega, b.2⟩
      · intro a b
        exact a ⟨by omega, b.2⟩
theorem ms_i {M : mk_T} (t : Int32) {m : Int} (hm : 0 ≤ m) : ∀ n, (∀ s, s < n → (mk_sl M t s (mk_hz M)).toInt ≤ m) → (mk_ms M t n).toInt ≤ m ∧ ∀ s, s < n → (mk_sl M t s (mk_hz M)).toInt ≤ (mk_ms M t n).toInt
  | 0, _ => ⟨by
      show (nI 0).toInt ≤ m
      have : (nI 0).toInt = 0 := by decide
      omega, fun s hs => absurd hs (Nat.not_lt_zero _)⟩
  | n + 1, h => by
    obtain ⟨i1, i2⟩ := ms_i t hm n (fun s hs => h s (by omega))
    have hn := h n (Nat.lt_succ_self n)
    unfold mk_ms
    by_cases z : mk_ms M t n < mk_sl M t n (mk_hz M)
    · have z2 := Int32.lt_iff_toInt_lt.mp z
      rw [if_pos z]
      refine ⟨hn, fun s hs => ?_⟩
      by_cases q : s = n
      · subst q
        exact Int.le_refl _
      · have := i2 s (by omega)
        omega
    · have z2 := Int32.le_iff_toInt_le.mp (Int32.not_lt.mp z)
      rw [if_neg z]
      refine ⟨i1, fun s hs => ?_⟩
      by_cases q : s = n
      · subst q
        exact z2
      · exact i2 s (by omega)
/-- the margin over all scenarios is the margin by positions -/
theorem ms_mg {M : mk_T} (H : Ic M) (t : Int32) : mk_ms M t (2 ^ mk_hz M) = mk_mg M t (mk_hz M) := by
  have h4 := H.1.1
  have h16 : 2 ^ mk_hz M ≤ 64 := hp_p6 (by omega)
  have hg := mg_i H t _ (Nat.le_refl (mk_hz M))
  obtain ⟨m1, m2⟩ := ms_i (M := M) t hg.2.1 (2 ^ mk_hz M) (fun s hs => sl_le H t (by omega))
  obtain ⟨w1, w2⟩ := wo_b M t (mk_hz M) h4
  have hw := m2 _ w1
  have e : (mk_sl M t (wo M t (mk_hz M)) (mk_hz M)).toInt = (mk_mg M t (mk_hz M)).toInt := by
    rw [(sl_i H t (by omega) _ (Nat.le_refl _)).1, hg.1]
    refine sI_c _ (fun h hh => ?_)
    have := w2 h (by omega)
    unfold sn iab
    by_cases z : wo M t (mk_hz M) / 2 ^ h % 2 = 0
    · rw [if_pos z, if_pos]
      have := this.mp z
      have : ¬ ph M t h < 0 := fun y => this ⟨hh, y⟩
      omega
    · rw [if_neg z, if_neg]
      intro y
      exact z (this.mpr (fun k => by omega))
  apply Int32.toInt.inj
  omega
/-! accounts -/
theorem as_i {w : Nat} {M : mk_T} (A : Ac w M) (hw : w ≤ 599) (ht : mk_tr M ≤ 6) : (mk_as M (mk_tr M)).toInt = (mk_fu M).toInt + sm M (mk_tr M) ∧ (mo_as M (mk_tr M)).toInt = (mk_fu M).toInt + sm M (mk_tr M) := by
  have hm := fun t (h : t < mk_tr M) => A.m (by omega) h
  obtain ⟨f1, f2, f3⟩ := A.f (by omega)
  have f0 := A.1
  have hab := A.2.2.1
  -- the partial sums stay small
  have hpart : ∀ n, n ≤ mk_tr M → -(ab M n) ≤ sm M n ∧ sm M n ≤ ab M n := by
    intro n
    induction n with
    | zero => exact fun _ => ⟨by show -(0 : Int) ≤ 0; decide, by show (0 : Int) ≤ 0; decide⟩
    | succ n ih =>
      intro hn
      have := ih (by omega)
      show -(ab M n + iab (mk_ar M 3 n).toInt) ≤ sm M n + (mk_ar M 3 n).toInt ∧ sm M n + (mk_ar M 3 n).toInt ≤ ab M n + iab (mk_ar M 3 n).toInt
      have h2 : -(iab (mk_ar M 3 n).toInt) ≤ (mk_ar M 3 n).toInt ∧ (mk_ar M 3 n).toInt ≤ iab (mk_ar M 3 n).toInt := by
        unfold iab
        split <;> omega
      omega
  have habm : ∀ n, n ≤ mk_tr M → ab M n ≤ ab M (mk_tr M) := by
    intro n hn
    have : ∀ k, ab M n ≤ ab M (n + k) := by
      intro k
      induction k with
      | zero => exact Int.le_refl _
      | succ k ih =>
        have h0 := iab_0 (mk_ar M 3 (n + k)).toInt
        show ab M n ≤ ab M (n + k) + iab (mk_ar M 3 (n + k)).toInt
        omega
    have h9 := this (mk_tr M - n)
    rw [show n + (mk_tr M - n) = mk_tr M by omega] at h9
    exact h9
  have hb : ∀ n, n ≤ mk_tr M → -700000000 ≤ (mk_fu M).toInt + sm M n ∧ (mk_fu M).toInt + sm M n ≤ 1300000000 := by
    intro n hn
    have := hpart n hn
    have := habm n hn
    have := A.2.1
    omega
  constructor
  · have e : ∀ n, n ≤ mk_tr M → (mk_as M n).toInt = (mk_fu M).toInt + sm M n := by
      intro n
      induction n with
      | zero =>
        intro _
        show ((mk_fu M).toInt64).toInt = (mk_fu M).toInt + 0
        rw [Int32.toInt_toInt64, Int.add_zero]
      | succ n ih =>
        intro hn
        have h1 := ih (by omega)
        have h2 := hb n (by omega)
        have h3 := hb (n + 1) hn
        have h4 : sm M (n + 1) = sm M n + (mk_ar M 3 n).toInt := rfl
        show (mk_as M n + (mk_ar M 3 n).toInt64).toInt = _
        rw [Int64.toInt_add, Int32.toInt_toInt64, h1, Int.bmod_eq_of_le (by omega) (by omega)]
        omega
    exact e _ (Nat.le_refl _)
  · have e : ∀ n, n ≤ mk_tr M → (mo_as M n).toInt = (mk_fu M).toInt + sm M n := by
      intro n
      induction n with
      | zero =>
        intro _
        show (mk_fu M).toInt = (mk_fu M).toInt + 0
        rw [Int.add_zero]
      | succ n ih =>
        intro hn
        have h1 := ih (by omega)
        have h2 := hb n (by omega)
        have h3 := hb (n + 1) hn
        have h4 : sm M (n + 1) = sm M n + (mk_ar M 3 n).toInt := rfl
        show (mo_as M n + mk_ar M 3 n).toInt = _
        rw [Int32.toInt_add, h1, Int.bmod_eq_of_le (by omega) (by omega)]
        omega
    exact e _ (Nat.le_refl _)
/-- the class's accounts add up, and the model's -/
theorem acc_c {w : Nat} {M : mk_T} (A : Ac w M) (hw : w ≤ 599) (ht : mk_tr M ≤ 6) : mk_as M (mk_tr M) = M.2.2.2.1 - M.2.2.2.2 + M.2.2.1.2.2.toInt64 := by
  have e := (as_i A hw ht).1
  obtain ⟨f1, f2, f3⟩ := A.f (by omega)
  obtain ⟨a1, a2, a3, a4, a5, a6, a7, a8, -⟩ := A
  apply Int64.toInt.inj
  rw [e, Int64.toInt_add, Int64.toInt_sub, Int32.toInt_toInt64]
  have e2 : M.2.2.1.2.2 = mk_lo M := rfl
  rw [e2, Int.bmod_eq_of_le (n := M.2.2.2.1.toInt - M.2.2.2.2.toInt) (by omega) (by omega), Int.bmod_eq_of_le (by omega) (by omega)]
  exact a4
theorem acc_m {w : Nat} {M : mk_T} (A : Ac w M) (hw : w ≤ 599) (ht : mk_tr M ≤ 6) {g : Nat → Int32} (hg : Gr g M) : mo_as M (mk_tr M) = g 136 - g 137 + M.2.2.1.2.2 := by
  have e := (as_i A hw ht).2
  obtain ⟨f1, f2, f3⟩ := A.f (by omega)
  obtain ⟨a1, a2, a3, a4, a5, a6, a7, a8, -⟩ := A
  have g6 : (g 136).toInt = M.2.2.2.1.toInt := by rw [← hg.g6, Int32.toInt_toInt64]
  have g7 : (g 137).toInt = M.2.2.2.2.toInt := by rw [← hg.g7, Int32.toInt_toInt64]
  have e2 : M.2.2.1.2.2 = mk_lo M := rfl
  apply Int32.toInt.inj
  rw [e, e2, Int32.toInt_add, Int32.toInt_sub, g6, g7, Int.bmod_eq_of_le (n := M.2.2.2.1.toInt - M.2.2.2.2.toInt) (by omega) (by omega), Int.bmod_eq_of_le (by omega) (by omega)]
  exact a4

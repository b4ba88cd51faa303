/-! ===== PURE: accounts ===== -/
def sI (f : Nat → Int) (n : Nat) : Int := match n with
  | 0 => 0
  | n + 1 => sI f n + f n
theorem sI_c {f g : Nat → Int} : ∀ n, (∀ i, i < n → f i = g i) → sI f n = sI g n
  | 0, _ => rfl
  | n + 1, h => by
    unfold sI
    rw [sI_c n (fun i hi => h i (by omega)), h n (Nat.lt_succ_self n)]
theorem sI_add (f g : Nat → Int) : ∀ n, sI (fun i => f i + g i) n = sI f n + sI g n
  | 0 => rfl
  | n + 1 => by
    unfold sI
    rw [sI_add f g n]
    omega
theorem sI_mul (f : Nat → Int) (k : Int) : ∀ n, sI (fun i => f i * k) n = sI f n * k
  | 0 => (Int.zero_mul k).symm
  | n + 1 => by
    unfold sI
    rw [sI_mul f k n, Int.add_mul]
theorem sI_z : ∀ n, sI (fun _ => 0) n = 0
  | 0 => rfl
  | n + 1 => by
    unfold sI
    rw [sI_z n]
    rfl
theorem sI_d (b : Nat) (k : Int) : ∀ n, sI (fun i => if b = i then k else 0) n = if b < n then k else 0
  | 0 => (if_neg (Nat.not_lt_zero b)).symm
  | n + 1 => by
    unfold sI
    rw [sI_d b k n]
    by_cases q : b = n
    · subst q
      rw [if_neg (Nat.lt_irrefl b), if_pos rfl, if_pos (Nat.lt_succ_self b)]
      omega
    · rw [if_neg q]
      by_cases y : b < n
      · rw [if_pos y, if_pos (by omega)]
        omega
      · rw [if_neg y, if_neg (by omega)]
        rfl
theorem sI_up {f g : Nat → Int} {t : Nat} (h : ∀ i, i ≠ t → g i = f i) : ∀ n, t < n → sI g n = sI f n - f t + g t
  | 0, ht => absurd ht (Nat.not_lt_zero t)
  | n + 1, ht => by
    unfold sI
    by_cases q : t = n
    · subst q
      rw [sI_c t (fun i hi => h i (by omega))]
      omega
    · rw [sI_up h n (by omega), h n (fun y => q y.symm)]
      omega
theorem sI_le {f g : Nat → Int} {k : Int} : ∀ n, (∀ i, i < n → f i ≤ g i + k) → sI f n ≤ sI g n + k * (n : Int)
  | 0, _ => by
    show (0 : Int) ≤ 0 + k * ((0 : Nat) : Int)
    simp
  | n + 1, h => by
    have h1 := sI_le n (fun i hi => h i (by omega))
    have h2 := h n (Nat.lt_succ_self n)
    have e : k * ((n + 1 : Nat) : Int) = k * (n : Int) + k := by
      rw [Int.natCast_succ, Int.mul_add, Int.mul_one]
    unfold sI
    rw [e]
    omega
theorem sI_ge {f : Nat → Int} : ∀ n, (∀ i, i < n → 0 ≤ f i) → 0 ≤ sI f n ∧ ∀ t, t < n → f t ≤ sI f n
  | 0, _ => ⟨Int.le_refl 0, fun t ht => absurd ht (Nat.not_lt_zero t)⟩
  | n + 1, h => by
    obtain ⟨h1, h2⟩ := sI_ge n (fun i hi => h i (by omega))
    have h3 := h n (Nat.lt_succ_self n)
    unfold sI
    refine ⟨by omega, fun t ht => ?_⟩
    by_cases q : t = n
    · subst q
      omega
    · have := h2 t (by omega)
      omega
def iab (x : Int) : Int := if 0 ≤ x then x else -x
theorem iab_0 (x : Int) : 0 ≤ iab x := by
  unfold iab
  split <;> omega
/-- the sizes of the money, the money itself -/
def ab (M : mk_T) (n : Nat) : Int := sI (fun t => iab (mk_ar M 3 t).toInt) n
def sm (M : mk_T) (n : Nat) : Int := sI (fun t => (mk_ar M 3 t).toInt) n
def Ac (w : Nat) (M : mk_T) : Prop := 0 ≤ (mk_fu M).toInt ∧ 0 ≤ (mk_lo M).toInt ∧ (mk_fu M).toInt + (mk_lo M).toInt + ab M (mk_tr M) ≤ 1000000 * (w : Int) ∧ (mk_fu M).toInt + sm M (mk_tr M) = M.2.2.2.1.toInt - M.2.2.2.2.toInt + (mk_lo M).toInt ∧ 0 ≤ M.2.2.2.1.toInt ∧ M.2.2.2.1.toInt ≤ 10000 * (w : Int) ∧ 0 ≤ M.2.2.2.2.toInt ∧ M.2.2.2.2.toInt ≤ 10000 * (w : Int) ∧ ∃ dd, dd ≤ w ∧ mk_dy M = nI dd
theorem Ac.up {w v : Nat} {M : mk_T} (H : Ac w M) (h : w ≤ v) : Ac v M := by
  obtain ⟨a, b, c, d, e, f, g, i, dd, j, k⟩ := H
  exact ⟨a, b, by omega, d, e, by omega, g, by omega, dd, by omega, k⟩
theorem Ac.c {w : Nat} {M M' : mk_T} (H : Ac w M) (h1 : M'.2.2 = M.2.2) (h2 : mk_tr M' = mk_tr M) (h3 : ∀ t, t < mk_tr M → mk_ar M' 3 t = mk_ar M 3 t) : Ac w M' := by
  obtain ⟨a, b, c, d, e, f, g, i, j⟩ := H
  have e1 : ab M' (mk_tr M) = ab M (mk_tr M) := sI_c _ (fun t ht => by rw [h3 t ht])
  have e2 : sm M' (mk_tr M) = sm M (mk_tr M) := sI_c _ (fun t ht => by rw [h3 t ht])
  unfold Ac mk_fu mk_lo mk_dy
  rw [h1, h2, e1, e2]
  exact ⟨a, b, c, d, e, f, g, i, j⟩
/-- the money of each is far from too much -/
theorem Ac.m {w : Nat} {M : mk_T} (H : Ac w M) (hw : w ≤ 600) {t : Nat} (ht : t < mk_tr M) : -600000000 ≤ (mk_ar M 3 t).toInt ∧ (mk_ar M 3 t).toInt ≤ 600000000 := by
  obtain ⟨a, b, c, -⟩ := H
  have h := (sI_ge (f := fun t => iab (mk_ar M 3 t).toInt) (mk_tr M) (fun i _ => iab_0 _)).2 t ht
  have h2 : iab (mk_ar M 3 t).toInt ≤ ab M (mk_tr M) := h
  unfold iab at h2
  split at h2 <;> omega
theorem Ac.f {w : Nat} {M : mk_T} (H : Ac w M) (hw : w ≤ 600) : (mk_fu M).toInt ≤ 600000000 ∧ (mk_lo M).toInt ≤ 600000000 ∧ 0 ≤ ab M (mk_tr M) := by
  obtain ⟨a, b, c, -⟩ := H
  have h := (sI_ge (f := fun t => iab (mk_ar M 3 t).toInt) (mk_tr M) (fun i _ => iab_0 _)).1
  have h2 : 0 ≤ ab M (mk_tr M) := h
  omega
theorem ab_st (M : mk_T) {t : Nat} (ht : t < mk_tr M) (v : Int32) : ab (mk_st M 3 t v) (mk_tr M) = ab M (mk_tr M) - iab (mk_ar M 3 t).toInt + iab v.toInt ∧ sm (mk_st M 3 t v) (mk_tr M) = sm M (mk_tr M) - (mk_ar M 3 t).toInt + v.toInt := by
  have e : ∀ i, mk_ar (mk_st M 3 t v) 3 i = if i = t then v else mk_ar M 3 i := fun i => by
    rw [mk_st_ar]
    by_cases q : i = t
    · rw [if_pos ⟨rfl, q⟩, if_pos q]
    · rw [if_neg (fun z => q z.2), if_neg q]
  constructor
  · have h := sI_up (f := fun i => iab (mk_ar M 3 i).toInt) (g := fun i => iab (mk_ar (mk_st M 3 t v) 3 i).toInt) (t := t) (fun i hi => by rw [e i, if_neg hi]) (mk_tr M) ht
    simp only [e t, if_pos] at h
    exact h
  · have h := sI_up (f := fun i => (mk_ar M 3 i).toInt) (g := fun i => (mk_ar (mk_st M 3 t v) 3 i).toInt) (t := t) (fun i hi => by rw [e i, if_neg hi]) (mk_tr M) ht
    simp only [e t, if_pos] at h
    exact h
/-! variations -/
theorem pw_sum {M : mk_T} (H : Ic M) (on : Int32) : ∀ c, c ≤ mk_ct M → sI (fun t => (mk_pw M (nI t) on (-1) c).toInt) (mk_tr M) = 0
  | 0, _ => by
    refine (sI_c (g := fun _ => 0) _ (fun i _ => ?_)).trans (sI_z _)
    show (0 : Int32).toInt = 0
    decide
  | c + 1, hc => by
    have ih := pw_sum H on c (by omega)
    obtain ⟨b, s, h, q, hb, hs, hbs, hh, hq1, hq2, e5, e6, e7, e8⟩ := H.2.2.1 c (by omega)
    have h6 := H.1.2.1
    have h20 := H.1.2.2
    have eq : (mk_ar M 8 c).toInt = (q : Int) := by rw [e8]; exact nI_toInt (by omega)
    by_cases z : mk_ar M 7 c = on ∧ ¬ (mk_ar M 5 c = -1 ∨ mk_ar M 6 c = -1)
    · have es : ∀ t, t < mk_tr M → (mk_pw M (nI t) on (-1) (c + 1)).toInt = (mk_pw M (nI t) on (-1) c).toInt + ((if b = t then (q : Int) else 0) + (if s = t then -(q : Int) else 0)) := fun t ht => by
        have hb2 := pw_bd H (nI t) on (-1) c (by omega)
        have nb : nI b = nI t ↔ b = t := nI_eq (by omega) (by omega)
        have ns : nI s = nI t ↔ s = t := nI_eq (by omega) (by omega)
        show (if mk_ar M 7 c = on ∧ ¬ (mk_ar M 5 c = -1 ∨ mk_ar M 6 c = -1) then (if mk_ar M 5 c = nI t then mk_pw M (nI t) on (-1) c + mk_ar M 8 c else if mk_ar M 6 c = nI t then mk_pw M (nI t) on (-1) c - mk_ar M 8 c else mk_pw M (nI t) on (-1) c) else mk_pw M (nI t) on (-1) c).toInt = _
        rw [if_pos z, e5, e6]
        by_cases y : b = t
        · rw [if_pos (nb.mpr y), if_pos y, if_neg (fun k => hbs (y.trans k.symm)), i_add (m := 400) (n := 20) (by omega) (by omega) (by decide), eq]
          omega
        · rw [if_neg (fun k => y (nb.mp k)), if_neg y]
          by_cases x : s = t
          · rw [if_pos (ns.mpr x), if_pos x, i_sub (m := 400) (n := 20) (by omega) (by omega) (by decide), eq]
            omega
          · rw [if_neg (fun k => x (ns.mp k)), if_neg x]
            omega
      rw [sI_c _ es, sI_add, sI_add, ih, sI_d, sI_d, if_pos hb, if_pos hs]
      omega
    · refine (sI_c _ (fun t _ => ?_)).trans ih
      show (if mk_ar M 7 c = on ∧ ¬ (mk_ar M 5 c = -1 ∨ mk_ar M 6 c = -1) then _ else mk_pw M (nI t) on (-1) c).toInt = _
      rw [if_neg z]
theorem dq_bd {M : mk_T} (H : Ic M) {c : Nat} (hc : c < mk_hz M) : -98 ≤ (mk_ar M 1 c - mk_ar M 0 c).toInt ∧ (mk_ar M 1 c - mk_ar M 0 c).toInt ≤ 98 := by
  obtain ⟨p, u, r, h1, h2, h3, h4, -, -, e0, e1, -⟩ := H.2.1 c hc
  have a := nI_toInt (n := p) (by omega)
  have b := nI_toInt (n := u) (by omega)
  rw [e0, e1, i_sub (m := 99) (n := 99) (by omega) (by omega) (by decide), a, b]
  omega
theorem pm_bd {a b : Int} (h1 : -400 ≤ a ∧ a ≤ 400) (h2 : -98 ≤ b ∧ b ≤ 98) : -39200 ≤ a * b ∧ a * b ≤ 39200 := by
  have hb : b.natAbs ≤ 98 := by omega
  have ha : a.natAbs ≤ 400 := by omega
  have h := Nat.mul_le_mul ha hb
  rw [← Int.natAbs_mul] at h
  omega
theorem va_bd {M : mk_T} (H : Ic M) (t : Int32) : ∀ c, c ≤ mk_hz M → (-(39200 * (c : Int)) ≤ (mk_va M t c).toInt ∧ (mk_va M t c).toInt ≤ 39200 * (c : Int))
  | 0, _ => by
    show -(39200 * ((0 : Nat) : Int)) ≤ (0 : Int32).toInt ∧ (0 : Int32).toInt ≤ 39200 * ((0 : Nat) : Int)
    decide
  | c + 1, hc => by
    have ih := va_bd H t c (by omega)
    have h4 := H.1.1
    have hp := po_bd H t (nI c)
    have hq := dq_bd H (c := c) (by omega)
    have hm := pm_bd hp hq
    have em := i_mul (a := mk_po M t (nI c)) (b := mk_ar M 1 c - mk_ar M 0 c) (m := 39200) hm (by decide)
    unfold mk_va
    rw [i_add (m := 39200 * (c : Int)) (n := 39200) ih (by rw [em]; exact hm) (by omega), em]
    omega
theorem va_st {M : mk_T} (H : Ic M) (t : Int32) {c : Nat} (hc : c + 1 ≤ mk_hz M) : (mk_va M t (c + 1)).toInt = (mk_va M t c).toInt + (mk_po M t (nI c)).toInt * (mk_ar M 1 c - mk_ar M 0 c).toInt := by
  have ih := va_bd H t c (by omega)
  have h4 := H.1.1
  have hp := po_bd H t (nI c)
  have hq := dq_bd H (c := c) (by omega)
  have hm := pm_bd hp hq
  have em := i_mul (a := mk_po M t (nI c)) (b := mk_ar M 1 c - mk_ar M 0 c) (m := 39200) hm (by decide)
  rw [show mk_va M t (c + 1) = mk_va M t c + mk_po M t (nI c) * (mk_ar M 1 c - mk_ar M 0 c) from rfl, i_add (m := 39200 * (c : Int)) (n := 39200) ih (by rw [em]; exact hm) (by omega), em]
theorem va_sum {M : mk_T} (H : Ic M) : ∀ c, c ≤ mk_hz M → sI (fun t => (mk_va M (nI t) c).toInt) (mk_tr M) = 0
  | 0, _ => by
    refine (sI_c (g := fun _ => 0) _ (fun i _ => ?_)).trans (sI_z _)
    show (0 : Int32).toInt = 0
    decide
  | c + 1, hc => by
    have ih := va_sum H c (by omega)
    rw [sI_c (g := fun t => (mk_va M (nI t) c).toInt + (mk_po M (nI t) (nI c)).toInt * (mk_ar M 1 c - mk_ar M 0 c).toInt) _ (fun t _ => va_st H (nI t) hc), sI_add, sI_mul, ih]
    rw [show sI (fun i => (mk_po M (nI i) (nI c)).toInt) (mk_tr M) = 0 from pw_sum H (nI c) _ (Nat.le_refl _)]
    omega
/-- the variations of all traders are nothing together -/
theorem vs_0 {M : mk_T} (H : Ic M) : mk_vs M (mk_tr M) = 0 := by
  have h6 := H.1.2.1
  have h4 := H.1.1
  have hv := fun t => va_bd H t (mk_hz M) (Nat.le_refl _)
  have e : ∀ n, n ≤ mk_tr M → (mk_vs M n).toInt = sI (fun t => (mk_va M (nI t) (mk_hz M)).toInt) n ∧ -(156800 * (n : Int)) ≤ (mk_vs M n).toInt ∧ (mk_vs M n).toInt ≤ 156800 * (n : Int) := by
    intro n
    induction n with
    | zero =>
      intro _
      refine ⟨?_, ?_⟩
      · show (0 : Int32).toInt = 0
        decide
      · show -(156800 * ((0 : Nat) : Int)) ≤ (0 : Int32).toInt ∧ (0 : Int32).toInt ≤ 156800 * ((0 : Nat) : Int)
        decide
    | succ n ih =>
      intro hn
      obtain ⟨i1, i2⟩ := ih (by omega)
      have hv := hv (nI n)
      have e1 : (mk_vs M (n + 1)).toInt = (mk_vs M n).toInt + (mk_va M (nI n) (mk_hz M)).toInt := i_add (m := 156800 * (n : Int)) (n := 156800) i2 (by omega) (by omega)
      refine ⟨?_, by omega⟩
      rw [e1, i1]
      rfl
  apply Int32.toInt.inj
  rw [(e _ (Nat.le_refl _)).1, va_sum H _ (Nat.le_refl _)]
  decide
/-! the night -/
theorem Ic.c {M M' : mk_T} (H : Ic M) (h1 : M'.1 = M.1) (h2 : ∀ k i, k < 3 → i < mk_hz M → mk_ar M' k i = mk_ar M (if k = 0 ∧ mk_ar M' 0 i ≠ mk_ar M 0 i then 1 else k) i) (h4 : ∀ t, t < mk_tr M → mk_ar M' 4 t = nI 0 ∨ mk_ar M' 4 t = nI 1 ∨ mk_ar M' 4 t = nI 2) (h5 : ∀ k i, 5 ≤ k → k < 9 → i < mk_ct M → mk_ar M' k i = mk_ar M k i) : Ic M' := by
  have ehz : mk_hz M' = mk_hz M := congrArg (fun z => z.1) h1
  have etr : mk_tr M' = mk_tr M := congrArg (fun z => z.2.1) h1
  have ect : mk_ct M' = mk_ct M := congrArg (fun z => z.2.2) h1
  refine ⟨?_, fun i hi => ?_, fun c hc => ?_, fun t ht => h4 t (by omega)⟩
  · rw [ehz, etr, ect]
    exact H.1
  · have hi : i < mk_hz M := by omega
    obtain ⟨p, u, r, a1, a2, a3, a4, a5, a6, e0, e1, e2⟩ := H.2.1 i hi
    have g1 := h2 1 i (by decide) hi
    have g2 := h2 2 i (by decide) hi
    rw [if_neg (fun z => absurd z.1 (by decide))] at g1 g2
    by_cases q : mk_ar M' 0 i = mk_ar M 0 i
    · exact ⟨p, u, r, a1, a2, a3, a4, a5, a6, q.trans e0, g1.trans e1, g2.trans e2⟩
    · have g0 := h2 0 i (by decide) hi
      rw [if_pos ⟨rfl, q⟩] at g0
      exact ⟨u, u, r, a3, a4, a3, a4, a5, a6, g0.trans e1, g1.trans e1, g2.trans e2⟩
  · have hc : c < mk_ct M := by omega
    rw [h5 5 c (by decide) (by decide) hc, h5 6 c (by decide) (by decide) hc, h5 7 c (by decide) (by decide) hc, h5 8 c (by decide) (by decide) hc, ehz, etr]
    exact H.2.2.1 c hc
theorem sp_ar (M : mk_T) (n k i : Nat) : mk_ar (mk_sp M n) k i = if k = 0 then (if i < n then mk_ar M 1 i else mk_ar M 0 i) else mk_ar M k i := by
  show (if k = 0 then (fun i => if i < n then mk_ar M 1 i else mk_ar M 0 i) else M.2.1 k) i = _
  by_cases q : k = 0
  · rw [if_pos q, if_pos q]
  · rw [if_neg q, if_neg q]
theorem sv_ar (M : mk_T) (n k i : Nat) : mk_ar (mk_sv M n) k i = if k = 3 then (if i < n then mk_ar M 3 i + mk_va M (nI i) (mk_hz M) else mk_ar M 3 i) else mk_ar M k i := by
  show (if k = 3 then (fun i => if i < n then mk_ar M 3 i + mk_va M (nI i) (mk_hz M) else mk_ar M 3 i) else M.2.1 k) i = _
  by_cases q : k = 3
  · rw [if_pos q, if_pos q]
  · rw [if_neg q, if_neg q]
theorem se_ar (M : mk_T) (k i : Nat) : mk_ar (mk_settle M) k i = if k = 0 then (if i < mk_hz M then mk_ar M 1 i else mk_ar M 0 i) else if k = 3 then (if i < mk_tr M then mk_ar M 3 i + mk_va M (nI i) (mk_hz M) else mk_ar M 3 i) else mk_ar M k i := by
  show mk_ar (mk_sp (mk_sv M (mk_tr M)) (mk_hz M)) k i = _
  by_cases q : k = 0
  · rw [sp_ar, if_pos q, if_pos q]
    rfl
  · rw [sp_ar, if_neg q, if_neg q, sv_ar]
theorem Ic.se {M : mk_T} (H : Ic M) : Ic (mk_settle M) := by
  refine H.c rfl (fun k i hk hi => ?_) (fun t ht => ?_) (fun k i h5 hk hi => ?_)
  · by_cases q : k = 0
    · subst q
      by_cases y : mk_ar (mk_settle M) 0 i = mk_ar M 0 i
      · rw [if_neg (fun z => z.2 y)]
        exact y
      · rw [if_pos ⟨rfl, y⟩, se_ar, if_pos rfl, if_pos hi]
    · rw [if_neg (fun z => q z.1), se_ar, if_neg q, if_neg (by omega)]
  · rw [se_ar, if_neg (by decide), if_neg (by decide)]
    exact H.2.2.2 t ht
  · rw [se_ar, if_neg (by omega), if_neg (by omega)]
theorem iab_add (x y : Int) : iab (x + y) ≤ iab x + iab y := by
  unfold iab
  split <;> split <;> split <;> omega
theorem Ac.se {w : Nat} {M : mk_T} (H : Ic M) (A : Ac w M) (hw : w ≤ 599) : Ac (w + 1) (mk_settle M) := by
  have hm := fun t (ht : t < mk_tr M) => A.m (by omega) ht
  obtain ⟨a, b, c, d, e, f, g, i, dd, j, k⟩ := A
  have h4 := H.1.1
  have h6 := H.1.2.1
  have em : ∀ t, t < mk_tr M → (mk_ar (mk_settle M) 3 t).toInt = (mk_ar M 3 t).toInt + (mk_va M (nI t) (mk_hz M)).toInt := fun t ht => by
    have hv := va_bd H (nI t) (mk_hz M) (Nat.le_refl _)
    rw [se_ar, if_neg (by decide), if_pos rfl, if_pos ht]
    exact i_add (m := 600000000) (n := 156800) (hm t ht) (by omega) (by decide)
  have es : sm (mk_settle M) (mk_tr M) = sm M (mk_tr M) := by
    unfold sm
    rw [sI_c _ em, sI_add, va_sum H _ (Nat.le_refl _)]
    omega
  have ea : ab (mk_settle M) (mk_tr M) ≤ ab M (mk_tr M) + 156800 * (mk_tr M : Int) := by
    refine sI_le _ (fun t ht => ?_)
    have hv := va_bd H (nI t) (mk_hz M) (Nat.le_refl _)
    have := iab_add (mk_ar M 3 t).toInt (mk_va M (nI t) (mk_hz M)).toInt
    rw [em t ht]
    have h3 : iab (mk_va M (nI t) (mk_hz M)).toInt ≤ 156800 := by
      unfold iab
      split <;> omega
    omega
  refine ⟨a, b, ?_, ?_, e, ?_, g, ?_, dd, by omega, k⟩
  · show (mk_fu M).toInt + (mk_lo M).toInt + ab (mk_settle M) (mk_tr M) ≤ _
    omega
  · show (mk_fu M).toInt + sm (mk_settle M) (mk_tr M) = _
    rw [es]
    exact d
  · show M.2.2.2.1.toInt ≤ _
    omega
  · show M.2.2.2.2.toInt ≤ _
    omega
/-- the days on which contracts end -/
def E9 (w : Nat) (M : mk_T) : Prop := ∀ c, c < mk_ct M → ∃ e, e ≤ w + 9 ∧ mk_ar M 9 c = nI e
theorem E9.up {w v : Nat} {M : mk_T} (H : E9 w M) (h : w ≤ v) : E9 v M := fun c hc => by
  obtain ⟨e, a, b⟩ := H c hc
  exact ⟨e, by omega, b⟩
theorem E9.rm {w : Nat} {M : mk_T} (H : E9 w M) (c : Nat) : E9 w (mk_rm M c) := fun i hi => by
  have hi : i < mk_ct M - 1 := hi
  rw [rm_ar]
  split
  · exact H (i + 1) (by omega)
  · exact H i (by omega)
theorem Ic.rm {M : mk_T} (H : Ic M) (c : Nat) : Ic (mk_rm M c) := (H.iw.rm c).ic (fun i hi => by
  have hi : i < mk_ct M - 1 := hi
  have ne : ∀ j, j < mk_ct M → mk_ar M 5 j ≠ mk_ar M 6 j := fun j hj => by
    obtain ⟨b, s, h, q, hb, hs, hbs, -, -, -, e5, e6, -⟩ := H.2.2.1 j hj
    have h6 := H.1.2.1
    rw [e5, e6]
    exact fun z => hbs ((nI_eq (by omega) (by omega)).mp z)
  rw [rm_ar, rm_ar]
  by_cases z : c ≤ i
  · rw [if_pos ⟨by omega, by omega, z, hi⟩, if_pos ⟨by omega, by omega, z, hi⟩]
    exact ne (i + 1) (by omega)
  · rw [if_neg (by omega), if_neg (by omega)]
    exact ne i (by omega))
/-- what holds of a market after w modifications at most -/
def Ia (w : Nat) (M : mk_T) : Prop := Ic M ∧ Ac w M ∧ E9 w M
theorem Ia.up {w v : Nat} {M : mk_T} (H : Ia w M) (h : w ≤ v) : Ia v M := ⟨H.1, H.2.1.up h, H.2.2.up h⟩
theorem Ia.rm {w : Nat} {M : mk_T} (H : Ia w M) (c : Nat) : Ia w (mk_rm M c) := ⟨H.1.rm c, H.2.1.c rfl rfl (fun t _ => by rw [rm_ar, if_neg (by omega)]), H.2.2.rm c⟩
theorem Ia.ed {w : Nat} : ∀ c (M : mk_T), Ia w M → Ia w (mk_ed M c)
  | 0, M, H => H
  | c + 1, M, H => by
    unfold mk_ed
    split
    · exact Ia.ed c _ (H.rm c)
    · exact Ia.ed c _ H
theorem Ia.eo {w : Nat} {t : Int32} : ∀ c (M : mk_T), Ac w M → E9 w M → Ac w (mk_eo M t c) ∧ E9 w (mk_eo M t c)
  | 0, M, A, E => ⟨A, E⟩
  | c + 1, M, A, E => by
    unfold mk_eo
    split
    · exact Ia.eo c _ (A.c rfl rfl (fun t _ => by rw [rm_ar, if_neg (by omega)])) (E.rm c)
    · exact Ia.eo c _ A E
theorem eo_k {t : Int32} : ∀ c (M : mk_T), (∀ k i, k < 5 → mk_ar (mk_eo M t c) k i = mk_ar M k i) ∧ (mk_eo M t c).2.2 = M.2.2
  | 0, M => ⟨fun _ _ _ => rfl, rfl⟩
  | c + 1, M => by
    unfold mk_eo
    split
    · obtain ⟨a, b⟩ := eo_k (t := t) c (mk_rm M c)
      exact ⟨fun k i hk => (a k i hk).trans (by rw [rm_ar, if_neg (by omega)]), b⟩
    · exact eo_k c M
theorem Ia.e {w : Nat} {M : mk_T} (H : Ia w M) (hw : w ≤ 599) : Ia (w + 1) (pn_e M) := by
  have A := H.2.1.se H.1 hw
  have I := H.1.se
  refine Ia.ed _ _ ⟨⟨I.1, I.2.1, I.2.2.1, I.2.2.2⟩, ?_, ?_⟩
  · obtain ⟨dd0, j0, k0⟩ := H.2.1.2.2.2.2.2.2.2.2
    obtain ⟨a, b, c, d, e, f, g, i, -⟩ := A
    refine ⟨a, b, c, d, e, f, g, i, dd0 + 1, by omega, ?_⟩
    show mk_dy M + nI 1 = nI (dd0 + 1)
    rw [k0]
    exact nI_add dd0 1
  · intro c hc
    obtain ⟨e, he, h9⟩ := H.2.2 c hc
    refine ⟨e, by omega, ?_⟩
    show mk_ar (mk_settle M) 9 c = nI e
    rw [se_ar, if_neg (by decide), if_neg (by decide)]
    exact h9
theorem cw_ar (M : mk_T) (n k i : Nat) : mk_ar (mk_cw M n) k i = if k = 4 then (if i < n then mk_cs M i else mk_ar M 4 i) else mk_ar M k i := by
  show (if k = 4 then (fun i => if i < n then mk_cs M i else mk_ar M 4 i) else M.2.1 k) i = _
  by_cases q : k = 4
  · rw [if_pos q, if_pos q]
  · rw [if_neg q, if_neg q]
theorem cs_3 (M : mk_T) (i : Nat) : mk_cs M i = nI 0 ∨ mk_cs M i = nI 1 ∨ mk_cs M i = nI 2 := by
  unfold mk_cs
  split
  · rename_i z
    exact Or.inr (Or.inr z)
  · split
    · exact Or.inr (Or.inl rfl)
    · exact Or.inl rfl
theorem Ia.cw {w : Nat} {M : mk_T} (H : Ia w M) (n : Nat) : Ia w (mk_cw M n) := by
  refine ⟨H.1.c rfl (fun k i hk hi => ?_) (fun t ht => ?_) (fun k i h5 hk hi => ?_), H.2.1.c rfl rfl (fun t ht => by rw [cw_ar, if_neg (by decide)]), fun c hc => ?_⟩
  · have e0 : mk_ar (mk_cw M n) 0 i = mk_ar M 0 i := rfl
    rw [if_neg (fun z => z.2 e0), cw_ar, if_neg (by omega)]
  · rw [cw_ar, if_pos rfl]
    split
    · exact cs_3 M t
    · exact H.1.2.2.2 t ht
  · rw [cw_ar, if_neg (by omega)]
  · obtain ⟨e, he, h9⟩ := H.2.2 c hc
    exact ⟨e, he, by rw [cw_ar, if_neg (by decide)]; exact h9⟩
theorem Ac.ca {w : Nat} {A : mk_T} (H : Ac w A) (hw : w ≤ 600) {d : Nat} (hd : d < mk_tr A) : Ac w (mk_ca A d) := by
  have hm := H.m hw hd
  obtain ⟨hf1, hf2, hf3⟩ := H.f hw
  obtain ⟨a, b, c, dd, e, f, g, i, j⟩ := H
  have e1 := ca_1 A d
  have etr : mk_tr (mk_ca A d) = mk_tr A := congrArg (fun z => z.2.1) e1
  have e22 := ca_22 A d
  obtain ⟨s1, s2⟩ := ab_st A hd (nI 0)
  have e3 : ∀ t, mk_ar (mk_ca A d) 3 t = mk_ar (mk_st A 3 d (nI 0)) 3 t := fun t => by
    rw [ca_ar, mk_st_ar, if_neg (by omega)]
  have ea : ab (mk_ca A d) (mk_tr A) = ab A (mk_tr A) - iab (mk_ar A 3 d).toInt := by
    rw [show ab (mk_ca A d) (mk_tr A) = ab (mk_st A 3 d (nI 0)) (mk_tr A) from sI_c _ (fun t _ => by rw [e3 t]), s1, show iab (nI 0).toInt = 0 by decide]
    omega
  have es : sm (mk_ca A d) (mk_tr A) = sm A (mk_tr A) - (mk_ar A 3 d).toInt := by
    rw [show sm (mk_ca A d) (mk_tr A) = sm (mk_st A 3 d (nI 0)) (mk_tr A) from sI_c _ (fun t _ => by rw [e3 t]), s2, show (nI 0).toInt = 0 by decide]
    omega
  have e0 : (0 : Int32).toInt = 0 := by decide
  unfold Ac mk_fu mk_lo mk_dy
  rw [etr, ea, es]
  by_cases y : mk_ar A 3 d ≤ 0
  · have y2 : (mk_ar A 3 d).toInt ≤ 0 := by
      have := Int32.le_iff_toInt_le.mp y
      omega
    rw [if_pos y] at e22
    have hneg := i_neg (a := mk_ar A 3 d) (by omega)
    have hp : 0 ≤ (ca_p (mk_fu A) (mk_ar A 3 d)).toInt ∧ (ca_p (mk_fu A) (mk_ar A 3 d)).toInt ≤ (mk_fu A).toInt ∧ (ca_p (mk_fu A) (mk_ar A 3 d)).toInt ≤ -(mk_ar A 3 d).toInt := by
      unfold ca_p
      by_cases v : mk_fu A < -mk_ar A 3 d
      · have := Int32.lt_iff_toInt_lt.mp v
        rw [if_pos v]
        omega
      · have := Int32.le_iff_toInt_le.mp (Int32.not_lt.mp v)
        rw [if_neg v]
        omega
    have f1 : (mk_fu A - ca_p (mk_fu A) (mk_ar A 3 d)).toInt = (mk_fu A).toInt - (ca_p (mk_fu A) (mk_ar A 3 d)).toInt := i_sub (m := 600000000) (n := 600000000) (by omega) (by omega) (by decide)
    have f2 : (-mk_ar A 3 d - ca_p (mk_fu A) (mk_ar A 3 d)).toInt = -(mk_ar A 3 d).toInt - (ca_p (mk_fu A) (mk_ar A 3 d)).toInt := by
      rw [i_sub (m := 600000000) (n := 600000000) (by omega) (by omega) (by decide), hneg]
    have f3 : (mk_lo A + (-mk_ar A 3 d - ca_p (mk_fu A) (mk_ar A 3 d))).toInt = (mk_lo A).toInt + (-(mk_ar A 3 d).toInt - (ca_p (mk_fu A) (mk_ar A 3 d)).toInt) := by
      rw [i_add (m := 600000000) (n := 600000000) (by omega) (by omega) (by decide), f2]
    have hi : iab (mk_ar A 3 d).toInt = -(mk_ar A 3 d).toInt := by
      unfold iab
      split <;> omega
    rw [e22]
    refine ⟨?_, ?_, ?_, ?_, e, f, g, i, j⟩
    · show 0 ≤ (mk_fu A - ca_p (mk_fu A) (mk_ar A 3 d)).toInt
      omega
    · show 0 ≤ (mk_lo A + (-mk_ar A 3 d - ca_p (mk_fu A) (mk_ar A 3 d))).toInt
      omega
    · show (mk_fu A - ca_p (mk_fu A) (mk_ar A 3 d)).toInt + (mk_lo A + (-mk_ar A 3 d - ca_p (mk_fu A) (mk_ar A 3 d))).toInt + _ ≤ _
      omega
    · show (mk_fu A - ca_p (mk_fu A) (mk_ar A 3 d)).toInt + _ = A.2.2.2.1.toInt - A.2.2.2.2.toInt + (mk_lo A + (-mk_ar A 3 d - ca_p (mk_fu A) (mk_ar A 3 d))).toInt
      omega
  · have y2 : 0 < (mk_ar A 3 d).toInt := by
      have := Int32.lt_iff_toInt_lt.mp (Int32.not_le.mp y)
      omega
    rw [if_neg y] at e22
    have f1 : (mk_fu A + mk_ar A 3 d).toInt = (mk_fu A).toInt + (mk_ar A 3 d).toInt := i_add (m := 600000000) (n := 600000000) (by omega) (by omega) (by decide)
    have hi : iab (mk_ar A 3 d).toInt = (mk_ar A 3 d).toInt := by
      unfold iab
      split <;> omega
    rw [e22]
    refine ⟨?_, b, ?_, ?_, e, f, g, i, j⟩
    · show 0 ≤ (mk_fu A + mk_ar A 3 d).toInt
      omega
    · show (mk_fu A + mk_ar A 3 d).toInt + (mk_lo A).toInt + _ ≤ _
      omega
    · show (mk_fu A + mk_ar A 3 d).toInt + _ = A.2.2.2.1.toInt - A.2.2.2.2.toInt + (mk_lo A).toInt
      omega
theorem Ia.cod {w : Nat} {M : mk_T} (H : Ia w M) (hw : w ≤ 600) {d : Nat} (hd : d < mk_tr M) : Ia w (co_d M d) ∧ mk_q (df_M M d) (co_d M d) := by
  have ebt : mk_tr (co_b M d) = mk_tr M := congrArg (fun z => z.2.1) (co_b_hz M d)
  have ebc : mk_ct (co_b M d) = mk_ct M := congrArg (fun z => z.2.2) (co_b_hz M d)
  have Ab : Ac w (co_b M d) := H.2.1.c co_b_2 ebt (fun t _ => co_b_k (by omega))
  have Eb : E9 w (co_b M d) := fun c hc => by
    obtain ⟨e, a, b⟩ := H.2.2 c (by omega)
    exact ⟨e, a, by rw [co_b_k (by omega)]; exact b⟩
  obtain ⟨Ae, Ee⟩ := Ia.eo (t := nI d) (mk_ct (co_b M d)) (co_b M d) Ab Eb
  have ete : mk_tr (mk_eo (co_b M d) (nI d) (mk_ct (co_b M d))) = mk_tr M := ((mk_eo_hz (co_b M d) (nI d) (mk_ct (co_b M d))).2).trans ebt
  refine ⟨⟨ic_cod H.1 hd, Ae.ca hw (by omega), ?_⟩, ?_⟩
  · have ect : mk_ct (co_d M d) = mk_ct (mk_eo (co_b M d) (nI d) (mk_ct (co_b M d))) := congrArg (fun z => z.2.2) (ca_1 _ _)
    intro c hc
    rw [ect] at hc
    obtain ⟨e, a, b⟩ := Ee c hc
    refine ⟨e, a, ?_⟩
    show mk_ar (mk_ca _ d) 9 c = nI e
    rw [ca_ar, if_neg (by omega), if_neg (by omega)]
    exact b
  · have hm := Ae.m hw (t := d) (by omega)
    refine df_ca (by omega) (hd_q H.1 hd) ?_ ?_
    · have := Ae.1
      rw [Int32.le_iff_toInt_le]
      exact this
    · intro z
      rw [z] at hm
      exact absurd hm.1 (by decide)
theorem Ia.l {w : Nat} {M : mk_T} (H : Ia w M) (hw : w ≤ 599) : ∀ c, c ≤ mk_tr M → Ia (w + 1) (pn_l M c)
  | 0, _ => (H.e hw).cw _
  | c + 1, hc => by
    have ih := H.l hw c (by omega)
    unfold pn_l
    split
    · exact ih
    · exact (ih.cod (by omega) (by rw [(pn_l_hz M c).2]; omega)).1
theorem Ia.dw {w : Nat} {M : mk_T} (H : Ia w M) (hw : w ≤ 599) : dw_ok M := by
  have I0 := (H.e hw).1
  refine ⟨H.1.hk, ?_, ?_, ?_, fun c hc => (H.l hw c hc).1.hk, fun c hc _ => ((H.l hw c (by omega)).cod (by omega) (by rw [(pn_l_hz M c).2]; exact hc)).2⟩
  · show mk_ed (mk_pdy (mk_sp (mo_sv M (mk_tr M)) (mk_hz M)) (mk_dy M + nI 1)) (mk_ct M) = pn_e M
    rw [sv_e H.1]
    rfl
  · rw [cw_e I0]
    show mk_cw (pn_e M) (mk_tr M) = mk_cw (pn_e M) (mk_tr (pn_e M))
    rw [(pn_e_hz M).2]
  · rw [cb_e I0]
    show mk_cn (pn_e M) (mk_tr M) = mk_cn (pn_e M) (mk_tr (pn_e M))
    rw [(pn_e_hz M).2]
theorem Ia.ok {w : Nat} {M : mk_T} (H : Ia w M) (hw : w ≤ 599) : pn_ok M := fun c hc _ hcan => good_all (H.l hw c (by omega)).1 (by rw [(pn_l_hz M c).2]; exact hc) hcan

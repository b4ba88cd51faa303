/-! ===== PURE: what a text says does not hang on the reader's old rows ===== -/
def np (c : Nat) : Nat := (ks_l (rd_di c)).length
theorem np_le : ∀ c, c < 8 → np c ≤ 5 := by decide
theorem rd_ns_out {s d : Nat → Nat} {b : Nat} : ∀ e i p ar q, (q < b + i ∨ b + i + e ≤ q) → (rd_ns s d b e i p ar).2.2 q = ar q
  | 0, i, p, ar, q, _ => rfl
  | e + 1, i, p, ar, q, h => by
    unfold rd_ns
    split
    · split
      · rw [rd_ns_out e (i + 1) _ _ q (by omega), pk_un (by omega)]
      · exact pk_un (by omega)
    · rfl
theorem rd_ns_dep {s d : Nat → Nat} {b : Nat} : ∀ e i p ar ar', (rd_ns s d b e i p ar).1 = (rd_ns s d b e i p ar').1 ∧ (rd_ns s d b e i p ar).2.1 = (rd_ns s d b e i p ar').2.1 ∧ ((rd_ns s d b e i p ar).1 = true → ∀ j, i ≤ j → j < i + e → (rd_ns s d b e i p ar).2.2 (b + j) = (rd_ns s d b e i p ar').2.2 (b + j))
  | 0, i, p, ar, ar' => ⟨rfl, rfl, fun _ j h1 h2 => absurd h2 (by omega)⟩
  | e + 1, i, p, ar, ar' => by
    unfold rd_ns
    by_cases z : s p = 32
    · by_cases z2 : p + 1 < (rd_dg s (d i) (p + 1) 0).1
      · simp only [if_pos z, if_pos z2]
        obtain ⟨h1, h2, h3⟩ := rd_ns_dep e (i + 1) (rd_dg s (d i) (p + 1) 0).1 (upd ar (b + i) (nI (rd_dg s (d i) (p + 1) 0).2)) (upd ar' (b + i) (nI (rd_dg s (d i) (p + 1) 0).2))
        refine ⟨h1, h2, fun ht j k1 k2 => ?_⟩
        by_cases q : j = i
        · subst q
          rw [rd_ns_out e (j + 1) _ _ _ (by omega), rd_ns_out e (j + 1) _ _ _ (by omega), pk_us, pk_us]
        · exact h3 ht j (by omega) (by omega)
      · simp only [if_pos z, if_neg z2]
        exact ⟨trivial, trivial, fun h => by cases h⟩
    · simp only [if_neg z]
      exact ⟨trivial, trivial, fun h => by cases h⟩
/-- the first k commands are the same in both -/
def rd_re (k : Nat) (cm ar cm' ar' : Nat → Int32) : Prop := ∀ i, i < k → ∃ c, c < 8 ∧ cm i = nI c ∧ cm' i = nI c ∧ ∀ j, j < np c → ar (i * 5 + j) = ar' (i * 5 + j)
theorem rd_co_dep {t : Nat → Nat} {n cnt p : Nat} {cm ar cm' ar' : Nat → Int32} (h : rd_re cnt cm ar cm' ar') : (rd_co t n cnt cm ar p).1 = (rd_co t n cnt cm' ar' p).1 ∧ (rd_co t n cnt cm ar p).2.2.2 = (rd_co t n cnt cm' ar' p).2.2.2 ∧ ((rd_co t n cnt cm ar p).1 = true → rd_re (cnt + 1) (rd_co t n cnt cm ar p).2.1 (rd_co t n cnt cm ar p).2.2.1 (rd_co t n cnt cm' ar' p).2.1 (rd_co t n cnt cm' ar' p).2.2.1) := by
  unfold rd_co
  rcases rd_ws_num (s := fun j => sg t n (p + j)) 8 with z | ⟨c, hc, z⟩
  · simp only [if_pos z]
    exact ⟨trivial, trivial, fun q => by cases q⟩
  · have zn : ¬ (rd_ws (fun j => sg t n (p + j)) 8).1 = -1 := by
      rw [z]
      have h9 : ∀ c, c < 8 → ¬ nI c = -1 := by decide
      exact h9 c hc
    simp only [if_neg zn]
    rw [z, nI_clamp (by omega)]
    obtain ⟨h1, h2, h3⟩ := rd_ns_dep (s := sg t n) (d := fun i => ks_t (rd_di c) i - 48) (b := cnt * 5) (ks_l (rd_di c)).length 0 (p + (rd_ws (fun j => sg t n (p + j)) 8).2.2) ar ar'
    refine ⟨h1, h2, fun ht i hi => ?_⟩
    by_cases q : i = cnt
    · subst q
      refine ⟨c, hc, pk_us, pk_us, fun j hj => ?_⟩
      exact h3 ht j (Nat.zero_le _) (by rw [Nat.zero_add]; exact hj)
    · obtain ⟨c', k1, k2, k3, k4⟩ := h i (by omega)
      refine ⟨c', k1, (pk_un q).trans k2, (pk_un q).trans k3, fun j hj => ?_⟩
      have := np_le c' k1
      show (rd_ns _ _ _ _ _ _ _).2.2 _ = (rd_ns _ _ _ _ _ _ _).2.2 _
      rw [rd_ns_out _ _ _ _ _ (by omega), rd_ns_out _ _ _ _ _ (by omega)]
      exact k4 j hj
theorem rd_tx_dep {t : Nat → Nat} {n : Nat} : ∀ f cnt p (cm ar cm' ar' : Nat → Int32), rd_re cnt cm ar cm' ar' → (rd_tx t n f cnt cm ar p).1 = (rd_tx t n f cnt cm' ar' p).1 ∧ (rd_tx t n f cnt cm ar p).2.1 = (rd_tx t n f cnt cm' ar' p).2.1 ∧ (rd_tx t n f cnt cm ar p).2.2.2.2 = (rd_tx t n f cnt cm' ar' p).2.2.2.2 ∧ ((rd_tx t n f cnt cm ar p).1 = true → rd_re (rd_tx t n f cnt cm ar p).2.1 (rd_tx t n f cnt cm ar p).2.2.1 (rd_tx t n f cnt cm ar p).2.2.2.1 (rd_tx t n f cnt cm' ar' p).2.2.1 (rd_tx t n f cnt cm' ar' p).2.2.2.1)
  | 0, cnt, p, cm, ar, cm', ar', h => ⟨rfl, rfl, rfl, fun z => by cases z⟩
  | f + 1, cnt, p, cm, ar, cm', ar', h => by
    obtain ⟨h1, h2, h3⟩ := rd_co_dep (t := t) (n := n) (p := p) h
    unfold rd_tx
    generalize rd_co t n cnt cm ar p = C at h1 h2 h3
    generalize rd_co t n cnt cm' ar' p = C' at h1 h2 h3
    show (ite _ _ _ : rd_T).1 = (ite _ _ _ : rd_T).1 ∧ (ite _ _ _ : rd_T).2.1 = (ite _ _ _ : rd_T).2.1 ∧ (ite _ _ _ : rd_T).2.2.2.2 = (ite _ _ _ : rd_T).2.2.2.2 ∧ ((ite _ _ _ : rd_T).1 = true → rd_re (ite _ _ _ : rd_T).2.1 (ite _ _ _ : rd_T).2.2.1 (ite _ _ _ : rd_T).2.2.2.1 (ite _ _ _ : rd_T).2.2.1 (ite _ _ _ : rd_T).2.2.2.1)
    rw [← h1, ← h2]
    by_cases z : C.1 = true
    · simp only [if_pos z]
      by_cases z2 : C.2.2.2 = n
      · simp only [if_pos z2]
        refine ⟨trivial, trivial, ?_, fun _ => h3 z⟩
        first | exact h2 | trivial
      · simp only [if_neg z2]
        by_cases z3 : sg t n C.2.2.2 = 59
        · simp only [if_pos z3]
          exact rd_tx_dep f (cnt + 1) _ _ _ _ _ (h3 z)
        · simp only [if_neg z3]
          refine ⟨trivial, trivial, ?_, fun q => by cases q⟩
          first | exact h2 | trivial
    · simp only [if_neg z]
      refine ⟨trivial, trivial, ?_, fun q => by cases q⟩
      first | exact h2 | trivial
/-- what a text says -/
def tx_p (t : Nat → Nat) (n : Nat) : rd_T := rd_tx t n 12 0 (fun _ => 0) (fun _ => 0) 0
theorem tx_dep {t : Nat → Nat} {n : Nat} (cm ar : Nat → Int32) : (rd_tx t n 12 0 cm ar 0).1 = (tx_p t n).1 ∧ (rd_tx t n 12 0 cm ar 0).2.1 = (tx_p t n).2.1 ∧ (rd_tx t n 12 0 cm ar 0).2.2.2.2 = (tx_p t n).2.2.2.2 ∧ ((tx_p t n).1 = true → rd_re (tx_p t n).2.1 (rd_tx t n 12 0 cm ar 0).2.2.1 (rd_tx t n 12 0 cm ar 0).2.2.2.1 (tx_p t n).2.2.1 (tx_p t n).2.2.2.1) := by
  obtain ⟨h1, h2, h3, h4⟩ := rd_tx_dep (t := t) (n := n) 12 0 0 cm ar (fun _ => 0) (fun _ => 0) (fun i hi => absurd hi (Nat.not_lt_zero i))
  refine ⟨h1, h2, h3, fun z => ?_⟩
  have h5 := h4 (h1.trans z)
  rw [h2] at h5
  exact h5
theorem fo_0 (M : mk_T) (a b k d e : Int32) : fo M 0 a b k d e = mk_fH M a b ∧ po_M M 0 a b k d e = mk_plH M a b ∧ po_v M 0 a b k d e = nI (mk_hz M) := ⟨rfl, rfl, rfl⟩
theorem fo_1 (M : mk_T) (a b k d e : Int32) : fo M 1 a b k d e = mk_fR M a ∧ po_M M 1 a b k d e = mk_plT M a ∧ po_v M 1 a b k d e = nI (mk_tr M) := ⟨rfl, rfl, rfl⟩
theorem fo_2 (M : mk_T) (a b k d e : Int32) : fo M 2 a b k d e = mk_fT M a b k d e ∧ po_M M 2 a b k d e = mk_con M a b k d e ∧ po_v M 2 a b k d e = nI (mk_ct M) := ⟨rfl, rfl, rfl⟩
theorem fo_3 (M : mk_T) (a b k d e : Int32) : fo M 3 a b k d e = mk_fQ M a b ∧ po_M M 3 a b k d e = mk_st M 1 a.toNatClampNeg b ∧ po_v M 3 a b k d e = mk_ar M 1 a.toNatClampNeg := ⟨rfl, rfl, rfl⟩
theorem fo_4 (M : mk_T) (a b k d e : Int32) : fo M 4 a b k d e = nI 0 ∧ po_M M 4 a b k d e = pn_M M ∧ po_v M 4 a b k d e = nI (tk_bc (pn_s M)) := ⟨rfl, rfl, rfl⟩
theorem fo_5 (M : mk_T) (a b k d e : Int32) : fo M 5 a b k d e = mk_fB M a b ∧ po_M M 5 a b k d e = mk_bri M a.toNatClampNeg b ∧ po_v M 5 a b k d e = mk_ar (mk_bri M a.toNatClampNeg b) 3 a.toNatClampNeg := ⟨rfl, rfl, rfl⟩
theorem fo_6 (M : mk_T) (a b k d e : Int32) : fo M 6 a b k d e = mk_fK M a b ∧ po_M M 6 a b k d e = mk_tak M a.toNatClampNeg b ∧ po_v M 6 a b k d e = mk_ar (mk_tak M a.toNatClampNeg b) 3 a.toNatClampNeg := ⟨rfl, rfl, rfl⟩
theorem fo_7 (M : mk_T) (a b k d e : Int32) : fo M 7 a b k d e = mk_fK M a b ∧ po_M M 7 a b k d e = mk_giv M a.toNatClampNeg b ∧ po_v M 7 a b k d e = mk_fu (mk_giv M a.toNatClampNeg b) := ⟨rfl, rfl, rfl⟩
theorem fo_dep {M : mk_T} {c : Nat} (hc : c < 8) {a b k d e a' b' k' d' e' : Int32} (h0 : 0 < np c → a = a') (h1 : 1 < np c → b = b') (h2 : 2 < np c → k = k') (h3 : 3 < np c → d = d') (h4 : 4 < np c → e = e') : fo M c a b k d e = fo M c a' b' k' d' e' ∧ po_M M c a b k d e = po_M M c a' b' k' d' e' ∧ po_v M c a b k d e = po_v M c a' b' k' d' e' := by
  match c, hc with
  | 0, _ =>
    rw [(fo_0 M a b k d e).1, (fo_0 M a b k d e).2.1, (fo_0 M a b k d e).2.2, (fo_0 M a' b' k' d' e').1, (fo_0 M a' b' k' d' e').2.1, (fo_0 M a' b' k' d' e').2.2, h0 (by decide), h1 (by decide)]
    exact ⟨rfl, rfl, rfl⟩
  | 1, _ =>
    rw [(fo_1 M a b k d e).1, (fo_1 M a b k d e).2.1, (fo_1 M a b k d e).2.2, (fo_1 M a' b' k' d' e').1, (fo_1 M a' b' k' d' e').2.1, (fo_1 M a' b' k' d' e').2.2, h0 (by decide)]
    exact ⟨rfl, rfl, rfl⟩
  | 2, _ =>
    rw [(fo_2 M a b k d e).1, (fo_2 M a b k d e).2.1, (fo_2 M a b k d e).2.2, (fo_2 M a' b' k' d' e').1, (fo_2 M a' b' k' d' e').2.1, (fo_2 M a' b' k' d' e').2.2, h0 (by decide), h1 (by decide), h2 (by decide), h3 (by decide), h4 (by decide)]
    exact ⟨rfl, rfl, rfl⟩
  | 3, _ =>
    rw [(fo_3 M a b k d e).1, (fo_3 M a b k d e).2.1, (fo_3 M a b k d e).2.2, (fo_3 M a' b' k' d' e').1, (fo_3 M a' b' k' d' e').2.1, (fo_3 M a' b' k' d' e').2.2, h0 (by decide), h1 (by decide)]
    exact ⟨rfl, rfl, rfl⟩
  | 4, _ =>
    rw [(fo_4 M a b k d e).1, (fo_4 M a b k d e).2.1, (fo_4 M a b k d e).2.2, (fo_4 M a' b' k' d' e').1, (fo_4 M a' b' k' d' e').2.1, (fo_4 M a' b' k' d' e').2.2]
    exact ⟨rfl, rfl, rfl⟩
  | 5, _ =>
    rw [(fo_5 M a b k d e).1, (fo_5 M a b k d e).2.1, (fo_5 M a b k d e).2.2, (fo_5 M a' b' k' d' e').1, (fo_5 M a' b' k' d' e').2.1, (fo_5 M a' b' k' d' e').2.2, h0 (by decide), h1 (by decide)]
    exact ⟨rfl, rfl, rfl⟩
  | 6, _ =>
    rw [(fo_6 M a b k d e).1, (fo_6 M a b k d e).2.1, (fo_6 M a b k d e).2.2, (fo_6 M a' b' k' d' e').1, (fo_6 M a' b' k' d' e').2.1, (fo_6 M a' b' k' d' e').2.2, h0 (by decide), h1 (by decide)]
    exact ⟨rfl, rfl, rfl⟩
  | 7, _ =>
    rw [(fo_7 M a b k d e).1, (fo_7 M a b k d e).2.1, (fo_7 M a b k d e).2.2, (fo_7 M a' b' k' d' e').1, (fo_7 M a' b' k' d' e').2.1, (fo_7 M a' b' k' d' e').2.2, h0 (by decide), h1 (by decide)]
    exact ⟨rfl, rfl, rfl⟩
/-- the number of the i-th command; what is wrong with it; the market behind the first i -/
def xe_c (T : rd_T) (i : Nat) : Nat := (T.2.2.1 i).toNatClampNeg
def xe_a (T : rd_T) (i j : Nat) : Int32 := T.2.2.2.1 (i * 5 + j)
def xe_M (T : rd_T) (M : mk_T) (i : Nat) : mk_T := match i with
  | 0 => M
  | i + 1 => po_M (xe_M T M i) (xe_c T i) (xe_a T i 0) (xe_a T i 1) (xe_a T i 2) (xe_a T i 3) (xe_a T i 4)
def xe_o (T : rd_T) (M : mk_T) (i : Nat) : Int32 := fo (xe_M T M i) (xe_c T i) (xe_a T i 0) (xe_a T i 1) (xe_a T i 2) (xe_a T i 3) (xe_a T i 4)
/-- the first command from i on that fails, among e -/
def xe_f (T : rd_T) (M : mk_T) (e i : Nat) : Option Nat := match e with
  | 0 => none
  | e + 1 => if xe_o T M i = nI 0 then xe_f T M e (i + 1) else some i
theorem rd_tx_c {t : Nat → Nat} {n : Nat} : ∀ f cnt p (cm ar : Nat → Int32), cnt ≤ (rd_tx t n f cnt cm ar p).2.1 ∧ (rd_tx t n f cnt cm ar p).2.1 ≤ cnt + f
  | 0, cnt, p, cm, ar => ⟨Nat.le_refl _, Nat.le_refl _⟩
  | f + 1, cnt, p, cm, ar => by
    unfold rd_tx
    generalize rd_co t n cnt cm ar p = C
    show cnt ≤ (ite _ _ _ : rd_T).2.1 ∧ (ite _ _ _ : rd_T).2.1 ≤ _
    by_cases z : C.1 = true
    · simp only [if_pos z]
      by_cases z2 : C.2.2.2 = n
      · simp only [if_pos z2]
        omega
      · simp only [if_neg z2]
        by_cases z3 : sg t n C.2.2.2 = 59
        · simp only [if_pos z3]
          have := rd_tx_c (t := t) (n := n) f (cnt + 1) (C.2.2.2 + 1) C.2.1 C.2.2.1
          omega
        · simp only [if_neg z3]
          omega
    · simp only [if_neg z]
      omega
theorem tx_c12 (t : Nat → Nat) (n : Nat) : (tx_p t n).2.1 ≤ 12 := by
  have := (rd_tx_c (t := t) (n := n) 12 0 0 (fun _ => 0) (fun _ => 0)).2
  exact this

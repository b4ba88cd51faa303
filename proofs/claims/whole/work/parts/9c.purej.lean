/-! ===== PURE: a text does the same in both ===== -/
theorem tx_n_ {t : Nat → Nat} {n : Nat} : ∀ f cnt p (cm ar T : Nat → Int32), cnt ≤ p → rl cnt cm ar T → (rd_tx t n f cnt cm ar p).1 = true → (rd_tx t n f cnt cm ar p).2.1 ≤ n
  | 0, cnt, p, cm, ar, T, _, _, h => by cases h
  | f + 1, cnt, p, cm, ar, T, hp, h, hok => by
    obtain ⟨k1, k2, k3⟩ := co_pc (t := t) (n := n) (p := p) h
    unfold rd_tx at hok ⊢
    obtain ⟨C, hC⟩ : ∃ C, C = rd_co t n cnt cm ar p := ⟨_, rfl⟩
    obtain ⟨A, hA⟩ : ∃ A, A = pc_C (sg t n) cnt (6 * cnt + 1) p T := ⟨_, rfl⟩
    rw [← hC, ← hA] at k1 k2 k3
    rw [← hC] at hok ⊢
    have hok : (ite _ _ _ : rd_T).1 = true := hok
    show (ite _ _ _ : rd_T).2.1 ≤ n
    by_cases z : C.1 = true
    · obtain ⟨g1, g2⟩ := k3 z
      rw [← k2] at g1
      simp only [if_pos z] at hok ⊢
      by_cases z2 : C.2.2.2 = n
      · simp only [if_pos z2]
        omega
      · simp only [if_neg z2] at hok ⊢
        by_cases z3 : sg t n C.2.2.2 = 59
        · simp only [if_pos z3] at hok ⊢
          exact tx_n_ f (cnt + 1) _ _ _ _ (by omega) g2 hok
        · simp only [if_neg z3] at hok
          cases hok
    · simp only [if_neg z] at hok
      cases hok
/-- no more commands than signs -/
theorem tx_n {t : Nat → Nat} {n : Nat} (h : (tx_p t n).1 = true) : (tx_p t n).2.1 ≤ n := tx_n_ (T := fun _ => 0) 12 0 0 _ _ (Nat.le_refl _) (fun i hi => absurd hi (Nat.not_lt_zero i)) h
theorem fx_0 {M : mk_T} {c : Nat} (hc : c < 8) {a b k d e : Int32} : fx c (fo M c a b k d e) = nI 0 ↔ fo M c a b k d e = nI 0 := by
  by_cases z : c < 2
  · have hf : fo M c a b k d e = nI 0 ∨ fo M c a b k d e = nI 2 ∨ fo M c a b k d e = nI 3 := by
      by_cases q : c = 0
      · subst q
        rw [(fo_0 M a b k d e).1]
        unfold mk_fH
        split
        · exact Or.inr (Or.inl rfl)
        · split
          · exact Or.inr (Or.inr rfl)
          · exact Or.inl rfl
      · have : c = 1 := by omega
        subst this
        rw [(fo_1 M a b k d e).1]
        unfold mk_fR
        split
        · exact Or.inr (Or.inl rfl)
        · split
          · exact Or.inr (Or.inr rfl)
          · exact Or.inl rfl
    unfold fx
    rw [if_pos z]
    rcases hf with y | y | y <;> rw [y] <;> decide
  · rw [fx_2 c _ z]
theorem x_st {T : rd_T} {TT : Nat → Int32} {cnt : Nat} (hr : rl cnt T.2.2.1 T.2.2.2.1 TT) {M : mk_T} (H : Ic M) {i : Nat} (hi : i < cnt) : ∃ c, c < 8 ∧ xe_c T i = c ∧ TT (6 * i) = nI c ∧ xm_c TT M i = (fx c (fo M (xe_c T i) (xe_a T i 0) (xe_a T i 1) (xe_a T i 2) (xe_a T i 3) (xe_a T i 4)), po_M M (xe_c T i) (xe_a T i 0) (xe_a T i 1) (xe_a T i 2) (xe_a T i 3) (xe_a T i 4), po_v M (xe_c T i) (xe_a T i 0) (xe_a T i 1) (xe_a T i 2) (xe_a T i 3) (xe_a T i 4)) := by
  obtain ⟨c, c8, c1, c2, c3⟩ := hr i hi
  have e : xe_c T i = c := by
    unfold xe_c
    rw [c1]
    exact nI_clamp (by omega)
  refine ⟨c, c8, e, c2, ?_⟩
  rw [e]
  unfold xm_c
  rw [c2, nI_clamp (by omega), cv_e H c8]
  obtain ⟨d1, d2, d3⟩ := fo_dep (M := M) c8 (a := TT (6 * i + 1)) (a' := xe_a T i 0) (b := TT (6 * i + 2)) (b' := xe_a T i 1) (k := TT (6 * i + 3)) (k' := xe_a T i 2) (d := TT (6 * i + 4)) (d' := xe_a T i 3) (e := TT (6 * i + 5)) (e' := xe_a T i 4) (fun h => (c3 0 h).symm) (fun h => (c3 1 h).symm) (fun h => (c3 2 h).symm) (fun h => (c3 3 h).symm) (fun h => (c3 4 h).symm)
  rw [d1, d2, d3]
theorem x_run {T : rd_T} {TT : Nat → Int32} {cnt w : Nat} (hr : rl cnt T.2.2.1 T.2.2.2.1 TT) {M : mk_T} (A : Ia w M) (hw : w + cnt ≤ 598) : ∀ i, i ≤ cnt → (∀ j, j < i → xe_o T M j = nI 0) → xm_M TT M i = xe_M T M i ∧ Ia (w + i) (xe_M T M i)
  | 0, _, _ => ⟨rfl, A⟩
  | i + 1, hi, h => by
    obtain ⟨e, B⟩ := x_run hr A hw i (by omega) (fun j hj => h j (by omega))
    obtain ⟨c, c8, c1, c2, c3⟩ := x_st hr B.1 (i := i) (by omega)
    have o := h i (Nat.lt_succ_self i)
    refine ⟨?_, ?_⟩
    · show (xm_c TT (xm_M TT M i) i).2.1 = _
      rw [e, c3]
      rfl
    · exact B.po (by omega) (by rw [c1]; exact c8) o
theorem x_o {T : rd_T} {TT : Nat → Int32} {cnt w : Nat} (hr : rl cnt T.2.2.1 T.2.2.2.1 TT) {M : mk_T} (A : Ia w M) (hw : w + cnt ≤ 598) {i : Nat} (hi : i < cnt) (h : ∀ j, j < i → xe_o T M j = nI 0) : xm_o TT M i = nI 0 ↔ xe_o T M i = nI 0 := by
  obtain ⟨e, B⟩ := x_run hr A hw i (by omega) h
  obtain ⟨c, c8, c1, c2, c3⟩ := x_st hr B.1 hi
  show (xm_c TT (xm_M TT M i) i).1 = nI 0 ↔ _
  rw [e, c3, c1]
  show fx c (fo (xe_M T M i) c _ _ _ _ _) = nI 0 ↔ fo (xe_M T M i) (xe_c T i) _ _ _ _ _ = nI 0
  rw [c1]
  exact fx_0 c8
theorem x_oo {T : rd_T} {TT : Nat → Int32} {cnt w : Nat} (hr : rl cnt T.2.2.1 T.2.2.2.1 TT) {M : mk_T} (A : Ia w M) (hw : w + cnt ≤ 598) : ∀ i, i ≤ cnt → (∀ j, j < i → xm_o TT M j = nI 0) → ∀ j, j < i → xe_o T M j = nI 0
  | 0, _, _, j, hj => absurd hj (Nat.not_lt_zero j)
  | i + 1, hi, h, j, hj => by
    have ih := x_oo hr A hw i (by omega) (fun j hj => h j (by omega))
    by_cases q : j = i
    · subst q
      exact (x_o hr A hw (by omega) ih).mp (h j (by omega))
    · exact ih j (by omega)
theorem x_f {T : rd_T} {TT : Nat → Int32} {cnt w : Nat} (hr : rl cnt T.2.2.1 T.2.2.2.1 TT) {M : mk_T} (A : Ia w M) (hw : w + cnt ≤ 598) : ∀ e i, i + e = cnt → (∀ j, j < i → xe_o T M j = nI 0) → xm_f TT M e i = xe_f T M e i
  | 0, i, _, _ => rfl
  | e + 1, i, he, h => by
    have k := x_o hr A hw (i := i) (by omega) h
    unfold xm_f xe_f
    by_cases z : xe_o T M i = nI 0
    · rw [if_pos (k.mpr z), if_pos z]
      refine x_f hr A hw e (i + 1) (by omega) (fun j hj => ?_)
      by_cases q : j = i
      · rw [q]
        exact z
      · exact h j (by omega)
    · rw [if_neg (fun y => z (k.mp y)), if_neg z]
theorem xf_none {T : rd_T} {M : mk_T} : ∀ e i, xe_f T M e i = none → ∀ j, i ≤ j → j < i + e → xe_o T M j = nI 0
  | 0, i, _, j, h1, h2 => by omega
  | e + 1, i, h, j, h1, h2 => by
    unfold xe_f at h
    by_cases z : xe_o T M i = nI 0
    · rw [if_pos z] at h
      by_cases q : j = i
      · rw [q]
        exact z
      · exact xf_none e (i + 1) h j (by omega) (by omega)
    · rw [if_neg z] at h
      cases h
/-- the class may run a text -/
theorem x_hok {T : rd_T} {TT : Nat → Int32} {w : Nat} (hr : rl T.2.1 T.2.2.1 T.2.2.2.1 TT) {M : mk_T} (A : Ia w M) (hw : w + T.2.1 ≤ 598) : ex_hok T M := fun i hi _ h => (x_run hr A hw i (by omega) h).2.ok (by omega)
/-- the model may run a text -/
theorem x_all {T : rd_T} {TT : Nat → Int32} {w : Nat} (hr : rl T.2.1 T.2.2.1 T.2.2.2.1 TT) {M : mk_T} (A : Ia w M) (hw : w + T.2.1 ≤ 598) : ∀ i, i < T.2.1 → (∀ j, j < i → xm_o TT M j = nI 0) → dw_ok (xm_M TT M i) ∧ mo_bd (xm_M TT M i) := fun i hi h => by
  obtain ⟨e, B⟩ := x_run hr A hw i (by omega) (x_oo hr A hw i (by omega) h)
  rw [e]
  exact ⟨B.dw (by omega), B.bd (by omega)⟩
/-! the ring of kept markets -/
def Rg (K mk : Nat → mk_T) (nx cnt : Nat) : Prop := nx < 8 ∧ cnt ≤ 8 ∧ ∀ i, i < cnt → K i = mk ((nx + 8 - cnt + i) % 8)
theorem Rg.kp {K mk : Nat → mk_T} {nx cnt : Nat} (H : Rg K mk nx cnt) (M : mk_T) : Rg (kp_K K cnt M) (va_up mk nx M) ((nx + 1) % 8) (min (cnt + 1) 8) ∧ kp_n cnt = min (cnt + 1) 8 := by
  obtain ⟨h1, h2, h3⟩ := H
  have en : kp_n cnt = min (cnt + 1) 8 := by
    unfold kp_n
    split <;> omega
  refine ⟨⟨by omega, by omega, fun i hi => ?_⟩, en⟩
  unfold kp_K
  by_cases z : cnt = 8
  · rw [if_pos z]
    show (if i = 7 then M else K (i + 1)) = va_up mk nx M (((nx + 1) % 8 + 8 - min (cnt + 1) 8 + i) % 8)
    by_cases q : i = 7
    · rw [if_pos q, show ((nx + 1) % 8 + 8 - min (cnt + 1) 8 + i) % 8 = nx by omega]
      exact (if_pos rfl).symm
    · rw [if_neg q, h3 (i + 1) (by omega)]
      unfold va_up
      rw [if_neg (by omega)]
      exact congrArg mk (by omega)
  · rw [if_neg z]
    show (if i = cnt then M else K i) = va_up mk nx M (((nx + 1) % 8 + 8 - min (cnt + 1) 8 + i) % 8)
    by_cases q : i = cnt
    · rw [if_pos q, show ((nx + 1) % 8 + 8 - min (cnt + 1) 8 + i) % 8 = nx by omega]
      exact (if_pos rfl).symm
    · rw [if_neg q, h3 i (by omega)]
      unfold va_up
      rw [if_neg (by omega)]
      exact congrArg mk (by omega)
theorem Rg.un {K mk : Nat → mk_T} {nx cnt : Nat} (H : Rg K mk nx cnt) (h : ¬ cnt = 0) : Rg K mk ((nx + 7) % 8) (cnt - 1) ∧ K (cnt - 1) = mk ((nx + 7) % 8) := by
  obtain ⟨h1, h2, h3⟩ := H
  refine ⟨⟨by omega, by omega, fun i hi => ?_⟩, ?_⟩
  · rw [h3 i (by omega)]
    exact congrArg mk (by omega)
  · rw [h3 (cnt - 1) (by omega)]
    exact congrArg mk (by omega)
theorem Rg.re {K mk : Nat → mk_T} {nx cnt : Nat} (H : Rg K mk nx cnt) : Rg K mk nx 0 := ⟨H.1, by decide, fun i hi => absurd hi (Nat.not_lt_zero i)⟩

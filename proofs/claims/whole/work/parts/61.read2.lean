/-! ===== THE READER: words, numbers, commands, texts ===== -/
theorem sg_0 {t : Nat → Nat} {n i : Nat} (h : n ≤ i) : sg t n i = 0 := if_neg (by omega)
theorem sg_256 {t : Nat → Nat} {n : Nat} (hsg : ∀ i, i < n → t i < 256) (i : Nat) : sg t n i < 256 := by
  unfold sg
  split
  · exact hsg _ (by assumption)
  · decide
theorem ks_nz0 : ∀ k, k < 23 → 15 ≤ k → ∀ j, j < (ks_l k).length → ks_t k j ≠ 0 := by decide +kernel
theorem ks_nz (k : Nat) (h1 : 15 ≤ k) (h2 : k < 23) : ∀ j, j < (ks_l k).length → ks_t k j ≠ 0 := ks_nz0 k h2 h1
theorem rd_cm_in {s w : Nat → Nat} : ∀ e c j, c ≤ j → j < rd_cm s w e c → s j = w j ∧ j < c + e
  | 0, c, j, h1, h2 => by
    unfold rd_cm at h2
    omega
  | e + 1, c, j, h1, h2 => by
    unfold rd_cm at h2
    split at h2
    · rename_i hs
      by_cases z : j = c
      · subst z
        exact ⟨hs, by omega⟩
      · have := rd_cm_in e (c + 1) j (by omega) h2
        exact ⟨this.1, by omega⟩
    · omega
theorem rd_cm_n {t : Nat → Nat} {n p k : Nat} (hp : p ≤ n) (h1 : 15 ≤ k) (h2 : k < 23) : p + rd_cm (fun j => sg t n (p + j)) (ks_t k) (ks_l k).length 0 ≤ n := by
  generalize e : rd_cm (fun j => sg t n (p + j)) (ks_t k) (ks_l k).length 0 = c
  match c, e with
  | 0, _ => omega
  | c + 1, e =>
    have h := rd_cm_in (s := fun j => sg t n (p + j)) (w := ks_t k) (ks_l k).length 0 c (Nat.zero_le _) (by omega)
    have h3 := ks_nz k h1 h2 c (by omega)
    rw [← h.1] at h3
    by_cases z : p + c < n
    · omega
    · exact absurd (sg_0 (by omega)) h3
theorem rd_ws_n {t : Nat → Nat} {n p : Nat} (hp : p ≤ n) : ∀ k, k ≤ 8 → p + (rd_ws (fun j => sg t n (p + j)) k).2.2 ≤ n
  | 0, _ => hp
  | k + 1, hk => by
    have h := rd_ws_n hp k (by omega) (t := t)
    have h2 := rd_cm_n (t := t) hp (k := 15 + k) (by omega) (by omega)
    unfold rd_ws rd_one
    generalize rd_cm (fun j => sg t n (p + j)) (ks_t (15 + k)) (ks_l (15 + k)).length 0 = c at h2
    generalize rd_ws (fun j => sg t n (p + j)) k = b at h
    show p + (ite _ _ _ : rd_W).2.2 ≤ n
    split
    · show p + (if _ then _ else _) ≤ n
      split <;> omega
    · show p + (if _ then _ else _) ≤ n
      split <;> omega
theorem rd_one_t {s : Nat → Nat} {k : Nat} {b : rd_W} (h1 : rd_cm s (ks_t (15 + k)) (ks_l (15 + k)).length 0 = (ks_l (15 + k)).length) (h2 : b.2.1 < rd_cm s (ks_t (15 + k)) (ks_l (15 + k)).length 0) : rd_one s k b = (nI k, rd_cm s (ks_t (15 + k)) (ks_l (15 + k)).length 0, if b.2.2 < rd_cm s (ks_t (15 + k)) (ks_l (15 + k)).length 0 then rd_cm s (ks_t (15 + k)) (ks_l (15 + k)).length 0 else b.2.2) := if_pos ⟨h1, h2⟩
theorem rd_one_f {s : Nat → Nat} {k : Nat} {b : rd_W} (h : ¬ (rd_cm s (ks_t (15 + k)) (ks_l (15 + k)).length 0 = (ks_l (15 + k)).length ∧ b.2.1 < rd_cm s (ks_t (15 + k)) (ks_l (15 + k)).length 0)) : rd_one s k b = (b.1, b.2.1, if b.2.2 < rd_cm s (ks_t (15 + k)) (ks_l (15 + k)).length 0 then rd_cm s (ks_t (15 + k)) (ks_l (15 + k)).length 0 else b.2.2) := if_neg h
theorem rd_ws_num {s : Nat → Nat} : ∀ k, (rd_ws s k).1 = -1 ∨ ∃ c, c < k ∧ (rd_ws s k).1 = nI c
  | 0 => Or.inl rfl
  | k + 1 => by
    have h := rd_ws_num (s := s) k
    unfold rd_ws
    by_cases z : rd_cm s (ks_t (15 + k)) (ks_l (15 + k)).length 0 = (ks_l (15 + k)).length ∧ (rd_ws s k).2.1 < rd_cm s (ks_t (15 + k)) (ks_l (15 + k)).length 0
    · rw [rd_one_t z.1 z.2]
      exact Or.inr ⟨k, by omega, rfl⟩
    · rw [rd_one_f z]
      rcases h with h | ⟨c, h1, h2⟩
      · exact Or.inl h
      · exact Or.inr ⟨c, by omega, h2⟩
theorem rd_dg_n {t : Nat → Nat} {n : Nat} : ∀ e p x, p ≤ n → (rd_dg (sg t n) e p x).1 ≤ n
  | 0, p, x, h => h
  | e + 1, p, x, h => by
    unfold rd_dg
    split
    · rename_i hs
      have : p < n := by
        by_cases z : p < n
        · exact z
        · rw [sg_0 (by omega)] at hs
          omega
      exact rd_dg_n e (p + 1) _ (by omega)
    · exact h
theorem sx_pos {k : Nat} (h : k < 2 ^ 31) : nI k ≤ 0 ↔ k = 0 := by
  rw [show (0 : Int32) = nI 0 from rfl, nI_leI h (by decide)]
  omega
set_option maxHeartbeats 8000000 in
theorem loop_X1_readWord {G : hp_G} {K : hp_C} {n0 : Nat} {h : Nat → Option va_E} {q tq tv : Nat} {cm ar : Nat → Int32} {cnt ps : Nat} {ml : Int32} {t : Nat → Nat} {n m : Nat} (C : hp_Cx G K MX1_readWord) (hRm : hp_Rm K = hp_rm 6 0 0) (hl : K.2.1.stackTraces = false) (hR : Cr G h q cm ar cnt ps) (hT : Rt G h q tq tv ml t n m) (hsg : ∀ i, i < n → t i < 256) (hk : V G K MX1_readWord 0 0 (n0, h) 70 [some (.ref q), some (.ref tq), some (.int (rd_ws (fun j => sg t n (ps + j)) 8).1), none, some (.int (nI (rd_ws (fun j => sg t n (ps + j)) 8).2.2)), none, none, none] []) : ∀ (e c : Nat), c + e = 8 → V G K MX1_readWord 0 0 (n0, h) 10 [some (.ref q), some (.ref tq), some (.int (rd_ws (fun j => sg t n (ps + j)) c).1), some (.int (nI (rd_ws (fun j => sg t n (ps + j)) c).2.1)), some (.int (nI (rd_ws (fun j => sg t n (ps + j)) c).2.2)), some (.int (nI c)), none, none] [] := by
  intro e
  induction e with
  | zero =>
    intro c h1
    have e : c = 8 := by omega
    subst e
    refine v_iload C dX1_readWord_10 rfl ?_
    refine v_bipush (v := nI 8) C dX1_readWord_12 (by decide) ?_
    refine v_icmp_geN (tgt := 70) C dX1_readWord_14 (by decide) (by omega) (by omega) (fun c14 => ?_) (fun c14 => absurd c14 (by omega))
    refine v_drop 3 (v_drop 5 ?_)
    exact hk
  | succ e ih =>
    intro c h1
    have hb := rd_ws_le (fun j => sg t n (ps + j)) c
    have hcm := rd_cm_le (fun j => sg t n (ps + j)) (ks_t (15 + c)) (ks_l (15 + c)).length 0
    have hkl := ks_len (15 + c)
    have hW := hT.2.1.str (k := 15 + c) (by omega) (by omega)
    obtain ⟨wv, wx, wy, wa, w1, w2, w3, w4⟩ := id hW
    refine v_iload C dX1_readWord_10 rfl ?_
    refine v_bipush (v := nI 8) C dX1_readWord_12 (by decide) ?_
    refine v_icmp_geN (tgt := 70) C dX1_readWord_14 (by decide) (by omega) (by omega) (fun c14 => absurd c14 (by omega)) (fun c14 => ?_)
    refine v_iload C dX1_readWord_17 rfl ?_
    refine v_callSa C (c_X0_wordOf hl (by omega)) dX1_readWord_19 mX0_wordOf wd6_131 rfl rfl (Nat.le_of_ble_eq_true rfl) (hp_rmle hRm (by decide) (by decide)) (Nat.le_of_ble_eq_true rfl) (Nat.le_of_ble_eq_true rfl) (fun r19 n19 h19 q19 => ?_)
    obtain ⟨er, eh⟩ := q19
    cases eh
    subst er
    refine v_astore C dX1_readWord_22 (by decide) ?_
    refine v_aload_n C dX1_readWord_24 rfl ?_
    refine v_aload_n C dX1_readWord_25 rfl ?_
    refine v_aload C dX1_readWord_26 rfl ?_
    refine v_callVi C (c_X1_commonLength hl hR hT.1 hW (by omega) hsg (fun _ _ => ks_tl)) dX1_readWord_28 mX1_commonLength rfl hR.o rfl wd6_143 rfl rfl (Nat.le_of_ble_eq_true rfl) (hp_rmle hRm (by decide) (by decide)) (Nat.le_of_ble_eq_true rfl) (Nat.le_of_ble_eq_true rfl) ?_
    refine v_istore C dX1_readWord_31 (by decide) ?_
    refine v_iload C dX1_readWord_33 rfl ?_
    refine v_iload C dX1_readWord_35 rfl ?_
    refine v_mmax C dX1_readWord_37 wd6_169 (Nat.le_of_ble_eq_true rfl) (hp_rmm hRm) ?_
    rw [hp_maxN (by omega) (by omega)]
    refine v_istore C dX1_readWord_40 (by decide) ?_
    refine v_iload C dX1_readWord_42 rfl ?_
    refine v_aload C dX1_readWord_44 rfl ?_
    refine v_callVi C (c_J0_length_8abf5 hl hW) dX1_readWord_46 mJ0_length_8abf5 rfl w1 rfl wd6_147 rfl rfl (Nat.le_of_ble_eq_true rfl) (hp_rmle hRm (by decide) (by decide)) (Nat.le_of_ble_eq_true rfl) (Nat.le_of_ble_eq_true rfl) ?_
    refine v_icmp_neN (tgt := 64) C dX1_readWord_49 (by decide) (by omega) (by omega) (fun c49 => ?_) (fun c49 => ?_)
    · refine v_iincN C dX1_readWord_64 (by decide) rfl ?_
      refine v_goto (tgt := 10) C dX1_readWord_67 (by decide) ?_
      refine v_drop 6 (v_drop 7 ?_)
      have hv := ih (c + 1) (by omega)
      rw [show rd_ws (fun j => sg t n (ps + j)) (c + 1) = rd_one (fun j => sg t n (ps + j)) c (rd_ws (fun j => sg t n (ps + j)) c) from rfl] at hv
      first
      | rw [rd_one_t c49 (by omega)] at hv
      | rw [rd_one_f (fun z => absurd z.1 c49)] at hv
      | rw [rd_one_f (fun z => absurd z.2 (by omega))] at hv
      exact hv
    · refine v_iload C dX1_readWord_52 rfl ?_
      refine v_iload_n C dX1_readWord_54 rfl ?_
      refine v_icmp_leN (tgt := 64) C dX1_readWord_55 (by decide) (by omega) (by omega) (fun c55 => ?_) (fun c55 => ?_)
      · refine v_iincN C dX1_readWord_64 (by decide) rfl ?_
        refine v_goto (tgt := 10) C dX1_readWord_67 (by decide) ?_
        refine v_drop 6 (v_drop 7 ?_)
        have hv := ih (c + 1) (by omega)
        rw [show rd_ws (fun j => sg t n (ps + j)) (c + 1) = rd_one (fun j => sg t n (ps + j)) c (rd_ws (fun j => sg t n (ps + j)) c) from rfl] at hv
        first
        | rw [rd_one_t c49 (by omega)] at hv
        | rw [rd_one_f (fun z => absurd z.1 c49)] at hv
        | rw [rd_one_f (fun z => absurd z.2 (by omega))] at hv
        exact hv
      · refine v_iload C dX1_readWord_58 rfl ?_
        refine v_istore_n C dX1_readWord_60 (by decide) ?_
        refine v_iload C dX1_readWord_61 rfl ?_
        refine v_istore_n C dX1_readWord_63 (by decide) ?_
        refine v_iincN C dX1_readWord_64 (by decide) rfl ?_
        refine v_goto (tgt := 10) C dX1_readWord_67 (by decide) ?_
        refine v_drop 6 (v_drop 7 ?_)
        have hv := ih (c + 1) (by omega)
        rw [show rd_ws (fun j => sg t n (ps + j)) (c + 1) = rd_one (fun j => sg t n (ps + j)) c (rd_ws (fun j => sg t n (ps + j)) c) from rfl] at hv
        first
        | rw [rd_one_t c49 (by omega)] at hv
        | rw [rd_one_f (fun z => absurd z.1 c49)] at hv
        | rw [rd_one_f (fun z => absurd z.2 (by omega))] at hv
        exact hv
set_option maxHeartbeats 4000000 in
/-- the word at the place -/
theorem c_X1_readWord {G : hp_G} {l : Launch} (hl : l.stackTraces = false) {n0 : Nat} {h0 : Nat → Option va_E} {q tq tv : Nat} {cm ar : Nat → Int32} {cnt ps : Nat} {ml : Int32} {t : Nat → Nat} {n m : Nat} (hR : Cr G h0 q cm ar cnt ps) (hT : Rt G h0 q tq tv ml t n m) (hsg : ∀ i, i < n → t i < 256) (hn : n ≤ 60) (hps : ps ≤ n) : Ct G l yX1_readWord cX1_readWord 8 (some .int) 6 0 0 [.ref q, .ref tq] (n0, h0) (hp_iq (fun r τ => r = (rd_ws (fun j => sg t n (ps + j)) 8).1 ∧ τ.1 = n0 ∧ Cr G τ.2 q cm ar cnt (ps + (rd_ws (fun j => sg t n (ps + j)) 8).2.2) ∧ ∀ a, (a < q ∨ q + 3 ≤ a) → τ.2 a = h0 a)) := by
  have hbase := hR.base
  have hO : ∀ a, (a < q ∨ q + 3 ≤ a) → h0 a = h0 a := fun _ _ => rfl
  have hbc := hR.bc
  have hnm := hT.1.2.2.1
  have hm3 := hT.1.2.2.2.1
  have hwl := rd_ws_le (fun j => sg t n (ps + j)) 8
  have hwn := rd_ws_n (t := t) hps 8 (Nat.le_refl _)
  refine Ct.of rfl hl (by simp [Value.category]) (Nat.le_of_ble_eq_true rfl) (fun K C E hRm hKl => ?_)
  subst hKl
  refine v_iconst (v := (-1)) C dX1_readWord_0 (by decide) ?_
  refine v_istore_n C dX1_readWord_1 (by decide) ?_
  refine v_iconst (v := nI 0) C dX1_readWord_2 (by decide) ?_
  refine v_istore_n C dX1_readWord_3 (by decide) ?_
  refine v_iconst (v := nI 0) C dX1_readWord_4 (by decide) ?_
  refine v_istore C dX1_readWord_5 (by decide) ?_
  refine v_iconst (v := nI 0) C dX1_readWord_7 (by decide) ?_
  refine v_istore C dX1_readWord_8 (by decide) ?_
  refine loop_X1_readWord (h := h0) C hRm hl hR hT hsg ?_ 8 0 rfl
  refine v_aload_n C dX1_readWord_70 rfl ?_
  refine v_dup C dX1_readWord_71 rfl ?_
  refine v_get (v := .int (nI (ps))) C 3 dX1_readWord_72 wd1_213 hR.o rfl (by decide) ⟨rfl, rfl, rfl⟩ rfl ?_
  refine v_iload C dX1_readWord_75 rfl ?_
  refine v_iaddN C dX1_readWord_77 ?_
  refine v_put C 3 dX1_readWord_78 wd1_213 hbase hR.o rfl (by decide) ⟨rfl, rfl, rfl, rfl⟩ rfl rfl rfl (Nat.le_of_ble_eq_true rfl) (fun h78 e78 g78 => ?_)
  have R78 := hR.p_ps e78 g78 (by omega)
  have T78 := hT.same (h' := h78) (fun a k1 k2 => g78 a (by omega))
  have hO78 : ∀ a, (a < q ∨ q + 3 ≤ a) → h78 a = h0 a := fun a ha => (g78 a (by omega)).trans (hO a ha)
  refine v_iload_n C dX1_readWord_81 rfl ?_
  exact v_iret C E dX1_readWord_82 rfl ⟨_, rfl, rfl, rfl, R78, hO78⟩
set_option maxHeartbeats 8000000 in
theorem loop_X1_readNumber {G : hp_G} {K : hp_C} {n0 : Nat} {h0 : Nat → Option va_E} {q tq tv : Nat} {cm ar : Nat → Int32} {cnt p0 md pl : Nat} {ml : Int32} {t : Nat → Nat} {n m : Nat} {R : Nat × Nat} (C : hp_Cx G K MX1_readNumber) (hRm : hp_Rm K = hp_rm 5 0 0) (hl : K.2.1.stackTraces = false) (hsg : ∀ i, i < n → t i < 256) (hn : n ≤ 60) (hmd : md ≤ 9) (hk : ∀ (h : Nat → Option va_E), Cr G h q cm ar cnt R.1 → (∀ a, (a < q ∨ q + 3 ≤ a) → h a = h0 a) → V G K MX1_readNumber 0 0 (n0, h) 86 [some (.ref q), some (.ref tq), none, some (.int (nI pl)), some (.int (nI R.2)), some (.int (nI (R.1 - p0)))] []) : ∀ (e p x k : Nat) (h : Nat → Option va_E), k + e = md → p = p0 + k → p ≤ n → rd_dg (sg t n) e p x = R → Cr G h q cm ar cnt p → Rt G h q tq tv ml t n m → (∀ a, (a < q ∨ q + 3 ≤ a) → h a = h0 a) → V G K MX1_readNumber 0 0 (n0, h) 31 [some (.ref q), some (.ref tq), some (.int (nI md)), some (.int (nI pl)), some (.int (nI x)), some (.int (nI k))] [] := by
  intro e
  induction e with
  | zero =>
    intro p x k h h1 h2 hpn hd hR hT hO
    have e : k = md := by omega
    have hd2 : (p, x) = R := hd
    subst hd2
    have ek : (p, x).1 - p0 = k := by show p - p0 = k; omega
    have ek2 := Eq.symm ek
    refine v_iload C dX1_readNumber_31 rfl ?_
    refine v_iload_n C dX1_readNumber_33 rfl ?_
    refine v_icmp_geN (tgt := 86) C dX1_readNumber_34 (by decide) (by omega) (by omega) (fun c34 => ?_) (fun c34 => absurd c34 (by omega))
    refine v_drop 2 ?_
    have hv := hk h hR hO
    rw [ek] at hv
    exact hv
  | succ e ih =>
    intro p x k h h1 h2 hpn hd hR hT hO
    have hbase := hR.base
    have hs := sg_256 hsg p
    have hsp : ¬ p < n → sg t n p = 0 := fun z => sg_0 (by omega)
    unfold rd_dg at hd
    refine v_iload C dX1_readNumber_31 rfl ?_
    refine v_iload_n C dX1_readNumber_33 rfl ?_
    refine v_icmp_geN (tgt := 86) C dX1_readNumber_34 (by decide) (by omega) (by omega) (fun c34 => absurd c34 (by omega)) (fun c34 => ?_)
    refine v_aload_n C dX1_readNumber_37 rfl ?_
    refine v_aload_n C dX1_readNumber_38 rfl ?_
    refine v_get (v := .int (nI (p))) C 3 dX1_readNumber_39 wd1_213 hR.o rfl (by decide) ⟨rfl, rfl, rfl⟩ rfl ?_
    refine v_callSi C (c_X1_signAt hl hT.1 (by omega)) dX1_readNumber_42 mX1_signAt wd6_148 rfl rfl (Nat.le_of_ble_eq_true rfl) (hp_rmle hRm (by decide) (by decide)) (Nat.le_of_ble_eq_true rfl) (Nat.le_of_ble_eq_true rfl) ?_
    refine v_callSi C (c_X1_isDigit hl hs) dX1_readNumber_45 mX1_isDigit wd6_182 rfl rfl (Nat.le_of_ble_eq_true rfl) (hp_rmle hRm (by decide) (by decide)) (Nat.le_of_ble_eq_true rfl) (Nat.le_of_ble_eq_true rfl) ?_
    refine v_if_eqB (tgt := 86) C dX1_readNumber_48 (by decide) (fun c48 => ?_) (fun c48 => ?_)
    · rw [if_neg c48] at hd
      have hd2 : (p, x) = R := hd
      subst hd2
      have ek : (p, x).1 - p0 = k := by show p - p0 = k; omega
      refine v_drop 2 ?_
      have hv := hk h hR hO
      rw [ek] at hv
      exact hv
    · rw [if_pos c48] at hd
      refine v_iload C dX1_readNumber_51 rfl ?_
      refine v_bipush (v := nI 10) C dX1_readNumber_53 (by decide) ?_
      refine v_imulN C dX1_readNumber_55 ?_
      refine v_aload_n C dX1_readNumber_56 rfl ?_
      refine v_aload_n C dX1_readNumber_57 rfl ?_
      refine v_get (v := .int (nI (p))) C 3 dX1_readNumber_58 wd1_213 hR.o rfl (by decide) ⟨rfl, rfl, rfl⟩ rfl ?_
      refine v_callSi C (c_X1_signAt hl hT.1 (by omega)) dX1_readNumber_61 mX1_signAt wd6_148 rfl rfl (Nat.le_of_ble_eq_true rfl) (hp_rmle hRm (by decide) (by decide)) (Nat.le_of_ble_eq_true rfl) (Nat.le_of_ble_eq_true rfl) ?_
      refine v_bipush (v := nI 48) C dX1_readNumber_64 (by decide) ?_
      refine v_isubN C dX1_readNumber_66 (by omega) ?_
      refine v_iaddN C dX1_readNumber_67 ?_
      refine v_istore C dX1_readNumber_68 (by decide) ?_
      refine v_aload_n C dX1_readNumber_70 rfl ?_
      refine v_dup C dX1_readNumber_71 rfl ?_
      refine v_get (v := .int (nI (p))) C 3 dX1_readNumber_72 wd1_213 hR.o rfl (by decide) ⟨rfl, rfl, rfl⟩ rfl ?_
      refine v_iconst (v := nI 1) C dX1_readNumber_75 (by decide) ?_
      refine v_iaddN C dX1_readNumber_76 ?_
      refine v_put C 3 dX1_readNumber_77 wd1_213 hbase hR.o rfl (by decide) ⟨rfl, rfl, rfl, rfl⟩ rfl rfl rfl (Nat.le_of_ble_eq_true rfl) (fun h77 e77 g77 => ?_)
      have R77 := hR.p_ps e77 g77 (by omega)
      have T77 := hT.same (h' := h77) (fun a k1 k2 => g77 a (by omega))
      have hO77 : ∀ a, (a < q ∨ q + 3 ≤ a) → h77 a = h0 a := fun a ha => (g77 a (by omega)).trans (hO a ha)
      refine v_iincN C dX1_readNumber_80 (by decide) rfl ?_
      refine v_goto (tgt := 31) C dX1_readNumber_83 (by decide) ?_
      exact ih (p + 1) (x * 10 + (sg t n p - 48)) (k + 1) _ (by omega) (by omega) (by by_cases z : p < n; (exact z); rw [hsp z] at c48; omega) hd R77 T77 hO77
set_option maxHeartbeats 4000000 in
/-- a blank and a number -/
theorem c_X1_readNumber {G : hp_G} {l : Launch} (hl : l.stackTraces = false) {n0 : Nat} {h0 : Nat → Option va_E} {q tq tv : Nat} {cm ar : Nat → Int32} {cnt ps : Nat} {ml : Int32} {t : Nat → Nat} {n m : Nat} (hR : Cr G h0 q cm ar cnt ps) (hT : Rt G h0 q tq tv ml t n m) (hsg : ∀ i, i < n → t i < 256) (hn : n ≤ 60) (hps : ps ≤ n) {md pl : Nat} (hmd : md ≤ 9) (hpl : pl < 60) : Ct G l yX1_readNumber cX1_readNumber 6 (some .boolean) 5 0 0 [.ref q, .ref tq, .int (nI md), .int (nI pl)] (n0, h0) (hp_iq (fun r τ => τ.1 = n0 ∧ (∀ a, (a < q ∨ q + 3 ≤ a) → τ.2 a = h0 a) ∧ ((sg t n ps ≠ 32 ∧ r = nI 0 ∧ Cr G τ.2 q cm ar cnt ps) ∨ (sg t n ps = 32 ∧ r = hp_b (ps + 1 < (rd_dg (sg t n) md (ps + 1) 0).1) ∧ Cr G τ.2 q cm (upd ar pl (nI (rd_dg (sg t n) md (ps + 1) 0).2)) cnt (rd_dg (sg t n) md (ps + 1) 0).1)))) := by
  have hbase := hR.base
  have hO : ∀ a, (a < q ∨ q + 3 ≤ a) → h0 a = h0 a := fun _ _ => rfl
  have hbc := hR.bc
  have hnm := hT.1.2.2.1
  have hm3 := hT.1.2.2.2.1
  have hs := sg_256 hsg ps
  have hrn : sg t n ps = 32 → (rd_dg (sg t n) md (ps + 1) 0).1 ≤ n := fun z => rd_dg_n md (ps + 1) 0 (by by_cases y : ps < n; (exact y); rw [sg_0 (by omega)] at z; exact absurd z (by decide))
  refine Ct.of rfl hl (by simp [Value.category]) (Nat.le_of_ble_eq_true rfl) (fun K C E hRm hKl => ?_)
  subst hKl
  refine v_aload_n C dX1_readNumber_0 rfl ?_
  refine v_aload_n C dX1_readNumber_1 rfl ?_
  refine v_get (v := .int (nI (ps))) C 3 dX1_readNumber_2 wd1_213 hR.o rfl (by decide) ⟨rfl, rfl, rfl⟩ rfl ?_
  refine v_callSi C (c_X1_signAt hl hT.1 (by omega)) dX1_readNumber_5 mX1_signAt wd6_148 rfl rfl (Nat.le_of_ble_eq_true rfl) (hp_rmle hRm (by decide) (by decide)) (Nat.le_of_ble_eq_true rfl) (Nat.le_of_ble_eq_true rfl) ?_
  refine v_bipush (v := nI 32) C dX1_readNumber_8 (by decide) ?_
  refine v_icmp_eqN (tgt := 15) C dX1_readNumber_10 (by decide) (by omega) (by omega) (fun c10 => ?_) (fun c10 => ?_)
  · refine v_aload_n C dX1_readNumber_15 rfl ?_
    refine v_dup C dX1_readNumber_16 rfl ?_
    refine v_get (v := .int (nI (ps))) C 3 dX1_readNumber_17 wd1_213 hR.o rfl (by decide) ⟨rfl, rfl, rfl⟩ rfl ?_
    refine v_iconst (v := nI 1) C dX1_readNumber_20 (by decide) ?_
    refine v_iaddN C dX1_readNumber_21 ?_
    refine v_put C 3 dX1_readNumber_22 wd1_213 hbase hR.o rfl (by decide) ⟨rfl, rfl, rfl, rfl⟩ rfl rfl rfl (Nat.le_of_ble_eq_true rfl) (fun h22 e22 g22 => ?_)
    have R22 := hR.p_ps e22 g22 (by omega)
    have T22 := hT.same (h' := h22) (fun a k1 k2 => g22 a (by omega))
    have hO22 : ∀ a, (a < q ∨ q + 3 ≤ a) → h22 a = h0 a := fun a ha => (g22 a (by omega)).trans (hO a ha)
    refine v_iconst (v := nI 0) C dX1_readNumber_25 (by decide) ?_
    refine v_istore C dX1_readNumber_26 (by decide) ?_
    refine v_iconst (v := nI 0) C dX1_readNumber_28 (by decide) ?_
    refine v_istore C dX1_readNumber_29 (by decide) ?_
    have hpn : ps + 1 ≤ n := by by_cases z : ps < n; (exact z); rw [sg_0 (by omega)] at c10; exact absurd c10 (by decide)
    refine loop_X1_readNumber (p0 := ps + 1) (R := rd_dg (sg t n) md (ps + 1) 0) C hRm hl hsg hn hmd (fun h9 hR9 hO9 => ?_) md (ps + 1) 0 0 _ (Nat.zero_add _) rfl hpn rfl R22 T22 hO22
    have hle := rd_dg_le (sg t n) md (ps + 1) 0
    refine v_iload_n C dX1_readNumber_86 rfl ?_
    refine v_aload_n C dX1_readNumber_87 rfl ?_
    refine v_get C 1 dX1_readNumber_88 wd1_210 hR9.o rfl (by decide) ⟨rfl, rfl, rfl⟩ rfl ?_
    refine v_alen C 2 dX1_readNumber_91 (by decide) hR9.a_ar ?_
    refine v_callSNi C (c_X7_isNumber hl (nI pl) 60) dX1_readNumber_92 mX7_isNumber wd6_152 rfl rfl (Nat.le_of_ble_eq_true rfl) (hp_rmle hRm (by decide) (by decide)) (Nat.le_of_ble_eq_true rfl) (Nat.le_of_ble_eq_true rfl) ?_
    refine v_if_eqB (tgt := 106) C dX1_readNumber_95 (by decide) (fun c95 => absurd c95 (fun z => z (hp_num_nI hpl (by decide)))) (fun c95 => ?_)
    refine v_aload_n C dX1_readNumber_98 rfl ?_
    refine v_get C 1 dX1_readNumber_99 wd1_210 hR9.o rfl (by decide) ⟨rfl, rfl, rfl⟩ rfl ?_
    refine v_iload_n C dX1_readNumber_102 rfl ?_
    refine v_iload C dX1_readNumber_103 rfl ?_
    refine v_iastN C dX1_readNumber_105 (by omega) hR9.a_ar (by omega) (by decide) (fun h105 e105 g105 => ?_)
    have R105 := hR9.s_ar e105 g105
    have hO105 : ∀ a, (a < q ∨ q + 3 ≤ a) → h105 a = h0 a := fun a ha => (g105 a (by omega)).trans (hO9 a ha)
    refine v_iload C dX1_readNumber_106 rfl ?_
    refine v_if_le (tgt := 115) C dX1_readNumber_108 (by decide) (fun c108 => ?_) (fun c108 => ?_)
    · refine v_iconst (v := nI 0) C dX1_readNumber_115 (by decide) ?_
      exact v_zret C E dX1_readNumber_116 rfl rfl ⟨_, rfl, rfl, hO105, Or.inr ⟨c10, by first | exact (hp_b_t (by have := mt (sx_pos (by omega)).mpr c108; omega)).symm | exact (hp_b_f (by have := (sx_pos (by omega)).mp c108; omega)).symm, R105⟩⟩
    · refine v_iconst (v := nI 1) C dX1_readNumber_111 (by decide) ?_
      refine v_goto (tgt := 116) C dX1_readNumber_112 (by decide) ?_
      exact v_zret C E dX1_readNumber_116 rfl rfl ⟨_, rfl, rfl, hO105, Or.inr ⟨c10, by first | exact (hp_b_t (by have := mt (sx_pos (by omega)).mpr c108; omega)).symm | exact (hp_b_f (by have := (sx_pos (by omega)).mp c108; omega)).symm, R105⟩⟩
  · refine v_iconst (v := nI 0) C dX1_readNumber_13 (by decide) ?_
    exact v_zret C E dX1_readNumber_14 rfl rfl ⟨_, rfl, rfl, hO, Or.inl ⟨c10, rfl, hR⟩⟩

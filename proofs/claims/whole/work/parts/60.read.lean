/-! ===== THE READER OF COMMANDS: words, digits ===== -/
/-- the letters of the string constants -/
def ks_l (k : Nat) : List Nat := match k with
  | 15 => [104, 111, 114, 105, 122, 111, 110]
  | 16 => [116, 114, 97, 100, 101, 114]
  | 17 => [116, 114, 97, 100, 101]
  | 18 => [113, 117, 111, 116, 101]
  | 19 => [100, 97, 119, 110]
  | 20 => [112, 97, 121]
  | 21 => [100, 114, 97, 119]
  | 22 => [103, 105, 118, 101]
  | 23 => []
  | 24 => [50, 50]
  | 25 => [52]
  | 26 => [49, 49, 49, 50, 49]
  | 27 => [49, 50]
  | 28 => [49, 52]
  | 35 => [111, 114, 105, 122, 111, 110]
  | 36 => [114, 97, 100, 101]
  | 37 => []
  | 38 => [117, 111, 116, 101]
  | 39 => [119, 110]
  | 40 => [114, 97, 119]
  | 41 => [97, 121]
  | 42 => [105, 118, 101]
  | _ => []
def ks_t (k : Nat) : Nat → Nat := fun j => (ks_l k).getD j 0
/-- a String constant in its old cells -/
def Ks (G : hp_G) (h : Nat → Option va_E) (k : Nat) : Prop := ∃ (v : Nat) (x y : Value) (a : Nat → Int32), h (G.2.2.2 (2 * k + 2)) = some (.inr (0, [.ref v, .int 0, x, y])) ∧ h v = some (.inl (G.2.2.1 0, (ks_l k).length, .inl a)) ∧ sb_Lat (ks_t k) (ks_l k).length a ∧ G.2.2.2 (2 * k + 2) < G.2.1 ∧ v < G.2.1
/-- the constants that are read: digits, texts -/
def Kc (G : hp_G) (h : Nat → Option va_E) : Prop := Dg G h ∧ ∀ k, 15 ≤ k ∧ (k < 29 ∨ 35 ≤ k) → k < 43 → Ks G h k
theorem ks_len : ∀ k, (ks_l k).length ≤ 7 := by
  intro k
  unfold ks_l
  split <;> decide
theorem Kc.same {G : hp_G} {h h' : Nat → Option va_E} (D : Kc G h) (k : ∀ a, a < G.2.1 → h' a = h a) : Kc G h' := by
  refine ⟨D.1.same k, fun i h1 h2 => ?_⟩
  obtain ⟨v, x, y, a, q1, q2, q3, q4, q5⟩ := D.2 i h1 h2
  exact ⟨v, x, y, a, (k _ q4).trans q1, (k _ q5).trans q2, q3, q4, q5⟩
theorem Kc.str {G : hp_G} {h : Nat → Option va_E} (D : Kc G h) {k : Nat} (h1 : 15 ≤ k ∧ (k < 29 ∨ 35 ≤ k)) (h2 : k < 43) : Str G h (G.2.2.2 (2 * k + 2)) (ks_t k) (ks_l k).length := by
  obtain ⟨v, x, y, a, q1, q2, q3, q4, q5⟩ := D.2 k h1 h2
  exact ⟨v, x, y, a, q1, q2, q3, by have := ks_len k; omega⟩
theorem ks_tl {k j : Nat} : ks_t k j < 256 := by
  unfold ks_t ks_l
  split <;> (simp only [List.getD_eq_getElem?_getD]; match j with
    | 0 => decide
    | 1 => decide
    | 2 => decide
    | 3 => decide
    | 4 => decide
    | 5 => decide
    | 6 => decide
    | j + 7 => simp)
/-- the text with a sign behind its end -/
def sg (t : Nat → Nat) (n i : Nat) : Nat := if i < n then t i else 0
theorem hp_num_iff {i n : Nat} (hi : i < 2 ^ 31) (hn : n < 2 ^ 31) : hp_num (nI i) n ↔ i < n := by
  constructor
  · intro z
    exact (nI_ltI hi hn).mp z.2
  · intro z
    exact hp_num_nI z hn
/-- how far a word goes -/
def rd_cm (s w : Nat → Nat) (e c : Nat) : Nat := match e with
  | 0 => c
  | e + 1 => if s c = w c then rd_cm s w e (c + 1) else c
theorem rd_cm_le (s w : Nat → Nat) : ∀ e c, rd_cm s w e c ≤ c + e
  | 0, c => Nat.le_refl _
  | e + 1, c => by
    have h := rd_cm_le s w e (c + 1)
    unfold rd_cm
    split <;> omega
theorem rd_cm_ge (s w : Nat → Nat) : ∀ e c, c ≤ rd_cm s w e c
  | 0, c => Nat.le_refl _
  | e + 1, c => by
    have h := rd_cm_ge s w e (c + 1)
    unfold rd_cm
    split <;> omega
/-- the word's number, the longest whole word, the longest common part -/
abbrev rd_W : Type := Int32 × Nat × Nat
def rd_one (s : Nat → Nat) (k : Nat) (b : rd_W) : rd_W :=
  (fun cm : Nat => (if cm = (ks_l (15 + k)).length ∧ b.2.1 < cm then (nI k, cm, if b.2.2 < cm then cm else b.2.2) else (b.1, b.2.1, if b.2.2 < cm then cm else b.2.2))) (rd_cm s (ks_t (15 + k)) (ks_l (15 + k)).length 0)
def rd_ws (s : Nat → Nat) (k : Nat) : rd_W := match k with
  | 0 => (-1, 0, 0)
  | k + 1 => rd_one s k (rd_ws s k)
theorem rd_one_le {s : Nat → Nat} {k : Nat} {b : rd_W} (h1 : b.2.1 ≤ 7) (h2 : b.2.2 ≤ 7) : (rd_one s k b).2.1 ≤ 7 ∧ (rd_one s k b).2.2 ≤ 7 := by
  have e := rd_cm_le s (ks_t (15 + k)) (ks_l (15 + k)).length 0
  have e2 := ks_len (15 + k)
  unfold rd_one
  generalize rd_cm s (ks_t (15 + k)) (ks_l (15 + k)).length 0 = cm at e
  show (ite _ _ _ : rd_W).2.1 ≤ 7 ∧ (ite _ _ _ : rd_W).2.2 ≤ 7
  split
  · refine ⟨?_, ?_⟩
    · show cm ≤ 7
      omega
    · show (if _ then _ else _) ≤ 7
      split <;> omega
  · refine ⟨h1, ?_⟩
    show (if _ then _ else _) ≤ 7
    split <;> omega
theorem rd_ws_le (s : Nat → Nat) : ∀ k, (rd_ws s k).2.1 ≤ 7 ∧ (rd_ws s k).2.2 ≤ 7
  | 0 => ⟨Nat.zero_le _, Nat.zero_le _⟩
  | k + 1 => by
    have h := rd_ws_le s k
    exact rd_one_le h.1 h.2
/-- the digits of a number from p on, at most e -/
def rd_dg (s : Nat → Nat) (e p x : Nat) : Nat × Nat := match e with
  | 0 => (p, x)
  | e + 1 => if 48 ≤ s p ∧ s p ≤ 57 then rd_dg s e (p + 1) (x * 10 + (s p - 48)) else (p, x)
theorem rd_dg_le (s : Nat → Nat) : ∀ e p x, p ≤ (rd_dg s e p x).1 ∧ (rd_dg s e p x).1 ≤ p + e
  | 0, p, x => ⟨Nat.le_refl _, Nat.le_refl _⟩
  | e + 1, p, x => by
    have h := rd_dg_le s e (p + 1) (x * 10 + (s p - 48))
    unfold rd_dg
    split
    · omega
    · exact ⟨Nat.le_refl _, by omega⟩
def Cr (G : hp_G) (h : Nat → Option va_E) (q : Nat) (cm : Nat → Int32) (ar : Nat → Int32) (cnt : Nat) (ps : Nat) : Prop := h q = some (.inr (4, [.ref (q + 1), .ref (q + 2), .int (nI cnt), .int (nI ps)])) ∧ h (q + 1) = some (.inl (G.2.2.1 2, 12, .inl cm)) ∧ h (q + 2) = some (.inl (G.2.2.1 2, 60, .inl ar)) ∧ G.2.1 ≤ q ∧ cnt ≤ 12 ∧ ps ≤ 100
theorem Cr.o {G : hp_G} {h : Nat → Option va_E} {q : Nat} {cm : Nat → Int32} {ar : Nat → Int32} {cnt : Nat} {ps : Nat} (H : Cr G h q cm ar cnt ps) : h q = some (.inr (4, [.ref (q + 1), .ref (q + 2), .int (nI cnt), .int (nI ps)])) := H.1
theorem Cr.a_cm {G : hp_G} {h : Nat → Option va_E} {q : Nat} {cm : Nat → Int32} {ar : Nat → Int32} {cnt : Nat} {ps : Nat} (H : Cr G h q cm ar cnt ps) : h (q + 1) = some (.inl (G.2.2.1 2, 12, .inl cm)) := H.2.1
theorem Cr.a_ar {G : hp_G} {h : Nat → Option va_E} {q : Nat} {cm : Nat → Int32} {ar : Nat → Int32} {cnt : Nat} {ps : Nat} (H : Cr G h q cm ar cnt ps) : h (q + 2) = some (.inl (G.2.2.1 2, 60, .inl ar)) := H.2.2.1
theorem Cr.base {G : hp_G} {h : Nat → Option va_E} {q : Nat} {cm : Nat → Int32} {ar : Nat → Int32} {cnt : Nat} {ps : Nat} (H : Cr G h q cm ar cnt ps) : G.2.1 ≤ q := H.2.2.2.1
theorem Cr.bc {G : hp_G} {h : Nat → Option va_E} {q : Nat} {cm : Nat → Int32} {ar : Nat → Int32} {cnt : Nat} {ps : Nat} (H : Cr G h q cm ar cnt ps) : cnt ≤ 12 := H.2.2.2.2.1
theorem Cr.bp {G : hp_G} {h : Nat → Option va_E} {q : Nat} {cm : Nat → Int32} {ar : Nat → Int32} {cnt : Nat} {ps : Nat} (H : Cr G h q cm ar cnt ps) : ps ≤ 100 := H.2.2.2.2.2
theorem Cr.same {G : hp_G} {h h' : Nat → Option va_E} {q : Nat} {cm : Nat → Int32} {ar : Nat → Int32} {cnt : Nat} {ps : Nat} (H : Cr G h q cm ar cnt ps) (hs : ∀ a, q ≤ a → a < q + 3 → h' a = h a) : Cr G h' q cm ar cnt ps := ⟨(hs _ (by omega) (by omega)).trans H.o, (hs _ (by omega) (by omega)).trans H.a_cm, (hs _ (by omega) (by omega)).trans H.a_ar, H.base, H.bc, H.bp⟩
theorem Cr.s_cm {G : hp_G} {h h' : Nat → Option va_E} {q : Nat} {cm : Nat → Int32} {ar : Nat → Int32} {cnt : Nat} {ps : Nat} {x0 : Nat → Int32} (H : Cr G h q cm ar cnt ps) (h1 : h' (q + 1) = some (.inl (G.2.2.1 2, 12, .inl x0))) (h2 : ∀ b, b ≠ q + 1 → h' b = h b) : Cr G h' q x0 ar cnt ps := ⟨(h2 _ (by omega)).trans H.o, h1, (h2 _ (by omega)).trans H.a_ar, H.base, H.bc, H.bp⟩
theorem Cr.s_ar {G : hp_G} {h h' : Nat → Option va_E} {q : Nat} {cm : Nat → Int32} {ar : Nat → Int32} {cnt : Nat} {ps : Nat} {x0 : Nat → Int32} (H : Cr G h q cm ar cnt ps) (h1 : h' (q + 2) = some (.inl (G.2.2.1 2, 60, .inl x0))) (h2 : ∀ b, b ≠ q + 2 → h' b = h b) : Cr G h' q cm x0 cnt ps := ⟨(h2 _ (by omega)).trans H.o, (h2 _ (by omega)).trans H.a_cm, h1, H.base, H.bc, H.bp⟩
theorem Cr.p_cnt {G : hp_G} {h h' : Nat → Option va_E} {q : Nat} {cm : Nat → Int32} {ar : Nat → Int32} {cnt : Nat} {ps : Nat} {x0 : Nat} (H : Cr G h q cm ar cnt ps) (h1 : h' q = some (.inr (4, [.ref (q + 1), .ref (q + 2), .int (nI x0), .int (nI ps)]))) (h2 : ∀ b, b ≠ q → h' b = h b) (k_bc : x0 ≤ 12) : Cr G h' q cm ar x0 ps := ⟨h1, (h2 _ (by omega)).trans H.a_cm, (h2 _ (by omega)).trans H.a_ar, H.base, k_bc, H.bp⟩
theorem Cr.p_ps {G : hp_G} {h h' : Nat → Option va_E} {q : Nat} {cm : Nat → Int32} {ar : Nat → Int32} {cnt : Nat} {ps : Nat} {x0 : Nat} (H : Cr G h q cm ar cnt ps) (h1 : h' q = some (.inr (4, [.ref (q + 1), .ref (q + 2), .int (nI cnt), .int (nI x0)]))) (h2 : ∀ b, b ≠ q → h' b = h b) (k_bp : x0 ≤ 100) : Cr G h' q cm ar cnt x0 := ⟨h1, (h2 _ (by omega)).trans H.a_cm, (h2 _ (by omega)).trans H.a_ar, H.base, H.bc, k_bp⟩
/-- the text beside the reader at q, and the constants -/
def Rt (G : hp_G) (h : Nat → Option va_E) (q tq tv : Nat) (ml : Int32) (t : Nat → Nat) (n m : Nat) : Prop := Sb G h tq tv ml t n m ∧ Kc G h ∧ (tq < q ∨ q + 3 ≤ tq) ∧ (tv < q ∨ q + 3 ≤ tv) ∧ G.2.1 ≤ q
theorem Rt.same {G : hp_G} {h h' : Nat → Option va_E} {q tq tv : Nat} {ml : Int32} {t : Nat → Nat} {n m : Nat} (H : Rt G h q tq tv ml t n m) (k : ∀ a, True → (a < q ∨ q + 3 ≤ a) → h' a = h a) : Rt G h' q tq tv ml t n m := ⟨H.1.same (k _ trivial H.2.2.1) (k _ trivial H.2.2.2.1), H.2.1.same (fun a ha => k a trivial (Or.inl (by have := H.2.2.2.2; omega))), H.2.2⟩
set_option maxHeartbeats 4000000 in
/-- the sign at a place, or 0 behind the end -/
theorem c_X1_signAt {G : hp_G} {l : Launch} (hl : l.stackTraces = false) {n0 : Nat} {h : Nat → Option va_E} {tq tv : Nat} {ml : Int32} {t : Nat → Nat} {n m : Nat} (S : Sb G h tq tv ml t n m) {i : Nat} (hi : i < 2 ^ 30) : Ct G l yX1_signAt cX1_signAt 2 (some .char) 4 0 0 [.ref tq, .int (nI i)] (n0, h) (hp_ri (nI (sg t n i)) (n0, h)) := by
  have hnm := S.2.2.1
  have hm := S.2.2.2.1
  refine Ct.of rfl hl (by simp [Value.category]) (Nat.le_of_ble_eq_true rfl) (fun K C E hRm hKl => ?_)
  subst hKl
  refine v_iload_n C dX1_signAt_0 rfl ?_
  refine v_aload_n C dX1_signAt_1 rfl ?_
  refine v_callVi C (c_J4_length_8abf5 hl S.1) dX1_signAt_2 mJ4_length_8abf5 rfl S.1 rfl wd6_151 rfl rfl (Nat.le_of_ble_eq_true rfl) (hp_rmle hRm (by decide) (by decide)) (Nat.le_of_ble_eq_true rfl) (Nat.le_of_ble_eq_true rfl) ?_
  refine v_callSNi C (c_X7_isNumber hl (nI i) n) dX1_signAt_5 mX7_isNumber wd6_152 rfl rfl (Nat.le_of_ble_eq_true rfl) (hp_rmle hRm (by decide) (by decide)) (Nat.le_of_ble_eq_true rfl) (Nat.le_of_ble_eq_true rfl) ?_
  refine v_if_eqB (tgt := 19) C dX1_signAt_8 (by decide) (fun c8 => ?_) (fun c8 => ?_)
  · rw [hp_num_iff (by omega) (by omega)] at c8
    refine v_iconst (v := nI 0) C dX1_signAt_19 (by decide) ?_
    exact v_zret C E dX1_signAt_20 rfl (by first | exact sx_nar _ ((S.2.1.choose_spec.2.1) _ c8).1 | rfl) ⟨by first | rw [show sg t n i = t i from if_pos c8] | rw [show sg t n i = 0 from if_neg c8], rfl⟩
  · rw [hp_num_iff (by omega) (by omega)] at c8
    refine v_aload_n C dX1_signAt_11 rfl ?_
    refine v_iload_n C dX1_signAt_12 rfl ?_
    refine v_callVi C (c_J4_charAt_5068e hl S c8) dX1_signAt_13 mJ4_charAt_5068e rfl S.1 rfl wd6_153 rfl rfl (Nat.le_of_ble_eq_true rfl) (hp_rmle hRm (by decide) (by decide)) (Nat.le_of_ble_eq_true rfl) (Nat.le_of_ble_eq_true rfl) ?_
    refine v_goto (tgt := 20) C dX1_signAt_16 (by decide) ?_
    exact v_zret C E dX1_signAt_20 rfl (by first | exact sx_nar _ ((S.2.1.choose_spec.2.1) _ c8).1 | rfl) ⟨by first | rw [show sg t n i = t i from if_pos c8] | rw [show sg t n i = 0 from if_neg c8], rfl⟩
set_option maxHeartbeats 4000000 in
/-- a digit -/
theorem c_X1_isDigit {G : hp_G} {l : Launch} (hl : l.stackTraces = false) {n0 : Nat} {h : Nat → Option va_E} {c : Nat} (hc : c < 256) : Ct G l yX1_isDigit cX1_isDigit 1 (some .boolean) 0 0 0 [.int (nI c)] (n0, h) (hp_ri (hp_b (48 ≤ c ∧ c ≤ 57)) (n0, h)) := by
  refine Ct.of rfl hl (by simp [Value.category]) (Nat.le_of_ble_eq_true rfl) (fun K C E hRm hKl => ?_)
  subst hKl
  refine v_iload_n C dX1_isDigit_0 rfl ?_
  refine v_bipush (v := nI 48) C dX1_isDigit_1 (by decide) ?_
  refine v_icmp_ltN (tgt := 16) C dX1_isDigit_3 (by decide) (by omega) (by omega) (fun c3 => ?_) (fun c3 => ?_)
  · refine v_iconst (v := nI 0) C dX1_isDigit_16 (by decide) ?_
    exact v_zret C E dX1_isDigit_17 rfl rfl (hp_rib (by first | exact hp_b_t ⟨c3, c9⟩ | exact hp_b_f (fun q => by omega)))
  · refine v_iload_n C dX1_isDigit_6 rfl ?_
    refine v_bipush (v := nI 57) C dX1_isDigit_7 (by decide) ?_
    refine v_icmp_gtN (tgt := 16) C dX1_isDigit_9 (by decide) (by omega) (by omega) (fun c9 => ?_) (fun c9 => ?_)
    · refine v_iconst (v := nI 0) C dX1_isDigit_16 (by decide) ?_
      exact v_zret C E dX1_isDigit_17 rfl rfl (hp_rib (by first | exact hp_b_t ⟨c3, c9⟩ | exact hp_b_f (fun q => by omega)))
    · refine v_iconst (v := nI 1) C dX1_isDigit_12 (by decide) ?_
      refine v_goto (tgt := 17) C dX1_isDigit_13 (by decide) ?_
      exact v_zret C E dX1_isDigit_17 rfl rfl (hp_rib (by first | exact hp_b_t ⟨c3, c9⟩ | exact hp_b_f (fun q => by omega)))
/-- the constant of a command's digits -/
def rd_di (c : Nat) : Nat := match c with
  | 0 => 24
  | 1 => 25
  | 2 => 26
  | 3 => 27
  | 4 => 23
  | 5 => 28
  | 6 => 28
  | _ => 28
set_option maxHeartbeats 4000000 in
/-- the word of a command -/
theorem c_X0_wordOf {G : hp_G} {l : Launch} (hl : l.stackTraces = false) {n0 : Nat} {h : Nat → Option va_E} {c : Nat} (hc : c < 8) : Ct G l yX0_wordOf cX0_wordOf 1 (some (.object "java/lang/String")) 0 0 0 [.int (nI c)] (n0, h) (hp_aq (fun r τ => r = G.2.2.2 (2 * (15 + c) + 2) ∧ τ = (n0, h))) := by
  refine Ct.of rfl hl (by simp [Value.category]) (Nat.le_of_ble_eq_true rfl) (fun K C E hRm hKl => ?_)
  subst hKl
  match c, hc with
  | 0, _ =>
    refine v_iload_n C dX0_wordOf_0 rfl ?_
    refine v_tableIn (tgt := 48) (off := 47) C dX0_wordOf_1 (by decide) (by decide) (by decide) (by decide) ?_
    refine v_ldcS C (kst := 15) dX0_wordOf_48 rfl ?_
    exact v_aret C E dX0_wordOf_50 rfl (Or.inl ⟨_, rfl⟩) ⟨_, rfl, rfl, rfl⟩
  | 1, _ =>
    refine v_iload_n C dX0_wordOf_0 rfl ?_
    refine v_tableIn (tgt := 51) (off := 50) C dX0_wordOf_1 (by decide) (by decide) (by decide) (by decide) ?_
    refine v_ldcS C (kst := 16) dX0_wordOf_51 rfl ?_
    exact v_aret C E dX0_wordOf_53 rfl (Or.inl ⟨_, rfl⟩) ⟨_, rfl, rfl, rfl⟩
  | 2, _ =>
    refine v_iload_n C dX0_wordOf_0 rfl ?_
    refine v_tableIn (tgt := 54) (off := 53) C dX0_wordOf_1 (by decide) (by decide) (by decide) (by decide) ?_
    refine v_ldcS C (kst := 17) dX0_wordOf_54 rfl ?_
    exact v_aret C E dX0_wordOf_56 rfl (Or.inl ⟨_, rfl⟩) ⟨_, rfl, rfl, rfl⟩
  | 3, _ =>
    refine v_iload_n C dX0_wordOf_0 rfl ?_
    refine v_tableIn (tgt := 57) (off := 56) C dX0_wordOf_1 (by decide) (by decide) (by decide) (by decide) ?_
    refine v_ldcS C (kst := 18) dX0_wordOf_57 rfl ?_
    exact v_aret C E dX0_wordOf_59 rfl (Or.inl ⟨_, rfl⟩) ⟨_, rfl, rfl, rfl⟩
  | 4, _ =>
    refine v_iload_n C dX0_wordOf_0 rfl ?_
    refine v_tableIn (tgt := 60) (off := 59) C dX0_wordOf_1 (by decide) (by decide) (by decide) (by decide) ?_
    refine v_ldcS C (kst := 19) dX0_wordOf_60 rfl ?_
    exact v_aret C E dX0_wordOf_62 rfl (Or.inl ⟨_, rfl⟩) ⟨_, rfl, rfl, rfl⟩
  | 5, _ =>
    refine v_iload_n C dX0_wordOf_0 rfl ?_
    refine v_tableIn (tgt := 63) (off := 62) C dX0_wordOf_1 (by decide) (by decide) (by decide) (by decide) ?_
    refine v_ldcS C (kst := 20) dX0_wordOf_63 rfl ?_
    exact v_aret C E dX0_wordOf_65 rfl (Or.inl ⟨_, rfl⟩) ⟨_, rfl, rfl, rfl⟩
  | 6, _ =>
    refine v_iload_n C dX0_wordOf_0 rfl ?_
    refine v_tableIn (tgt := 66) (off := 65) C dX0_wordOf_1 (by decide) (by decide) (by decide) (by decide) ?_
    refine v_ldcS C (kst := 21) dX0_wordOf_66 rfl ?_
    exact v_aret C E dX0_wordOf_68 rfl (Or.inl ⟨_, rfl⟩) ⟨_, rfl, rfl, rfl⟩
  | 7, _ =>
    refine v_iload_n C dX0_wordOf_0 rfl ?_
    refine v_tableIn (tgt := 69) (off := 68) C dX0_wordOf_1 (by decide) (by decide) (by decide) (by decide) ?_
    refine v_ldcS C (kst := 22) dX0_wordOf_69 rfl ?_
    exact v_aret C E dX0_wordOf_71 rfl (Or.inl ⟨_, rfl⟩) ⟨_, rfl, rfl, rfl⟩
set_option maxHeartbeats 4000000 in
/-- the digits of a command -/
theorem c_X0_digitsOf {G : hp_G} {l : Launch} (hl : l.stackTraces = false) {n0 : Nat} {h : Nat → Option va_E} {c : Nat} (hc : c < 8) : Ct G l yX0_digitsOf cX0_digitsOf 1 (some (.object "java/lang/String")) 0 0 0 [.int (nI c)] (n0, h) (hp_aq (fun r τ => r = G.2.2.2 (2 * (rd_di c) + 2) ∧ τ = (n0, h))) := by
  refine Ct.of rfl hl (by simp [Value.category]) (Nat.le_of_ble_eq_true rfl) (fun K C E hRm hKl => ?_)
  subst hKl
  match c, hc with
  | 0, _ =>
    refine v_iload_n C dX0_digitsOf_0 rfl ?_
    refine v_tableIn (tgt := 48) (off := 47) C dX0_digitsOf_1 (by decide) (by decide) (by decide) (by decide) ?_
    refine v_ldcS C (kst := 24) dX0_digitsOf_48 rfl ?_
    exact v_aret C E dX0_digitsOf_50 rfl (Or.inl ⟨_, rfl⟩) ⟨_, rfl, rfl, rfl⟩
  | 1, _ =>
    refine v_iload_n C dX0_digitsOf_0 rfl ?_
    refine v_tableIn (tgt := 51) (off := 50) C dX0_digitsOf_1 (by decide) (by decide) (by decide) (by decide) ?_
    refine v_ldcS C (kst := 25) dX0_digitsOf_51 rfl ?_
    exact v_aret C E dX0_digitsOf_53 rfl (Or.inl ⟨_, rfl⟩) ⟨_, rfl, rfl, rfl⟩
  | 2, _ =>
    refine v_iload_n C dX0_digitsOf_0 rfl ?_
    refine v_tableIn (tgt := 54) (off := 53) C dX0_digitsOf_1 (by decide) (by decide) (by decide) (by decide) ?_
    refine v_ldcS C (kst := 26) dX0_digitsOf_54 rfl ?_
    exact v_aret C E dX0_digitsOf_56 rfl (Or.inl ⟨_, rfl⟩) ⟨_, rfl, rfl, rfl⟩
  | 3, _ =>
    refine v_iload_n C dX0_digitsOf_0 rfl ?_
    refine v_tableIn (tgt := 57) (off := 56) C dX0_digitsOf_1 (by decide) (by decide) (by decide) (by decide) ?_
    refine v_ldcS C (kst := 27) dX0_digitsOf_57 rfl ?_
    exact v_aret C E dX0_digitsOf_59 rfl (Or.inl ⟨_, rfl⟩) ⟨_, rfl, rfl, rfl⟩
  | 4, _ =>
    refine v_iload_n C dX0_digitsOf_0 rfl ?_
    refine v_tableIn (tgt := 69) (off := 68) C dX0_digitsOf_1 (by decide) (by decide) (by decide) (by decide) ?_
    refine v_ldcS C (kst := 23) dX0_digitsOf_69 rfl ?_
    exact v_aret C E dX0_digitsOf_71 rfl (Or.inl ⟨_, rfl⟩) ⟨_, rfl, rfl, rfl⟩
  | 5, _ =>
    refine v_iload_n C dX0_digitsOf_0 rfl ?_
    refine v_tableIn (tgt := 60) (off := 59) C dX0_digitsOf_1 (by decide) (by decide) (by decide) (by decide) ?_
    refine v_ldcS C (kst := 28) dX0_digitsOf_60 rfl ?_
    exact v_aret C E dX0_digitsOf_62 rfl (Or.inl ⟨_, rfl⟩) ⟨_, rfl, rfl, rfl⟩
  | 6, _ =>
    refine v_iload_n C dX0_digitsOf_0 rfl ?_
    refine v_tableIn (tgt := 63) (off := 62) C dX0_digitsOf_1 (by decide) (by decide) (by decide) (by decide) ?_
    refine v_ldcS C (kst := 28) dX0_digitsOf_63 rfl ?_
    exact v_aret C E dX0_digitsOf_65 rfl (Or.inl ⟨_, rfl⟩) ⟨_, rfl, rfl, rfl⟩
  | 7, _ =>
    refine v_iload_n C dX0_digitsOf_0 rfl ?_
    refine v_tableIn (tgt := 66) (off := 65) C dX0_digitsOf_1 (by decide) (by decide) (by decide) (by decide) ?_
    refine v_ldcS C (kst := 28) dX0_digitsOf_66 rfl ?_
    exact v_aret C E dX0_digitsOf_68 rfl (Or.inl ⟨_, rfl⟩) ⟨_, rfl, rfl, rfl⟩
set_option maxHeartbeats 4000000 in
theorem loop_X1_commonLength {G : hp_G} {K : hp_C} {P : hp_P} {n0 : Nat} {h : Nat → Option va_E} {q wq tq tv : Nat} {cm ar : Nat → Int32} {cnt ps : Nat} {ml : Int32} {t wt : Nat → Nat} {n m wl : Nat} (C : hp_Cx G K MX1_commonLength) (E : hp_End G K P) (hRm : hp_Rm K = hp_rm 5 0 0) (hl : K.2.1.stackTraces = false) (hR : Cr G h q cm ar cnt ps) (S : Sb G h tq tv ml t n m) (hW : Str G h wq wt wl) (hwl : wl ≤ 7) (hsg : ∀ i, i < n → t i < 256) (hwt : ∀ i, i < wl → wt i < 256) : ∀ (e c : Nat), c + e = wl → P (.inl (some (.int (nI (rd_cm (fun j => sg t n (ps + j)) wt e c))))) (n0, h) → V G K MX1_commonLength 0 0 (n0, h) 2 [some (.ref q), some (.ref tq), some (.ref wq), some (.int (nI c))] [] := by
  have hbp := hR.bp
  intro e
  induction e with
  | zero =>
    intro c h1 hp
    have e : c = wl := by omega
    subst e
    obtain ⟨wv, wx, wy, wa, w1, w2, w3, w4⟩ := id hW
    refine v_iload_n C dX1_commonLength_2 rfl ?_
    refine v_aload_n C dX1_commonLength_3 rfl ?_
    refine v_callVi C (c_J0_length_8abf5 hl hW) dX1_commonLength_4 mJ0_length_8abf5 rfl w1 rfl wd6_147 rfl rfl (Nat.le_of_ble_eq_true rfl) (hp_rmle hRm (by decide) (by decide)) (Nat.le_of_ble_eq_true rfl) (Nat.le_of_ble_eq_true rfl) ?_
    refine v_icmp_geN (tgt := 34) C dX1_commonLength_7 (by decide) (by omega) (by omega) (fun c7 => ?_) (fun c7 => absurd c7 (by omega))
    refine v_iload_n C dX1_commonLength_34 rfl ?_
    exact v_iret C E dX1_commonLength_35 rfl hp
  | succ e ih =>
    intro c h1 hp
    obtain ⟨wv, wx, wy, wa, w1, w2, w3, w4⟩ := id hW
    have hs256 : sg t n (ps + c) < 256 := by
      unfold sg
      split
      · exact hsg _ (by assumption)
      · decide
    have hw256 := hwt c (by omega)
    unfold rd_cm at hp
    refine v_iload_n C dX1_commonLength_2 rfl ?_
    refine v_aload_n C dX1_commonLength_3 rfl ?_
    refine v_callVi C (c_J0_length_8abf5 hl hW) dX1_commonLength_4 mJ0_length_8abf5 rfl w1 rfl wd6_147 rfl rfl (Nat.le_of_ble_eq_true rfl) (hp_rmle hRm (by decide) (by decide)) (Nat.le_of_ble_eq_true rfl) (Nat.le_of_ble_eq_true rfl) ?_
    refine v_icmp_geN (tgt := 34) C dX1_commonLength_7 (by decide) (by omega) (by omega) (fun c7 => absurd c7 (by omega)) (fun c7 => ?_)
    refine v_aload_n C dX1_commonLength_10 rfl ?_
    refine v_aload_n C dX1_commonLength_11 rfl ?_
    refine v_get (v := .int (nI (ps))) C 3 dX1_commonLength_12 wd1_213 hR.o rfl (by decide) ⟨rfl, rfl, rfl⟩ rfl ?_
    refine v_iload_n C dX1_commonLength_15 rfl ?_
    refine v_iaddN C dX1_commonLength_16 ?_
    refine v_callSi C (c_X1_signAt hl S (by omega)) dX1_commonLength_17 mX1_signAt wd6_148 rfl rfl (Nat.le_of_ble_eq_true rfl) (hp_rmle hRm (by decide) (by decide)) (Nat.le_of_ble_eq_true rfl) (Nat.le_of_ble_eq_true rfl) ?_
    refine v_aload_n C dX1_commonLength_20 rfl ?_
    refine v_iload_n C dX1_commonLength_21 rfl ?_
    refine v_callVi C (c_J0_charAt_5068e hl hW (by omega)) dX1_commonLength_22 mJ0_charAt_5068e rfl w1 rfl wd6_154 rfl rfl (Nat.le_of_ble_eq_true rfl) (hp_rmle hRm (by decide) (by decide)) (Nat.le_of_ble_eq_true rfl) (Nat.le_of_ble_eq_true rfl) ?_
    refine v_icmp_neN (tgt := 34) C dX1_commonLength_25 (by decide) (by omega) (by omega) (fun c25 => ?_) (fun c25 => ?_)
    · rw [if_neg c25] at hp
      refine v_iload_n C dX1_commonLength_34 rfl ?_
      exact v_iret C E dX1_commonLength_35 rfl hp
    · rw [if_pos c25] at hp
      refine v_iincN C dX1_commonLength_28 (by decide) rfl ?_
      refine v_goto (tgt := 2) C dX1_commonLength_31 (by decide) ?_
      exact ih (c + 1) (by omega) hp
set_option maxHeartbeats 4000000 in
/-- how far a word goes -/
theorem c_X1_commonLength {G : hp_G} {l : Launch} (hl : l.stackTraces = false) {n0 : Nat} {h : Nat → Option va_E} {q wq tq tv : Nat} {cm ar : Nat → Int32} {cnt ps : Nat} {ml : Int32} {t wt : Nat → Nat} {n m wl : Nat} (hR : Cr G h q cm ar cnt ps) (S : Sb G h tq tv ml t n m) (hW : Str G h wq wt wl) (hwl : wl ≤ 7) (hsg : ∀ i, i < n → t i < 256) (hwt : ∀ i, i < wl → wt i < 256) : Ct G l yX1_commonLength cX1_commonLength 4 (some .int) 5 0 0 [.ref q, .ref tq, .ref wq] (n0, h) (hp_ri (nI (rd_cm (fun j => sg t n (ps + j)) wt wl 0)) (n0, h)) := by
  refine Ct.of rfl hl (by simp [Value.category]) (Nat.le_of_ble_eq_true rfl) (fun K C E hRm hKl => ?_)
  subst hKl
  refine v_iconst (v := nI 0) C dX1_commonLength_0 (by decide) ?_
  refine v_istore_n C dX1_commonLength_1 (by decide) ?_
  exact loop_X1_commonLength C E hRm hl hR S hW hwl hsg hwt wl 0 (Nat.zero_add _) ⟨rfl, rfl⟩

/-! ===== TEXT: append, length, charAt; String ===== -/
/-- a StringBuilder at q, its bytes at v: the n letters t -/
def Sb (G : hp_G) (h : Nat → Option va_E) (q v : Nat) (ml : Int32) (t : Nat → Nat) (n m : Nat) : Prop := h q = some (.inr (1, [.ref v, .int 0, .int ml, .int (nI n)])) ∧ (∃ a, h v = some (.inl (G.2.2.1 0, m, .inl a)) ∧ sb_Lat t n a ∧ sb_Fit a) ∧ n ≤ m ∧ m ≤ 300 ∧ G.2.1 ≤ q ∧ G.2.1 ≤ v
/-- what a call on a StringBuilder leaves as it was -/
def Sx (n0 : Nat) (h : Nat → Option va_E) (q v v' : Nat) (τ : hp_T) : Prop := n0 ≤ τ.1 ∧ (v' = v ∨ n0 ≤ v') ∧ ∀ b, b ≠ q → b ≠ v → b < n0 → τ.2 b = h b
theorem Sx.trans {n0 q v v1 v2 : Nat} {h : Nat → Option va_E} {τ τ2 : hp_T} (a : Sx n0 h q v v1 τ) (b : Sx τ.1 τ.2 q v1 v2 τ2) : Sx n0 h q v v2 τ2 := by
  obtain ⟨a1, a2, a3⟩ := a
  obtain ⟨b1, b2, b3⟩ := b
  refine ⟨by omega, by omega, fun x h1 h2 h3 => (b3 x h1 (by omega) (by omega)).trans (a3 x h1 h2 h3)⟩
theorem Sx.rf {n0 q v : Nat} {h : Nat → Option va_E} : Sx n0 h q v v (n0, h) := ⟨Nat.le_refl _, Or.inl rfl, fun _ _ _ _ => rfl⟩
theorem Sb.same {G : hp_G} {h h' : Nat → Option va_E} {q v : Nat} {ml : Int32} {t : Nat → Nat} {n m : Nat} (S : Sb G h q v ml t n m) (h1 : h' q = h q) (h2 : h' v = h v) : Sb G h' q v ml t n m := by
  obtain ⟨a, ⟨b, c, d⟩, e⟩ := S
  exact ⟨h1.trans a, ⟨b, h2.trans c, d⟩, e⟩
theorem Sb.apart {G : hp_G} {h : Nat → Option va_E} {q v : Nat} {ml : Int32} {t : Nat → Nat} {n m : Nat} (S : Sb G h q v ml t n m) : v ≠ q := by
  obtain ⟨a, ⟨b, c, d⟩, e⟩ := S
  intro z
  rw [z, a] at c
  cases c
theorem Sb.text {G : hp_G} {h : Nat → Option va_E} {q v : Nat} {ml : Int32} {t t' : Nat → Nat} {n m : Nat} (S : Sb G h q v ml t n m) (ht : ∀ j, j < n → t' j = t j) : Sb G h q v ml t' n m := by
  obtain ⟨a, ⟨b, c, d, f⟩, e⟩ := S
  exact ⟨a, ⟨b, c, fun j hj => by rw [ht j hj]; exact d j hj, f⟩, e⟩
theorem sx_vb (c : Nat) : vp_nar .byte (sb_b c) = sb_b c := pk_vb _
/-- a String -/
def Str (G : hp_G) (h : Nat → Option va_E) (q : Nat) (t : Nat → Nat) (len : Nat) : Prop := ∃ v x y a, h q = some (.inr (0, [.ref v, .int 0, x, y])) ∧ h v = some (.inl (G.2.2.1 0, len, .inl a)) ∧ sb_Lat t len a ∧ len ≤ 65536
/-- the tables of digits -/
def Dg (G : hp_G) (h : Nat → Option va_E) : Prop := ∃ d1 d2 : Nat → Int32, h (G.2.2.2 0) = some (.inl (G.2.2.1 0, 100, .inl d1)) ∧ h (G.2.2.2 1) = some (.inl (G.2.2.1 0, 100, .inl d2)) ∧ (∀ k, k < 100 → d1 k = sb_b (48 + k % 10) ∧ d2 k = sb_b (48 + k / 10)) ∧ G.2.2.2 0 < G.2.1 ∧ G.2.2.2 1 < G.2.1
theorem Dg.same {G : hp_G} {h h' : Nat → Option va_E} (D : Dg G h) (k : ∀ a, a < G.2.1 → h' a = h a) : Dg G h' := by
  obtain ⟨d1, d2, a, b, c, d, e⟩ := D
  exact ⟨d1, d2, (k _ d).trans a, (k _ e).trans b, c, d, e⟩
/-- the letters of a number: its sign, its digits -/
def sx_dec (dd w : Nat) : Nat → Nat := sb_cat (fun _ => 45) dd (sb_dec w)
set_option maxHeartbeats 4000000 in
/-- length -/
theorem c_J5_length_8abf5 {G : hp_G} {l : Launch} (hl : l.stackTraces = false) {n0 : Nat} {h : Nat → Option va_E} {q v : Nat} {ml : Int32} {n : Nat} (ho : h q = some (.inr (1, [.ref v, .int 0, .int ml, .int (nI n)]))) : Ct G l yJ5_length_8abf5 cJ5_length_8abf5 1 (some .int) 0 0 0 [.ref q] (n0, h) (hp_ri (nI n) (n0, h)) := by
  refine Ct.of rfl hl (by simp [Value.category]) (Nat.le_of_ble_eq_true rfl) (fun K C E hRm hKl => ?_)
  subst hKl
  refine v_aload_n C dJ5_length_8abf5_0 rfl ?_
  refine v_get (v := .int (nI (n))) C 3 dJ5_length_8abf5_1 wd2_6 ho rfl (by decide) ⟨rfl, rfl, rfl⟩ rfl ?_
  exact v_iret C E dJ5_length_8abf5_4 rfl ⟨rfl, rfl⟩
set_option maxHeartbeats 4000000 in
/-- length -/
theorem c_J4_length_8abf5 {G : hp_G} {l : Launch} (hl : l.stackTraces = false) {n0 : Nat} {h : Nat → Option va_E} {q v : Nat} {ml : Int32} {n : Nat} (ho : h q = some (.inr (1, [.ref v, .int 0, .int ml, .int (nI n)]))) : Ct G l yJ4_length_8abf5 cJ4_length_8abf5 1 (some .int) 1 0 0 [.ref q] (n0, h) (hp_ri (nI n) (n0, h)) := by
  refine Ct.of rfl hl (by simp [Value.category]) (Nat.le_of_ble_eq_true rfl) (fun K C E hRm hKl => ?_)
  subst hKl
  refine v_aload_n C dJ4_length_8abf5_0 rfl ?_
  refine v_callSUi C (c_J5_length_8abf5 hl ho) dJ4_length_8abf5_1 mJ5_length_8abf5 wd5_216 wd5_217 wd2_15 (by decide) ho rfl wd5_221 rfl rfl (Nat.le_of_ble_eq_true rfl) (hp_rmle hRm (by decide) (by decide)) (Nat.le_of_ble_eq_true rfl) (Nat.le_of_ble_eq_true rfl) ?_
  exact v_iret C E dJ4_length_8abf5_4 rfl ⟨rfl, rfl⟩
set_option maxHeartbeats 4000000 in
/-- checkIndex -/
theorem c_J3_checkIndex_8e157 {G : hp_G} {l : Launch} (hl : l.stackTraces = false) {n0 : Nat} {h : Nat → Option va_E} {i n : Nat} (hi : i < n) (hn : n < 2 ^ 31) {v : Value} (hv : v.category = 1) : Ct G l yJ3_checkIndex_8e157 cJ3_checkIndex_8e157 3 (some .int) 0 0 0 [.int (nI i), .int (nI n), v] (n0, h) (hp_ri (nI i) (n0, h)) := by
  refine Ct.of rfl hl (by intro x hx; simp at hx; rcases hx with rfl | rfl | rfl <;> first | rfl | exact hv) (Nat.le_of_ble_eq_true rfl) (fun K C E hRm hKl => ?_)
  subst hKl
  refine v_iload_n C dJ3_checkIndex_8e157_0 rfl ?_
  refine v_if_lt (tgt := 9) C dJ3_checkIndex_8e157_1 (by decide) (fun c1 => absurd c1 (fun z => Int32.not_lt.mpr (nI_pos' (by omega)) z)) (fun c1 => ?_)
  refine v_iload_n C dJ3_checkIndex_8e157_4 rfl ?_
  refine v_iload_n C dJ3_checkIndex_8e157_5 rfl ?_
  refine v_icmp_ltN (tgt := 16) C dJ3_checkIndex_8e157_6 (by decide) (by omega) (by omega) (fun c6 => ?_) (fun c6 => absurd c6 (by omega))
  refine v_iload_n C dJ3_checkIndex_8e157_16 rfl ?_
  exact v_iret C E dJ3_checkIndex_8e157_17 rfl ⟨rfl, rfl⟩
set_option maxHeartbeats 4000000 in
/-- checkIndex -/
theorem c_J0_checkIndex_df160 {G : hp_G} {l : Launch} (hl : l.stackTraces = false) {n0 : Nat} {h : Nat → Option va_E} {i n : Nat} (hi : i < n) (hn : n < 2 ^ 31) : Ct G l yJ0_checkIndex_df160 cJ0_checkIndex_df160 2 none 1 0 0 [.int (nI i), .int (nI n)] (n0, h) (hp_vq (fun τ => τ.1 = n0 ∧ τ.2 = h)) := by
  refine Ct.of rfl hl (by simp [Value.category]) (Nat.le_of_ble_eq_true rfl) (fun K C E hRm hKl => ?_)
  subst hKl
  refine v_iload_n C dJ0_checkIndex_df160_0 rfl ?_
  refine v_iload_n C dJ0_checkIndex_df160_1 rfl ?_
  refine v_getsq C dJ0_checkIndex_df160_2 wd5_116 (fun _ _ => hp_Zs) (fun v2 hv2 => ?_)
  refine v_callSi C (c_J3_checkIndex_8e157 hl hi hn hv2) dJ0_checkIndex_df160_5 mJ3_checkIndex_8e157 wd6_75 rfl rfl (Nat.le_of_ble_eq_true rfl) (hp_rmle hRm (by decide) (by decide)) (Nat.le_of_ble_eq_true rfl) (Nat.le_of_ble_eq_true rfl) ?_
  refine v_pop C dJ0_checkIndex_df160_8 rfl ?_
  exact v_vret C E dJ0_checkIndex_df160_9 rfl ⟨rfl, rfl, rfl⟩
set_option maxHeartbeats 4000000 in
/-- charAt -/
theorem c_J5_charAt_5068e {G : hp_G} {l : Launch} (hl : l.stackTraces = false) {n0 : Nat} {h : Nat → Option va_E} {q v : Nat} {ml : Int32} {t : Nat → Nat} {n m : Nat} (S : Sb G h q v ml t n m) {i : Nat} (hi : i < n) : Ct G l yJ5_charAt_5068e cJ5_charAt_5068e 5 (some .char) 2 0 0 [.ref q, .int (nI i)] (n0, h) (hp_ri (nI (t i)) (n0, h)) := by
  have hvq := S.apart
  have hqv := hvq.symm
  obtain ⟨ho, ⟨a, ha, hL, hf⟩, hnm, hm, hbase, hbv⟩ := S
  refine Ct.of rfl hl (by simp [Value.category]) (Nat.le_of_ble_eq_true rfl) (fun K C E hRm hKl => ?_)
  subst hKl
  refine v_aload_n C dJ5_charAt_5068e_0 rfl ?_
  refine v_get C 1 dJ5_charAt_5068e_1 wd2_3 ho rfl (by decide) ⟨rfl, rfl, rfl⟩ rfl ?_
  refine v_istore_n C dJ5_charAt_5068e_4 (by decide) ?_
  refine v_aload_n C dJ5_charAt_5068e_5 rfl ?_
  refine v_get C 0 dJ5_charAt_5068e_6 wd2_2 ho rfl (by decide) ⟨rfl, rfl, rfl⟩ rfl ?_
  refine v_astore_n C dJ5_charAt_5068e_9 (by decide) ?_
  refine v_aload_n C dJ5_charAt_5068e_10 rfl ?_
  refine v_get (v := .int (nI (n))) C 3 dJ5_charAt_5068e_11 wd2_6 ho rfl (by decide) ⟨rfl, rfl, rfl⟩ rfl ?_
  refine v_aload_n C dJ5_charAt_5068e_14 rfl ?_
  refine v_alen C 0 dJ5_charAt_5068e_15 (by decide) ha ?_
  refine v_iload_n C dJ5_charAt_5068e_16 rfl ?_
  refine v_ishr C dJ5_charAt_5068e_17 ?_
  rw [sb_shr0]
  refine v_mmin C dJ5_charAt_5068e_18 wd6_100 (Nat.le_of_ble_eq_true rfl) (hp_rmm hRm) ?_
  rw [hp_minN (by omega) (by omega), Nat.min_eq_left (by omega)]
  refine v_istore C dJ5_charAt_5068e_21 (by decide) ?_
  refine v_iload_n C dJ5_charAt_5068e_23 rfl ?_
  refine v_iload C dJ5_charAt_5068e_24 rfl ?_
  refine v_callSv C (c_J0_checkIndex_df160 hl hi (by omega)) dJ5_charAt_5068e_26 mJ0_checkIndex_df160 wd6_101 rfl rfl (Nat.le_of_ble_eq_true rfl) (hp_rmle hRm (by decide) (by decide)) (Nat.le_of_ble_eq_true rfl) (Nat.le_of_ble_eq_true rfl) (fun n26 h26 q26 => ?_)
  obtain ⟨ea26, eb26⟩ := q26
  have ec26 := Eq.symm ea26
  have ed26 := Eq.symm eb26
  subst ec26 ed26
  refine v_iload_n C dJ5_charAt_5068e_29 rfl ?_
  refine v_if_ne (tgt := 42) C dJ5_charAt_5068e_30 (by decide) (fun c30 => absurd c30 (fun z => z rfl)) (fun c30 => ?_)
  refine v_aload_n C dJ5_charAt_5068e_33 rfl ?_
  refine v_iload_n C dJ5_charAt_5068e_34 rfl ?_
  refine v_baldN C dJ5_charAt_5068e_35 ha (by omega) (by omega) ?_
  refine v_sipush (v := nI 255) C dJ5_charAt_5068e_36 (by decide) ?_
  refine v_iand C dJ5_charAt_5068e_39 ?_
  rw [(hL i hi).2, show sb_b (t i) &&& nI 255 = nI (t i) from (sb_byte _ (hL i hi).1).1]
  refine v_i2c C dJ5_charAt_5068e_40 ?_
  rw [(sb_byte _ (hL i hi).1).2.1]
  exact v_zret C E dJ5_charAt_5068e_41 rfl (sx_nar _ (hL i hi).1) ⟨rfl, rfl⟩
set_option maxHeartbeats 4000000 in
/-- charAt -/
theorem c_J4_charAt_5068e {G : hp_G} {l : Launch} (hl : l.stackTraces = false) {n0 : Nat} {h : Nat → Option va_E} {q v : Nat} {ml : Int32} {t : Nat → Nat} {n m : Nat} (S : Sb G h q v ml t n m) {i : Nat} (hi : i < n) : Ct G l yJ4_charAt_5068e cJ4_charAt_5068e 2 (some .char) 3 0 0 [.ref q, .int (nI i)] (n0, h) (hp_ri (nI (t i)) (n0, h)) := by
  have hL := S.2.1.choose_spec.2.1
  refine Ct.of rfl hl (by simp [Value.category]) (Nat.le_of_ble_eq_true rfl) (fun K C E hRm hKl => ?_)
  subst hKl
  refine v_aload_n C dJ4_charAt_5068e_0 rfl ?_
  refine v_iload_n C dJ4_charAt_5068e_1 rfl ?_
  refine v_callSUi C (c_J5_charAt_5068e hl S hi) dJ4_charAt_5068e_2 mJ5_charAt_5068e wd6_98 wd9_4 wd2_15 (by decide) S.1 rfl wd6_97 rfl rfl (Nat.le_of_ble_eq_true rfl) (hp_rmle hRm (by decide) (by decide)) (Nat.le_of_ble_eq_true rfl) (Nat.le_of_ble_eq_true rfl) ?_
  exact v_zret C E dJ4_charAt_5068e_5 rfl (sx_nar _ (hL i hi).1) ⟨rfl, rfl⟩
set_option maxHeartbeats 4000000 in
/-- coder -/
theorem c_J0_coder_7d493 {G : hp_G} {l : Launch} (hl : l.stackTraces = false) {n0 : Nat} {h : Nat → Option va_E} {q : Nat} {t : Nat → Nat} {len : Nat} (S : Str G h q t len) : Ct G l yJ0_coder_7d493 cJ0_coder_7d493 1 (some .byte) 0 0 0 [.ref q] (n0, h) (hp_ri (0) (n0, h)) := by
  obtain ⟨v, x, y, a, ho, ha, hL, hlen⟩ := S
  refine Ct.of rfl hl (by simp [Value.category]) (Nat.le_of_ble_eq_true rfl) (fun K C E hRm hKl => ?_)
  subst hKl
  refine v_gets C dJ0_coder_7d493_0 wd5_138 (fun _ _ => hp_Zc) ?_
  refine v_if_eq (tgt := 13) C dJ0_coder_7d493_3 (by decide) (fun c3 => absurd c3 (by decide)) (fun c3 => ?_)
  refine v_aload_n C dJ0_coder_7d493_6 rfl ?_
  refine v_get C 1 dJ0_coder_7d493_7 wd6_15 ho rfl (by decide) ⟨rfl, rfl, rfl⟩ rfl ?_
  refine v_goto (tgt := 14) C dJ0_coder_7d493_10 (by decide) ?_
  exact v_zret C E dJ0_coder_7d493_14 rfl rfl ⟨rfl, rfl⟩
set_option maxHeartbeats 4000000 in
/-- Latin-1 -/
theorem c_J0_isLatin1_aae02 {G : hp_G} {l : Launch} (hl : l.stackTraces = false) {n0 : Nat} {h : Nat → Option va_E} {q : Nat} {t : Nat → Nat} {len : Nat} (S : Str G h q t len) : Ct G l yJ0_isLatin1_aae02 cJ0_isLatin1_aae02 1 (some .boolean) 0 0 0 [.ref q] (n0, h) (hp_ri (nI 1) (n0, h)) := by
  obtain ⟨v, x, y, a, ho, ha, hL, hlen⟩ := S
  refine Ct.of rfl hl (by simp [Value.category]) (Nat.le_of_ble_eq_true rfl) (fun K C E hRm hKl => ?_)
  subst hKl
  refine v_gets C dJ0_isLatin1_aae02_0 wd5_138 (fun _ _ => hp_Zc) ?_
  refine v_if_eq (tgt := 17) C dJ0_isLatin1_aae02_3 (by decide) (fun c3 => absurd c3 (by decide)) (fun c3 => ?_)
  refine v_aload_n C dJ0_isLatin1_aae02_6 rfl ?_
  refine v_get C 1 dJ0_isLatin1_aae02_7 wd6_15 ho rfl (by decide) ⟨rfl, rfl, rfl⟩ rfl ?_
  refine v_if_ne (tgt := 17) C dJ0_isLatin1_aae02_10 (by decide) (fun c10 => absurd c10 (fun z => z rfl)) (fun c10 => ?_)
  refine v_iconst (v := nI 1) C dJ0_isLatin1_aae02_13 (by decide) ?_
  refine v_goto (tgt := 18) C dJ0_isLatin1_aae02_14 (by decide) ?_
  exact v_zret C E dJ0_isLatin1_aae02_18 rfl rfl ⟨rfl, rfl⟩
set_option maxHeartbeats 4000000 in
/-- length -/
theorem c_J0_length_8abf5 {G : hp_G} {l : Launch} (hl : l.stackTraces = false) {n0 : Nat} {h : Nat → Option va_E} {q : Nat} {t : Nat → Nat} {len : Nat} (S : Str G h q t len) : Ct G l yJ0_length_8abf5 cJ0_length_8abf5 1 (some .int) 1 0 0 [.ref q] (n0, h) (hp_ri (nI len) (n0, h)) := by
  have S0 := S
  obtain ⟨v, x, y, a, ho, ha, hL, hlen⟩ := S
  refine Ct.of rfl hl (by simp [Value.category]) (Nat.le_of_ble_eq_true rfl) (fun K C E hRm hKl => ?_)
  subst hKl
  refine v_aload_n C dJ0_length_8abf5_0 rfl ?_
  refine v_get C 0 dJ0_length_8abf5_1 wd6_14 ho rfl (by decide) ⟨rfl, rfl, rfl⟩ rfl ?_
  refine v_alen C 0 dJ0_length_8abf5_4 (by decide) ha ?_
  refine v_aload_n C dJ0_length_8abf5_5 rfl ?_
  refine v_callVi C (c_J0_coder_7d493 hl S0) dJ0_length_8abf5_6 mJ0_coder_7d493 rfl ho rfl wd5_134 rfl rfl (Nat.le_of_ble_eq_true rfl) (hp_rmle hRm (by decide) (by decide)) (Nat.le_of_ble_eq_true rfl) (Nat.le_of_ble_eq_true rfl) ?_
  refine v_ishr C dJ0_length_8abf5_9 ?_
  rw [sb_shr0]
  exact v_iret C E dJ0_length_8abf5_10 rfl ⟨rfl, rfl⟩
set_option maxHeartbeats 4000000 in
/-- charAt -/
theorem c_J1_charAt_3b067 {G : hp_G} {l : Launch} (hl : l.stackTraces = false) {n0 : Nat} {h : Nat → Option va_E} {v : Nat} {t : Nat → Nat} {len : Nat} {a : Nat → Int32} (ha : h v = some (.inl (G.2.2.1 0, len, .inl a))) (hL : sb_Lat t len a) (hlen : len ≤ 65536) {i : Nat} (hi : i < len) : Ct G l yJ1_charAt_3b067 cJ1_charAt_3b067 2 (some .char) 2 0 0 [.ref v, .int (nI i)] (n0, h) (hp_ri (nI (t i)) (n0, h)) := by
  refine Ct.of rfl hl (by simp [Value.category]) (Nat.le_of_ble_eq_true rfl) (fun K C E hRm hKl => ?_)
  subst hKl
  refine v_iload_n C dJ1_charAt_3b067_0 rfl ?_
  refine v_aload_n C dJ1_charAt_3b067_1 rfl ?_
  refine v_alen C 0 dJ1_charAt_3b067_2 (by decide) ha ?_
  refine v_callSv C (c_J0_checkIndex_df160 hl hi (by omega)) dJ1_charAt_3b067_3 mJ0_checkIndex_df160 wd6_165 rfl rfl (Nat.le_of_ble_eq_true rfl) (hp_rmle hRm (by decide) (by decide)) (Nat.le_of_ble_eq_true rfl) (Nat.le_of_ble_eq_true rfl) (fun n3 h3 q3 => ?_)
  obtain ⟨ea3, eb3⟩ := q3
  have ec3 := Eq.symm ea3
  have ed3 := Eq.symm eb3
  subst ec3 ed3
  refine v_aload_n C dJ1_charAt_3b067_6 rfl ?_
  refine v_iload_n C dJ1_charAt_3b067_7 rfl ?_
  refine v_baldN C dJ1_charAt_3b067_8 ha (by omega) (by omega) ?_
  refine v_sipush (v := nI 255) C dJ1_charAt_3b067_9 (by decide) ?_
  refine v_iand C dJ1_charAt_3b067_12 ?_
  rw [(hL i hi).2, show sb_b (t i) &&& nI 255 = nI (t i) from (sb_byte _ (hL i hi).1).1]
  refine v_i2c C dJ1_charAt_3b067_13 ?_
  rw [(sb_byte _ (hL i hi).1).2.1]
  exact v_zret C E dJ1_charAt_3b067_14 rfl (sx_nar _ (hL i hi).1) ⟨rfl, rfl⟩
set_option maxHeartbeats 4000000 in
/-- charAt -/
theorem c_J0_charAt_5068e {G : hp_G} {l : Launch} (hl : l.stackTraces = false) {n0 : Nat} {h : Nat → Option va_E} {q : Nat} {t : Nat → Nat} {len : Nat} (S : Str G h q t len) {i : Nat} (hi : i < len) : Ct G l yJ0_charAt_5068e cJ0_charAt_5068e 2 (some .char) 3 0 0 [.ref q, .int (nI i)] (n0, h) (hp_ri (nI (t i)) (n0, h)) := by
  have S0 := S
  obtain ⟨v, x, y, a, ho, ha, hL, hlen⟩ := S
  refine Ct.of rfl hl (by simp [Value.category]) (Nat.le_of_ble_eq_true rfl) (fun K C E hRm hKl => ?_)
  subst hKl
  refine v_aload_n C dJ0_charAt_5068e_0 rfl ?_
  refine v_callVi C (c_J0_isLatin1_aae02 hl S0) dJ0_charAt_5068e_1 mJ0_isLatin1_aae02 rfl ho rfl wd6_158 rfl rfl (Nat.le_of_ble_eq_true rfl) (hp_rmle hRm (by decide) (by decide)) (Nat.le_of_ble_eq_true rfl) (Nat.le_of_ble_eq_true rfl) ?_
  refine v_if_eq (tgt := 16) C dJ0_charAt_5068e_4 (by decide) (fun c4 => absurd c4 (by decide)) (fun c4 => ?_)
  refine v_aload_n C dJ0_charAt_5068e_7 rfl ?_
  refine v_get C 0 dJ0_charAt_5068e_8 wd6_14 ho rfl (by decide) ⟨rfl, rfl, rfl⟩ rfl ?_
  refine v_iload_n C dJ0_charAt_5068e_11 rfl ?_
  refine v_callSi C (c_J1_charAt_3b067 hl ha hL hlen hi) dJ0_charAt_5068e_12 mJ1_charAt_3b067 wd6_162 rfl rfl (Nat.le_of_ble_eq_true rfl) (hp_rmle hRm (by decide) (by decide)) (Nat.le_of_ble_eq_true rfl) (Nat.le_of_ble_eq_true rfl) ?_
  exact v_zret C E dJ0_charAt_5068e_15 rfl (sx_nar _ (hL i hi).1) ⟨rfl, rfl⟩
set_option maxHeartbeats 4000000 in
theorem c_J5_ensureCapacityInternal_d00df0 {G : hp_G} {l : Launch} (hl : l.stackTraces = false) {n0 : Nat} {h : Nat → Option va_E} {q v : Nat} {ml : Int32} {n : Nat} (ho : h q = some (.inr (1, [.ref v, .int 0, .int ml, .int (nI n)]))) {m : Nat} {a : Nat → Int32} (ha : h v = some (.inl (G.2.2.1 0, m, .inl a))) (hf : sb_Fit a) (hm : m ≤ 300) : Ct G l yJ5_ensureCapacityInternal_d00df cJ5_ensureCapacityInternal_d00df 3 none 3 0 0 [.ref q, .int (nI 0)] (n0, h) (hp_vq (fun τ => ∃ (v1 : Nat) (a1 : Nat → Int32), τ.2 q = some (.inr (1, [.ref v1, .int 0, .int ml, .int (nI n)])) ∧ τ.2 v1 = some (.inl (G.2.2.1 0, sb_cap 0 m, .inl a1)) ∧ (∀ j, j < m → a1 j = a j) ∧ sb_Fit a1 ∧ (v1 = v ∧ τ.1 = n0) ∧ ∀ b, b ≠ q → τ.2 b = h b)) := by
  refine Ct.of rfl hl (by simp [Value.category]) (Nat.le_of_ble_eq_true rfl) (fun K C E hRm hKl => ?_)
  subst hKl
  refine v_aload_n C dJ5_ensureCapacityInternal_d00df_0 rfl ?_
  refine v_get C 0 dJ5_ensureCapacityInternal_d00df_1 wd2_2 ho rfl (by decide) ⟨rfl, rfl, rfl⟩ rfl ?_
  refine v_alen C 0 dJ5_ensureCapacityInternal_d00df_4 (by decide) ha ?_
  refine v_aload_n C dJ5_ensureCapacityInternal_d00df_5 rfl ?_
  refine v_get C 1 dJ5_ensureCapacityInternal_d00df_6 wd2_3 ho rfl (by decide) ⟨rfl, rfl, rfl⟩ rfl ?_
  refine v_ishr C dJ5_ensureCapacityInternal_d00df_9 ?_
  rw [sb_shr0]
  refine v_istore_n C dJ5_ensureCapacityInternal_d00df_10 (by decide) ?_
  refine v_iload_n C dJ5_ensureCapacityInternal_d00df_11 rfl ?_
  refine v_iload_n C dJ5_ensureCapacityInternal_d00df_12 rfl ?_
  refine v_isub C dJ5_ensureCapacityInternal_d00df_13 ?_
  refine v_if_le (tgt := 38) C dJ5_ensureCapacityInternal_d00df_14 (by decide) (fun c14 => ?_) (fun c14 => absurd c14 (fun z => z (sx_le (Nat.zero_le m) (by omega))))
  refine v_vret C E dJ5_ensureCapacityInternal_d00df_38 rfl ⟨rfl, v, a, ho, ?_, fun _ _ => rfl, hf, ⟨rfl, rfl⟩, fun _ _ => rfl⟩
  rw [show sb_cap 0 m = m from if_pos (Nat.zero_le _)]
  exact ha
set_option maxHeartbeats 4000000 in
/-- setLength(0) -/
theorem c_J5_setLength_d00df {G : hp_G} {l : Launch} (hl : l.stackTraces = false) {n0 : Nat} {h : Nat → Option va_E} {q v : Nat} {ml : Int32} {t : Nat → Nat} {n m : Nat} (S : Sb G h q v ml t n m) : Ct G l yJ5_setLength_d00df cJ5_setLength_d00df 2 none 4 0 0 [.ref q, .int (nI 0)] (n0, h) (hp_vq (fun τ => ∃ ml1 : Int32, Sb G τ.2 q v ml1 t 0 m ∧ τ.1 = n0 ∧ ∀ b, b ≠ q → τ.2 b = h b)) := by
  have hvq := S.apart
  have hqv := hvq.symm
  obtain ⟨ho, ⟨a, ha, hL, hf⟩, hnm, hm, hbase, hbv⟩ := S
  refine Ct.of rfl hl (by simp [Value.category]) (Nat.le_of_ble_eq_true rfl) (fun K C E hRm hKl => ?_)
  subst hKl
  refine v_iload_n C dJ5_setLength_d00df_0 rfl ?_
  refine v_if_ge (tgt := 13) C dJ5_setLength_d00df_1 (by decide) (fun c1 => ?_) (fun c1 => absurd c1 (fun z => z (by decide)))
  refine v_aload_n C dJ5_setLength_d00df_13 rfl ?_
  refine v_iload_n C dJ5_setLength_d00df_14 rfl ?_
  refine v_callQv C (c_J5_ensureCapacityInternal_d00df0 hl ho ha hf hm) dJ5_setLength_d00df_15 mJ5_ensureCapacityInternal_d00df wd5_72 (hp_selP (by decide)) wd8_236 ho wd5_70 rfl rfl (Nat.le_of_ble_eq_true rfl) (hp_rmle hRm (by decide) (by decide)) (Nat.le_of_ble_eq_true rfl) (Nat.le_of_ble_eq_true rfl) (fun n15 h15 q15 => ?_)
  obtain ⟨v1, a1, o1, b1, c1, d1, f1, g1⟩ := q15
  have ec : sb_cap 0 m = m := if_pos (Nat.zero_le _)
  rw [ec] at b1
  have f2 : v1 = v ∧ n15 = n0 := f1
  obtain ⟨rfl, rfl⟩ := f2
  refine v_aload_n C dJ5_setLength_d00df_18 rfl ?_
  refine v_get (v := .int (nI (n))) C 3 dJ5_setLength_d00df_19 wd2_6 o1 rfl (by decide) ⟨rfl, rfl, rfl⟩ rfl ?_
  refine v_iload_n C dJ5_setLength_d00df_22 rfl ?_
  refine v_icmp_geN (tgt := 63) C dJ5_setLength_d00df_23 (by decide) (by omega) (by omega) (fun c23 => ?_) (fun c23 => absurd c23 (by omega))
  refine v_aload_n C dJ5_setLength_d00df_63 rfl ?_
  refine v_get (v := .int (nI (n))) C 3 dJ5_setLength_d00df_64 wd2_6 o1 rfl (by decide) ⟨rfl, rfl, rfl⟩ rfl ?_
  refine v_iload_n C dJ5_setLength_d00df_67 rfl ?_
  refine v_icmp_leN (tgt := 76) C dJ5_setLength_d00df_68 (by decide) (by omega) (by omega) (fun c68 => ?_) (fun c68 => ?_)
  · refine v_aload_n C dJ5_setLength_d00df_76 rfl ?_
    refine v_iload_n C dJ5_setLength_d00df_77 rfl ?_
    refine v_put C 3 dJ5_setLength_d00df_78 wd2_6 hbase o1 rfl (by decide) ⟨rfl, rfl, rfl, rfl⟩ rfl rfl rfl (Nat.le_of_ble_eq_true rfl) (fun h78 e78 g78 => ?_)
    exact v_vret C E dJ5_setLength_d00df_81 rfl ⟨rfl, ml, ⟨e78, ⟨a1, ((g78 _ hvq).trans b1), fun j hj => absurd hj (Nat.not_lt_zero j), d1⟩, Nat.zero_le _, hm, hbase, hbv⟩, rfl, fun b h1 => ((g78 b h1).trans (g1 b h1))⟩
  · refine v_aload_n C dJ5_setLength_d00df_71 rfl ?_
    refine v_iconst (v := nI 1) C dJ5_setLength_d00df_72 (by decide) ?_
    refine v_put C 2 dJ5_setLength_d00df_73 wd2_4 hbase o1 rfl (by decide) ⟨rfl, rfl, rfl, rfl⟩ rfl rfl rfl (Nat.le_of_ble_eq_true rfl) (fun h73 e73 g73 => ?_)
    refine v_aload_n C dJ5_setLength_d00df_76 rfl ?_
    refine v_iload_n C dJ5_setLength_d00df_77 rfl ?_
    refine v_put C 3 dJ5_setLength_d00df_78 wd2_6 hbase e73 rfl (by decide) ⟨rfl, rfl, rfl, rfl⟩ rfl rfl rfl (Nat.le_of_ble_eq_true rfl) (fun h78 e78 g78 => ?_)
    exact v_vret C E dJ5_setLength_d00df_81 rfl ⟨rfl, 1, ⟨e78, ⟨a1, ((g78 _ hvq).trans ((g73 _ hvq).trans b1)), fun j hj => absurd hj (Nat.not_lt_zero j), d1⟩, Nat.zero_le _, hm, hbase, hbv⟩, rfl, fun b h1 => ((g78 b h1).trans ((g73 b h1).trans (g1 b h1)))⟩
set_option maxHeartbeats 4000000 in
/-- setLength(0) -/
theorem c_J4_setLength_d00df {G : hp_G} {l : Launch} (hl : l.stackTraces = false) {n0 : Nat} {h : Nat → Option va_E} {q v : Nat} {ml : Int32} {t : Nat → Nat} {n m : Nat} (S : Sb G h q v ml t n m) : Ct G l yJ4_setLength_d00df cJ4_setLength_d00df 2 none 5 0 0 [.ref q, .int (nI 0)] (n0, h) (hp_vq (fun τ => ∃ ml1 : Int32, Sb G τ.2 q v ml1 t 0 m ∧ τ.1 = n0 ∧ ∀ b, b ≠ q → τ.2 b = h b)) := by
  refine Ct.of rfl hl (by simp [Value.category]) (Nat.le_of_ble_eq_true rfl) (fun K C E hRm hKl => ?_)
  subst hKl
  refine v_aload_n C dJ4_setLength_d00df_0 rfl ?_
  refine v_iload_n C dJ4_setLength_d00df_1 rfl ?_
  refine v_callSUv C (c_J5_setLength_d00df hl S) dJ4_setLength_d00df_2 mJ5_setLength_d00df wd5_49 wd8_233 wd2_15 (by decide) S.1 rfl wd5_48 rfl rfl (Nat.le_of_ble_eq_true rfl) (hp_rmle hRm (by decide) (by decide)) (Nat.le_of_ble_eq_true rfl) (Nat.le_of_ble_eq_true rfl) (fun n2 h2 q2 => ?_)
  exact v_vret C E dJ4_setLength_d00df_5 rfl ⟨rfl, q2⟩
set_option maxHeartbeats 4000000 in
/-- canEncode -/
theorem c_J1_canEncode_fc78d {G : hp_G} {l : Launch} (hl : l.stackTraces = false) {n0 : Nat} {h : Nat → Option va_E} {c : Nat} (hc : c < 256) : Ct G l yJ1_canEncode_fc78d cJ1_canEncode_fc78d 1 (some .boolean) 0 0 0 [.int (nI c)] (n0, h) (hp_ri (nI 1) (n0, h)) := by
  refine Ct.of rfl hl (by simp [Value.category]) (Nat.le_of_ble_eq_true rfl) (fun K C E hRm hKl => ?_)
  subst hKl
  refine v_iload_n C dJ1_canEncode_fc78d_0 rfl ?_
  refine v_sipush (v := nI 255) C dJ1_canEncode_fc78d_1 (by decide) ?_
  refine v_icmp_gtN (tgt := 11) C dJ1_canEncode_fc78d_4 (by decide) (by omega) (by omega) (fun c4 => absurd c4 (by omega)) (fun c4 => ?_)
  refine v_iconst (v := nI 1) C dJ1_canEncode_fc78d_7 (by decide) ?_
  refine v_goto (tgt := 12) C dJ1_canEncode_fc78d_8 (by decide) ?_
  exact v_zret C E dJ1_canEncode_fc78d_12 rfl rfl ⟨rfl, rfl⟩
set_option maxHeartbeats 4000000 in
/-- append(char) -/
theorem c_J5_append_3fe6f {G : hp_G} {l : Launch} (hl : l.stackTraces = false) {n0 : Nat} {h : Nat → Option va_E} {q v : Nat} {ml : Int32} {t : Nat → Nat} {n m : Nat} (S : Sb G h q v ml t n m) {c : Nat} (hc : c < 256) (hn : n + 1 ≤ 100) : Ct G l yJ5_append_3fe6f cJ5_append_3fe6f 2 (some (.object "java/lang/AbstractStringBuilder")) 4 1 602 [.ref q, .int (nI c)] (n0, h) (hp_aq (fun r τ => r = q ∧ ∃ (v1 : Nat) (ml1 : Int32) (m1 : Nat), Sb G τ.2 q v1 ml1 (sb_cat t n (fun _ => c)) (n + 1) m1 ∧ Sx n0 h q v v1 τ)) := by
  obtain ⟨ho, ⟨a, ha, hL, hf⟩, hnm, hm, hbase, hbv⟩ := S
  refine Ct.of rfl hl (by simp [Value.category]) (Nat.le_of_ble_eq_true rfl) (fun K C E hRm hKl => ?_)
  subst hKl
  refine v_lt ho (fun hqn => ?_)
  refine v_aload_n C dJ5_append_3fe6f_0 rfl ?_
  refine v_aload_n C dJ5_append_3fe6f_1 rfl ?_
  refine v_get (v := .int (nI (n))) C 3 dJ5_append_3fe6f_2 wd2_6 ho rfl (by decide) ⟨rfl, rfl, rfl⟩ rfl ?_
  refine v_iconst (v := nI 1) C dJ5_append_3fe6f_5 (by decide) ?_
  refine v_iaddN C dJ5_append_3fe6f_6 ?_
  refine v_callQv C (c_J5_ensureCapacityInternal_d00df hl ho ha hf (k := n + 1) (by omega) hm hbase) dJ5_append_3fe6f_7 mJ5_ensureCapacityInternal_d00df wd5_72 (hp_selP (by decide)) wd8_236 ho wd5_70 rfl rfl (Nat.le_of_ble_eq_true rfl) (hp_rmle hRm (by decide) (by decide)) (Nat.le_of_ble_eq_true rfl) (Nat.le_of_ble_eq_true rfl) (fun n7 h7 q7 => ?_)
  obtain ⟨v1, a1, o1, b1, c1, d1, f1, g1⟩ := q7
  have hvq : v1 ≠ q := fun z => by rw [z, o1] at b1; cases b1
  have hqv := hvq.symm
  have hbv1 : G.2.1 ≤ v1 := by rcases f1 with ⟨rfl, -⟩ | ⟨rfl, -⟩ <;> omega
  have hcg := sb_cap_ge (n + 1) m
  have hcl : sb_cap (n + 1) m ≤ 300 := by unfold sb_cap; (repeat' split) <;> omega
  have hn0 : n0 ≤ n7 := by rcases f1 with ⟨-, z⟩ | ⟨-, z⟩ <;> (have z : n7 = _ := z; omega)
  have hv1 : v1 = v ∨ n0 ≤ v1 := f1.imp And.left (fun z => Nat.le_of_eq z.1.symm)
  refine v_aload_n C dJ5_append_3fe6f_10 rfl ?_
  refine v_callQi C (c_J5_isLatin1_aae02 hl o1) dJ5_append_3fe6f_11 mJ5_isLatin1_aae02 wd5_100 (hp_selW wd5_102) wd5_101 o1 wd5_99 rfl rfl (Nat.le_of_ble_eq_true rfl) (hp_rmle hRm (by decide) (by decide)) (Nat.le_of_ble_eq_true rfl) (Nat.le_of_ble_eq_true rfl) ?_
  refine v_if_eq (tgt := 45) C dJ5_append_3fe6f_14 (by decide) (fun c14 => absurd c14 (by decide)) (fun c14 => ?_)
  refine v_iload_n C dJ5_append_3fe6f_17 rfl ?_
  refine v_callSi C (c_J1_canEncode_fc78d hl hc) dJ5_append_3fe6f_18 mJ1_canEncode_fc78d wd6_63 rfl rfl (Nat.le_of_ble_eq_true rfl) (hp_rmle hRm (by decide) (by decide)) (Nat.le_of_ble_eq_true rfl) (Nat.le_of_ble_eq_true rfl) ?_
  refine v_if_eq (tgt := 45) C dJ5_append_3fe6f_21 (by decide) (fun c21 => absurd c21 (by decide)) (fun c21 => ?_)
  refine v_aload_n C dJ5_append_3fe6f_24 rfl ?_
  refine v_get C 0 dJ5_append_3fe6f_25 wd2_2 o1 rfl (by decide) ⟨rfl, rfl, rfl⟩ rfl ?_
  refine v_aload_n C dJ5_append_3fe6f_28 rfl ?_
  refine v_dup C dJ5_append_3fe6f_29 rfl ?_
  refine v_get (v := .int (nI (n))) C 3 dJ5_append_3fe6f_30 wd2_6 o1 rfl (by decide) ⟨rfl, rfl, rfl⟩ rfl ?_
  refine v_dup_x1 C dJ5_append_3fe6f_33 rfl rfl ?_
  refine v_iconst (v := nI 1) C dJ5_append_3fe6f_34 (by decide) ?_
  refine v_iaddN C dJ5_append_3fe6f_35 ?_
  refine v_put C 3 dJ5_append_3fe6f_36 wd2_6 hbase o1 rfl (by decide) ⟨rfl, rfl, rfl, rfl⟩ rfl rfl rfl (Nat.le_of_ble_eq_true rfl) (fun h36 e36 g36 => ?_)
  refine v_iload_n C dJ5_append_3fe6f_39 rfl ?_
  refine v_i2b C dJ5_append_3fe6f_40 ?_
  refine v_bastN C dJ5_append_3fe6f_41 (by omega) ((g36 _ hvq).trans b1) (by omega) (by omega) (fun h41 e41 g41 => ?_)
  refine v_goto (tgt := 75) C dJ5_append_3fe6f_42 (by decide) ?_
  refine v_aload_n C dJ5_append_3fe6f_75 rfl ?_
  refine v_aret C E dJ5_append_3fe6f_76 rfl (Or.inl ⟨_, rfl⟩) ⟨_, rfl, rfl, v1, ml, sb_cap (n + 1) m, ⟨((g41 _ hqv).trans e36), ⟨_, e41, sb_latPut hL (fun j hj => ?_) (fun i hi => ⟨hc, ?_⟩), sb_fitU d1 ?_⟩, hcg, hcl, hbase, hbv1⟩, hn0, hv1, fun b h1 h2 h3 => (g41 b (by omega)).trans ((g36 b h1).trans (g1 b h1 (by omega)))⟩
  · rw [pk_un (by omega)]; exact c1 j (by omega)
  · obtain rfl : i = 0 := by omega
    rw [Nat.add_zero, pk_us, pk_vb]; rfl
  · rw [pk_vb]; exact pk_fb _
set_option maxHeartbeats 4000000 in
/-- append(char) -/
theorem c_J4_append_cf468 {G : hp_G} {l : Launch} (hl : l.stackTraces = false) {n0 : Nat} {h : Nat → Option va_E} {q v : Nat} {ml : Int32} {t : Nat → Nat} {n m : Nat} (S : Sb G h q v ml t n m) {c : Nat} (hc : c < 256) (hn : n + 1 ≤ 100) : Ct G l yJ4_append_cf468 cJ4_append_cf468 2 (some (.object "java/lang/StringBuilder")) 5 1 602 [.ref q, .int (nI c)] (n0, h) (hp_aq (fun r τ => r = q ∧ ∃ (v1 : Nat) (ml1 : Int32) (m1 : Nat), Sb G τ.2 q v1 ml1 (sb_cat t n (fun _ => c)) (n + 1) m1 ∧ Sx n0 h q v v1 τ)) := by
  refine Ct.of rfl hl (by simp [Value.category]) (Nat.le_of_ble_eq_true rfl) (fun K C E hRm hKl => ?_)
  subst hKl
  refine v_aload_n C dJ4_append_cf468_0 rfl ?_
  refine v_iload_n C dJ4_append_cf468_1 rfl ?_
  refine v_callSUa C (c_J5_append_3fe6f hl S hc hn) dJ4_append_cf468_2 mJ5_append_3fe6f wd6_61 wd9_2 wd2_15 (by decide) S.1 rfl wd6_60 rfl rfl (Nat.le_of_ble_eq_true rfl) (hp_rmle hRm (by decide) (by decide)) (Nat.le_of_ble_eq_true rfl) (Nat.le_of_ble_eq_true rfl) (fun r2 n2 h2 q2 => ?_)
  refine v_pop C dJ4_append_cf468_5 rfl ?_
  refine v_aload_n C dJ4_append_cf468_6 rfl ?_
  exact v_aret C E dJ4_append_cf468_7 rfl (Or.inl ⟨_, rfl⟩) ⟨_, rfl, rfl, q2.2⟩

/-! ===== TEXT: StringBuilder, by its bytecode ===== -/
theorem sx_le {k m : Nat} (h : k ≤ m) (hm : m < 2 ^ 30) : nI k - nI m ≤ 0 := by
  rw [Int32.le_iff_toInt_le, Int32.toInt_sub, nI_toInt (by omega), nI_toInt (by omega), Int.bmod_eq_of_le (by omega) (by omega)]
  show (k : Int) - m ≤ 0
  omega
theorem sx_gt {k m : Nat} (h : m < k) (hk : k < 2 ^ 30) : ¬ nI k - nI m ≤ 0 := by
  rw [Int32.le_iff_toInt_le, Int32.toInt_sub, nI_toInt (by omega), nI_toInt (by omega), Int.bmod_eq_of_le (by omega) (by omega)]
  show ¬ (k : Int) - m ≤ 0
  omega
theorem sx_soft {a : Nat} (h : a < 2 ^ 30) : ¬ (2147483639 : Int32) < nI a := by
  rw [show (2147483639 : Int32) = nI 2147483639 from by decide]
  exact nI_nlt (by omega) (by decide)
theorem sx_max {a : Nat} (h : a < 2 ^ 30) : ¬ nI a = (2147483647 : Int32) := by
  rw [show (2147483647 : Int32) = nI 2147483647 from by decide]
  exact fun z => by have := (nI_eq (by omega) (by decide)).mp z; omega
theorem sx_nar : ∀ c, c < 256 → narrow .char (.int (nI c)) = .int (nI c) := by decide +kernel
theorem sx_m1 {p : Nat} (h : 0 < p) : nI p + Int32.ofInt (-1) = nI (p - 1) := by
  obtain ⟨q, rfl⟩ : ∃ q, p = q + 1 := ⟨p - 1, by omega⟩
  exact pk_m1 q
set_option maxHeartbeats 4000000 in
/-- Latin-1 -/
theorem c_J5_isLatin1_aae02 {G : hp_G} {l : Launch} (hl : l.stackTraces = false) {n0 : Nat} {h : Nat → Option va_E} {q v : Nat} {ml : Int32} {n : Nat} (ho : h q = some (.inr (1, [.ref v, .int 0, .int ml, .int (nI n)]))) : Ct G l yJ5_isLatin1_aae02 cJ5_isLatin1_aae02 1 (some .boolean) 0 0 0 [.ref q] (n0, h) (hp_ri (nI 1) (n0, h)) := by
  refine Ct.of rfl hl (by simp [Value.category]) (Nat.le_of_ble_eq_true rfl) (fun K C E hRm hKl => ?_)
  subst hKl
  refine v_gets C dJ5_isLatin1_aae02_0 wd1_233 (fun _ _ => hp_Zc) ?_
  refine v_if_eq (tgt := 17) C dJ5_isLatin1_aae02_3 (by decide) (fun c3 => absurd c3 (by decide)) (fun c3 => ?_)
  refine v_aload_n C dJ5_isLatin1_aae02_6 rfl ?_
  refine v_get C 1 dJ5_isLatin1_aae02_7 wd2_3 ho rfl (by decide) ⟨rfl, rfl, rfl⟩ rfl ?_
  refine v_if_ne (tgt := 17) C dJ5_isLatin1_aae02_10 (by decide) (fun c10 => absurd c10 (fun z => z rfl)) (fun c10 => ?_)
  refine v_iconst (v := nI 1) C dJ5_isLatin1_aae02_13 (by decide) ?_
  refine v_goto (tgt := 18) C dJ5_isLatin1_aae02_14 (by decide) ?_
  exact v_zret C E dJ5_isLatin1_aae02_18 rfl rfl ⟨rfl, rfl⟩
set_option maxHeartbeats 4000000 in
/-- the new length -/
theorem c_J8_newLength_cabcc {G : hp_G} {l : Launch} (hl : l.stackTraces = false) {n0 : Nat} {h : Nat → Option va_E} {x y z : Nat} (hx : x ≤ 1000) (hy : y ≤ 1000) (hz : z ≤ 1000) (hy0 : 0 < y) : Ct G l yJ8_newLength_cabcc cJ8_newLength_cabcc 4 (some .int) 1 0 0 [.int (nI x), .int (nI y), .int (nI z)] (n0, h) (hp_ri (nI (x + (if y < z then z else y))) (n0, h)) := by
  refine Ct.of rfl hl (by simp [Value.category]) (Nat.le_of_ble_eq_true rfl) (fun K C E hRm hKl => ?_)
  subst hKl
  refine v_iload_n C dJ8_newLength_cabcc_0 rfl ?_
  refine v_iload_n C dJ8_newLength_cabcc_1 rfl ?_
  refine v_iload_n C dJ8_newLength_cabcc_2 rfl ?_
  refine v_mmax C dJ8_newLength_cabcc_3 wd5_81 (Nat.le_of_ble_eq_true rfl) (hp_rmm hRm) ?_
  rw [hp_maxN (by omega) (by omega)]
  refine v_iaddN C dJ8_newLength_cabcc_6 ?_
  refine v_istore_n C dJ8_newLength_cabcc_7 (by decide) ?_
  refine v_iconst (v := nI 0) C dJ8_newLength_cabcc_8 (by decide) ?_
  refine v_iload_n C dJ8_newLength_cabcc_9 rfl ?_
  refine v_icmp_geN (tgt := 21) C dJ8_newLength_cabcc_10 (by decide) (by decide) (by split <;> omega) (fun c10 => absurd c10 (by split <;> omega)) (fun c10 => ?_)
  refine v_iload_n C dJ8_newLength_cabcc_13 rfl ?_
  refine v_ldc (v := 2147483639) C dJ8_newLength_cabcc_14 wd5_82 ?_
  refine v_icmp_gt (tgt := 21) C dJ8_newLength_cabcc_16 (by decide) (fun c16 => absurd c16 (sx_soft (by split <;> omega))) (fun c16 => ?_)
  refine v_iload_n C dJ8_newLength_cabcc_19 rfl ?_
  exact v_iret C E dJ8_newLength_cabcc_20 rfl ⟨rfl, rfl⟩
set_option maxHeartbeats 4000000 in
/-- the new capacity -/
theorem c_J5_newCapacity_0f7a4 {G : hp_G} {l : Launch} (hl : l.stackTraces = false) {n0 : Nat} {h : Nat → Option va_E} {q v : Nat} {ml : Int32} {n : Nat} (ho : h q = some (.inr (1, [.ref v, .int 0, .int ml, .int (nI n)]))) {m : Nat} {a : Nat → Int32} (ha : h v = some (.inl (G.2.2.1 0, m, .inl a))) {k : Nat} (hk : m < k) (hk2 : k ≤ 300) (hm : m ≤ 300) : Ct G l yJ5_newCapacity_0f7a4 cJ5_newCapacity_0f7a4 6 (some .int) 2 0 0 [.ref q, .int (nI k)] (n0, h) (hp_ri (nI (sb_cap k m)) (n0, h)) := by
  refine Ct.of rfl hl (by simp [Value.category]) (Nat.le_of_ble_eq_true rfl) (fun K C E hRm hKl => ?_)
  subst hKl
  have ecap : m + (if k - m < m + 2 then m + 2 else k - m) = sb_cap k m := by
    unfold sb_cap
    rw [if_neg (show ¬ k ≤ m by omega)]
    (repeat' split) <;> omega
  refine v_aload_n C dJ5_newCapacity_0f7a4_0 rfl ?_
  refine v_get C 0 dJ5_newCapacity_0f7a4_1 wd2_2 ho rfl (by decide) ⟨rfl, rfl, rfl⟩ rfl ?_
  refine v_alen C 0 dJ5_newCapacity_0f7a4_4 (by decide) ha ?_
  refine v_istore_n C dJ5_newCapacity_0f7a4_5 (by decide) ?_
  refine v_iload_n C dJ5_newCapacity_0f7a4_6 rfl ?_
  refine v_aload_n C dJ5_newCapacity_0f7a4_7 rfl ?_
  refine v_get C 1 dJ5_newCapacity_0f7a4_8 wd2_3 ho rfl (by decide) ⟨rfl, rfl, rfl⟩ rfl ?_
  refine v_ishl C dJ5_newCapacity_0f7a4_11 ?_
  rw [sb_shl0]
  refine v_istore_n C dJ5_newCapacity_0f7a4_12 (by decide) ?_
  refine v_iload_n C dJ5_newCapacity_0f7a4_13 rfl ?_
  refine v_iload_n C dJ5_newCapacity_0f7a4_14 rfl ?_
  refine v_isubN C dJ5_newCapacity_0f7a4_15 (by omega) ?_
  refine v_istore C dJ5_newCapacity_0f7a4_16 (by decide) ?_
  refine v_iload_n C dJ5_newCapacity_0f7a4_18 rfl ?_
  refine v_iload C dJ5_newCapacity_0f7a4_19 rfl ?_
  refine v_iload_n C dJ5_newCapacity_0f7a4_21 rfl ?_
  refine v_iconst (v := nI 2) C dJ5_newCapacity_0f7a4_22 (by decide) ?_
  refine v_aload_n C dJ5_newCapacity_0f7a4_23 rfl ?_
  refine v_get C 1 dJ5_newCapacity_0f7a4_24 wd2_3 ho rfl (by decide) ⟨rfl, rfl, rfl⟩ rfl ?_
  refine v_ishl C dJ5_newCapacity_0f7a4_27 ?_
  rw [sb_shl0]
  refine v_iaddN C dJ5_newCapacity_0f7a4_28 ?_
  refine v_callSi C (c_J8_newLength_cabcc hl (by omega) (by omega) (by omega) (by omega)) dJ5_newCapacity_0f7a4_29 mJ8_newLength_cabcc wd5_78 rfl rfl (Nat.le_of_ble_eq_true rfl) (hp_rmle hRm (by decide) (by decide)) (Nat.le_of_ble_eq_true rfl) (Nat.le_of_ble_eq_true rfl) ?_
  refine v_istore C dJ5_newCapacity_0f7a4_32 (by decide) ?_
  refine v_iload C dJ5_newCapacity_0f7a4_34 rfl ?_
  refine v_ldc (v := 2147483647) C dJ5_newCapacity_0f7a4_36 wd5_86 ?_
  refine v_icmp_ne (tgt := 51) C dJ5_newCapacity_0f7a4_38 (by decide) (fun c38 => ?_) (fun c38 => absurd c38 (fun z => sx_max (by split <;> omega) z))
  refine v_iload C dJ5_newCapacity_0f7a4_51 rfl ?_
  refine v_aload_n C dJ5_newCapacity_0f7a4_53 rfl ?_
  refine v_get C 1 dJ5_newCapacity_0f7a4_54 wd2_3 ho rfl (by decide) ⟨rfl, rfl, rfl⟩ rfl ?_
  refine v_ishr C dJ5_newCapacity_0f7a4_57 ?_
  rw [sb_shr0]
  exact v_iret C E dJ5_newCapacity_0f7a4_58 rfl ⟨congrArg (fun x => Sum.inl (some (Value.int (nI x)))) ecap, rfl⟩
set_option maxHeartbeats 4000000 in
/-- a longer copy -/
theorem c_J7_copyOf_9075b {G : hp_G} {l : Launch} (hl : l.stackTraces = false) {n0 : Nat} {h : Nat → Option va_E} {v : Nat} {m : Nat} {a : Nat → Int32} (ha : h v = some (.inl (G.2.2.1 0, m, .inl a))) {k : Nat} (hk : m < k) (hk2 : k ≤ 602) (hf : sb_Fit a) (hbase : G.2.1 ≤ n0) : Ct G l yJ7_copyOf_9075b cJ7_copyOf_9075b 3 (some (.array .byte)) 1 1 602 [.ref v, .int (nI k)] (n0, h) (hp_aq (fun r τ => r = n0 ∧ τ.1 = n0 + 1 ∧ ∃ a', τ.2 n0 = some (.inl (G.2.2.1 0, k, .inl a')) ∧ (∀ j, j < m → a' j = a j) ∧ sb_Fit a' ∧ ∀ b, b ≠ n0 → τ.2 b = h b)) := by
  refine Ct.of rfl hl (by simp [Value.category]) (Nat.le_of_ble_eq_true rfl) (fun K C E hRm hKl => ?_)
  subst hKl
  refine v_lt ha (fun hvn => ?_)
  refine v_iload_n C dJ7_copyOf_9075b_0 rfl ?_
  refine v_aload_n C dJ7_copyOf_9075b_1 rfl ?_
  refine v_alen C 0 dJ7_copyOf_9075b_2 (by decide) ha ?_
  refine v_icmp_neN (tgt := 14) C dJ7_copyOf_9075b_3 (by decide) (by omega) (by omega) (fun c3 => ?_) (fun c3 => absurd c3 (by omega))
  refine v_iload_n C dJ7_copyOf_9075b_14 rfl ?_
  refine v_newa (atype := .byte) (N := k) C 0 (.inl (fun _ => 0)) dJ7_copyOf_9075b_15 wd2_16 (by decide) rfl (fun _ => rfl) (nI_pos (by omega)) (nI_clamp (by omega)) (by omega) (Nat.le_of_ble_eq_true rfl) (by omega) (fun h15 e15 g15 => ?_)
  refine v_astore_n C dJ7_copyOf_9075b_17 (by decide) ?_
  refine v_aload_n C dJ7_copyOf_9075b_18 rfl ?_
  refine v_iconst (v := nI 0) C dJ7_copyOf_9075b_19 (by decide) ?_
  refine v_aload_n C dJ7_copyOf_9075b_20 rfl ?_
  refine v_iconst (v := nI 0) C dJ7_copyOf_9075b_21 (by decide) ?_
  refine v_aload_n C dJ7_copyOf_9075b_22 rfl ?_
  refine v_alen C 0 dJ7_copyOf_9075b_23 (by decide) ((g15 _ (Nat.ne_of_lt hvn)).trans ha) ?_
  refine v_iload_n C dJ7_copyOf_9075b_24 rfl ?_
  refine v_mmin C dJ7_copyOf_9075b_25 wd5_97 (Nat.le_of_ble_eq_true rfl) (hp_rmm hRm) ?_
  rw [hp_minN (by omega) (by omega), Nat.min_eq_left (by omega)]
  refine v_copy (f' := va_cpy a (fun _ => 0) 0 0 m) C 0 dJ7_copyOf_9075b_28 wd5_98 (by decide) ((g15 _ (Nat.ne_of_lt hvn)).trans ha) e15 (by omega) (by omega) (by omega) (by omega) (by omega) (fun i _ => hf _) (Nat.le_of_ble_eq_true rfl) (by rw [hRm]; decide) (by rw [hRm]; decide) (fun i hi => rfl) (fun h28 e28 g28 => ?_)
  refine v_aload_n C dJ7_copyOf_9075b_31 rfl ?_
  exact v_aret C E dJ7_copyOf_9075b_32 rfl (Or.inr ⟨_, rfl⟩) ⟨_, rfl, rfl, rfl, va_cpy a (fun _ => 0) 0 0 m, e28, fun j hj => sb_cpy0 hj, sb_fitC hf sb_fit0, fun b hb => (g28 b hb).trans (g15 b hb)⟩
set_option maxHeartbeats 4000000 in
/-- capacity for k -/
theorem c_J5_ensureCapacityInternal_d00df {G : hp_G} {l : Launch} (hl : l.stackTraces = false) {n0 : Nat} {h : Nat → Option va_E} {q v : Nat} {ml : Int32} {n : Nat} (ho : h q = some (.inr (1, [.ref v, .int 0, .int ml, .int (nI n)]))) {m : Nat} {a : Nat → Int32} (ha : h v = some (.inl (G.2.2.1 0, m, .inl a))) (hf : sb_Fit a) {k : Nat} (hk2 : k ≤ 300) (hm : m ≤ 300) (hbase : G.2.1 ≤ q) : Ct G l yJ5_ensureCapacityInternal_d00df cJ5_ensureCapacityInternal_d00df 3 none 3 1 602 [.ref q, .int (nI k)] (n0, h) (hp_vq (fun τ => ∃ (v1 : Nat) (a1 : Nat → Int32), τ.2 q = some (.inr (1, [.ref v1, .int 0, .int ml, .int (nI n)])) ∧ τ.2 v1 = some (.inl (G.2.2.1 0, sb_cap k m, .inl a1)) ∧ (∀ j, j < m → a1 j = a j) ∧ sb_Fit a1 ∧ ((v1 = v ∧ τ.1 = n0) ∨ (v1 = n0 ∧ τ.1 = n0 + 1)) ∧ ∀ b, b ≠ q → b ≠ n0 → τ.2 b = h b)) := by
  refine Ct.of rfl hl (by simp [Value.category]) (Nat.le_of_ble_eq_true rfl) (fun K C E hRm hKl => ?_)
  subst hKl
  refine v_lt ho (fun hqn => ?_)
  have hcap : sb_cap k m ≤ 602 := by unfold sb_cap; (repeat' split) <;> omega
  by_cases hkm : k ≤ m
  · refine v_aload_n C dJ5_ensureCapacityInternal_d00df_0 rfl ?_
    refine v_get C 0 dJ5_ensureCapacityInternal_d00df_1 wd2_2 ho rfl (by decide) ⟨rfl, rfl, rfl⟩ rfl ?_
    refine v_alen C 0 dJ5_ensureCapacityInternal_d00df_4 (by decide) ha ?_
    refine v_aload_n C dJ5_ensureCapacityInternal_d00df_5 rfl ?_
    refine v_get C 1 dJ5_ensureCapacityInternal_d00df_6 wd2_3 ho rfl (by decide) ⟨rfl, rfl, rfl⟩ rfl ?_
    refine v_ishr C dJ5_ensureCapacityInternal_d00df_9 ?_
    rw [sb_shr0]
    refine v_istore_n C dJ5_ensureCapacityInternal_d00df_10 (by decide) ?_
    refine v_iload_n C dJ5_ensureCapacityInternal_d00df_11 rfl ?_
    refine v_iload_n C dJ5_ensureCapacityInternal_d00df_12 rfl ?_
    refine v_isub C dJ5_ensureCapacityInternal_d00df_13 ?_
    refine v_if_le (tgt := 38) C dJ5_ensureCapacityInternal_d00df_14 (by decide) (fun c14 => ?_) (fun c14 => absurd c14 (fun z => z (sx_le hkm (by omega))))
    refine v_vret C E dJ5_ensureCapacityInternal_d00df_38 rfl ⟨rfl, v, a, ho, ?_, fun _ _ => rfl, hf, Or.inl ⟨rfl, rfl⟩, fun _ _ _ => rfl⟩
    rw [show sb_cap k m = m from if_pos hkm]
    exact ha
  · refine v_aload_n C dJ5_ensureCapacityInternal_d00df_0 rfl ?_
    refine v_get C 0 dJ5_ensureCapacityInternal_d00df_1 wd2_2 ho rfl (by decide) ⟨rfl, rfl, rfl⟩ rfl ?_
    refine v_alen C 0 dJ5_ensureCapacityInternal_d00df_4 (by decide) ha ?_
    refine v_aload_n C dJ5_ensureCapacityInternal_d00df_5 rfl ?_
    refine v_get C 1 dJ5_ensureCapacityInternal_d00df_6 wd2_3 ho rfl (by decide) ⟨rfl, rfl, rfl⟩ rfl ?_
    refine v_ishr C dJ5_ensureCapacityInternal_d00df_9 ?_
    rw [sb_shr0]
    refine v_istore_n C dJ5_ensureCapacityInternal_d00df_10 (by decide) ?_
    refine v_iload_n C dJ5_ensureCapacityInternal_d00df_11 rfl ?_
    refine v_iload_n C dJ5_ensureCapacityInternal_d00df_12 rfl ?_
    refine v_isub C dJ5_ensureCapacityInternal_d00df_13 ?_
    refine v_if_le (tgt := 38) C dJ5_ensureCapacityInternal_d00df_14 (by decide) (fun c14 => absurd c14 (sx_gt (Nat.not_le.mp hkm) (by omega))) (fun c14 => ?_)
    refine v_aload_n C dJ5_ensureCapacityInternal_d00df_17 rfl ?_
    refine v_aload_n C dJ5_ensureCapacityInternal_d00df_18 rfl ?_
    refine v_get C 0 dJ5_ensureCapacityInternal_d00df_19 wd2_2 ho rfl (by decide) ⟨rfl, rfl, rfl⟩ rfl ?_
    refine v_aload_n C dJ5_ensureCapacityInternal_d00df_22 rfl ?_
    refine v_iload_n C dJ5_ensureCapacityInternal_d00df_23 rfl ?_
    refine v_callQi C (c_J5_newCapacity_0f7a4 hl ho ha (by omega) (by omega) (by omega)) dJ5_ensureCapacityInternal_d00df_24 mJ5_newCapacity_0f7a4 wd5_76 (hp_selP (by decide)) wd8_237 ho wd5_74 rfl rfl (Nat.le_of_ble_eq_true rfl) (hp_rmle hRm (by decide) (by decide)) (Nat.le_of_ble_eq_true rfl) (Nat.le_of_ble_eq_true rfl) ?_
    refine v_aload_n C dJ5_ensureCapacityInternal_d00df_27 rfl ?_
    refine v_get C 1 dJ5_ensureCapacityInternal_d00df_28 wd2_3 ho rfl (by decide) ⟨rfl, rfl, rfl⟩ rfl ?_
    refine v_ishl C dJ5_ensureCapacityInternal_d00df_31 ?_
    rw [sb_shl0]
    refine v_callSa C (c_J7_copyOf_9075b hl ha (k := sb_cap k m) (by have := sb_cap_ge k m; omega) hcap hf (by omega)) dJ5_ensureCapacityInternal_d00df_32 mJ7_copyOf_9075b wd5_87 rfl rfl (Nat.le_of_ble_eq_true rfl) (hp_rmle hRm (by decide) (by decide)) (Nat.le_of_ble_eq_true rfl) (Nat.le_of_ble_eq_true rfl) (fun r32 n32 h32 q32 => ?_)
    obtain ⟨er, k32, a1, e32, u32, f32, w32⟩ := q32
    have er2 := Eq.symm er
    subst er2
    have k32 : n32 = n0 + 1 := k32
    subst k32
    refine v_put C 0 dJ5_ensureCapacityInternal_d00df_35 wd2_2 hbase ((w32 _ (Nat.ne_of_lt hqn)).trans ho) rfl (by decide) ⟨rfl, rfl, rfl, rfl⟩ rfl rfl rfl (Nat.le_of_ble_eq_true rfl) (fun h35 e35 g35 => ?_)
    exact v_vret C E dJ5_ensureCapacityInternal_d00df_38 rfl ⟨rfl, n0, a1, e35, (g35 _ (fun z => Nat.ne_of_lt hqn z.symm)).trans e32, u32, f32, Or.inr ⟨rfl, rfl⟩, fun b h1 h2 => (g35 b h1).trans (w32 b h2)⟩

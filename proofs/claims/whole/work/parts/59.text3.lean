/-! ===== TEXT: append(int) ===== -/
theorem sx_neg {w : Nat} (h1 : 1 ≤ w) (hw : w < 2 ^ 31) : -nI w < 0 := by
  rw [Int32.lt_iff_toInt_lt, sb_negT hw]
  show -(w : Int) < 0
  omega
theorem sx_dg {i w : Nat} (h1 : 1 ≤ i) (h9 : i ≤ 9) (hl : i = 1 ∨ 10 ^ (i - 1) ≤ w) (hu : w < 10 ^ i) : sb_dg w = i := by
  obtain rfl | rfl | rfl | rfl | rfl | rfl | rfl | rfl | rfl : i = 1 ∨ i = 2 ∨ i = 3 ∨ i = 4 ∨ i = 5 ∨ i = 6 ∨ i = 7 ∨ i = 8 ∨ i = 9 := by omega
  all_goals (simp at hl hu; unfold sb_dg; (repeat' split) <;> omega)
theorem sx_dg10 {w : Nat} (hl : 10 ^ 9 ≤ w) : sb_dg w = 10 := by
  simp at hl
  unfold sb_dg
  (repeat' split) <;> omega
theorem sx_p10 (i : Nat) : nI 10 * -nI (10 ^ i) = -nI (10 ^ (i + 1)) := by
  rw [Int32.mul_neg, pk_mul, Nat.pow_succ, Nat.mul_comm]
theorem sx_p9 {i : Nat} (h : i ≤ 9) : 10 ^ i < 2 ^ 31 := Nat.lt_of_le_of_lt (Nat.pow_le_pow_right (by decide) h) (by decide)
set_option maxHeartbeats 4000000 in
theorem loop_J6_stringSize_0f7a4 {G : hp_G} {K : hp_C} {P : hp_P} {n0 : Nat} {h : Nat → Option va_E} {w dd : Nat} (C : hp_Cx G K MJ6_stringSize_0f7a4) (E : hp_End G K P) (hw : w < 2 ^ 31) (hp : P (.inl (some (.int (nI (sb_dg w + dd))))) (n0, h)) : ∀ (e i : Nat), i + e = 10 → 1 ≤ i → (i = 1 ∨ 10 ^ (i - 1) ≤ w) → V G K MJ6_stringSize_0f7a4 0 0 (n0, h) 16 [some (.int (-nI w)), some (.int (nI dd)), some (.int (-nI (10 ^ i))), some (.int (nI i))] [] := by
  intro e
  induction e with
  | zero =>
    intro i h1 h2 h3
    have e : i = 10 := by omega
    subst e
    rw [sx_dg10 (by omega)] at hp
    refine v_iload_n C dJ6_stringSize_0f7a4_16 rfl ?_
    refine v_bipush (v := nI 10) C dJ6_stringSize_0f7a4_17 (by decide) ?_
    refine v_icmp_geN (tgt := 42) C dJ6_stringSize_0f7a4_19 (by decide) (by omega) (by omega) (fun c19 => ?_) (fun c19 => absurd c19 (by omega))
    refine v_bipush (v := nI 10) C dJ6_stringSize_0f7a4_42 (by decide) ?_
    refine v_iload_n C dJ6_stringSize_0f7a4_44 rfl ?_
    refine v_iaddN C dJ6_stringSize_0f7a4_45 ?_
    exact v_iret C E dJ6_stringSize_0f7a4_46 rfl hp
  | succ e ih =>
    intro i h1 h2 h3
    have hp9 := sx_p9 (show i ≤ 9 by omega)
    refine v_iload_n C dJ6_stringSize_0f7a4_16 rfl ?_
    refine v_bipush (v := nI 10) C dJ6_stringSize_0f7a4_17 (by decide) ?_
    refine v_icmp_geN (tgt := 42) C dJ6_stringSize_0f7a4_19 (by decide) (by omega) (by omega) (fun c19 => absurd c19 (by omega)) (fun c19 => ?_)
    refine v_iload_n C dJ6_stringSize_0f7a4_22 rfl ?_
    refine v_iload_n C dJ6_stringSize_0f7a4_23 rfl ?_
    refine v_icmp_le (tgt := 31) C dJ6_stringSize_0f7a4_24 (by decide) (fun c24 => ?_) (fun c24 => ?_)
    · have k24 : 10 ^ i ≤ w := (sb_nle hw hp9).mp c24
      refine v_bipush (v := nI 10) C dJ6_stringSize_0f7a4_31 (by decide) ?_
      refine v_iload_n C dJ6_stringSize_0f7a4_33 rfl ?_
      refine v_imul C dJ6_stringSize_0f7a4_34 ?_
      rw [sx_p10]
      refine v_istore_n C dJ6_stringSize_0f7a4_35 (by decide) ?_
      refine v_iincN C dJ6_stringSize_0f7a4_36 (by decide) rfl ?_
      refine v_goto (tgt := 16) C dJ6_stringSize_0f7a4_39 (by decide) ?_
      exact ih (i + 1) (by omega) (by omega) (Or.inr k24)
    · have k24 : w < 10 ^ i := Nat.not_le.mp (fun z => c24 ((sb_nle hw hp9).mpr z))
      rw [sx_dg h2 (by omega) h3 k24] at hp
      refine v_iload_n C dJ6_stringSize_0f7a4_27 rfl ?_
      refine v_iload_n C dJ6_stringSize_0f7a4_28 rfl ?_
      refine v_iaddN C dJ6_stringSize_0f7a4_29 ?_
      exact v_iret C E dJ6_stringSize_0f7a4_30 rfl hp
set_option maxHeartbeats 4000000 in
/-- how many digits -/
theorem c_J6_stringSize_0f7a4 {G : hp_G} {l : Launch} (hl : l.stackTraces = false) {n0 : Nat} {h : Nat → Option va_E} {w : Nat} (hw : w < 2 ^ 31) : Ct G l yJ6_stringSize_0f7a4 cJ6_stringSize_0f7a4 4 (some .int) 0 0 0 [.int (nI w)] (n0, h) (hp_ri (nI (sb_dg w)) (n0, h)) := by
  refine Ct.of rfl hl (by simp [Value.category]) (Nat.le_of_ble_eq_true rfl) (fun K C E hRm hKl => ?_)
  subst hKl
  refine v_iconst (v := nI 1) C dJ6_stringSize_0f7a4_0 (by decide) ?_
  refine v_istore_n C dJ6_stringSize_0f7a4_1 (by decide) ?_
  refine v_iload_n C dJ6_stringSize_0f7a4_2 rfl ?_
  refine v_if_lt (tgt := 11) C dJ6_stringSize_0f7a4_3 (by decide) (fun c3 => absurd c3 (fun z => Int32.not_lt.mpr (nI_pos' hw) z)) (fun c3 => ?_)
  refine v_iconst (v := nI 0) C dJ6_stringSize_0f7a4_6 (by decide) ?_
  refine v_istore_n C dJ6_stringSize_0f7a4_7 (by decide) ?_
  refine v_iload_n C dJ6_stringSize_0f7a4_8 rfl ?_
  refine v_ineg C dJ6_stringSize_0f7a4_9 ?_
  refine v_istore_n C dJ6_stringSize_0f7a4_10 (by decide) ?_
  refine v_bipush (v := (-10)) C dJ6_stringSize_0f7a4_11 (by decide) ?_
  refine v_istore_n C dJ6_stringSize_0f7a4_13 (by decide) ?_
  refine v_iconst (v := nI 1) C dJ6_stringSize_0f7a4_14 (by decide) ?_
  refine v_istore_n C dJ6_stringSize_0f7a4_15 (by decide) ?_
  exact loop_J6_stringSize_0f7a4 (dd := 0) C E hw ⟨rfl, rfl⟩ 9 1 rfl (Nat.le_refl _) (Or.inl rfl)
set_option maxHeartbeats 4000000 in
theorem c_J6_stringSize_0f7a4_m {G : hp_G} {l : Launch} (hl : l.stackTraces = false) {n0 : Nat} {h : Nat → Option va_E} {w : Nat} (h1 : 1 ≤ w) (hw : w < 2 ^ 31) : Ct G l yJ6_stringSize_0f7a4 cJ6_stringSize_0f7a4 4 (some .int) 0 0 0 [.int (-nI w)] (n0, h) (hp_ri (nI (sb_dg w + 1)) (n0, h)) := by
  refine Ct.of rfl hl (by simp [Value.category]) (Nat.le_of_ble_eq_true rfl) (fun K C E hRm hKl => ?_)
  subst hKl
  refine v_iconst (v := nI 1) C dJ6_stringSize_0f7a4_0 (by decide) ?_
  refine v_istore_n C dJ6_stringSize_0f7a4_1 (by decide) ?_
  refine v_iload_n C dJ6_stringSize_0f7a4_2 rfl ?_
  refine v_if_lt (tgt := 11) C dJ6_stringSize_0f7a4_3 (by decide) (fun c3 => ?_) (fun c3 => absurd c3 (fun z => z (sx_neg h1 hw)))
  refine v_bipush (v := (-10)) C dJ6_stringSize_0f7a4_11 (by decide) ?_
  refine v_istore_n C dJ6_stringSize_0f7a4_13 (by decide) ?_
  refine v_iconst (v := nI 1) C dJ6_stringSize_0f7a4_14 (by decide) ?_
  refine v_istore_n C dJ6_stringSize_0f7a4_15 (by decide) ?_
  exact loop_J6_stringSize_0f7a4 (dd := 1) C E hw ⟨rfl, rfl⟩ 9 1 rfl (Nat.le_refl _) (Or.inl rfl)
set_option maxHeartbeats 8000000 in
theorem loop_J6_getChars_ba4f3 {G : hp_G} {K : hp_C} {n0 : Nat} {h0 : Nat → Option va_E} {v m lo : Nat} {sg : Int32} (C : hp_Cx G K MJ6_getChars_ba4f3) (hD : Dg G h0) (hbv : G.2.1 ≤ v) (hm : m ≤ 65536) : ∀ (f w p : Nat) (a : Nat → Int32) (h : Nat → Option va_E), w < f → w < 2 ^ 31 → p = lo + sb_dg w → p ≤ m → h v = some (.inl (G.2.2.1 0, m, .inl a)) → (∀ b, b ≠ v → h b = h0 b) →
    (∀ (a' : Nat → Int32) (h' : Nat → Option va_E), h' v = some (.inl (G.2.2.1 0, m, .inl a')) → (∀ b, b ≠ v → h' b = h0 b) → (∀ j, j < lo ∨ p ≤ j → a' j = a j) → (∀ i, i < sb_dg w → a' (p - 1 - i) = sb_b (48 + w / 10 ^ i % 10)) → (sb_Fit a → sb_Fit a') → V G K MJ6_getChars_ba4f3 0 0 (n0, h') 104 [none, none, some (.ref v), none, none, some (.int (nI lo)), some (.int sg)] []) →
    V G K MJ6_getChars_ba4f3 0 0 (n0, h) 22 [some (.int (-nI w)), none, some (.ref v), none, none, some (.int (nI p)), some (.int sg)] [] := by
  obtain ⟨d1, d2, D1, D2, D3, D4, D5⟩ := hD
  have hq1 : G.2.2.2 0 ≠ v := by omega
  have hq2 : G.2.2.2 1 ≠ v := by omega
  intro f
  induction f with
  | zero =>
    intro w p a h z
    omega
  | succ f ih =>
    intro w p a h hwf hw hp hpm ha hO hk
    have hd1 := (sb_dg_in w).1
    have ew : (nI w).toNatClampNeg = w := nI_clamp hw
    have hG1 := (hO _ hq1).trans D1
    have hG2 := (hO _ hq2).trans D2
    by_cases h100 : w < 100
    · by_cases h9 : w < 10
      · have hd : sb_dg w = 1 := if_pos h9
        refine v_iload_n C dJ6_getChars_ba4f3_22 rfl ?_
        refine v_bipush (v := (-100)) C dJ6_getChars_ba4f3_23 (by decide) ?_
        refine v_icmp_gt (tgt := 72) C dJ6_getChars_ba4f3_25 (by decide) (fun c25 => ?_) (fun c25 => absurd c25 (fun z => z (show -nI 100 < -nI w from (sb_nlt (by decide) hw).mpr h100)))
        refine v_aload_n C dJ6_getChars_ba4f3_72 rfl ?_
        refine v_iinc C dJ6_getChars_ba4f3_73 (by decide) rfl ?_
        rw [sx_m1 (by omega)]
        refine v_iload C dJ6_getChars_ba4f3_76 rfl ?_
        refine v_gets C dJ6_getChars_ba4f3_78 wd5_186 (fun _ _ => hp_Zo) ?_
        refine v_iload_n C dJ6_getChars_ba4f3_81 rfl ?_
        refine v_ineg C dJ6_getChars_ba4f3_82 ?_
        rw [Int32.neg_neg]
        refine v_baldN C dJ6_getChars_ba4f3_83 hG1 (by omega) (by decide) ?_
        refine v_bastN C dJ6_getChars_ba4f3_84 (by omega) ha (by omega) (by omega) (fun h84 e84 g84 => ?_)
        refine v_iload_n C dJ6_getChars_ba4f3_85 rfl ?_
        refine v_bipush (v := (-9)) C dJ6_getChars_ba4f3_86 (by decide) ?_
        refine v_icmp_ge (tgt := 104) C dJ6_getChars_ba4f3_88 (by decide) (fun c88 => ?_) (fun c88 => absurd c88 (fun z => z (show -nI 9 ≤ -nI w from (sb_nle (by decide) hw).mpr (by omega))))
        refine v_drop 0 ?_
        rw [show nI (p - 1) = nI lo from congrArg nI (by omega)]
        refine hk _ _ e84 (fun b hb => ((g84 b hb).trans (hO b hb))) (fun j hj => pk_un (by omega)) (fun i hi => ?_) (fun hf => sb_fitU hf ?_)
        · obtain rfl : i = 0 := by omega
          rw [Nat.sub_zero, pk_us, Nat.pow_zero, Nat.div_one, (D3 w h100).1, sx_vb]
        · rw [(D3 w h100).1, sx_vb]; exact sb_fitB _
      · have hd : sb_dg w = 2 := by rw [sb_dg, if_neg h9, if_pos h100]
        refine v_iload_n C dJ6_getChars_ba4f3_22 rfl ?_
        refine v_bipush (v := (-100)) C dJ6_getChars_ba4f3_23 (by decide) ?_
        refine v_icmp_gt (tgt := 72) C dJ6_getChars_ba4f3_25 (by decide) (fun c25 => ?_) (fun c25 => absurd c25 (fun z => z (show -nI 100 < -nI w from (sb_nlt (by decide) hw).mpr h100)))
        refine v_aload_n C dJ6_getChars_ba4f3_72 rfl ?_
        refine v_iinc C dJ6_getChars_ba4f3_73 (by decide) rfl ?_
        rw [sx_m1 (by omega)]
        refine v_iload C dJ6_getChars_ba4f3_76 rfl ?_
        refine v_gets C dJ6_getChars_ba4f3_78 wd5_186 (fun _ _ => hp_Zo) ?_
        refine v_iload_n C dJ6_getChars_ba4f3_81 rfl ?_
        refine v_ineg C dJ6_getChars_ba4f3_82 ?_
        rw [Int32.neg_neg]
        refine v_baldN C dJ6_getChars_ba4f3_83 hG1 (by omega) (by decide) ?_
        refine v_bastN C dJ6_getChars_ba4f3_84 (by omega) ha (by omega) (by omega) (fun h84 e84 g84 => ?_)
        refine v_iload_n C dJ6_getChars_ba4f3_85 rfl ?_
        refine v_bipush (v := (-9)) C dJ6_getChars_ba4f3_86 (by decide) ?_
        refine v_icmp_ge (tgt := 104) C dJ6_getChars_ba4f3_88 (by decide) (fun c88 => absurd c88 (fun z => h9 (by have := (sb_nle (by decide) hw).mp (show -nI 9 ≤ -nI w from z); omega))) (fun c88 => ?_)
        refine v_aload_n C dJ6_getChars_ba4f3_91 rfl ?_
        refine v_iinc C dJ6_getChars_ba4f3_92 (by decide) rfl ?_
        rw [sx_m1 (by omega)]
        refine v_iload C dJ6_getChars_ba4f3_95 rfl ?_
        refine v_gets C dJ6_getChars_ba4f3_97 wd5_188 (fun _ _ => hp_Zt) ?_
        refine v_iload_n C dJ6_getChars_ba4f3_100 rfl ?_
        refine v_ineg C dJ6_getChars_ba4f3_101 ?_
        rw [Int32.neg_neg]
        refine v_baldN C dJ6_getChars_ba4f3_102 ((g84 _ hq2).trans hG2) (by omega) (by decide) ?_
        refine v_bastN C dJ6_getChars_ba4f3_103 (by omega) e84 (by omega) (by omega) (fun h103 e103 g103 => ?_)
        refine v_drop 0 ?_
        have d2 : w / 10 % 10 = w / 10 := by omega
        rw [show nI (p - 1 - 1) = nI lo from congrArg nI (by omega)]
        refine hk _ _ e103 (fun b hb => ((g103 b hb).trans ((g84 b hb).trans (hO b hb)))) (fun j hj => by rw [pk_un (by omega), pk_un (by omega)]) (fun i hi => ?_) (fun hf => sb_fitU (sb_fitU hf ?_) ?_)
        · obtain rfl | rfl : i = 0 ∨ i = 1 := by omega
          · rw [Nat.sub_zero, pk_un (by omega), pk_us, Nat.pow_zero, Nat.div_one, (D3 w h100).1, sx_vb]
          · rw [pk_us, Nat.pow_one, d2, (D3 w h100).2, sx_vb]
        · rw [(D3 w h100).1, sx_vb]; exact sb_fitB _
        · rw [(D3 w h100).2, sx_vb]; exact sb_fitB _
    · have hd := sb_dg100 (w := w) (by omega) hw
      have hd2 := (sb_dg_in (w / 100)).1
      refine v_iload_n C dJ6_getChars_ba4f3_22 rfl ?_
      refine v_bipush (v := (-100)) C dJ6_getChars_ba4f3_23 (by decide) ?_
      refine v_icmp_gt (tgt := 72) C dJ6_getChars_ba4f3_25 (by decide) (fun c25 => absurd c25 (fun z => h100 ((sb_nlt (by decide) hw).mp (show -nI 100 < -nI w from z)))) (fun c25 => ?_)
      refine v_iload_n C dJ6_getChars_ba4f3_28 rfl ?_
      refine v_bipush (v := nI 100) C dJ6_getChars_ba4f3_29 (by decide) ?_
      refine v_idiv C dJ6_getChars_ba4f3_31 (by decide) ?_
      rw [show -nI w / nI 100 = -nI (w / 100) from sb_ndiv hw]
      refine v_istore_n C dJ6_getChars_ba4f3_32 (by decide) ?_
      refine v_iload_n C dJ6_getChars_ba4f3_33 rfl ?_
      refine v_bipush (v := nI 100) C dJ6_getChars_ba4f3_34 (by decide) ?_
      refine v_imul C dJ6_getChars_ba4f3_36 ?_
      refine v_iload_n C dJ6_getChars_ba4f3_37 rfl ?_
      refine v_isub C dJ6_getChars_ba4f3_38 ?_
      rw [show -nI (w / 100) * nI 100 - -nI w = nI (w % 100) from sb_nrem hw]
      refine v_istore C dJ6_getChars_ba4f3_39 (by decide) ?_
      refine v_iload_n C dJ6_getChars_ba4f3_41 rfl ?_
      refine v_istore_n C dJ6_getChars_ba4f3_42 (by decide) ?_
      refine v_aload_n C dJ6_getChars_ba4f3_43 rfl ?_
      refine v_iinc C dJ6_getChars_ba4f3_44 (by decide) rfl ?_
      rw [sx_m1 (by omega)]
      refine v_iload C dJ6_getChars_ba4f3_47 rfl ?_
      refine v_gets C dJ6_getChars_ba4f3_49 wd5_186 (fun _ _ => hp_Zo) ?_
      refine v_iload C dJ6_getChars_ba4f3_52 rfl ?_
      refine v_baldN C dJ6_getChars_ba4f3_54 hG1 (by omega) (by decide) ?_
      refine v_bastN C dJ6_getChars_ba4f3_55 (by omega) ha (by omega) (by omega) (fun h55 e55 g55 => ?_)
      refine v_aload_n C dJ6_getChars_ba4f3_56 rfl ?_
      refine v_iinc C dJ6_getChars_ba4f3_57 (by decide) rfl ?_
      rw [sx_m1 (by omega)]
      refine v_iload C dJ6_getChars_ba4f3_60 rfl ?_
      refine v_gets C dJ6_getChars_ba4f3_62 wd5_188 (fun _ _ => hp_Zt) ?_
      refine v_iload C dJ6_getChars_ba4f3_65 rfl ?_
      refine v_baldN C dJ6_getChars_ba4f3_67 ((g55 _ hq2).trans hG2) (by omega) (by decide) ?_
      refine v_bastN C dJ6_getChars_ba4f3_68 (by omega) e55 (by omega) (by omega) (fun h68 e68 g68 => ?_)
      refine v_goto (tgt := 22) C dJ6_getChars_ba4f3_69 (by decide) ?_
      refine v_drop 3 (v_drop 4 ?_)
      obtain ⟨t1, t2⟩ := D3 (w % 100) (Nat.mod_lt _ (by decide))
      rw [show w % 100 % 10 = w % 10 by omega] at t1
      rw [show w % 100 / 10 = w / 10 % 10 by omega] at t2
      refine ih (w / 100) (p - 1 - 1) _ _ (by omega) (by omega) (by omega) (by omega) e68 (fun b hb => ((g68 b hb).trans ((g55 b hb).trans (hO b hb)))) (fun a' h' z1 z2 h1 h2 h3 => ?_)
      refine hk a' h' z1 z2 (fun j hj => by rw [h1 j (by omega), pk_un (by omega), pk_un (by omega)]) (fun i hi => ?_) (fun hf => h3 (sb_fitU (sb_fitU hf ?_) ?_))
      · match i, hi with
        | 0, _ => rw [Nat.sub_zero, h1 _ (by omega), pk_un (by omega), pk_us, Nat.pow_zero, Nat.div_one, t1, sx_vb]
        | 1, _ => rw [h1 _ (by omega), pk_us, Nat.pow_one, t2, sx_vb]
        | k + 2, hi => rw [show p - 1 - (k + 2) = p - 1 - 1 - 1 - k by omega, h2 k (by omega), Nat.div_div_eq_div_mul, show 100 * 10 ^ k = 10 ^ (k + 2) by rw [show k + 2 = k + 1 + 1 from rfl, Nat.pow_succ, Nat.pow_succ]; omega]
      · rw [t1, sx_vb]; exact sb_fitB _
      · rw [t2, sx_vb]; exact sb_fitB _
set_option maxHeartbeats 4000000 in
theorem c_J6_getChars_ba4f3 {G : hp_G} {l : Launch} (hl : l.stackTraces = false) {n0 : Nat} {h : Nat → Option va_E} {v m n w p : Nat} {a : Nat → Int32} (ha : h v = some (.inl (G.2.2.1 0, m, .inl a))) (hD : Dg G h) (hbv : G.2.1 ≤ v) (hm : m ≤ 65536) (hw : w < 2 ^ 31) (hp : p = n + 0 + sb_dg w) (hpm : p ≤ m) (hf : sb_Fit a) : Ct G l yJ6_getChars_ba4f3 cJ6_getChars_ba4f3 7 (some .int) 0 0 0 [.int (nI w), .int (nI p), .ref v] (n0, h) (hp_iq (fun _ τ => τ.1 = n0 ∧ ∃ a1 : Nat → Int32, τ.2 v = some (.inl (G.2.2.1 0, m, .inl a1)) ∧ (∀ j, j < n → a1 j = a j) ∧ (∀ i, i < sb_dg w + 0 → sx_dec 0 w i < 256 ∧ a1 (n + i) = sb_b (sx_dec 0 w i)) ∧ sb_Fit a1 ∧ ∀ b, b ≠ v → τ.2 b = h b)) := by
  refine Ct.of rfl hl (by simp [Value.category]) (Nat.le_of_ble_eq_true rfl) (fun K C E hRm hKl => ?_)
  subst hKl
  refine v_iload_n C dJ6_getChars_ba4f3_0 rfl ?_
  refine v_istore C dJ6_getChars_ba4f3_1 (by decide) ?_
  refine v_iload_n C dJ6_getChars_ba4f3_3 rfl ?_
  refine v_if_ge (tgt := 11) C dJ6_getChars_ba4f3_4 (by decide) (fun c4 => ?_) (fun c4 => absurd c4 (fun z => z (nI_pos' hw)))
  refine v_iconst (v := nI 0) C dJ6_getChars_ba4f3_11 (by decide) ?_
  refine v_istore C dJ6_getChars_ba4f3_12 (by decide) ?_
  refine v_iload C dJ6_getChars_ba4f3_14 rfl ?_
  refine v_if_ne (tgt := 22) C dJ6_getChars_ba4f3_16 (by decide) (fun c16 => absurd c16 (fun z => z rfl)) (fun c16 => ?_)
  refine v_iload_n C dJ6_getChars_ba4f3_19 rfl ?_
  refine v_ineg C dJ6_getChars_ba4f3_20 ?_
  refine v_istore_n C dJ6_getChars_ba4f3_21 (by decide) ?_
  refine v_drop 1 ?_
  refine loop_J6_getChars_ba4f3 (lo := n + 0) C hD hbv hm (w + 1) w p a _ (by omega) hw hp hpm ha (fun _ _ => rfl) (fun a1 h9 z1 z2 x1 x2 x3 => ?_)
  refine v_iload C dJ6_getChars_ba4f3_104 rfl ?_
  refine v_if_eq (tgt := 118) C dJ6_getChars_ba4f3_106 (by decide) (fun c106 => ?_) (fun c106 => absurd c106 (fun z => z rfl))
  refine v_iload C dJ6_getChars_ba4f3_118 rfl ?_
  refine v_iret C E dJ6_getChars_ba4f3_120 rfl ⟨_, rfl, rfl, _, z1, fun j hj => ?_, fun i hi => ?_, ?_, fun b hb => (z2 b hb)⟩
  · exact x1 j (by omega)
  · have e1 : sx_dec 0 w i = sb_dec w i := rfl
    have h9 := x2 (sb_dg w - 1 - i) (by omega)
    rw [show p - 1 - (sb_dg w - 1 - i) = n + i by omega] at h9
    rw [e1]
    exact ⟨by unfold sb_dec; omega, h9⟩
  · exact x3 hf
set_option maxHeartbeats 4000000 in
theorem c_J6_getChars_ba4f3_m {G : hp_G} {l : Launch} (hl : l.stackTraces = false) {n0 : Nat} {h : Nat → Option va_E} {v m n w p : Nat} {a : Nat → Int32} (ha : h v = some (.inl (G.2.2.1 0, m, .inl a))) (hD : Dg G h) (hbv : G.2.1 ≤ v) (hm : m ≤ 65536) (h1 : 1 ≤ w) (hw : w < 2 ^ 31) (hp : p = n + 1 + sb_dg w) (hpm : p ≤ m) (hf : sb_Fit a) : Ct G l yJ6_getChars_ba4f3 cJ6_getChars_ba4f3 7 (some .int) 0 0 0 [.int (-nI w), .int (nI p), .ref v] (n0, h) (hp_iq (fun _ τ => τ.1 = n0 ∧ ∃ a1 : Nat → Int32, τ.2 v = some (.inl (G.2.2.1 0, m, .inl a1)) ∧ (∀ j, j < n → a1 j = a j) ∧ (∀ i, i < sb_dg w + 1 → sx_dec 1 w i < 256 ∧ a1 (n + i) = sb_b (sx_dec 1 w i)) ∧ sb_Fit a1 ∧ ∀ b, b ≠ v → τ.2 b = h b)) := by
  refine Ct.of rfl hl (by simp [Value.category]) (Nat.le_of_ble_eq_true rfl) (fun K C E hRm hKl => ?_)
  subst hKl
  refine v_iload_n C dJ6_getChars_ba4f3_0 rfl ?_
  refine v_istore C dJ6_getChars_ba4f3_1 (by decide) ?_
  refine v_iload_n C dJ6_getChars_ba4f3_3 rfl ?_
  refine v_if_ge (tgt := 11) C dJ6_getChars_ba4f3_4 (by decide) (fun c4 => absurd c4 (fun z => Int32.not_lt.mpr z (sx_neg h1 hw))) (fun c4 => ?_)
  refine v_iconst (v := nI 1) C dJ6_getChars_ba4f3_7 (by decide) ?_
  refine v_goto (tgt := 12) C dJ6_getChars_ba4f3_8 (by decide) ?_
  refine v_istore C dJ6_getChars_ba4f3_12 (by decide) ?_
  refine v_iload C dJ6_getChars_ba4f3_14 rfl ?_
  refine v_if_ne (tgt := 22) C dJ6_getChars_ba4f3_16 (by decide) (fun c16 => ?_) (fun c16 => absurd c16 (fun z => by cases z))
  refine v_drop 1 ?_
  refine loop_J6_getChars_ba4f3 (lo := n + 1) C hD hbv hm (w + 1) w p a _ (by omega) hw hp hpm ha (fun _ _ => rfl) (fun a1 h9 z1 z2 x1 x2 x3 => ?_)
  refine v_iload C dJ6_getChars_ba4f3_104 rfl ?_
  refine v_if_eq (tgt := 118) C dJ6_getChars_ba4f3_106 (by decide) (fun c106 => absurd c106 (by decide)) (fun c106 => ?_)
  refine v_aload_n C dJ6_getChars_ba4f3_109 rfl ?_
  refine v_iinc C dJ6_getChars_ba4f3_110 (by decide) rfl ?_
  rw [sx_m1 (by omega)]
  refine v_iload C dJ6_getChars_ba4f3_113 rfl ?_
  refine v_bipush (v := nI 45) C dJ6_getChars_ba4f3_115 (by decide) ?_
  refine v_bastN C dJ6_getChars_ba4f3_117 (by omega) z1 (by omega) (by omega) (fun h117 e117 g117 => ?_)
  refine v_iload C dJ6_getChars_ba4f3_118 rfl ?_
  refine v_iret C E dJ6_getChars_ba4f3_120 rfl ⟨_, rfl, rfl, _, e117, fun j hj => ?_, fun i hi => ?_, ?_, fun b hb => ((g117 b hb).trans (z2 b hb))⟩
  · rw [pk_un (by omega)]; exact x1 j (by omega)
  · by_cases z : i = 0
    · subst z
      show _ ∧ upd a1 n (vp_nar .byte (nI 45)) n = _; rw [pk_us]
      have e1 : sx_dec 1 w 0 = 45 := rfl
      rw [e1]; exact ⟨by decide, by decide⟩
    · have e1 : sx_dec 1 w i = sb_dec w (i - 1) := if_neg (by omega)
      have h9 := x2 (sb_dg w - 1 - (i - 1)) (by omega)
      rw [show p - 1 - (sb_dg w - 1 - (i - 1)) = n + i by omega] at h9
      rw [e1, pk_un (by omega)]
      exact ⟨by unfold sb_dec; omega, h9⟩
  · exact sb_fitU (x3 hf) (by decide)
set_option maxHeartbeats 4000000 in
theorem c_J5_append_c97b9 {G : hp_G} {l : Launch} (hl : l.stackTraces = false) {n0 : Nat} {h : Nat → Option va_E} {q v : Nat} {ml : Int32} {t : Nat → Nat} {n m : Nat} (S : Sb G h q v ml t n m) {w : Nat} (hD : Dg G h) (hw : w < 2 ^ 31) (hn : n + sb_dg w ≤ 100) : Ct G l yJ5_append_c97b9 cJ5_append_c97b9 4 (some (.object "java/lang/AbstractStringBuilder")) 4 1 602 [.ref q, .int (nI w)] (n0, h) (hp_aq (fun r τ => r = q ∧ ∃ (v1 : Nat) (ml1 : Int32) (m1 : Nat), Sb G τ.2 q v1 ml1 (sb_cat t n (sx_dec 0 w)) (n + (sb_dg w + 0)) m1 ∧ Sx n0 h q v v1 τ)) := by
  obtain ⟨ho, ⟨a, ha, hL, hf⟩, hnm, hm, hbase, hbv⟩ := S
  have hdg := sb_dg_in w
  refine Ct.of rfl hl (by simp [Value.category]) (Nat.le_of_ble_eq_true rfl) (fun K C E hRm hKl => ?_)
  subst hKl
  refine v_lt ho (fun hqn => ?_)
  refine v_aload_n C dJ5_append_c97b9_0 rfl ?_
  refine v_get (v := .int (nI (n))) C 3 dJ5_append_c97b9_1 wd2_6 ho rfl (by decide) ⟨rfl, rfl, rfl⟩ rfl ?_
  refine v_istore_n C dJ5_append_c97b9_4 (by decide) ?_
  refine v_iload_n C dJ5_append_c97b9_5 rfl ?_
  refine v_iload_n C dJ5_append_c97b9_6 rfl ?_
  refine v_callSi C (c_J6_stringSize_0f7a4 hl hw) dJ5_append_c97b9_7 mJ6_stringSize_0f7a4 wd5_180 rfl rfl (Nat.le_of_ble_eq_true rfl) (hp_rmle hRm (by decide) (by decide)) (Nat.le_of_ble_eq_true rfl) (Nat.le_of_ble_eq_true rfl) ?_
  refine v_iaddN C dJ5_append_c97b9_10 ?_
  refine v_istore_n C dJ5_append_c97b9_11 (by decide) ?_
  refine v_aload_n C dJ5_append_c97b9_12 rfl ?_
  refine v_iload_n C dJ5_append_c97b9_13 rfl ?_
  refine v_callQv C (c_J5_ensureCapacityInternal_d00df hl ho ha hf (k := n + sb_dg w) (by omega) hm hbase) dJ5_append_c97b9_14 mJ5_ensureCapacityInternal_d00df wd5_72 (hp_selP (by decide)) wd8_236 ho wd5_70 rfl rfl (Nat.le_of_ble_eq_true rfl) (hp_rmle hRm (by decide) (by decide)) (Nat.le_of_ble_eq_true rfl) (Nat.le_of_ble_eq_true rfl) (fun n14 h14 q14 => ?_)
  obtain ⟨v1, a1, o1, b1, c1, d1, f1, g1⟩ := q14
  have hvq : v1 ≠ q := fun z => by rw [z, o1] at b1; cases b1
  have hqv := hvq.symm
  have hbv1 : G.2.1 ≤ v1 := by rcases f1 with ⟨rfl, -⟩ | ⟨rfl, -⟩ <;> omega
  have hcg := sb_cap_ge (n + sb_dg w) m
  have hcl : sb_cap (n + sb_dg w) m ≤ 300 := by unfold sb_cap; (repeat' split) <;> omega
  have hn0 : n0 ≤ n14 := by rcases f1 with ⟨-, z⟩ | ⟨-, z⟩ <;> (have z : n14 = _ := z; omega)
  have hv1 : v1 = v ∨ n0 ≤ v1 := f1.imp And.left (fun z => Nat.le_of_eq z.1.symm)
  refine v_aload_n C dJ5_append_c97b9_17 rfl ?_
  refine v_callQi C (c_J5_isLatin1_aae02 hl o1) dJ5_append_c97b9_18 mJ5_isLatin1_aae02 wd5_100 (hp_selW wd5_102) wd5_101 o1 wd5_99 rfl rfl (Nat.le_of_ble_eq_true rfl) (hp_rmle hRm (by decide) (by decide)) (Nat.le_of_ble_eq_true rfl) (Nat.le_of_ble_eq_true rfl) ?_
  refine v_if_eq (tgt := 37) C dJ5_append_c97b9_21 (by decide) (fun c21 => absurd c21 (by decide)) (fun c21 => ?_)
  refine v_iload_n C dJ5_append_c97b9_24 rfl ?_
  refine v_iload_n C dJ5_append_c97b9_25 rfl ?_
  refine v_aload_n C dJ5_append_c97b9_26 rfl ?_
  refine v_get C 0 dJ5_append_c97b9_27 wd2_2 o1 rfl (by decide) ⟨rfl, rfl, rfl⟩ rfl ?_
  refine v_callSq C (c_J6_getChars_ba4f3 hl b1 (hD.same (fun x hx => g1 x (by omega) (by omega))) hbv1 (by omega) hw (n := n) (by omega) hcg d1) dJ5_append_c97b9_30 mJ6_getChars_ba4f3 wd5_183 rfl rfl (Nat.le_of_ble_eq_true rfl) (hp_rmle hRm (by decide) (by decide)) (Nat.le_of_ble_eq_true rfl) (Nat.le_of_ble_eq_true rfl) (fun r30 n30 h30 q30 => ?_)
  obtain ⟨k30, a30, b30, u30, x30, f30, w30⟩ := q30
  have k30 : n30 = n14 := k30
  subst k30
  refine v_pop C dJ5_append_c97b9_33 rfl ?_
  refine v_goto (tgt := 48) C dJ5_append_c97b9_34 (by decide) ?_
  refine v_aload_n C dJ5_append_c97b9_48 rfl ?_
  refine v_iload_n C dJ5_append_c97b9_49 rfl ?_
  refine v_put C 3 dJ5_append_c97b9_50 wd2_6 hbase ((w30 _ hqv).trans o1) rfl (by decide) ⟨rfl, rfl, rfl, rfl⟩ rfl rfl rfl (Nat.le_of_ble_eq_true rfl) (fun h50 e50 g50 => ?_)
  refine v_aload_n C dJ5_append_c97b9_53 rfl ?_
  refine v_aret C E dJ5_append_c97b9_54 rfl (Or.inl ⟨_, rfl⟩) ⟨_, rfl, rfl, v1, ml, sb_cap (n + sb_dg w) m, ⟨e50, ⟨_, (g50 _ hvq).trans b30, sb_latPut hL (fun j hj => ?_) x30, f30⟩, by omega, hcl, hbase, hbv1⟩, hn0, hv1, fun b k1 k2 k3 => (g50 b k1).trans ((w30 b (by omega)).trans (g1 b k1 (by omega)))⟩
  exact (u30 j hj).trans (c1 j (by omega))
set_option maxHeartbeats 4000000 in
theorem c_J4_append_bf812 {G : hp_G} {l : Launch} (hl : l.stackTraces = false) {n0 : Nat} {h : Nat → Option va_E} {q v : Nat} {ml : Int32} {t : Nat → Nat} {n m : Nat} (S : Sb G h q v ml t n m) {w : Nat} (hD : Dg G h) (hw : w < 2 ^ 31) (hn : n + sb_dg w ≤ 100) : Ct G l yJ4_append_bf812 cJ4_append_bf812 2 (some (.object "java/lang/StringBuilder")) 5 1 602 [.ref q, .int (nI w)] (n0, h) (hp_aq (fun r τ => r = q ∧ ∃ (v1 : Nat) (ml1 : Int32) (m1 : Nat), Sb G τ.2 q v1 ml1 (sb_cat t n (sx_dec 0 w)) (n + (sb_dg w + 0)) m1 ∧ Sx n0 h q v v1 τ)) := by
  refine Ct.of rfl hl (by simp [Value.category]) (Nat.le_of_ble_eq_true rfl) (fun K C E hRm hKl => ?_)
  subst hKl
  refine v_aload_n C dJ4_append_bf812_0 rfl ?_
  refine v_iload_n C dJ4_append_bf812_1 rfl ?_
  refine v_callSUa C (c_J5_append_c97b9 hl S hD hw hn) dJ4_append_bf812_2 mJ5_append_c97b9 wd5_178 wd9_1 wd2_15 (by decide) S.1 rfl wd5_177 rfl rfl (Nat.le_of_ble_eq_true rfl) (hp_rmle hRm (by decide) (by decide)) (Nat.le_of_ble_eq_true rfl) (Nat.le_of_ble_eq_true rfl) (fun r2 n2 h2 q2 => ?_)
  refine v_pop C dJ4_append_bf812_5 rfl ?_
  refine v_aload_n C dJ4_append_bf812_6 rfl ?_
  exact v_aret C E dJ4_append_bf812_7 rfl (Or.inl ⟨_, rfl⟩) ⟨_, rfl, rfl, q2.2⟩
set_option maxHeartbeats 4000000 in
theorem c_J5_append_c97b9_m {G : hp_G} {l : Launch} (hl : l.stackTraces = false) {n0 : Nat} {h : Nat → Option va_E} {q v : Nat} {ml : Int32} {t : Nat → Nat} {n m : Nat} (S : Sb G h q v ml t n m) {w : Nat} (hD : Dg G h) (h1 : 1 ≤ w) (hw : w < 2 ^ 31) (hn : n + (sb_dg w + 1) ≤ 100) : Ct G l yJ5_append_c97b9 cJ5_append_c97b9 4 (some (.object "java/lang/AbstractStringBuilder")) 4 1 602 [.ref q, .int (-nI w)] (n0, h) (hp_aq (fun r τ => r = q ∧ ∃ (v1 : Nat) (ml1 : Int32) (m1 : Nat), Sb G τ.2 q v1 ml1 (sb_cat t n (sx_dec 1 w)) (n + (sb_dg w + 1)) m1 ∧ Sx n0 h q v v1 τ)) := by
  obtain ⟨ho, ⟨a, ha, hL, hf⟩, hnm, hm, hbase, hbv⟩ := S
  have hdg := sb_dg_in w
  refine Ct.of rfl hl (by simp [Value.category]) (Nat.le_of_ble_eq_true rfl) (fun K C E hRm hKl => ?_)
  subst hKl
  refine v_lt ho (fun hqn => ?_)
  refine v_aload_n C dJ5_append_c97b9_0 rfl ?_
  refine v_get (v := .int (nI (n))) C 3 dJ5_append_c97b9_1 wd2_6 ho rfl (by decide) ⟨rfl, rfl, rfl⟩ rfl ?_
  refine v_istore_n C dJ5_append_c97b9_4 (by decide) ?_
  refine v_iload_n C dJ5_append_c97b9_5 rfl ?_
  refine v_iload_n C dJ5_append_c97b9_6 rfl ?_
  refine v_callSi C (c_J6_stringSize_0f7a4_m hl h1 hw) dJ5_append_c97b9_7 mJ6_stringSize_0f7a4 wd5_180 rfl rfl (Nat.le_of_ble_eq_true rfl) (hp_rmle hRm (by decide) (by decide)) (Nat.le_of_ble_eq_true rfl) (Nat.le_of_ble_eq_true rfl) ?_
  refine v_iaddN C dJ5_append_c97b9_10 ?_
  refine v_istore_n C dJ5_append_c97b9_11 (by decide) ?_
  refine v_aload_n C dJ5_append_c97b9_12 rfl ?_
  refine v_iload_n C dJ5_append_c97b9_13 rfl ?_
  refine v_callQv C (c_J5_ensureCapacityInternal_d00df hl ho ha hf (k := n + (sb_dg w + 1)) (by omega) hm hbase) dJ5_append_c97b9_14 mJ5_ensureCapacityInternal_d00df wd5_72 (hp_selP (by decide)) wd8_236 ho wd5_70 rfl rfl (Nat.le_of_ble_eq_true rfl) (hp_rmle hRm (by decide) (by decide)) (Nat.le_of_ble_eq_true rfl) (Nat.le_of_ble_eq_true rfl) (fun n14 h14 q14 => ?_)
  obtain ⟨v1, a1, o1, b1, c1, d1, f1, g1⟩ := q14
  have hvq : v1 ≠ q := fun z => by rw [z, o1] at b1; cases b1
  have hqv := hvq.symm
  have hbv1 : G.2.1 ≤ v1 := by rcases f1 with ⟨rfl, -⟩ | ⟨rfl, -⟩ <;> omega
  have hcg := sb_cap_ge (n + (sb_dg w + 1)) m
  have hcl : sb_cap (n + (sb_dg w + 1)) m ≤ 300 := by unfold sb_cap; (repeat' split) <;> omega
  have hn0 : n0 ≤ n14 := by rcases f1 with ⟨-, z⟩ | ⟨-, z⟩ <;> (have z : n14 = _ := z; omega)
  have hv1 : v1 = v ∨ n0 ≤ v1 := f1.imp And.left (fun z => Nat.le_of_eq z.1.symm)
  refine v_aload_n C dJ5_append_c97b9_17 rfl ?_
  refine v_callQi C (c_J5_isLatin1_aae02 hl o1) dJ5_append_c97b9_18 mJ5_isLatin1_aae02 wd5_100 (hp_selW wd5_102) wd5_101 o1 wd5_99 rfl rfl (Nat.le_of_ble_eq_true rfl) (hp_rmle hRm (by decide) (by decide)) (Nat.le_of_ble_eq_true rfl) (Nat.le_of_ble_eq_true rfl) ?_
  refine v_if_eq (tgt := 37) C dJ5_append_c97b9_21 (by decide) (fun c21 => absurd c21 (by decide)) (fun c21 => ?_)
  refine v_iload_n C dJ5_append_c97b9_24 rfl ?_
  refine v_iload_n C dJ5_append_c97b9_25 rfl ?_
  refine v_aload_n C dJ5_append_c97b9_26 rfl ?_
  refine v_get C 0 dJ5_append_c97b9_27 wd2_2 o1 rfl (by decide) ⟨rfl, rfl, rfl⟩ rfl ?_
  refine v_callSq C (c_J6_getChars_ba4f3_m hl b1 (hD.same (fun x hx => g1 x (by omega) (by omega))) hbv1 (by omega) h1 hw (n := n) (by omega) hcg d1) dJ5_append_c97b9_30 mJ6_getChars_ba4f3 wd5_183 rfl rfl (Nat.le_of_ble_eq_true rfl) (hp_rmle hRm (by decide) (by decide)) (Nat.le_of_ble_eq_true rfl) (Nat.le_of_ble_eq_true rfl) (fun r30 n30 h30 q30 => ?_)
  obtain ⟨k30, a30, b30, u30, x30, f30, w30⟩ := q30
  have k30 : n30 = n14 := k30
  subst k30
  refine v_pop C dJ5_append_c97b9_33 rfl ?_
  refine v_goto (tgt := 48) C dJ5_append_c97b9_34 (by decide) ?_
  refine v_aload_n C dJ5_append_c97b9_48 rfl ?_
  refine v_iload_n C dJ5_append_c97b9_49 rfl ?_
  refine v_put C 3 dJ5_append_c97b9_50 wd2_6 hbase ((w30 _ hqv).trans o1) rfl (by decide) ⟨rfl, rfl, rfl, rfl⟩ rfl rfl rfl (Nat.le_of_ble_eq_true rfl) (fun h50 e50 g50 => ?_)
  refine v_aload_n C dJ5_append_c97b9_53 rfl ?_
  refine v_aret C E dJ5_append_c97b9_54 rfl (Or.inl ⟨_, rfl⟩) ⟨_, rfl, rfl, v1, ml, sb_cap (n + (sb_dg w + 1)) m, ⟨e50, ⟨_, (g50 _ hvq).trans b30, sb_latPut hL (fun j hj => ?_) x30, f30⟩, by omega, hcl, hbase, hbv1⟩, hn0, hv1, fun b k1 k2 k3 => (g50 b k1).trans ((w30 b (by omega)).trans (g1 b k1 (by omega)))⟩
  exact (u30 j hj).trans (c1 j (by omega))
set_option maxHeartbeats 4000000 in
theorem c_J4_append_bf812_m {G : hp_G} {l : Launch} (hl : l.stackTraces = false) {n0 : Nat} {h : Nat → Option va_E} {q v : Nat} {ml : Int32} {t : Nat → Nat} {n m : Nat} (S : Sb G h q v ml t n m) {w : Nat} (hD : Dg G h) (h1 : 1 ≤ w) (hw : w < 2 ^ 31) (hn : n + (sb_dg w + 1) ≤ 100) : Ct G l yJ4_append_bf812 cJ4_append_bf812 2 (some (.object "java/lang/StringBuilder")) 5 1 602 [.ref q, .int (-nI w)] (n0, h) (hp_aq (fun r τ => r = q ∧ ∃ (v1 : Nat) (ml1 : Int32) (m1 : Nat), Sb G τ.2 q v1 ml1 (sb_cat t n (sx_dec 1 w)) (n + (sb_dg w + 1)) m1 ∧ Sx n0 h q v v1 τ)) := by
  refine Ct.of rfl hl (by simp [Value.category]) (Nat.le_of_ble_eq_true rfl) (fun K C E hRm hKl => ?_)
  subst hKl
  refine v_aload_n C dJ4_append_bf812_0 rfl ?_
  refine v_iload_n C dJ4_append_bf812_1 rfl ?_
  refine v_callSUa C (c_J5_append_c97b9_m hl S hD h1 hw hn) dJ4_append_bf812_2 mJ5_append_c97b9 wd5_178 wd9_1 wd2_15 (by decide) S.1 rfl wd5_177 rfl rfl (Nat.le_of_ble_eq_true rfl) (hp_rmle hRm (by decide) (by decide)) (Nat.le_of_ble_eq_true rfl) (Nat.le_of_ble_eq_true rfl) (fun r2 n2 h2 q2 => ?_)
  refine v_pop C dJ4_append_bf812_5 rfl ?_
  refine v_aload_n C dJ4_append_bf812_6 rfl ?_
  exact v_aret C E dJ4_append_bf812_7 rfl (Or.inl ⟨_, rfl⟩) ⟨_, rfl, rfl, q2.2⟩
set_option maxHeartbeats 4000000 in
/-- a new builder -/
theorem c_J5_init_d00df {G : hp_G} {l : Launch} (hl : l.stackTraces = false) {h : Nat → Option va_E} {q : Nat} (hbase : G.2.1 ≤ q) (hob : h q = some (.inr (1, [.null, .int 0, .int 0, .int 0]))) : Ct G l yJ5_init_d00df cJ5_init_d00df 2 none 1 1 16 [.ref q, .int (nI 16)] (q + 1, h) (hp_vq (fun τ => τ.1 = q + 2 ∧ Sb G τ.2 q (q + 1) 0 (fun _ => 0) 0 16 ∧ ∀ a, a < q → τ.2 a = h a)) := by
  refine Ct.of rfl hl (by simp [Value.category]) (Nat.le_of_ble_eq_true rfl) (fun K C E hRm hKl => ?_)
  subst hKl
  refine v_aload_n C dJ5_init_d00df_0 rfl ?_
  refine v_objInit C dJ5_init_d00df_1 wd1_232 wd1_38 hp_objcode (Nat.le_of_ble_eq_true rfl) (by rw [hRm]; exact ⟨by decide, by decide⟩) ?_
  refine v_gets C dJ5_init_d00df_4 wd1_233 (fun _ _ => hp_Zc) ?_
  refine v_if_eq (tgt := 25) C dJ5_init_d00df_7 (by decide) (fun c7 => absurd c7 (by decide)) (fun c7 => ?_)
  refine v_aload_n C dJ5_init_d00df_10 rfl ?_
  refine v_iload_n C dJ5_init_d00df_11 rfl ?_
  refine v_newa (atype := .byte) (N := 16) C 0 (.inl (fun _ => 0)) dJ5_init_d00df_12 wd2_16 (by decide) rfl (fun _ => rfl) (by decide) (by decide) (by decide) (Nat.le_of_ble_eq_true rfl) (Nat.le_of_ble_eq_true rfl) (fun h12 e12 g12 => ?_)
  refine v_put C 0 dJ5_init_d00df_14 wd2_2 hbase ((g12 _ (by omega)).trans hob) rfl (by decide) ⟨rfl, rfl, rfl, rfl⟩ rfl rfl rfl (Nat.le_of_ble_eq_true rfl) (fun h14 e14 g14 => ?_)
  refine v_aload_n C dJ5_init_d00df_17 rfl ?_
  refine v_iconst (v := nI 0) C dJ5_init_d00df_18 (by decide) ?_
  refine v_put C 1 dJ5_init_d00df_19 wd2_3 hbase e14 rfl (by decide) ⟨rfl, rfl, rfl, rfl⟩ rfl rfl rfl (Nat.le_of_ble_eq_true rfl) (fun h19 e19 g19 => ?_)
  refine v_goto (tgt := 38) C dJ5_init_d00df_22 (by decide) ?_
  exact v_vret C E dJ5_init_d00df_38 rfl ⟨rfl, rfl, ⟨e19, ⟨_, ((g19 _ (by omega)).trans ((g14 _ (by omega)).trans e12)), fun j hj => absurd hj (Nat.not_lt_zero j), sb_fit0⟩, by decide, by decide, hbase, by omega⟩, fun a ha => ((g19 a (by omega)).trans ((g14 a (by omega)).trans (g12 a (by omega))))⟩
set_option maxHeartbeats 4000000 in
/-- a new builder -/
theorem c_J4_init_da8c8 {G : hp_G} {l : Launch} (hl : l.stackTraces = false) {h : Nat → Option va_E} {q : Nat} (hbase : G.2.1 ≤ q) (hob : h q = some (.inr (1, [.null, .int 0, .int 0, .int 0]))) : Ct G l yJ4_init_da8c8 cJ4_init_da8c8 1 none 2 1 16 [.ref q] (q + 1, h) (hp_vq (fun τ => τ.1 = q + 2 ∧ Sb G τ.2 q (q + 1) 0 (fun _ => 0) 0 16 ∧ ∀ a, a < q → τ.2 a = h a)) := by
  refine Ct.of rfl hl (by simp [Value.category]) (Nat.le_of_ble_eq_true rfl) (fun K C E hRm hKl => ?_)
  subst hKl
  refine v_aload_n C dJ4_init_da8c8_0 rfl ?_
  refine v_bipush (v := nI 16) C dJ4_init_da8c8_1 (by decide) ?_
  refine v_callIv C (c_J5_init_d00df hl hbase hob) dJ4_init_da8c8_3 mJ5_init_d00df rfl wd1_229 rfl rfl (Nat.le_of_ble_eq_true rfl) (hp_rmle hRm (by decide) (by decide)) (Nat.le_of_ble_eq_true rfl) (Nat.le_of_ble_eq_true rfl) (fun n3 h3 q3 => ?_)
  exact v_vret C E dJ4_init_da8c8_6 rfl ⟨rfl, q3⟩

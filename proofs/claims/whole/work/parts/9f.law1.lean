theorem dL_rangeOf_0 : decode cL_rangeOf 0 = .ok (.aload_n 2, 1) := by decide +kernel
theorem dL_rangeOf_1 : decode cL_rangeOf 1 = .ok (.iconst 0, 1) := by decide +kernel
theorem dL_rangeOf_2 : decode cL_rangeOf 2 = .ok (.aload_n 0, 1) := by decide +kernel
theorem dL_rangeOf_3 : decode cL_rangeOf 3 = .ok (.iload_n 1, 1) := by decide +kernel
theorem dL_rangeOf_4 : decode cL_rangeOf 4 = .ok (.invokevirtual 47, 3) := by decide +kernel
theorem dL_rangeOf_7 : decode cL_rangeOf 7 = .ok (.i2l, 1) := by decide +kernel
theorem dL_rangeOf_8 : decode cL_rangeOf 8 = .ok (.lastore, 1) := by decide +kernel
theorem dL_rangeOf_9 : decode cL_rangeOf 9 = .ok (.goto 6, 3) := by decide +kernel
theorem dL_rangeOf_12 : decode cL_rangeOf 12 = .ok (.astore_n 3, 1) := by decide +kernel
theorem dL_rangeOf_13 : decode cL_rangeOf 13 = .ok (.iconst 1, 1) := by decide +kernel
theorem dL_rangeOf_14 : decode cL_rangeOf 14 = .ok (.ireturn, 1) := by decide +kernel
theorem dL_rangeOf_15 : decode cL_rangeOf 15 = .ok (.iconst 0, 1) := by decide +kernel
theorem dL_rangeOf_16 : decode cL_rangeOf 16 = .ok (.ireturn, 1) := by decide +kernel
def hhL_rangeOf : hp_hh := [(0, 9, 12, 25)]
theorem mL_rangeOf : hp_YW yL_rangeOf cL_rangeOf 4 (some .int) hhL_rangeOf 3 := ⟨wd4_94, wd1_0, by decide +kernel, wd4_93⟩
set_option maxHeartbeats 4000000 in
theorem c_L_rangeOf {G : hp_G} {l : Launch} (hl : l.stackTraces = false) {n0 : Nat} {h0 : Nat → Option va_E} {x b : Nat} {f : Nat → Int64} (hb : G.2.1 ≤ b) {fs : List Value} (hx : h0 x = some (.inr (9, fs))) {a1 : Int32} {ans : hp_O} {F : hp_T → Prop} {mc ms : Nat} (hC : Ct G l yX7_rangeOf cX7_rangeOf 2 (some .int) 8 mc ms [.ref x, .int a1] (n0, h0) (fun o τ => o = ans ∧ F τ)) (hF : ∀ τ, F τ → τ.2 b = some (.inl (G.2.2.1 3, 1, .inr (.inl f)))) (hA : (∃ r, ans = rI r) ∨ ans = .inr "java/lang/IndexOutOfBoundsException") : Cw G l yL_rangeOf cL_rangeOf 4 (some .int) hhL_rangeOf 9 mc ms [.ref x, .int a1, .ref b] (n0, h0) (Lw G b f Int32.toInt64 ans ["java/lang/IndexOutOfBoundsException"] F) := by
  refine Cw.of rfl hl (by simp [Value.category]) (Nat.le_of_ble_eq_true rfl) (fun K C E hRm hKl => ?_)
  subst hKl
  refine v_aload_n C dL_rangeOf_0 rfl ?_
  refine v_iconst (v := nI 0) C dL_rangeOf_1 (by decide) ?_
  refine v_aload_n C dL_rangeOf_2 rfl ?_
  refine v_iload_n C dL_rangeOf_3 rfl ?_
  refine v_callVx C (rest := [.int (nI 0), .ref b]) hC dL_rangeOf_4 mX7_rangeOf rfl hx rfl wd4_95 rfl rfl (Nat.le_of_ble_eq_true rfl) (hp_rmle hRm (by decide) (by decide)) (Nat.le_refl _) (Nat.le_refl _) (fun EE τ hp => ?_) (fun v τ hp => ?_)
  · obtain ⟨e, hF0⟩ := hp
    rcases hA with ⟨r, hr⟩ | hr
    · rw [hr] at e
      cases e
    · rw [hr] at e
      cases e
      refine w_catch C E [] (⟨0, 9, 12, 25⟩ : ExceptionTableEntry) [] rfl (fun z hz => absurd hz List.not_mem_nil) rfl (Nat.ne_of_beq_eq_false rfl) wd4_21 wd2_125 (fun q => ?_)
      refine v_astore_n C dL_rangeOf_12 (by decide) ?_
      refine v_iconst (v := nI 1) C dL_rangeOf_13 (by decide) ?_
      exact w_iret C E dL_rangeOf_14 rfl (Or.inr ⟨0, _, rfl, hr, hF0, rfl⟩)
  · obtain ⟨e, hF0⟩ := hp
    rcases hA with ⟨r, hr⟩ | hr
    · rw [hr] at e
      cases e
      obtain ⟨n1, h1⟩ := τ
      show V G K _ _ _ (n1, h1) 7 _ [.int r, .int (nI 0), .ref b]
      refine v_i2l C dL_rangeOf_7 ?_
      refine v_last C dL_rangeOf_8 hb (hF (n1, h1) hF0) (vp_in_nI (n := 0) (N := 1) (by decide) (by decide)) (fun h2 e2 k2 => ?_)
      refine v_goto (tgt := 15) C dL_rangeOf_9 (by decide) ?_
      refine v_iconst (v := nI 0) C dL_rangeOf_15 (by decide) ?_
      exact w_iret C E dL_rangeOf_16 rfl (Or.inl ⟨r, (n1, h1), hr, rfl, hF0, rfl, e2, k2⟩)
    · rw [hr] at e
      cases e
theorem dL_moneyOf_0 : decode cL_moneyOf 0 = .ok (.aload_n 2, 1) := by decide +kernel
theorem dL_moneyOf_1 : decode cL_moneyOf 1 = .ok (.iconst 0, 1) := by decide +kernel
theorem dL_moneyOf_2 : decode cL_moneyOf 2 = .ok (.aload_n 0, 1) := by decide +kernel
theorem dL_moneyOf_3 : decode cL_moneyOf 3 = .ok (.iload_n 1, 1) := by decide +kernel
theorem dL_moneyOf_4 : decode cL_moneyOf 4 = .ok (.invokevirtual 50, 3) := by decide +kernel
theorem dL_moneyOf_7 : decode cL_moneyOf 7 = .ok (.i2l, 1) := by decide +kernel
theorem dL_moneyOf_8 : decode cL_moneyOf 8 = .ok (.lastore, 1) := by decide +kernel
theorem dL_moneyOf_9 : decode cL_moneyOf 9 = .ok (.goto 6, 3) := by decide +kernel
theorem dL_moneyOf_12 : decode cL_moneyOf 12 = .ok (.astore_n 3, 1) := by decide +kernel
theorem dL_moneyOf_13 : decode cL_moneyOf 13 = .ok (.iconst 1, 1) := by decide +kernel
theorem dL_moneyOf_14 : decode cL_moneyOf 14 = .ok (.ireturn, 1) := by decide +kernel
theorem dL_moneyOf_15 : decode cL_moneyOf 15 = .ok (.iconst 0, 1) := by decide +kernel
theorem dL_moneyOf_16 : decode cL_moneyOf 16 = .ok (.ireturn, 1) := by decide +kernel
def hhL_moneyOf : hp_hh := [(0, 9, 12, 25)]
theorem mL_moneyOf : hp_YW yL_moneyOf cL_moneyOf 4 (some .int) hhL_moneyOf 3 := ⟨wd4_101, wd1_0, by decide +kernel, wd4_100⟩
set_option maxHeartbeats 4000000 in
theorem c_L_moneyOf {G : hp_G} {l : Launch} (hl : l.stackTraces = false) {n0 : Nat} {h0 : Nat → Option va_E} {x b : Nat} {f : Nat → Int64} (hb : G.2.1 ≤ b) {fs : List Value} (hx : h0 x = some (.inr (9, fs))) {a1 : Int32} {ans : hp_O} {F : hp_T → Prop} {mc ms : Nat} (hC : Ct G l yX7_moneyOf cX7_moneyOf 2 (some .int) 8 mc ms [.ref x, .int a1] (n0, h0) (fun o τ => o = ans ∧ F τ)) (hF : ∀ τ, F τ → τ.2 b = some (.inl (G.2.2.1 3, 1, .inr (.inl f)))) (hA : (∃ r, ans = rI r) ∨ ans = .inr "java/lang/IndexOutOfBoundsException") : Cw G l yL_moneyOf cL_moneyOf 4 (some .int) hhL_moneyOf 9 mc ms [.ref x, .int a1, .ref b] (n0, h0) (Lw G b f Int32.toInt64 ans ["java/lang/IndexOutOfBoundsException"] F) := by
  refine Cw.of rfl hl (by simp [Value.category]) (Nat.le_of_ble_eq_true rfl) (fun K C E hRm hKl => ?_)
  subst hKl
  refine v_aload_n C dL_moneyOf_0 rfl ?_
  refine v_iconst (v := nI 0) C dL_moneyOf_1 (by decide) ?_
  refine v_aload_n C dL_moneyOf_2 rfl ?_
  refine v_iload_n C dL_moneyOf_3 rfl ?_
  refine v_callVx C (rest := [.int (nI 0), .ref b]) hC dL_moneyOf_4 mX7_moneyOf rfl hx rfl wd4_102 rfl rfl (Nat.le_of_ble_eq_true rfl) (hp_rmle hRm (by decide) (by decide)) (Nat.le_refl _) (Nat.le_refl _) (fun EE τ hp => ?_) (fun v τ hp => ?_)
  · obtain ⟨e, hF0⟩ := hp
    rcases hA with ⟨r, hr⟩ | hr
    · rw [hr] at e
      cases e
    · rw [hr] at e
      cases e
      refine w_catch C E [] (⟨0, 9, 12, 25⟩ : ExceptionTableEntry) [] rfl (fun z hz => absurd hz List.not_mem_nil) rfl (Nat.ne_of_beq_eq_false rfl) wd4_21 wd2_125 (fun q => ?_)
      refine v_astore_n C dL_moneyOf_12 (by decide) ?_
      refine v_iconst (v := nI 1) C dL_moneyOf_13 (by decide) ?_
      exact w_iret C E dL_moneyOf_14 rfl (Or.inr ⟨0, _, rfl, hr, hF0, rfl⟩)
  · obtain ⟨e, hF0⟩ := hp
    rcases hA with ⟨r, hr⟩ | hr
    · rw [hr] at e
      cases e
      obtain ⟨n1, h1⟩ := τ
      show V G K _ _ _ (n1, h1) 7 _ [.int r, .int (nI 0), .ref b]
      refine v_i2l C dL_moneyOf_7 ?_
      refine v_last C dL_moneyOf_8 hb (hF (n1, h1) hF0) (vp_in_nI (n := 0) (N := 1) (by decide) (by decide)) (fun h2 e2 k2 => ?_)
      refine v_goto (tgt := 15) C dL_moneyOf_9 (by decide) ?_
      refine v_iconst (v := nI 0) C dL_moneyOf_15 (by decide) ?_
      exact w_iret C E dL_moneyOf_16 rfl (Or.inl ⟨r, (n1, h1), hr, rfl, hF0, rfl, e2, k2⟩)
    · rw [hr] at e
      cases e
theorem dL_isCalled_0 : decode cL_isCalled 0 = .ok (.aload_n 2, 1) := by decide +kernel
theorem dL_isCalled_1 : decode cL_isCalled 1 = .ok (.iconst 0, 1) := by decide +kernel
theorem dL_isCalled_2 : decode cL_isCalled 2 = .ok (.aload_n 0, 1) := by decide +kernel
theorem dL_isCalled_3 : decode cL_isCalled 3 = .ok (.iload_n 1, 1) := by decide +kernel
theorem dL_isCalled_4 : decode cL_isCalled 4 = .ok (.invokevirtual 53, 3) := by decide +kernel
theorem dL_isCalled_7 : decode cL_isCalled 7 = .ok (.ifCond .eq 7, 3) := by decide +kernel
theorem dL_isCalled_10 : decode cL_isCalled 10 = .ok (.lconst 1, 1) := by decide +kernel
theorem dL_isCalled_11 : decode cL_isCalled 11 = .ok (.goto 4, 3) := by decide +kernel
theorem dL_isCalled_14 : decode cL_isCalled 14 = .ok (.lconst 0, 1) := by decide +kernel
theorem dL_isCalled_15 : decode cL_isCalled 15 = .ok (.lastore, 1) := by decide +kernel
theorem dL_isCalled_16 : decode cL_isCalled 16 = .ok (.goto 6, 3) := by decide +kernel
theorem dL_isCalled_19 : decode cL_isCalled 19 = .ok (.astore_n 3, 1) := by decide +kernel
theorem dL_isCalled_20 : decode cL_isCalled 20 = .ok (.iconst 1, 1) := by decide +kernel
theorem dL_isCalled_21 : decode cL_isCalled 21 = .ok (.ireturn, 1) := by decide +kernel
theorem dL_isCalled_22 : decode cL_isCalled 22 = .ok (.iconst 0, 1) := by decide +kernel
theorem dL_isCalled_23 : decode cL_isCalled 23 = .ok (.ireturn, 1) := by decide +kernel
def hhL_isCalled : hp_hh := [(0, 16, 19, 25)]
theorem mL_isCalled : hp_YW yL_isCalled cL_isCalled 4 (some .int) hhL_isCalled 3 := ⟨wd4_108, wd1_0, by decide +kernel, wd4_107⟩
set_option maxHeartbeats 4000000 in
theorem c_L_isCalled {G : hp_G} {l : Launch} (hl : l.stackTraces = false) {n0 : Nat} {h0 : Nat → Option va_E} {x b : Nat} {f : Nat → Int64} (hb : G.2.1 ≤ b) {fs : List Value} (hx : h0 x = some (.inr (9, fs))) {a1 : Int32} {ans : hp_O} {F : hp_T → Prop} {mc ms : Nat} (hC : Ct G l yX7_isCalled cX7_isCalled 2 (some .boolean) 8 mc ms [.ref x, .int a1] (n0, h0) (fun o τ => o = ans ∧ F τ)) (hF : ∀ τ, F τ → τ.2 b = some (.inl (G.2.2.1 3, 1, .inr (.inl f)))) (hA : (∃ r, ans = rI r) ∨ ans = .inr "java/lang/IndexOutOfBoundsException") : Cw G l yL_isCalled cL_isCalled 4 (some .int) hhL_isCalled 9 mc ms [.ref x, .int a1, .ref b] (n0, h0) (Lw G b f lw_zb ans ["java/lang/IndexOutOfBoundsException"] F) := by
  refine Cw.of rfl hl (by simp [Value.category]) (Nat.le_of_ble_eq_true rfl) (fun K C E hRm hKl => ?_)
  subst hKl
  refine v_aload_n C dL_isCalled_0 rfl ?_
  refine v_iconst (v := nI 0) C dL_isCalled_1 (by decide) ?_
  refine v_aload_n C dL_isCalled_2 rfl ?_
  refine v_iload_n C dL_isCalled_3 rfl ?_
  refine v_callVx C (rest := [.int (nI 0), .ref b]) hC dL_isCalled_4 mX7_isCalled rfl hx rfl wd4_109 rfl rfl (Nat.le_of_ble_eq_true rfl) (hp_rmle hRm (by decide) (by decide)) (Nat.le_refl _) (Nat.le_refl _) (fun EE τ hp => ?_) (fun v τ hp => ?_)
  · obtain ⟨e, hF0⟩ := hp
    rcases hA with ⟨r, hr⟩ | hr
    · rw [hr] at e
      cases e
    · rw [hr] at e
      cases e
      refine w_catch C E [] (⟨0, 16, 19, 25⟩ : ExceptionTableEntry) [] rfl (fun z hz => absurd hz List.not_mem_nil) rfl (Nat.ne_of_beq_eq_false rfl) wd4_21 wd2_125 (fun q => ?_)
      refine v_astore_n C dL_isCalled_19 (by decide) ?_
      refine v_iconst (v := nI 1) C dL_isCalled_20 (by decide) ?_
      exact w_iret C E dL_isCalled_21 rfl (Or.inr ⟨0, _, rfl, hr, hF0, rfl⟩)
  · obtain ⟨e, hF0⟩ := hp
    rcases hA with ⟨r, hr⟩ | hr
    · rw [hr] at e
      cases e
      obtain ⟨n1, h1⟩ := τ
      show V G K _ _ _ (n1, h1) 7 _ [.int r, .int (nI 0), .ref b]
      refine v_if_eq (tgt := 14) C dL_isCalled_7 (by decide) (fun z => ?_) (fun z => ?_)
      · have eg : lw_zb r = 0 := if_pos z
        refine v_lconst (v := 0) C dL_isCalled_14 rfl ?_
        refine v_last C dL_isCalled_15 hb (hF (n1, h1) hF0) (vp_in_nI (n := 0) (N := 1) (by decide) (by decide)) (fun h2 e2 k2 => ?_)
        refine v_goto (tgt := 22) C dL_isCalled_16 (by decide) ?_
        refine v_iconst (v := nI 0) C dL_isCalled_22 (by decide) ?_
        exact w_iret C E dL_isCalled_23 rfl (Or.inl ⟨r, (n1, h1), hr, rfl, hF0, rfl, (by rw [eg]; exact e2), k2⟩)
      · have eg : lw_zb r = 1 := if_neg z
        refine v_lconst (v := 1) C dL_isCalled_10 rfl ?_
        refine v_goto (tgt := 15) C dL_isCalled_11 (by decide) ?_
        refine v_last C dL_isCalled_15 hb (hF (n1, h1) hF0) (vp_in_nI (n := 0) (N := 1) (by decide) (by decide)) (fun h2 e2 k2 => ?_)
        refine v_goto (tgt := 22) C dL_isCalled_16 (by decide) ?_
        refine v_iconst (v := nI 0) C dL_isCalled_22 (by decide) ?_
        exact w_iret C E dL_isCalled_23 rfl (Or.inl ⟨r, (n1, h1), hr, rfl, hF0, rfl, (by rw [eg]; exact e2), k2⟩)
    · rw [hr] at e
      cases e
theorem dL_hasDefaulted_0 : decode cL_hasDefaulted 0 = .ok (.aload_n 2, 1) := by decide +kernel
theorem dL_hasDefaulted_1 : decode cL_hasDefaulted 1 = .ok (.iconst 0, 1) := by decide +kernel
theorem dL_hasDefaulted_2 : decode cL_hasDefaulted 2 = .ok (.aload_n 0, 1) := by decide +kernel
theorem dL_hasDefaulted_3 : decode cL_hasDefaulted 3 = .ok (.iload_n 1, 1) := by decide +kernel
theorem dL_hasDefaulted_4 : decode cL_hasDefaulted 4 = .ok (.invokevirtual 57, 3) := by decide +kernel
theorem dL_hasDefaulted_7 : decode cL_hasDefaulted 7 = .ok (.ifCond .eq 7, 3) := by decide +kernel
theorem dL_hasDefaulted_10 : decode cL_hasDefaulted 10 = .ok (.lconst 1, 1) := by decide +kernel
theorem dL_hasDefaulted_11 : decode cL_hasDefaulted 11 = .ok (.goto 4, 3) := by decide +kernel
theorem dL_hasDefaulted_14 : decode cL_hasDefaulted 14 = .ok (.lconst 0, 1) := by decide +kernel
theorem dL_hasDefaulted_15 : decode cL_hasDefaulted 15 = .ok (.lastore, 1) := by decide +kernel
theorem dL_hasDefaulted_16 : decode cL_hasDefaulted 16 = .ok (.goto 6, 3) := by decide +kernel
theorem dL_hasDefaulted_19 : decode cL_hasDefaulted 19 = .ok (.astore_n 3, 1) := by decide +kernel
theorem dL_hasDefaulted_20 : decode cL_hasDefaulted 20 = .ok (.iconst 1, 1) := by decide +kernel
theorem dL_hasDefaulted_21 : decode cL_hasDefaulted 21 = .ok (.ireturn, 1) := by decide +kernel
theorem dL_hasDefaulted_22 : decode cL_hasDefaulted 22 = .ok (.iconst 0, 1) := by decide +kernel
theorem dL_hasDefaulted_23 : decode cL_hasDefaulted 23 = .ok (.ireturn, 1) := by decide +kernel
def hhL_hasDefaulted : hp_hh := [(0, 16, 19, 25)]
theorem mL_hasDefaulted : hp_YW yL_hasDefaulted cL_hasDefaulted 4 (some .int) hhL_hasDefaulted 3 := ⟨wd4_115, wd1_0, by decide +kernel, wd4_114⟩
set_option maxHeartbeats 4000000 in
theorem c_L_hasDefaulted {G : hp_G} {l : Launch} (hl : l.stackTraces = false) {n0 : Nat} {h0 : Nat → Option va_E} {x b : Nat} {f : Nat → Int64} (hb : G.2.1 ≤ b) {fs : List Value} (hx : h0 x = some (.inr (9, fs))) {a1 : Int32} {ans : hp_O} {F : hp_T → Prop} {mc ms : Nat} (hC : Ct G l yX7_hasDefaulted cX7_hasDefaulted 2 (some .boolean) 8 mc ms [.ref x, .int a1] (n0, h0) (fun o τ => o = ans ∧ F τ)) (hF : ∀ τ, F τ → τ.2 b = some (.inl (G.2.2.1 3, 1, .inr (.inl f)))) (hA : (∃ r, ans = rI r) ∨ ans = .inr "java/lang/IndexOutOfBoundsException") : Cw G l yL_hasDefaulted cL_hasDefaulted 4 (some .int) hhL_hasDefaulted 9 mc ms [.ref x, .int a1, .ref b] (n0, h0) (Lw G b f lw_zb ans ["java/lang/IndexOutOfBoundsException"] F) := by
  refine Cw.of rfl hl (by simp [Value.category]) (Nat.le_of_ble_eq_true rfl) (fun K C E hRm hKl => ?_)
  subst hKl
  refine v_aload_n C dL_hasDefaulted_0 rfl ?_
  refine v_iconst (v := nI 0) C dL_hasDefaulted_1 (by decide) ?_
  refine v_aload_n C dL_hasDefaulted_2 rfl ?_
  refine v_iload_n C dL_hasDefaulted_3 rfl ?_
  refine v_callVx C (rest := [.int (nI 0), .ref b]) hC dL_hasDefaulted_4 mX7_hasDefaulted rfl hx rfl wd4_116 rfl rfl (Nat.le_of_ble_eq_true rfl) (hp_rmle hRm (by decide) (by decide)) (Nat.le_refl _) (Nat.le_refl _) (fun EE τ hp => ?_) (fun v τ hp => ?_)
  · obtain ⟨e, hF0⟩ := hp
    rcases hA with ⟨r, hr⟩ | hr
    · rw [hr] at e
      cases e
    · rw [hr] at e
      cases e
      refine w_catch C E [] (⟨0, 16, 19, 25⟩ : ExceptionTableEntry) [] rfl (fun z hz => absurd hz List.not_mem_nil) rfl (Nat.ne_of_beq_eq_false rfl) wd4_21 wd2_125 (fun q => ?_)
      refine v_astore_n C dL_hasDefaulted_19 (by decide) ?_
      refine v_iconst (v := nI 1) C dL_hasDefaulted_20 (by decide) ?_
      exact w_iret C E dL_hasDefaulted_21 rfl (Or.inr ⟨0, _, rfl, hr, hF0, rfl⟩)
  · obtain ⟨e, hF0⟩ := hp
    rcases hA with ⟨r, hr⟩ | hr
    · rw [hr] at e
      cases e
      obtain ⟨n1, h1⟩ := τ
      show V G K _ _ _ (n1, h1) 7 _ [.int r, .int (nI 0), .ref b]
      refine v_if_eq (tgt := 14) C dL_hasDefaulted_7 (by decide) (fun z => ?_) (fun z => ?_)
      · have eg : lw_zb r = 0 := if_pos z
        refine v_lconst (v := 0) C dL_hasDefaulted_14 rfl ?_
        refine v_last C dL_hasDefaulted_15 hb (hF (n1, h1) hF0) (vp_in_nI (n := 0) (N := 1) (by decide) (by decide)) (fun h2 e2 k2 => ?_)
        refine v_goto (tgt := 22) C dL_hasDefaulted_16 (by decide) ?_
        refine v_iconst (v := nI 0) C dL_hasDefaulted_22 (by decide) ?_
        exact w_iret C E dL_hasDefaulted_23 rfl (Or.inl ⟨r, (n1, h1), hr, rfl, hF0, rfl, (by rw [eg]; exact e2), k2⟩)
      · have eg : lw_zb r = 1 := if_neg z
        refine v_lconst (v := 1) C dL_hasDefaulted_10 rfl ?_
        refine v_goto (tgt := 15) C dL_hasDefaulted_11 (by decide) ?_
        refine v_last C dL_hasDefaulted_15 hb (hF (n1, h1) hF0) (vp_in_nI (n := 0) (N := 1) (by decide) (by decide)) (fun h2 e2 k2 => ?_)
        refine v_goto (tgt := 22) C dL_hasDefaulted_16 (by decide) ?_
        refine v_iconst (v := nI 0) C dL_hasDefaulted_22 (by decide) ?_
        exact w_iret C E dL_hasDefaulted_23 rfl (Or.inl ⟨r, (n1, h1), hr, rfl, hF0, rfl, (by rw [eg]; exact e2), k2⟩)
    · rw [hr] at e
      cases e
theorem dL_positionOf_0 : decode cL_positionOf 0 = .ok (.aload_n 3, 1) := by decide +kernel
theorem dL_positionOf_1 : decode cL_positionOf 1 = .ok (.iconst 0, 1) := by decide +kernel
theorem dL_positionOf_2 : decode cL_positionOf 2 = .ok (.aload_n 0, 1) := by decide +kernel
theorem dL_positionOf_3 : decode cL_positionOf 3 = .ok (.iload_n 1, 1) := by decide +kernel
theorem dL_positionOf_4 : decode cL_positionOf 4 = .ok (.iload_n 2, 1) := by decide +kernel
theorem dL_positionOf_5 : decode cL_positionOf 5 = .ok (.invokevirtual 60, 3) := by decide +kernel
theorem dL_positionOf_8 : decode cL_positionOf 8 = .ok (.i2l, 1) := by decide +kernel
theorem dL_positionOf_9 : decode cL_positionOf 9 = .ok (.lastore, 1) := by decide +kernel
theorem dL_positionOf_10 : decode cL_positionOf 10 = .ok (.goto 7, 3) := by decide +kernel
theorem dL_positionOf_13 : decode cL_positionOf 13 = .ok (.astore 4, 2) := by decide +kernel
theorem dL_positionOf_15 : decode cL_positionOf 15 = .ok (.iconst 1, 1) := by decide +kernel
theorem dL_positionOf_16 : decode cL_positionOf 16 = .ok (.ireturn, 1) := by decide +kernel
theorem dL_positionOf_17 : decode cL_positionOf 17 = .ok (.iconst 0, 1) := by decide +kernel
theorem dL_positionOf_18 : decode cL_positionOf 18 = .ok (.ireturn, 1) := by decide +kernel
def hhL_positionOf : hp_hh := [(0, 10, 13, 25)]
theorem mL_positionOf : hp_YW yL_positionOf cL_positionOf 5 (some .int) hhL_positionOf 4 := ⟨wd4_122, wd1_0, by decide +kernel, wd4_121⟩
set_option maxHeartbeats 4000000 in
theorem c_L_positionOf {G : hp_G} {l : Launch} (hl : l.stackTraces = false) {n0 : Nat} {h0 : Nat → Option va_E} {x b : Nat} {f : Nat → Int64} (hb : G.2.1 ≤ b) {fs : List Value} (hx : h0 x = some (.inr (9, fs))) {a1 a2 : Int32} {ans : hp_O} {F : hp_T → Prop} {mc ms : Nat} (hC : Ct G l yX7_positionOf cX7_positionOf 3 (some .int) 8 mc ms [.ref x, .int a1, .int a2] (n0, h0) (fun o τ => o = ans ∧ F τ)) (hF : ∀ τ, F τ → τ.2 b = some (.inl (G.2.2.1 3, 1, .inr (.inl f)))) (hA : (∃ r, ans = rI r) ∨ ans = .inr "java/lang/IndexOutOfBoundsException") : Cw G l yL_positionOf cL_positionOf 5 (some .int) hhL_positionOf 9 mc ms [.ref x, .int a1, .int a2, .ref b] (n0, h0) (Lw G b f Int32.toInt64 ans ["java/lang/IndexOutOfBoundsException"] F) := by
  refine Cw.of rfl hl (by simp [Value.category]) (Nat.le_of_ble_eq_true rfl) (fun K C E hRm hKl => ?_)
  subst hKl
  refine v_aload_n C dL_positionOf_0 rfl ?_
  refine v_iconst (v := nI 0) C dL_positionOf_1 (by decide) ?_
  refine v_aload_n C dL_positionOf_2 rfl ?_
  refine v_iload_n C dL_positionOf_3 rfl ?_
  refine v_iload_n C dL_positionOf_4 rfl ?_
  refine v_callVx C (rest := [.int (nI 0), .ref b]) hC dL_positionOf_5 mX7_positionOf rfl hx rfl wd4_123 rfl rfl (Nat.le_of_ble_eq_true rfl) (hp_rmle hRm (by decide) (by decide)) (Nat.le_refl _) (Nat.le_refl _) (fun EE τ hp => ?_) (fun v τ hp => ?_)
  · obtain ⟨e, hF0⟩ := hp
    rcases hA with ⟨r, hr⟩ | hr
    · rw [hr] at e
      cases e
    · rw [hr] at e
      cases e
      refine w_catch C E [] (⟨0, 10, 13, 25⟩ : ExceptionTableEntry) [] rfl (fun z hz => absurd hz List.not_mem_nil) rfl (Nat.ne_of_beq_eq_false rfl) wd4_21 wd2_125 (fun q => ?_)
      refine v_astore C dL_positionOf_13 (by decide) ?_
      refine v_iconst (v := nI 1) C dL_positionOf_15 (by decide) ?_
      exact w_iret C E dL_positionOf_16 rfl (Or.inr ⟨0, _, rfl, hr, hF0, rfl⟩)
  · obtain ⟨e, hF0⟩ := hp
    rcases hA with ⟨r, hr⟩ | hr
    · rw [hr] at e
      cases e
      obtain ⟨n1, h1⟩ := τ
      show V G K _ _ _ (n1, h1) 8 _ [.int r, .int (nI 0), .ref b]
      refine v_i2l C dL_positionOf_8 ?_
      refine v_last C dL_positionOf_9 hb (hF (n1, h1) hF0) (vp_in_nI (n := 0) (N := 1) (by decide) (by decide)) (fun h2 e2 k2 => ?_)
      refine v_goto (tgt := 17) C dL_positionOf_10 (by decide) ?_
      refine v_iconst (v := nI 0) C dL_positionOf_17 (by decide) ?_
      exact w_iret C E dL_positionOf_18 rfl (Or.inl ⟨r, (n1, h1), hr, rfl, hF0, rfl, e2, k2⟩)
    · rw [hr] at e
      cases e
theorem dL_openQuantity_0 : decode cL_openQuantity 0 = .ok (.aload_n 2, 1) := by decide +kernel
theorem dL_openQuantity_1 : decode cL_openQuantity 1 = .ok (.iconst 0, 1) := by decide +kernel
theorem dL_openQuantity_2 : decode cL_openQuantity 2 = .ok (.aload_n 0, 1) := by decide +kernel
theorem dL_openQuantity_3 : decode cL_openQuantity 3 = .ok (.iload_n 1, 1) := by decide +kernel
theorem dL_openQuantity_4 : decode cL_openQuantity 4 = .ok (.invokevirtual 63, 3) := by decide +kernel
theorem dL_openQuantity_7 : decode cL_openQuantity 7 = .ok (.i2l, 1) := by decide +kernel
theorem dL_openQuantity_8 : decode cL_openQuantity 8 = .ok (.lastore, 1) := by decide +kernel
theorem dL_openQuantity_9 : decode cL_openQuantity 9 = .ok (.goto 6, 3) := by decide +kernel
theorem dL_openQuantity_12 : decode cL_openQuantity 12 = .ok (.astore_n 3, 1) := by decide +kernel
theorem dL_openQuantity_13 : decode cL_openQuantity 13 = .ok (.iconst 1, 1) := by decide +kernel
theorem dL_openQuantity_14 : decode cL_openQuantity 14 = .ok (.ireturn, 1) := by decide +kernel
theorem dL_openQuantity_15 : decode cL_openQuantity 15 = .ok (.iconst 0, 1) := by decide +kernel
theorem dL_openQuantity_16 : decode cL_openQuantity 16 = .ok (.ireturn, 1) := by decide +kernel
def hhL_openQuantity : hp_hh := [(0, 9, 12, 25)]
theorem mL_openQuantity : hp_YW yL_openQuantity cL_openQuantity 4 (some .int) hhL_openQuantity 3 := ⟨wd4_130, wd1_0, by decide +kernel, wd4_129⟩
set_option maxHeartbeats 4000000 in
theorem c_L_openQuantity {G : hp_G} {l : Launch} (hl : l.stackTraces = false) {n0 : Nat} {h0 : Nat → Option va_E} {x b : Nat} {f : Nat → Int64} (hb : G.2.1 ≤ b) {fs : List Value} (hx : h0 x = some (.inr (9, fs))) {a1 : Int32} {ans : hp_O} {F : hp_T → Prop} {mc ms : Nat} (hC : Ct G l yX7_openQuantity cX7_openQuantity 2 (some .int) 8 mc ms [.ref x, .int a1] (n0, h0) (fun o τ => o = ans ∧ F τ)) (hF : ∀ τ, F τ → τ.2 b = some (.inl (G.2.2.1 3, 1, .inr (.inl f)))) (hA : (∃ r, ans = rI r) ∨ ans = .inr "java/lang/IndexOutOfBoundsException") : Cw G l yL_openQuantity cL_openQuantity 4 (some .int) hhL_openQuantity 9 mc ms [.ref x, .int a1, .ref b] (n0, h0) (Lw G b f Int32.toInt64 ans ["java/lang/IndexOutOfBoundsException"] F) := by
  refine Cw.of rfl hl (by simp [Value.category]) (Nat.le_of_ble_eq_true rfl) (fun K C E hRm hKl => ?_)
  subst hKl
  refine v_aload_n C dL_openQuantity_0 rfl ?_
  refine v_iconst (v := nI 0) C dL_openQuantity_1 (by decide) ?_
  refine v_aload_n C dL_openQuantity_2 rfl ?_
  refine v_iload_n C dL_openQuantity_3 rfl ?_
  refine v_callVx C (rest := [.int (nI 0), .ref b]) hC dL_openQuantity_4 mX7_openQuantity rfl hx rfl wd4_131 rfl rfl (Nat.le_of_ble_eq_true rfl) (hp_rmle hRm (by decide) (by decide)) (Nat.le_refl _) (Nat.le_refl _) (fun EE τ hp => ?_) (fun v τ hp => ?_)
  · obtain ⟨e, hF0⟩ := hp
    rcases hA with ⟨r, hr⟩ | hr
    · rw [hr] at e
      cases e
    · rw [hr] at e
      cases e
      refine w_catch C E [] (⟨0, 9, 12, 25⟩ : ExceptionTableEntry) [] rfl (fun z hz => absurd hz List.not_mem_nil) rfl (Nat.ne_of_beq_eq_false rfl) wd4_21 wd2_125 (fun q => ?_)
      refine v_astore_n C dL_openQuantity_12 (by decide) ?_
      refine v_iconst (v := nI 1) C dL_openQuantity_13 (by decide) ?_
      exact w_iret C E dL_openQuantity_14 rfl (Or.inr ⟨0, _, rfl, hr, hF0, rfl⟩)
  · obtain ⟨e, hF0⟩ := hp
    rcases hA with ⟨r, hr⟩ | hr
    · rw [hr] at e
      cases e
      obtain ⟨n1, h1⟩ := τ
      show V G K _ _ _ (n1, h1) 7 _ [.int r, .int (nI 0), .ref b]
      refine v_i2l C dL_openQuantity_7 ?_
      refine v_last C dL_openQuantity_8 hb (hF (n1, h1) hF0) (vp_in_nI (n := 0) (N := 1) (by decide) (by decide)) (fun h2 e2 k2 => ?_)
      refine v_goto (tgt := 15) C dL_openQuantity_9 (by decide) ?_
      refine v_iconst (v := nI 0) C dL_openQuantity_15 (by decide) ?_
      exact w_iret C E dL_openQuantity_16 rfl (Or.inl ⟨r, (n1, h1), hr, rfl, hF0, rfl, e2, k2⟩)
    · rw [hr] at e
      cases e
theorem dL_buyerOf_0 : decode cL_buyerOf 0 = .ok (.aload_n 2, 1) := by decide +kernel
theorem dL_buyerOf_1 : decode cL_buyerOf 1 = .ok (.iconst 0, 1) := by decide +kernel
theorem dL_buyerOf_2 : decode cL_buyerOf 2 = .ok (.aload_n 0, 1) := by decide +kernel
theorem dL_buyerOf_3 : decode cL_buyerOf 3 = .ok (.iload_n 1, 1) := by decide +kernel
theorem dL_buyerOf_4 : decode cL_buyerOf 4 = .ok (.invokevirtual 66, 3) := by decide +kernel
theorem dL_buyerOf_7 : decode cL_buyerOf 7 = .ok (.i2l, 1) := by decide +kernel
theorem dL_buyerOf_8 : decode cL_buyerOf 8 = .ok (.lastore, 1) := by decide +kernel
theorem dL_buyerOf_9 : decode cL_buyerOf 9 = .ok (.goto 6, 3) := by decide +kernel
theorem dL_buyerOf_12 : decode cL_buyerOf 12 = .ok (.astore_n 3, 1) := by decide +kernel
theorem dL_buyerOf_13 : decode cL_buyerOf 13 = .ok (.iconst 1, 1) := by decide +kernel
theorem dL_buyerOf_14 : decode cL_buyerOf 14 = .ok (.ireturn, 1) := by decide +kernel
theorem dL_buyerOf_15 : decode cL_buyerOf 15 = .ok (.iconst 0, 1) := by decide +kernel
theorem dL_buyerOf_16 : decode cL_buyerOf 16 = .ok (.ireturn, 1) := by decide +kernel
def hhL_buyerOf : hp_hh := [(0, 9, 12, 25)]
theorem mL_buyerOf : hp_YW yL_buyerOf cL_buyerOf 4 (some .int) hhL_buyerOf 3 := ⟨wd4_141, wd1_0, by decide +kernel, wd4_140⟩
set_option maxHeartbeats 4000000 in
theorem c_L_buyerOf {G : hp_G} {l : Launch} (hl : l.stackTraces = false) {n0 : Nat} {h0 : Nat → Option va_E} {x b : Nat} {f : Nat → Int64} (hb : G.2.1 ≤ b) {fs : List Value} (hx : h0 x = some (.inr (9, fs))) {a1 : Int32} {ans : hp_O} {F : hp_T → Prop} {mc ms : Nat} (hC : Ct G l yX7_buyerOf cX7_buyerOf 2 (some .int) 8 mc ms [.ref x, .int a1] (n0, h0) (fun o τ => o = ans ∧ F τ)) (hF : ∀ τ, F τ → τ.2 b = some (.inl (G.2.2.1 3, 1, .inr (.inl f)))) (hA : (∃ r, ans = rI r) ∨ ans = .inr "java/lang/IndexOutOfBoundsException") : Cw G l yL_buyerOf cL_buyerOf 4 (some .int) hhL_buyerOf 9 mc ms [.ref x, .int a1, .ref b] (n0, h0) (Lw G b f Int32.toInt64 ans ["java/lang/IndexOutOfBoundsException"] F) := by
  refine Cw.of rfl hl (by simp [Value.category]) (Nat.le_of_ble_eq_true rfl) (fun K C E hRm hKl => ?_)
  subst hKl
  refine v_aload_n C dL_buyerOf_0 rfl ?_
  refine v_iconst (v := nI 0) C dL_buyerOf_1 (by decide) ?_
  refine v_aload_n C dL_buyerOf_2 rfl ?_
  refine v_iload_n C dL_buyerOf_3 rfl ?_
  refine v_callVx C (rest := [.int (nI 0), .ref b]) hC dL_buyerOf_4 mX7_buyerOf rfl hx rfl wd4_142 rfl rfl (Nat.le_of_ble_eq_true rfl) (hp_rmle hRm (by decide) (by decide)) (Nat.le_refl _) (Nat.le_refl _) (fun EE τ hp => ?_) (fun v τ hp => ?_)
  · obtain ⟨e, hF0⟩ := hp
    rcases hA with ⟨r, hr⟩ | hr
    · rw [hr] at e
      cases e
    · rw [hr] at e
      cases e
      refine w_catch C E [] (⟨0, 9, 12, 25⟩ : ExceptionTableEntry) [] rfl (fun z hz => absurd hz List.not_mem_nil) rfl (Nat.ne_of_beq_eq_false rfl) wd4_21 wd2_125 (fun q => ?_)
      refine v_astore_n C dL_buyerOf_12 (by decide) ?_
      refine v_iconst (v := nI 1) C dL_buyerOf_13 (by decide) ?_
      exact w_iret C E dL_buyerOf_14 rfl (Or.inr ⟨0, _, rfl, hr, hF0, rfl⟩)
  · obtain ⟨e, hF0⟩ := hp
    rcases hA with ⟨r, hr⟩ | hr
    · rw [hr] at e
      cases e
      obtain ⟨n1, h1⟩ := τ
      show V G K _ _ _ (n1, h1) 7 _ [.int r, .int (nI 0), .ref b]
      refine v_i2l C dL_buyerOf_7 ?_
      refine v_last C dL_buyerOf_8 hb (hF (n1, h1) hF0) (vp_in_nI (n := 0) (N := 1) (by decide) (by decide)) (fun h2 e2 k2 => ?_)
      refine v_goto (tgt := 15) C dL_buyerOf_9 (by decide) ?_
      refine v_iconst (v := nI 0) C dL_buyerOf_15 (by decide) ?_
      exact w_iret C E dL_buyerOf_16 rfl (Or.inl ⟨r, (n1, h1), hr, rfl, hF0, rfl, e2, k2⟩)
    · rw [hr] at e
      cases e
theorem dL_sellerOf_0 : decode cL_sellerOf 0 = .ok (.aload_n 2, 1) := by decide +kernel
theorem dL_sellerOf_1 : decode cL_sellerOf 1 = .ok (.iconst 0, 1) := by decide +kernel
theorem dL_sellerOf_2 : decode cL_sellerOf 2 = .ok (.aload_n 0, 1) := by decide +kernel
theorem dL_sellerOf_3 : decode cL_sellerOf 3 = .ok (.iload_n 1, 1) := by decide +kernel
theorem dL_sellerOf_4 : decode cL_sellerOf 4 = .ok (.invokevirtual 69, 3) := by decide +kernel
theorem dL_sellerOf_7 : decode cL_sellerOf 7 = .ok (.i2l, 1) := by decide +kernel
theorem dL_sellerOf_8 : decode cL_sellerOf 8 = .ok (.lastore, 1) := by decide +kernel
theorem dL_sellerOf_9 : decode cL_sellerOf 9 = .ok (.goto 6, 3) := by decide +kernel
theorem dL_sellerOf_12 : decode cL_sellerOf 12 = .ok (.astore_n 3, 1) := by decide +kernel
theorem dL_sellerOf_13 : decode cL_sellerOf 13 = .ok (.iconst 1, 1) := by decide +kernel
theorem dL_sellerOf_14 : decode cL_sellerOf 14 = .ok (.ireturn, 1) := by decide +kernel
theorem dL_sellerOf_15 : decode cL_sellerOf 15 = .ok (.iconst 0, 1) := by decide +kernel
theorem dL_sellerOf_16 : decode cL_sellerOf 16 = .ok (.ireturn, 1) := by decide +kernel
def hhL_sellerOf : hp_hh := [(0, 9, 12, 25)]
theorem mL_sellerOf : hp_YW yL_sellerOf cL_sellerOf 4 (some .int) hhL_sellerOf 3 := ⟨wd4_148, wd1_0, by decide +kernel, wd4_147⟩
set_option maxHeartbeats 4000000 in
theorem c_L_sellerOf {G : hp_G} {l : Launch} (hl : l.stackTraces = false) {n0 : Nat} {h0 : Nat → Option va_E} {x b : Nat} {f : Nat → Int64} (hb : G.2.1 ≤ b) {fs : List Value} (hx : h0 x = some (.inr (9, fs))) {a1 : Int32} {ans : hp_O} {F : hp_T → Prop} {mc ms : Nat} (hC : Ct G l yX7_sellerOf cX7_sellerOf 2 (some .int) 8 mc ms [.ref x, .int a1] (n0, h0) (fun o τ => o = ans ∧ F τ)) (hF : ∀ τ, F τ → τ.2 b = some (.inl (G.2.2.1 3, 1, .inr (.inl f)))) (hA : (∃ r, ans = rI r) ∨ ans = .inr "java/lang/IndexOutOfBoundsException") : Cw G l yL_sellerOf cL_sellerOf 4 (some .int) hhL_sellerOf 9 mc ms [.ref x, .int a1, .ref b] (n0, h0) (Lw G b f Int32.toInt64 ans ["java/lang/IndexOutOfBoundsException"] F) := by
  refine Cw.of rfl hl (by simp [Value.category]) (Nat.le_of_ble_eq_true rfl) (fun K C E hRm hKl => ?_)
  subst hKl
  refine v_aload_n C dL_sellerOf_0 rfl ?_
  refine v_iconst (v := nI 0) C dL_sellerOf_1 (by decide) ?_
  refine v_aload_n C dL_sellerOf_2 rfl ?_
  refine v_iload_n C dL_sellerOf_3 rfl ?_
  refine v_callVx C (rest := [.int (nI 0), .ref b]) hC dL_sellerOf_4 mX7_sellerOf rfl hx rfl wd4_149 rfl rfl (Nat.le_of_ble_eq_true rfl) (hp_rmle hRm (by decide) (by decide)) (Nat.le_refl _) (Nat.le_refl _) (fun EE τ hp => ?_) (fun v τ hp => ?_)
  · obtain ⟨e, hF0⟩ := hp
    rcases hA with ⟨r, hr⟩ | hr
    · rw [hr] at e
      cases e
    · rw [hr] at e
      cases e
      refine w_catch C E [] (⟨0, 9, 12, 25⟩ : ExceptionTableEntry) [] rfl (fun z hz => absurd hz List.not_mem_nil) rfl (Nat.ne_of_beq_eq_false rfl) wd4_21 wd2_125 (fun q => ?_)
      refine v_astore_n C dL_sellerOf_12 (by decide) ?_
      refine v_iconst (v := nI 1) C dL_sellerOf_13 (by decide) ?_
      exact w_iret C E dL_sellerOf_14 rfl (Or.inr ⟨0, _, rfl, hr, hF0, rfl⟩)
  · obtain ⟨e, hF0⟩ := hp
    rcases hA with ⟨r, hr⟩ | hr
    · rw [hr] at e
      cases e
      obtain ⟨n1, h1⟩ := τ
      show V G K _ _ _ (n1, h1) 7 _ [.int r, .int (nI 0), .ref b]
      refine v_i2l C dL_sellerOf_7 ?_
      refine v_last C dL_sellerOf_8 hb (hF (n1, h1) hF0) (vp_in_nI (n := 0) (N := 1) (by decide) (by decide)) (fun h2 e2 k2 => ?_)
      refine v_goto (tgt := 15) C dL_sellerOf_9 (by decide) ?_
      refine v_iconst (v := nI 0) C dL_sellerOf_15 (by decide) ?_
      exact w_iret C E dL_sellerOf_16 rfl (Or.inl ⟨r, (n1, h1), hr, rfl, hF0, rfl, e2, k2⟩)
    · rw [hr] at e
      cases e
theorem dL_horizonOf_0 : decode cL_horizonOf 0 = .ok (.aload_n 2, 1) := by decide +kernel
theorem dL_horizonOf_1 : decode cL_horizonOf 1 = .ok (.iconst 0, 1) := by decide +kernel
theorem dL_horizonOf_2 : decode cL_horizonOf 2 = .ok (.aload_n 0, 1) := by decide +kernel
theorem dL_horizonOf_3 : decode cL_horizonOf 3 = .ok (.iload_n 1, 1) := by decide +kernel
theorem dL_horizonOf_4 : decode cL_horizonOf 4 = .ok (.invokevirtual 72, 3) := by decide +kernel
theorem dL_horizonOf_7 : decode cL_horizonOf 7 = .ok (.i2l, 1) := by decide +kernel
theorem dL_horizonOf_8 : decode cL_horizonOf 8 = .ok (.lastore, 1) := by decide +kernel
theorem dL_horizonOf_9 : decode cL_horizonOf 9 = .ok (.goto 6, 3) := by decide +kernel
theorem dL_horizonOf_12 : decode cL_horizonOf 12 = .ok (.astore_n 3, 1) := by decide +kernel
theorem dL_horizonOf_13 : decode cL_horizonOf 13 = .ok (.iconst 1, 1) := by decide +kernel
theorem dL_horizonOf_14 : decode cL_horizonOf 14 = .ok (.ireturn, 1) := by decide +kernel
theorem dL_horizonOf_15 : decode cL_horizonOf 15 = .ok (.iconst 0, 1) := by decide +kernel
theorem dL_horizonOf_16 : decode cL_horizonOf 16 = .ok (.ireturn, 1) := by decide +kernel
def hhL_horizonOf : hp_hh := [(0, 9, 12, 25)]
theorem mL_horizonOf : hp_YW yL_horizonOf cL_horizonOf 4 (some .int) hhL_horizonOf 3 := ⟨wd4_155, wd1_0, by decide +kernel, wd4_154⟩
set_option maxHeartbeats 4000000 in
theorem c_L_horizonOf {G : hp_G} {l : Launch} (hl : l.stackTraces = false) {n0 : Nat} {h0 : Nat → Option va_E} {x b : Nat} {f : Nat → Int64} (hb : G.2.1 ≤ b) {fs : List Value} (hx : h0 x = some (.inr (9, fs))) {a1 : Int32} {ans : hp_O} {F : hp_T → Prop} {mc ms : Nat} (hC : Ct G l yX7_horizonOf cX7_horizonOf 2 (some .int) 8 mc ms [.ref x, .int a1] (n0, h0) (fun o τ => o = ans ∧ F τ)) (hF : ∀ τ, F τ → τ.2 b = some (.inl (G.2.2.1 3, 1, .inr (.inl f)))) (hA : (∃ r, ans = rI r) ∨ ans = .inr "java/lang/IndexOutOfBoundsException") : Cw G l yL_horizonOf cL_horizonOf 4 (some .int) hhL_horizonOf 9 mc ms [.ref x, .int a1, .ref b] (n0, h0) (Lw G b f Int32.toInt64 ans ["java/lang/IndexOutOfBoundsException"] F) := by
  refine Cw.of rfl hl (by simp [Value.category]) (Nat.le_of_ble_eq_true rfl) (fun K C E hRm hKl => ?_)
  subst hKl
  refine v_aload_n C dL_horizonOf_0 rfl ?_
  refine v_iconst (v := nI 0) C dL_horizonOf_1 (by decide) ?_
  refine v_aload_n C dL_horizonOf_2 rfl ?_
  refine v_iload_n C dL_horizonOf_3 rfl ?_
  refine v_callVx C (rest := [.int (nI 0), .ref b]) hC dL_horizonOf_4 mX7_horizonOf rfl hx rfl wd4_156 rfl rfl (Nat.le_of_ble_eq_true rfl) (hp_rmle hRm (by decide) (by decide)) (Nat.le_refl _) (Nat.le_refl _) (fun EE τ hp => ?_) (fun v τ hp => ?_)
  · obtain ⟨e, hF0⟩ := hp
    rcases hA with ⟨r, hr⟩ | hr
    · rw [hr] at e
      cases e
    · rw [hr] at e
      cases e
      refine w_catch C E [] (⟨0, 9, 12, 25⟩ : ExceptionTableEntry) [] rfl (fun z hz => absurd hz List.not_mem_nil) rfl (Nat.ne_of_beq_eq_false rfl) wd4_21 wd2_125 (fun q => ?_)
      refine v_astore_n C dL_horizonOf_12 (by decide) ?_
      refine v_iconst (v := nI 1) C dL_horizonOf_13 (by decide) ?_
      exact w_iret C E dL_horizonOf_14 rfl (Or.inr ⟨0, _, rfl, hr, hF0, rfl⟩)
  · obtain ⟨e, hF0⟩ := hp
    rcases hA with ⟨r, hr⟩ | hr
    · rw [hr] at e
      cases e
      obtain ⟨n1, h1⟩ := τ
      show V G K _ _ _ (n1, h1) 7 _ [.int r, .int (nI 0), .ref b]
      refine v_i2l C dL_horizonOf_7 ?_
      refine v_last C dL_horizonOf_8 hb (hF (n1, h1) hF0) (vp_in_nI (n := 0) (N := 1) (by decide) (by decide)) (fun h2 e2 k2 => ?_)
      refine v_goto (tgt := 15) C dL_horizonOf_9 (by decide) ?_
      refine v_iconst (v := nI 0) C dL_horizonOf_15 (by decide) ?_
      exact w_iret C E dL_horizonOf_16 rfl (Or.inl ⟨r, (n1, h1), hr, rfl, hF0, rfl, e2, k2⟩)
    · rw [hr] at e
      cases e

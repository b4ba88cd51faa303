theorem dL_quantityOf_0 : decode cL_quantityOf 0 = .ok (.aload_n 2, 1) := by decide +kernel
theorem dL_quantityOf_1 : decode cL_quantityOf 1 = .ok (.iconst 0, 1) := by decide +kernel
theorem dL_quantityOf_2 : decode cL_quantityOf 2 = .ok (.aload_n 0, 1) := by decide +kernel
theorem dL_quantityOf_3 : decode cL_quantityOf 3 = .ok (.iload_n 1, 1) := by decide +kernel
theorem dL_quantityOf_4 : decode cL_quantityOf 4 = .ok (.invokevirtual 75, 3) := by decide +kernel
theorem dL_quantityOf_7 : decode cL_quantityOf 7 = .ok (.i2l, 1) := by decide +kernel
theorem dL_quantityOf_8 : decode cL_quantityOf 8 = .ok (.lastore, 1) := by decide +kernel
theorem dL_quantityOf_9 : decode cL_quantityOf 9 = .ok (.goto 6, 3) := by decide +kernel
theorem dL_quantityOf_12 : decode cL_quantityOf 12 = .ok (.astore_n 3, 1) := by decide +kernel
theorem dL_quantityOf_13 : decode cL_quantityOf 13 = .ok (.iconst 1, 1) := by decide +kernel
theorem dL_quantityOf_14 : decode cL_quantityOf 14 = .ok (.ireturn, 1) := by decide +kernel
theorem dL_quantityOf_15 : decode cL_quantityOf 15 = .ok (.iconst 0, 1) := by decide +kernel
theorem dL_quantityOf_16 : decode cL_quantityOf 16 = .ok (.ireturn, 1) := by decide +kernel
def hhL_quantityOf : hp_hh := [(0, 9, 12, 25)]
theorem mL_quantityOf : hp_YW yL_quantityOf cL_quantityOf 4 (some .int) hhL_quantityOf 3 := ⟨wd4_162, wd1_0, by decide +kernel, wd4_161⟩
set_option maxHeartbeats 4000000 in
theorem c_L_quantityOf {G : hp_G} {l : Launch} (hl : l.stackTraces = false) {n0 : Nat} {h0 : Nat → Option va_E} {x b : Nat} {f : Nat → Int64} (hb : G.2.1 ≤ b) {fs : List Value} (hx : h0 x = some (.inr (9, fs))) {a1 : Int32} {ans : hp_O} {F : hp_T → Prop} {mc ms : Nat} (hC : Ct G l yX7_quantityOf cX7_quantityOf 2 (some .int) 8 mc ms [.ref x, .int a1] (n0, h0) (fun o τ => o = ans ∧ F τ)) (hF : ∀ τ, F τ → τ.2 b = some (.inl (G.2.2.1 3, 1, .inr (.inl f)))) (hA : (∃ r, ans = rI r) ∨ ans = .inr "java/lang/IndexOutOfBoundsException") : Cw G l yL_quantityOf cL_quantityOf 4 (some .int) hhL_quantityOf 9 mc ms [.ref x, .int a1, .ref b] (n0, h0) (Lw G b f Int32.toInt64 ans ["java/lang/IndexOutOfBoundsException"] F) := by
  refine Cw.of rfl hl (by simp [Value.category]) (Nat.le_of_ble_eq_true rfl) (fun K C E hRm hKl => ?_)
  subst hKl
  refine v_aload_n C dL_quantityOf_0 rfl ?_
  refine v_iconst (v := nI 0) C dL_quantityOf_1 (by decide) ?_
  refine v_aload_n C dL_quantityOf_2 rfl ?_
  refine v_iload_n C dL_quantityOf_3 rfl ?_
  refine v_callVx C (rest := [.int (nI 0), .ref b]) hC dL_quantityOf_4 mX7_quantityOf rfl hx rfl wd4_163 rfl rfl (Nat.le_of_ble_eq_true rfl) (hp_rmle hRm (by decide) (by decide)) (Nat.le_refl _) (Nat.le_refl _) (fun EE τ hp => ?_) (fun v τ hp => ?_)
  · obtain ⟨e, hF0⟩ := hp
    rcases hA with ⟨r, hr⟩ | hr
    · rw [hr] at e
      cases e
    · rw [hr] at e
      cases e
      refine w_catch C E [] (⟨0, 9, 12, 25⟩ : ExceptionTableEntry) [] rfl (fun z hz => absurd hz List.not_mem_nil) rfl (Nat.ne_of_beq_eq_false rfl) wd4_21 wd2_125 (fun q => ?_)
      refine v_astore_n C dL_quantityOf_12 (by decide) ?_
      refine v_iconst (v := nI 1) C dL_quantityOf_13 (by decide) ?_
      exact w_iret C E dL_quantityOf_14 rfl (Or.inr ⟨0, _, rfl, hr, hF0, rfl⟩)
  · obtain ⟨e, hF0⟩ := hp
    rcases hA with ⟨r, hr⟩ | hr
    · rw [hr] at e
      cases e
      obtain ⟨n1, h1⟩ := τ
      show V G K _ _ _ (n1, h1) 7 _ [.int r, .int (nI 0), .ref b]
      refine v_i2l C dL_quantityOf_7 ?_
      refine v_last C dL_quantityOf_8 hb (hF (n1, h1) hF0) (vp_in_nI (n := 0) (N := 1) (by decide) (by decide)) (fun h2 e2 k2 => ?_)
      refine v_goto (tgt := 15) C dL_quantityOf_9 (by decide) ?_
      refine v_iconst (v := nI 0) C dL_quantityOf_15 (by decide) ?_
      exact w_iret C E dL_quantityOf_16 rfl (Or.inl ⟨r, (n1, h1), hr, rfl, hF0, rfl, e2, k2⟩)
    · rw [hr] at e
      cases e
theorem dL_daysLeft_0 : decode cL_daysLeft 0 = .ok (.aload_n 2, 1) := by decide +kernel
theorem dL_daysLeft_1 : decode cL_daysLeft 1 = .ok (.iconst 0, 1) := by decide +kernel
theorem dL_daysLeft_2 : decode cL_daysLeft 2 = .ok (.aload_n 0, 1) := by decide +kernel
theorem dL_daysLeft_3 : decode cL_daysLeft 3 = .ok (.iload_n 1, 1) := by decide +kernel
theorem dL_daysLeft_4 : decode cL_daysLeft 4 = .ok (.invokevirtual 78, 3) := by decide +kernel
theorem dL_daysLeft_7 : decode cL_daysLeft 7 = .ok (.i2l, 1) := by decide +kernel
theorem dL_daysLeft_8 : decode cL_daysLeft 8 = .ok (.lastore, 1) := by decide +kernel
theorem dL_daysLeft_9 : decode cL_daysLeft 9 = .ok (.goto 6, 3) := by decide +kernel
theorem dL_daysLeft_12 : decode cL_daysLeft 12 = .ok (.astore_n 3, 1) := by decide +kernel
theorem dL_daysLeft_13 : decode cL_daysLeft 13 = .ok (.iconst 1, 1) := by decide +kernel
theorem dL_daysLeft_14 : decode cL_daysLeft 14 = .ok (.ireturn, 1) := by decide +kernel
theorem dL_daysLeft_15 : decode cL_daysLeft 15 = .ok (.iconst 0, 1) := by decide +kernel
theorem dL_daysLeft_16 : decode cL_daysLeft 16 = .ok (.ireturn, 1) := by decide +kernel
def hhL_daysLeft : hp_hh := [(0, 9, 12, 25)]
theorem mL_daysLeft : hp_YW yL_daysLeft cL_daysLeft 4 (some .int) hhL_daysLeft 3 := ⟨wd4_169, wd1_0, by decide +kernel, wd4_168⟩
set_option maxHeartbeats 4000000 in
theorem c_L_daysLeft {G : hp_G} {l : Launch} (hl : l.stackTraces = false) {n0 : Nat} {h0 : Nat → Option va_E} {x b : Nat} {f : Nat → Int64} (hb : G.2.1 ≤ b) {fs : List Value} (hx : h0 x = some (.inr (9, fs))) {a1 : Int32} {ans : hp_O} {F : hp_T → Prop} {mc ms : Nat} (hC : Ct G l yX7_daysLeft cX7_daysLeft 2 (some .int) 8 mc ms [.ref x, .int a1] (n0, h0) (fun o τ => o = ans ∧ F τ)) (hF : ∀ τ, F τ → τ.2 b = some (.inl (G.2.2.1 3, 1, .inr (.inl f)))) (hA : (∃ r, ans = rI r) ∨ ans = .inr "java/lang/IndexOutOfBoundsException") : Cw G l yL_daysLeft cL_daysLeft 4 (some .int) hhL_daysLeft 9 mc ms [.ref x, .int a1, .ref b] (n0, h0) (Lw G b f Int32.toInt64 ans ["java/lang/IndexOutOfBoundsException"] F) := by
  refine Cw.of rfl hl (by simp [Value.category]) (Nat.le_of_ble_eq_true rfl) (fun K C E hRm hKl => ?_)
  subst hKl
  refine v_aload_n C dL_daysLeft_0 rfl ?_
  refine v_iconst (v := nI 0) C dL_daysLeft_1 (by decide) ?_
  refine v_aload_n C dL_daysLeft_2 rfl ?_
  refine v_iload_n C dL_daysLeft_3 rfl ?_
  refine v_callVx C (rest := [.int (nI 0), .ref b]) hC dL_daysLeft_4 mX7_daysLeft rfl hx rfl wd4_170 rfl rfl (Nat.le_of_ble_eq_true rfl) (hp_rmle hRm (by decide) (by decide)) (Nat.le_refl _) (Nat.le_refl _) (fun EE τ hp => ?_) (fun v τ hp => ?_)
  · obtain ⟨e, hF0⟩ := hp
    rcases hA with ⟨r, hr⟩ | hr
    · rw [hr] at e
      cases e
    · rw [hr] at e
      cases e
      refine w_catch C E [] (⟨0, 9, 12, 25⟩ : ExceptionTableEntry) [] rfl (fun z hz => absurd hz List.not_mem_nil) rfl (Nat.ne_of_beq_eq_false rfl) wd4_21 wd2_125 (fun q => ?_)
      refine v_astore_n C dL_daysLeft_12 (by decide) ?_
      refine v_iconst (v := nI 1) C dL_daysLeft_13 (by decide) ?_
      exact w_iret C E dL_daysLeft_14 rfl (Or.inr ⟨0, _, rfl, hr, hF0, rfl⟩)
  · obtain ⟨e, hF0⟩ := hp
    rcases hA with ⟨r, hr⟩ | hr
    · rw [hr] at e
      cases e
      obtain ⟨n1, h1⟩ := τ
      show V G K _ _ _ (n1, h1) 7 _ [.int r, .int (nI 0), .ref b]
      refine v_i2l C dL_daysLeft_7 ?_
      refine v_last C dL_daysLeft_8 hb (hF (n1, h1) hF0) (vp_in_nI (n := 0) (N := 1) (by decide) (by decide)) (fun h2 e2 k2 => ?_)
      refine v_goto (tgt := 15) C dL_daysLeft_9 (by decide) ?_
      refine v_iconst (v := nI 0) C dL_daysLeft_15 (by decide) ?_
      exact w_iret C E dL_daysLeft_16 rfl (Or.inl ⟨r, (n1, h1), hr, rfl, hF0, rfl, e2, k2⟩)
    · rw [hr] at e
      cases e
theorem dL_marginOf_0 : decode cL_marginOf 0 = .ok (.aload_n 2, 1) := by decide +kernel
theorem dL_marginOf_1 : decode cL_marginOf 1 = .ok (.iconst 0, 1) := by decide +kernel
theorem dL_marginOf_2 : decode cL_marginOf 2 = .ok (.aload_n 0, 1) := by decide +kernel
theorem dL_marginOf_3 : decode cL_marginOf 3 = .ok (.iload_n 1, 1) := by decide +kernel
theorem dL_marginOf_4 : decode cL_marginOf 4 = .ok (.invokevirtual 81, 3) := by decide +kernel
theorem dL_marginOf_7 : decode cL_marginOf 7 = .ok (.i2l, 1) := by decide +kernel
theorem dL_marginOf_8 : decode cL_marginOf 8 = .ok (.lastore, 1) := by decide +kernel
theorem dL_marginOf_9 : decode cL_marginOf 9 = .ok (.goto 6, 3) := by decide +kernel
theorem dL_marginOf_12 : decode cL_marginOf 12 = .ok (.astore_n 3, 1) := by decide +kernel
theorem dL_marginOf_13 : decode cL_marginOf 13 = .ok (.iconst 1, 1) := by decide +kernel
theorem dL_marginOf_14 : decode cL_marginOf 14 = .ok (.ireturn, 1) := by decide +kernel
theorem dL_marginOf_15 : decode cL_marginOf 15 = .ok (.iconst 0, 1) := by decide +kernel
theorem dL_marginOf_16 : decode cL_marginOf 16 = .ok (.ireturn, 1) := by decide +kernel
def hhL_marginOf : hp_hh := [(0, 9, 12, 25)]
theorem mL_marginOf : hp_YW yL_marginOf cL_marginOf 4 (some .int) hhL_marginOf 3 := ⟨wd4_176, wd1_0, by decide +kernel, wd4_175⟩
set_option maxHeartbeats 4000000 in
theorem c_L_marginOf {G : hp_G} {l : Launch} (hl : l.stackTraces = false) {n0 : Nat} {h0 : Nat → Option va_E} {x b : Nat} {f : Nat → Int64} (hb : G.2.1 ≤ b) {fs : List Value} (hx : h0 x = some (.inr (9, fs))) {a1 : Int32} {ans : hp_O} {F : hp_T → Prop} {mc ms : Nat} (hC : Ct G l yX7_marginOf cX7_marginOf 2 (some .int) 8 mc ms [.ref x, .int a1] (n0, h0) (fun o τ => o = ans ∧ F τ)) (hF : ∀ τ, F τ → τ.2 b = some (.inl (G.2.2.1 3, 1, .inr (.inl f)))) (hA : (∃ r, ans = rI r) ∨ ans = .inr "java/lang/IndexOutOfBoundsException") : Cw G l yL_marginOf cL_marginOf 4 (some .int) hhL_marginOf 9 mc ms [.ref x, .int a1, .ref b] (n0, h0) (Lw G b f Int32.toInt64 ans ["java/lang/IndexOutOfBoundsException"] F) := by
  refine Cw.of rfl hl (by simp [Value.category]) (Nat.le_of_ble_eq_true rfl) (fun K C E hRm hKl => ?_)
  subst hKl
  refine v_aload_n C dL_marginOf_0 rfl ?_
  refine v_iconst (v := nI 0) C dL_marginOf_1 (by decide) ?_
  refine v_aload_n C dL_marginOf_2 rfl ?_
  refine v_iload_n C dL_marginOf_3 rfl ?_
  refine v_callVx C (rest := [.int (nI 0), .ref b]) hC dL_marginOf_4 mX7_marginOf rfl hx rfl wd4_177 rfl rfl (Nat.le_of_ble_eq_true rfl) (hp_rmle hRm (by decide) (by decide)) (Nat.le_refl _) (Nat.le_refl _) (fun EE τ hp => ?_) (fun v τ hp => ?_)
  · obtain ⟨e, hF0⟩ := hp
    rcases hA with ⟨r, hr⟩ | hr
    · rw [hr] at e
      cases e
    · rw [hr] at e
      cases e
      refine w_catch C E [] (⟨0, 9, 12, 25⟩ : ExceptionTableEntry) [] rfl (fun z hz => absurd hz List.not_mem_nil) rfl (Nat.ne_of_beq_eq_false rfl) wd4_21 wd2_125 (fun q => ?_)
      refine v_astore_n C dL_marginOf_12 (by decide) ?_
      refine v_iconst (v := nI 1) C dL_marginOf_13 (by decide) ?_
      exact w_iret C E dL_marginOf_14 rfl (Or.inr ⟨0, _, rfl, hr, hF0, rfl⟩)
  · obtain ⟨e, hF0⟩ := hp
    rcases hA with ⟨r, hr⟩ | hr
    · rw [hr] at e
      cases e
      obtain ⟨n1, h1⟩ := τ
      show V G K _ _ _ (n1, h1) 7 _ [.int r, .int (nI 0), .ref b]
      refine v_i2l C dL_marginOf_7 ?_
      refine v_last C dL_marginOf_8 hb (hF (n1, h1) hF0) (vp_in_nI (n := 0) (N := 1) (by decide) (by decide)) (fun h2 e2 k2 => ?_)
      refine v_goto (tgt := 15) C dL_marginOf_9 (by decide) ?_
      refine v_iconst (v := nI 0) C dL_marginOf_15 (by decide) ?_
      exact w_iret C E dL_marginOf_16 rfl (Or.inl ⟨r, (n1, h1), hr, rfl, hF0, rfl, e2, k2⟩)
    · rw [hr] at e
      cases e
theorem dL_marginByPositions_0 : decode cL_marginByPositions 0 = .ok (.aload_n 2, 1) := by decide +kernel
theorem dL_marginByPositions_1 : decode cL_marginByPositions 1 = .ok (.iconst 0, 1) := by decide +kernel
theorem dL_marginByPositions_2 : decode cL_marginByPositions 2 = .ok (.aload_n 0, 1) := by decide +kernel
theorem dL_marginByPositions_3 : decode cL_marginByPositions 3 = .ok (.iload_n 1, 1) := by decide +kernel
theorem dL_marginByPositions_4 : decode cL_marginByPositions 4 = .ok (.invokevirtual 84, 3) := by decide +kernel
theorem dL_marginByPositions_7 : decode cL_marginByPositions 7 = .ok (.i2l, 1) := by decide +kernel
theorem dL_marginByPositions_8 : decode cL_marginByPositions 8 = .ok (.lastore, 1) := by decide +kernel
theorem dL_marginByPositions_9 : decode cL_marginByPositions 9 = .ok (.goto 6, 3) := by decide +kernel
theorem dL_marginByPositions_12 : decode cL_marginByPositions 12 = .ok (.astore_n 3, 1) := by decide +kernel
theorem dL_marginByPositions_13 : decode cL_marginByPositions 13 = .ok (.iconst 1, 1) := by decide +kernel
theorem dL_marginByPositions_14 : decode cL_marginByPositions 14 = .ok (.ireturn, 1) := by decide +kernel
theorem dL_marginByPositions_15 : decode cL_marginByPositions 15 = .ok (.iconst 0, 1) := by decide +kernel
theorem dL_marginByPositions_16 : decode cL_marginByPositions 16 = .ok (.ireturn, 1) := by decide +kernel
def hhL_marginByPositions : hp_hh := [(0, 9, 12, 25)]
theorem mL_marginByPositions : hp_YW yL_marginByPositions cL_marginByPositions 4 (some .int) hhL_marginByPositions 3 := ⟨wd4_183, wd1_0, by decide +kernel, wd4_182⟩
set_option maxHeartbeats 4000000 in
theorem c_L_marginByPositions {G : hp_G} {l : Launch} (hl : l.stackTraces = false) {n0 : Nat} {h0 : Nat → Option va_E} {x b : Nat} {f : Nat → Int64} (hb : G.2.1 ≤ b) {fs : List Value} (hx : h0 x = some (.inr (9, fs))) {a1 : Int32} {ans : hp_O} {F : hp_T → Prop} {mc ms : Nat} (hC : Ct G l yX7_marginByPositions cX7_marginByPositions 2 (some .int) 8 mc ms [.ref x, .int a1] (n0, h0) (fun o τ => o = ans ∧ F τ)) (hF : ∀ τ, F τ → τ.2 b = some (.inl (G.2.2.1 3, 1, .inr (.inl f)))) (hA : (∃ r, ans = rI r) ∨ ans = .inr "java/lang/IndexOutOfBoundsException") : Cw G l yL_marginByPositions cL_marginByPositions 4 (some .int) hhL_marginByPositions 9 mc ms [.ref x, .int a1, .ref b] (n0, h0) (Lw G b f Int32.toInt64 ans ["java/lang/IndexOutOfBoundsException"] F) := by
  refine Cw.of rfl hl (by simp [Value.category]) (Nat.le_of_ble_eq_true rfl) (fun K C E hRm hKl => ?_)
  subst hKl
  refine v_aload_n C dL_marginByPositions_0 rfl ?_
  refine v_iconst (v := nI 0) C dL_marginByPositions_1 (by decide) ?_
  refine v_aload_n C dL_marginByPositions_2 rfl ?_
  refine v_iload_n C dL_marginByPositions_3 rfl ?_
  refine v_callVx C (rest := [.int (nI 0), .ref b]) hC dL_marginByPositions_4 mX7_marginByPositions rfl hx rfl wd4_184 rfl rfl (Nat.le_of_ble_eq_true rfl) (hp_rmle hRm (by decide) (by decide)) (Nat.le_refl _) (Nat.le_refl _) (fun EE τ hp => ?_) (fun v τ hp => ?_)
  · obtain ⟨e, hF0⟩ := hp
    rcases hA with ⟨r, hr⟩ | hr
    · rw [hr] at e
      cases e
    · rw [hr] at e
      cases e
      refine w_catch C E [] (⟨0, 9, 12, 25⟩ : ExceptionTableEntry) [] rfl (fun z hz => absurd hz List.not_mem_nil) rfl (Nat.ne_of_beq_eq_false rfl) wd4_21 wd2_125 (fun q => ?_)
      refine v_astore_n C dL_marginByPositions_12 (by decide) ?_
      refine v_iconst (v := nI 1) C dL_marginByPositions_13 (by decide) ?_
      exact w_iret C E dL_marginByPositions_14 rfl (Or.inr ⟨0, _, rfl, hr, hF0, rfl⟩)
  · obtain ⟨e, hF0⟩ := hp
    rcases hA with ⟨r, hr⟩ | hr
    · rw [hr] at e
      cases e
      obtain ⟨n1, h1⟩ := τ
      show V G K _ _ _ (n1, h1) 7 _ [.int r, .int (nI 0), .ref b]
      refine v_i2l C dL_marginByPositions_7 ?_
      refine v_last C dL_marginByPositions_8 hb (hF (n1, h1) hF0) (vp_in_nI (n := 0) (N := 1) (by decide) (by decide)) (fun h2 e2 k2 => ?_)
      refine v_goto (tgt := 15) C dL_marginByPositions_9 (by decide) ?_
      refine v_iconst (v := nI 0) C dL_marginByPositions_15 (by decide) ?_
      exact w_iret C E dL_marginByPositions_16 rfl (Or.inl ⟨r, (n1, h1), hr, rfl, hF0, rfl, e2, k2⟩)
    · rw [hr] at e
      cases e
theorem dL_variationOf_0 : decode cL_variationOf 0 = .ok (.aload_n 2, 1) := by decide +kernel
theorem dL_variationOf_1 : decode cL_variationOf 1 = .ok (.iconst 0, 1) := by decide +kernel
theorem dL_variationOf_2 : decode cL_variationOf 2 = .ok (.aload_n 0, 1) := by decide +kernel
theorem dL_variationOf_3 : decode cL_variationOf 3 = .ok (.iload_n 1, 1) := by decide +kernel
theorem dL_variationOf_4 : decode cL_variationOf 4 = .ok (.invokevirtual 87, 3) := by decide +kernel
theorem dL_variationOf_7 : decode cL_variationOf 7 = .ok (.i2l, 1) := by decide +kernel
theorem dL_variationOf_8 : decode cL_variationOf 8 = .ok (.lastore, 1) := by decide +kernel
theorem dL_variationOf_9 : decode cL_variationOf 9 = .ok (.goto 6, 3) := by decide +kernel
theorem dL_variationOf_12 : decode cL_variationOf 12 = .ok (.astore_n 3, 1) := by decide +kernel
theorem dL_variationOf_13 : decode cL_variationOf 13 = .ok (.iconst 1, 1) := by decide +kernel
theorem dL_variationOf_14 : decode cL_variationOf 14 = .ok (.ireturn, 1) := by decide +kernel
theorem dL_variationOf_15 : decode cL_variationOf 15 = .ok (.iconst 0, 1) := by decide +kernel
theorem dL_variationOf_16 : decode cL_variationOf 16 = .ok (.ireturn, 1) := by decide +kernel
def hhL_variationOf : hp_hh := [(0, 9, 12, 25)]
theorem mL_variationOf : hp_YW yL_variationOf cL_variationOf 4 (some .int) hhL_variationOf 3 := ⟨wd4_190, wd1_0, by decide +kernel, wd4_189⟩
set_option maxHeartbeats 4000000 in
theorem c_L_variationOf {G : hp_G} {l : Launch} (hl : l.stackTraces = false) {n0 : Nat} {h0 : Nat → Option va_E} {x b : Nat} {f : Nat → Int64} (hb : G.2.1 ≤ b) {fs : List Value} (hx : h0 x = some (.inr (9, fs))) {a1 : Int32} {ans : hp_O} {F : hp_T → Prop} {mc ms : Nat} (hC : Ct G l yX7_variationOf cX7_variationOf 2 (some .int) 8 mc ms [.ref x, .int a1] (n0, h0) (fun o τ => o = ans ∧ F τ)) (hF : ∀ τ, F τ → τ.2 b = some (.inl (G.2.2.1 3, 1, .inr (.inl f)))) (hA : (∃ r, ans = rI r) ∨ ans = .inr "java/lang/IndexOutOfBoundsException") : Cw G l yL_variationOf cL_variationOf 4 (some .int) hhL_variationOf 9 mc ms [.ref x, .int a1, .ref b] (n0, h0) (Lw G b f Int32.toInt64 ans ["java/lang/IndexOutOfBoundsException"] F) := by
  refine Cw.of rfl hl (by simp [Value.category]) (Nat.le_of_ble_eq_true rfl) (fun K C E hRm hKl => ?_)
  subst hKl
  refine v_aload_n C dL_variationOf_0 rfl ?_
  refine v_iconst (v := nI 0) C dL_variationOf_1 (by decide) ?_
  refine v_aload_n C dL_variationOf_2 rfl ?_
  refine v_iload_n C dL_variationOf_3 rfl ?_
  refine v_callVx C (rest := [.int (nI 0), .ref b]) hC dL_variationOf_4 mX7_variationOf rfl hx rfl wd4_191 rfl rfl (Nat.le_of_ble_eq_true rfl) (hp_rmle hRm (by decide) (by decide)) (Nat.le_refl _) (Nat.le_refl _) (fun EE τ hp => ?_) (fun v τ hp => ?_)
  · obtain ⟨e, hF0⟩ := hp
    rcases hA with ⟨r, hr⟩ | hr
    · rw [hr] at e
      cases e
    · rw [hr] at e
      cases e
      refine w_catch C E [] (⟨0, 9, 12, 25⟩ : ExceptionTableEntry) [] rfl (fun z hz => absurd hz List.not_mem_nil) rfl (Nat.ne_of_beq_eq_false rfl) wd4_21 wd2_125 (fun q => ?_)
      refine v_astore_n C dL_variationOf_12 (by decide) ?_
      refine v_iconst (v := nI 1) C dL_variationOf_13 (by decide) ?_
      exact w_iret C E dL_variationOf_14 rfl (Or.inr ⟨0, _, rfl, hr, hF0, rfl⟩)
  · obtain ⟨e, hF0⟩ := hp
    rcases hA with ⟨r, hr⟩ | hr
    · rw [hr] at e
      cases e
      obtain ⟨n1, h1⟩ := τ
      show V G K _ _ _ (n1, h1) 7 _ [.int r, .int (nI 0), .ref b]
      refine v_i2l C dL_variationOf_7 ?_
      refine v_last C dL_variationOf_8 hb (hF (n1, h1) hF0) (vp_in_nI (n := 0) (N := 1) (by decide) (by decide)) (fun h2 e2 k2 => ?_)
      refine v_goto (tgt := 15) C dL_variationOf_9 (by decide) ?_
      refine v_iconst (v := nI 0) C dL_variationOf_15 (by decide) ?_
      exact w_iret C E dL_variationOf_16 rfl (Or.inl ⟨r, (n1, h1), hr, rfl, hF0, rfl, e2, k2⟩)
    · rw [hr] at e
      cases e
theorem dL_leastMargins_0 : decode cL_leastMargins 0 = .ok (.aload_n 2, 1) := by decide +kernel
theorem dL_leastMargins_1 : decode cL_leastMargins 1 = .ok (.iconst 0, 1) := by decide +kernel
theorem dL_leastMargins_2 : decode cL_leastMargins 2 = .ok (.aload_n 0, 1) := by decide +kernel
theorem dL_leastMargins_3 : decode cL_leastMargins 3 = .ok (.iload_n 1, 1) := by decide +kernel
theorem dL_leastMargins_4 : decode cL_leastMargins 4 = .ok (.invokevirtual 90, 3) := by decide +kernel
theorem dL_leastMargins_7 : decode cL_leastMargins 7 = .ok (.i2l, 1) := by decide +kernel
theorem dL_leastMargins_8 : decode cL_leastMargins 8 = .ok (.lastore, 1) := by decide +kernel
theorem dL_leastMargins_9 : decode cL_leastMargins 9 = .ok (.goto 12, 3) := by decide +kernel
theorem dL_leastMargins_12 : decode cL_leastMargins 12 = .ok (.astore_n 3, 1) := by decide +kernel
theorem dL_leastMargins_13 : decode cL_leastMargins 13 = .ok (.iconst 1, 1) := by decide +kernel
theorem dL_leastMargins_14 : decode cL_leastMargins 14 = .ok (.ireturn, 1) := by decide +kernel
theorem dL_leastMargins_15 : decode cL_leastMargins 15 = .ok (.astore_n 3, 1) := by decide +kernel
theorem dL_leastMargins_16 : decode cL_leastMargins 16 = .ok (.iconst 2, 1) := by decide +kernel
theorem dL_leastMargins_17 : decode cL_leastMargins 17 = .ok (.ireturn, 1) := by decide +kernel
theorem dL_leastMargins_18 : decode cL_leastMargins 18 = .ok (.astore_n 3, 1) := by decide +kernel
theorem dL_leastMargins_19 : decode cL_leastMargins 19 = .ok (.iconst 3, 1) := by decide +kernel
theorem dL_leastMargins_20 : decode cL_leastMargins 20 = .ok (.ireturn, 1) := by decide +kernel
theorem dL_leastMargins_21 : decode cL_leastMargins 21 = .ok (.iconst 0, 1) := by decide +kernel
theorem dL_leastMargins_22 : decode cL_leastMargins 22 = .ok (.ireturn, 1) := by decide +kernel
def hhL_leastMargins : hp_hh := [(0, 9, 12, 25), (0, 9, 15, 15), (0, 9, 18, 27)]
theorem mL_leastMargins : hp_YW yL_leastMargins cL_leastMargins 4 (some .int) hhL_leastMargins 3 := ⟨wd4_198, wd1_0, by decide +kernel, wd4_197⟩
set_option maxHeartbeats 4000000 in
theorem c_L_leastMargins {G : hp_G} {l : Launch} (hl : l.stackTraces = false) {n0 : Nat} {h0 : Nat → Option va_E} {x b : Nat} {f : Nat → Int64} (hb : G.2.1 ≤ b) {fs : List Value} (hx : h0 x = some (.inr (9, fs))) {a1 : Int32} {ans : hp_O} {F : hp_T → Prop} {mc ms : Nat} (hC : Ct G l yX7_leastMargins cX7_leastMargins 2 (some .int) 8 mc ms [.ref x, .int a1] (n0, h0) (fun o τ => o = ans ∧ F τ)) (hF : ∀ τ, F τ → τ.2 b = some (.inl (G.2.2.1 3, 1, .inr (.inl f)))) (hA : (∃ r, ans = rI r) ∨ ans = .inr "java/lang/IndexOutOfBoundsException" ∨ ans = .inr "java/lang/IllegalStateException" ∨ ans = .inr "java/lang/UnsupportedOperationException") : Cw G l yL_leastMargins cL_leastMargins 4 (some .int) hhL_leastMargins 9 mc ms [.ref x, .int a1, .ref b] (n0, h0) (Lw G b f Int32.toInt64 ans ["java/lang/IndexOutOfBoundsException", "java/lang/IllegalStateException", "java/lang/UnsupportedOperationException"] F) := by
  refine Cw.of rfl hl (by simp [Value.category]) (Nat.le_of_ble_eq_true rfl) (fun K C E hRm hKl => ?_)
  subst hKl
  refine v_aload_n C dL_leastMargins_0 rfl ?_
  refine v_iconst (v := nI 0) C dL_leastMargins_1 (by decide) ?_
  refine v_aload_n C dL_leastMargins_2 rfl ?_
  refine v_iload_n C dL_leastMargins_3 rfl ?_
  refine v_callVx C (rest := [.int (nI 0), .ref b]) hC dL_leastMargins_4 mX7_leastMargins rfl hx rfl wd4_199 rfl rfl (Nat.le_of_ble_eq_true rfl) (hp_rmle hRm (by decide) (by decide)) (Nat.le_refl _) (Nat.le_refl _) (fun EE τ hp => ?_) (fun v τ hp => ?_)
  · obtain ⟨e, hF0⟩ := hp
    rcases hA with ⟨r, hr⟩ | hr | hr | hr
    · rw [hr] at e
      cases e
    · rw [hr] at e
      cases e
      refine w_catch C E [] (⟨0, 9, 12, 25⟩ : ExceptionTableEntry) [(⟨0, 9, 15, 15⟩ : ExceptionTableEntry), (⟨0, 9, 18, 27⟩ : ExceptionTableEntry)] rfl (fun z hz => absurd hz List.not_mem_nil) rfl (Nat.ne_of_beq_eq_false rfl) wd4_21 wd2_125 (fun q => ?_)
      refine v_astore_n C dL_leastMargins_12 (by decide) ?_
      refine v_iconst (v := nI 1) C dL_leastMargins_13 (by decide) ?_
      exact w_iret C E dL_leastMargins_14 rfl (Or.inr ⟨0, _, rfl, hr, hF0, rfl⟩)
    · rw [hr] at e
      cases e
      have hpass : ∀ z ∈ ([(⟨0, 9, 12, 25⟩ : ExceptionTableEntry)] : List ExceptionTableEntry), z.catchType ≠ 0 ∧ ∃ nm ∈ hp_ex, "java/lang/IllegalStateException" ∈ hp_ex ∧ "java/lang/IllegalStateException" ≠ nm ∧ Cond.classLink "HorizonExchangeLaw" z.catchType nm ∈ lw_tbl := by
        intro z hz
        simp only [List.mem_cons, List.not_mem_nil, or_false] at hz
        subst hz
        exact ⟨by decide, "java/lang/IndexOutOfBoundsException", by decide, by decide, by decide, wd4_21⟩
      refine w_catch C E [(⟨0, 9, 12, 25⟩ : ExceptionTableEntry)] (⟨0, 9, 15, 15⟩ : ExceptionTableEntry) [(⟨0, 9, 18, 27⟩ : ExceptionTableEntry)] rfl hpass rfl (Nat.ne_of_beq_eq_false rfl) wd4_6 wd2_213 (fun q => ?_)
      refine v_astore_n C dL_leastMargins_15 (by decide) ?_
      refine v_iconst (v := nI 2) C dL_leastMargins_16 (by decide) ?_
      exact w_iret C E dL_leastMargins_17 rfl (Or.inr ⟨1, _, rfl, hr, hF0, rfl⟩)
    · rw [hr] at e
      cases e
      have hpass : ∀ z ∈ ([(⟨0, 9, 12, 25⟩ : ExceptionTableEntry), (⟨0, 9, 15, 15⟩ : ExceptionTableEntry)] : List ExceptionTableEntry), z.catchType ≠ 0 ∧ ∃ nm ∈ hp_ex, "java/lang/UnsupportedOperationException" ∈ hp_ex ∧ "java/lang/UnsupportedOperationException" ≠ nm ∧ Cond.classLink "HorizonExchangeLaw" z.catchType nm ∈ lw_tbl := by
        intro z hz
        simp only [List.mem_cons, List.not_mem_nil, or_false] at hz
        rcases hz with rfl | rfl
        · exact ⟨by decide, "java/lang/IndexOutOfBoundsException", by decide, by decide, by decide, wd4_21⟩
        · exact ⟨by decide, "java/lang/IllegalStateException", by decide, by decide, by decide, wd4_6⟩
      refine w_catch C E [(⟨0, 9, 12, 25⟩ : ExceptionTableEntry), (⟨0, 9, 15, 15⟩ : ExceptionTableEntry)] (⟨0, 9, 18, 27⟩ : ExceptionTableEntry) [] rfl hpass rfl (Nat.ne_of_beq_eq_false rfl) wd4_42 wd2_229 (fun q => ?_)
      refine v_astore_n C dL_leastMargins_18 (by decide) ?_
      refine v_iconst (v := nI 3) C dL_leastMargins_19 (by decide) ?_
      exact w_iret C E dL_leastMargins_20 rfl (Or.inr ⟨2, _, rfl, hr, hF0, rfl⟩)
  · obtain ⟨e, hF0⟩ := hp
    rcases hA with ⟨r, hr⟩ | hr | hr | hr
    · rw [hr] at e
      cases e
      obtain ⟨n1, h1⟩ := τ
      show V G K _ _ _ (n1, h1) 7 _ [.int r, .int (nI 0), .ref b]
      refine v_i2l C dL_leastMargins_7 ?_
      refine v_last C dL_leastMargins_8 hb (hF (n1, h1) hF0) (vp_in_nI (n := 0) (N := 1) (by decide) (by decide)) (fun h2 e2 k2 => ?_)
      refine v_goto (tgt := 21) C dL_leastMargins_9 (by decide) ?_
      refine v_iconst (v := nI 0) C dL_leastMargins_21 (by decide) ?_
      exact w_iret C E dL_leastMargins_22 rfl (Or.inl ⟨r, (n1, h1), hr, rfl, hF0, rfl, e2, k2⟩)
    · rw [hr] at e
      cases e
    · rw [hr] at e
      cases e
    · rw [hr] at e
      cases e
theorem dL_leastMarginsBySets_0 : decode cL_leastMarginsBySets 0 = .ok (.aload_n 2, 1) := by decide +kernel
theorem dL_leastMarginsBySets_1 : decode cL_leastMarginsBySets 1 = .ok (.iconst 0, 1) := by decide +kernel
theorem dL_leastMarginsBySets_2 : decode cL_leastMarginsBySets 2 = .ok (.aload_n 0, 1) := by decide +kernel
theorem dL_leastMarginsBySets_3 : decode cL_leastMarginsBySets 3 = .ok (.iload_n 1, 1) := by decide +kernel
theorem dL_leastMarginsBySets_4 : decode cL_leastMarginsBySets 4 = .ok (.invokevirtual 93, 3) := by decide +kernel
theorem dL_leastMarginsBySets_7 : decode cL_leastMarginsBySets 7 = .ok (.i2l, 1) := by decide +kernel
theorem dL_leastMarginsBySets_8 : decode cL_leastMarginsBySets 8 = .ok (.lastore, 1) := by decide +kernel
theorem dL_leastMarginsBySets_9 : decode cL_leastMarginsBySets 9 = .ok (.goto 12, 3) := by decide +kernel
theorem dL_leastMarginsBySets_12 : decode cL_leastMarginsBySets 12 = .ok (.astore_n 3, 1) := by decide +kernel
theorem dL_leastMarginsBySets_13 : decode cL_leastMarginsBySets 13 = .ok (.iconst 1, 1) := by decide +kernel
theorem dL_leastMarginsBySets_14 : decode cL_leastMarginsBySets 14 = .ok (.ireturn, 1) := by decide +kernel
theorem dL_leastMarginsBySets_15 : decode cL_leastMarginsBySets 15 = .ok (.astore_n 3, 1) := by decide +kernel
theorem dL_leastMarginsBySets_16 : decode cL_leastMarginsBySets 16 = .ok (.iconst 2, 1) := by decide +kernel
theorem dL_leastMarginsBySets_17 : decode cL_leastMarginsBySets 17 = .ok (.ireturn, 1) := by decide +kernel
theorem dL_leastMarginsBySets_18 : decode cL_leastMarginsBySets 18 = .ok (.astore_n 3, 1) := by decide +kernel
theorem dL_leastMarginsBySets_19 : decode cL_leastMarginsBySets 19 = .ok (.iconst 3, 1) := by decide +kernel
theorem dL_leastMarginsBySets_20 : decode cL_leastMarginsBySets 20 = .ok (.ireturn, 1) := by decide +kernel
theorem dL_leastMarginsBySets_21 : decode cL_leastMarginsBySets 21 = .ok (.iconst 0, 1) := by decide +kernel
theorem dL_leastMarginsBySets_22 : decode cL_leastMarginsBySets 22 = .ok (.ireturn, 1) := by decide +kernel
def hhL_leastMarginsBySets : hp_hh := [(0, 9, 12, 25), (0, 9, 15, 15), (0, 9, 18, 27)]
theorem mL_leastMarginsBySets : hp_YW yL_leastMarginsBySets cL_leastMarginsBySets 4 (some .int) hhL_leastMarginsBySets 3 := ⟨wd4_205, wd1_0, by decide +kernel, wd4_204⟩
set_option maxHeartbeats 4000000 in
theorem c_L_leastMarginsBySets {G : hp_G} {l : Launch} (hl : l.stackTraces = false) {n0 : Nat} {h0 : Nat → Option va_E} {x b : Nat} {f : Nat → Int64} (hb : G.2.1 ≤ b) {fs : List Value} (hx : h0 x = some (.inr (9, fs))) {a1 : Int32} {ans : hp_O} {F : hp_T → Prop} {mc ms : Nat} (hC : Ct G l yX7_leastMarginsBySets cX7_leastMarginsBySets 2 (some .int) 8 mc ms [.ref x, .int a1] (n0, h0) (fun o τ => o = ans ∧ F τ)) (hF : ∀ τ, F τ → τ.2 b = some (.inl (G.2.2.1 3, 1, .inr (.inl f)))) (hA : (∃ r, ans = rI r) ∨ ans = .inr "java/lang/IndexOutOfBoundsException" ∨ ans = .inr "java/lang/IllegalStateException" ∨ ans = .inr "java/lang/UnsupportedOperationException") : Cw G l yL_leastMarginsBySets cL_leastMarginsBySets 4 (some .int) hhL_leastMarginsBySets 9 mc ms [.ref x, .int a1, .ref b] (n0, h0) (Lw G b f Int32.toInt64 ans ["java/lang/IndexOutOfBoundsException", "java/lang/IllegalStateException", "java/lang/UnsupportedOperationException"] F) := by
  refine Cw.of rfl hl (by simp [Value.category]) (Nat.le_of_ble_eq_true rfl) (fun K C E hRm hKl => ?_)
  subst hKl
  refine v_aload_n C dL_leastMarginsBySets_0 rfl ?_
  refine v_iconst (v := nI 0) C dL_leastMarginsBySets_1 (by decide) ?_
  refine v_aload_n C dL_leastMarginsBySets_2 rfl ?_
  refine v_iload_n C dL_leastMarginsBySets_3 rfl ?_
  refine v_callVx C (rest := [.int (nI 0), .ref b]) hC dL_leastMarginsBySets_4 mX7_leastMarginsBySets rfl hx rfl wd4_206 rfl rfl (Nat.le_of_ble_eq_true rfl) (hp_rmle hRm (by decide) (by decide)) (Nat.le_refl _) (Nat.le_refl _) (fun EE τ hp => ?_) (fun v τ hp => ?_)
  · obtain ⟨e, hF0⟩ := hp
    rcases hA with ⟨r, hr⟩ | hr | hr | hr
    · rw [hr] at e
      cases e
    · rw [hr] at e
      cases e
      refine w_catch C E [] (⟨0, 9, 12, 25⟩ : ExceptionTableEntry) [(⟨0, 9, 15, 15⟩ : ExceptionTableEntry), (⟨0, 9, 18, 27⟩ : ExceptionTableEntry)] rfl (fun z hz => absurd hz List.not_mem_nil) rfl (Nat.ne_of_beq_eq_false rfl) wd4_21 wd2_125 (fun q => ?_)
      refine v_astore_n C dL_leastMarginsBySets_12 (by decide) ?_
      refine v_iconst (v := nI 1) C dL_leastMarginsBySets_13 (by decide) ?_
      exact w_iret C E dL_leastMarginsBySets_14 rfl (Or.inr ⟨0, _, rfl, hr, hF0, rfl⟩)
    · rw [hr] at e
      cases e
      have hpass : ∀ z ∈ ([(⟨0, 9, 12, 25⟩ : ExceptionTableEntry)] : List ExceptionTableEntry), z.catchType ≠ 0 ∧ ∃ nm ∈ hp_ex, "java/lang/IllegalStateException" ∈ hp_ex ∧ "java/lang/IllegalStateException" ≠ nm ∧ Cond.classLink "HorizonExchangeLaw" z.catchType nm ∈ lw_tbl := by
        intro z hz
        simp only [List.mem_cons, List.not_mem_nil, or_false] at hz
        subst hz
        exact ⟨by decide, "java/lang/IndexOutOfBoundsException", by decide, by decide, by decide, wd4_21⟩
      refine w_catch C E [(⟨0, 9, 12, 25⟩ : ExceptionTableEntry)] (⟨0, 9, 15, 15⟩ : ExceptionTableEntry) [(⟨0, 9, 18, 27⟩ : ExceptionTableEntry)] rfl hpass rfl (Nat.ne_of_beq_eq_false rfl) wd4_6 wd2_213 (fun q => ?_)
      refine v_astore_n C dL_leastMarginsBySets_15 (by decide) ?_
      refine v_iconst (v := nI 2) C dL_leastMarginsBySets_16 (by decide) ?_
      exact w_iret C E dL_leastMarginsBySets_17 rfl (Or.inr ⟨1, _, rfl, hr, hF0, rfl⟩)
    · rw [hr] at e
      cases e
      have hpass : ∀ z ∈ ([(⟨0, 9, 12, 25⟩ : ExceptionTableEntry), (⟨0, 9, 15, 15⟩ : ExceptionTableEntry)] : List ExceptionTableEntry), z.catchType ≠ 0 ∧ ∃ nm ∈ hp_ex, "java/lang/UnsupportedOperationException" ∈ hp_ex ∧ "java/lang/UnsupportedOperationException" ≠ nm ∧ Cond.classLink "HorizonExchangeLaw" z.catchType nm ∈ lw_tbl := by
        intro z hz
        simp only [List.mem_cons, List.not_mem_nil, or_false] at hz
        rcases hz with rfl | rfl
        · exact ⟨by decide, "java/lang/IndexOutOfBoundsException", by decide, by decide, by decide, wd4_21⟩
        · exact ⟨by decide, "java/lang/IllegalStateException", by decide, by decide, by decide, wd4_6⟩
      refine w_catch C E [(⟨0, 9, 12, 25⟩ : ExceptionTableEntry), (⟨0, 9, 15, 15⟩ : ExceptionTableEntry)] (⟨0, 9, 18, 27⟩ : ExceptionTableEntry) [] rfl hpass rfl (Nat.ne_of_beq_eq_false rfl) wd4_42 wd2_229 (fun q => ?_)
      refine v_astore_n C dL_leastMarginsBySets_18 (by decide) ?_
      refine v_iconst (v := nI 3) C dL_leastMarginsBySets_19 (by decide) ?_
      exact w_iret C E dL_leastMarginsBySets_20 rfl (Or.inr ⟨2, _, rfl, hr, hF0, rfl⟩)
  · obtain ⟨e, hF0⟩ := hp
    rcases hA with ⟨r, hr⟩ | hr | hr | hr
    · rw [hr] at e
      cases e
      obtain ⟨n1, h1⟩ := τ
      show V G K _ _ _ (n1, h1) 7 _ [.int r, .int (nI 0), .ref b]
      refine v_i2l C dL_leastMarginsBySets_7 ?_
      refine v_last C dL_leastMarginsBySets_8 hb (hF (n1, h1) hF0) (vp_in_nI (n := 0) (N := 1) (by decide) (by decide)) (fun h2 e2 k2 => ?_)
      refine v_goto (tgt := 21) C dL_leastMarginsBySets_9 (by decide) ?_
      refine v_iconst (v := nI 0) C dL_leastMarginsBySets_21 (by decide) ?_
      exact w_iret C E dL_leastMarginsBySets_22 rfl (Or.inl ⟨r, (n1, h1), hr, rfl, hF0, rfl, e2, k2⟩)
    · rw [hr] at e
      cases e
    · rw [hr] at e
      cases e
    · rw [hr] at e
      cases e
theorem dL_takerOf_0 : decode cL_takerOf 0 = .ok (.aload_n 3, 1) := by decide +kernel
theorem dL_takerOf_1 : decode cL_takerOf 1 = .ok (.iconst 0, 1) := by decide +kernel
theorem dL_takerOf_2 : decode cL_takerOf 2 = .ok (.aload_n 0, 1) := by decide +kernel
theorem dL_takerOf_3 : decode cL_takerOf 3 = .ok (.iload_n 1, 1) := by decide +kernel
theorem dL_takerOf_4 : decode cL_takerOf 4 = .ok (.iload_n 2, 1) := by decide +kernel
theorem dL_takerOf_5 : decode cL_takerOf 5 = .ok (.invokevirtual 96, 3) := by decide +kernel
theorem dL_takerOf_8 : decode cL_takerOf 8 = .ok (.i2l, 1) := by decide +kernel
theorem dL_takerOf_9 : decode cL_takerOf 9 = .ok (.lastore, 1) := by decide +kernel
theorem dL_takerOf_10 : decode cL_takerOf 10 = .ok (.goto 19, 3) := by decide +kernel
theorem dL_takerOf_13 : decode cL_takerOf 13 = .ok (.astore 4, 2) := by decide +kernel
theorem dL_takerOf_15 : decode cL_takerOf 15 = .ok (.iconst 1, 1) := by decide +kernel
theorem dL_takerOf_16 : decode cL_takerOf 16 = .ok (.ireturn, 1) := by decide +kernel
theorem dL_takerOf_17 : decode cL_takerOf 17 = .ok (.astore 4, 2) := by decide +kernel
theorem dL_takerOf_19 : decode cL_takerOf 19 = .ok (.iconst 2, 1) := by decide +kernel
theorem dL_takerOf_20 : decode cL_takerOf 20 = .ok (.ireturn, 1) := by decide +kernel
theorem dL_takerOf_21 : decode cL_takerOf 21 = .ok (.astore 4, 2) := by decide +kernel
theorem dL_takerOf_23 : decode cL_takerOf 23 = .ok (.iconst 3, 1) := by decide +kernel
theorem dL_takerOf_24 : decode cL_takerOf 24 = .ok (.ireturn, 1) := by decide +kernel
theorem dL_takerOf_25 : decode cL_takerOf 25 = .ok (.astore 4, 2) := by decide +kernel
theorem dL_takerOf_27 : decode cL_takerOf 27 = .ok (.iconst 4, 1) := by decide +kernel
theorem dL_takerOf_28 : decode cL_takerOf 28 = .ok (.ireturn, 1) := by decide +kernel
theorem dL_takerOf_29 : decode cL_takerOf 29 = .ok (.iconst 0, 1) := by decide +kernel
theorem dL_takerOf_30 : decode cL_takerOf 30 = .ok (.ireturn, 1) := by decide +kernel
def hhL_takerOf : hp_hh := [(0, 10, 13, 25), (0, 10, 17, 15), (0, 10, 21, 27), (0, 10, 25, 99)]
theorem mL_takerOf : hp_YW yL_takerOf cL_takerOf 5 (some .int) hhL_takerOf 4 := ⟨wd4_212, wd1_0, by decide +kernel, wd4_211⟩
set_option maxHeartbeats 4000000 in
theorem c_L_takerOf {G : hp_G} {l : Launch} (hl : l.stackTraces = false) {n0 : Nat} {h0 : Nat → Option va_E} {x b : Nat} {f : Nat → Int64} (hb : G.2.1 ≤ b) {fs : List Value} (hx : h0 x = some (.inr (9, fs))) {a1 a2 : Int32} {ans : hp_O} {F : hp_T → Prop} {mc ms : Nat} (hC : Ct G l yX7_takerOf cX7_takerOf 4 (some .int) 8 mc ms [.ref x, .int a1, .int a2] (n0, h0) (fun o τ => o = ans ∧ F τ)) (hF : ∀ τ, F τ → τ.2 b = some (.inl (G.2.2.1 3, 1, .inr (.inl f)))) (hA : (∃ r, ans = rI r) ∨ ans = .inr "java/lang/IndexOutOfBoundsException" ∨ ans = .inr "java/lang/IllegalStateException" ∨ ans = .inr "java/lang/UnsupportedOperationException" ∨ ans = .inr "java/util/NoSuchElementException") : Cw G l yL_takerOf cL_takerOf 5 (some .int) hhL_takerOf 9 mc ms [.ref x, .int a1, .int a2, .ref b] (n0, h0) (Lw G b f Int32.toInt64 ans ["java/lang/IndexOutOfBoundsException", "java/lang/IllegalStateException", "java/lang/UnsupportedOperationException", "java/util/NoSuchElementException"] F) := by
  refine Cw.of rfl hl (by simp [Value.category]) (Nat.le_of_ble_eq_true rfl) (fun K C E hRm hKl => ?_)
  subst hKl
  refine v_aload_n C dL_takerOf_0 rfl ?_
  refine v_iconst (v := nI 0) C dL_takerOf_1 (by decide) ?_
  refine v_aload_n C dL_takerOf_2 rfl ?_
  refine v_iload_n C dL_takerOf_3 rfl ?_
  refine v_iload_n C dL_takerOf_4 rfl ?_
  refine v_callVx C (rest := [.int (nI 0), .ref b]) hC dL_takerOf_5 mX7_takerOf rfl hx rfl wd4_214 rfl rfl (Nat.le_of_ble_eq_true rfl) (hp_rmle hRm (by decide) (by decide)) (Nat.le_refl _) (Nat.le_refl _) (fun EE τ hp => ?_) (fun v τ hp => ?_)
  · obtain ⟨e, hF0⟩ := hp
    rcases hA with ⟨r, hr⟩ | hr | hr | hr | hr
    · rw [hr] at e
      cases e
    · rw [hr] at e
      cases e
      refine w_catch C E [] (⟨0, 10, 13, 25⟩ : ExceptionTableEntry) [(⟨0, 10, 17, 15⟩ : ExceptionTableEntry), (⟨0, 10, 21, 27⟩ : ExceptionTableEntry), (⟨0, 10, 25, 99⟩ : ExceptionTableEntry)] rfl (fun z hz => absurd hz List.not_mem_nil) rfl (Nat.ne_of_beq_eq_false rfl) wd4_21 wd2_125 (fun q => ?_)
      refine v_astore C dL_takerOf_13 (by decide) ?_
      refine v_iconst (v := nI 1) C dL_takerOf_15 (by decide) ?_
      exact w_iret C E dL_takerOf_16 rfl (Or.inr ⟨0, _, rfl, hr, hF0, rfl⟩)
    · rw [hr] at e
      cases e
      have hpass : ∀ z ∈ ([(⟨0, 10, 13, 25⟩ : ExceptionTableEntry)] : List ExceptionTableEntry), z.catchType ≠ 0 ∧ ∃ nm ∈ hp_ex, "java/lang/IllegalStateException" ∈ hp_ex ∧ "java/lang/IllegalStateException" ≠ nm ∧ Cond.classLink "HorizonExchangeLaw" z.catchType nm ∈ lw_tbl := by
        intro z hz
        simp only [List.mem_cons, List.not_mem_nil, or_false] at hz
        subst hz
        exact ⟨by decide, "java/lang/IndexOutOfBoundsException", by decide, by decide, by decide, wd4_21⟩
      refine w_catch C E [(⟨0, 10, 13, 25⟩ : ExceptionTableEntry)] (⟨0, 10, 17, 15⟩ : ExceptionTableEntry) [(⟨0, 10, 21, 27⟩ : ExceptionTableEntry), (⟨0, 10, 25, 99⟩ : ExceptionTableEntry)] rfl hpass rfl (Nat.ne_of_beq_eq_false rfl) wd4_6 wd2_213 (fun q => ?_)
      refine v_astore C dL_takerOf_17 (by decide) ?_
      refine v_iconst (v := nI 2) C dL_takerOf_19 (by decide) ?_
      exact w_iret C E dL_takerOf_20 rfl (Or.inr ⟨1, _, rfl, hr, hF0, rfl⟩)
    · rw [hr] at e
      cases e
      have hpass : ∀ z ∈ ([(⟨0, 10, 13, 25⟩ : ExceptionTableEntry), (⟨0, 10, 17, 15⟩ : ExceptionTableEntry)] : List ExceptionTableEntry), z.catchType ≠ 0 ∧ ∃ nm ∈ hp_ex, "java/lang/UnsupportedOperationException" ∈ hp_ex ∧ "java/lang/UnsupportedOperationException" ≠ nm ∧ Cond.classLink "HorizonExchangeLaw" z.catchType nm ∈ lw_tbl := by
        intro z hz
        simp only [List.mem_cons, List.not_mem_nil, or_false] at hz
        rcases hz with rfl | rfl
        · exact ⟨by decide, "java/lang/IndexOutOfBoundsException", by decide, by decide, by decide, wd4_21⟩
        · exact ⟨by decide, "java/lang/IllegalStateException", by decide, by decide, by decide, wd4_6⟩
      refine w_catch C E [(⟨0, 10, 13, 25⟩ : ExceptionTableEntry), (⟨0, 10, 17, 15⟩ : ExceptionTableEntry)] (⟨0, 10, 21, 27⟩ : ExceptionTableEntry) [(⟨0, 10, 25, 99⟩ : ExceptionTableEntry)] rfl hpass rfl (Nat.ne_of_beq_eq_false rfl) wd4_42 wd2_229 (fun q => ?_)
      refine v_astore C dL_takerOf_21 (by decide) ?_
      refine v_iconst (v := nI 3) C dL_takerOf_23 (by decide) ?_
      exact w_iret C E dL_takerOf_24 rfl (Or.inr ⟨2, _, rfl, hr, hF0, rfl⟩)
    · rw [hr] at e
      cases e
      have hpass : ∀ z ∈ ([(⟨0, 10, 13, 25⟩ : ExceptionTableEntry), (⟨0, 10, 17, 15⟩ : ExceptionTableEntry), (⟨0, 10, 21, 27⟩ : ExceptionTableEntry)] : List ExceptionTableEntry), z.catchType ≠ 0 ∧ ∃ nm ∈ hp_ex, "java/util/NoSuchElementException" ∈ hp_ex ∧ "java/util/NoSuchElementException" ≠ nm ∧ Cond.classLink "HorizonExchangeLaw" z.catchType nm ∈ lw_tbl := by
        intro z hz
        simp only [List.mem_cons, List.not_mem_nil, or_false] at hz
        rcases hz with rfl | rfl | rfl
        · exact ⟨by decide, "java/lang/IndexOutOfBoundsException", by decide, by decide, by decide, wd4_21⟩
        · exact ⟨by decide, "java/lang/IllegalStateException", by decide, by decide, by decide, wd4_6⟩
        · exact ⟨by decide, "java/lang/UnsupportedOperationException", by decide, by decide, by decide, wd4_42⟩
      refine w_catch C E [(⟨0, 10, 13, 25⟩ : ExceptionTableEntry), (⟨0, 10, 17, 15⟩ : ExceptionTableEntry), (⟨0, 10, 21, 27⟩ : ExceptionTableEntry)] (⟨0, 10, 25, 99⟩ : ExceptionTableEntry) [] rfl hpass rfl (Nat.ne_of_beq_eq_false rfl) wd4_213 wd4_220 (fun q => ?_)
      refine v_astore C dL_takerOf_25 (by decide) ?_
      refine v_iconst (v := nI 4) C dL_takerOf_27 (by decide) ?_
      exact w_iret C E dL_takerOf_28 rfl (Or.inr ⟨3, _, rfl, hr, hF0, rfl⟩)
  · obtain ⟨e, hF0⟩ := hp
    rcases hA with ⟨r, hr⟩ | hr | hr | hr | hr
    · rw [hr] at e
      cases e
      obtain ⟨n1, h1⟩ := τ
      show V G K _ _ _ (n1, h1) 8 _ [.int r, .int (nI 0), .ref b]
      refine v_i2l C dL_takerOf_8 ?_
      refine v_last C dL_takerOf_9 hb (hF (n1, h1) hF0) (vp_in_nI (n := 0) (N := 1) (by decide) (by decide)) (fun h2 e2 k2 => ?_)
      refine v_goto (tgt := 29) C dL_takerOf_10 (by decide) ?_
      refine v_iconst (v := nI 0) C dL_takerOf_29 (by decide) ?_
      exact w_iret C E dL_takerOf_30 rfl (Or.inl ⟨r, (n1, h1), hr, rfl, hF0, rfl, e2, k2⟩)
    · rw [hr] at e
      cases e
    · rw [hr] at e
      cases e
    · rw [hr] at e
      cases e
    · rw [hr] at e
      cases e
theorem dL_traderByMoney_0 : decode cL_traderByMoney 0 = .ok (.aload_n 2, 1) := by decide +kernel
theorem dL_traderByMoney_1 : decode cL_traderByMoney 1 = .ok (.iconst 0, 1) := by decide +kernel
theorem dL_traderByMoney_2 : decode cL_traderByMoney 2 = .ok (.aload_n 0, 1) := by decide +kernel
theorem dL_traderByMoney_3 : decode cL_traderByMoney 3 = .ok (.iload_n 1, 1) := by decide +kernel
theorem dL_traderByMoney_4 : decode cL_traderByMoney 4 = .ok (.invokevirtual 101, 3) := by decide +kernel
theorem dL_traderByMoney_7 : decode cL_traderByMoney 7 = .ok (.i2l, 1) := by decide +kernel
theorem dL_traderByMoney_8 : decode cL_traderByMoney 8 = .ok (.lastore, 1) := by decide +kernel
theorem dL_traderByMoney_9 : decode cL_traderByMoney 9 = .ok (.goto 6, 3) := by decide +kernel
theorem dL_traderByMoney_12 : decode cL_traderByMoney 12 = .ok (.astore_n 3, 1) := by decide +kernel
theorem dL_traderByMoney_13 : decode cL_traderByMoney 13 = .ok (.iconst 1, 1) := by decide +kernel
theorem dL_traderByMoney_14 : decode cL_traderByMoney 14 = .ok (.ireturn, 1) := by decide +kernel
theorem dL_traderByMoney_15 : decode cL_traderByMoney 15 = .ok (.iconst 0, 1) := by decide +kernel
theorem dL_traderByMoney_16 : decode cL_traderByMoney 16 = .ok (.ireturn, 1) := by decide +kernel
def hhL_traderByMoney : hp_hh := [(0, 9, 12, 99)]
theorem mL_traderByMoney : hp_YW yL_traderByMoney cL_traderByMoney 4 (some .int) hhL_traderByMoney 3 := ⟨wd4_236, wd1_0, by decide +kernel, wd4_235⟩
set_option maxHeartbeats 4000000 in
theorem c_L_traderByMoney {G : hp_G} {l : Launch} (hl : l.stackTraces = false) {n0 : Nat} {h0 : Nat → Option va_E} {x b : Nat} {f : Nat → Int64} (hb : G.2.1 ≤ b) {fs : List Value} (hx : h0 x = some (.inr (9, fs))) {a1 : Int32} {ans : hp_O} {F : hp_T → Prop} {mc ms : Nat} (hC : Ct G l yX7_traderByMoney cX7_traderByMoney 3 (some .int) 7 mc ms [.ref x, .int a1] (n0, h0) (fun o τ => o = ans ∧ F τ)) (hF : ∀ τ, F τ → τ.2 b = some (.inl (G.2.2.1 3, 1, .inr (.inl f)))) (hA : (∃ r, ans = rI r) ∨ ans = .inr "java/util/NoSuchElementException") : Cw G l yL_traderByMoney cL_traderByMoney 4 (some .int) hhL_traderByMoney 8 mc ms [.ref x, .int a1, .ref b] (n0, h0) (Lw G b f Int32.toInt64 ans ["java/util/NoSuchElementException"] F) := by
  refine Cw.of rfl hl (by simp [Value.category]) (Nat.le_of_ble_eq_true rfl) (fun K C E hRm hKl => ?_)
  subst hKl
  refine v_aload_n C dL_traderByMoney_0 rfl ?_
  refine v_iconst (v := nI 0) C dL_traderByMoney_1 (by decide) ?_
  refine v_aload_n C dL_traderByMoney_2 rfl ?_
  refine v_iload_n C dL_traderByMoney_3 rfl ?_
  refine v_callVx C (rest := [.int (nI 0), .ref b]) hC dL_traderByMoney_4 mX7_traderByMoney rfl hx rfl wd4_237 rfl rfl (Nat.le_of_ble_eq_true rfl) (hp_rmle hRm (by decide) (by decide)) (Nat.le_refl _) (Nat.le_refl _) (fun EE τ hp => ?_) (fun v τ hp => ?_)
  · obtain ⟨e, hF0⟩ := hp
    rcases hA with ⟨r, hr⟩ | hr
    · rw [hr] at e
      cases e
    · rw [hr] at e
      cases e
      refine w_catch C E [] (⟨0, 9, 12, 99⟩ : ExceptionTableEntry) [] rfl (fun z hz => absurd hz List.not_mem_nil) rfl (Nat.ne_of_beq_eq_false rfl) wd4_213 wd4_220 (fun q => ?_)
      refine v_astore_n C dL_traderByMoney_12 (by decide) ?_
      refine v_iconst (v := nI 1) C dL_traderByMoney_13 (by decide) ?_
      exact w_iret C E dL_traderByMoney_14 rfl (Or.inr ⟨0, _, rfl, hr, hF0, rfl⟩)
  · obtain ⟨e, hF0⟩ := hp
    rcases hA with ⟨r, hr⟩ | hr
    · rw [hr] at e
      cases e
      obtain ⟨n1, h1⟩ := τ
      show V G K _ _ _ (n1, h1) 7 _ [.int r, .int (nI 0), .ref b]
      refine v_i2l C dL_traderByMoney_7 ?_
      refine v_last C dL_traderByMoney_8 hb (hF (n1, h1) hF0) (vp_in_nI (n := 0) (N := 1) (by decide) (by decide)) (fun h2 e2 k2 => ?_)
      refine v_goto (tgt := 15) C dL_traderByMoney_9 (by decide) ?_
      refine v_iconst (v := nI 0) C dL_traderByMoney_15 (by decide) ?_
      exact w_iret C E dL_traderByMoney_16 rfl (Or.inl ⟨r, (n1, h1), hr, rfl, hF0, rfl, e2, k2⟩)
    · rw [hr] at e
      cases e

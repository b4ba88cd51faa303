theorem dL_writeContract_0 : decode cL_writeContract 0 = .ok (.aload_n 2, 1) := by decide +kernel
theorem dL_writeContract_1 : decode cL_writeContract 1 = .ok (.iconst 0, 1) := by decide +kernel
theorem dL_writeContract_2 : decode cL_writeContract 2 = .ok (.aload_n 0, 1) := by decide +kernel
theorem dL_writeContract_3 : decode cL_writeContract 3 = .ok (.iload_n 1, 1) := by decide +kernel
theorem dL_writeContract_4 : decode cL_writeContract 4 = .ok (.invokevirtual 114, 3) := by decide +kernel
theorem dL_writeContract_7 : decode cL_writeContract 7 = .ok (.i2l, 1) := by decide +kernel
theorem dL_writeContract_8 : decode cL_writeContract 8 = .ok (.lastore, 1) := by decide +kernel
theorem dL_writeContract_9 : decode cL_writeContract 9 = .ok (.goto 6, 3) := by decide +kernel
theorem dL_writeContract_12 : decode cL_writeContract 12 = .ok (.astore_n 3, 1) := by decide +kernel
theorem dL_writeContract_13 : decode cL_writeContract 13 = .ok (.iconst 1, 1) := by decide +kernel
theorem dL_writeContract_14 : decode cL_writeContract 14 = .ok (.ireturn, 1) := by decide +kernel
theorem dL_writeContract_15 : decode cL_writeContract 15 = .ok (.iconst 0, 1) := by decide +kernel
theorem dL_writeContract_16 : decode cL_writeContract 16 = .ok (.ireturn, 1) := by decide +kernel
def hhL_writeContract : hp_hh := [(0, 9, 12, 25)]
theorem mL_writeContract : hp_YW yL_writeContract cL_writeContract 4 (some .int) hhL_writeContract 3 := ⟨wd5_39, wd1_0, by decide +kernel, wd5_38⟩
set_option maxHeartbeats 4000000 in
theorem c_L_writeContract {G : hp_G} {l : Launch} (hl : l.stackTraces = false) {n0 : Nat} {h0 : Nat → Option va_E} {x b : Nat} {f : Nat → Int64} (hb : G.2.1 ≤ b) {fs : List Value} (hx : h0 x = some (.inr (9, fs))) {a1 : Int32} {ans : hp_O} {F : hp_T → Prop} {mc ms : Nat} (hC : Ct G l yX7_writeContract cX7_writeContract 2 (some .int) 8 mc ms [.ref x, .int a1] (n0, h0) (fun o τ => o = ans ∧ F τ)) (hF : ∀ τ, F τ → τ.2 b = some (.inl (G.2.2.1 3, 1, .inr (.inl f)))) (hA : (∃ r, ans = rI r) ∨ ans = .inr "java/lang/IndexOutOfBoundsException") : Cw G l yL_writeContract cL_writeContract 4 (some .int) hhL_writeContract 9 mc ms [.ref x, .int a1, .ref b] (n0, h0) (Lw G b f Int32.toInt64 ans ["java/lang/IndexOutOfBoundsException"] F) := by
  refine Cw.of rfl hl (by simp [Value.category]) (Nat.le_of_ble_eq_true rfl) (fun K C E hRm hKl => ?_)
  subst hKl
  refine v_aload_n C dL_writeContract_0 rfl ?_
  refine v_iconst (v := nI 0) C dL_writeContract_1 (by decide) ?_
  refine v_aload_n C dL_writeContract_2 rfl ?_
  refine v_iload_n C dL_writeContract_3 rfl ?_
  refine v_callVx C (rest := [.int (nI 0), .ref b]) hC dL_writeContract_4 mX7_writeContract rfl hx rfl wd5_40 rfl rfl (Nat.le_of_ble_eq_true rfl) (hp_rmle hRm (by decide) (by decide)) (Nat.le_refl _) (Nat.le_refl _) (fun EE τ hp => ?_) (fun v τ hp => ?_)
  · obtain ⟨e, hF0⟩ := hp
    rcases hA with ⟨r, hr⟩ | hr
    · rw [hr] at e
      cases e
    · rw [hr] at e
      cases e
      refine w_catch C E [] (⟨0, 9, 12, 25⟩ : ExceptionTableEntry) [] rfl (fun z hz => absurd hz List.not_mem_nil) rfl (Nat.ne_of_beq_eq_false rfl) wd4_21 wd2_125 (fun q => ?_)
      refine v_astore_n C dL_writeContract_12 (by decide) ?_
      refine v_iconst (v := nI 1) C dL_writeContract_13 (by decide) ?_
      exact w_iret C E dL_writeContract_14 rfl (Or.inr ⟨0, _, rfl, hr, hF0, rfl⟩)
  · obtain ⟨e, hF0⟩ := hp
    rcases hA with ⟨r, hr⟩ | hr
    · rw [hr] at e
      cases e
      obtain ⟨n1, h1⟩ := τ
      show V G K _ _ _ (n1, h1) 7 _ [.int r, .int (nI 0), .ref b]
      refine v_i2l C dL_writeContract_7 ?_
      refine v_last C dL_writeContract_8 hb (hF (n1, h1) hF0) (vp_in_nI (n := 0) (N := 1) (by decide) (by decide)) (fun h2 e2 k2 => ?_)
      refine v_goto (tgt := 15) C dL_writeContract_9 (by decide) ?_
      refine v_iconst (v := nI 0) C dL_writeContract_15 (by decide) ?_
      exact w_iret C E dL_writeContract_16 rfl (Or.inl ⟨r, (n1, h1), hr, rfl, hF0, rfl, e2, k2⟩)
    · rw [hr] at e
      cases e
theorem dL_writeTrader_0 : decode cL_writeTrader 0 = .ok (.aload_n 2, 1) := by decide +kernel
theorem dL_writeTrader_1 : decode cL_writeTrader 1 = .ok (.iconst 0, 1) := by decide +kernel
theorem dL_writeTrader_2 : decode cL_writeTrader 2 = .ok (.aload_n 0, 1) := by decide +kernel
theorem dL_writeTrader_3 : decode cL_writeTrader 3 = .ok (.iload_n 1, 1) := by decide +kernel
theorem dL_writeTrader_4 : decode cL_writeTrader 4 = .ok (.invokevirtual 117, 3) := by decide +kernel
theorem dL_writeTrader_7 : decode cL_writeTrader 7 = .ok (.i2l, 1) := by decide +kernel
theorem dL_writeTrader_8 : decode cL_writeTrader 8 = .ok (.lastore, 1) := by decide +kernel
theorem dL_writeTrader_9 : decode cL_writeTrader 9 = .ok (.goto 6, 3) := by decide +kernel
theorem dL_writeTrader_12 : decode cL_writeTrader 12 = .ok (.astore_n 3, 1) := by decide +kernel
theorem dL_writeTrader_13 : decode cL_writeTrader 13 = .ok (.iconst 1, 1) := by decide +kernel
theorem dL_writeTrader_14 : decode cL_writeTrader 14 = .ok (.ireturn, 1) := by decide +kernel
theorem dL_writeTrader_15 : decode cL_writeTrader 15 = .ok (.iconst 0, 1) := by decide +kernel
theorem dL_writeTrader_16 : decode cL_writeTrader 16 = .ok (.ireturn, 1) := by decide +kernel
def hhL_writeTrader : hp_hh := [(0, 9, 12, 25)]
theorem mL_writeTrader : hp_YW yL_writeTrader cL_writeTrader 4 (some .int) hhL_writeTrader 3 := ⟨wd6_81, wd1_0, by decide +kernel, wd6_80⟩
set_option maxHeartbeats 4000000 in
theorem c_L_writeTrader {G : hp_G} {l : Launch} (hl : l.stackTraces = false) {n0 : Nat} {h0 : Nat → Option va_E} {x b : Nat} {f : Nat → Int64} (hb : G.2.1 ≤ b) {fs : List Value} (hx : h0 x = some (.inr (9, fs))) {a1 : Int32} {ans : hp_O} {F : hp_T → Prop} {mc ms : Nat} (hC : Ct G l yX7_writeTrader cX7_writeTrader 2 (some .int) 8 mc ms [.ref x, .int a1] (n0, h0) (fun o τ => o = ans ∧ F τ)) (hF : ∀ τ, F τ → τ.2 b = some (.inl (G.2.2.1 3, 1, .inr (.inl f)))) (hA : (∃ r, ans = rI r) ∨ ans = .inr "java/lang/IndexOutOfBoundsException") : Cw G l yL_writeTrader cL_writeTrader 4 (some .int) hhL_writeTrader 9 mc ms [.ref x, .int a1, .ref b] (n0, h0) (Lw G b f Int32.toInt64 ans ["java/lang/IndexOutOfBoundsException"] F) := by
  refine Cw.of rfl hl (by simp [Value.category]) (Nat.le_of_ble_eq_true rfl) (fun K C E hRm hKl => ?_)
  subst hKl
  refine v_aload_n C dL_writeTrader_0 rfl ?_
  refine v_iconst (v := nI 0) C dL_writeTrader_1 (by decide) ?_
  refine v_aload_n C dL_writeTrader_2 rfl ?_
  refine v_iload_n C dL_writeTrader_3 rfl ?_
  refine v_callVx C (rest := [.int (nI 0), .ref b]) hC dL_writeTrader_4 mX7_writeTrader rfl hx rfl wd6_82 rfl rfl (Nat.le_of_ble_eq_true rfl) (hp_rmle hRm (by decide) (by decide)) (Nat.le_refl _) (Nat.le_refl _) (fun EE τ hp => ?_) (fun v τ hp => ?_)
  · obtain ⟨e, hF0⟩ := hp
    rcases hA with ⟨r, hr⟩ | hr
    · rw [hr] at e
      cases e
    · rw [hr] at e
      cases e
      refine w_catch C E [] (⟨0, 9, 12, 25⟩ : ExceptionTableEntry) [] rfl (fun z hz => absurd hz List.not_mem_nil) rfl (Nat.ne_of_beq_eq_false rfl) wd4_21 wd2_125 (fun q => ?_)
      refine v_astore_n C dL_writeTrader_12 (by decide) ?_
      refine v_iconst (v := nI 1) C dL_writeTrader_13 (by decide) ?_
      exact w_iret C E dL_writeTrader_14 rfl (Or.inr ⟨0, _, rfl, hr, hF0, rfl⟩)
  · obtain ⟨e, hF0⟩ := hp
    rcases hA with ⟨r, hr⟩ | hr
    · rw [hr] at e
      cases e
      obtain ⟨n1, h1⟩ := τ
      show V G K _ _ _ (n1, h1) 7 _ [.int r, .int (nI 0), .ref b]
      refine v_i2l C dL_writeTrader_7 ?_
      refine v_last C dL_writeTrader_8 hb (hF (n1, h1) hF0) (vp_in_nI (n := 0) (N := 1) (by decide) (by decide)) (fun h2 e2 k2 => ?_)
      refine v_goto (tgt := 15) C dL_writeTrader_9 (by decide) ?_
      refine v_iconst (v := nI 0) C dL_writeTrader_15 (by decide) ?_
      exact w_iret C E dL_writeTrader_16 rfl (Or.inl ⟨r, (n1, h1), hr, rfl, hF0, rfl, e2, k2⟩)
    · rw [hr] at e
      cases e
theorem dL_lineAt_0 : decode cL_lineAt 0 = .ok (.aload_n 2, 1) := by decide +kernel
theorem dL_lineAt_1 : decode cL_lineAt 1 = .ok (.iconst 0, 1) := by decide +kernel
theorem dL_lineAt_2 : decode cL_lineAt 2 = .ok (.aload_n 0, 1) := by decide +kernel
theorem dL_lineAt_3 : decode cL_lineAt 3 = .ok (.iload_n 1, 1) := by decide +kernel
theorem dL_lineAt_4 : decode cL_lineAt 4 = .ok (.invokevirtual 120, 3) := by decide +kernel
theorem dL_lineAt_7 : decode cL_lineAt 7 = .ok (.i2l, 1) := by decide +kernel
theorem dL_lineAt_8 : decode cL_lineAt 8 = .ok (.lastore, 1) := by decide +kernel
theorem dL_lineAt_9 : decode cL_lineAt 9 = .ok (.goto 6, 3) := by decide +kernel
theorem dL_lineAt_12 : decode cL_lineAt 12 = .ok (.astore_n 3, 1) := by decide +kernel
theorem dL_lineAt_13 : decode cL_lineAt 13 = .ok (.iconst 1, 1) := by decide +kernel
theorem dL_lineAt_14 : decode cL_lineAt 14 = .ok (.ireturn, 1) := by decide +kernel
theorem dL_lineAt_15 : decode cL_lineAt 15 = .ok (.iconst 0, 1) := by decide +kernel
theorem dL_lineAt_16 : decode cL_lineAt 16 = .ok (.ireturn, 1) := by decide +kernel
def hhL_lineAt : hp_hh := [(0, 9, 12, 25)]
theorem mL_lineAt : hp_YW yL_lineAt cL_lineAt 4 (some .int) hhL_lineAt 3 := ⟨wd6_88, wd1_0, by decide +kernel, wd6_87⟩
set_option maxHeartbeats 4000000 in
theorem c_L_lineAt {G : hp_G} {l : Launch} (hl : l.stackTraces = false) {n0 : Nat} {h0 : Nat → Option va_E} {x b : Nat} {f : Nat → Int64} (hb : G.2.1 ≤ b) {fs : List Value} (hx : h0 x = some (.inr (9, fs))) {a1 : Int32} {ans : hp_O} {F : hp_T → Prop} {mc ms : Nat} (hC : Ct G l yX7_lineAt cX7_lineAt 2 (some .char) 8 mc ms [.ref x, .int a1] (n0, h0) (fun o τ => o = ans ∧ F τ)) (hF : ∀ τ, F τ → τ.2 b = some (.inl (G.2.2.1 3, 1, .inr (.inl f)))) (hA : (∃ r, ans = rI r) ∨ ans = .inr "java/lang/IndexOutOfBoundsException") : Cw G l yL_lineAt cL_lineAt 4 (some .int) hhL_lineAt 9 mc ms [.ref x, .int a1, .ref b] (n0, h0) (Lw G b f Int32.toInt64 ans ["java/lang/IndexOutOfBoundsException"] F) := by
  refine Cw.of rfl hl (by simp [Value.category]) (Nat.le_of_ble_eq_true rfl) (fun K C E hRm hKl => ?_)
  subst hKl
  refine v_aload_n C dL_lineAt_0 rfl ?_
  refine v_iconst (v := nI 0) C dL_lineAt_1 (by decide) ?_
  refine v_aload_n C dL_lineAt_2 rfl ?_
  refine v_iload_n C dL_lineAt_3 rfl ?_
  refine v_callVx C (rest := [.int (nI 0), .ref b]) hC dL_lineAt_4 mX7_lineAt rfl hx rfl wd6_89 rfl rfl (Nat.le_of_ble_eq_true rfl) (hp_rmle hRm (by decide) (by decide)) (Nat.le_refl _) (Nat.le_refl _) (fun EE τ hp => ?_) (fun v τ hp => ?_)
  · obtain ⟨e, hF0⟩ := hp
    rcases hA with ⟨r, hr⟩ | hr
    · rw [hr] at e
      cases e
    · rw [hr] at e
      cases e
      refine w_catch C E [] (⟨0, 9, 12, 25⟩ : ExceptionTableEntry) [] rfl (fun z hz => absurd hz List.not_mem_nil) rfl (Nat.ne_of_beq_eq_false rfl) wd4_21 wd2_125 (fun q => ?_)
      refine v_astore_n C dL_lineAt_12 (by decide) ?_
      refine v_iconst (v := nI 1) C dL_lineAt_13 (by decide) ?_
      exact w_iret C E dL_lineAt_14 rfl (Or.inr ⟨0, _, rfl, hr, hF0, rfl⟩)
  · obtain ⟨e, hF0⟩ := hp
    rcases hA with ⟨r, hr⟩ | hr
    · rw [hr] at e
      cases e
      obtain ⟨n1, h1⟩ := τ
      show V G K _ _ _ (n1, h1) 7 _ [.int r, .int (nI 0), .ref b]
      refine v_i2l C dL_lineAt_7 ?_
      refine v_last C dL_lineAt_8 hb (hF (n1, h1) hF0) (vp_in_nI (n := 0) (N := 1) (by decide) (by decide)) (fun h2 e2 k2 => ?_)
      refine v_goto (tgt := 15) C dL_lineAt_9 (by decide) ?_
      refine v_iconst (v := nI 0) C dL_lineAt_15 (by decide) ?_
      exact w_iret C E dL_lineAt_16 rfl (Or.inl ⟨r, (n1, h1), hr, rfl, hF0, rfl, e2, k2⟩)
    · rw [hr] at e
      cases e
theorem dL_type_0 : decode cL_type 0 = .ok (.aload_n 2, 1) := by decide +kernel
theorem dL_type_1 : decode cL_type 1 = .ok (.iconst 0, 1) := by decide +kernel
theorem dL_type_2 : decode cL_type 2 = .ok (.aload_n 0, 1) := by decide +kernel
theorem dL_type_3 : decode cL_type 3 = .ok (.iload_n 1, 1) := by decide +kernel
theorem dL_type_4 : decode cL_type 4 = .ok (.invokevirtual 124, 3) := by decide +kernel
theorem dL_type_7 : decode cL_type 7 = .ok (.i2l, 1) := by decide +kernel
theorem dL_type_8 : decode cL_type 8 = .ok (.lastore, 1) := by decide +kernel
theorem dL_type_9 : decode cL_type 9 = .ok (.goto 9, 3) := by decide +kernel
theorem dL_type_12 : decode cL_type 12 = .ok (.astore_n 3, 1) := by decide +kernel
theorem dL_type_13 : decode cL_type 13 = .ok (.iconst 1, 1) := by decide +kernel
theorem dL_type_14 : decode cL_type 14 = .ok (.ireturn, 1) := by decide +kernel
theorem dL_type_15 : decode cL_type 15 = .ok (.astore_n 3, 1) := by decide +kernel
theorem dL_type_16 : decode cL_type 16 = .ok (.iconst 2, 1) := by decide +kernel
theorem dL_type_17 : decode cL_type 17 = .ok (.ireturn, 1) := by decide +kernel
theorem dL_type_18 : decode cL_type 18 = .ok (.iconst 0, 1) := by decide +kernel
theorem dL_type_19 : decode cL_type 19 = .ok (.ireturn, 1) := by decide +kernel
def hhL_type : hp_hh := [(0, 9, 12, 13), (0, 9, 15, 15)]
theorem mL_type : hp_YW yL_type cL_type 4 (some .int) hhL_type 3 := ⟨wd6_105, wd1_0, by decide +kernel, wd6_104⟩
set_option maxHeartbeats 4000000 in
theorem c_L_type {G : hp_G} {l : Launch} (hl : l.stackTraces = false) {n0 : Nat} {h0 : Nat → Option va_E} {x b : Nat} {f : Nat → Int64} (hb : G.2.1 ≤ b) {fs : List Value} (hx : h0 x = some (.inr (9, fs))) {a1 : Int32} {ans : hp_O} {F : hp_T → Prop} {mc ms : Nat} (hC : Ct G l yX7_type cX7_type 2 (some .int) 7 mc ms [.ref x, .int a1] (n0, h0) (fun o τ => o = ans ∧ F τ)) (hF : ∀ τ, F τ → τ.2 b = some (.inl (G.2.2.1 3, 1, .inr (.inl f)))) (hA : (∃ r, ans = rI r) ∨ ans = .inr "java/lang/IllegalArgumentException" ∨ ans = .inr "java/lang/IllegalStateException") : Cw G l yL_type cL_type 4 (some .int) hhL_type 8 mc ms [.ref x, .int a1, .ref b] (n0, h0) (Lw G b f Int32.toInt64 ans ["java/lang/IllegalArgumentException", "java/lang/IllegalStateException"] F) := by
  refine Cw.of rfl hl (by simp [Value.category]) (Nat.le_of_ble_eq_true rfl) (fun K C E hRm hKl => ?_)
  subst hKl
  refine v_aload_n C dL_type_0 rfl ?_
  refine v_iconst (v := nI 0) C dL_type_1 (by decide) ?_
  refine v_aload_n C dL_type_2 rfl ?_
  refine v_iload_n C dL_type_3 rfl ?_
  refine v_callVx C (rest := [.int (nI 0), .ref b]) hC dL_type_4 mX7_type rfl hx rfl wd6_106 rfl rfl (Nat.le_of_ble_eq_true rfl) (hp_rmle hRm (by decide) (by decide)) (Nat.le_refl _) (Nat.le_refl _) (fun EE τ hp => ?_) (fun v τ hp => ?_)
  · obtain ⟨e, hF0⟩ := hp
    rcases hA with ⟨r, hr⟩ | hr | hr
    · rw [hr] at e
      cases e
    · rw [hr] at e
      cases e
      refine w_catch C E [] (⟨0, 9, 12, 13⟩ : ExceptionTableEntry) [(⟨0, 9, 15, 15⟩ : ExceptionTableEntry)] rfl (fun z hz => absurd hz List.not_mem_nil) rfl (Nat.ne_of_beq_eq_false rfl) wd4_5 wd2_197 (fun q => ?_)
      refine v_astore_n C dL_type_12 (by decide) ?_
      refine v_iconst (v := nI 1) C dL_type_13 (by decide) ?_
      exact w_iret C E dL_type_14 rfl (Or.inr ⟨0, _, rfl, hr, hF0, rfl⟩)
    · rw [hr] at e
      cases e
      have hpass : ∀ z ∈ ([(⟨0, 9, 12, 13⟩ : ExceptionTableEntry)] : List ExceptionTableEntry), z.catchType ≠ 0 ∧ ∃ nm ∈ hp_ex, "java/lang/IllegalStateException" ∈ hp_ex ∧ "java/lang/IllegalStateException" ≠ nm ∧ Cond.classLink "HorizonExchangeLaw" z.catchType nm ∈ lw_tbl := by
        intro z hz
        simp only [List.mem_cons, List.not_mem_nil, or_false] at hz
        subst hz
        exact ⟨by decide, "java/lang/IllegalArgumentException", by decide, by decide, by decide, wd4_5⟩
      refine w_catch C E [(⟨0, 9, 12, 13⟩ : ExceptionTableEntry)] (⟨0, 9, 15, 15⟩ : ExceptionTableEntry) [] rfl hpass rfl (Nat.ne_of_beq_eq_false rfl) wd4_6 wd2_213 (fun q => ?_)
      refine v_astore_n C dL_type_15 (by decide) ?_
      refine v_iconst (v := nI 2) C dL_type_16 (by decide) ?_
      exact w_iret C E dL_type_17 rfl (Or.inr ⟨1, _, rfl, hr, hF0, rfl⟩)
  · obtain ⟨e, hF0⟩ := hp
    rcases hA with ⟨r, hr⟩ | hr | hr
    · rw [hr] at e
      cases e
      obtain ⟨n1, h1⟩ := τ
      show V G K _ _ _ (n1, h1) 7 _ [.int r, .int (nI 0), .ref b]
      refine v_i2l C dL_type_7 ?_
      refine v_last C dL_type_8 hb (hF (n1, h1) hF0) (vp_in_nI (n := 0) (N := 1) (by decide) (by decide)) (fun h2 e2 k2 => ?_)
      refine v_goto (tgt := 18) C dL_type_9 (by decide) ?_
      refine v_iconst (v := nI 0) C dL_type_18 (by decide) ?_
      exact w_iret C E dL_type_19 rfl (Or.inl ⟨r, (n1, h1), hr, rfl, hF0, rfl, e2, k2⟩)
    · rw [hr] at e
      cases e
    · rw [hr] at e
      cases e
theorem dL_execute_0 : decode cL_execute 0 = .ok (.aload_n 1, 1) := by decide +kernel
theorem dL_execute_1 : decode cL_execute 1 = .ok (.iconst 0, 1) := by decide +kernel
theorem dL_execute_2 : decode cL_execute 2 = .ok (.aload_n 0, 1) := by decide +kernel
theorem dL_execute_3 : decode cL_execute 3 = .ok (.invokevirtual 128, 3) := by decide +kernel
theorem dL_execute_6 : decode cL_execute 6 = .ok (.i2l, 1) := by decide +kernel
theorem dL_execute_7 : decode cL_execute 7 = .ok (.lastore, 1) := by decide +kernel
theorem dL_execute_8 : decode cL_execute 8 = .ok (.goto 9, 3) := by decide +kernel
theorem dL_execute_11 : decode cL_execute 11 = .ok (.astore_n 2, 1) := by decide +kernel
theorem dL_execute_12 : decode cL_execute 12 = .ok (.iconst 1, 1) := by decide +kernel
theorem dL_execute_13 : decode cL_execute 13 = .ok (.ireturn, 1) := by decide +kernel
theorem dL_execute_14 : decode cL_execute 14 = .ok (.astore_n 2, 1) := by decide +kernel
theorem dL_execute_15 : decode cL_execute 15 = .ok (.iconst 2, 1) := by decide +kernel
theorem dL_execute_16 : decode cL_execute 16 = .ok (.ireturn, 1) := by decide +kernel
theorem dL_execute_17 : decode cL_execute 17 = .ok (.iconst 0, 1) := by decide +kernel
theorem dL_execute_18 : decode cL_execute 18 = .ok (.ireturn, 1) := by decide +kernel
def hhL_execute : hp_hh := [(0, 8, 11, 13), (0, 8, 14, 15)]
theorem mL_execute : hp_YW yL_execute cL_execute 3 (some .int) hhL_execute 2 := ⟨wd6_114, wd1_0, by decide +kernel, wd6_113⟩
set_option maxHeartbeats 4000000 in
theorem c_L_execute {G : hp_G} {l : Launch} (hl : l.stackTraces = false) {n0 : Nat} {h0 : Nat → Option va_E} {x b : Nat} {f : Nat → Int64} (hb : G.2.1 ≤ b) {fs : List Value} (hx : h0 x = some (.inr (9, fs))) {ans : hp_O} {F : hp_T → Prop} {mc ms : Nat} (hC : Ct G l yX7_execute cX7_execute 9 (some .int) 11 mc ms [.ref x] (n0, h0) (fun o τ => o = ans ∧ F τ)) (hF : ∀ τ, F τ → τ.2 b = some (.inl (G.2.2.1 3, 1, .inr (.inl f)))) (hA : (∃ r, ans = rI r) ∨ ans = .inr "java/lang/IllegalArgumentException" ∨ ans = .inr "java/lang/IllegalStateException") : Cw G l yL_execute cL_execute 3 (some .int) hhL_execute 12 mc ms [.ref x, .ref b] (n0, h0) (Lw G b f Int32.toInt64 ans ["java/lang/IllegalArgumentException", "java/lang/IllegalStateException"] F) := by
  refine Cw.of rfl hl (by simp [Value.category]) (Nat.le_of_ble_eq_true rfl) (fun K C E hRm hKl => ?_)
  subst hKl
  refine v_aload_n C dL_execute_0 rfl ?_
  refine v_iconst (v := nI 0) C dL_execute_1 (by decide) ?_
  refine v_aload_n C dL_execute_2 rfl ?_
  refine v_callVx C (rest := [.int (nI 0), .ref b]) hC dL_execute_3 mX7_execute rfl hx rfl wd6_115 rfl rfl (Nat.le_of_ble_eq_true rfl) (hp_rmle hRm (by decide) (by decide)) (Nat.le_refl _) (Nat.le_refl _) (fun EE τ hp => ?_) (fun v τ hp => ?_)
  · obtain ⟨e, hF0⟩ := hp
    rcases hA with ⟨r, hr⟩ | hr | hr
    · rw [hr] at e
      cases e
    · rw [hr] at e
      cases e
      refine w_catch C E [] (⟨0, 8, 11, 13⟩ : ExceptionTableEntry) [(⟨0, 8, 14, 15⟩ : ExceptionTableEntry)] rfl (fun z hz => absurd hz List.not_mem_nil) rfl (Nat.ne_of_beq_eq_false rfl) wd4_5 wd2_197 (fun q => ?_)
      refine v_astore_n C dL_execute_11 (by decide) ?_
      refine v_iconst (v := nI 1) C dL_execute_12 (by decide) ?_
      exact w_iret C E dL_execute_13 rfl (Or.inr ⟨0, _, rfl, hr, hF0, rfl⟩)
    · rw [hr] at e
      cases e
      have hpass : ∀ z ∈ ([(⟨0, 8, 11, 13⟩ : ExceptionTableEntry)] : List ExceptionTableEntry), z.catchType ≠ 0 ∧ ∃ nm ∈ hp_ex, "java/lang/IllegalStateException" ∈ hp_ex ∧ "java/lang/IllegalStateException" ≠ nm ∧ Cond.classLink "HorizonExchangeLaw" z.catchType nm ∈ lw_tbl := by
        intro z hz
        simp only [List.mem_cons, List.not_mem_nil, or_false] at hz
        subst hz
        exact ⟨by decide, "java/lang/IllegalArgumentException", by decide, by decide, by decide, wd4_5⟩
      refine w_catch C E [(⟨0, 8, 11, 13⟩ : ExceptionTableEntry)] (⟨0, 8, 14, 15⟩ : ExceptionTableEntry) [] rfl hpass rfl (Nat.ne_of_beq_eq_false rfl) wd4_6 wd2_213 (fun q => ?_)
      refine v_astore_n C dL_execute_14 (by decide) ?_
      refine v_iconst (v := nI 2) C dL_execute_15 (by decide) ?_
      exact w_iret C E dL_execute_16 rfl (Or.inr ⟨1, _, rfl, hr, hF0, rfl⟩)
  · obtain ⟨e, hF0⟩ := hp
    rcases hA with ⟨r, hr⟩ | hr | hr
    · rw [hr] at e
      cases e
      obtain ⟨n1, h1⟩ := τ
      show V G K _ _ _ (n1, h1) 6 _ [.int r, .int (nI 0), .ref b]
      refine v_i2l C dL_execute_6 ?_
      refine v_last C dL_execute_7 hb (hF (n1, h1) hF0) (vp_in_nI (n := 0) (N := 1) (by decide) (by decide)) (fun h2 e2 k2 => ?_)
      refine v_goto (tgt := 17) C dL_execute_8 (by decide) ?_
      refine v_iconst (v := nI 0) C dL_execute_17 (by decide) ?_
      exact w_iret C E dL_execute_18 rfl (Or.inl ⟨r, (n1, h1), hr, rfl, hF0, rfl, e2, k2⟩)
    · rw [hr] at e
      cases e
    · rw [hr] at e
      cases e
theorem dL_errorPosition_0 : decode cL_errorPosition 0 = .ok (.aload_n 1, 1) := by decide +kernel
theorem dL_errorPosition_1 : decode cL_errorPosition 1 = .ok (.iconst 0, 1) := by decide +kernel
theorem dL_errorPosition_2 : decode cL_errorPosition 2 = .ok (.aload_n 0, 1) := by decide +kernel
theorem dL_errorPosition_3 : decode cL_errorPosition 3 = .ok (.invokevirtual 132, 3) := by decide +kernel
theorem dL_errorPosition_6 : decode cL_errorPosition 6 = .ok (.i2l, 1) := by decide +kernel
theorem dL_errorPosition_7 : decode cL_errorPosition 7 = .ok (.lastore, 1) := by decide +kernel
theorem dL_errorPosition_8 : decode cL_errorPosition 8 = .ok (.goto 6, 3) := by decide +kernel
theorem dL_errorPosition_11 : decode cL_errorPosition 11 = .ok (.astore_n 2, 1) := by decide +kernel
theorem dL_errorPosition_12 : decode cL_errorPosition 12 = .ok (.iconst 1, 1) := by decide +kernel
theorem dL_errorPosition_13 : decode cL_errorPosition 13 = .ok (.ireturn, 1) := by decide +kernel
theorem dL_errorPosition_14 : decode cL_errorPosition 14 = .ok (.iconst 0, 1) := by decide +kernel
theorem dL_errorPosition_15 : decode cL_errorPosition 15 = .ok (.ireturn, 1) := by decide +kernel
def hhL_errorPosition : hp_hh := [(0, 8, 11, 99)]
theorem mL_errorPosition : hp_YW yL_errorPosition cL_errorPosition 3 (some .int) hhL_errorPosition 2 := ⟨wd6_197, wd1_0, by decide +kernel, wd6_196⟩
set_option maxHeartbeats 4000000 in
theorem c_L_errorPosition {G : hp_G} {l : Launch} (hl : l.stackTraces = false) {n0 : Nat} {h0 : Nat → Option va_E} {x b : Nat} {f : Nat → Int64} (hb : G.2.1 ≤ b) {fs : List Value} (hx : h0 x = some (.inr (9, fs))) {ans : hp_O} {F : hp_T → Prop} {mc ms : Nat} (hC : Ct G l yX7_errorPosition cX7_errorPosition 1 (some .int) 7 mc ms [.ref x] (n0, h0) (fun o τ => o = ans ∧ F τ)) (hF : ∀ τ, F τ → τ.2 b = some (.inl (G.2.2.1 3, 1, .inr (.inl f)))) (hA : (∃ r, ans = rI r) ∨ ans = .inr "java/util/NoSuchElementException") : Cw G l yL_errorPosition cL_errorPosition 3 (some .int) hhL_errorPosition 8 mc ms [.ref x, .ref b] (n0, h0) (Lw G b f Int32.toInt64 ans ["java/util/NoSuchElementException"] F) := by
  refine Cw.of rfl hl (by simp [Value.category]) (Nat.le_of_ble_eq_true rfl) (fun K C E hRm hKl => ?_)
  subst hKl
  refine v_aload_n C dL_errorPosition_0 rfl ?_
  refine v_iconst (v := nI 0) C dL_errorPosition_1 (by decide) ?_
  refine v_aload_n C dL_errorPosition_2 rfl ?_
  refine v_callVx C (rest := [.int (nI 0), .ref b]) hC dL_errorPosition_3 mX7_errorPosition rfl hx rfl wd6_198 rfl rfl (Nat.le_of_ble_eq_true rfl) (hp_rmle hRm (by decide) (by decide)) (Nat.le_refl _) (Nat.le_refl _) (fun EE τ hp => ?_) (fun v τ hp => ?_)
  · obtain ⟨e, hF0⟩ := hp
    rcases hA with ⟨r, hr⟩ | hr
    · rw [hr] at e
      cases e
    · rw [hr] at e
      cases e
      refine w_catch C E [] (⟨0, 8, 11, 99⟩ : ExceptionTableEntry) [] rfl (fun z hz => absurd hz List.not_mem_nil) rfl (Nat.ne_of_beq_eq_false rfl) wd4_213 wd4_220 (fun q => ?_)
      refine v_astore_n C dL_errorPosition_11 (by decide) ?_
      refine v_iconst (v := nI 1) C dL_errorPosition_12 (by decide) ?_
      exact w_iret C E dL_errorPosition_13 rfl (Or.inr ⟨0, _, rfl, hr, hF0, rfl⟩)
  · obtain ⟨e, hF0⟩ := hp
    rcases hA with ⟨r, hr⟩ | hr
    · rw [hr] at e
      cases e
      obtain ⟨n1, h1⟩ := τ
      show V G K _ _ _ (n1, h1) 6 _ [.int r, .int (nI 0), .ref b]
      refine v_i2l C dL_errorPosition_6 ?_
      refine v_last C dL_errorPosition_7 hb (hF (n1, h1) hF0) (vp_in_nI (n := 0) (N := 1) (by decide) (by decide)) (fun h2 e2 k2 => ?_)
      refine v_goto (tgt := 14) C dL_errorPosition_8 (by decide) ?_
      refine v_iconst (v := nI 0) C dL_errorPosition_14 (by decide) ?_
      exact w_iret C E dL_errorPosition_15 rfl (Or.inl ⟨r, (n1, h1), hr, rfl, hF0, rfl, e2, k2⟩)
    · rw [hr] at e
      cases e
theorem dL_failedCommand_0 : decode cL_failedCommand 0 = .ok (.aload_n 1, 1) := by decide +kernel
theorem dL_failedCommand_1 : decode cL_failedCommand 1 = .ok (.iconst 0, 1) := by decide +kernel
theorem dL_failedCommand_2 : decode cL_failedCommand 2 = .ok (.aload_n 0, 1) := by decide +kernel
theorem dL_failedCommand_3 : decode cL_failedCommand 3 = .ok (.invokevirtual 135, 3) := by decide +kernel
theorem dL_failedCommand_6 : decode cL_failedCommand 6 = .ok (.i2l, 1) := by decide +kernel
theorem dL_failedCommand_7 : decode cL_failedCommand 7 = .ok (.lastore, 1) := by decide +kernel
theorem dL_failedCommand_8 : decode cL_failedCommand 8 = .ok (.goto 6, 3) := by decide +kernel
theorem dL_failedCommand_11 : decode cL_failedCommand 11 = .ok (.astore_n 2, 1) := by decide +kernel
theorem dL_failedCommand_12 : decode cL_failedCommand 12 = .ok (.iconst 1, 1) := by decide +kernel
theorem dL_failedCommand_13 : decode cL_failedCommand 13 = .ok (.ireturn, 1) := by decide +kernel
theorem dL_failedCommand_14 : decode cL_failedCommand 14 = .ok (.iconst 0, 1) := by decide +kernel
theorem dL_failedCommand_15 : decode cL_failedCommand 15 = .ok (.ireturn, 1) := by decide +kernel
def hhL_failedCommand : hp_hh := [(0, 8, 11, 99)]
theorem mL_failedCommand : hp_YW yL_failedCommand cL_failedCommand 3 (some .int) hhL_failedCommand 2 := ⟨wd6_205, wd1_0, by decide +kernel, wd6_204⟩
set_option maxHeartbeats 4000000 in
theorem c_L_failedCommand {G : hp_G} {l : Launch} (hl : l.stackTraces = false) {n0 : Nat} {h0 : Nat → Option va_E} {x b : Nat} {f : Nat → Int64} (hb : G.2.1 ≤ b) {fs : List Value} (hx : h0 x = some (.inr (9, fs))) {ans : hp_O} {F : hp_T → Prop} {mc ms : Nat} (hC : Ct G l yX7_failedCommand cX7_failedCommand 1 (some .int) 7 mc ms [.ref x] (n0, h0) (fun o τ => o = ans ∧ F τ)) (hF : ∀ τ, F τ → τ.2 b = some (.inl (G.2.2.1 3, 1, .inr (.inl f)))) (hA : (∃ r, ans = rI r) ∨ ans = .inr "java/util/NoSuchElementException") : Cw G l yL_failedCommand cL_failedCommand 3 (some .int) hhL_failedCommand 8 mc ms [.ref x, .ref b] (n0, h0) (Lw G b f Int32.toInt64 ans ["java/util/NoSuchElementException"] F) := by
  refine Cw.of rfl hl (by simp [Value.category]) (Nat.le_of_ble_eq_true rfl) (fun K C E hRm hKl => ?_)
  subst hKl
  refine v_aload_n C dL_failedCommand_0 rfl ?_
  refine v_iconst (v := nI 0) C dL_failedCommand_1 (by decide) ?_
  refine v_aload_n C dL_failedCommand_2 rfl ?_
  refine v_callVx C (rest := [.int (nI 0), .ref b]) hC dL_failedCommand_3 mX7_failedCommand rfl hx rfl wd6_206 rfl rfl (Nat.le_of_ble_eq_true rfl) (hp_rmle hRm (by decide) (by decide)) (Nat.le_refl _) (Nat.le_refl _) (fun EE τ hp => ?_) (fun v τ hp => ?_)
  · obtain ⟨e, hF0⟩ := hp
    rcases hA with ⟨r, hr⟩ | hr
    · rw [hr] at e
      cases e
    · rw [hr] at e
      cases e
      refine w_catch C E [] (⟨0, 8, 11, 99⟩ : ExceptionTableEntry) [] rfl (fun z hz => absurd hz List.not_mem_nil) rfl (Nat.ne_of_beq_eq_false rfl) wd4_213 wd4_220 (fun q => ?_)
      refine v_astore_n C dL_failedCommand_11 (by decide) ?_
      refine v_iconst (v := nI 1) C dL_failedCommand_12 (by decide) ?_
      exact w_iret C E dL_failedCommand_13 rfl (Or.inr ⟨0, _, rfl, hr, hF0, rfl⟩)
  · obtain ⟨e, hF0⟩ := hp
    rcases hA with ⟨r, hr⟩ | hr
    · rw [hr] at e
      cases e
      obtain ⟨n1, h1⟩ := τ
      show V G K _ _ _ (n1, h1) 6 _ [.int r, .int (nI 0), .ref b]
      refine v_i2l C dL_failedCommand_6 ?_
      refine v_last C dL_failedCommand_7 hb (hF (n1, h1) hF0) (vp_in_nI (n := 0) (N := 1) (by decide) (by decide)) (fun h2 e2 k2 => ?_)
      refine v_goto (tgt := 14) C dL_failedCommand_8 (by decide) ?_
      refine v_iconst (v := nI 0) C dL_failedCommand_14 (by decide) ?_
      exact w_iret C E dL_failedCommand_15 rfl (Or.inl ⟨r, (n1, h1), hr, rfl, hF0, rfl, e2, k2⟩)
    · rw [hr] at e
      cases e
theorem dL_undo_0 : decode cL_undo 0 = .ok (.aload_n 1, 1) := by decide +kernel
theorem dL_undo_1 : decode cL_undo 1 = .ok (.iconst 0, 1) := by decide +kernel
theorem dL_undo_2 : decode cL_undo 2 = .ok (.aload_n 0, 1) := by decide +kernel
theorem dL_undo_3 : decode cL_undo 3 = .ok (.invokevirtual 138, 3) := by decide +kernel
theorem dL_undo_6 : decode cL_undo 6 = .ok (.i2l, 1) := by decide +kernel
theorem dL_undo_7 : decode cL_undo 7 = .ok (.lastore, 1) := by decide +kernel
theorem dL_undo_8 : decode cL_undo 8 = .ok (.goto 6, 3) := by decide +kernel
theorem dL_undo_11 : decode cL_undo 11 = .ok (.astore_n 2, 1) := by decide +kernel
theorem dL_undo_12 : decode cL_undo 12 = .ok (.iconst 1, 1) := by decide +kernel
theorem dL_undo_13 : decode cL_undo 13 = .ok (.ireturn, 1) := by decide +kernel
theorem dL_undo_14 : decode cL_undo 14 = .ok (.iconst 0, 1) := by decide +kernel
theorem dL_undo_15 : decode cL_undo 15 = .ok (.ireturn, 1) := by decide +kernel
def hhL_undo : hp_hh := [(0, 8, 11, 15)]
theorem mL_undo : hp_YW yL_undo cL_undo 3 (some .int) hhL_undo 2 := ⟨wd6_213, wd1_0, by decide +kernel, wd6_212⟩
set_option maxHeartbeats 4000000 in
theorem c_L_undo {G : hp_G} {l : Launch} (hl : l.stackTraces = false) {n0 : Nat} {h0 : Nat → Option va_E} {x b : Nat} {f : Nat → Int64} (hb : G.2.1 ≤ b) {fs : List Value} (hx : h0 x = some (.inr (9, fs))) {ans : hp_O} {F : hp_T → Prop} {mc ms : Nat} (hC : Ct G l yX7_undo cX7_undo 1 (some .int) 7 mc ms [.ref x] (n0, h0) (fun o τ => o = ans ∧ F τ)) (hF : ∀ τ, F τ → τ.2 b = some (.inl (G.2.2.1 3, 1, .inr (.inl f)))) (hA : (∃ r, ans = rI r) ∨ ans = .inr "java/lang/IllegalStateException") : Cw G l yL_undo cL_undo 3 (some .int) hhL_undo 8 mc ms [.ref x, .ref b] (n0, h0) (Lw G b f Int32.toInt64 ans ["java/lang/IllegalStateException"] F) := by
  refine Cw.of rfl hl (by simp [Value.category]) (Nat.le_of_ble_eq_true rfl) (fun K C E hRm hKl => ?_)
  subst hKl
  refine v_aload_n C dL_undo_0 rfl ?_
  refine v_iconst (v := nI 0) C dL_undo_1 (by decide) ?_
  refine v_aload_n C dL_undo_2 rfl ?_
  refine v_callVx C (rest := [.int (nI 0), .ref b]) hC dL_undo_3 mX7_undo rfl hx rfl wd6_214 rfl rfl (Nat.le_of_ble_eq_true rfl) (hp_rmle hRm (by decide) (by decide)) (Nat.le_refl _) (Nat.le_refl _) (fun EE τ hp => ?_) (fun v τ hp => ?_)
  · obtain ⟨e, hF0⟩ := hp
    rcases hA with ⟨r, hr⟩ | hr
    · rw [hr] at e
      cases e
    · rw [hr] at e
      cases e
      refine w_catch C E [] (⟨0, 8, 11, 15⟩ : ExceptionTableEntry) [] rfl (fun z hz => absurd hz List.not_mem_nil) rfl (Nat.ne_of_beq_eq_false rfl) wd4_6 wd2_213 (fun q => ?_)
      refine v_astore_n C dL_undo_11 (by decide) ?_
      refine v_iconst (v := nI 1) C dL_undo_12 (by decide) ?_
      exact w_iret C E dL_undo_13 rfl (Or.inr ⟨0, _, rfl, hr, hF0, rfl⟩)
  · obtain ⟨e, hF0⟩ := hp
    rcases hA with ⟨r, hr⟩ | hr
    · rw [hr] at e
      cases e
      obtain ⟨n1, h1⟩ := τ
      show V G K _ _ _ (n1, h1) 6 _ [.int r, .int (nI 0), .ref b]
      refine v_i2l C dL_undo_6 ?_
      refine v_last C dL_undo_7 hb (hF (n1, h1) hF0) (vp_in_nI (n := 0) (N := 1) (by decide) (by decide)) (fun h2 e2 k2 => ?_)
      refine v_goto (tgt := 14) C dL_undo_8 (by decide) ?_
      refine v_iconst (v := nI 0) C dL_undo_14 (by decide) ?_
      exact w_iret C E dL_undo_15 rfl (Or.inl ⟨r, (n1, h1), hr, rfl, hF0, rfl, e2, k2⟩)
    · rw [hr] at e
      cases e
theorem dL_restore_0 : decode cL_restore 0 = .ok (.aload_n 1, 1) := by decide +kernel
theorem dL_restore_1 : decode cL_restore 1 = .ok (.iconst 0, 1) := by decide +kernel
theorem dL_restore_2 : decode cL_restore 2 = .ok (.aload_n 0, 1) := by decide +kernel
theorem dL_restore_3 : decode cL_restore 3 = .ok (.invokevirtual 141, 3) := by decide +kernel
theorem dL_restore_6 : decode cL_restore 6 = .ok (.i2l, 1) := by decide +kernel
theorem dL_restore_7 : decode cL_restore 7 = .ok (.lastore, 1) := by decide +kernel
theorem dL_restore_8 : decode cL_restore 8 = .ok (.goto 6, 3) := by decide +kernel
theorem dL_restore_11 : decode cL_restore 11 = .ok (.astore_n 2, 1) := by decide +kernel
theorem dL_restore_12 : decode cL_restore 12 = .ok (.iconst 1, 1) := by decide +kernel
theorem dL_restore_13 : decode cL_restore 13 = .ok (.ireturn, 1) := by decide +kernel
theorem dL_restore_14 : decode cL_restore 14 = .ok (.iconst 0, 1) := by decide +kernel
theorem dL_restore_15 : decode cL_restore 15 = .ok (.ireturn, 1) := by decide +kernel
def hhL_restore : hp_hh := [(0, 8, 11, 15)]
theorem mL_restore : hp_YW yL_restore cL_restore 3 (some .int) hhL_restore 2 := ⟨wd6_225, wd1_0, by decide +kernel, wd6_224⟩
set_option maxHeartbeats 4000000 in
theorem c_L_restore {G : hp_G} {l : Launch} (hl : l.stackTraces = false) {n0 : Nat} {h0 : Nat → Option va_E} {x b : Nat} {f : Nat → Int64} (hb : G.2.1 ≤ b) {fs : List Value} (hx : h0 x = some (.inr (9, fs))) {ans : hp_O} {F : hp_T → Prop} {mc ms : Nat} (hC : Ct G l yX7_restore cX7_restore 1 (some .int) 7 mc ms [.ref x] (n0, h0) (fun o τ => o = ans ∧ F τ)) (hF : ∀ τ, F τ → τ.2 b = some (.inl (G.2.2.1 3, 1, .inr (.inl f)))) (hA : (∃ r, ans = rI r) ∨ ans = .inr "java/lang/IllegalStateException") : Cw G l yL_restore cL_restore 3 (some .int) hhL_restore 8 mc ms [.ref x, .ref b] (n0, h0) (Lw G b f Int32.toInt64 ans ["java/lang/IllegalStateException"] F) := by
  refine Cw.of rfl hl (by simp [Value.category]) (Nat.le_of_ble_eq_true rfl) (fun K C E hRm hKl => ?_)
  subst hKl
  refine v_aload_n C dL_restore_0 rfl ?_
  refine v_iconst (v := nI 0) C dL_restore_1 (by decide) ?_
  refine v_aload_n C dL_restore_2 rfl ?_
  refine v_callVx C (rest := [.int (nI 0), .ref b]) hC dL_restore_3 mX7_restore rfl hx rfl wd6_226 rfl rfl (Nat.le_of_ble_eq_true rfl) (hp_rmle hRm (by decide) (by decide)) (Nat.le_refl _) (Nat.le_refl _) (fun EE τ hp => ?_) (fun v τ hp => ?_)
  · obtain ⟨e, hF0⟩ := hp
    rcases hA with ⟨r, hr⟩ | hr
    · rw [hr] at e
      cases e
    · rw [hr] at e
      cases e
      refine w_catch C E [] (⟨0, 8, 11, 15⟩ : ExceptionTableEntry) [] rfl (fun z hz => absurd hz List.not_mem_nil) rfl (Nat.ne_of_beq_eq_false rfl) wd4_6 wd2_213 (fun q => ?_)
      refine v_astore_n C dL_restore_11 (by decide) ?_
      refine v_iconst (v := nI 1) C dL_restore_12 (by decide) ?_
      exact w_iret C E dL_restore_13 rfl (Or.inr ⟨0, _, rfl, hr, hF0, rfl⟩)
  · obtain ⟨e, hF0⟩ := hp
    rcases hA with ⟨r, hr⟩ | hr
    · rw [hr] at e
      cases e
      obtain ⟨n1, h1⟩ := τ
      show V G K _ _ _ (n1, h1) 6 _ [.int r, .int (nI 0), .ref b]
      refine v_i2l C dL_restore_6 ?_
      refine v_last C dL_restore_7 hb (hF (n1, h1) hF0) (vp_in_nI (n := 0) (N := 1) (by decide) (by decide)) (fun h2 e2 k2 => ?_)
      refine v_goto (tgt := 14) C dL_restore_8 (by decide) ?_
      refine v_iconst (v := nI 0) C dL_restore_14 (by decide) ?_
      exact w_iret C E dL_restore_15 rfl (Or.inl ⟨r, (n1, h1), hr, rfl, hF0, rfl, e2, k2⟩)
    · rw [hr] at e
      cases e

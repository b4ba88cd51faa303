/-! ===== THE LAW: its own methods ===== -/
/-- what a method of the law leaves: 0 and the answer in the row at b, or the number of the exception -/
def Lw (G : hp_G) (b : Nat) (f : Nat → Int64) (g : Int32 → Int64) (ans : hp_O) (ex : List String) (F : hp_T → Prop) : hp_P := fun o τ => (∃ r τ1, ans = rI r ∧ o = rI (nI 0) ∧ F τ1 ∧ τ.1 = τ1.1 ∧ τ.2 b = some (.inl (G.2.2.1 3, 1, .inr (.inl (vp_updL f 0 (g r))))) ∧ ∀ q, q ≠ b → τ.2 q = τ1.2 q) ∨ (∃ i E, ex[i]? = some E ∧ ans = .inr E ∧ F τ ∧ o = rI (nI (i + 1)))
theorem Lw_n {G : hp_G} {b : Nat} {f : Nat → Int64} {g : Int32 → Int64} {ans : hp_O} {ex : List String} {F : hp_T → Prop} : ∀ E τ, ¬ Lw G b f g ans ex F (.inr E) τ := fun E τ h => by
  rcases h with ⟨r, τ1, h1, h2, h3⟩ | ⟨i, E2, h1, h2, h3, h4⟩
  · cases h2
  · cases h4
def lw_zb (r : Int32) : Int64 := if r = 0 then 0 else 1
theorem dL_addHorizon_0 : decode cL_addHorizon 0 = .ok (.aload_n 3, 1) := by decide +kernel
theorem dL_addHorizon_1 : decode cL_addHorizon 1 = .ok (.iconst 0, 1) := by decide +kernel
theorem dL_addHorizon_2 : decode cL_addHorizon 2 = .ok (.aload_n 0, 1) := by decide +kernel
theorem dL_addHorizon_3 : decode cL_addHorizon 3 = .ok (.iload_n 1, 1) := by decide +kernel
theorem dL_addHorizon_4 : decode cL_addHorizon 4 = .ok (.iload_n 2, 1) := by decide +kernel
theorem dL_addHorizon_5 : decode cL_addHorizon 5 = .ok (.invokevirtual 7, 3) := by decide +kernel
theorem dL_addHorizon_8 : decode cL_addHorizon 8 = .ok (.i2l, 1) := by decide +kernel
theorem dL_addHorizon_9 : decode cL_addHorizon 9 = .ok (.lastore, 1) := by decide +kernel
theorem dL_addHorizon_10 : decode cL_addHorizon 10 = .ok (.goto 11, 3) := by decide +kernel
theorem dL_addHorizon_13 : decode cL_addHorizon 13 = .ok (.astore 4, 2) := by decide +kernel
theorem dL_addHorizon_15 : decode cL_addHorizon 15 = .ok (.iconst 1, 1) := by decide +kernel
theorem dL_addHorizon_16 : decode cL_addHorizon 16 = .ok (.ireturn, 1) := by decide +kernel
theorem dL_addHorizon_17 : decode cL_addHorizon 17 = .ok (.astore 4, 2) := by decide +kernel
theorem dL_addHorizon_19 : decode cL_addHorizon 19 = .ok (.iconst 2, 1) := by decide +kernel
theorem dL_addHorizon_20 : decode cL_addHorizon 20 = .ok (.ireturn, 1) := by decide +kernel
theorem dL_addHorizon_21 : decode cL_addHorizon 21 = .ok (.iconst 0, 1) := by decide +kernel
theorem dL_addHorizon_22 : decode cL_addHorizon 22 = .ok (.ireturn, 1) := by decide +kernel
def hhL_addHorizon : hp_hh := [(0, 10, 13, 13), (0, 10, 17, 15)]
theorem mL_addHorizon : hp_YW yL_addHorizon cL_addHorizon 5 (some .int) hhL_addHorizon 4 := ⟨wd4_4, wd1_0, by decide +kernel, wd4_3⟩
set_option maxHeartbeats 4000000 in
theorem c_L_addHorizon {G : hp_G} {l : Launch} (hl : l.stackTraces = false) {n0 : Nat} {h0 : Nat → Option va_E} {x b : Nat} {f : Nat → Int64} (hb : G.2.1 ≤ b) {fs : List Value} (hx : h0 x = some (.inr (9, fs))) {a1 a2 : Int32} {ans : hp_O} {F : hp_T → Prop} {mc ms : Nat} (hC : Ct G l yX7_addHorizon cX7_addHorizon 3 (some .int) 12 mc ms [.ref x, .int a1, .int a2] (n0, h0) (fun o τ => o = ans ∧ F τ)) (hF : ∀ τ, F τ → τ.2 b = some (.inl (G.2.2.1 3, 1, .inr (.inl f)))) (hA : (∃ r, ans = rI r) ∨ ans = .inr "java/lang/IllegalArgumentException" ∨ ans = .inr "java/lang/IllegalStateException") : Cw G l yL_addHorizon cL_addHorizon 5 (some .int) hhL_addHorizon 13 mc ms [.ref x, .int a1, .int a2, .ref b] (n0, h0) (Lw G b f Int32.toInt64 ans ["java/lang/IllegalArgumentException", "java/lang/IllegalStateException"] F) := by
  refine Cw.of rfl hl (by simp [Value.category]) (Nat.le_of_ble_eq_true rfl) (fun K C E hRm hKl => ?_)
  subst hKl
  refine v_aload_n C dL_addHorizon_0 rfl ?_
  refine v_iconst (v := nI 0) C dL_addHorizon_1 (by decide) ?_
  refine v_aload_n C dL_addHorizon_2 rfl ?_
  refine v_iload_n C dL_addHorizon_3 rfl ?_
  refine v_iload_n C dL_addHorizon_4 rfl ?_
  refine v_callVx C (rest := [.int (nI 0), .ref b]) hC dL_addHorizon_5 mX7_addHorizon rfl hx rfl wd4_7 rfl rfl (Nat.le_of_ble_eq_true rfl) (hp_rmle hRm (by decide) (by decide)) (Nat.le_refl _) (Nat.le_refl _) (fun EE τ hp => ?_) (fun v τ hp => ?_)
  · obtain ⟨e, hF0⟩ := hp
    rcases hA with ⟨r, hr⟩ | hr | hr
    · rw [hr] at e
      cases e
    · rw [hr] at e
      cases e
      refine w_catch C E [] (⟨0, 10, 13, 13⟩ : ExceptionTableEntry) [(⟨0, 10, 17, 15⟩ : ExceptionTableEntry)] rfl (fun z hz => absurd hz List.not_mem_nil) rfl (Nat.ne_of_beq_eq_false rfl) wd4_5 wd2_197 (fun q => ?_)
      refine v_astore C dL_addHorizon_13 (by decide) ?_
      refine v_iconst (v := nI 1) C dL_addHorizon_15 (by decide) ?_
      exact w_iret C E dL_addHorizon_16 rfl (Or.inr ⟨0, _, rfl, hr, hF0, rfl⟩)
    · rw [hr] at e
      cases e
      have hpass : ∀ z ∈ ([(⟨0, 10, 13, 13⟩ : ExceptionTableEntry)] : List ExceptionTableEntry), z.catchType ≠ 0 ∧ ∃ nm ∈ hp_ex, "java/lang/IllegalStateException" ∈ hp_ex ∧ "java/lang/IllegalStateException" ≠ nm ∧ Cond.classLink "HorizonExchangeLaw" z.catchType nm ∈ lw_tbl := by
        intro z hz
        simp only [List.mem_cons, List.not_mem_nil, or_false] at hz
        subst hz
        exact ⟨by decide, "java/lang/IllegalArgumentException", by decide, by decide, by decide, wd4_5⟩
      refine w_catch C E [(⟨0, 10, 13, 13⟩ : ExceptionTableEntry)] (⟨0, 10, 17, 15⟩ : ExceptionTableEntry) [] rfl hpass rfl (Nat.ne_of_beq_eq_false rfl) wd4_6 wd2_213 (fun q => ?_)
      refine v_astore C dL_addHorizon_17 (by decide) ?_
      refine v_iconst (v := nI 2) C dL_addHorizon_19 (by decide) ?_
      exact w_iret C E dL_addHorizon_20 rfl (Or.inr ⟨1, _, rfl, hr, hF0, rfl⟩)
  · obtain ⟨e, hF0⟩ := hp
    rcases hA with ⟨r, hr⟩ | hr | hr
    · rw [hr] at e
      cases e
      obtain ⟨n1, h1⟩ := τ
      show V G K _ _ _ (n1, h1) 8 _ [.int r, .int (nI 0), .ref b]
      refine v_i2l C dL_addHorizon_8 ?_
      refine v_last C dL_addHorizon_9 hb (hF (n1, h1) hF0) (vp_in_nI (n := 0) (N := 1) (by decide) (by decide)) (fun h2 e2 k2 => ?_)
      refine v_goto (tgt := 21) C dL_addHorizon_10 (by decide) ?_
      refine v_iconst (v := nI 0) C dL_addHorizon_21 (by decide) ?_
      exact w_iret C E dL_addHorizon_22 rfl (Or.inl ⟨r, (n1, h1), hr, rfl, hF0, rfl, e2, k2⟩)
    · rw [hr] at e
      cases e
    · rw [hr] at e
      cases e
theorem dL_addTrader_0 : decode cL_addTrader 0 = .ok (.aload_n 2, 1) := by decide +kernel
theorem dL_addTrader_1 : decode cL_addTrader 1 = .ok (.iconst 0, 1) := by decide +kernel
theorem dL_addTrader_2 : decode cL_addTrader 2 = .ok (.aload_n 0, 1) := by decide +kernel
theorem dL_addTrader_3 : decode cL_addTrader 3 = .ok (.iload_n 1, 1) := by decide +kernel
theorem dL_addTrader_4 : decode cL_addTrader 4 = .ok (.invokevirtual 17, 3) := by decide +kernel
theorem dL_addTrader_7 : decode cL_addTrader 7 = .ok (.i2l, 1) := by decide +kernel
theorem dL_addTrader_8 : decode cL_addTrader 8 = .ok (.lastore, 1) := by decide +kernel
theorem dL_addTrader_9 : decode cL_addTrader 9 = .ok (.goto 9, 3) := by decide +kernel
theorem dL_addTrader_12 : decode cL_addTrader 12 = .ok (.astore_n 3, 1) := by decide +kernel
theorem dL_addTrader_13 : decode cL_addTrader 13 = .ok (.iconst 1, 1) := by decide +kernel
theorem dL_addTrader_14 : decode cL_addTrader 14 = .ok (.ireturn, 1) := by decide +kernel
theorem dL_addTrader_15 : decode cL_addTrader 15 = .ok (.astore_n 3, 1) := by decide +kernel
theorem dL_addTrader_16 : decode cL_addTrader 16 = .ok (.iconst 2, 1) := by decide +kernel
theorem dL_addTrader_17 : decode cL_addTrader 17 = .ok (.ireturn, 1) := by decide +kernel
theorem dL_addTrader_18 : decode cL_addTrader 18 = .ok (.iconst 0, 1) := by decide +kernel
theorem dL_addTrader_19 : decode cL_addTrader 19 = .ok (.ireturn, 1) := by decide +kernel
def hhL_addTrader : hp_hh := [(0, 9, 12, 13), (0, 9, 15, 15)]
theorem mL_addTrader : hp_YW yL_addTrader cL_addTrader 4 (some .int) hhL_addTrader 3 := ⟨wd4_13, wd1_0, by decide +kernel, wd4_12⟩
set_option maxHeartbeats 4000000 in
theorem c_L_addTrader {G : hp_G} {l : Launch} (hl : l.stackTraces = false) {n0 : Nat} {h0 : Nat → Option va_E} {x b : Nat} {f : Nat → Int64} (hb : G.2.1 ≤ b) {fs : List Value} (hx : h0 x = some (.inr (9, fs))) {a1 : Int32} {ans : hp_O} {F : hp_T → Prop} {mc ms : Nat} (hC : Ct G l yX7_addTrader cX7_addTrader 2 (some .int) 12 mc ms [.ref x, .int a1] (n0, h0) (fun o τ => o = ans ∧ F τ)) (hF : ∀ τ, F τ → τ.2 b = some (.inl (G.2.2.1 3, 1, .inr (.inl f)))) (hA : (∃ r, ans = rI r) ∨ ans = .inr "java/lang/IllegalArgumentException" ∨ ans = .inr "java/lang/IllegalStateException") : Cw G l yL_addTrader cL_addTrader 4 (some .int) hhL_addTrader 13 mc ms [.ref x, .int a1, .ref b] (n0, h0) (Lw G b f Int32.toInt64 ans ["java/lang/IllegalArgumentException", "java/lang/IllegalStateException"] F) := by
  refine Cw.of rfl hl (by simp [Value.category]) (Nat.le_of_ble_eq_true rfl) (fun K C E hRm hKl => ?_)
  subst hKl
  refine v_aload_n C dL_addTrader_0 rfl ?_
  refine v_iconst (v := nI 0) C dL_addTrader_1 (by decide) ?_
  refine v_aload_n C dL_addTrader_2 rfl ?_
  refine v_iload_n C dL_addTrader_3 rfl ?_
  refine v_callVx C (rest := [.int (nI 0), .ref b]) hC dL_addTrader_4 mX7_addTrader rfl hx rfl wd4_14 rfl rfl (Nat.le_of_ble_eq_true rfl) (hp_rmle hRm (by decide) (by decide)) (Nat.le_refl _) (Nat.le_refl _) (fun EE τ hp => ?_) (fun v τ hp => ?_)
  · obtain ⟨e, hF0⟩ := hp
    rcases hA with ⟨r, hr⟩ | hr | hr
    · rw [hr] at e
      cases e
    · rw [hr] at e
      cases e
      refine w_catch C E [] (⟨0, 9, 12, 13⟩ : ExceptionTableEntry) [(⟨0, 9, 15, 15⟩ : ExceptionTableEntry)] rfl (fun z hz => absurd hz List.not_mem_nil) rfl (Nat.ne_of_beq_eq_false rfl) wd4_5 wd2_197 (fun q => ?_)
      refine v_astore_n C dL_addTrader_12 (by decide) ?_
      refine v_iconst (v := nI 1) C dL_addTrader_13 (by decide) ?_
      exact w_iret C E dL_addTrader_14 rfl (Or.inr ⟨0, _, rfl, hr, hF0, rfl⟩)
    · rw [hr] at e
      cases e
      have hpass : ∀ z ∈ ([(⟨0, 9, 12, 13⟩ : ExceptionTableEntry)] : List ExceptionTableEntry), z.catchType ≠ 0 ∧ ∃ nm ∈ hp_ex, "java/lang/IllegalStateException" ∈ hp_ex ∧ "java/lang/IllegalStateException" ≠ nm ∧ Cond.classLink "HorizonExchangeLaw" z.catchType nm ∈ lw_tbl := by
        intro z hz
        simp only [List.mem_cons, List.not_mem_nil, or_false] at hz
        subst hz
        exact ⟨by decide, "java/lang/IllegalArgumentException", by decide, by decide, by decide, wd4_5⟩
      refine w_catch C E [(⟨0, 9, 12, 13⟩ : ExceptionTableEntry)] (⟨0, 9, 15, 15⟩ : ExceptionTableEntry) [] rfl hpass rfl (Nat.ne_of_beq_eq_false rfl) wd4_6 wd2_213 (fun q => ?_)
      refine v_astore_n C dL_addTrader_15 (by decide) ?_
      refine v_iconst (v := nI 2) C dL_addTrader_16 (by decide) ?_
      exact w_iret C E dL_addTrader_17 rfl (Or.inr ⟨1, _, rfl, hr, hF0, rfl⟩)
  · obtain ⟨e, hF0⟩ := hp
    rcases hA with ⟨r, hr⟩ | hr | hr
    · rw [hr] at e
      cases e
      obtain ⟨n1, h1⟩ := τ
      show V G K _ _ _ (n1, h1) 7 _ [.int r, .int (nI 0), .ref b]
      refine v_i2l C dL_addTrader_7 ?_
      refine v_last C dL_addTrader_8 hb (hF (n1, h1) hF0) (vp_in_nI (n := 0) (N := 1) (by decide) (by decide)) (fun h2 e2 k2 => ?_)
      refine v_goto (tgt := 18) C dL_addTrader_9 (by decide) ?_
      refine v_iconst (v := nI 0) C dL_addTrader_18 (by decide) ?_
      exact w_iret C E dL_addTrader_19 rfl (Or.inl ⟨r, (n1, h1), hr, rfl, hF0, rfl, e2, k2⟩)
    · rw [hr] at e
      cases e
    · rw [hr] at e
      cases e
theorem dL_trade_0 : decode cL_trade 0 = .ok (.aload 6, 2) := by decide +kernel
theorem dL_trade_2 : decode cL_trade 2 = .ok (.iconst 0, 1) := by decide +kernel
theorem dL_trade_3 : decode cL_trade 3 = .ok (.aload_n 0, 1) := by decide +kernel
theorem dL_trade_4 : decode cL_trade 4 = .ok (.iload_n 1, 1) := by decide +kernel
theorem dL_trade_5 : decode cL_trade 5 = .ok (.iload_n 2, 1) := by decide +kernel
theorem dL_trade_6 : decode cL_trade 6 = .ok (.iload_n 3, 1) := by decide +kernel
theorem dL_trade_7 : decode cL_trade 7 = .ok (.iload 4, 2) := by decide +kernel
theorem dL_trade_9 : decode cL_trade 9 = .ok (.iload 5, 2) := by decide +kernel
theorem dL_trade_11 : decode cL_trade 11 = .ok (.invokevirtual 21, 3) := by decide +kernel
theorem dL_trade_14 : decode cL_trade 14 = .ok (.i2l, 1) := by decide +kernel
theorem dL_trade_15 : decode cL_trade 15 = .ok (.lastore, 1) := by decide +kernel
theorem dL_trade_16 : decode cL_trade 16 = .ok (.goto 19, 3) := by decide +kernel
theorem dL_trade_19 : decode cL_trade 19 = .ok (.astore 7, 2) := by decide +kernel
theorem dL_trade_21 : decode cL_trade 21 = .ok (.iconst 1, 1) := by decide +kernel
theorem dL_trade_22 : decode cL_trade 22 = .ok (.ireturn, 1) := by decide +kernel
theorem dL_trade_23 : decode cL_trade 23 = .ok (.astore 7, 2) := by decide +kernel
theorem dL_trade_25 : decode cL_trade 25 = .ok (.iconst 2, 1) := by decide +kernel
theorem dL_trade_26 : decode cL_trade 26 = .ok (.ireturn, 1) := by decide +kernel
theorem dL_trade_27 : decode cL_trade 27 = .ok (.astore 7, 2) := by decide +kernel
theorem dL_trade_29 : decode cL_trade 29 = .ok (.iconst 3, 1) := by decide +kernel
theorem dL_trade_30 : decode cL_trade 30 = .ok (.ireturn, 1) := by decide +kernel
theorem dL_trade_31 : decode cL_trade 31 = .ok (.astore 7, 2) := by decide +kernel
theorem dL_trade_33 : decode cL_trade 33 = .ok (.iconst 4, 1) := by decide +kernel
theorem dL_trade_34 : decode cL_trade 34 = .ok (.ireturn, 1) := by decide +kernel
theorem dL_trade_35 : decode cL_trade 35 = .ok (.iconst 0, 1) := by decide +kernel
theorem dL_trade_36 : decode cL_trade 36 = .ok (.ireturn, 1) := by decide +kernel
def hhL_trade : hp_hh := [(0, 16, 19, 25), (0, 16, 23, 13), (0, 16, 27, 15), (0, 16, 31, 27)]
theorem mL_trade : hp_YW yL_trade cL_trade 8 (some .int) hhL_trade 7 := ⟨wd4_20, wd1_0, by decide +kernel, wd4_19⟩
set_option maxHeartbeats 4000000 in
theorem c_L_trade {G : hp_G} {l : Launch} (hl : l.stackTraces = false) {n0 : Nat} {h0 : Nat → Option va_E} {x b : Nat} {f : Nat → Int64} (hb : G.2.1 ≤ b) {fs : List Value} (hx : h0 x = some (.inr (9, fs))) {a1 a2 a3 a4 a5 : Int32} {ans : hp_O} {F : hp_T → Prop} {mc ms : Nat} (hC : Ct G l yX7_trade cX7_trade 6 (some .int) 12 mc ms [.ref x, .int a1, .int a2, .int a3, .int a4, .int a5] (n0, h0) (fun o τ => o = ans ∧ F τ)) (hF : ∀ τ, F τ → τ.2 b = some (.inl (G.2.2.1 3, 1, .inr (.inl f)))) (hA : (∃ r, ans = rI r) ∨ ans = .inr "java/lang/IndexOutOfBoundsException" ∨ ans = .inr "java/lang/IllegalArgumentException" ∨ ans = .inr "java/lang/IllegalStateException" ∨ ans = .inr "java/lang/UnsupportedOperationException") : Cw G l yL_trade cL_trade 8 (some .int) hhL_trade 13 mc ms [.ref x, .int a1, .int a2, .int a3, .int a4, .int a5, .ref b] (n0, h0) (Lw G b f Int32.toInt64 ans ["java/lang/IndexOutOfBoundsException", "java/lang/IllegalArgumentException", "java/lang/IllegalStateException", "java/lang/UnsupportedOperationException"] F) := by
  refine Cw.of rfl hl (by simp [Value.category]) (Nat.le_of_ble_eq_true rfl) (fun K C E hRm hKl => ?_)
  subst hKl
  refine v_aload C dL_trade_0 rfl ?_
  refine v_iconst (v := nI 0) C dL_trade_2 (by decide) ?_
  refine v_aload_n C dL_trade_3 rfl ?_
  refine v_iload_n C dL_trade_4 rfl ?_
  refine v_iload_n C dL_trade_5 rfl ?_
  refine v_iload_n C dL_trade_6 rfl ?_
  refine v_iload C dL_trade_7 rfl ?_
  refine v_iload C dL_trade_9 rfl ?_
  refine v_callVx C (rest := [.int (nI 0), .ref b]) hC dL_trade_11 mX7_trade rfl hx rfl wd4_43 rfl rfl (Nat.le_of_ble_eq_true rfl) (hp_rmle hRm (by decide) (by decide)) (Nat.le_refl _) (Nat.le_refl _) (fun EE τ hp => ?_) (fun v τ hp => ?_)
  · obtain ⟨e, hF0⟩ := hp
    rcases hA with ⟨r, hr⟩ | hr | hr | hr | hr
    · rw [hr] at e
      cases e
    · rw [hr] at e
      cases e
      refine w_catch C E [] (⟨0, 16, 19, 25⟩ : ExceptionTableEntry) [(⟨0, 16, 23, 13⟩ : ExceptionTableEntry), (⟨0, 16, 27, 15⟩ : ExceptionTableEntry), (⟨0, 16, 31, 27⟩ : ExceptionTableEntry)] rfl (fun z hz => absurd hz List.not_mem_nil) rfl (Nat.ne_of_beq_eq_false rfl) wd4_21 wd2_125 (fun q => ?_)
      refine v_astore C dL_trade_19 (by decide) ?_
      refine v_iconst (v := nI 1) C dL_trade_21 (by decide) ?_
      exact w_iret C E dL_trade_22 rfl (Or.inr ⟨0, _, rfl, hr, hF0, rfl⟩)
    · rw [hr] at e
      cases e
      have hpass : ∀ z ∈ ([(⟨0, 16, 19, 25⟩ : ExceptionTableEntry)] : List ExceptionTableEntry), z.catchType ≠ 0 ∧ ∃ nm ∈ hp_ex, "java/lang/IllegalArgumentException" ∈ hp_ex ∧ "java/lang/IllegalArgumentException" ≠ nm ∧ Cond.classLink "HorizonExchangeLaw" z.catchType nm ∈ lw_tbl := by
        intro z hz
        simp only [List.mem_cons, List.not_mem_nil, or_false] at hz
        subst hz
        exact ⟨by decide, "java/lang/IndexOutOfBoundsException", by decide, by decide, by decide, wd4_21⟩
      refine w_catch C E [(⟨0, 16, 19, 25⟩ : ExceptionTableEntry)] (⟨0, 16, 23, 13⟩ : ExceptionTableEntry) [(⟨0, 16, 27, 15⟩ : ExceptionTableEntry), (⟨0, 16, 31, 27⟩ : ExceptionTableEntry)] rfl hpass rfl (Nat.ne_of_beq_eq_false rfl) wd4_5 wd2_197 (fun q => ?_)
      refine v_astore C dL_trade_23 (by decide) ?_
      refine v_iconst (v := nI 2) C dL_trade_25 (by decide) ?_
      exact w_iret C E dL_trade_26 rfl (Or.inr ⟨1, _, rfl, hr, hF0, rfl⟩)
    · rw [hr] at e
      cases e
      have hpass : ∀ z ∈ ([(⟨0, 16, 19, 25⟩ : ExceptionTableEntry), (⟨0, 16, 23, 13⟩ : ExceptionTableEntry)] : List ExceptionTableEntry), z.catchType ≠ 0 ∧ ∃ nm ∈ hp_ex, "java/lang/IllegalStateException" ∈ hp_ex ∧ "java/lang/IllegalStateException" ≠ nm ∧ Cond.classLink "HorizonExchangeLaw" z.catchType nm ∈ lw_tbl := by
        intro z hz
        simp only [List.mem_cons, List.not_mem_nil, or_false] at hz
        rcases hz with rfl | rfl
        · exact ⟨by decide, "java/lang/IndexOutOfBoundsException", by decide, by decide, by decide, wd4_21⟩
        · exact ⟨by decide, "java/lang/IllegalArgumentException", by decide, by decide, by decide, wd4_5⟩
      refine w_catch C E [(⟨0, 16, 19, 25⟩ : ExceptionTableEntry), (⟨0, 16, 23, 13⟩ : ExceptionTableEntry)] (⟨0, 16, 27, 15⟩ : ExceptionTableEntry) [(⟨0, 16, 31, 27⟩ : ExceptionTableEntry)] rfl hpass rfl (Nat.ne_of_beq_eq_false rfl) wd4_6 wd2_213 (fun q => ?_)
      refine v_astore C dL_trade_27 (by decide) ?_
      refine v_iconst (v := nI 3) C dL_trade_29 (by decide) ?_
      exact w_iret C E dL_trade_30 rfl (Or.inr ⟨2, _, rfl, hr, hF0, rfl⟩)
    · rw [hr] at e
      cases e
      have hpass : ∀ z ∈ ([(⟨0, 16, 19, 25⟩ : ExceptionTableEntry), (⟨0, 16, 23, 13⟩ : ExceptionTableEntry), (⟨0, 16, 27, 15⟩ : ExceptionTableEntry)] : List ExceptionTableEntry), z.catchType ≠ 0 ∧ ∃ nm ∈ hp_ex, "java/lang/UnsupportedOperationException" ∈ hp_ex ∧ "java/lang/UnsupportedOperationException" ≠ nm ∧ Cond.classLink "HorizonExchangeLaw" z.catchType nm ∈ lw_tbl := by
        intro z hz
        simp only [List.mem_cons, List.not_mem_nil, or_false] at hz
        rcases hz with rfl | rfl | rfl
        · exact ⟨by decide, "java/lang/IndexOutOfBoundsException", by decide, by decide, by decide, wd4_21⟩
        · exact ⟨by decide, "java/lang/IllegalArgumentException", by decide, by decide, by decide, wd4_5⟩
        · exact ⟨by decide, "java/lang/IllegalStateException", by decide, by decide, by decide, wd4_6⟩
      refine w_catch C E [(⟨0, 16, 19, 25⟩ : ExceptionTableEntry), (⟨0, 16, 23, 13⟩ : ExceptionTableEntry), (⟨0, 16, 27, 15⟩ : ExceptionTableEntry)] (⟨0, 16, 31, 27⟩ : ExceptionTableEntry) [] rfl hpass rfl (Nat.ne_of_beq_eq_false rfl) wd4_42 wd2_229 (fun q => ?_)
      refine v_astore C dL_trade_31 (by decide) ?_
      refine v_iconst (v := nI 4) C dL_trade_33 (by decide) ?_
      exact w_iret C E dL_trade_34 rfl (Or.inr ⟨3, _, rfl, hr, hF0, rfl⟩)
  · obtain ⟨e, hF0⟩ := hp
    rcases hA with ⟨r, hr⟩ | hr | hr | hr | hr
    · rw [hr] at e
      cases e
      obtain ⟨n1, h1⟩ := τ
      show V G K _ _ _ (n1, h1) 14 _ [.int r, .int (nI 0), .ref b]
      refine v_i2l C dL_trade_14 ?_
      refine v_last C dL_trade_15 hb (hF (n1, h1) hF0) (vp_in_nI (n := 0) (N := 1) (by decide) (by decide)) (fun h2 e2 k2 => ?_)
      refine v_goto (tgt := 35) C dL_trade_16 (by decide) ?_
      refine v_iconst (v := nI 0) C dL_trade_35 (by decide) ?_
      exact w_iret C E dL_trade_36 rfl (Or.inl ⟨r, (n1, h1), hr, rfl, hF0, rfl, e2, k2⟩)
    · rw [hr] at e
      cases e
    · rw [hr] at e
      cases e
    · rw [hr] at e
      cases e
    · rw [hr] at e
      cases e
theorem dL_setQuote_0 : decode cL_setQuote 0 = .ok (.aload_n 3, 1) := by decide +kernel
theorem dL_setQuote_1 : decode cL_setQuote 1 = .ok (.iconst 0, 1) := by decide +kernel
theorem dL_setQuote_2 : decode cL_setQuote 2 = .ok (.aload_n 0, 1) := by decide +kernel
theorem dL_setQuote_3 : decode cL_setQuote 3 = .ok (.iload_n 1, 1) := by decide +kernel
theorem dL_setQuote_4 : decode cL_setQuote 4 = .ok (.iload_n 2, 1) := by decide +kernel
theorem dL_setQuote_5 : decode cL_setQuote 5 = .ok (.invokevirtual 29, 3) := by decide +kernel
theorem dL_setQuote_8 : decode cL_setQuote 8 = .ok (.i2l, 1) := by decide +kernel
theorem dL_setQuote_9 : decode cL_setQuote 9 = .ok (.lastore, 1) := by decide +kernel
theorem dL_setQuote_10 : decode cL_setQuote 10 = .ok (.goto 11, 3) := by decide +kernel
theorem dL_setQuote_13 : decode cL_setQuote 13 = .ok (.astore 4, 2) := by decide +kernel
theorem dL_setQuote_15 : decode cL_setQuote 15 = .ok (.iconst 1, 1) := by decide +kernel
theorem dL_setQuote_16 : decode cL_setQuote 16 = .ok (.ireturn, 1) := by decide +kernel
theorem dL_setQuote_17 : decode cL_setQuote 17 = .ok (.astore 4, 2) := by decide +kernel
theorem dL_setQuote_19 : decode cL_setQuote 19 = .ok (.iconst 2, 1) := by decide +kernel
theorem dL_setQuote_20 : decode cL_setQuote 20 = .ok (.ireturn, 1) := by decide +kernel
theorem dL_setQuote_21 : decode cL_setQuote 21 = .ok (.iconst 0, 1) := by decide +kernel
theorem dL_setQuote_22 : decode cL_setQuote 22 = .ok (.ireturn, 1) := by decide +kernel
def hhL_setQuote : hp_hh := [(0, 10, 13, 25), (0, 10, 17, 13)]
theorem mL_setQuote : hp_YW yL_setQuote cL_setQuote 5 (some .int) hhL_setQuote 4 := ⟨wd4_49, wd1_0, by decide +kernel, wd4_48⟩
set_option maxHeartbeats 4000000 in
theorem c_L_setQuote {G : hp_G} {l : Launch} (hl : l.stackTraces = false) {n0 : Nat} {h0 : Nat → Option va_E} {x b : Nat} {f : Nat → Int64} (hb : G.2.1 ≤ b) {fs : List Value} (hx : h0 x = some (.inr (9, fs))) {a1 a2 : Int32} {ans : hp_O} {F : hp_T → Prop} {mc ms : Nat} (hC : Ct G l yX7_setQuote cX7_setQuote 3 (some .int) 12 mc ms [.ref x, .int a1, .int a2] (n0, h0) (fun o τ => o = ans ∧ F τ)) (hF : ∀ τ, F τ → τ.2 b = some (.inl (G.2.2.1 3, 1, .inr (.inl f)))) (hA : (∃ r, ans = rI r) ∨ ans = .inr "java/lang/IndexOutOfBoundsException" ∨ ans = .inr "java/lang/IllegalArgumentException") : Cw G l yL_setQuote cL_setQuote 5 (some .int) hhL_setQuote 13 mc ms [.ref x, .int a1, .int a2, .ref b] (n0, h0) (Lw G b f Int32.toInt64 ans ["java/lang/IndexOutOfBoundsException", "java/lang/IllegalArgumentException"] F) := by
  refine Cw.of rfl hl (by simp [Value.category]) (Nat.le_of_ble_eq_true rfl) (fun K C E hRm hKl => ?_)
  subst hKl
  refine v_aload_n C dL_setQuote_0 rfl ?_
  refine v_iconst (v := nI 0) C dL_setQuote_1 (by decide) ?_
  refine v_aload_n C dL_setQuote_2 rfl ?_
  refine v_iload_n C dL_setQuote_3 rfl ?_
  refine v_iload_n C dL_setQuote_4 rfl ?_
  refine v_callVx C (rest := [.int (nI 0), .ref b]) hC dL_setQuote_5 mX7_setQuote rfl hx rfl wd4_50 rfl rfl (Nat.le_of_ble_eq_true rfl) (hp_rmle hRm (by decide) (by decide)) (Nat.le_refl _) (Nat.le_refl _) (fun EE τ hp => ?_) (fun v τ hp => ?_)
  · obtain ⟨e, hF0⟩ := hp
    rcases hA with ⟨r, hr⟩ | hr | hr
    · rw [hr] at e
      cases e
    · rw [hr] at e
      cases e
      refine w_catch C E [] (⟨0, 10, 13, 25⟩ : ExceptionTableEntry) [(⟨0, 10, 17, 13⟩ : ExceptionTableEntry)] rfl (fun z hz => absurd hz List.not_mem_nil) rfl (Nat.ne_of_beq_eq_false rfl) wd4_21 wd2_125 (fun q => ?_)
      refine v_astore C dL_setQuote_13 (by decide) ?_
      refine v_iconst (v := nI 1) C dL_setQuote_15 (by decide) ?_
      exact w_iret C E dL_setQuote_16 rfl (Or.inr ⟨0, _, rfl, hr, hF0, rfl⟩)
    · rw [hr] at e
      cases e
      have hpass : ∀ z ∈ ([(⟨0, 10, 13, 25⟩ : ExceptionTableEntry)] : List ExceptionTableEntry), z.catchType ≠ 0 ∧ ∃ nm ∈ hp_ex, "java/lang/IllegalArgumentException" ∈ hp_ex ∧ "java/lang/IllegalArgumentException" ≠ nm ∧ Cond.classLink "HorizonExchangeLaw" z.catchType nm ∈ lw_tbl := by
        intro z hz
        simp only [List.mem_cons, List.not_mem_nil, or_false] at hz
        subst hz
        exact ⟨by decide, "java/lang/IndexOutOfBoundsException", by decide, by decide, by decide, wd4_21⟩
      refine w_catch C E [(⟨0, 10, 13, 25⟩ : ExceptionTableEntry)] (⟨0, 10, 17, 13⟩ : ExceptionTableEntry) [] rfl hpass rfl (Nat.ne_of_beq_eq_false rfl) wd4_5 wd2_197 (fun q => ?_)
      refine v_astore C dL_setQuote_17 (by decide) ?_
      refine v_iconst (v := nI 2) C dL_setQuote_19 (by decide) ?_
      exact w_iret C E dL_setQuote_20 rfl (Or.inr ⟨1, _, rfl, hr, hF0, rfl⟩)
  · obtain ⟨e, hF0⟩ := hp
    rcases hA with ⟨r, hr⟩ | hr | hr
    · rw [hr] at e
      cases e
      obtain ⟨n1, h1⟩ := τ
      show V G K _ _ _ (n1, h1) 8 _ [.int r, .int (nI 0), .ref b]
      refine v_i2l C dL_setQuote_8 ?_
      refine v_last C dL_setQuote_9 hb (hF (n1, h1) hF0) (vp_in_nI (n := 0) (N := 1) (by decide) (by decide)) (fun h2 e2 k2 => ?_)
      refine v_goto (tgt := 21) C dL_setQuote_10 (by decide) ?_
      refine v_iconst (v := nI 0) C dL_setQuote_21 (by decide) ?_
      exact w_iret C E dL_setQuote_22 rfl (Or.inl ⟨r, (n1, h1), hr, rfl, hF0, rfl, e2, k2⟩)
    · rw [hr] at e
      cases e
    · rw [hr] at e
      cases e
theorem dL_deposit_0 : decode cL_deposit 0 = .ok (.aload_n 3, 1) := by decide +kernel
theorem dL_deposit_1 : decode cL_deposit 1 = .ok (.iconst 0, 1) := by decide +kernel
theorem dL_deposit_2 : decode cL_deposit 2 = .ok (.aload_n 0, 1) := by decide +kernel
theorem dL_deposit_3 : decode cL_deposit 3 = .ok (.iload_n 1, 1) := by decide +kernel
theorem dL_deposit_4 : decode cL_deposit 4 = .ok (.iload_n 2, 1) := by decide +kernel
theorem dL_deposit_5 : decode cL_deposit 5 = .ok (.invokevirtual 32, 3) := by decide +kernel
theorem dL_deposit_8 : decode cL_deposit 8 = .ok (.i2l, 1) := by decide +kernel
theorem dL_deposit_9 : decode cL_deposit 9 = .ok (.lastore, 1) := by decide +kernel
theorem dL_deposit_10 : decode cL_deposit 10 = .ok (.goto 15, 3) := by decide +kernel
theorem dL_deposit_13 : decode cL_deposit 13 = .ok (.astore 4, 2) := by decide +kernel
theorem dL_deposit_15 : decode cL_deposit 15 = .ok (.iconst 1, 1) := by decide +kernel
theorem dL_deposit_16 : decode cL_deposit 16 = .ok (.ireturn, 1) := by decide +kernel
theorem dL_deposit_17 : decode cL_deposit 17 = .ok (.astore 4, 2) := by decide +kernel
theorem dL_deposit_19 : decode cL_deposit 19 = .ok (.iconst 2, 1) := by decide +kernel
theorem dL_deposit_20 : decode cL_deposit 20 = .ok (.ireturn, 1) := by decide +kernel
theorem dL_deposit_21 : decode cL_deposit 21 = .ok (.astore 4, 2) := by decide +kernel
theorem dL_deposit_23 : decode cL_deposit 23 = .ok (.iconst 3, 1) := by decide +kernel
theorem dL_deposit_24 : decode cL_deposit 24 = .ok (.ireturn, 1) := by decide +kernel
theorem dL_deposit_25 : decode cL_deposit 25 = .ok (.iconst 0, 1) := by decide +kernel
theorem dL_deposit_26 : decode cL_deposit 26 = .ok (.ireturn, 1) := by decide +kernel
def hhL_deposit : hp_hh := [(0, 10, 13, 25), (0, 10, 17, 13), (0, 10, 21, 15)]
theorem mL_deposit : hp_YW yL_deposit cL_deposit 5 (some .int) hhL_deposit 4 := ⟨wd4_56, wd1_0, by decide +kernel, wd4_55⟩
set_option maxHeartbeats 4000000 in
theorem c_L_deposit {G : hp_G} {l : Launch} (hl : l.stackTraces = false) {n0 : Nat} {h0 : Nat → Option va_E} {x b : Nat} {f : Nat → Int64} (hb : G.2.1 ≤ b) {fs : List Value} (hx : h0 x = some (.inr (9, fs))) {a1 a2 : Int32} {ans : hp_O} {F : hp_T → Prop} {mc ms : Nat} (hC : Ct G l yX7_deposit cX7_deposit 3 (some .int) 12 mc ms [.ref x, .int a1, .int a2] (n0, h0) (fun o τ => o = ans ∧ F τ)) (hF : ∀ τ, F τ → τ.2 b = some (.inl (G.2.2.1 3, 1, .inr (.inl f)))) (hA : (∃ r, ans = rI r) ∨ ans = .inr "java/lang/IndexOutOfBoundsException" ∨ ans = .inr "java/lang/IllegalArgumentException" ∨ ans = .inr "java/lang/IllegalStateException") : Cw G l yL_deposit cL_deposit 5 (some .int) hhL_deposit 13 mc ms [.ref x, .int a1, .int a2, .ref b] (n0, h0) (Lw G b f Int32.toInt64 ans ["java/lang/IndexOutOfBoundsException", "java/lang/IllegalArgumentException", "java/lang/IllegalStateException"] F) := by
  refine Cw.of rfl hl (by simp [Value.category]) (Nat.le_of_ble_eq_true rfl) (fun K C E hRm hKl => ?_)
  subst hKl
  refine v_aload_n C dL_deposit_0 rfl ?_
  refine v_iconst (v := nI 0) C dL_deposit_1 (by decide) ?_
  refine v_aload_n C dL_deposit_2 rfl ?_
  refine v_iload_n C dL_deposit_3 rfl ?_
  refine v_iload_n C dL_deposit_4 rfl ?_
  refine v_callVx C (rest := [.int (nI 0), .ref b]) hC dL_deposit_5 mX7_deposit rfl hx rfl wd4_57 rfl rfl (Nat.le_of_ble_eq_true rfl) (hp_rmle hRm (by decide) (by decide)) (Nat.le_refl _) (Nat.le_refl _) (fun EE τ hp => ?_) (fun v τ hp => ?_)
  · obtain ⟨e, hF0⟩ := hp
    rcases hA with ⟨r, hr⟩ | hr | hr | hr
    · rw [hr] at e
      cases e
    · rw [hr] at e
      cases e
      refine w_catch C E [] (⟨0, 10, 13, 25⟩ : ExceptionTableEntry) [(⟨0, 10, 17, 13⟩ : ExceptionTableEntry), (⟨0, 10, 21, 15⟩ : ExceptionTableEntry)] rfl (fun z hz => absurd hz List.not_mem_nil) rfl (Nat.ne_of_beq_eq_false rfl) wd4_21 wd2_125 (fun q => ?_)
      refine v_astore C dL_deposit_13 (by decide) ?_
      refine v_iconst (v := nI 1) C dL_deposit_15 (by decide) ?_
      exact w_iret C E dL_deposit_16 rfl (Or.inr ⟨0, _, rfl, hr, hF0, rfl⟩)
    · rw [hr] at e
      cases e
      have hpass : ∀ z ∈ ([(⟨0, 10, 13, 25⟩ : ExceptionTableEntry)] : List ExceptionTableEntry), z.catchType ≠ 0 ∧ ∃ nm ∈ hp_ex, "java/lang/IllegalArgumentException" ∈ hp_ex ∧ "java/lang/IllegalArgumentException" ≠ nm ∧ Cond.classLink "HorizonExchangeLaw" z.catchType nm ∈ lw_tbl := by
        intro z hz
        simp only [List.mem_cons, List.not_mem_nil, or_false] at hz
        subst hz
        exact ⟨by decide, "java/lang/IndexOutOfBoundsException", by decide, by decide, by decide, wd4_21⟩
      refine w_catch C E [(⟨0, 10, 13, 25⟩ : ExceptionTableEntry)] (⟨0, 10, 17, 13⟩ : ExceptionTableEntry) [(⟨0, 10, 21, 15⟩ : ExceptionTableEntry)] rfl hpass rfl (Nat.ne_of_beq_eq_false rfl) wd4_5 wd2_197 (fun q => ?_)
      refine v_astore C dL_deposit_17 (by decide) ?_
      refine v_iconst (v := nI 2) C dL_deposit_19 (by decide) ?_
      exact w_iret C E dL_deposit_20 rfl (Or.inr ⟨1, _, rfl, hr, hF0, rfl⟩)
    · rw [hr] at e
      cases e
      have hpass : ∀ z ∈ ([(⟨0, 10, 13, 25⟩ : ExceptionTableEntry), (⟨0, 10, 17, 13⟩ : ExceptionTableEntry)] : List ExceptionTableEntry), z.catchType ≠ 0 ∧ ∃ nm ∈ hp_ex, "java/lang/IllegalStateException" ∈ hp_ex ∧ "java/lang/IllegalStateException" ≠ nm ∧ Cond.classLink "HorizonExchangeLaw" z.catchType nm ∈ lw_tbl := by
        intro z hz
        simp only [List.mem_cons, List.not_mem_nil, or_false] at hz
        rcases hz with rfl | rfl
        · exact ⟨by decide, "java/lang/IndexOutOfBoundsException", by decide, by decide, by decide, wd4_21⟩
        · exact ⟨by decide, "java/lang/IllegalArgumentException", by decide, by decide, by decide, wd4_5⟩
      refine w_catch C E [(⟨0, 10, 13, 25⟩ : ExceptionTableEntry), (⟨0, 10, 17, 13⟩ : ExceptionTableEntry)] (⟨0, 10, 21, 15⟩ : ExceptionTableEntry) [] rfl hpass rfl (Nat.ne_of_beq_eq_false rfl) wd4_6 wd2_213 (fun q => ?_)
      refine v_astore C dL_deposit_21 (by decide) ?_
      refine v_iconst (v := nI 3) C dL_deposit_23 (by decide) ?_
      exact w_iret C E dL_deposit_24 rfl (Or.inr ⟨2, _, rfl, hr, hF0, rfl⟩)
  · obtain ⟨e, hF0⟩ := hp
    rcases hA with ⟨r, hr⟩ | hr | hr | hr
    · rw [hr] at e
      cases e
      obtain ⟨n1, h1⟩ := τ
      show V G K _ _ _ (n1, h1) 8 _ [.int r, .int (nI 0), .ref b]
      refine v_i2l C dL_deposit_8 ?_
      refine v_last C dL_deposit_9 hb (hF (n1, h1) hF0) (vp_in_nI (n := 0) (N := 1) (by decide) (by decide)) (fun h2 e2 k2 => ?_)
      refine v_goto (tgt := 25) C dL_deposit_10 (by decide) ?_
      refine v_iconst (v := nI 0) C dL_deposit_25 (by decide) ?_
      exact w_iret C E dL_deposit_26 rfl (Or.inl ⟨r, (n1, h1), hr, rfl, hF0, rfl, e2, k2⟩)
    · rw [hr] at e
      cases e
    · rw [hr] at e
      cases e
    · rw [hr] at e
      cases e
theorem dL_withdraw_0 : decode cL_withdraw 0 = .ok (.aload_n 3, 1) := by decide +kernel
theorem dL_withdraw_1 : decode cL_withdraw 1 = .ok (.iconst 0, 1) := by decide +kernel
theorem dL_withdraw_2 : decode cL_withdraw 2 = .ok (.aload_n 0, 1) := by decide +kernel
theorem dL_withdraw_3 : decode cL_withdraw 3 = .ok (.iload_n 1, 1) := by decide +kernel
theorem dL_withdraw_4 : decode cL_withdraw 4 = .ok (.iload_n 2, 1) := by decide +kernel
theorem dL_withdraw_5 : decode cL_withdraw 5 = .ok (.invokevirtual 35, 3) := by decide +kernel
theorem dL_withdraw_8 : decode cL_withdraw 8 = .ok (.i2l, 1) := by decide +kernel
theorem dL_withdraw_9 : decode cL_withdraw 9 = .ok (.lastore, 1) := by decide +kernel
theorem dL_withdraw_10 : decode cL_withdraw 10 = .ok (.goto 19, 3) := by decide +kernel
theorem dL_withdraw_13 : decode cL_withdraw 13 = .ok (.astore 4, 2) := by decide +kernel
theorem dL_withdraw_15 : decode cL_withdraw 15 = .ok (.iconst 1, 1) := by decide +kernel
theorem dL_withdraw_16 : decode cL_withdraw 16 = .ok (.ireturn, 1) := by decide +kernel
theorem dL_withdraw_17 : decode cL_withdraw 17 = .ok (.astore 4, 2) := by decide +kernel
theorem dL_withdraw_19 : decode cL_withdraw 19 = .ok (.iconst 2, 1) := by decide +kernel
theorem dL_withdraw_20 : decode cL_withdraw 20 = .ok (.ireturn, 1) := by decide +kernel
theorem dL_withdraw_21 : decode cL_withdraw 21 = .ok (.astore 4, 2) := by decide +kernel
theorem dL_withdraw_23 : decode cL_withdraw 23 = .ok (.iconst 3, 1) := by decide +kernel
theorem dL_withdraw_24 : decode cL_withdraw 24 = .ok (.ireturn, 1) := by decide +kernel
theorem dL_withdraw_25 : decode cL_withdraw 25 = .ok (.astore 4, 2) := by decide +kernel
theorem dL_withdraw_27 : decode cL_withdraw 27 = .ok (.iconst 4, 1) := by decide +kernel
theorem dL_withdraw_28 : decode cL_withdraw 28 = .ok (.ireturn, 1) := by decide +kernel
theorem dL_withdraw_29 : decode cL_withdraw 29 = .ok (.iconst 0, 1) := by decide +kernel
theorem dL_withdraw_30 : decode cL_withdraw 30 = .ok (.ireturn, 1) := by decide +kernel
def hhL_withdraw : hp_hh := [(0, 10, 13, 25), (0, 10, 17, 13), (0, 10, 21, 15), (0, 10, 25, 27)]
theorem mL_withdraw : hp_YW yL_withdraw cL_withdraw 5 (some .int) hhL_withdraw 4 := ⟨wd4_63, wd1_0, by decide +kernel, wd4_62⟩
set_option maxHeartbeats 4000000 in
theorem c_L_withdraw {G : hp_G} {l : Launch} (hl : l.stackTraces = false) {n0 : Nat} {h0 : Nat → Option va_E} {x b : Nat} {f : Nat → Int64} (hb : G.2.1 ≤ b) {fs : List Value} (hx : h0 x = some (.inr (9, fs))) {a1 a2 : Int32} {ans : hp_O} {F : hp_T → Prop} {mc ms : Nat} (hC : Ct G l yX7_withdraw cX7_withdraw 3 (some .int) 12 mc ms [.ref x, .int a1, .int a2] (n0, h0) (fun o τ => o = ans ∧ F τ)) (hF : ∀ τ, F τ → τ.2 b = some (.inl (G.2.2.1 3, 1, .inr (.inl f)))) (hA : (∃ r, ans = rI r) ∨ ans = .inr "java/lang/IndexOutOfBoundsException" ∨ ans = .inr "java/lang/IllegalArgumentException" ∨ ans = .inr "java/lang/IllegalStateException" ∨ ans = .inr "java/lang/UnsupportedOperationException") : Cw G l yL_withdraw cL_withdraw 5 (some .int) hhL_withdraw 13 mc ms [.ref x, .int a1, .int a2, .ref b] (n0, h0) (Lw G b f Int32.toInt64 ans ["java/lang/IndexOutOfBoundsException", "java/lang/IllegalArgumentException", "java/lang/IllegalStateException", "java/lang/UnsupportedOperationException"] F) := by
  refine Cw.of rfl hl (by simp [Value.category]) (Nat.le_of_ble_eq_true rfl) (fun K C E hRm hKl => ?_)
  subst hKl
  refine v_aload_n C dL_withdraw_0 rfl ?_
  refine v_iconst (v := nI 0) C dL_withdraw_1 (by decide) ?_
  refine v_aload_n C dL_withdraw_2 rfl ?_
  refine v_iload_n C dL_withdraw_3 rfl ?_
  refine v_iload_n C dL_withdraw_4 rfl ?_
  refine v_callVx C (rest := [.int (nI 0), .ref b]) hC dL_withdraw_5 mX7_withdraw rfl hx rfl wd4_64 rfl rfl (Nat.le_of_ble_eq_true rfl) (hp_rmle hRm (by decide) (by decide)) (Nat.le_refl _) (Nat.le_refl _) (fun EE τ hp => ?_) (fun v τ hp => ?_)
  · obtain ⟨e, hF0⟩ := hp
    rcases hA with ⟨r, hr⟩ | hr | hr | hr | hr
    · rw [hr] at e
      cases e
    · rw [hr] at e
      cases e
      refine w_catch C E [] (⟨0, 10, 13, 25⟩ : ExceptionTableEntry) [(⟨0, 10, 17, 13⟩ : ExceptionTableEntry), (⟨0, 10, 21, 15⟩ : ExceptionTableEntry), (⟨0, 10, 25, 27⟩ : ExceptionTableEntry)] rfl (fun z hz => absurd hz List.not_mem_nil) rfl (Nat.ne_of_beq_eq_false rfl) wd4_21 wd2_125 (fun q => ?_)
      refine v_astore C dL_withdraw_13 (by decide) ?_
      refine v_iconst (v := nI 1) C dL_withdraw_15 (by decide) ?_
      exact w_iret C E dL_withdraw_16 rfl (Or.inr ⟨0, _, rfl, hr, hF0, rfl⟩)
    · rw [hr] at e
      cases e
      have hpass : ∀ z ∈ ([(⟨0, 10, 13, 25⟩ : ExceptionTableEntry)] : List ExceptionTableEntry), z.catchType ≠ 0 ∧ ∃ nm ∈ hp_ex, "java/lang/IllegalArgumentException" ∈ hp_ex ∧ "java/lang/IllegalArgumentException" ≠ nm ∧ Cond.classLink "HorizonExchangeLaw" z.catchType nm ∈ lw_tbl := by
        intro z hz
        simp only [List.mem_cons, List.not_mem_nil, or_false] at hz
        subst hz
        exact ⟨by decide, "java/lang/IndexOutOfBoundsException", by decide, by decide, by decide, wd4_21⟩
      refine w_catch C E [(⟨0, 10, 13, 25⟩ : ExceptionTableEntry)] (⟨0, 10, 17, 13⟩ : ExceptionTableEntry) [(⟨0, 10, 21, 15⟩ : ExceptionTableEntry), (⟨0, 10, 25, 27⟩ : ExceptionTableEntry)] rfl hpass rfl (Nat.ne_of_beq_eq_false rfl) wd4_5 wd2_197 (fun q => ?_)
      refine v_astore C dL_withdraw_17 (by decide) ?_
      refine v_iconst (v := nI 2) C dL_withdraw_19 (by decide) ?_
      exact w_iret C E dL_withdraw_20 rfl (Or.inr ⟨1, _, rfl, hr, hF0, rfl⟩)
    · rw [hr] at e
      cases e
      have hpass : ∀ z ∈ ([(⟨0, 10, 13, 25⟩ : ExceptionTableEntry), (⟨0, 10, 17, 13⟩ : ExceptionTableEntry)] : List ExceptionTableEntry), z.catchType ≠ 0 ∧ ∃ nm ∈ hp_ex, "java/lang/IllegalStateException" ∈ hp_ex ∧ "java/lang/IllegalStateException" ≠ nm ∧ Cond.classLink "HorizonExchangeLaw" z.catchType nm ∈ lw_tbl := by
        intro z hz
        simp only [List.mem_cons, List.not_mem_nil, or_false] at hz
        rcases hz with rfl | rfl
        · exact ⟨by decide, "java/lang/IndexOutOfBoundsException", by decide, by decide, by decide, wd4_21⟩
        · exact ⟨by decide, "java/lang/IllegalArgumentException", by decide, by decide, by decide, wd4_5⟩
      refine w_catch C E [(⟨0, 10, 13, 25⟩ : ExceptionTableEntry), (⟨0, 10, 17, 13⟩ : ExceptionTableEntry)] (⟨0, 10, 21, 15⟩ : ExceptionTableEntry) [(⟨0, 10, 25, 27⟩ : ExceptionTableEntry)] rfl hpass rfl (Nat.ne_of_beq_eq_false rfl) wd4_6 wd2_213 (fun q => ?_)
      refine v_astore C dL_withdraw_21 (by decide) ?_
      refine v_iconst (v := nI 3) C dL_withdraw_23 (by decide) ?_
      exact w_iret C E dL_withdraw_24 rfl (Or.inr ⟨2, _, rfl, hr, hF0, rfl⟩)
    · rw [hr] at e
      cases e
      have hpass : ∀ z ∈ ([(⟨0, 10, 13, 25⟩ : ExceptionTableEntry), (⟨0, 10, 17, 13⟩ : ExceptionTableEntry), (⟨0, 10, 21, 15⟩ : ExceptionTableEntry)] : List ExceptionTableEntry), z.catchType ≠ 0 ∧ ∃ nm ∈ hp_ex, "java/lang/UnsupportedOperationException" ∈ hp_ex ∧ "java/lang/UnsupportedOperationException" ≠ nm ∧ Cond.classLink "HorizonExchangeLaw" z.catchType nm ∈ lw_tbl := by
        intro z hz
        simp only [List.mem_cons, List.not_mem_nil, or_false] at hz
        rcases hz with rfl | rfl | rfl
        · exact ⟨by decide, "java/lang/IndexOutOfBoundsException", by decide, by decide, by decide, wd4_21⟩
        · exact ⟨by decide, "java/lang/IllegalArgumentException", by decide, by decide, by decide, wd4_5⟩
        · exact ⟨by decide, "java/lang/IllegalStateException", by decide, by decide, by decide, wd4_6⟩
      refine w_catch C E [(⟨0, 10, 13, 25⟩ : ExceptionTableEntry), (⟨0, 10, 17, 13⟩ : ExceptionTableEntry), (⟨0, 10, 21, 15⟩ : ExceptionTableEntry)] (⟨0, 10, 25, 27⟩ : ExceptionTableEntry) [] rfl hpass rfl (Nat.ne_of_beq_eq_false rfl) wd4_42 wd2_229 (fun q => ?_)
      refine v_astore C dL_withdraw_25 (by decide) ?_
      refine v_iconst (v := nI 4) C dL_withdraw_27 (by decide) ?_
      exact w_iret C E dL_withdraw_28 rfl (Or.inr ⟨3, _, rfl, hr, hF0, rfl⟩)
  · obtain ⟨e, hF0⟩ := hp
    rcases hA with ⟨r, hr⟩ | hr | hr | hr | hr
    · rw [hr] at e
      cases e
      obtain ⟨n1, h1⟩ := τ
      show V G K _ _ _ (n1, h1) 8 _ [.int r, .int (nI 0), .ref b]
      refine v_i2l C dL_withdraw_8 ?_
      refine v_last C dL_withdraw_9 hb (hF (n1, h1) hF0) (vp_in_nI (n := 0) (N := 1) (by decide) (by decide)) (fun h2 e2 k2 => ?_)
      refine v_goto (tgt := 29) C dL_withdraw_10 (by decide) ?_
      refine v_iconst (v := nI 0) C dL_withdraw_29 (by decide) ?_
      exact w_iret C E dL_withdraw_30 rfl (Or.inl ⟨r, (n1, h1), hr, rfl, hF0, rfl, e2, k2⟩)
    · rw [hr] at e
      cases e
    · rw [hr] at e
      cases e
    · rw [hr] at e
      cases e
    · rw [hr] at e
      cases e
theorem dL_contribute_0 : decode cL_contribute 0 = .ok (.aload_n 3, 1) := by decide +kernel
theorem dL_contribute_1 : decode cL_contribute 1 = .ok (.iconst 0, 1) := by decide +kernel
theorem dL_contribute_2 : decode cL_contribute 2 = .ok (.aload_n 0, 1) := by decide +kernel
theorem dL_contribute_3 : decode cL_contribute 3 = .ok (.iload_n 1, 1) := by decide +kernel
theorem dL_contribute_4 : decode cL_contribute 4 = .ok (.iload_n 2, 1) := by decide +kernel
theorem dL_contribute_5 : decode cL_contribute 5 = .ok (.invokevirtual 38, 3) := by decide +kernel
theorem dL_contribute_8 : decode cL_contribute 8 = .ok (.i2l, 1) := by decide +kernel
theorem dL_contribute_9 : decode cL_contribute 9 = .ok (.lastore, 1) := by decide +kernel
theorem dL_contribute_10 : decode cL_contribute 10 = .ok (.goto 19, 3) := by decide +kernel
theorem dL_contribute_13 : decode cL_contribute 13 = .ok (.astore 4, 2) := by decide +kernel
theorem dL_contribute_15 : decode cL_contribute 15 = .ok (.iconst 1, 1) := by decide +kernel
theorem dL_contribute_16 : decode cL_contribute 16 = .ok (.ireturn, 1) := by decide +kernel
theorem dL_contribute_17 : decode cL_contribute 17 = .ok (.astore 4, 2) := by decide +kernel
theorem dL_contribute_19 : decode cL_contribute 19 = .ok (.iconst 2, 1) := by decide +kernel
theorem dL_contribute_20 : decode cL_contribute 20 = .ok (.ireturn, 1) := by decide +kernel
theorem dL_contribute_21 : decode cL_contribute 21 = .ok (.astore 4, 2) := by decide +kernel
theorem dL_contribute_23 : decode cL_contribute 23 = .ok (.iconst 3, 1) := by decide +kernel
theorem dL_contribute_24 : decode cL_contribute 24 = .ok (.ireturn, 1) := by decide +kernel
theorem dL_contribute_25 : decode cL_contribute 25 = .ok (.astore 4, 2) := by decide +kernel
theorem dL_contribute_27 : decode cL_contribute 27 = .ok (.iconst 4, 1) := by decide +kernel
theorem dL_contribute_28 : decode cL_contribute 28 = .ok (.ireturn, 1) := by decide +kernel
theorem dL_contribute_29 : decode cL_contribute 29 = .ok (.iconst 0, 1) := by decide +kernel
theorem dL_contribute_30 : decode cL_contribute 30 = .ok (.ireturn, 1) := by decide +kernel
def hhL_contribute : hp_hh := [(0, 10, 13, 25), (0, 10, 17, 13), (0, 10, 21, 15), (0, 10, 25, 27)]
theorem mL_contribute : hp_YW yL_contribute cL_contribute 5 (some .int) hhL_contribute 4 := ⟨wd4_70, wd1_0, by decide +kernel, wd4_69⟩
set_option maxHeartbeats 4000000 in
theorem c_L_contribute {G : hp_G} {l : Launch} (hl : l.stackTraces = false) {n0 : Nat} {h0 : Nat → Option va_E} {x b : Nat} {f : Nat → Int64} (hb : G.2.1 ≤ b) {fs : List Value} (hx : h0 x = some (.inr (9, fs))) {a1 a2 : Int32} {ans : hp_O} {F : hp_T → Prop} {mc ms : Nat} (hC : Ct G l yX7_contribute cX7_contribute 3 (some .int) 12 mc ms [.ref x, .int a1, .int a2] (n0, h0) (fun o τ => o = ans ∧ F τ)) (hF : ∀ τ, F τ → τ.2 b = some (.inl (G.2.2.1 3, 1, .inr (.inl f)))) (hA : (∃ r, ans = rI r) ∨ ans = .inr "java/lang/IndexOutOfBoundsException" ∨ ans = .inr "java/lang/IllegalArgumentException" ∨ ans = .inr "java/lang/IllegalStateException" ∨ ans = .inr "java/lang/UnsupportedOperationException") : Cw G l yL_contribute cL_contribute 5 (some .int) hhL_contribute 13 mc ms [.ref x, .int a1, .int a2, .ref b] (n0, h0) (Lw G b f Int32.toInt64 ans ["java/lang/IndexOutOfBoundsException", "java/lang/IllegalArgumentException", "java/lang/IllegalStateException", "java/lang/UnsupportedOperationException"] F) := by
  refine Cw.of rfl hl (by simp [Value.category]) (Nat.le_of_ble_eq_true rfl) (fun K C E hRm hKl => ?_)
  subst hKl
  refine v_aload_n C dL_contribute_0 rfl ?_
  refine v_iconst (v := nI 0) C dL_contribute_1 (by decide) ?_
  refine v_aload_n C dL_contribute_2 rfl ?_
  refine v_iload_n C dL_contribute_3 rfl ?_
  refine v_iload_n C dL_contribute_4 rfl ?_
  refine v_callVx C (rest := [.int (nI 0), .ref b]) hC dL_contribute_5 mX7_contribute rfl hx rfl wd4_71 rfl rfl (Nat.le_of_ble_eq_true rfl) (hp_rmle hRm (by decide) (by decide)) (Nat.le_refl _) (Nat.le_refl _) (fun EE τ hp => ?_) (fun v τ hp => ?_)
  · obtain ⟨e, hF0⟩ := hp
    rcases hA with ⟨r, hr⟩ | hr | hr | hr | hr
    · rw [hr] at e
      cases e
    · rw [hr] at e
      cases e
      refine w_catch C E [] (⟨0, 10, 13, 25⟩ : ExceptionTableEntry) [(⟨0, 10, 17, 13⟩ : ExceptionTableEntry), (⟨0, 10, 21, 15⟩ : ExceptionTableEntry), (⟨0, 10, 25, 27⟩ : ExceptionTableEntry)] rfl (fun z hz => absurd hz List.not_mem_nil) rfl (Nat.ne_of_beq_eq_false rfl) wd4_21 wd2_125 (fun q => ?_)
      refine v_astore C dL_contribute_13 (by decide) ?_
      refine v_iconst (v := nI 1) C dL_contribute_15 (by decide) ?_
      exact w_iret C E dL_contribute_16 rfl (Or.inr ⟨0, _, rfl, hr, hF0, rfl⟩)
    · rw [hr] at e
      cases e
      have hpass : ∀ z ∈ ([(⟨0, 10, 13, 25⟩ : ExceptionTableEntry)] : List ExceptionTableEntry), z.catchType ≠ 0 ∧ ∃ nm ∈ hp_ex, "java/lang/IllegalArgumentException" ∈ hp_ex ∧ "java/lang/IllegalArgumentException" ≠ nm ∧ Cond.classLink "HorizonExchangeLaw" z.catchType nm ∈ lw_tbl := by
        intro z hz
        simp only [List.mem_cons, List.not_mem_nil, or_false] at hz
        subst hz
        exact ⟨by decide, "java/lang/IndexOutOfBoundsException", by decide, by decide, by decide, wd4_21⟩
      refine w_catch C E [(⟨0, 10, 13, 25⟩ : ExceptionTableEntry)] (⟨0, 10, 17, 13⟩ : ExceptionTableEntry) [(⟨0, 10, 21, 15⟩ : ExceptionTableEntry), (⟨0, 10, 25, 27⟩ : ExceptionTableEntry)] rfl hpass rfl (Nat.ne_of_beq_eq_false rfl) wd4_5 wd2_197 (fun q => ?_)
      refine v_astore C dL_contribute_17 (by decide) ?_
      refine v_iconst (v := nI 2) C dL_contribute_19 (by decide) ?_
      exact w_iret C E dL_contribute_20 rfl (Or.inr ⟨1, _, rfl, hr, hF0, rfl⟩)
    · rw [hr] at e
      cases e
      have hpass : ∀ z ∈ ([(⟨0, 10, 13, 25⟩ : ExceptionTableEntry), (⟨0, 10, 17, 13⟩ : ExceptionTableEntry)] : List ExceptionTableEntry), z.catchType ≠ 0 ∧ ∃ nm ∈ hp_ex, "java/lang/IllegalStateException" ∈ hp_ex ∧ "java/lang/IllegalStateException" ≠ nm ∧ Cond.classLink "HorizonExchangeLaw" z.catchType nm ∈ lw_tbl := by
        intro z hz
        simp only [List.mem_cons, List.not_mem_nil, or_false] at hz
        rcases hz with rfl | rfl
        · exact ⟨by decide, "java/lang/IndexOutOfBoundsException", by decide, by decide, by decide, wd4_21⟩
        · exact ⟨by decide, "java/lang/IllegalArgumentException", by decide, by decide, by decide, wd4_5⟩
      refine w_catch C E [(⟨0, 10, 13, 25⟩ : ExceptionTableEntry), (⟨0, 10, 17, 13⟩ : ExceptionTableEntry)] (⟨0, 10, 21, 15⟩ : ExceptionTableEntry) [(⟨0, 10, 25, 27⟩ : ExceptionTableEntry)] rfl hpass rfl (Nat.ne_of_beq_eq_false rfl) wd4_6 wd2_213 (fun q => ?_)
      refine v_astore C dL_contribute_21 (by decide) ?_
      refine v_iconst (v := nI 3) C dL_contribute_23 (by decide) ?_
      exact w_iret C E dL_contribute_24 rfl (Or.inr ⟨2, _, rfl, hr, hF0, rfl⟩)
    · rw [hr] at e
      cases e
      have hpass : ∀ z ∈ ([(⟨0, 10, 13, 25⟩ : ExceptionTableEntry), (⟨0, 10, 17, 13⟩ : ExceptionTableEntry), (⟨0, 10, 21, 15⟩ : ExceptionTableEntry)] : List ExceptionTableEntry), z.catchType ≠ 0 ∧ ∃ nm ∈ hp_ex, "java/lang/UnsupportedOperationException" ∈ hp_ex ∧ "java/lang/UnsupportedOperationException" ≠ nm ∧ Cond.classLink "HorizonExchangeLaw" z.catchType nm ∈ lw_tbl := by
        intro z hz
        simp only [List.mem_cons, List.not_mem_nil, or_false] at hz
        rcases hz with rfl | rfl | rfl
        · exact ⟨by decide, "java/lang/IndexOutOfBoundsException", by decide, by decide, by decide, wd4_21⟩
        · exact ⟨by decide, "java/lang/IllegalArgumentException", by decide, by decide, by decide, wd4_5⟩
        · exact ⟨by decide, "java/lang/IllegalStateException", by decide, by decide, by decide, wd4_6⟩
      refine w_catch C E [(⟨0, 10, 13, 25⟩ : ExceptionTableEntry), (⟨0, 10, 17, 13⟩ : ExceptionTableEntry), (⟨0, 10, 21, 15⟩ : ExceptionTableEntry)] (⟨0, 10, 25, 27⟩ : ExceptionTableEntry) [] rfl hpass rfl (Nat.ne_of_beq_eq_false rfl) wd4_42 wd2_229 (fun q => ?_)
      refine v_astore C dL_contribute_25 (by decide) ?_
      refine v_iconst (v := nI 4) C dL_contribute_27 (by decide) ?_
      exact w_iret C E dL_contribute_28 rfl (Or.inr ⟨3, _, rfl, hr, hF0, rfl⟩)
  · obtain ⟨e, hF0⟩ := hp
    rcases hA with ⟨r, hr⟩ | hr | hr | hr | hr
    · rw [hr] at e
      cases e
      obtain ⟨n1, h1⟩ := τ
      show V G K _ _ _ (n1, h1) 8 _ [.int r, .int (nI 0), .ref b]
      refine v_i2l C dL_contribute_8 ?_
      refine v_last C dL_contribute_9 hb (hF (n1, h1) hF0) (vp_in_nI (n := 0) (N := 1) (by decide) (by decide)) (fun h2 e2 k2 => ?_)
      refine v_goto (tgt := 29) C dL_contribute_10 (by decide) ?_
      refine v_iconst (v := nI 0) C dL_contribute_29 (by decide) ?_
      exact w_iret C E dL_contribute_30 rfl (Or.inl ⟨r, (n1, h1), hr, rfl, hF0, rfl, e2, k2⟩)
    · rw [hr] at e
      cases e
    · rw [hr] at e
      cases e
    · rw [hr] at e
      cases e
    · rw [hr] at e
      cases e
theorem dL_priceOf_0 : decode cL_priceOf 0 = .ok (.aload_n 2, 1) := by decide +kernel
theorem dL_priceOf_1 : decode cL_priceOf 1 = .ok (.iconst 0, 1) := by decide +kernel
theorem dL_priceOf_2 : decode cL_priceOf 2 = .ok (.aload_n 0, 1) := by decide +kernel
theorem dL_priceOf_3 : decode cL_priceOf 3 = .ok (.iload_n 1, 1) := by decide +kernel
theorem dL_priceOf_4 : decode cL_priceOf 4 = .ok (.invokevirtual 41, 3) := by decide +kernel
theorem dL_priceOf_7 : decode cL_priceOf 7 = .ok (.i2l, 1) := by decide +kernel
theorem dL_priceOf_8 : decode cL_priceOf 8 = .ok (.lastore, 1) := by decide +kernel
theorem dL_priceOf_9 : decode cL_priceOf 9 = .ok (.goto 6, 3) := by decide +kernel
theorem dL_priceOf_12 : decode cL_priceOf 12 = .ok (.astore_n 3, 1) := by decide +kernel
theorem dL_priceOf_13 : decode cL_priceOf 13 = .ok (.iconst 1, 1) := by decide +kernel
theorem dL_priceOf_14 : decode cL_priceOf 14 = .ok (.ireturn, 1) := by decide +kernel
theorem dL_priceOf_15 : decode cL_priceOf 15 = .ok (.iconst 0, 1) := by decide +kernel
theorem dL_priceOf_16 : decode cL_priceOf 16 = .ok (.ireturn, 1) := by decide +kernel
def hhL_priceOf : hp_hh := [(0, 9, 12, 25)]
theorem mL_priceOf : hp_YW yL_priceOf cL_priceOf 4 (some .int) hhL_priceOf 3 := ⟨wd4_77, wd1_0, by decide +kernel, wd4_76⟩
set_option maxHeartbeats 4000000 in
theorem c_L_priceOf {G : hp_G} {l : Launch} (hl : l.stackTraces = false) {n0 : Nat} {h0 : Nat → Option va_E} {x b : Nat} {f : Nat → Int64} (hb : G.2.1 ≤ b) {fs : List Value} (hx : h0 x = some (.inr (9, fs))) {a1 : Int32} {ans : hp_O} {F : hp_T → Prop} {mc ms : Nat} (hC : Ct G l yX7_priceOf cX7_priceOf 2 (some .int) 8 mc ms [.ref x, .int a1] (n0, h0) (fun o τ => o = ans ∧ F τ)) (hF : ∀ τ, F τ → τ.2 b = some (.inl (G.2.2.1 3, 1, .inr (.inl f)))) (hA : (∃ r, ans = rI r) ∨ ans = .inr "java/lang/IndexOutOfBoundsException") : Cw G l yL_priceOf cL_priceOf 4 (some .int) hhL_priceOf 9 mc ms [.ref x, .int a1, .ref b] (n0, h0) (Lw G b f Int32.toInt64 ans ["java/lang/IndexOutOfBoundsException"] F) := by
  refine Cw.of rfl hl (by simp [Value.category]) (Nat.le_of_ble_eq_true rfl) (fun K C E hRm hKl => ?_)
  subst hKl
  refine v_aload_n C dL_priceOf_0 rfl ?_
  refine v_iconst (v := nI 0) C dL_priceOf_1 (by decide) ?_
  refine v_aload_n C dL_priceOf_2 rfl ?_
  refine v_iload_n C dL_priceOf_3 rfl ?_
  refine v_callVx C (rest := [.int (nI 0), .ref b]) hC dL_priceOf_4 mX7_priceOf rfl hx rfl wd4_78 rfl rfl (Nat.le_of_ble_eq_true rfl) (hp_rmle hRm (by decide) (by decide)) (Nat.le_refl _) (Nat.le_refl _) (fun EE τ hp => ?_) (fun v τ hp => ?_)
  · obtain ⟨e, hF0⟩ := hp
    rcases hA with ⟨r, hr⟩ | hr
    · rw [hr] at e
      cases e
    · rw [hr] at e
      cases e
      refine w_catch C E [] (⟨0, 9, 12, 25⟩ : ExceptionTableEntry) [] rfl (fun z hz => absurd hz List.not_mem_nil) rfl (Nat.ne_of_beq_eq_false rfl) wd4_21 wd2_125 (fun q => ?_)
      refine v_astore_n C dL_priceOf_12 (by decide) ?_
      refine v_iconst (v := nI 1) C dL_priceOf_13 (by decide) ?_
      exact w_iret C E dL_priceOf_14 rfl (Or.inr ⟨0, _, rfl, hr, hF0, rfl⟩)
  · obtain ⟨e, hF0⟩ := hp
    rcases hA with ⟨r, hr⟩ | hr
    · rw [hr] at e
      cases e
      obtain ⟨n1, h1⟩ := τ
      show V G K _ _ _ (n1, h1) 7 _ [.int r, .int (nI 0), .ref b]
      refine v_i2l C dL_priceOf_7 ?_
      refine v_last C dL_priceOf_8 hb (hF (n1, h1) hF0) (vp_in_nI (n := 0) (N := 1) (by decide) (by decide)) (fun h2 e2 k2 => ?_)
      refine v_goto (tgt := 15) C dL_priceOf_9 (by decide) ?_
      refine v_iconst (v := nI 0) C dL_priceOf_15 (by decide) ?_
      exact w_iret C E dL_priceOf_16 rfl (Or.inl ⟨r, (n1, h1), hr, rfl, hF0, rfl, e2, k2⟩)
    · rw [hr] at e
      cases e
theorem dL_quoteOf_0 : decode cL_quoteOf 0 = .ok (.aload_n 2, 1) := by decide +kernel
theorem dL_quoteOf_1 : decode cL_quoteOf 1 = .ok (.iconst 0, 1) := by decide +kernel
theorem dL_quoteOf_2 : decode cL_quoteOf 2 = .ok (.aload_n 0, 1) := by decide +kernel
theorem dL_quoteOf_3 : decode cL_quoteOf 3 = .ok (.iload_n 1, 1) := by decide +kernel
theorem dL_quoteOf_4 : decode cL_quoteOf 4 = .ok (.invokevirtual 44, 3) := by decide +kernel
theorem dL_quoteOf_7 : decode cL_quoteOf 7 = .ok (.i2l, 1) := by decide +kernel
theorem dL_quoteOf_8 : decode cL_quoteOf 8 = .ok (.lastore, 1) := by decide +kernel
theorem dL_quoteOf_9 : decode cL_quoteOf 9 = .ok (.goto 6, 3) := by decide +kernel
theorem dL_quoteOf_12 : decode cL_quoteOf 12 = .ok (.astore_n 3, 1) := by decide +kernel
theorem dL_quoteOf_13 : decode cL_quoteOf 13 = .ok (.iconst 1, 1) := by decide +kernel
theorem dL_quoteOf_14 : decode cL_quoteOf 14 = .ok (.ireturn, 1) := by decide +kernel
theorem dL_quoteOf_15 : decode cL_quoteOf 15 = .ok (.iconst 0, 1) := by decide +kernel
theorem dL_quoteOf_16 : decode cL_quoteOf 16 = .ok (.ireturn, 1) := by decide +kernel
def hhL_quoteOf : hp_hh := [(0, 9, 12, 25)]
theorem mL_quoteOf : hp_YW yL_quoteOf cL_quoteOf 4 (some .int) hhL_quoteOf 3 := ⟨wd4_87, wd1_0, by decide +kernel, wd4_86⟩
set_option maxHeartbeats 4000000 in
theorem c_L_quoteOf {G : hp_G} {l : Launch} (hl : l.stackTraces = false) {n0 : Nat} {h0 : Nat → Option va_E} {x b : Nat} {f : Nat → Int64} (hb : G.2.1 ≤ b) {fs : List Value} (hx : h0 x = some (.inr (9, fs))) {a1 : Int32} {ans : hp_O} {F : hp_T → Prop} {mc ms : Nat} (hC : Ct G l yX7_quoteOf cX7_quoteOf 2 (some .int) 8 mc ms [.ref x, .int a1] (n0, h0) (fun o τ => o = ans ∧ F τ)) (hF : ∀ τ, F τ → τ.2 b = some (.inl (G.2.2.1 3, 1, .inr (.inl f)))) (hA : (∃ r, ans = rI r) ∨ ans = .inr "java/lang/IndexOutOfBoundsException") : Cw G l yL_quoteOf cL_quoteOf 4 (some .int) hhL_quoteOf 9 mc ms [.ref x, .int a1, .ref b] (n0, h0) (Lw G b f Int32.toInt64 ans ["java/lang/IndexOutOfBoundsException"] F) := by
  refine Cw.of rfl hl (by simp [Value.category]) (Nat.le_of_ble_eq_true rfl) (fun K C E hRm hKl => ?_)
  subst hKl
  refine v_aload_n C dL_quoteOf_0 rfl ?_
  refine v_iconst (v := nI 0) C dL_quoteOf_1 (by decide) ?_
  refine v_aload_n C dL_quoteOf_2 rfl ?_
  refine v_iload_n C dL_quoteOf_3 rfl ?_
  refine v_callVx C (rest := [.int (nI 0), .ref b]) hC dL_quoteOf_4 mX7_quoteOf rfl hx rfl wd4_88 rfl rfl (Nat.le_of_ble_eq_true rfl) (hp_rmle hRm (by decide) (by decide)) (Nat.le_refl _) (Nat.le_refl _) (fun EE τ hp => ?_) (fun v τ hp => ?_)
  · obtain ⟨e, hF0⟩ := hp
    rcases hA with ⟨r, hr⟩ | hr
    · rw [hr] at e
      cases e
    · rw [hr] at e
      cases e
      refine w_catch C E [] (⟨0, 9, 12, 25⟩ : ExceptionTableEntry) [] rfl (fun z hz => absurd hz List.not_mem_nil) rfl (Nat.ne_of_beq_eq_false rfl) wd4_21 wd2_125 (fun q => ?_)
      refine v_astore_n C dL_quoteOf_12 (by decide) ?_
      refine v_iconst (v := nI 1) C dL_quoteOf_13 (by decide) ?_
      exact w_iret C E dL_quoteOf_14 rfl (Or.inr ⟨0, _, rfl, hr, hF0, rfl⟩)
  · obtain ⟨e, hF0⟩ := hp
    rcases hA with ⟨r, hr⟩ | hr
    · rw [hr] at e
      cases e
      obtain ⟨n1, h1⟩ := τ
      show V G K _ _ _ (n1, h1) 7 _ [.int r, .int (nI 0), .ref b]
      refine v_i2l C dL_quoteOf_7 ?_
      refine v_last C dL_quoteOf_8 hb (hF (n1, h1) hF0) (vp_in_nI (n := 0) (N := 1) (by decide) (by decide)) (fun h2 e2 k2 => ?_)
      refine v_goto (tgt := 15) C dL_quoteOf_9 (by decide) ?_
      refine v_iconst (v := nI 0) C dL_quoteOf_15 (by decide) ?_
      exact w_iret C E dL_quoteOf_16 rfl (Or.inl ⟨r, (n1, h1), hr, rfl, hF0, rfl, e2, k2⟩)
    · rw [hr] at e
      cases e

/-- the same for a row of doubles -/
def LwD (G : hp_G) (b : Nat) (f : Nat → UInt64) {T : Type} (g : T → UInt64) (c : T → hp_O) (ans : hp_O) (ex : List String) (F : hp_T → Prop) : hp_P := fun o τ => (∃ r τ1, ans = c r ∧ o = rI (nI 0) ∧ F τ1 ∧ τ.1 = τ1.1 ∧ τ.2 b = some (.inl (G.2.2.1 4, 1, .inr (.inr (.inr (.inl (vf_upd f 0 (g r))))))) ∧ ∀ q, q ≠ b → τ.2 q = τ1.2 q) ∨ (∃ i E, ex[i]? = some E ∧ ans = .inr E ∧ F τ ∧ o = rI (nI (i + 1)))
theorem LwD_n {G : hp_G} {b : Nat} {f : Nat → UInt64} {T : Type} {g : T → UInt64} {c : T → hp_O} {ans : hp_O} {ex : List String} {F : hp_T → Prop} : ∀ E τ, ¬ LwD G b f g c ans ex F (.inr E) τ := fun E τ h => by
  rcases h with ⟨r, τ1, h1, h2, h3⟩ | ⟨i, E2, h1, h2, h3, h4⟩
  · cases h2
  · cases h4
theorem dL_meanMargin_0 : decode cL_meanMargin 0 = .ok (.aload_n 1, 1) := by decide +kernel
theorem dL_meanMargin_1 : decode cL_meanMargin 1 = .ok (.iconst 0, 1) := by decide +kernel
theorem dL_meanMargin_2 : decode cL_meanMargin 2 = .ok (.aload_n 0, 1) := by decide +kernel
theorem dL_meanMargin_3 : decode cL_meanMargin 3 = .ok (.invokevirtual 104, 3) := by decide +kernel
theorem dL_meanMargin_6 : decode cL_meanMargin 6 = .ok (.dastore, 1) := by decide +kernel
theorem dL_meanMargin_7 : decode cL_meanMargin 7 = .ok (.goto 6, 3) := by decide +kernel
theorem dL_meanMargin_10 : decode cL_meanMargin 10 = .ok (.astore_n 2, 1) := by decide +kernel
theorem dL_meanMargin_11 : decode cL_meanMargin 11 = .ok (.iconst 1, 1) := by decide +kernel
theorem dL_meanMargin_12 : decode cL_meanMargin 12 = .ok (.ireturn, 1) := by decide +kernel
theorem dL_meanMargin_13 : decode cL_meanMargin 13 = .ok (.iconst 0, 1) := by decide +kernel
theorem dL_meanMargin_14 : decode cL_meanMargin 14 = .ok (.ireturn, 1) := by decide +kernel
def hhL_meanMargin : hp_hh := [(0, 7, 10, 108)]
theorem mL_meanMargin : hp_YW yL_meanMargin cL_meanMargin 3 (some .int) hhL_meanMargin 2 := ⟨wd5_8, wd1_0, by decide +kernel, wd5_7⟩
set_option maxHeartbeats 4000000 in
theorem c_L_meanMargin {G : hp_G} {l : Launch} (hl : l.stackTraces = false) {n0 : Nat} {h0 : Nat → Option va_E} {x b : Nat} {f : Nat → UInt64} (hb : G.2.1 ≤ b) {fs : List Value} (hx : h0 x = some (.inr (9, fs))) {ans : hp_O} {F : hp_T → Prop} {mc ms : Nat} (hC : Ct G l yX7_meanMargin cX7_meanMargin 3 (some .double) 7 mc ms [.ref x] (n0, h0) (fun o τ => o = ans ∧ F τ)) (hF : ∀ τ, F τ → τ.2 b = some (.inl (G.2.2.1 4, 1, .inr (.inr (.inr (.inl f)))))) (hA : (∃ r, ans = .inl (some (.double r))) ∨ ans = .inr "java/lang/ArithmeticException") : Cw G l yL_meanMargin cL_meanMargin 3 (some .int) hhL_meanMargin 8 mc ms [.ref x, .ref b] (n0, h0) (LwD G b f id (fun r => .inl (some (.double r))) ans ["java/lang/ArithmeticException"] F) := by
  refine Cw.of rfl hl (by simp [Value.category]) (Nat.le_of_ble_eq_true rfl) (fun K C E hRm hKl => ?_)
  subst hKl
  refine v_aload_n C dL_meanMargin_0 rfl ?_
  refine v_iconst (v := nI 0) C dL_meanMargin_1 (by decide) ?_
  refine v_aload_n C dL_meanMargin_2 rfl ?_
  refine v_callVx C (rest := [.int (nI 0), .ref b]) hC dL_meanMargin_3 mX7_meanMargin rfl hx rfl wd5_23 rfl rfl (Nat.le_of_ble_eq_true rfl) (hp_rmle hRm (by decide) (by decide)) (Nat.le_refl _) (Nat.le_refl _) (fun EE τ hp => ?_) (fun v τ hp => ?_)
  · obtain ⟨e, hF0⟩ := hp
    rcases hA with ⟨r, hr⟩ | hr
    · rw [hr] at e
      cases e
    · rw [hr] at e
      cases e
      refine w_catch C E [] (⟨0, 7, 10, 108⟩ : ExceptionTableEntry) [] rfl (fun z hz => absurd hz List.not_mem_nil) rfl (Nat.ne_of_beq_eq_false rfl) wd5_9 wd5_21 (fun q => ?_)
      refine v_astore_n C dL_meanMargin_10 (by decide) ?_
      refine v_iconst (v := nI 1) C dL_meanMargin_11 (by decide) ?_
      exact w_iret C E dL_meanMargin_12 rfl (Or.inr ⟨0, _, rfl, hr, hF0, rfl⟩)
  · obtain ⟨e, hF0⟩ := hp
    rcases hA with ⟨r, hr⟩ | hr
    · rw [hr] at e
      cases e
      obtain ⟨n1, h1⟩ := τ
      show V G K _ _ _ (n1, h1) 6 _ [.double r, .int (nI 0), .ref b]
      refine v_dast C dL_meanMargin_6 hb (hF (n1, h1) hF0) (vp_in_nI (n := 0) (N := 1) (by decide) (by decide)) (fun h2 e2 k2 => ?_)
      refine v_goto (tgt := 13) C dL_meanMargin_7 (by decide) ?_
      refine v_iconst (v := nI 0) C dL_meanMargin_13 (by decide) ?_
      exact w_iret C E dL_meanMargin_14 rfl (Or.inl ⟨r, (n1, h1), hr, rfl, hF0, rfl, e2, k2⟩)
    · rw [hr] at e
      cases e
theorem dL_soundShare_0 : decode cL_soundShare 0 = .ok (.aload_n 1, 1) := by decide +kernel
theorem dL_soundShare_1 : decode cL_soundShare 1 = .ok (.iconst 0, 1) := by decide +kernel
theorem dL_soundShare_2 : decode cL_soundShare 2 = .ok (.aload_n 0, 1) := by decide +kernel
theorem dL_soundShare_3 : decode cL_soundShare 3 = .ok (.invokevirtual 110, 3) := by decide +kernel
theorem dL_soundShare_6 : decode cL_soundShare 6 = .ok (.f2d, 1) := by decide +kernel
theorem dL_soundShare_7 : decode cL_soundShare 7 = .ok (.dastore, 1) := by decide +kernel
theorem dL_soundShare_8 : decode cL_soundShare 8 = .ok (.goto 6, 3) := by decide +kernel
theorem dL_soundShare_11 : decode cL_soundShare 11 = .ok (.astore_n 2, 1) := by decide +kernel
theorem dL_soundShare_12 : decode cL_soundShare 12 = .ok (.iconst 1, 1) := by decide +kernel
theorem dL_soundShare_13 : decode cL_soundShare 13 = .ok (.ireturn, 1) := by decide +kernel
theorem dL_soundShare_14 : decode cL_soundShare 14 = .ok (.iconst 0, 1) := by decide +kernel
theorem dL_soundShare_15 : decode cL_soundShare 15 = .ok (.ireturn, 1) := by decide +kernel
def hhL_soundShare : hp_hh := [(0, 8, 11, 108)]
theorem mL_soundShare : hp_YW yL_soundShare cL_soundShare 3 (some .int) hhL_soundShare 2 := ⟨wd5_32, wd1_0, by decide +kernel, wd5_31⟩
set_option maxHeartbeats 4000000 in
theorem c_L_soundShare {G : hp_G} {l : Launch} (hl : l.stackTraces = false) {n0 : Nat} {h0 : Nat → Option va_E} {x b : Nat} {f : Nat → UInt64} (hb : G.2.1 ≤ b) {fs : List Value} (hx : h0 x = some (.inr (9, fs))) {ans : hp_O} {F : hp_T → Prop} {mc ms : Nat} (hC : Ct G l yX7_soundShare cX7_soundShare 3 (some .float) 7 mc ms [.ref x] (n0, h0) (fun o τ => o = ans ∧ F τ)) (hF : ∀ τ, F τ → τ.2 b = some (.inl (G.2.2.1 4, 1, .inr (.inr (.inr (.inl f)))))) (hA : (∃ r, ans = .inl (some (.float r))) ∨ ans = .inr "java/lang/ArithmeticException") (hn : ∀ r, ans = .inl (some (.float r)) → vf_n64 (FP.f2d r)) : Cw G l yL_soundShare cL_soundShare 3 (some .int) hhL_soundShare 8 mc ms [.ref x, .ref b] (n0, h0) (LwD G b f FP.f2d (fun r => .inl (some (.float r))) ans ["java/lang/ArithmeticException"] F) := by
  refine Cw.of rfl hl (by simp [Value.category]) (Nat.le_of_ble_eq_true rfl) (fun K C E hRm hKl => ?_)
  subst hKl
  refine v_aload_n C dL_soundShare_0 rfl ?_
  refine v_iconst (v := nI 0) C dL_soundShare_1 (by decide) ?_
  refine v_aload_n C dL_soundShare_2 rfl ?_
  refine v_callVx C (rest := [.int (nI 0), .ref b]) hC dL_soundShare_3 mX7_soundShare rfl hx rfl wd5_33 rfl rfl (Nat.le_of_ble_eq_true rfl) (hp_rmle hRm (by decide) (by decide)) (Nat.le_refl _) (Nat.le_refl _) (fun EE τ hp => ?_) (fun v τ hp => ?_)
  · obtain ⟨e, hF0⟩ := hp
    rcases hA with ⟨r, hr⟩ | hr
    · rw [hr] at e
      cases e
    · rw [hr] at e
      cases e
      refine w_catch C E [] (⟨0, 8, 11, 108⟩ : ExceptionTableEntry) [] rfl (fun z hz => absurd hz List.not_mem_nil) rfl (Nat.ne_of_beq_eq_false rfl) wd5_9 wd5_21 (fun q => ?_)
      refine v_astore_n C dL_soundShare_11 (by decide) ?_
      refine v_iconst (v := nI 1) C dL_soundShare_12 (by decide) ?_
      exact w_iret C E dL_soundShare_13 rfl (Or.inr ⟨0, _, rfl, hr, hF0, rfl⟩)
  · obtain ⟨e, hF0⟩ := hp
    rcases hA with ⟨r, hr⟩ | hr
    · rw [hr] at e
      cases e
      obtain ⟨n1, h1⟩ := τ
      show V G K _ _ _ (n1, h1) 6 _ [.float r, .int (nI 0), .ref b]
      refine v_f2d C dL_soundShare_6 (hn r hr) ?_
      refine v_dast C dL_soundShare_7 hb (hF (n1, h1) hF0) (vp_in_nI (n := 0) (N := 1) (by decide) (by decide)) (fun h2 e2 k2 => ?_)
      refine v_goto (tgt := 14) C dL_soundShare_8 (by decide) ?_
      refine v_iconst (v := nI 0) C dL_soundShare_14 (by decide) ?_
      exact w_iret C E dL_soundShare_15 rfl (Or.inl ⟨r, (n1, h1), hr, rfl, hF0, rfl, e2, k2⟩)
    · rw [hr] at e
      cases e

/-! ===== THE CLASS: shares, lines ===== -/
theorem fl_d (a b : Int32) (hb : b ≠ 0) : vf_n64 (FP.ddiv (FP.i2d a) (FP.i2d b)) := by
  have h := Jvm.FP.Core.ddiv_out (Jvm.FP.Core.i2d_fin a).notNaN (Jvm.FP.Core.i2d_fin b) (fun z => Jvm.FP.Core.i2d_ne_zero hb ((Jvm.FP.Core.zero_bits2 _).mp z))
  have h2 := (Jvm.FP.Core.ne_nan _).mp ((Jvm.FP.Core.notNaN_iff _).mp h)
  unfold vf_n64
  rw [UInt64.le_iff_toNat_le, Jvm.FP.Core.mask_toNat]
  exact h2
theorem fl_f (a b : Int32) (hb : b ≠ 0) : vf_n32 (FP.fdiv (FP.i2f a) (FP.i2f b)) := by
  have h := Jvm.FP.Core.fdiv_out (Jvm.FP.Core.i2f_fin a).notNaN (Jvm.FP.Core.i2f_fin b) (fun z => Jvm.FP.Core.i2f_ne_zero hb ((Jvm.FP.Core.zero_bits232 _).mp z))
  have h2 := (Jvm.FP.Core.ne_nan32 _).mp ((Jvm.FP.Core.notNaN_iff32 _).mp h)
  unfold vf_n32
  rw [UInt32.le_iff_toNat_le, Jvm.FP.Core.mask_toNat32]
  exact h2
def mm_s (M : mk_T) (c : Nat) : Int32 := match c with
  | 0 => nI 0
  | c + 1 => mm_s M c + mk_mg M (nI c) (mk_hz M)
def ss_n (M : mk_T) (c : Nat) : Nat := match c with
  | 0 => 0
  | c + 1 => if mk_ar M 4 c = nI 0 then ss_n M c + 1 else ss_n M c
theorem ss_n_le (M : mk_T) : ∀ c, ss_n M c ≤ c
  | 0 => Nat.le_refl _
  | c + 1 => by
    have := ss_n_le M c
    unfold ss_n
    split <;> omega
def mm_a (M : mk_T) : hp_O := qa (¬ mk_tr M = 0) xM (.inl (some (.double (FP.ddiv (FP.i2d (mm_s M (mk_tr M))) (FP.i2d (nI (mk_tr M)))))))
def ss_a (M : mk_T) : hp_O := qa (¬ mk_tr M = 0) xM (.inl (some (.float (FP.fdiv (FP.i2f (nI (ss_n M (mk_tr M)))) (FP.i2f (nI (mk_tr M)))))))
set_option maxHeartbeats 4000000 in
theorem loop_X7_meanMargin {G : hp_G} {K : hp_C} {P : hp_P} {n0 : Nat} {h0 : Nat → Option va_E} {x L0 : Nat} {M : mk_T} {B : mk_T} {Z : mk_T} {mk : Nat → mk_T} {nx : Nat} {cnt : Nat} {t : Nat → Nat} {n : Nat} {lt : Nat → Nat} {ln : Nat} {hs : Int32} {ma : Int32} {fa : Int32} {rk : Nat → Option va_E} (F0 : Fx G n0 h0 x L0 M B Z mk nx cnt t n lt ln hs ma fa rk n0 h0) (C : hp_Cx G K MX7_meanMargin) (E : hp_End G K P) (hRm : hp_Rm K = hp_rm 7 1 6) (hl : K.2.1.stackTraces = false) (h1 : ¬ mk_tr M = 0) (hbase : G.2.1 ≤ x) (hp : P (mm_a M) (n0, h0)) : ∀ (e c : Nat), c + e = mk_tr M → V G K MX7_meanMargin 1 6 (n0, h0) 24 [some (.ref x), some (.int (mm_s M c)), some (.int (nI c))] [] := by
  have htr := F0.1.m.tr
  have hne : nI (mk_tr M) ≠ 0 := nI_ne0 (by omega) (by omega)
  intro e
  induction e with
  | zero =>
    intro c hc
    have e : c = mk_tr M := by omega
    refine v_iload_n C dX7_meanMargin_24 rfl ?_
    refine v_aload_n C dX7_meanMargin_25 rfl ?_
    refine v_get C 0 dX7_meanMargin_26 wd2_17 F0.1.o rfl (by decide) ⟨rfl, rfl, rfl⟩ rfl ?_
    refine v_getN (v := .int (nI (mk_tr M))) C 4 dX7_meanMargin_29 wd1_59 F0.1.m.o rfl (by decide) ⟨rfl, rfl, rfl⟩ rfl ?_
    refine v_icmp_geN (tgt := 52) C dX7_meanMargin_32 (by decide) (by omega) (by omega) (fun c32 => ?_) (fun c32 => absurd c32 (by omega))
    refine v_iload_n C dX7_meanMargin_52 rfl ?_
    refine v_i2d C dX7_meanMargin_53 ?_
    refine v_aload_n C dX7_meanMargin_54 rfl ?_
    refine v_get C 0 dX7_meanMargin_55 wd2_17 F0.1.o rfl (by decide) ⟨rfl, rfl, rfl⟩ rfl ?_
    refine v_getN (v := .int (nI (mk_tr M))) C 4 dX7_meanMargin_58 wd1_59 F0.1.m.o rfl (by decide) ⟨rfl, rfl, rfl⟩ rfl ?_
    refine v_i2d C dX7_meanMargin_61 ?_
    refine v_ddiv C dX7_meanMargin_62 (fl_d _ _ hne) ?_
    exact v_dret C E dX7_meanMargin_63 rfl (by rw [e]; have hp2 := hp; unfold mm_a at hp2; rw [show qa (¬ mk_tr M = 0) xM _ = _ from if_pos h1] at hp2; exact hp2)
  | succ e ih =>
    intro c hc
    refine v_iload_n C dX7_meanMargin_24 rfl ?_
    refine v_aload_n C dX7_meanMargin_25 rfl ?_
    refine v_get C 0 dX7_meanMargin_26 wd2_17 F0.1.o rfl (by decide) ⟨rfl, rfl, rfl⟩ rfl ?_
    refine v_getN (v := .int (nI (mk_tr M))) C 4 dX7_meanMargin_29 wd1_59 F0.1.m.o rfl (by decide) ⟨rfl, rfl, rfl⟩ rfl ?_
    refine v_icmp_geN (tgt := 52) C dX7_meanMargin_32 (by decide) (by omega) (by omega) (fun c32 => absurd c32 (by omega)) (fun c32 => ?_)
    refine v_iload_n C dX7_meanMargin_35 rfl ?_
    refine v_aload_n C dX7_meanMargin_36 rfl ?_
    refine v_get C 0 dX7_meanMargin_37 wd2_17 F0.1.o rfl (by decide) ⟨rfl, rfl, rfl⟩ rfl ?_
    refine v_iload_n C dX7_meanMargin_40 rfl ?_
    refine v_callVi C (c_X4_margin hl F0.1.m (nI c)) dX7_meanMargin_41 mX4_margin rfl F0.1.m.o rfl wd3_206 rfl rfl (Nat.le_of_ble_eq_true rfl) (hp_rmle hRm (by decide) (by decide)) (Nat.le_of_ble_eq_true rfl) (Nat.le_of_ble_eq_true rfl) ?_
    refine v_iadd C dX7_meanMargin_44 ?_
    refine v_istore_n C dX7_meanMargin_45 (by decide) ?_
    refine v_iincN C dX7_meanMargin_46 (by decide) rfl ?_
    refine v_goto (tgt := 24) C dX7_meanMargin_49 (by decide) ?_
    exact ih (c + 1) (by omega)
set_option maxHeartbeats 8000000 in
/-- the mean margin -/
theorem c_X7_meanMargin {G : hp_G} {l : Launch} (hl : l.stackTraces = false) {n0 : Nat} {h0 : Nat → Option va_E} {x L0 : Nat} {M : mk_T} {B : mk_T} {Z : mk_T} {mk : Nat → mk_T} {nx : Nat} {cnt : Nat} {t : Nat → Nat} {n : Nat} {lt : Nat → Nat} {ln : Nat} {hs : Int32} {ma : Int32} {fa : Int32} {rk : Nat → Option va_E} (E0 : Ex G h0 x L0 M B Z mk nx cnt t n lt ln hs ma fa rk) (hL : L0 ≤ n0)  : Ct G l yX7_meanMargin cX7_meanMargin 3 (some .double) 7 1 6 [.ref x] (n0, h0) (fun o τ => o = mm_a M ∧ Fx G n0 h0 x L0 M B Z mk nx cnt t n lt ln hs ma fa rk τ.1 τ.2) := by
  have F0 := Fx.start E0 hL
  have hhz := E0.m.hz
  have htr := E0.m.tr
  have hct := E0.m.ct
  have hbase := E0.base
  have hl0 := E0.l0
  refine Ct.of rfl hl (by simp [Value.category]) (Nat.le_of_ble_eq_true rfl) (fun K C E hRm hKl => ?_)
  subst hKl
  refine v_aload_n C dX7_meanMargin_0 rfl ?_
  refine v_get C 0 dX7_meanMargin_1 wd2_17 F0.1.o rfl (by decide) ⟨rfl, rfl, rfl⟩ rfl ?_
  refine v_getN (v := .int (nI (mk_tr M))) C 4 dX7_meanMargin_4 wd1_59 F0.1.m.o rfl (by decide) ⟨rfl, rfl, rfl⟩ rfl ?_
  refine v_if_ne (tgt := 20) C dX7_meanMargin_7 (by decide) (fun c7 => ?_) (fun c7 => ?_)
  · have c7n : ¬ mk_tr M = 0 := fun z => c7 (by rw [z]; rfl)
    refine v_iconst (v := nI 0) C dX7_meanMargin_20 (by decide) ?_
    refine v_istore_n C dX7_meanMargin_21 (by decide) ?_
    refine v_iconst (v := nI 0) C dX7_meanMargin_22 (by decide) ?_
    refine v_istore_n C dX7_meanMargin_23 (by decide) ?_
    exact loop_X7_meanMargin F0 C E hRm hl c7n hbase ⟨rfl, F0⟩ (mk_tr M) 0 (Nat.zero_add _)
  · have c7n : mk_tr M = 0 := (nI_eq (b := 0) (by omega) (by decide)).mp c7
    exact v_throw (cls := "java/lang/ArithmeticException") C E ["java/lang/RuntimeException", "java/lang/Exception"] 6 (by decide) (by decide) wd5_27 wd1_25 rfl hp_taAE hp_tbAE dX7_meanMargin_10 dX7_meanMargin_13 dX7_meanMargin_14 dX7_meanMargin_16 dX7_meanMargin_19 (by decide) (by rw [hRm]; exact ⟨by decide, by decide⟩) (by decide) (by decide) (by decide) (fun n' hn => ⟨(if_neg (fun z => z c7n)).symm, F0.up hn⟩)
set_option maxHeartbeats 4000000 in
theorem loop_X7_soundShare {G : hp_G} {K : hp_C} {P : hp_P} {n0 : Nat} {h0 : Nat → Option va_E} {x L0 : Nat} {M : mk_T} {B : mk_T} {Z : mk_T} {mk : Nat → mk_T} {nx : Nat} {cnt : Nat} {t : Nat → Nat} {n : Nat} {lt : Nat → Nat} {ln : Nat} {hs : Int32} {ma : Int32} {fa : Int32} {rk : Nat → Option va_E} (F0 : Fx G n0 h0 x L0 M B Z mk nx cnt t n lt ln hs ma fa rk n0 h0) (C : hp_Cx G K MX7_soundShare) (E : hp_End G K P) (hRm : hp_Rm K = hp_rm 7 1 6) (hl : K.2.1.stackTraces = false) (h1 : ¬ mk_tr M = 0) (hbase : G.2.1 ≤ x) (hp : P (ss_a M) (n0, h0)) : ∀ (e c : Nat), c + e = mk_tr M → V G K MX7_soundShare 1 6 (n0, h0) 24 [some (.ref x), some (.int (nI (ss_n M c))), some (.int (nI c))] [] := by
  have htr := F0.1.m.tr
  have hne : nI (mk_tr M) ≠ 0 := nI_ne0 (by omega) (by omega)
  intro e
  induction e with
  | zero =>
    intro c hc
    have e : c = mk_tr M := by omega
    refine v_iload_n C dX7_soundShare_24 rfl ?_
    refine v_aload_n C dX7_soundShare_25 rfl ?_
    refine v_get C 0 dX7_soundShare_26 wd2_17 F0.1.o rfl (by decide) ⟨rfl, rfl, rfl⟩ rfl ?_
    refine v_getN (v := .int (nI (mk_tr M))) C 4 dX7_soundShare_29 wd1_59 F0.1.m.o rfl (by decide) ⟨rfl, rfl, rfl⟩ rfl ?_
    refine v_icmp_geN (tgt := 56) C dX7_soundShare_32 (by decide) (by omega) (by omega) (fun c32 => ?_) (fun c32 => absurd c32 (by omega))
    refine v_iload_n C dX7_soundShare_56 rfl ?_
    refine v_i2f C dX7_soundShare_57 ?_
    refine v_aload_n C dX7_soundShare_58 rfl ?_
    refine v_get C 0 dX7_soundShare_59 wd2_17 F0.1.o rfl (by decide) ⟨rfl, rfl, rfl⟩ rfl ?_
    refine v_getN (v := .int (nI (mk_tr M))) C 4 dX7_soundShare_62 wd1_59 F0.1.m.o rfl (by decide) ⟨rfl, rfl, rfl⟩ rfl ?_
    refine v_i2f C dX7_soundShare_65 ?_
    refine v_fdiv C dX7_soundShare_66 (fl_f _ _ hne) ?_
    exact v_fret C E dX7_soundShare_67 rfl (by rw [e]; have hp2 := hp; unfold ss_a at hp2; rw [show qa (¬ mk_tr M = 0) xM _ = _ from if_pos h1] at hp2; exact hp2)
  | succ e ih =>
    intro c hc
    have hss := ss_n_le M c
    refine v_iload_n C dX7_soundShare_24 rfl ?_
    refine v_aload_n C dX7_soundShare_25 rfl ?_
    refine v_get C 0 dX7_soundShare_26 wd2_17 F0.1.o rfl (by decide) ⟨rfl, rfl, rfl⟩ rfl ?_
    refine v_getN (v := .int (nI (mk_tr M))) C 4 dX7_soundShare_29 wd1_59 F0.1.m.o rfl (by decide) ⟨rfl, rfl, rfl⟩ rfl ?_
    refine v_icmp_geN (tgt := 56) C dX7_soundShare_32 (by decide) (by omega) (by omega) (fun c32 => absurd c32 (by omega)) (fun c32 => ?_)
    refine v_aload_n C dX7_soundShare_35 rfl ?_
    refine v_get C 0 dX7_soundShare_36 wd2_17 F0.1.o rfl (by decide) ⟨rfl, rfl, rfl⟩ rfl ?_
    refine v_getN C 6 dX7_soundShare_39 wd1_64 F0.1.m.o rfl (by decide) ⟨rfl, rfl, rfl⟩ rfl ?_
    refine v_iload_n C dX7_soundShare_42 rfl ?_
    refine v_ialdN C dX7_soundShare_43 F0.1.m.a4 (by omega) (by decide) ?_
    refine v_if_ne (tgt := 50) C dX7_soundShare_44 (by decide) (fun c44 => ?_) (fun c44 => ?_)
    · refine v_iincN C dX7_soundShare_50 (by decide) rfl ?_
      refine v_goto (tgt := 24) C dX7_soundShare_53 (by decide) ?_
      have en : ss_n M (c + 1) = _ := if_neg (fun z => c44 z)
      have hi := ih (c + 1) (by omega)
      rw [en] at hi
      exact hi
    · refine v_iincN C dX7_soundShare_47 (by decide) rfl ?_
      refine v_iincN C dX7_soundShare_50 (by decide) rfl ?_
      refine v_goto (tgt := 24) C dX7_soundShare_53 (by decide) ?_
      have en : ss_n M (c + 1) = _ := if_pos c44
      have hi := ih (c + 1) (by omega)
      rw [en] at hi
      exact hi
set_option maxHeartbeats 8000000 in
/-- the share of those who are sound -/
theorem c_X7_soundShare {G : hp_G} {l : Launch} (hl : l.stackTraces = false) {n0 : Nat} {h0 : Nat → Option va_E} {x L0 : Nat} {M : mk_T} {B : mk_T} {Z : mk_T} {mk : Nat → mk_T} {nx : Nat} {cnt : Nat} {t : Nat → Nat} {n : Nat} {lt : Nat → Nat} {ln : Nat} {hs : Int32} {ma : Int32} {fa : Int32} {rk : Nat → Option va_E} (E0 : Ex G h0 x L0 M B Z mk nx cnt t n lt ln hs ma fa rk) (hL : L0 ≤ n0)  : Ct G l yX7_soundShare cX7_soundShare 3 (some .float) 7 1 6 [.ref x] (n0, h0) (fun o τ => o = ss_a M ∧ Fx G n0 h0 x L0 M B Z mk nx cnt t n lt ln hs ma fa rk τ.1 τ.2) := by
  have F0 := Fx.start E0 hL
  have hhz := E0.m.hz
  have htr := E0.m.tr
  have hct := E0.m.ct
  have hbase := E0.base
  have hl0 := E0.l0
  refine Ct.of rfl hl (by simp [Value.category]) (Nat.le_of_ble_eq_true rfl) (fun K C E hRm hKl => ?_)
  subst hKl
  refine v_aload_n C dX7_soundShare_0 rfl ?_
  refine v_get C 0 dX7_soundShare_1 wd2_17 F0.1.o rfl (by decide) ⟨rfl, rfl, rfl⟩ rfl ?_
  refine v_getN (v := .int (nI (mk_tr M))) C 4 dX7_soundShare_4 wd1_59 F0.1.m.o rfl (by decide) ⟨rfl, rfl, rfl⟩ rfl ?_
  refine v_if_ne (tgt := 20) C dX7_soundShare_7 (by decide) (fun c7 => ?_) (fun c7 => ?_)
  · have c7n : ¬ mk_tr M = 0 := fun z => c7 (by rw [z]; rfl)
    refine v_iconst (v := nI 0) C dX7_soundShare_20 (by decide) ?_
    refine v_istore_n C dX7_soundShare_21 (by decide) ?_
    refine v_iconst (v := nI 0) C dX7_soundShare_22 (by decide) ?_
    refine v_istore_n C dX7_soundShare_23 (by decide) ?_
    exact loop_X7_soundShare F0 C E hRm hl c7n hbase ⟨rfl, F0⟩ (mk_tr M) 0 (Nat.zero_add _)
  · have c7n : mk_tr M = 0 := (nI_eq (b := 0) (by omega) (by decide)).mp c7
    exact v_throw (cls := "java/lang/ArithmeticException") C E ["java/lang/RuntimeException", "java/lang/Exception"] 6 (by decide) (by decide) wd5_27 wd1_25 rfl hp_taAE hp_tbAE dX7_soundShare_10 dX7_soundShare_13 dX7_soundShare_14 dX7_soundShare_16 dX7_soundShare_19 (by decide) (by rw [hRm]; exact ⟨by decide, by decide⟩) (by decide) (by decide) (by decide) (fun n' hn => ⟨(if_neg (fun z => z c7n)).symm, F0.up hn⟩)

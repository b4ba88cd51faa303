/-! ===== THE MODEL: sums, shares ===== -/
def mo_oq (M : mk_T) (on : Int32) (c : Nat) : Int32 := match c with
  | 0 => nI 0
  | c + 1 => if mk_ar M 7 c = on then mo_oq M on c + mk_ar M 8 c else mo_oq M on c + nI 0
def mo_ms (M : mk_T) (c : Nat) : Int32 := match c with
  | 0 => nI 0
  | c + 1 => mo_ms M c + mo_mg M (nI c) (mk_hz M)
def mo_as (M : mk_T) (c : Nat) : Int32 := match c with
  | 0 => M.2.2.1.2.1
  | c + 1 => mo_as M c + mk_ar M 3 c
theorem Mo.g3 {g : Nat → Int32} {M : mk_T} (h : Gr g M) : Gr g M := h
set_option maxHeartbeats 4000000 in
theorem loop_X8_openQuantity {G : hp_G} {K : hp_C} {P : hp_P} {n0 : Nat} {h0 : Nat → Option va_E} {y : Nat} {S : mo_T} (hS : Mo G h0 y S) {M : mk_T} (hg : Gr (S.1 0) M) {on : Int32} (C : hp_Cx G K MX8_openQuantity) (E : hp_End G K P) (hRm : hp_Rm K = hp_rm 2 0 0) (hl : K.2.1.stackTraces = false) (hp : P (.inl (some (.int (mo_oq M on (mk_ct M))))) (n0, h0)) : ∀ (e c : Nat), c + e = mk_ct M → V G K MX8_openQuantity 0 0 (n0, h0) 26 [some (.ref y), some (.int on), some (.int (mo_oq M on c)), some (.int (nI c))] [] := by
  have hhz := hg.hz
  have htr := hg.tr
  have hct := hg.ct
  have hbase := hS.base
  intro e
  induction e with
  | zero =>
    intro c hc
    have e : c = mk_ct M := by omega
    subst e
    refine v_iload_n C dX8_openQuantity_26 rfl ?_
    refine v_aload_n C dX8_openQuantity_27 rfl ?_
    refine v_get C 0 dX8_openQuantity_28 wd6_237 hS.o rfl (by decide) ⟨rfl, rfl, rfl⟩ rfl ?_
    refine v_iconst (v := nI 2) C dX8_openQuantity_31 (by decide) ?_
    refine v_ialdN C dX8_openQuantity_32 hS.a0 (by omega) (by decide) ?_
    rw [hg.g2]
    refine v_icmp_geN (tgt := 65) C dX8_openQuantity_33 (by decide) (by omega) (by omega) (fun c33 => ?_) (fun c33 => absurd c33 (by omega))
    refine v_iload_n C dX8_openQuantity_65 rfl ?_
    exact v_iret C E dX8_openQuantity_66 rfl hp
  | succ e ih =>
    intro c hc
    have hcc : c < mk_ct M := by omega
    refine v_iload_n C dX8_openQuantity_26 rfl ?_
    refine v_aload_n C dX8_openQuantity_27 rfl ?_
    refine v_get C 0 dX8_openQuantity_28 wd6_237 hS.o rfl (by decide) ⟨rfl, rfl, rfl⟩ rfl ?_
    refine v_iconst (v := nI 2) C dX8_openQuantity_31 (by decide) ?_
    refine v_ialdN C dX8_openQuantity_32 hS.a0 (by omega) (by decide) ?_
    rw [hg.g2]
    refine v_icmp_geN (tgt := 65) C dX8_openQuantity_33 (by decide) (by omega) (by omega) (fun c33 => absurd c33 (by omega)) (fun c33 => ?_)
    refine v_iload_n C dX8_openQuantity_36 rfl ?_
    refine v_aload_n C dX8_openQuantity_37 rfl ?_
    refine v_iload_n C dX8_openQuantity_38 rfl ?_
    refine v_iconst (v := nI 2) C dX8_openQuantity_39 (by decide) ?_
    refine v_callVi C (c_X8_by hl hS (i := c) (k := 2) (by omega) (by decide)) dX8_openQuantity_40 mX8_by rfl hS.o rfl wd7_141 rfl rfl (Nat.le_of_ble_eq_true rfl) (hp_rmle hRm (by decide) (by decide)) (Nat.le_of_ble_eq_true rfl) (Nat.le_of_ble_eq_true rfl) ?_
    rw [hg.by2 hcc]
    refine v_iload_n C dX8_openQuantity_43 rfl ?_
    refine v_icmp_ne (tgt := 56) C dX8_openQuantity_44 (by decide) (fun c44 => ?_) (fun c44 => ?_)
    · have en : mo_oq M on (c + 1) = mo_oq M on c + nI 0 := if_neg c44
      refine v_iconst (v := nI 0) C dX8_openQuantity_56 (by decide) ?_
      refine v_iadd C dX8_openQuantity_57 ?_
      refine v_istore_n C dX8_openQuantity_58 (by decide) ?_
      refine v_iincN C dX8_openQuantity_59 (by decide) rfl ?_
      refine v_goto (tgt := 26) C dX8_openQuantity_62 (by decide) ?_
      have hi := ih (c + 1) (by omega)
      rw [en] at hi
      exact hi
    · have en : mo_oq M on (c + 1) = mo_oq M on c + mk_ar M 8 c := if_pos c44
      refine v_aload_n C dX8_openQuantity_47 rfl ?_
      refine v_iload_n C dX8_openQuantity_48 rfl ?_
      refine v_iconst (v := nI 3) C dX8_openQuantity_49 (by decide) ?_
      refine v_callVi C (c_X8_by hl hS (i := c) (k := 3) (by omega) (by decide)) dX8_openQuantity_50 mX8_by rfl hS.o rfl wd7_141 rfl rfl (Nat.le_of_ble_eq_true rfl) (hp_rmle hRm (by decide) (by decide)) (Nat.le_of_ble_eq_true rfl) (Nat.le_of_ble_eq_true rfl) ?_
      rw [hg.by3 hcc]
      refine v_goto (tgt := 57) C dX8_openQuantity_53 (by decide) ?_
      refine v_iadd C dX8_openQuantity_57 ?_
      refine v_istore_n C dX8_openQuantity_58 (by decide) ?_
      refine v_iincN C dX8_openQuantity_59 (by decide) rfl ?_
      refine v_goto (tgt := 26) C dX8_openQuantity_62 (by decide) ?_
      have hi := ih (c + 1) (by omega)
      rw [en] at hi
      exact hi
set_option maxHeartbeats 8000000 in
/-- openQuantity -/
theorem c_X8_openQuantity {G : hp_G} {l : Launch} (hl : l.stackTraces = false) {n0 : Nat} {h0 : Nat → Option va_E} {y : Nat} {S : mo_T} (hS : Mo G h0 y S) {M : mk_T} (hg : Gr (S.1 0) M) (i : Int32) : Ct G l yX8_openQuantity cX8_openQuantity 4 (some .int) 2 0 0 [.ref y, .int i] (n0, h0) (hp_iq (fun r τ => r = (if hp_num i (mk_hz M) then mo_oq M i (mk_ct M) else nI 0) ∧ τ.1 = n0 ∧ Mo G τ.2 y (mo_si S 3 (mo_cd (hp_num i (mk_hz M)))) ∧ ∀ a, (a < y ∨ y + 13 ≤ a) → τ.2 a = h0 a)) := by
  have hbase := hS.base
  have hhz := hg.hz
  have htr := hg.tr
  have hct := hg.ct
  refine Ct.of rfl hl (by simp [Value.category]) (Nat.le_of_ble_eq_true rfl) (fun K C E hRm hKl => ?_)
  subst hKl
  refine v_aload_n C dX8_openQuantity_0 rfl ?_
  refine v_aload_n C dX8_openQuantity_1 rfl ?_
  refine v_iload_n C dX8_openQuantity_2 rfl ?_
  refine v_callVi C (c_X8_isHorizon hl hS hg i) dX8_openQuantity_3 mX8_isHorizon rfl hS.o rfl wd7_109 rfl rfl (Nat.le_of_ble_eq_true rfl) (hp_rmle hRm (by decide) (by decide)) (Nat.le_of_ble_eq_true rfl) (Nat.le_of_ble_eq_true rfl) ?_
  refine v_if_eqB (tgt := 13) C dX8_openQuantity_6 (by decide) (fun c6 => ?_) (fun c6 => ?_)
  · refine v_iconst (v := nI 1) C dX8_openQuantity_13 (by decide) ?_
    refine v_callVq C (c_X8_fails hl hS (nI 1)) dX8_openQuantity_14 mX8_fails rfl hS.o rfl wd7_82 rfl rfl (Nat.le_of_ble_eq_true rfl) (hp_rmle hRm (by decide) (by decide)) (Nat.le_of_ble_eq_true rfl) (Nat.le_of_ble_eq_true rfl) (fun r14 n14 h14 q14 => ?_)
    obtain ⟨e14, k14, Y14, W14⟩ := q14
    have z14 := Eq.symm k14
    have z14 : n0 = n14 := z14
    subst z14
    subst e14
    refine v_if_eqB (tgt := 22) C dX8_openQuantity_17 (by decide) (fun c17 => absurd c17 (fun z => z (by decide))) (fun c17 => ?_)
    refine v_iconst (v := nI 0) C dX8_openQuantity_20 (by decide) ?_
    exact v_iret C E dX8_openQuantity_21 rfl ⟨_, rfl, (if_neg c6).symm, rfl, by rw [show mo_cd _ = _ from if_neg c6]; exact Y14, W14⟩
  · refine v_iconst (v := nI 0) C dX8_openQuantity_9 (by decide) ?_
    refine v_goto (tgt := 14) C dX8_openQuantity_10 (by decide) ?_
    refine v_callVq C (c_X8_fails hl hS (nI 0)) dX8_openQuantity_14 mX8_fails rfl hS.o rfl wd7_82 rfl rfl (Nat.le_of_ble_eq_true rfl) (hp_rmle hRm (by decide) (by decide)) (Nat.le_of_ble_eq_true rfl) (Nat.le_of_ble_eq_true rfl) (fun r14 n14 h14 q14 => ?_)
    obtain ⟨e14, k14, Y14, W14⟩ := q14
    have z14 := Eq.symm k14
    have z14 : n0 = n14 := z14
    subst z14
    subst e14
    refine v_if_eqB (tgt := 22) C dX8_openQuantity_17 (by decide) (fun c17 => ?_) (fun c17 => absurd c17 (by decide))
    refine v_iconst (v := nI 0) C dX8_openQuantity_22 (by decide) ?_
    refine v_istore_n C dX8_openQuantity_23 (by decide) ?_
    refine v_iconst (v := nI 0) C dX8_openQuantity_24 (by decide) ?_
    refine v_istore_n C dX8_openQuantity_25 (by decide) ?_
    exact loop_X8_openQuantity (S := mo_si S 3 (nI 0)) Y14 hg C E hRm hl ⟨_, rfl, (if_pos c6).symm, rfl, by rw [show mo_cd _ = _ from if_pos c6]; exact Y14, W14⟩ (mk_ct M) 0 (Nat.zero_add _)
set_option maxHeartbeats 4000000 in
theorem loop_X8_meanMargin {G : hp_G} {K : hp_C} {P : hp_P} {n0 : Nat} {h0 : Nat → Option va_E} {y : Nat} {S : mo_T} (hS : Mo G h0 y S) {M : mk_T} (hg : Gr (S.1 0) M)  (C : hp_Cx G K MX8_meanMargin) (E : hp_End G K P) (hRm : hp_Rm K = hp_rm 3 0 0) (hl : K.2.1.stackTraces = false) (h1 : ¬ mk_tr M = 0) (hp : P (.inl (some (.double (FP.ddiv (FP.i2d (mo_ms M (mk_tr M))) (FP.i2d (nI (mk_tr M))))))) (n0, h0)) : ∀ (e c : Nat), c + e = mk_tr M → V G K MX8_meanMargin 0 0 (n0, h0) 27 [some (.ref y), some (.int (mo_ms M c)), some (.int (nI c))] [] := by
  have hhz := hg.hz
  have htr := hg.tr
  have hct := hg.ct
  have hbase := hS.base
  intro e
  induction e with
  | zero =>
    intro c hc
    have e : c = mk_tr M := by omega
    subst e
    refine v_iload_n C dX8_meanMargin_27 rfl ?_
    refine v_aload_n C dX8_meanMargin_28 rfl ?_
    refine v_get C 0 dX8_meanMargin_29 wd6_237 hS.o rfl (by decide) ⟨rfl, rfl, rfl⟩ rfl ?_
    refine v_iconst (v := nI 1) C dX8_meanMargin_32 (by decide) ?_
    refine v_ialdN C dX8_meanMargin_33 hS.a0 (by omega) (by decide) ?_
    rw [hg.g1]
    refine v_icmp_geN (tgt := 51) C dX8_meanMargin_34 (by decide) (by omega) (by omega) (fun c34 => ?_) (fun c34 => absurd c34 (by omega))
    refine v_iload_n C dX8_meanMargin_51 rfl ?_
    refine v_i2d C dX8_meanMargin_52 ?_
    refine v_aload_n C dX8_meanMargin_53 rfl ?_
    refine v_get C 0 dX8_meanMargin_54 wd6_237 hS.o rfl (by decide) ⟨rfl, rfl, rfl⟩ rfl ?_
    refine v_iconst (v := nI 1) C dX8_meanMargin_57 (by decide) ?_
    refine v_ialdN C dX8_meanMargin_58 hS.a0 (by omega) (by decide) ?_
    rw [hg.g1]
    refine v_i2d C dX8_meanMargin_59 ?_
    have hne : nI (mk_tr M) ≠ 0 := nI_ne0 (by omega) (by omega)
    refine v_ddiv C dX8_meanMargin_60 (fl_d _ _ hne) ?_
    exact v_dret C E dX8_meanMargin_61 rfl hp
  | succ e ih =>
    intro c hc
    refine v_iload_n C dX8_meanMargin_27 rfl ?_
    refine v_aload_n C dX8_meanMargin_28 rfl ?_
    refine v_get C 0 dX8_meanMargin_29 wd6_237 hS.o rfl (by decide) ⟨rfl, rfl, rfl⟩ rfl ?_
    refine v_iconst (v := nI 1) C dX8_meanMargin_32 (by decide) ?_
    refine v_ialdN C dX8_meanMargin_33 hS.a0 (by omega) (by decide) ?_
    rw [hg.g1]
    refine v_icmp_geN (tgt := 51) C dX8_meanMargin_34 (by decide) (by omega) (by omega) (fun c34 => absurd c34 (by omega)) (fun c34 => ?_)
    refine v_iload_n C dX8_meanMargin_37 rfl ?_
    refine v_aload_n C dX8_meanMargin_38 rfl ?_
    refine v_iload_n C dX8_meanMargin_39 rfl ?_
    refine v_callVi C (c_X8_margin hl hS hg (nI c)) dX8_meanMargin_40 mX8_margin rfl hS.o rfl wd7_133 rfl rfl (Nat.le_of_ble_eq_true rfl) (hp_rmle hRm (by decide) (by decide)) (Nat.le_of_ble_eq_true rfl) (Nat.le_of_ble_eq_true rfl) ?_
    refine v_iadd C dX8_meanMargin_43 ?_
    refine v_istore_n C dX8_meanMargin_44 (by decide) ?_
    refine v_iincN C dX8_meanMargin_45 (by decide) rfl ?_
    refine v_goto (tgt := 27) C dX8_meanMargin_48 (by decide) ?_
    exact ih (c + 1) (by omega)
set_option maxHeartbeats 8000000 in
/-- meanMargin -/
theorem c_X8_meanMargin {G : hp_G} {l : Launch} (hl : l.stackTraces = false) {n0 : Nat} {h0 : Nat → Option va_E} {y : Nat} {S : mo_T} (hS : Mo G h0 y S) {M : mk_T} (hg : Gr (S.1 0) M)  : Ct G l yX8_meanMargin cX8_meanMargin 3 (some .double) 3 0 0 [.ref y] (n0, h0) (fun o τ => o = (if mk_tr M = 0 then .inl (some (.double FP.dconst0)) else .inl (some (.double (FP.ddiv (FP.i2d (mo_ms M (mk_tr M))) (FP.i2d (nI (mk_tr M))))))) ∧ τ.1 = n0 ∧ Mo G τ.2 y (mo_si S 3 (if mk_tr M = 0 then nI 1 else nI 0)) ∧ ∀ a, (a < y ∨ y + 13 ≤ a) → τ.2 a = h0 a) := by
  have hbase := hS.base
  have hhz := hg.hz
  have htr := hg.tr
  have hct := hg.ct
  refine Ct.of rfl hl (by simp [Value.category]) (Nat.le_of_ble_eq_true rfl) (fun K C E hRm hKl => ?_)
  subst hKl
  refine v_aload_n C dX8_meanMargin_0 rfl ?_
  refine v_aload_n C dX8_meanMargin_1 rfl ?_
  refine v_get C 0 dX8_meanMargin_2 wd6_237 hS.o rfl (by decide) ⟨rfl, rfl, rfl⟩ rfl ?_
  refine v_iconst (v := nI 1) C dX8_meanMargin_5 (by decide) ?_
  refine v_ialdN C dX8_meanMargin_6 hS.a0 (by omega) (by decide) ?_
  rw [hg.g1]
  refine v_if_ne (tgt := 14) C dX8_meanMargin_7 (by decide) (fun c7 => ?_) (fun c7 => ?_)
  · have hz : ¬ mk_tr M = 0 := fun z => c7 (by rw [z]; rfl)
    refine v_iconst (v := nI 0) C dX8_meanMargin_14 (by decide) ?_
    refine v_callVq C (c_X8_fails hl hS (nI 0)) dX8_meanMargin_15 mX8_fails rfl hS.o rfl wd7_82 rfl rfl (Nat.le_of_ble_eq_true rfl) (hp_rmle hRm (by decide) (by decide)) (Nat.le_of_ble_eq_true rfl) (Nat.le_of_ble_eq_true rfl) (fun r15 n15 h15 q15 => ?_)
    obtain ⟨e15, k15, Y15, W15⟩ := q15
    have z15 := Eq.symm k15
    have z15 : n0 = n15 := z15
    subst z15
    subst e15
    refine v_if_eqB (tgt := 23) C dX8_meanMargin_18 (by decide) (fun c18 => ?_) (fun c18 => absurd c18 (by decide))
    refine v_iconst (v := nI 0) C dX8_meanMargin_23 (by decide) ?_
    refine v_istore_n C dX8_meanMargin_24 (by decide) ?_
    refine v_iconst (v := nI 0) C dX8_meanMargin_25 (by decide) ?_
    refine v_istore_n C dX8_meanMargin_26 (by decide) ?_
    exact loop_X8_meanMargin (S := mo_si S 3 (nI 0)) Y15 hg C E hRm hl hz ⟨(if_neg hz).symm, rfl, by rw [if_neg hz]; exact Y15, W15⟩ (mk_tr M) 0 (Nat.zero_add _)
  · have hz : mk_tr M = 0 := (nI_eq (b := 0) (by omega) (by decide)).mp c7
    refine v_iconst (v := nI 1) C dX8_meanMargin_10 (by decide) ?_
    refine v_goto (tgt := 15) C dX8_meanMargin_11 (by decide) ?_
    refine v_callVq C (c_X8_fails hl hS (nI 1)) dX8_meanMargin_15 mX8_fails rfl hS.o rfl wd7_82 rfl rfl (Nat.le_of_ble_eq_true rfl) (hp_rmle hRm (by decide) (by decide)) (Nat.le_of_ble_eq_true rfl) (Nat.le_of_ble_eq_true rfl) (fun r15 n15 h15 q15 => ?_)
    obtain ⟨e15, k15, Y15, W15⟩ := q15
    have z15 := Eq.symm k15
    have z15 : n0 = n15 := z15
    subst z15
    subst e15
    refine v_if_eqB (tgt := 23) C dX8_meanMargin_18 (by decide) (fun c18 => absurd c18 (fun z => z (by decide))) (fun c18 => ?_)
    refine v_dconst0 C dX8_meanMargin_21 ?_
    exact v_dret C E dX8_meanMargin_22 rfl ⟨(if_pos hz).symm, rfl, by rw [if_pos hz]; exact Y15, W15⟩
set_option maxHeartbeats 4000000 in
theorem loop_X8_soundShare {G : hp_G} {K : hp_C} {P : hp_P} {n0 : Nat} {h0 : Nat → Option va_E} {y : Nat} {S : mo_T} (hS : Mo G h0 y S) {M : mk_T} (hg : Gr (S.1 0) M)  (C : hp_Cx G K MX8_soundShare) (E : hp_End G K P) (hRm : hp_Rm K = hp_rm 2 0 0) (hl : K.2.1.stackTraces = false) (h1 : ¬ mk_tr M = 0) (hp : P (.inl (some (.float (FP.fdiv (FP.i2f (nI (ss_n M (mk_tr M)))) (FP.i2f (nI (mk_tr M))))))) (n0, h0)) : ∀ (e c : Nat), c + e = mk_tr M → V G K MX8_soundShare 0 0 (n0, h0) 27 [some (.ref y), some (.int (nI (ss_n M c))), some (.int (nI c))] [] := by
  have hhz := hg.hz
  have htr := hg.tr
  have hct := hg.ct
  have hbase := hS.base
  intro e
  induction e with
  | zero =>
    intro c hc
    have e : c = mk_tr M := by omega
    subst e
    refine v_iload_n C dX8_soundShare_27 rfl ?_
    refine v_aload_n C dX8_soundShare_28 rfl ?_
    refine v_get C 0 dX8_soundShare_29 wd6_237 hS.o rfl (by decide) ⟨rfl, rfl, rfl⟩ rfl ?_
    refine v_iconst (v := nI 1) C dX8_soundShare_32 (by decide) ?_
    refine v_ialdN C dX8_soundShare_33 hS.a0 (by omega) (by decide) ?_
    rw [hg.g1]
    refine v_icmp_geN (tgt := 59) C dX8_soundShare_34 (by decide) (by omega) (by omega) (fun c34 => ?_) (fun c34 => absurd c34 (by omega))
    refine v_iload_n C dX8_soundShare_59 rfl ?_
    refine v_i2f C dX8_soundShare_60 ?_
    refine v_aload_n C dX8_soundShare_61 rfl ?_
    refine v_get C 0 dX8_soundShare_62 wd6_237 hS.o rfl (by decide) ⟨rfl, rfl, rfl⟩ rfl ?_
    refine v_iconst (v := nI 1) C dX8_soundShare_65 (by decide) ?_
    refine v_ialdN C dX8_soundShare_66 hS.a0 (by omega) (by decide) ?_
    rw [hg.g1]
    refine v_i2f C dX8_soundShare_67 ?_
    have hne : nI (mk_tr M) ≠ 0 := nI_ne0 (by omega) (by omega)
    refine v_fdiv C dX8_soundShare_68 (fl_f _ _ hne) ?_
    exact v_fret C E dX8_soundShare_69 rfl hp
  | succ e ih =>
    intro c hc
    have hss := ss_n_le M c
    refine v_iload_n C dX8_soundShare_27 rfl ?_
    refine v_aload_n C dX8_soundShare_28 rfl ?_
    refine v_get C 0 dX8_soundShare_29 wd6_237 hS.o rfl (by decide) ⟨rfl, rfl, rfl⟩ rfl ?_
    refine v_iconst (v := nI 1) C dX8_soundShare_32 (by decide) ?_
    refine v_ialdN C dX8_soundShare_33 hS.a0 (by omega) (by decide) ?_
    rw [hg.g1]
    refine v_icmp_geN (tgt := 59) C dX8_soundShare_34 (by decide) (by omega) (by omega) (fun c34 => absurd c34 (by omega)) (fun c34 => ?_)
    refine v_iload_n C dX8_soundShare_37 rfl ?_
    refine v_aload_n C dX8_soundShare_38 rfl ?_
    refine v_iload_n C dX8_soundShare_39 rfl ?_
    refine v_callVi C (c_X8_isSound hl hS hg (t := c) (by omega)) dX8_soundShare_40 mX8_isSound rfl hS.o rfl wd7_113 rfl rfl (Nat.le_of_ble_eq_true rfl) (hp_rmle hRm (by decide) (by decide)) (Nat.le_of_ble_eq_true rfl) (Nat.le_of_ble_eq_true rfl) ?_
    refine v_if_eqB (tgt := 50) C dX8_soundShare_43 (by decide) (fun c43 => ?_) (fun c43 => ?_)
    · have en : ss_n M (c + 1) = ss_n M c + 0 := if_neg c43
      refine v_iconst (v := nI 0) C dX8_soundShare_50 (by decide) ?_
      refine v_iaddN C dX8_soundShare_51 ?_
      refine v_istore_n C dX8_soundShare_52 (by decide) ?_
      refine v_iincN C dX8_soundShare_53 (by decide) rfl ?_
      refine v_goto (tgt := 27) C dX8_soundShare_56 (by decide) ?_
      have hi := ih (c + 1) (by omega)
      rw [en] at hi
      exact hi
    · have en : ss_n M (c + 1) = ss_n M c + 1 := if_pos c43
      refine v_iconst (v := nI 1) C dX8_soundShare_46 (by decide) ?_
      refine v_goto (tgt := 51) C dX8_soundShare_47 (by decide) ?_
      refine v_iaddN C dX8_soundShare_51 ?_
      refine v_istore_n C dX8_soundShare_52 (by decide) ?_
      refine v_iincN C dX8_soundShare_53 (by decide) rfl ?_
      refine v_goto (tgt := 27) C dX8_soundShare_56 (by decide) ?_
      have hi := ih (c + 1) (by omega)
      rw [en] at hi
      exact hi
set_option maxHeartbeats 8000000 in
/-- soundShare -/
theorem c_X8_soundShare {G : hp_G} {l : Launch} (hl : l.stackTraces = false) {n0 : Nat} {h0 : Nat → Option va_E} {y : Nat} {S : mo_T} (hS : Mo G h0 y S) {M : mk_T} (hg : Gr (S.1 0) M)  : Ct G l yX8_soundShare cX8_soundShare 3 (some .float) 2 0 0 [.ref y] (n0, h0) (fun o τ => o = (if mk_tr M = 0 then .inl (some (.float FP.fconst0)) else .inl (some (.float (FP.fdiv (FP.i2f (nI (ss_n M (mk_tr M)))) (FP.i2f (nI (mk_tr M))))))) ∧ τ.1 = n0 ∧ Mo G τ.2 y (mo_si S 3 (if mk_tr M = 0 then nI 1 else nI 0)) ∧ ∀ a, (a < y ∨ y + 13 ≤ a) → τ.2 a = h0 a) := by
  have hbase := hS.base
  have hhz := hg.hz
  have htr := hg.tr
  have hct := hg.ct
  refine Ct.of rfl hl (by simp [Value.category]) (Nat.le_of_ble_eq_true rfl) (fun K C E hRm hKl => ?_)
  subst hKl
  refine v_aload_n C dX8_soundShare_0 rfl ?_
  refine v_aload_n C dX8_soundShare_1 rfl ?_
  refine v_get C 0 dX8_soundShare_2 wd6_237 hS.o rfl (by decide) ⟨rfl, rfl, rfl⟩ rfl ?_
  refine v_iconst (v := nI 1) C dX8_soundShare_5 (by decide) ?_
  refine v_ialdN C dX8_soundShare_6 hS.a0 (by omega) (by decide) ?_
  rw [hg.g1]
  refine v_if_ne (tgt := 14) C dX8_soundShare_7 (by decide) (fun c7 => ?_) (fun c7 => ?_)
  · have hz : ¬ mk_tr M = 0 := fun z => c7 (by rw [z]; rfl)
    refine v_iconst (v := nI 0) C dX8_soundShare_14 (by decide) ?_
    refine v_callVq C (c_X8_fails hl hS (nI 0)) dX8_soundShare_15 mX8_fails rfl hS.o rfl wd7_82 rfl rfl (Nat.le_of_ble_eq_true rfl) (hp_rmle hRm (by decide) (by decide)) (Nat.le_of_ble_eq_true rfl) (Nat.le_of_ble_eq_true rfl) (fun r15 n15 h15 q15 => ?_)
    obtain ⟨e15, k15, Y15, W15⟩ := q15
    have z15 := Eq.symm k15
    have z15 : n0 = n15 := z15
    subst z15
    subst e15
    refine v_if_eqB (tgt := 23) C dX8_soundShare_18 (by decide) (fun c18 => ?_) (fun c18 => absurd c18 (by decide))
    refine v_iconst (v := nI 0) C dX8_soundShare_23 (by decide) ?_
    refine v_istore_n C dX8_soundShare_24 (by decide) ?_
    refine v_iconst (v := nI 0) C dX8_soundShare_25 (by decide) ?_
    refine v_istore_n C dX8_soundShare_26 (by decide) ?_
    exact loop_X8_soundShare (S := mo_si S 3 (nI 0)) Y15 hg C E hRm hl hz ⟨(if_neg hz).symm, rfl, by rw [if_neg hz]; exact Y15, W15⟩ (mk_tr M) 0 (Nat.zero_add _)
  · have hz : mk_tr M = 0 := (nI_eq (b := 0) (by omega) (by decide)).mp c7
    refine v_iconst (v := nI 1) C dX8_soundShare_10 (by decide) ?_
    refine v_goto (tgt := 15) C dX8_soundShare_11 (by decide) ?_
    refine v_callVq C (c_X8_fails hl hS (nI 1)) dX8_soundShare_15 mX8_fails rfl hS.o rfl wd7_82 rfl rfl (Nat.le_of_ble_eq_true rfl) (hp_rmle hRm (by decide) (by decide)) (Nat.le_of_ble_eq_true rfl) (Nat.le_of_ble_eq_true rfl) (fun r15 n15 h15 q15 => ?_)
    obtain ⟨e15, k15, Y15, W15⟩ := q15
    have z15 := Eq.symm k15
    have z15 : n0 = n15 := z15
    subst z15
    subst e15
    refine v_if_eqB (tgt := 23) C dX8_soundShare_18 (by decide) (fun c18 => absurd c18 (fun z => z (by decide))) (fun c18 => ?_)
    refine v_fconst0 C dX8_soundShare_21 ?_
    exact v_fret C E dX8_soundShare_22 rfl ⟨(if_pos hz).symm, rfl, by rw [if_pos hz]; exact Y15, W15⟩
set_option maxHeartbeats 4000000 in
theorem loop_X8_isConsistent {G : hp_G} {K : hp_C} {P : hp_P} {n0 : Nat} {h0 : Nat → Option va_E} {y : Nat} {S : mo_T} (hS : Mo G h0 y S) {M : mk_T} (hg : Gr (S.1 0) M)  (C : hp_Cx G K MX8_isConsistent) (E : hp_End G K P) (hRm : hp_Rm K = hp_rm 1 0 0) (hl : K.2.1.stackTraces = false) (hp : ∀ r, cs_r (mo_as M (mk_tr M) = S.1 0 136 - S.1 0 137 + M.2.2.1.2.2) r → P (.inl (some (.int r))) (n0, h0)) : ∀ (e c : Nat), c + e = mk_tr M → V G K MX8_isConsistent 0 0 (n0, h0) 14 [some (.ref y), some (.int (mo_as M c)), some (.int (nI c))] [] := by
  have hhz := hg.hz
  have htr := hg.tr
  have hct := hg.ct
  have hbase := hS.base
  intro e
  induction e with
  | zero =>
    intro c hc
    have e : c = mk_tr M := by omega
    subst e
    refine v_iload_n C dX8_isConsistent_14 rfl ?_
    refine v_aload_n C dX8_isConsistent_15 rfl ?_
    refine v_get C 0 dX8_isConsistent_16 wd6_237 hS.o rfl (by decide) ⟨rfl, rfl, rfl⟩ rfl ?_
    refine v_iconst (v := nI 1) C dX8_isConsistent_19 (by decide) ?_
    refine v_ialdN C dX8_isConsistent_20 hS.a0 (by omega) (by decide) ?_
    rw [hg.g1]
    refine v_icmp_geN (tgt := 39) C dX8_isConsistent_21 (by decide) (by omega) (by omega) (fun c21 => ?_) (fun c21 => absurd c21 (by omega))
    refine v_iload_n C dX8_isConsistent_39 rfl ?_
    refine v_aload_n C dX8_isConsistent_40 rfl ?_
    refine v_get C 0 dX8_isConsistent_41 wd6_237 hS.o rfl (by decide) ⟨rfl, rfl, rfl⟩ rfl ?_
    refine v_sipush (v := nI 136) C dX8_isConsistent_44 (by decide) ?_
    refine v_ialdN C dX8_isConsistent_47 hS.a0 (by omega) (by decide) ?_
    refine v_aload_n C dX8_isConsistent_48 rfl ?_
    refine v_get C 0 dX8_isConsistent_49 wd6_237 hS.o rfl (by decide) ⟨rfl, rfl, rfl⟩ rfl ?_
    refine v_sipush (v := nI 137) C dX8_isConsistent_52 (by decide) ?_
    refine v_ialdN C dX8_isConsistent_55 hS.a0 (by omega) (by decide) ?_
    refine v_isub C dX8_isConsistent_56 ?_
    refine v_aload_n C dX8_isConsistent_57 rfl ?_
    refine v_get C 0 dX8_isConsistent_58 wd6_237 hS.o rfl (by decide) ⟨rfl, rfl, rfl⟩ rfl ?_
    refine v_iconst (v := nI 5) C dX8_isConsistent_61 (by decide) ?_
    refine v_ialdN C dX8_isConsistent_62 hS.a0 (by omega) (by decide) ?_
    rw [hg.g5]
    refine v_iadd C dX8_isConsistent_63 ?_
    refine v_icmp_ne (tgt := 71) C dX8_isConsistent_64 (by decide) (fun c64 => ?_) (fun c64 => ?_)
    · refine v_iconst (v := nI 0) C dX8_isConsistent_71 (by decide) ?_
      exact v_zret C E dX8_isConsistent_72 rfl rfl (hp _ (by first | exact Or.inl ⟨c64, rfl⟩ | exact Or.inr ⟨c64, rfl⟩))
    · refine v_iconst (v := nI 1) C dX8_isConsistent_67 (by decide) ?_
      refine v_goto (tgt := 72) C dX8_isConsistent_68 (by decide) ?_
      exact v_zret C E dX8_isConsistent_72 rfl rfl (hp _ (by first | exact Or.inl ⟨c64, rfl⟩ | exact Or.inr ⟨c64, rfl⟩))
  | succ e ih =>
    intro c hc
    refine v_iload_n C dX8_isConsistent_14 rfl ?_
    refine v_aload_n C dX8_isConsistent_15 rfl ?_
    refine v_get C 0 dX8_isConsistent_16 wd6_237 hS.o rfl (by decide) ⟨rfl, rfl, rfl⟩ rfl ?_
    refine v_iconst (v := nI 1) C dX8_isConsistent_19 (by decide) ?_
    refine v_ialdN C dX8_isConsistent_20 hS.a0 (by omega) (by decide) ?_
    rw [hg.g1]
    refine v_icmp_geN (tgt := 39) C dX8_isConsistent_21 (by decide) (by omega) (by omega) (fun c21 => absurd c21 (by omega)) (fun c21 => ?_)
    refine v_iload_n C dX8_isConsistent_24 rfl ?_
    refine v_aload_n C dX8_isConsistent_25 rfl ?_
    refine v_iload_n C dX8_isConsistent_26 rfl ?_
    refine v_iconst (v := nI 0) C dX8_isConsistent_27 (by decide) ?_
    refine v_callVi C (c_X8_of hl hS (i := c) (k := 0) (by omega) (by decide)) dX8_isConsistent_28 mX8_of rfl hS.o rfl wd7_117 rfl rfl (Nat.le_of_ble_eq_true rfl) (hp_rmle hRm (by decide) (by decide)) (Nat.le_of_ble_eq_true rfl) (Nat.le_of_ble_eq_true rfl) ?_
    rw [hg.of0 (by omega)]
    refine v_iadd C dX8_isConsistent_31 ?_
    refine v_istore_n C dX8_isConsistent_32 (by decide) ?_
    refine v_iincN C dX8_isConsistent_33 (by decide) rfl ?_
    refine v_goto (tgt := 14) C dX8_isConsistent_36 (by decide) ?_
    exact ih (c + 1) (by omega)
set_option maxHeartbeats 8000000 in
/-- isConsistent -/
theorem c_X8_isConsistent {G : hp_G} {l : Launch} (hl : l.stackTraces = false) {n0 : Nat} {h0 : Nat → Option va_E} {y : Nat} {S : mo_T} (hS : Mo G h0 y S) {M : mk_T} (hg : Gr (S.1 0) M)  : Ct G l yX8_isConsistent cX8_isConsistent 3 (some .boolean) 1 0 0 [.ref y] (n0, h0) (hp_iq (fun r τ => cs_r (mo_as M (mk_tr M) = S.1 0 136 - S.1 0 137 + M.2.2.1.2.2) r ∧ τ.1 = n0 ∧ Mo G τ.2 y (mo_si S 3 (nI 0)) ∧ ∀ a, (a < y ∨ y + 13 ≤ a) → τ.2 a = h0 a)) := by
  have hbase := hS.base
  have hhz := hg.hz
  have htr := hg.tr
  have hct := hg.ct
  refine Ct.of rfl hl (by simp [Value.category]) (Nat.le_of_ble_eq_true rfl) (fun K C E hRm hKl => ?_)
  subst hKl
  refine v_aload_n C dX8_isConsistent_0 rfl ?_
  refine v_iconst (v := nI 0) C dX8_isConsistent_1 (by decide) ?_
  refine v_put C 7 dX8_isConsistent_2 wd7_4 hbase hS.o rfl (by decide) ⟨rfl, rfl, rfl, rfl⟩ rfl rfl rfl (Nat.le_of_ble_eq_true rfl) (fun h2 e2 g2 => ?_)
  have Y2 := hS.i3 e2 g2
  have W2 : ∀ a, (a < y ∨ y + 13 ≤ a) → h2 a = _ := fun a ha => g2 a (by omega)
  refine v_aload_n C dX8_isConsistent_5 rfl ?_
  refine v_get C 0 dX8_isConsistent_6 wd6_237 Y2.o rfl (by decide) ⟨rfl, rfl, rfl⟩ rfl ?_
  refine v_iconst (v := nI 4) C dX8_isConsistent_9 (by decide) ?_
  refine v_ialdN C dX8_isConsistent_10 Y2.a0 (by omega) (by decide) ?_
  rw [show (mo_si S 3 (nI 0)).1 0 = S.1 0 from rfl, hg.g4]
  refine v_istore_n C dX8_isConsistent_11 (by decide) ?_
  refine v_iconst (v := nI 0) C dX8_isConsistent_12 (by decide) ?_
  refine v_istore_n C dX8_isConsistent_13 (by decide) ?_
  exact loop_X8_isConsistent (S := mo_si S 3 (nI 0)) Y2 hg C E hRm hl (fun r hr => ⟨r, rfl, hr, rfl, Y2, W2⟩) (mk_tr M) 0 (Nat.zero_add _)

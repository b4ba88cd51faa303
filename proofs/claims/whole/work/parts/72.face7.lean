/-! ===== THE CLASS: consistency ===== -/
def cs_m (M : mk_T) (e c : Nat) : Prop := match e with
  | 0 => True
  | e + 1 => mk_ms M (nI c) (2 ^ mk_hz M) = mk_mg M (nI c) (mk_hz M) ∧ cs_m M e (c + 1)
def cs_l (M : mk_T) (e c : Nat) : Prop := match e with
  | 0 => True
  | e + 1 => (pt_f M (nI c) = nI 0 → (tk_res M c).1 = tk_rs M c) ∧ cs_l M e (c + 1)
/-- an answer of yes or no that a claim decides -/
def cs_r (p : Prop) (r : Int32) : Prop := (p ∧ r = 1) ∨ (¬ p ∧ r = 0)
def cs_p (M : mk_T) : Prop := cs_m M (mk_tr M) 0 ∧ py_s M = py_g M ∧ cs_l M (mk_tr M) 0 ∧ mk_vs M (mk_tr M) = 0 ∧ mk_as M (mk_tr M) = M.2.2.2.1 - M.2.2.2.2 + M.2.2.1.2.2.toInt64
set_option maxHeartbeats 4000000 in
theorem loop_X7_marginsAgree {G : hp_G} {K : hp_C} {P : hp_P} {n0 : Nat} {h0 : Nat → Option va_E} {x L0 : Nat} {M : mk_T} {B : mk_T} {Z : mk_T} {mk : Nat → mk_T} {nx : Nat} {cnt : Nat} {t : Nat → Nat} {n : Nat} {lt : Nat → Nat} {ln : Nat} {hs : Int32} {ma : Int32} {fa : Int32} {rk : Nat → Option va_E} (F0 : Fx G n0 h0 x L0 M B Z mk nx cnt t n lt ln hs ma fa rk n0 h0) (C : hp_Cx G K MX7_marginsAgree) (E : hp_End G K P) (hRm : hp_Rm K = hp_rm 4 0 0) (hl : K.2.1.stackTraces = false) : ∀ (e c : Nat), c + e = mk_tr M → (∀ r, cs_r (cs_m M e c) r → P (.inl (some (.int r))) (n0, h0)) → V G K MX7_marginsAgree 0 0 (n0, h0) 2 [some (.ref x), some (.int (nI c))] [] := by
  have htr := F0.1.m.tr
  intro e
  induction e with
  | zero =>
    intro c hc hp
    have e : c = mk_tr M := by omega
    refine v_iload_n C dX7_marginsAgree_2 rfl ?_
    refine v_aload_n C dX7_marginsAgree_3 rfl ?_
    refine v_get C 0 dX7_marginsAgree_4 wd2_17 F0.1.o rfl (by decide) ⟨rfl, rfl, rfl⟩ rfl ?_
    refine v_getN (v := .int (nI (mk_tr M))) C 4 dX7_marginsAgree_7 wd1_59 F0.1.m.o rfl (by decide) ⟨rfl, rfl, rfl⟩ rfl ?_
    refine v_icmp_geN (tgt := 40) C dX7_marginsAgree_10 (by decide) (by omega) (by omega) (fun c10 => ?_) (fun c10 => absurd c10 (by omega))
    refine v_iconst (v := nI 1) C dX7_marginsAgree_40 (by decide) ?_
    exact v_zret C E dX7_marginsAgree_41 rfl rfl (hp _ (Or.inl ⟨trivial, rfl⟩))
  | succ e ih =>
    intro c hc hp
    refine v_iload_n C dX7_marginsAgree_2 rfl ?_
    refine v_aload_n C dX7_marginsAgree_3 rfl ?_
    refine v_get C 0 dX7_marginsAgree_4 wd2_17 F0.1.o rfl (by decide) ⟨rfl, rfl, rfl⟩ rfl ?_
    refine v_getN (v := .int (nI (mk_tr M))) C 4 dX7_marginsAgree_7 wd1_59 F0.1.m.o rfl (by decide) ⟨rfl, rfl, rfl⟩ rfl ?_
    refine v_icmp_geN (tgt := 40) C dX7_marginsAgree_10 (by decide) (by omega) (by omega) (fun c10 => absurd c10 (by omega)) (fun c10 => ?_)
    refine v_aload_n C dX7_marginsAgree_13 rfl ?_
    refine v_get C 0 dX7_marginsAgree_14 wd2_17 F0.1.o rfl (by decide) ⟨rfl, rfl, rfl⟩ rfl ?_
    refine v_iload_n C dX7_marginsAgree_17 rfl ?_
    refine v_callVi C (c_X4_marginOverScenarios hl F0.1.m (nI c)) dX7_marginsAgree_18 mX4_marginOverScenarios rfl F0.1.m.o rfl wd3_201 rfl rfl (Nat.le_of_ble_eq_true rfl) (hp_rmle hRm (by decide) (by decide)) (Nat.le_of_ble_eq_true rfl) (Nat.le_of_ble_eq_true rfl) ?_
    refine v_aload_n C dX7_marginsAgree_21 rfl ?_
    refine v_get C 0 dX7_marginsAgree_22 wd2_17 F0.1.o rfl (by decide) ⟨rfl, rfl, rfl⟩ rfl ?_
    refine v_iload_n C dX7_marginsAgree_25 rfl ?_
    refine v_callVi C (c_X4_margin hl F0.1.m (nI c)) dX7_marginsAgree_26 mX4_margin rfl F0.1.m.o rfl wd3_206 rfl rfl (Nat.le_of_ble_eq_true rfl) (hp_rmle hRm (by decide) (by decide)) (Nat.le_of_ble_eq_true rfl) (Nat.le_of_ble_eq_true rfl) ?_
    refine v_icmp_eq (tgt := 34) C dX7_marginsAgree_29 (by decide) (fun c29 => ?_) (fun c29 => ?_)
    · refine v_iincN C dX7_marginsAgree_34 (by decide) rfl ?_
      refine v_goto (tgt := 2) C dX7_marginsAgree_37 (by decide) ?_
      exact ih (c + 1) (by omega) (fun r hr => hp r (hr.imp (fun z => ⟨⟨c29, z.1⟩, z.2⟩) (fun z => ⟨fun y => z.1 y.2, z.2⟩)))
    · refine v_iconst (v := nI 0) C dX7_marginsAgree_32 (by decide) ?_
      exact v_zret C E dX7_marginsAgree_33 rfl rfl (hp _ (Or.inr ⟨fun y => c29 y.1, rfl⟩))
set_option maxHeartbeats 8000000 in
/-- the two margins agree -/
theorem c_X7_marginsAgree {G : hp_G} {l : Launch} (hl : l.stackTraces = false) {n0 : Nat} {h0 : Nat → Option va_E} {x L0 : Nat} {M : mk_T} {B : mk_T} {Z : mk_T} {mk : Nat → mk_T} {nx : Nat} {cnt : Nat} {t : Nat → Nat} {n : Nat} {lt : Nat → Nat} {ln : Nat} {hs : Int32} {ma : Int32} {fa : Int32} {rk : Nat → Option va_E} (E0 : Ex G h0 x L0 M B Z mk nx cnt t n lt ln hs ma fa rk) (hL : L0 ≤ n0)  : Ct G l yX7_marginsAgree cX7_marginsAgree 2 (some .boolean) 4 0 0 [.ref x] (n0, h0) (hp_iq (fun r τ => cs_r (cs_m M (mk_tr M) 0) r ∧ τ = (n0, h0))) := by
  have F0 := Fx.start E0 hL
  have hhz := E0.m.hz
  have htr := E0.m.tr
  have hct := E0.m.ct
  have hbase := E0.base
  have hl0 := E0.l0
  refine Ct.of rfl hl (by simp [Value.category]) (Nat.le_of_ble_eq_true rfl) (fun K C E hRm hKl => ?_)
  subst hKl
  refine v_iconst (v := nI 0) C dX7_marginsAgree_0 (by decide) ?_
  refine v_istore_n C dX7_marginsAgree_1 (by decide) ?_
  exact loop_X7_marginsAgree F0 C E hRm hl (mk_tr M) 0 (Nat.zero_add _) (fun r hr => ⟨r, rfl, hr, rfl⟩)
set_option maxHeartbeats 8000000 in
/-- the payments agree -/
theorem c_X7_paymentsAgree {G : hp_G} {l : Launch} (hl : l.stackTraces = false) {n0 : Nat} {h0 : Nat → Option va_E} {x L0 : Nat} {M : mk_T} {B : mk_T} {Z : mk_T} {mk : Nat → mk_T} {nx : Nat} {cnt : Nat} {t : Nat → Nat} {n : Nat} {lt : Nat → Nat} {ln : Nat} {hs : Int32} {ma : Int32} {fa : Int32} {rk : Nat → Option va_E} (E0 : Ex G h0 x L0 M B Z mk nx cnt t n lt ln hs ma fa rk) (hL : L0 ≤ n0)  : Ct G l yX7_paymentsAgree cX7_paymentsAgree 1 (some .boolean) 9 0 0 [.ref x] (n0, h0) (hp_iq (fun r τ => cs_r (py_s M = py_g M) r ∧ Fx G n0 h0 x L0 M B Z mk nx cnt t n lt ln hs ma fa rk τ.1 τ.2)) := by
  have F0 := Fx.start E0 hL
  have hhz := E0.m.hz
  have htr := E0.m.tr
  have hct := E0.m.ct
  have hbase := E0.base
  have hl0 := E0.l0
  obtain ⟨sv, sc, sgi, ssu, smg, hS⟩ := E0.st
  refine Ct.of rfl hl (by simp [Value.category]) (Nat.le_of_ble_eq_true rfl) (fun K C E hRm hKl => ?_)
  subst hKl
  refine v_aload_n C dX7_paymentsAgree_0 rfl ?_
  refine v_get C 4 dX7_paymentsAgree_1 wd2_21 F0.1.o rfl (by decide) ⟨rfl, rfl, rfl⟩ rfl ?_
  refine v_aload_n C dX7_paymentsAgree_4 rfl ?_
  refine v_get C 0 dX7_paymentsAgree_5 wd2_17 F0.1.o rfl (by decide) ⟨rfl, rfl, rfl⟩ rfl ?_
  refine v_callVv C (c_X5_collect hl E0.m hS (by omega)) dX7_paymentsAgree_8 mX5_collect rfl hS.o rfl wf14 rfl rfl (Nat.le_of_ble_eq_true rfl) (hp_rmle hRm (by decide) (by decide)) (Nat.le_of_ble_eq_true rfl) (Nat.le_of_ble_eq_true rfl) (fun n8 h8 q8 => ?_)
  obtain ⟨k8, v1, S8, hv1, u8⟩ := q8
  have z8 := Eq.symm k8
  have z8 : n0 = n8 := z8
  subst z8
  have F8 := F0.us ⟨_, _, _, _, _, S8⟩ u8
  refine v_aload_n C dX7_paymentsAgree_11 rfl ?_
  refine v_get C 4 dX7_paymentsAgree_12 wd2_21 F8.1.o rfl (by decide) ⟨rfl, rfl, rfl⟩ rfl ?_
  refine v_callVq C (c_X5_leastOverSets hl S8) dX7_paymentsAgree_15 mX5_leastOverSets rfl S8.o rfl wd3_150 rfl rfl (Nat.le_of_ble_eq_true rfl) (hp_rmle hRm (by decide) (by decide)) (Nat.le_of_ble_eq_true rfl) (Nat.le_of_ble_eq_true rfl) (fun r15 n15 h15 q15 => ?_)
  obtain ⟨e15, k15, S15, u15⟩ := q15
  have z15 := Eq.symm k15
  have z15 : n0 = n15 := z15
  subst z15
  have F15 := F8.us ⟨_, _, _, _, _, S15⟩ u15
  have e15 := e15.trans (py_s_ae htr hv1)
  subst e15
  refine v_aload_n C dX7_paymentsAgree_18 rfl ?_
  refine v_get C 4 dX7_paymentsAgree_19 wd2_21 F15.1.o rfl (by decide) ⟨rfl, rfl, rfl⟩ rfl ?_
  refine v_callVq C (c_X5_leastOverGroups hl S15) dX7_paymentsAgree_22 mX5_leastOverGroups rfl S15.o rfl wd3_161 rfl rfl (Nat.le_of_ble_eq_true rfl) (hp_rmle hRm (by decide) (by decide)) (Nat.le_of_ble_eq_true rfl) (Nat.le_of_ble_eq_true rfl) (fun r22 n22 h22 q22 => ?_)
  obtain ⟨e22, k22, su2, S22, u22⟩ := q22
  have z22 := Eq.symm k22
  have z22 : n0 = n22 := z22
  subst z22
  have F22 := F15.us ⟨_, _, _, _, _, S22⟩ u22
  have e22 := e22.trans (py_g_ae hv1)
  subst e22
  refine v_icmp_ne (tgt := 32) C dX7_paymentsAgree_25 (by decide) (fun c25 => ?_) (fun c25 => ?_)
  · refine v_iconst (v := nI 0) C dX7_paymentsAgree_32 (by decide) ?_
    exact v_zret C E dX7_paymentsAgree_33 rfl rfl ⟨_, rfl, by first | exact Or.inl ⟨c25, rfl⟩ | exact Or.inr ⟨c25, rfl⟩, F22⟩
  · refine v_iconst (v := nI 1) C dX7_paymentsAgree_28 (by decide) ?_
    refine v_goto (tgt := 33) C dX7_paymentsAgree_29 (by decide) ?_
    exact v_zret C E dX7_paymentsAgree_33 rfl rfl ⟨_, rfl, by first | exact Or.inl ⟨c25, rfl⟩ | exact Or.inr ⟨c25, rfl⟩, F22⟩
set_option maxHeartbeats 4000000 in
theorem loop_X7_leastMarginsAgree {G : hp_G} {K : hp_C} {P : hp_P} {n0 : Nat} {h0 : Nat → Option va_E} {x L0 : Nat} {M : mk_T} {B : mk_T} {Z : mk_T} {mk : Nat → mk_T} {nx : Nat} {cnt : Nat} {t : Nat → Nat} {n : Nat} {lt : Nat → Nat} {ln : Nat} {hs : Int32} {ma : Int32} {fa : Int32} {rk : Nat → Option va_E} (C : hp_Cx G K MX7_leastMarginsAgree) (E : hp_End G K P) (hRm : hp_Rm K = hp_rm 9 0 0) (hl : K.2.1.stackTraces = false) (hhz : mk_hz M ≤ 4) (htr : mk_tr M ≤ 6) : ∀ (e c n1 : Nat) (h : Nat → Option va_E), c + e = mk_tr M → Fx G n0 h0 x L0 M B Z mk nx cnt t n lt ln hs ma fa rk n1 h → (∀ r n2 h2, cs_r (cs_l M e c) r → Fx G n0 h0 x L0 M B Z mk nx cnt t n lt ln hs ma fa rk n2 h2 → P (.inl (some (.int r))) (n2, h2)) → V G K MX7_leastMarginsAgree 0 0 (n1, h) 2 [some (.ref x), some (.int (nI c))] [] := by
  intro e
  induction e with
  | zero =>
    intro c n1 h hc F hp
    have e : c = mk_tr M := by omega
    refine v_iload_n C dX7_leastMarginsAgree_2 rfl ?_
    refine v_aload_n C dX7_leastMarginsAgree_3 rfl ?_
    refine v_get C 0 dX7_leastMarginsAgree_4 wd2_17 F.1.o rfl (by decide) ⟨rfl, rfl, rfl⟩ rfl ?_
    refine v_getN (v := .int (nI (mk_tr M))) C 4 dX7_leastMarginsAgree_7 wd1_59 F.1.m.o rfl (by decide) ⟨rfl, rfl, rfl⟩ rfl ?_
    refine v_icmp_geN (tgt := 54) C dX7_leastMarginsAgree_10 (by decide) (by omega) (by omega) (fun c10 => ?_) (fun c10 => absurd c10 (by omega))
    refine v_iconst (v := nI 1) C dX7_leastMarginsAgree_54 (by decide) ?_
    exact v_zret C E dX7_leastMarginsAgree_55 rfl rfl (hp _ _ _ (Or.inl ⟨trivial, rfl⟩) F)
  | succ e ih =>
    intro c n1 h hc F hp
    have hl0 := F.1.l0
    have ec : (nI c).toNatClampNeg = c := nI_clamp (by omega)
    refine v_iload_n C dX7_leastMarginsAgree_2 rfl ?_
    refine v_aload_n C dX7_leastMarginsAgree_3 rfl ?_
    refine v_get C 0 dX7_leastMarginsAgree_4 wd2_17 F.1.o rfl (by decide) ⟨rfl, rfl, rfl⟩ rfl ?_
    refine v_getN (v := .int (nI (mk_tr M))) C 4 dX7_leastMarginsAgree_7 wd1_59 F.1.m.o rfl (by decide) ⟨rfl, rfl, rfl⟩ rfl ?_
    refine v_icmp_geN (tgt := 54) C dX7_leastMarginsAgree_10 (by decide) (by omega) (by omega) (fun c10 => absurd c10 (by omega)) (fun c10 => ?_)
    refine v_aload_n C dX7_leastMarginsAgree_13 rfl ?_
    refine v_iload_n C dX7_leastMarginsAgree_14 rfl ?_
    refine v_callVq C (c_X7_prepareTakeOver hl F.1 F.lo (nI c)) dX7_leastMarginsAgree_15 mX7_prepareTakeOver rfl F.1.o rfl wd3_215 rfl rfl (Nat.le_of_ble_eq_true rfl) (hp_rmle hRm (by decide) (by decide)) (Nat.le_of_ble_eq_true rfl) (Nat.le_of_ble_eq_true rfl) (fun r15 n15 h15 q15 => ?_)
    obtain ⟨e15, F15, T15⟩ := q15
    subst e15
    have F15 := F.trans F15
    refine v_if_ne (tgt := 48) C dX7_leastMarginsAgree_18 (by decide) (fun c18 => ?_) (fun c18 => ?_)
    · refine v_iincN C dX7_leastMarginsAgree_48 (by decide) rfl ?_
      refine v_goto (tgt := 2) C dX7_leastMarginsAgree_51 (by decide) ?_
      exact ih (c + 1) _ _ (by omega) F15 (fun r n2 h2 hr F2 => hp r n2 h2 (hr.imp (fun z => ⟨⟨fun y => absurd y c18, z.1⟩, z.2⟩) (fun z => ⟨fun y => z.1 y.2, z.2⟩)) F2)
    · have c18 : pt_f M (nI c) = nI 0 := c18
      obtain ⟨g1, g2, g3⟩ := pt_f_0 c18
      obtain ⟨sd, nd, af, hs1, ps, tk, bt, lf, ls, T, hpre⟩ := T15 g1 g2
      have hhs := tk_pre_hs hpre hhz
      rw [ec] at hpre
      refine v_aload_n C dX7_leastMarginsAgree_21 rfl ?_
      refine v_get C 5 dX7_leastMarginsAgree_22 wd2_22 F15.1.o rfl (by decide) ⟨rfl, rfl, rfl⟩ rfl ?_
      refine v_aload_n C dX7_leastMarginsAgree_25 rfl ?_
      refine v_get C 0 dX7_leastMarginsAgree_26 wd2_17 F15.1.o rfl (by decide) ⟨rfl, rfl, rfl⟩ rfl ?_
      refine v_callVq C (c_X6_leastOverWays hl T F15.1.m (by omega) hhs) dX7_leastMarginsAgree_29 mX6_leastOverWays rfl T.o rfl wd3_84 rfl rfl (Nat.le_of_ble_eq_true rfl) (hp_rmle hRm (by decide) (by decide)) (Nat.le_of_ble_eq_true rfl) (Nat.le_of_ble_eq_true rfl) (fun r29 n29 h29 q29 => ?_)
      obtain ⟨e29, k29, tk1, bt1, T29, hb29, u29⟩ := q29
      have z29 := Eq.symm k29
      have z29 : _ = n29 := z29
      subst z29
      have e29 := e29.trans (tk_pre_res (tk := tk) (bt := bt) hpre rfl).1
      subst e29
      have F29 := F15.ut ⟨_, _, _, _, _, _, _, _, _, T29⟩ u29
      refine v_aload_n C dX7_leastMarginsAgree_32 rfl ?_
      refine v_get C 5 dX7_leastMarginsAgree_33 wd2_22 F29.1.o rfl (by decide) ⟨rfl, rfl, rfl⟩ rfl ?_
      refine v_aload_n C dX7_leastMarginsAgree_36 rfl ?_
      refine v_get C 0 dX7_leastMarginsAgree_37 wd2_17 F29.1.o rfl (by decide) ⟨rfl, rfl, rfl⟩ rfl ?_
      refine v_callVq C (c_X6_leastOverSets hl T29 F29.1.m (by omega) hhs) dX7_leastMarginsAgree_40 mX6_leastOverSets rfl T29.o rfl wd3_220 rfl rfl (Nat.le_of_ble_eq_true rfl) (hp_rmle hRm (by decide) (by decide)) (Nat.le_of_ble_eq_true rfl) (Nat.le_of_ble_eq_true rfl) (fun r40 n40 h40 q40 => ?_)
      obtain ⟨e40, k40, T40, u40⟩ := q40
      have z40 := Eq.symm k40
      have z40 : _ = n40 := z40
      subst z40
      have e40 := e40.trans (tk_pre_sl (lf := lf) hpre hhz htr)
      subst e40
      have F40 := F29.ut ⟨_, _, _, _, _, _, _, _, _, T40⟩ u40
      refine v_icmp_eq (tgt := 48) C dX7_leastMarginsAgree_43 (by decide) (fun c43 => ?_) (fun c43 => ?_)
      · refine v_iincN C dX7_leastMarginsAgree_48 (by decide) rfl ?_
        refine v_goto (tgt := 2) C dX7_leastMarginsAgree_51 (by decide) ?_
        exact ih (c + 1) _ _ (by omega) F40 (fun r n2 h2 hr F2 => hp r n2 h2 (hr.imp (fun z => ⟨⟨fun _ => c43, z.1⟩, z.2⟩) (fun z => ⟨fun y => z.1 y.2, z.2⟩)) F2)
      · refine v_iconst (v := nI 0) C dX7_leastMarginsAgree_46 (by decide) ?_
        exact v_zret C E dX7_leastMarginsAgree_47 rfl rfl (hp _ _ _ (Or.inr ⟨fun y => c43 (y.1 c18), rfl⟩) F40)
set_option maxHeartbeats 8000000 in
/-- the least margins agree -/
theorem c_X7_leastMarginsAgree {G : hp_G} {l : Launch} (hl : l.stackTraces = false) {n0 : Nat} {h0 : Nat → Option va_E} {x L0 : Nat} {M : mk_T} {B : mk_T} {Z : mk_T} {mk : Nat → mk_T} {nx : Nat} {cnt : Nat} {t : Nat → Nat} {n : Nat} {lt : Nat → Nat} {ln : Nat} {hs : Int32} {ma : Int32} {fa : Int32} {rk : Nat → Option va_E} (E0 : Ex G h0 x L0 M B Z mk nx cnt t n lt ln hs ma fa rk) (hL : L0 ≤ n0)  : Ct G l yX7_leastMarginsAgree cX7_leastMarginsAgree 2 (some .boolean) 9 0 0 [.ref x] (n0, h0) (hp_iq (fun r τ => cs_r (cs_l M (mk_tr M) 0) r ∧ Fx G n0 h0 x L0 M B Z mk nx cnt t n lt ln hs ma fa rk τ.1 τ.2)) := by
  have F0 := Fx.start E0 hL
  have hhz := E0.m.hz
  have htr := E0.m.tr
  have hct := E0.m.ct
  have hbase := E0.base
  have hl0 := E0.l0
  refine Ct.of rfl hl (by simp [Value.category]) (Nat.le_of_ble_eq_true rfl) (fun K C E hRm hKl => ?_)
  subst hKl
  refine v_iconst (v := nI 0) C dX7_leastMarginsAgree_0 (by decide) ?_
  refine v_istore_n C dX7_leastMarginsAgree_1 (by decide) ?_
  exact loop_X7_leastMarginsAgree C E hRm hl hhz htr (mk_tr M) 0 _ _ (Nat.zero_add _) F0 (fun r n2 h2 hr F2 => ⟨r, rfl, hr, F2⟩)
theorem cs_if {p : Prop} {r : Int32} (h : cs_r p r) (hr : ¬ r = 0) : p := h.elim (fun z => z.1) (fun z => absurd z.2 hr)
theorem cs_ifn {p : Prop} {r : Int32} (h : cs_r p r) (hr : r = 0) : ¬ p := h.elim (fun z => absurd (z.2.symm.trans hr) (by decide)) (fun z => z.1)
set_option maxHeartbeats 8000000 in
/-- all agrees -/
theorem c_X7_isConsistent {G : hp_G} {l : Launch} (hl : l.stackTraces = false) {n0 : Nat} {h0 : Nat → Option va_E} {x L0 : Nat} {M : mk_T} {B : mk_T} {Z : mk_T} {mk : Nat → mk_T} {nx : Nat} {cnt : Nat} {t : Nat → Nat} {n : Nat} {lt : Nat → Nat} {ln : Nat} {hs : Int32} {ma : Int32} {fa : Int32} {rk : Nat → Option va_E} (E0 : Ex G h0 x L0 M B Z mk nx cnt t n lt ln hs ma fa rk) (hL : L0 ≤ n0)  : Ct G l yX7_isConsistent cX7_isConsistent 1 (some .boolean) 10 0 0 [.ref x] (n0, h0) (hp_iq (fun r τ => cs_r (cs_p M) r ∧ Fx G n0 h0 x L0 M B Z mk nx cnt t n lt ln hs ma fa rk τ.1 τ.2)) := by
  have F0 := Fx.start E0 hL
  have hhz := E0.m.hz
  have htr := E0.m.tr
  have hct := E0.m.ct
  have hbase := E0.base
  have hl0 := E0.l0
  refine Ct.of rfl hl (by simp [Value.category]) (Nat.le_of_ble_eq_true rfl) (fun K C E hRm hKl => ?_)
  subst hKl
  refine v_aload_n C dX7_isConsistent_0 rfl ?_
  refine v_callVq C (c_X7_marginsAgree hl E0 hL) dX7_isConsistent_1 mX7_marginsAgree rfl F0.1.o rfl wd3_197 rfl rfl (Nat.le_of_ble_eq_true rfl) (hp_rmle hRm (by decide) (by decide)) (Nat.le_of_ble_eq_true rfl) (Nat.le_of_ble_eq_true rfl) (fun r1 n1 h1 q1 => ?_)
  obtain ⟨e1, k1⟩ := q1
  cases k1
  refine v_if_eq (tgt := 45) C dX7_isConsistent_4 (by decide) (fun c4 => ?_) (fun c4 => ?_)
  · have hic : ¬ cs_p M := fun z => cs_ifn e1 c4 z.1
    refine v_iconst (v := nI 0) C dX7_isConsistent_45 (by decide) ?_
    exact v_zret C E dX7_isConsistent_46 rfl rfl ⟨_, rfl, by first | exact Or.inl ⟨hic, rfl⟩ | exact Or.inr ⟨hic, rfl⟩, F0⟩
  · refine v_aload_n C dX7_isConsistent_7 rfl ?_
    refine v_callVq C (c_X7_paymentsAgree hl F0.1 F0.lo) dX7_isConsistent_8 mX7_paymentsAgree rfl F0.1.o rfl wd3_207 rfl rfl (Nat.le_of_ble_eq_true rfl) (hp_rmle hRm (by decide) (by decide)) (Nat.le_of_ble_eq_true rfl) (Nat.le_of_ble_eq_true rfl) (fun r8 n8 h8 q8 => ?_)
    obtain ⟨e8, F8⟩ := q8
    have F8 := F0.trans F8
    refine v_if_eq (tgt := 45) C dX7_isConsistent_11 (by decide) (fun c11 => ?_) (fun c11 => ?_)
    · have hic : ¬ cs_p M := fun z => cs_ifn e8 c11 z.2.1
      refine v_iconst (v := nI 0) C dX7_isConsistent_45 (by decide) ?_
      exact v_zret C E dX7_isConsistent_46 rfl rfl ⟨_, rfl, by first | exact Or.inl ⟨hic, rfl⟩ | exact Or.inr ⟨hic, rfl⟩, F8⟩
    · refine v_aload_n C dX7_isConsistent_14 rfl ?_
      refine v_callVq C (c_X7_leastMarginsAgree hl F8.1 F8.lo) dX7_isConsistent_15 mX7_leastMarginsAgree rfl F8.1.o rfl wd3_211 rfl rfl (Nat.le_of_ble_eq_true rfl) (hp_rmle hRm (by decide) (by decide)) (Nat.le_of_ble_eq_true rfl) (Nat.le_of_ble_eq_true rfl) (fun r15 n15 h15 q15 => ?_)
      obtain ⟨e15, F15⟩ := q15
      have F15 := F8.trans F15
      refine v_if_eq (tgt := 45) C dX7_isConsistent_18 (by decide) (fun c18 => ?_) (fun c18 => ?_)
      · have hic : ¬ cs_p M := fun z => cs_ifn e15 c18 z.2.2.1
        refine v_iconst (v := nI 0) C dX7_isConsistent_45 (by decide) ?_
        exact v_zret C E dX7_isConsistent_46 rfl rfl ⟨_, rfl, by first | exact Or.inl ⟨hic, rfl⟩ | exact Or.inr ⟨hic, rfl⟩, F15⟩
      · refine v_aload_n C dX7_isConsistent_21 rfl ?_
        refine v_get C 0 dX7_isConsistent_22 wd2_17 F15.1.o rfl (by decide) ⟨rfl, rfl, rfl⟩ rfl ?_
        refine v_callVi C (c_X4_variationsAddUp hl F15.1.m) dX7_isConsistent_25 mX4_variationsAddUp rfl F15.1.m.o rfl wd3_229 rfl rfl (Nat.le_of_ble_eq_true rfl) (hp_rmle hRm (by decide) (by decide)) (Nat.le_of_ble_eq_true rfl) (Nat.le_of_ble_eq_true rfl) ?_
        refine v_if_eqB (tgt := 45) C dX7_isConsistent_28 (by decide) (fun c28 => ?_) (fun c28 => ?_)
        · have hic : ¬ cs_p M := fun z => c28 z.2.2.2.1
          refine v_iconst (v := nI 0) C dX7_isConsistent_45 (by decide) ?_
          exact v_zret C E dX7_isConsistent_46 rfl rfl ⟨_, rfl, by first | exact Or.inl ⟨hic, rfl⟩ | exact Or.inr ⟨hic, rfl⟩, F15⟩
        · refine v_aload_n C dX7_isConsistent_31 rfl ?_
          refine v_get C 0 dX7_isConsistent_32 wd2_17 F15.1.o rfl (by decide) ⟨rfl, rfl, rfl⟩ rfl ?_
          refine v_callVi C (c_X4_accountsAddUp hl F15.1.m) dX7_isConsistent_35 mX4_accountsAddUp rfl F15.1.m.o rfl wd3_233 rfl rfl (Nat.le_of_ble_eq_true rfl) (hp_rmle hRm (by decide) (by decide)) (Nat.le_of_ble_eq_true rfl) (Nat.le_of_ble_eq_true rfl) ?_
          refine v_if_eqB (tgt := 45) C dX7_isConsistent_38 (by decide) (fun c38 => ?_) (fun c38 => ?_)
          · have hic : ¬ cs_p M := fun z => c38 z.2.2.2.2
            refine v_iconst (v := nI 0) C dX7_isConsistent_45 (by decide) ?_
            exact v_zret C E dX7_isConsistent_46 rfl rfl ⟨_, rfl, by first | exact Or.inl ⟨hic, rfl⟩ | exact Or.inr ⟨hic, rfl⟩, F15⟩
          · have hic : cs_p M := ⟨cs_if e1 c4, cs_if e8 c11, cs_if e15 c18, c28, c38⟩
            refine v_iconst (v := nI 1) C dX7_isConsistent_41 (by decide) ?_
            refine v_goto (tgt := 46) C dX7_isConsistent_42 (by decide) ?_
            exact v_zret C E dX7_isConsistent_46 rfl rfl ⟨_, rfl, by first | exact Or.inl ⟨hic, rfl⟩ | exact Or.inr ⟨hic, rfl⟩, F15⟩

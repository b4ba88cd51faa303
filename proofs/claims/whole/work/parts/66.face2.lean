/-! ===== THE CLASS: settling, taking over, undoing ===== -/
abbrev xS : String := "java/lang/IllegalStateException"
abbrev xA : String := "java/lang/IllegalArgumentException"
abbrev xU : String := "java/lang/UnsupportedOperationException"
abbrev xN : String := "java/util/NoSuchElementException"
abbrev xM : String := "java/lang/ArithmeticException"
/-- what is wrong with a default now -/
def pt_f (M : mk_T) (i : Int32) : Int32 := if ¬ hp_num i (mk_tr M) then nI 1 else if mk_ar M 4 i.toNatClampNeg = nI 2 then nI 3 else if tk_nd M i.toNatClampNeg ≤ tk_bc (tk_sd M i.toNatClampNeg) then nI 0 else nI 4
theorem pt_f_in (M : mk_T) (i : Int32) : pt_f M i = nI 0 ∨ pt_f M i = nI 1 ∨ pt_f M i = nI 2 ∨ pt_f M i = nI 3 ∨ pt_f M i = nI 4 := by
  unfold pt_f
  split
  · exact Or.inr (Or.inl rfl)
  · split
    · exact Or.inr (Or.inr (Or.inr (Or.inl rfl)))
    · split
      · exact Or.inl rfl
      · exact Or.inr (Or.inr (Or.inr (Or.inr rfl)))
theorem pt_f_0 {M : mk_T} {i : Int32} (h : pt_f M i = nI 0) : hp_num i (mk_tr M) ∧ ¬ mk_ar M 4 i.toNatClampNeg = nI 2 ∧ tk_nd M i.toNatClampNeg ≤ tk_bc (tk_sd M i.toNatClampNeg) := by
  unfold pt_f at h
  split at h
  · exact absurd h (by decide)
  · rename_i h1
    split at h
    · exact absurd h (by decide)
    · rename_i h2
      split at h
      · rename_i h3
        exact ⟨Decidable.not_not.mp h1, h2, h3⟩
      · exact absurd h (by decide)
/-- no default is without a best way -/
def tk_good (M : mk_T) : Prop := ∀ d, d < mk_tr M → tk_nd M d ≤ tk_bc (tk_sd M d) → (tk_res M d).1 < 1000000000
def tk_on (M : mk_T) (d : Nat) (on : Int32) : Int32 := tk_to (tk_h0 M d) (tk_res M d).2 on (tk_nd M d) 0
theorem tk_to_ae {hs hs' bt bt' : Nat → Int32} {on : Int32} : ∀ f c, (∀ i, i < c + f → hs i = hs' i ∧ bt i = bt' i) → tk_to hs bt on f c = tk_to hs' bt' on f c
  | 0, c, _ => rfl
  | f + 1, c, h => by
    unfold tk_to
    rw [(h c (by omega)).1, (h c (by omega)).2, tk_to_ae f (c + 1) (fun i hi => h i (by omega))]
set_option maxHeartbeats 8000000 in
/-- payments -/
theorem c_X7_payments {G : hp_G} {l : Launch} (hl : l.stackTraces = false) {n0 : Nat} {h0 : Nat → Option va_E} {x L0 : Nat} {M : mk_T} {B : mk_T} {Z : mk_T} {mk : Nat → mk_T} {nx : Nat} {cnt : Nat} {t : Nat → Nat} {n : Nat} {lt : Nat → Nat} {ln : Nat} {hs : Int32} {ma : Int32} {fa : Int32} {rk : Nat → Option va_E} (E0 : Ex G h0 x L0 M B Z mk nx cnt t n lt ln hs ma fa rk) (hL : L0 ≤ n0)  : Ct G l yX7_payments cX7_payments 1 (some .int) 9 0 0 [.ref x] (n0, h0) (fun o τ => o = rI (py_s M) ∧ Fx G n0 h0 x L0 M B Z mk nx cnt t n lt ln hs ma fa rk τ.1 τ.2) := by
  have F0 := Fx.start E0 hL
  have hhz := E0.m.hz
  have htr := E0.m.tr
  have hct := E0.m.ct
  have hbase := E0.base
  have hl0 := E0.l0
  obtain ⟨sv, sc, sgi, ssu, smg, hS⟩ := E0.st
  refine Ct.of rfl hl (by simp [Value.category]) (Nat.le_of_ble_eq_true rfl) (fun K C E hRm hKl => ?_)
  subst hKl
  refine v_aload_n C dX7_payments_0 rfl ?_
  refine v_get C 4 dX7_payments_1 wd2_21 F0.1.o rfl (by decide) ⟨rfl, rfl, rfl⟩ rfl ?_
  refine v_aload_n C dX7_payments_4 rfl ?_
  refine v_get C 0 dX7_payments_5 wd2_17 F0.1.o rfl (by decide) ⟨rfl, rfl, rfl⟩ rfl ?_
  refine v_callVv C (c_X5_collect hl E0.m hS (by omega)) dX7_payments_8 mX5_collect rfl hS.o rfl wf14 rfl rfl (Nat.le_of_ble_eq_true rfl) (hp_rmle hRm (by decide) (by decide)) (Nat.le_of_ble_eq_true rfl) (Nat.le_of_ble_eq_true rfl) (fun n8 h8 q8 => ?_)
  obtain ⟨k8, v1, S8, hv1, u8⟩ := q8
  have z8 := Eq.symm k8
  have z8 : n0 = n8 := z8
  subst z8
  have F8 := F0.us ⟨_, _, _, _, _, S8⟩ u8
  refine v_aload_n C dX7_payments_11 rfl ?_
  refine v_get C 4 dX7_payments_12 wd2_21 F8.1.o rfl (by decide) ⟨rfl, rfl, rfl⟩ rfl ?_
  refine v_callVq C (c_X5_leastOverSets hl S8) dX7_payments_15 mX5_leastOverSets rfl S8.o rfl wd3_150 rfl rfl (Nat.le_of_ble_eq_true rfl) (hp_rmle hRm (by decide) (by decide)) (Nat.le_of_ble_eq_true rfl) (Nat.le_of_ble_eq_true rfl) (fun r15 n15 h15 q15 => ?_)
  obtain ⟨e15, k15, S2, u15⟩ := q15
  have z15 := Eq.symm k15
  have z15 : n0 = n15 := z15
  subst z15
  exact v_iret C E dX7_payments_18 rfl ⟨congrArg rI (e15.trans (py_s_ae htr hv1)), F8.us ⟨_, _, _, _, _, S2⟩ u15⟩
set_option maxHeartbeats 8000000 in
/-- paymentsByGroups -/
theorem c_X7_paymentsByGroups {G : hp_G} {l : Launch} (hl : l.stackTraces = false) {n0 : Nat} {h0 : Nat → Option va_E} {x L0 : Nat} {M : mk_T} {B : mk_T} {Z : mk_T} {mk : Nat → mk_T} {nx : Nat} {cnt : Nat} {t : Nat → Nat} {n : Nat} {lt : Nat → Nat} {ln : Nat} {hs : Int32} {ma : Int32} {fa : Int32} {rk : Nat → Option va_E} (E0 : Ex G h0 x L0 M B Z mk nx cnt t n lt ln hs ma fa rk) (hL : L0 ≤ n0)  : Ct G l yX7_paymentsByGroups cX7_paymentsByGroups 1 (some .int) 9 0 0 [.ref x] (n0, h0) (fun o τ => o = rI (py_g M) ∧ Fx G n0 h0 x L0 M B Z mk nx cnt t n lt ln hs ma fa rk τ.1 τ.2) := by
  have F0 := Fx.start E0 hL
  have hhz := E0.m.hz
  have htr := E0.m.tr
  have hct := E0.m.ct
  have hbase := E0.base
  have hl0 := E0.l0
  obtain ⟨sv, sc, sgi, ssu, smg, hS⟩ := E0.st
  refine Ct.of rfl hl (by simp [Value.category]) (Nat.le_of_ble_eq_true rfl) (fun K C E hRm hKl => ?_)
  subst hKl
  refine v_aload_n C dX7_paymentsByGroups_0 rfl ?_
  refine v_get C 4 dX7_paymentsByGroups_1 wd2_21 F0.1.o rfl (by decide) ⟨rfl, rfl, rfl⟩ rfl ?_
  refine v_aload_n C dX7_paymentsByGroups_4 rfl ?_
  refine v_get C 0 dX7_paymentsByGroups_5 wd2_17 F0.1.o rfl (by decide) ⟨rfl, rfl, rfl⟩ rfl ?_
  refine v_callVv C (c_X5_collect hl E0.m hS (by omega)) dX7_paymentsByGroups_8 mX5_collect rfl hS.o rfl wf14 rfl rfl (Nat.le_of_ble_eq_true rfl) (hp_rmle hRm (by decide) (by decide)) (Nat.le_of_ble_eq_true rfl) (Nat.le_of_ble_eq_true rfl) (fun n8 h8 q8 => ?_)
  obtain ⟨k8, v1, S8, hv1, u8⟩ := q8
  have z8 := Eq.symm k8
  have z8 : n0 = n8 := z8
  subst z8
  have F8 := F0.us ⟨_, _, _, _, _, S8⟩ u8
  refine v_aload_n C dX7_paymentsByGroups_11 rfl ?_
  refine v_get C 4 dX7_paymentsByGroups_12 wd2_21 F8.1.o rfl (by decide) ⟨rfl, rfl, rfl⟩ rfl ?_
  refine v_callVq C (c_X5_leastOverGroups hl S8) dX7_paymentsByGroups_15 mX5_leastOverGroups rfl S8.o rfl wd3_161 rfl rfl (Nat.le_of_ble_eq_true rfl) (hp_rmle hRm (by decide) (by decide)) (Nat.le_of_ble_eq_true rfl) (Nat.le_of_ble_eq_true rfl) (fun r15 n15 h15 q15 => ?_)
  obtain ⟨e15, k15, su2, S2, u15⟩ := q15
  have z15 := Eq.symm k15
  have z15 : n0 = n15 := z15
  subst z15
  exact v_iret C E dX7_paymentsByGroups_18 rfl ⟨congrArg rI (e15.trans (py_g_ae hv1)), F8.us ⟨_, _, _, _, _, S2⟩ u15⟩
set_option maxHeartbeats 8000000 in
/-- what is wrong with a default; the rows for it -/
theorem c_X7_prepareTakeOver {G : hp_G} {l : Launch} (hl : l.stackTraces = false) {n0 : Nat} {h0 : Nat → Option va_E} {x L0 : Nat} {M : mk_T} {B : mk_T} {Z : mk_T} {mk : Nat → mk_T} {nx : Nat} {cnt : Nat} {t : Nat → Nat} {n : Nat} {lt : Nat → Nat} {ln : Nat} {hs : Int32} {ma : Int32} {fa : Int32} {rk : Nat → Option va_E} (E0 : Ex G h0 x L0 M B Z mk nx cnt t n lt ln hs ma fa rk) (hL : L0 ≤ n0) (i : Int32) : Ct G l yX7_prepareTakeOver cX7_prepareTakeOver 2 (some .int) 5 0 0 [.ref x, .int i] (n0, h0) (hp_iq (fun r τ => r = pt_f M i ∧ Fx G n0 h0 x L0 M B Z mk nx cnt t n lt ln hs ma fa rk τ.1 τ.2 ∧ (hp_num i (mk_tr M) → ¬ mk_ar M 4 (i).toNatClampNeg = nI 2 → ∃ (sd nd : Nat) (af : Nat → Nat → Int32) (hs1 ps tk bt lf : Nat → Int32) (ls : Int32), Tk G τ.2 (x + 128) sd nd af hs1 ps tk bt lf ls ∧ tk_pre M (i).toNatClampNeg sd nd af hs1 ps))) := by
  have F0 := Fx.start E0 hL
  have hhz := E0.m.hz
  have htr := E0.m.tr
  have hct := E0.m.ct
  have hbase := E0.base
  have hl0 := E0.l0
  obtain ⟨tsd, tnd, taf, ths, tps, ttk, tbt, tlf, tls, hT⟩ := E0.tk
  refine Ct.of rfl hl (by simp [Value.category]) (Nat.le_of_ble_eq_true rfl) (fun K C E hRm hKl => ?_)
  subst hKl
  refine v_iload_n C dX7_prepareTakeOver_0 rfl ?_
  refine v_aload_n C dX7_prepareTakeOver_1 rfl ?_
  refine v_get C 0 dX7_prepareTakeOver_2 wd2_17 F0.1.o rfl (by decide) ⟨rfl, rfl, rfl⟩ rfl ?_
  refine v_getN (v := .int (nI (mk_tr M))) C 4 dX7_prepareTakeOver_5 wd1_59 F0.1.m.o rfl (by decide) ⟨rfl, rfl, rfl⟩ rfl ?_
  refine v_callSi C (c_X7_isNumber hl i (mk_tr M)) dX7_prepareTakeOver_8 mX7_isNumber wf18 rfl rfl (Nat.le_of_ble_eq_true rfl) (hp_rmle hRm (by decide) (by decide)) (Nat.le_of_ble_eq_true rfl) (Nat.le_of_ble_eq_true rfl) ?_
  refine v_if_neB (tgt := 16) C dX7_prepareTakeOver_11 (by decide) (fun c11 => ?_) (fun c11 => ?_)
  · have hnum := c11
    obtain ⟨d, hd, rfl⟩ := hp_num_j c11 (by omega)
    have ed : (nI d).toNatClampNeg = d := nI_clamp (by omega)
    refine v_aload_n C dX7_prepareTakeOver_16 rfl ?_
    refine v_get C 0 dX7_prepareTakeOver_17 wd2_17 F0.1.o rfl (by decide) ⟨rfl, rfl, rfl⟩ rfl ?_
    refine v_getN C 6 dX7_prepareTakeOver_20 wd1_64 F0.1.m.o rfl (by decide) ⟨rfl, rfl, rfl⟩ rfl ?_
    refine v_iload_n C dX7_prepareTakeOver_23 rfl ?_
    refine v_ialdN C dX7_prepareTakeOver_24 F0.1.m.a4 (by omega) (by decide) ?_
    refine v_iconst (v := nI 2) C dX7_prepareTakeOver_25 (by decide) ?_
    refine v_icmp_ne (tgt := 31) C dX7_prepareTakeOver_26 (by decide) (fun c26 => ?_) (fun c26 => ?_)
    · refine v_aload_n C dX7_prepareTakeOver_31 rfl ?_
      refine v_get C 5 dX7_prepareTakeOver_32 wd2_22 F0.1.o rfl (by decide) ⟨rfl, rfl, rfl⟩ rfl ?_
      refine v_aload_n C dX7_prepareTakeOver_35 rfl ?_
      refine v_get C 0 dX7_prepareTakeOver_36 wd2_17 F0.1.o rfl (by decide) ⟨rfl, rfl, rfl⟩ rfl ?_
      refine v_iload_n C dX7_prepareTakeOver_39 rfl ?_
      refine v_callVv C (c_X6_prepare hl hT E0.m (by omega) (by omega)) dX7_prepareTakeOver_40 mX6_prepare rfl hT.o rfl wd3_68 rfl rfl (Nat.le_of_ble_eq_true rfl) (hp_rmle hRm (by decide) (by decide)) (Nat.le_of_ble_eq_true rfl) (Nat.le_of_ble_eq_true rfl) (fun n40 h40 q40 => ?_)
      obtain ⟨k40, af1, hs1, ps1, T40, ho40, ha40, u40⟩ := q40
      have z40 := Eq.symm k40
      have z40 : n0 = n40 := z40
      subst z40
      have F40 := F0.ut ⟨_, _, _, _, _, _, _, _, _, T40⟩ u40
      refine v_aload_n C dX7_prepareTakeOver_43 rfl ?_
      refine v_get C 5 dX7_prepareTakeOver_44 wd2_22 F40.1.o rfl (by decide) ⟨rfl, rfl, rfl⟩ rfl ?_
      refine v_callVi C (c_X6_isPossible hl T40) dX7_prepareTakeOver_47 mX6_isPossible rfl T40.o rfl wf9 rfl rfl (Nat.le_of_ble_eq_true rfl) (hp_rmle hRm (by decide) (by decide)) (Nat.le_of_ble_eq_true rfl) (Nat.le_of_ble_eq_true rfl) ?_
      refine v_if_eqB (tgt := 57) C dX7_prepareTakeOver_50 (by decide) (fun c50 => ?_) (fun c50 => ?_)
      · refine v_iconst (v := nI 4) C dX7_prepareTakeOver_57 (by decide) ?_
        exact v_iret C E dX7_prepareTakeOver_58 rfl ⟨_, rfl, by unfold pt_f; rw [if_neg (fun z => z hnum), ed, if_neg c26]; first | exact (if_pos c50).symm | exact (if_neg c50).symm, F40, fun _ _ => ⟨_, _, _, _, _, _, _, _, _, T40, by rw [ed]; exact ⟨rfl, rfl, ho40, ha40⟩⟩⟩
      · refine v_iconst (v := nI 0) C dX7_prepareTakeOver_53 (by decide) ?_
        refine v_goto (tgt := 58) C dX7_prepareTakeOver_54 (by decide) ?_
        exact v_iret C E dX7_prepareTakeOver_58 rfl ⟨_, rfl, by unfold pt_f; rw [if_neg (fun z => z hnum), ed, if_neg c26]; first | exact (if_pos c50).symm | exact (if_neg c50).symm, F40, fun _ _ => ⟨_, _, _, _, _, _, _, _, _, T40, by rw [ed]; exact ⟨rfl, rfl, ho40, ha40⟩⟩⟩
    · refine v_iconst (v := nI 3) C dX7_prepareTakeOver_29 (by decide) ?_
      exact v_iret C E dX7_prepareTakeOver_30 rfl ⟨_, rfl, by unfold pt_f; rw [if_neg (fun z => z hnum), ed, if_pos c26], F0, fun _ z => absurd (by rw [ed]; exact c26) z⟩
  · refine v_iconst (v := nI 1) C dX7_prepareTakeOver_14 (by decide) ?_
    exact v_iret C E dX7_prepareTakeOver_15 rfl ⟨_, rfl, (if_pos c11).symm, F0, fun z => absurd z c11⟩
set_option maxHeartbeats 8000000 in
/-- leastMargins -/
theorem c_X7_leastMargins {G : hp_G} {l : Launch} (hl : l.stackTraces = false) {n0 : Nat} {h0 : Nat → Option va_E} {x L0 : Nat} {M : mk_T} {B : mk_T} {Z : mk_T} {mk : Nat → mk_T} {nx : Nat} {cnt : Nat} {t : Nat → Nat} {n : Nat} {lt : Nat → Nat} {ln : Nat} {hs : Int32} {ma : Int32} {fa : Int32} {rk : Nat → Option va_E} (E0 : Ex G h0 x L0 M B Z mk nx cnt t n lt ln hs ma fa rk) (hL : L0 ≤ n0) (i : Int32) : Ct G l yX7_leastMargins cX7_leastMargins 2 (some .int) 8 1 6 [.ref x, .int i] (n0, h0) (fun o τ => o = qa (pt_f M i = nI 0) (ex_cl (pt_f M i)) (rI ((tk_res M i.toNatClampNeg).1)) ∧ Fx G n0 h0 x L0 M B Z mk nx cnt t n lt ln hs ma fa rk τ.1 τ.2) := by
  have F0 := Fx.start E0 hL
  have hhz := E0.m.hz
  have htr := E0.m.tr
  have hct := E0.m.ct
  have hbase := E0.base
  have hl0 := E0.l0
  refine Ct.of rfl hl (by simp [Value.category]) (Nat.le_of_ble_eq_true rfl) (fun K C E hRm hKl => ?_)
  subst hKl
  refine v_aload_n C dX7_leastMargins_0 rfl ?_
  refine v_iload_n C dX7_leastMargins_1 rfl ?_
  refine v_callVq C (c_X7_prepareTakeOver hl E0 hL i) dX7_leastMargins_2 mX7_prepareTakeOver rfl F0.1.o rfl wd3_215 rfl rfl (Nat.le_of_ble_eq_true rfl) (hp_rmle hRm (by decide) (by decide)) (Nat.le_of_ble_eq_true rfl) (Nat.le_of_ble_eq_true rfl) (fun r2 n2 h2 q2 => ?_)
  obtain ⟨e2, F2, T2⟩ := q2
  subst e2
  refine v_callSx C (c_X7_raise hl (pt_f_in M i)) dX7_leastMargins_5 mX7_raise wd2_120 rfl rfl (Nat.le_of_ble_eq_true rfl) (hp_rmle hRm (by decide) (by decide)) (Nat.le_of_ble_eq_true rfl) (Nat.le_of_ble_eq_true rfl) (fun e5 t5 q5 => ?_) (fun v5 t5 q5 => ?_)
  · obtain ⟨n5, h5⟩ := t5
    obtain ⟨c5, z5, y5, x5⟩ := q5.resolve_left (fun z => by cases z.2.1)
    have x5 := Eq.symm x5
    cases z5
    subst x5
    exact v_xout C E ⟨(if_neg c5).symm, F2.up y5⟩
  obtain ⟨c5, z5, y5⟩ := q5.resolve_right (fun z => by cases z.2.1)
  cases z5
  subst y5
  obtain ⟨g1, g2, g3⟩ := pt_f_0 c5
  obtain ⟨sd, nd, af, hs1, ps, tk, bt, lf, ls, T, hpre⟩ := T2 g1 g2
  have hhs := tk_pre_hs hpre hhz
  refine v_aload_n C dX7_leastMargins_8 rfl ?_
  refine v_get C 5 dX7_leastMargins_9 wd2_22 F2.1.o rfl (by decide) ⟨rfl, rfl, rfl⟩ rfl ?_
  refine v_aload_n C dX7_leastMargins_12 rfl ?_
  refine v_get C 0 dX7_leastMargins_13 wd2_17 F2.1.o rfl (by decide) ⟨rfl, rfl, rfl⟩ rfl ?_
  refine v_callVq C (c_X6_leastOverWays hl T F2.1.m (by omega) hhs) dX7_leastMargins_16 mX6_leastOverWays rfl T.o rfl wd3_84 rfl rfl (Nat.le_of_ble_eq_true rfl) (hp_rmle hRm (by decide) (by decide)) (Nat.le_of_ble_eq_true rfl) (Nat.le_of_ble_eq_true rfl) (fun r16 n16 h16 q16 => ?_)
  obtain ⟨e16, k16, tk1, bt1, T2, hb2, u16⟩ := q16
  have er := (tk_pre_res (tk := tk) (bt := bt) hpre rfl).1
  have z16 := Eq.symm k16
  have z16 : _ = n16 := z16
  subst z16
  exact v_iret C E dX7_leastMargins_19 rfl ⟨(congrArg rI (e16.trans er)).trans (if_pos c5).symm, F2.ut ⟨_, _, _, _, _, _, _, _, _, T2⟩ u16⟩
set_option maxHeartbeats 8000000 in
/-- leastMarginsBySets -/
theorem c_X7_leastMarginsBySets {G : hp_G} {l : Launch} (hl : l.stackTraces = false) {n0 : Nat} {h0 : Nat → Option va_E} {x L0 : Nat} {M : mk_T} {B : mk_T} {Z : mk_T} {mk : Nat → mk_T} {nx : Nat} {cnt : Nat} {t : Nat → Nat} {n : Nat} {lt : Nat → Nat} {ln : Nat} {hs : Int32} {ma : Int32} {fa : Int32} {rk : Nat → Option va_E} (E0 : Ex G h0 x L0 M B Z mk nx cnt t n lt ln hs ma fa rk) (hL : L0 ≤ n0) (i : Int32) : Ct G l yX7_leastMarginsBySets cX7_leastMarginsBySets 2 (some .int) 8 1 6 [.ref x, .int i] (n0, h0) (fun o τ => o = qa (pt_f M i = nI 0) (ex_cl (pt_f M i)) (rI (tk_rs M i.toNatClampNeg)) ∧ Fx G n0 h0 x L0 M B Z mk nx cnt t n lt ln hs ma fa rk τ.1 τ.2) := by
  have F0 := Fx.start E0 hL
  have hhz := E0.m.hz
  have htr := E0.m.tr
  have hct := E0.m.ct
  have hbase := E0.base
  have hl0 := E0.l0
  refine Ct.of rfl hl (by simp [Value.category]) (Nat.le_of_ble_eq_true rfl) (fun K C E hRm hKl => ?_)
  subst hKl
  refine v_aload_n C dX7_leastMarginsBySets_0 rfl ?_
  refine v_iload_n C dX7_leastMarginsBySets_1 rfl ?_
  refine v_callVq C (c_X7_prepareTakeOver hl E0 hL i) dX7_leastMarginsBySets_2 mX7_prepareTakeOver rfl F0.1.o rfl wd3_215 rfl rfl (Nat.le_of_ble_eq_true rfl) (hp_rmle hRm (by decide) (by decide)) (Nat.le_of_ble_eq_true rfl) (Nat.le_of_ble_eq_true rfl) (fun r2 n2 h2 q2 => ?_)
  obtain ⟨e2, F2, T2⟩ := q2
  subst e2
  refine v_callSx C (c_X7_raise hl (pt_f_in M i)) dX7_leastMarginsBySets_5 mX7_raise wd2_120 rfl rfl (Nat.le_of_ble_eq_true rfl) (hp_rmle hRm (by decide) (by decide)) (Nat.le_of_ble_eq_true rfl) (Nat.le_of_ble_eq_true rfl) (fun e5 t5 q5 => ?_) (fun v5 t5 q5 => ?_)
  · obtain ⟨n5, h5⟩ := t5
    obtain ⟨c5, z5, y5, x5⟩ := q5.resolve_left (fun z => by cases z.2.1)
    have x5 := Eq.symm x5
    cases z5
    subst x5
    exact v_xout C E ⟨(if_neg c5).symm, F2.up y5⟩
  obtain ⟨c5, z5, y5⟩ := q5.resolve_right (fun z => by cases z.2.1)
  cases z5
  subst y5
  obtain ⟨g1, g2, g3⟩ := pt_f_0 c5
  obtain ⟨sd, nd, af, hs1, ps, tk, bt, lf, ls, T, hpre⟩ := T2 g1 g2
  have hhs := tk_pre_hs hpre hhz
  refine v_aload_n C dX7_leastMarginsBySets_8 rfl ?_
  refine v_get C 5 dX7_leastMarginsBySets_9 wd2_22 F2.1.o rfl (by decide) ⟨rfl, rfl, rfl⟩ rfl ?_
  refine v_aload_n C dX7_leastMarginsBySets_12 rfl ?_
  refine v_get C 0 dX7_leastMarginsBySets_13 wd2_17 F2.1.o rfl (by decide) ⟨rfl, rfl, rfl⟩ rfl ?_
  refine v_callVq C (c_X6_leastOverSets hl T F2.1.m (by omega) hhs) dX7_leastMarginsBySets_16 mX6_leastOverSets rfl T.o rfl wd3_220 rfl rfl (Nat.le_of_ble_eq_true rfl) (hp_rmle hRm (by decide) (by decide)) (Nat.le_of_ble_eq_true rfl) (Nat.le_of_ble_eq_true rfl) (fun r16 n16 h16 q16 => ?_)
  obtain ⟨e16, k16, T2, u16⟩ := q16
  have er := tk_pre_sl (lf := lf) hpre hhz htr
  have z16 := Eq.symm k16
  have z16 : _ = n16 := z16
  subst z16
  exact v_iret C E dX7_leastMarginsBySets_19 rfl ⟨(congrArg rI (e16.trans er)).trans (if_pos c5).symm, F2.ut ⟨_, _, _, _, _, _, _, _, _, T2⟩ u16⟩
/-- what takerOf answers -/
def to_a (M : mk_T) (i j : Int32) : hp_O := if ¬ hp_num j (mk_hz M) then .inr xI else if ¬ pt_f M i = nI 0 then .inr (ex_cl (pt_f M i)) else if tk_on M i.toNatClampNeg j = -1 then .inr xN else rI (tk_on M i.toNatClampNeg j)
set_option maxHeartbeats 8000000 in
/-- takerOf -/
theorem c_X7_takerOf {G : hp_G} {l : Launch} (hl : l.stackTraces = false) {n0 : Nat} {h0 : Nat → Option va_E} {x L0 : Nat} {M : mk_T} {B : mk_T} {Z : mk_T} {mk : Nat → mk_T} {nx : Nat} {cnt : Nat} {t : Nat → Nat} {n : Nat} {lt : Nat → Nat} {ln : Nat} {hs : Int32} {ma : Int32} {fa : Int32} {rk : Nat → Option va_E} (E0 : Ex G h0 x L0 M B Z mk nx cnt t n lt ln hs ma fa rk) (hL : L0 ≤ n0) (hgood : tk_good M) (i j : Int32) : Ct G l yX7_takerOf cX7_takerOf 4 (some .int) 8 3 18 [.ref x, .int i, .int j] (n0, h0) (fun o τ => o = to_a M i j ∧ Fx G n0 h0 x L0 M B Z mk nx cnt t n lt ln hs ma fa rk τ.1 τ.2) := by
  have F0 := Fx.start E0 hL
  have hhz := E0.m.hz
  have htr := E0.m.tr
  have hct := E0.m.ct
  have hbase := E0.base
  have hl0 := E0.l0
  refine Ct.of rfl hl (by simp [Value.category]) (Nat.le_of_ble_eq_true rfl) (fun K C E hRm hKl => ?_)
  subst hKl
  refine v_iload_n C dX7_takerOf_0 rfl ?_
  refine v_aload_n C dX7_takerOf_1 rfl ?_
  refine v_get C 0 dX7_takerOf_2 wd2_17 F0.1.o rfl (by decide) ⟨rfl, rfl, rfl⟩ rfl ?_
  refine v_getN (v := .int (nI (mk_hz M))) C 0 dX7_takerOf_5 wd1_48 F0.1.m.o rfl (by decide) ⟨rfl, rfl, rfl⟩ rfl ?_
  refine v_callSx C (c_X7_needNumber hl j (mk_hz M)) dX7_takerOf_8 mX7_needNumber wd4_82 rfl rfl (Nat.le_of_ble_eq_true rfl) (hp_rmle hRm (by decide) (by decide)) (Nat.le_of_ble_eq_true rfl) (Nat.le_of_ble_eq_true rfl) (fun e8 t8 q8 => ?_) (fun v8 t8 q8 => ?_)
  · obtain ⟨n8, h8⟩ := t8
    obtain ⟨c8, z8, y8, x8⟩ := q8.resolve_left (fun z => by cases z.2.1)
    have x8 := Eq.symm x8
    cases z8
    subst x8
    exact v_xout C E ⟨(if_pos c8).symm, F0.up y8⟩
  obtain ⟨c8, z8, y8⟩ := q8.resolve_right (fun z => by cases z.2.1)
  cases z8
  subst y8
  refine v_aload_n C dX7_takerOf_11 rfl ?_
  refine v_iload_n C dX7_takerOf_12 rfl ?_
  refine v_callVq C (c_X7_prepareTakeOver hl E0 hL i) dX7_takerOf_13 mX7_prepareTakeOver rfl F0.1.o rfl wd3_215 rfl rfl (Nat.le_of_ble_eq_true rfl) (hp_rmle hRm (by decide) (by decide)) (Nat.le_of_ble_eq_true rfl) (Nat.le_of_ble_eq_true rfl) (fun r13 n13 h13 q13 => ?_)
  obtain ⟨e13, F13, T13⟩ := q13
  subst e13
  refine v_callSx C (c_X7_raise hl (pt_f_in M i)) dX7_takerOf_16 mX7_raise wd2_120 rfl rfl (Nat.le_of_ble_eq_true rfl) (hp_rmle hRm (by decide) (by decide)) (Nat.le_of_ble_eq_true rfl) (Nat.le_of_ble_eq_true rfl) (fun e16 t16 q16 => ?_) (fun v16 t16 q16 => ?_)
  · obtain ⟨n16, h16⟩ := t16
    obtain ⟨c16, z16, y16, x16⟩ := q16.resolve_left (fun z => by cases z.2.1)
    have x16 := Eq.symm x16
    cases z16
    subst x16
    exact v_xout C E ⟨by unfold to_a; rw [if_neg (fun z => z c8), if_pos c16], F13.up y16⟩
  obtain ⟨c16, z16, y16⟩ := q16.resolve_right (fun z => by cases z.2.1)
  cases z16
  subst y16
  obtain ⟨g1, g2, g3⟩ := pt_f_0 c16
  obtain ⟨sd, nd, af, hs1, ps, tk, bt, lf, ls, T, hpre⟩ := T13 g1 g2
  have hhs := tk_pre_hs hpre hhz
  refine v_aload_n C dX7_takerOf_19 rfl ?_
  refine v_get C 5 dX7_takerOf_20 wd2_22 F13.1.o rfl (by decide) ⟨rfl, rfl, rfl⟩ rfl ?_
  refine v_aload_n C dX7_takerOf_23 rfl ?_
  refine v_get C 0 dX7_takerOf_24 wd2_17 F13.1.o rfl (by decide) ⟨rfl, rfl, rfl⟩ rfl ?_
  refine v_callVq C (c_X6_leastOverWays hl T F13.1.m (by omega) hhs) dX7_takerOf_27 mX6_leastOverWays rfl T.o rfl wd3_84 rfl rfl (Nat.le_of_ble_eq_true rfl) (hp_rmle hRm (by decide) (by decide)) (Nat.le_of_ble_eq_true rfl) (Nat.le_of_ble_eq_true rfl) (fun r27 n27 h27 q27 => ?_)
  obtain ⟨e27, k27, tk1, bt1, T27, hb27, u27⟩ := q27
  have z27 := Eq.symm k27
  have z27 : _ = n27 := z27
  subst z27
  have F27 := F13.ut ⟨_, _, _, _, _, _, _, _, _, T27⟩ u27
  obtain ⟨d, hd, hid⟩ := hp_num_j g1 (by omega)
  have ed : i.toNatClampNeg = d := by rw [hid]; exact nI_clamp (by omega)
  have er := (tk_pre_res (tk := tk) (bt := bt) hpre rfl).2 (hgood _ (by rw [ed]; exact hd) g3)
  have eto : tk_to hs1 bt1 j nd 0 = tk_on M i.toNatClampNeg j := by
    obtain ⟨-, p2, p3, -⟩ := hpre
    unfold tk_on
    rw [← p2]
    refine tk_to_ae nd 0 (fun k hk => ⟨(p3 k (by rw [Nat.zero_add] at hk; rw [p2] at hk; exact hk)).1, (hb27 k (by omega)).trans (er k (by omega))⟩)
  refine v_pop C dX7_takerOf_30 rfl ?_
  refine v_aload_n C dX7_takerOf_31 rfl ?_
  refine v_get C 5 dX7_takerOf_32 wd2_22 F27.1.o rfl (by decide) ⟨rfl, rfl, rfl⟩ rfl ?_
  refine v_iload_n C dX7_takerOf_35 rfl ?_
  refine v_callVi C (c_X6_takerOn hl T27 j) dX7_takerOf_36 mX6_takerOn rfl T27.o rfl wd3_99 rfl rfl (Nat.le_of_ble_eq_true rfl) (hp_rmle hRm (by decide) (by decide)) (Nat.le_of_ble_eq_true rfl) (Nat.le_of_ble_eq_true rfl) ?_
  rw [eto]
  refine v_istore_n C dX7_takerOf_39 (by decide) ?_
  refine v_iload_n C dX7_takerOf_40 rfl ?_
  refine v_iconst (v := (-1)) C dX7_takerOf_41 (by decide) ?_
  refine v_icmp_ne (tgt := 55) C dX7_takerOf_42 (by decide) (fun c42 => ?_) (fun c42 => ?_)
  · refine v_iload_n C dX7_takerOf_55 rfl ?_
    exact v_iret C E dX7_takerOf_56 rfl ⟨by unfold to_a; rw [if_neg (fun z => z c8), if_neg (fun z => z c16), if_neg c42], F27⟩
  · exact v_throwX (cls := "java/util/NoSuchElementException") C E ["java/lang/Exception"] 4 (by decide) (by decide) wd4_218 wd1_24 rfl hp_taNSE hp_tbNSE dX7_takerOf_45 dX7_takerOf_48 dX7_takerOf_49 dX7_takerOf_51 dX7_takerOf_54 (by decide) (by rw [hRm]; exact ⟨by decide, by decide⟩) (by decide) (by decide) (by decide) (fun n' hn => ⟨by unfold to_a; rw [if_neg (fun z => z c8), if_neg (fun z => z c16), if_pos c42], F27.up hn⟩)
set_option maxHeartbeats 8000000 in
/-- traderByMoney -/
theorem c_X7_traderByMoney {G : hp_G} {l : Launch} (hl : l.stackTraces = false) {n0 : Nat} {h0 : Nat → Option va_E} {x L0 : Nat} {M : mk_T} {B : mk_T} {Z : mk_T} {mk : Nat → mk_T} {nx : Nat} {cnt : Nat} {t : Nat → Nat} {n : Nat} {lt : Nat → Nat} {ln : Nat} {hs : Int32} {ma : Int32} {fa : Int32} {rk : Nat → Option va_E} (E0 : Ex G h0 x L0 M B Z mk nx cnt t n lt ln hs ma fa rk) (hL : L0 ≤ n0) (i : Int32) : Ct G l yX7_traderByMoney cX7_traderByMoney 3 (some .int) 7 1 6 [.ref x, .int i] (n0, h0) (fun o τ => o = qa (¬ mk_rk M i (mk_tr M) 0 = -1) xN (rI (mk_rk M i (mk_tr M) 0)) ∧ Fx G n0 h0 x L0 M B Z mk nx cnt t n lt ln hs ma fa rk τ.1 τ.2) := by
  have F0 := Fx.start E0 hL
  have hhz := E0.m.hz
  have htr := E0.m.tr
  have hct := E0.m.ct
  have hbase := E0.base
  have hl0 := E0.l0
  refine Ct.of rfl hl (by simp [Value.category]) (Nat.le_of_ble_eq_true rfl) (fun K C E hRm hKl => ?_)
  subst hKl
  refine v_aload_n C dX7_traderByMoney_0 rfl ?_
  refine v_get C 0 dX7_traderByMoney_1 wd2_17 F0.1.o rfl (by decide) ⟨rfl, rfl, rfl⟩ rfl ?_
  refine v_iload_n C dX7_traderByMoney_4 rfl ?_
  refine v_callVi C (c_X4_traderAtRank hl E0.m i) dX7_traderByMoney_5 mX4_traderAtRank rfl F0.1.m.o rfl wd5_1 rfl rfl (Nat.le_of_ble_eq_true rfl) (hp_rmle hRm (by decide) (by decide)) (Nat.le_of_ble_eq_true rfl) (Nat.le_of_ble_eq_true rfl) ?_
  refine v_istore_n C dX7_traderByMoney_8 (by decide) ?_
  refine v_iload_n C dX7_traderByMoney_9 rfl ?_
  refine v_iconst (v := (-1)) C dX7_traderByMoney_10 (by decide) ?_
  refine v_icmp_ne (tgt := 24) C dX7_traderByMoney_11 (by decide) (fun c11 => ?_) (fun c11 => ?_)
  · refine v_iload_n C dX7_traderByMoney_24 rfl ?_
    exact v_iret C E dX7_traderByMoney_25 rfl ⟨(if_pos c11).symm, F0⟩
  · exact v_throwX (cls := "java/util/NoSuchElementException") C E ["java/lang/Exception"] 5 (by decide) (by decide) wd4_218 wd1_24 rfl hp_taNSE hp_tbNSE dX7_traderByMoney_14 dX7_traderByMoney_17 dX7_traderByMoney_18 dX7_traderByMoney_20 dX7_traderByMoney_23 (by decide) (by rw [hRm]; exact ⟨by decide, by decide⟩) (by decide) (by decide) (by decide) (fun n' hn => ⟨(if_neg (fun z => z c11)).symm, F0.up hn⟩)
set_option maxHeartbeats 8000000 in
/-- errorPosition -/
theorem c_X7_errorPosition {G : hp_G} {l : Launch} (hl : l.stackTraces = false) {n0 : Nat} {h0 : Nat → Option va_E} {x L0 : Nat} {M : mk_T} {B : mk_T} {Z : mk_T} {mk : Nat → mk_T} {nx : Nat} {cnt : Nat} {t : Nat → Nat} {n : Nat} {lt : Nat → Nat} {ln : Nat} {hs : Int32} {ma : Int32} {fa : Int32} {rk : Nat → Option va_E} (E0 : Ex G h0 x L0 M B Z mk nx cnt t n lt ln hs ma fa rk) (hL : L0 ≤ n0)  : Ct G l yX7_errorPosition cX7_errorPosition 1 (some .int) 7 1 6 [.ref x] (n0, h0) (fun o τ => o = qa (¬ ma = -1) xN (rI ma) ∧ Fx G n0 h0 x L0 M B Z mk nx cnt t n lt ln hs ma fa rk τ.1 τ.2) := by
  have F0 := Fx.start E0 hL
  have hhz := E0.m.hz
  have htr := E0.m.tr
  have hct := E0.m.ct
  have hbase := E0.base
  have hl0 := E0.l0
  refine Ct.of rfl hl (by simp [Value.category]) (Nat.le_of_ble_eq_true rfl) (fun K C E hRm hKl => ?_)
  subst hKl
  refine v_aload_n C dX7_errorPosition_0 rfl ?_
  refine v_get C 10 dX7_errorPosition_1 wd2_27 F0.1.o rfl (by decide) ⟨rfl, rfl, rfl⟩ rfl ?_
  refine v_iconst (v := (-1)) C dX7_errorPosition_4 (by decide) ?_
  refine v_icmp_ne (tgt := 19) C dX7_errorPosition_5 (by decide) (fun c5 => ?_) (fun c5 => ?_)
  · refine v_aload_n C dX7_errorPosition_19 rfl ?_
    refine v_get C 10 dX7_errorPosition_20 wd2_27 F0.1.o rfl (by decide) ⟨rfl, rfl, rfl⟩ rfl ?_
    exact v_iret C E dX7_errorPosition_23 rfl ⟨(if_pos c5).symm, F0⟩
  · exact v_throwXW (cls := "java/util/NoSuchElementException") C E ["java/lang/Exception"] 31 (by decide) (by decide) wd4_218 wd1_24 rfl hp_taNSE hp_tbNSE dX7_errorPosition_8 dX7_errorPosition_11 dX7_errorPosition_12 dX7_errorPosition_15 dX7_errorPosition_18 (by decide) (by rw [hRm]; exact ⟨by decide, by decide⟩) (by decide) (by decide) (by decide) (fun n' hn => ⟨(if_neg (fun z => z c5)).symm, F0.up hn⟩)
set_option maxHeartbeats 8000000 in
/-- failedCommand -/
theorem c_X7_failedCommand {G : hp_G} {l : Launch} (hl : l.stackTraces = false) {n0 : Nat} {h0 : Nat → Option va_E} {x L0 : Nat} {M : mk_T} {B : mk_T} {Z : mk_T} {mk : Nat → mk_T} {nx : Nat} {cnt : Nat} {t : Nat → Nat} {n : Nat} {lt : Nat → Nat} {ln : Nat} {hs : Int32} {ma : Int32} {fa : Int32} {rk : Nat → Option va_E} (E0 : Ex G h0 x L0 M B Z mk nx cnt t n lt ln hs ma fa rk) (hL : L0 ≤ n0)  : Ct G l yX7_failedCommand cX7_failedCommand 1 (some .int) 7 1 6 [.ref x] (n0, h0) (fun o τ => o = qa (¬ fa = -1) xN (rI fa) ∧ Fx G n0 h0 x L0 M B Z mk nx cnt t n lt ln hs ma fa rk τ.1 τ.2) := by
  have F0 := Fx.start E0 hL
  have hhz := E0.m.hz
  have htr := E0.m.tr
  have hct := E0.m.ct
  have hbase := E0.base
  have hl0 := E0.l0
  refine Ct.of rfl hl (by simp [Value.category]) (Nat.le_of_ble_eq_true rfl) (fun K C E hRm hKl => ?_)
  subst hKl
  refine v_aload_n C dX7_failedCommand_0 rfl ?_
  refine v_get C 11 dX7_failedCommand_1 wd2_28 F0.1.o rfl (by decide) ⟨rfl, rfl, rfl⟩ rfl ?_
  refine v_iconst (v := (-1)) C dX7_failedCommand_4 (by decide) ?_
  refine v_icmp_ne (tgt := 19) C dX7_failedCommand_5 (by decide) (fun c5 => ?_) (fun c5 => ?_)
  · refine v_aload_n C dX7_failedCommand_19 rfl ?_
    refine v_get C 11 dX7_failedCommand_20 wd2_28 F0.1.o rfl (by decide) ⟨rfl, rfl, rfl⟩ rfl ?_
    exact v_iret C E dX7_failedCommand_23 rfl ⟨(if_pos c5).symm, F0⟩
  · exact v_throwXW (cls := "java/util/NoSuchElementException") C E ["java/lang/Exception"] 32 (by decide) (by decide) wd4_218 wd1_24 rfl hp_taNSE hp_tbNSE dX7_failedCommand_8 dX7_failedCommand_11 dX7_failedCommand_12 dX7_failedCommand_15 dX7_failedCommand_18 (by decide) (by rw [hRm]; exact ⟨by decide, by decide⟩) (by decide) (by decide) (by decide) (fun n' hn => ⟨(if_neg (fun z => z c5)).symm, F0.up hn⟩)
def un_a (cnt : Nat) : hp_O := if cnt = 0 then .inr xS else rI (nI (cnt - 1))
def un_M (M : mk_T) (mk : Nat → mk_T) (nx cnt : Nat) : mk_T := if cnt = 0 then M else mk ((nx + 7) % 8)
def un_X (nx cnt : Nat) : Nat := if cnt = 0 then nx else (nx + 7) % 8
def un_C (cnt : Nat) : Nat := if cnt = 0 then cnt else cnt - 1
set_option maxHeartbeats 8000000 in
/-- undo -/
theorem c_X7_undo {G : hp_G} {l : Launch} (hl : l.stackTraces = false) {n0 : Nat} {h0 : Nat → Option va_E} {x L0 : Nat} {M : mk_T} {B : mk_T} {Z : mk_T} {mk : Nat → mk_T} {nx : Nat} {cnt : Nat} {t : Nat → Nat} {n : Nat} {lt : Nat → Nat} {ln : Nat} {hs : Int32} {ma : Int32} {fa : Int32} {rk : Nat → Option va_E} (E0 : Ex G h0 x L0 M B Z mk nx cnt t n lt ln hs ma fa rk) (hL : L0 ≤ n0)  : Ct G l yX7_undo cX7_undo 1 (some .int) 7 1 6 [.ref x] (n0, h0) (fun o τ => o = un_a cnt ∧ Fx G n0 h0 x L0 (un_M M mk nx cnt) B Z mk (un_X nx cnt) (un_C cnt) t n lt ln hs ma fa rk τ.1 τ.2) := by
  have F0 := Fx.start E0 hL
  have hhz := E0.m.hz
  have htr := E0.m.tr
  have hct := E0.m.ct
  have hbase := E0.base
  have hl0 := E0.l0
  have hct8 := E0.hh.bct
  refine Ct.of rfl hl (by simp [Value.category]) (Nat.le_of_ble_eq_true rfl) (fun K C E hRm hKl => ?_)
  subst hKl
  refine v_aload_n C dX7_undo_0 rfl ?_
  refine v_get C 3 dX7_undo_1 wd2_20 F0.1.o rfl (by decide) ⟨rfl, rfl, rfl⟩ rfl ?_
  refine v_getN C 2 dX7_undo_4 wd1_137 F0.1.hh.o rfl (by decide) ⟨rfl, rfl, rfl⟩ rfl ?_
  refine v_if_ne (tgt := 21) C dX7_undo_7 (by decide) (fun c7 => ?_) (fun c7 => ?_)
  · have c7n : ¬ cnt = 0 := fun z => c7 (by rw [z]; rfl)
    refine v_aload_n C dX7_undo_21 rfl ?_
    refine v_get C 3 dX7_undo_22 wd2_20 F0.1.o rfl (by decide) ⟨rfl, rfl, rfl⟩ rfl ?_
    refine v_aload_n C dX7_undo_25 rfl ?_
    refine v_get C 0 dX7_undo_26 wd2_17 F0.1.o rfl (by decide) ⟨rfl, rfl, rfl⟩ rfl ?_
    refine v_callVv C (c_X3_takeBack hl E0.hh E0.m (by omega) (by omega)) dX7_undo_29 mX3_takeBack rfl F0.1.hh.o rfl wd6_219 rfl rfl (Nat.le_of_ble_eq_true rfl) (hp_rmle hRm (by decide) (by decide)) (Nat.le_of_ble_eq_true rfl) (Nat.le_of_ble_eq_true rfl) (fun n29 h29 q29 => ?_)
    obtain ⟨k29, p29, hp29, H29, M29, u29⟩ := q29
    have z29 := Eq.symm k29
    have z29 : n0 = n29 := z29
    subst z29
    subst hp29
    have F29 := F0.uhm H29 M29 u29
    refine v_aload_n C dX7_undo_32 rfl ?_
    refine v_get C 3 dX7_undo_33 wd2_20 F29.1.o rfl (by decide) ⟨rfl, rfl, rfl⟩ rfl ?_
    refine v_getN C 2 dX7_undo_36 wd1_137 F29.1.hh.o rfl (by decide) ⟨rfl, rfl, rfl⟩ rfl ?_
    exact v_iret C E dX7_undo_39 rfl ⟨by unfold un_a; rw [if_neg c7n], by unfold un_M un_X un_C; rw [if_neg c7n, if_neg c7n, if_neg c7n]; exact F29⟩
  · have c7n : cnt = 0 := (nI_eq (b := 0) (by omega) (by decide)).mp c7
    exact v_throwW (cls := "java/lang/IllegalStateException") C E ["java/lang/RuntimeException", "java/lang/Exception"] 33 (by decide) (by decide) wd2_211 wd1_18 rfl hp_taISE hp_tbISE dX7_undo_10 dX7_undo_13 dX7_undo_14 dX7_undo_17 dX7_undo_20 (by decide) (by rw [hRm]; exact ⟨by decide, by decide⟩) (by decide) (by decide) (by decide) (fun n' hn => ⟨by unfold un_a; rw [if_pos c7n], by unfold un_M un_X un_C; rw [if_pos c7n, if_pos c7n, if_pos c7n]; exact F0.up hn⟩)
set_option maxHeartbeats 8000000 in
/-- save -/
theorem c_X7_save {G : hp_G} {l : Launch} (hl : l.stackTraces = false) {n0 : Nat} {h0 : Nat → Option va_E} {x L0 : Nat} {M : mk_T} {B : mk_T} {Z : mk_T} {mk : Nat → mk_T} {nx : Nat} {cnt : Nat} {t : Nat → Nat} {n : Nat} {lt : Nat → Nat} {ln : Nat} {hs : Int32} {ma : Int32} {fa : Int32} {rk : Nat → Option va_E} (E0 : Ex G h0 x L0 M B Z mk nx cnt t n lt ln hs ma fa rk) (hL : L0 ≤ n0)  : Ct G l yX7_save cX7_save 1 (some .int) 2 0 0 [.ref x] (n0, h0) (fun o τ => o = rI (nI (mk_ct M)) ∧ Fx G n0 h0 x L0 M B M mk nx cnt t n lt ln (nI 1) ma fa rk τ.1 τ.2) := by
  have F0 := Fx.start E0 hL
  have hhz := E0.m.hz
  have htr := E0.m.tr
  have hct := E0.m.ct
  have hbase := E0.base
  have hl0 := E0.l0
  refine Ct.of rfl hl (by simp [Value.category]) (Nat.le_of_ble_eq_true rfl) (fun K C E hRm hKl => ?_)
  subst hKl
  refine v_aload_n C dX7_save_0 rfl ?_
  refine v_get C 2 dX7_save_1 wd2_19 F0.1.o rfl (by decide) ⟨rfl, rfl, rfl⟩ rfl ?_
  refine v_aload_n C dX7_save_4 rfl ?_
  refine v_get C 0 dX7_save_5 wd2_17 F0.1.o rfl (by decide) ⟨rfl, rfl, rfl⟩ rfl ?_
  refine v_callVv C (c_X4_copyFrom hl E0.z E0.m (by omega)) dX7_save_8 mX4_copyFrom rfl F0.1.z.o rfl wd4_1 rfl rfl (Nat.le_of_ble_eq_true rfl) (hp_rmle hRm (by decide) (by decide)) (Nat.le_of_ble_eq_true rfl) (Nat.le_of_ble_eq_true rfl) (fun n8 h8 q8 => ?_)
  obtain ⟨k8, Z8, u8⟩ := q8
  have z8 := Eq.symm k8
  have z8 : n0 = n8 := z8
  subst z8
  have F8 := F0.uz Z8 u8
  refine v_aload_n C dX7_save_11 rfl ?_
  refine v_iconst (v := nI 1) C dX7_save_12 (by decide) ?_
  refine v_put C 9 dX7_save_13 wd2_26 hbase F8.1.o rfl (by decide) ⟨rfl, rfl, rfl, rfl⟩ rfl rfl rfl (Nat.le_of_ble_eq_true rfl) (fun h13 e13 g13 => ?_)
  have F13 := F8.uo (hs1 := nI 1) (ma1 := ma) (fa1 := fa) e13 (fun a ha => g13 a (by omega))
  refine v_aload_n C dX7_save_16 rfl ?_
  refine v_get C 0 dX7_save_17 wd2_17 F13.1.o rfl (by decide) ⟨rfl, rfl, rfl⟩ rfl ?_
  refine v_getN (v := .int (nI (mk_ct M))) C 7 dX7_save_20 wd1_66 F13.1.m.o rfl (by decide) ⟨rfl, rfl, rfl⟩ rfl ?_
  exact v_iret C E dX7_save_23 rfl ⟨rfl, F13⟩
def re_M (hs : Int32) (M Z : mk_T) : mk_T := if hs = 0 then M else Z
def re_C (hs : Int32) (cnt : Nat) : Nat := if hs = 0 then cnt else 0
set_option maxHeartbeats 8000000 in
/-- restore -/
theorem c_X7_restore {G : hp_G} {l : Launch} (hl : l.stackTraces = false) {n0 : Nat} {h0 : Nat → Option va_E} {x L0 : Nat} {M : mk_T} {B : mk_T} {Z : mk_T} {mk : Nat → mk_T} {nx : Nat} {cnt : Nat} {t : Nat → Nat} {n : Nat} {lt : Nat → Nat} {ln : Nat} {hs : Int32} {ma : Int32} {fa : Int32} {rk : Nat → Option va_E} (E0 : Ex G h0 x L0 M B Z mk nx cnt t n lt ln hs ma fa rk) (hL : L0 ≤ n0)  : Ct G l yX7_restore cX7_restore 1 (some .int) 7 1 6 [.ref x] (n0, h0) (fun o τ => o = qa (¬ hs = 0) xS (rI (nI (mk_ct Z))) ∧ Fx G n0 h0 x L0 (re_M hs M Z) B Z mk nx (re_C hs cnt) t n lt ln hs ma fa rk τ.1 τ.2) := by
  have F0 := Fx.start E0 hL
  have hhz := E0.m.hz
  have htr := E0.m.tr
  have hct := E0.m.ct
  have hbase := E0.base
  have hl0 := E0.l0
  refine Ct.of rfl hl (by simp [Value.category]) (Nat.le_of_ble_eq_true rfl) (fun K C E hRm hKl => ?_)
  subst hKl
  refine v_aload_n C dX7_restore_0 rfl ?_
  refine v_get C 9 dX7_restore_1 wd2_26 F0.1.o rfl (by decide) ⟨rfl, rfl, rfl⟩ rfl ?_
  refine v_if_ne (tgt := 18) C dX7_restore_4 (by decide) (fun c4 => ?_) (fun c4 => ?_)
  · refine v_aload_n C dX7_restore_18 rfl ?_
    refine v_get C 0 dX7_restore_19 wd2_17 F0.1.o rfl (by decide) ⟨rfl, rfl, rfl⟩ rfl ?_
    refine v_aload_n C dX7_restore_22 rfl ?_
    refine v_get C 2 dX7_restore_23 wd2_19 F0.1.o rfl (by decide) ⟨rfl, rfl, rfl⟩ rfl ?_
    refine v_callVv C (c_X4_copyFrom hl E0.m E0.z (by omega)) dX7_restore_26 mX4_copyFrom rfl F0.1.m.o rfl wd4_1 rfl rfl (Nat.le_of_ble_eq_true rfl) (hp_rmle hRm (by decide) (by decide)) (Nat.le_of_ble_eq_true rfl) (Nat.le_of_ble_eq_true rfl) (fun n26 h26 q26 => ?_)
    obtain ⟨k26, M26, u26⟩ := q26
    have z26 := Eq.symm k26
    have z26 : n0 = n26 := z26
    subst z26
    have F26 := F0.um M26 u26
    refine v_aload_n C dX7_restore_29 rfl ?_
    refine v_get C 3 dX7_restore_30 wd2_20 F26.1.o rfl (by decide) ⟨rfl, rfl, rfl⟩ rfl ?_
    refine v_iconst (v := nI 0) C dX7_restore_33 (by decide) ?_
    refine v_putN C 2 dX7_restore_34 wd1_137 (by omega) F26.1.hh.o rfl (by decide) ⟨rfl, rfl, rfl, rfl⟩ rfl rfl rfl (Nat.le_of_ble_eq_true rfl) (fun h34 e34 g34 => ?_)
    have F34 := F26.uh (F26.1.hh.p_cnt (x0 := 0) e34 g34 (by decide)) (fun a ha => g34 a (by omega))
    refine v_aload_n C dX7_restore_37 rfl ?_
    refine v_get C 0 dX7_restore_38 wd2_17 F34.1.o rfl (by decide) ⟨rfl, rfl, rfl⟩ rfl ?_
    refine v_getN (v := .int (nI (mk_ct Z))) C 7 dX7_restore_41 wd1_66 F34.1.m.o rfl (by decide) ⟨rfl, rfl, rfl⟩ rfl ?_
    exact v_iret C E dX7_restore_44 rfl ⟨(if_pos c4).symm, by unfold re_M re_C; rw [if_neg c4, if_neg c4]; exact F34⟩
  · exact v_throwW (cls := "java/lang/IllegalStateException") C E ["java/lang/RuntimeException", "java/lang/Exception"] 34 (by decide) (by decide) wd2_211 wd1_18 rfl hp_taISE hp_tbISE dX7_restore_7 dX7_restore_10 dX7_restore_11 dX7_restore_14 dX7_restore_17 (by decide) (by rw [hRm]; exact ⟨by decide, by decide⟩) (by decide) (by decide) (by decide) (fun n' hn => ⟨(if_neg (fun z => z c4)).symm, by unfold re_M re_C; rw [if_pos c4, if_pos c4]; exact F0.up hn⟩)
set_option maxHeartbeats 8000000 in
/-- lineAt -/
theorem c_X7_lineAt {G : hp_G} {l : Launch} (hl : l.stackTraces = false) {n0 : Nat} {h0 : Nat → Option va_E} {x L0 : Nat} {M : mk_T} {B : mk_T} {Z : mk_T} {mk : Nat → mk_T} {nx : Nat} {cnt : Nat} {t : Nat → Nat} {n : Nat} {lt : Nat → Nat} {ln : Nat} {hs : Int32} {ma : Int32} {fa : Int32} {rk : Nat → Option va_E} (E0 : Ex G h0 x L0 M B Z mk nx cnt t n lt ln hs ma fa rk) (hL : L0 ≤ n0) (i : Int32) : Ct G l yX7_lineAt cX7_lineAt 2 (some .char) 8 1 6 [.ref x, .int i] (n0, h0) (fun o τ => o = qa (hp_num i ln) xI (rI (nI (lt i.toNatClampNeg))) ∧ Fx G n0 h0 x L0 M B Z mk nx cnt t n lt ln hs ma fa rk τ.1 τ.2) := by
  have F0 := Fx.start E0 hL
  have hhz := E0.m.hz
  have htr := E0.m.tr
  have hct := E0.m.ct
  have hbase := E0.base
  have hl0 := E0.l0
  obtain ⟨vt, mlt, mt, vl, mll, m2, ST, SL, z3, z4, z5⟩ := E0.sb
  have hln1 := SL.2.2.1
  have hln2 := SL.2.2.2.1
  refine Ct.of rfl hl (by simp [Value.category]) (Nat.le_of_ble_eq_true rfl) (fun K C E hRm hKl => ?_)
  subst hKl
  refine v_iload_n C dX7_lineAt_0 rfl ?_
  refine v_aload_n C dX7_lineAt_1 rfl ?_
  refine v_get C 8 dX7_lineAt_2 wd2_25 F0.1.o rfl (by decide) ⟨rfl, rfl, rfl⟩ rfl ?_
  refine v_callVi C (c_J4_length_8abf5 hl SL.1) dX7_lineAt_5 mJ4_length_8abf5 rfl SL.1 rfl wd6_78 rfl rfl (Nat.le_of_ble_eq_true rfl) (hp_rmle hRm (by decide) (by decide)) (Nat.le_of_ble_eq_true rfl) (Nat.le_of_ble_eq_true rfl) ?_
  refine v_callSx C (c_X7_needNumber hl i ln) dX7_lineAt_8 mX7_needNumber wd4_82 rfl rfl (Nat.le_of_ble_eq_true rfl) (hp_rmle hRm (by decide) (by decide)) (Nat.le_of_ble_eq_true rfl) (Nat.le_of_ble_eq_true rfl) (fun e8 t8 q8 => ?_) (fun v8 t8 q8 => ?_)
  · obtain ⟨n8, h8⟩ := t8
    obtain ⟨c8, z8, y8, x8⟩ := q8.resolve_left (fun z => by cases z.2.1)
    have x8 := Eq.symm x8
    cases z8
    subst x8
    exact v_xout C E ⟨(if_neg c8).symm, F0.up y8⟩
  obtain ⟨c8, z8, y8⟩ := q8.resolve_right (fun z => by cases z.2.1)
  cases z8
  subst y8
  refine v_aload_n C dX7_lineAt_11 rfl ?_
  refine v_get C 8 dX7_lineAt_12 wd2_25 F0.1.o rfl (by decide) ⟨rfl, rfl, rfl⟩ rfl ?_
  refine v_iload_n C dX7_lineAt_15 rfl ?_
  obtain ⟨j, hj, rfl⟩ := hp_num_j c8 (by omega)
  have ed : (nI j).toNatClampNeg = j := nI_clamp (by omega)
  refine v_callVi C (c_J4_charAt_5068e hl SL hj) dX7_lineAt_16 mJ4_charAt_5068e rfl SL.1 rfl wd6_93 rfl rfl (Nat.le_of_ble_eq_true rfl) (hp_rmle hRm (by decide) (by decide)) (Nat.le_of_ble_eq_true rfl) (Nat.le_of_ble_eq_true rfl) ?_
  exact v_zret C E dX7_lineAt_19 rfl (sx_nar _ ((SL.2.1.choose_spec.2.1) _ hj).1) ⟨by rw [ed]; exact (if_pos c8).symm, F0⟩

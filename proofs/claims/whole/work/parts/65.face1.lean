/-! ===== THE CLASS: what is asked of the market ===== -/
def qa (c : Prop) [Decidable c] (E : String) (v : hp_O) : hp_O := if c then v else .inr E
abbrev rI (v : Int32) : hp_O := .inl (some (.int v))
abbrev xI : String := "java/lang/IndexOutOfBoundsException"
theorem vp_in_num {i : Int32} {N z : Nat} (h : hp_num i N) (hN : N ≤ z) (hz : z ≤ 65536) : vp_in i z := by
  obtain ⟨j, hj, rfl⟩ := hp_num_j h (by omega)
  exact vp_in_nI (by omega) (by omega)
set_option maxHeartbeats 8000000 in
/-- horizonCount -/
theorem c_X7_horizonCount {G : hp_G} {l : Launch} (hl : l.stackTraces = false) {n0 : Nat} {h0 : Nat → Option va_E} {x L0 : Nat} {M : mk_T} {B : mk_T} {Z : mk_T} {mk : Nat → mk_T} {nx : Nat} {cnt : Nat} {t : Nat → Nat} {n : Nat} {lt : Nat → Nat} {ln : Nat} {hs : Int32} {ma : Int32} {fa : Int32} {rk : Nat → Option va_E} (E0 : Ex G h0 x L0 M B Z mk nx cnt t n lt ln hs ma fa rk) (hL : L0 ≤ n0)  : Ct G l yX7_horizonCount cX7_horizonCount 1 (some .int) 0 0 0 [.ref x] (n0, h0) (fun o τ => o = rI (nI (mk_hz M)) ∧ Fx G n0 h0 x L0 M B Z mk nx cnt t n lt ln hs ma fa rk τ.1 τ.2) := by
  have F0 := Fx.start E0 hL
  have hhz := E0.m.hz
  have htr := E0.m.tr
  have hct := E0.m.ct
  have hbase := E0.base
  have hl0 := E0.l0
  refine Ct.of rfl hl (by simp [Value.category]) (Nat.le_of_ble_eq_true rfl) (fun K C E hRm hKl => ?_)
  subst hKl
  refine v_aload_n C dX7_horizonCount_0 rfl ?_
  refine v_get C 0 dX7_horizonCount_1 wd2_17 F0.1.o rfl (by decide) ⟨rfl, rfl, rfl⟩ rfl ?_
  refine v_getN (v := .int (nI (mk_hz M))) C 0 dX7_horizonCount_4 wd1_48 F0.1.m.o rfl (by decide) ⟨rfl, rfl, rfl⟩ rfl ?_
  exact v_iret C E dX7_horizonCount_7 rfl ⟨rfl, F0⟩
set_option maxHeartbeats 8000000 in
/-- traderCount -/
theorem c_X7_traderCount {G : hp_G} {l : Launch} (hl : l.stackTraces = false) {n0 : Nat} {h0 : Nat → Option va_E} {x L0 : Nat} {M : mk_T} {B : mk_T} {Z : mk_T} {mk : Nat → mk_T} {nx : Nat} {cnt : Nat} {t : Nat → Nat} {n : Nat} {lt : Nat → Nat} {ln : Nat} {hs : Int32} {ma : Int32} {fa : Int32} {rk : Nat → Option va_E} (E0 : Ex G h0 x L0 M B Z mk nx cnt t n lt ln hs ma fa rk) (hL : L0 ≤ n0)  : Ct G l yX7_traderCount cX7_traderCount 1 (some .int) 0 0 0 [.ref x] (n0, h0) (fun o τ => o = rI (nI (mk_tr M)) ∧ Fx G n0 h0 x L0 M B Z mk nx cnt t n lt ln hs ma fa rk τ.1 τ.2) := by
  have F0 := Fx.start E0 hL
  have hhz := E0.m.hz
  have htr := E0.m.tr
  have hct := E0.m.ct
  have hbase := E0.base
  have hl0 := E0.l0
  refine Ct.of rfl hl (by simp [Value.category]) (Nat.le_of_ble_eq_true rfl) (fun K C E hRm hKl => ?_)
  subst hKl
  refine v_aload_n C dX7_traderCount_0 rfl ?_
  refine v_get C 0 dX7_traderCount_1 wd2_17 F0.1.o rfl (by decide) ⟨rfl, rfl, rfl⟩ rfl ?_
  refine v_getN (v := .int (nI (mk_tr M))) C 4 dX7_traderCount_4 wd1_59 F0.1.m.o rfl (by decide) ⟨rfl, rfl, rfl⟩ rfl ?_
  exact v_iret C E dX7_traderCount_7 rfl ⟨rfl, F0⟩
set_option maxHeartbeats 8000000 in
/-- contractCount -/
theorem c_X7_contractCount {G : hp_G} {l : Launch} (hl : l.stackTraces = false) {n0 : Nat} {h0 : Nat → Option va_E} {x L0 : Nat} {M : mk_T} {B : mk_T} {Z : mk_T} {mk : Nat → mk_T} {nx : Nat} {cnt : Nat} {t : Nat → Nat} {n : Nat} {lt : Nat → Nat} {ln : Nat} {hs : Int32} {ma : Int32} {fa : Int32} {rk : Nat → Option va_E} (E0 : Ex G h0 x L0 M B Z mk nx cnt t n lt ln hs ma fa rk) (hL : L0 ≤ n0)  : Ct G l yX7_contractCount cX7_contractCount 1 (some .int) 0 0 0 [.ref x] (n0, h0) (fun o τ => o = rI (nI (mk_ct M)) ∧ Fx G n0 h0 x L0 M B Z mk nx cnt t n lt ln hs ma fa rk τ.1 τ.2) := by
  have F0 := Fx.start E0 hL
  have hhz := E0.m.hz
  have htr := E0.m.tr
  have hct := E0.m.ct
  have hbase := E0.base
  have hl0 := E0.l0
  refine Ct.of rfl hl (by simp [Value.category]) (Nat.le_of_ble_eq_true rfl) (fun K C E hRm hKl => ?_)
  subst hKl
  refine v_aload_n C dX7_contractCount_0 rfl ?_
  refine v_get C 0 dX7_contractCount_1 wd2_17 F0.1.o rfl (by decide) ⟨rfl, rfl, rfl⟩ rfl ?_
  refine v_getN (v := .int (nI (mk_ct M))) C 7 dX7_contractCount_4 wd1_66 F0.1.m.o rfl (by decide) ⟨rfl, rfl, rfl⟩ rfl ?_
  exact v_iret C E dX7_contractCount_7 rfl ⟨rfl, F0⟩
set_option maxHeartbeats 8000000 in
/-- fund -/
theorem c_X7_fund {G : hp_G} {l : Launch} (hl : l.stackTraces = false) {n0 : Nat} {h0 : Nat → Option va_E} {x L0 : Nat} {M : mk_T} {B : mk_T} {Z : mk_T} {mk : Nat → mk_T} {nx : Nat} {cnt : Nat} {t : Nat → Nat} {n : Nat} {lt : Nat → Nat} {ln : Nat} {hs : Int32} {ma : Int32} {fa : Int32} {rk : Nat → Option va_E} (E0 : Ex G h0 x L0 M B Z mk nx cnt t n lt ln hs ma fa rk) (hL : L0 ≤ n0)  : Ct G l yX7_fund cX7_fund 1 (some .int) 0 0 0 [.ref x] (n0, h0) (fun o τ => o = rI (M.2.2.1.2.1) ∧ Fx G n0 h0 x L0 M B Z mk nx cnt t n lt ln hs ma fa rk τ.1 τ.2) := by
  have F0 := Fx.start E0 hL
  have hhz := E0.m.hz
  have htr := E0.m.tr
  have hct := E0.m.ct
  have hbase := E0.base
  have hl0 := E0.l0
  refine Ct.of rfl hl (by simp [Value.category]) (Nat.le_of_ble_eq_true rfl) (fun K C E hRm hKl => ?_)
  subst hKl
  refine v_aload_n C dX7_fund_0 rfl ?_
  refine v_get C 0 dX7_fund_1 wd2_17 F0.1.o rfl (by decide) ⟨rfl, rfl, rfl⟩ rfl ?_
  refine v_getN C 14 dX7_fund_4 wd1_80 F0.1.m.o rfl (by decide) ⟨rfl, rfl, rfl⟩ rfl ?_
  exact v_iret C E dX7_fund_7 rfl ⟨rfl, F0⟩
set_option maxHeartbeats 8000000 in
/-- writtenOff -/
theorem c_X7_writtenOff {G : hp_G} {l : Launch} (hl : l.stackTraces = false) {n0 : Nat} {h0 : Nat → Option va_E} {x L0 : Nat} {M : mk_T} {B : mk_T} {Z : mk_T} {mk : Nat → mk_T} {nx : Nat} {cnt : Nat} {t : Nat → Nat} {n : Nat} {lt : Nat → Nat} {ln : Nat} {hs : Int32} {ma : Int32} {fa : Int32} {rk : Nat → Option va_E} (E0 : Ex G h0 x L0 M B Z mk nx cnt t n lt ln hs ma fa rk) (hL : L0 ≤ n0)  : Ct G l yX7_writtenOff cX7_writtenOff 1 (some .int) 0 0 0 [.ref x] (n0, h0) (fun o τ => o = rI (M.2.2.1.2.2) ∧ Fx G n0 h0 x L0 M B Z mk nx cnt t n lt ln hs ma fa rk τ.1 τ.2) := by
  have F0 := Fx.start E0 hL
  have hhz := E0.m.hz
  have htr := E0.m.tr
  have hct := E0.m.ct
  have hbase := E0.base
  have hl0 := E0.l0
  refine Ct.of rfl hl (by simp [Value.category]) (Nat.le_of_ble_eq_true rfl) (fun K C E hRm hKl => ?_)
  subst hKl
  refine v_aload_n C dX7_writtenOff_0 rfl ?_
  refine v_get C 0 dX7_writtenOff_1 wd2_17 F0.1.o rfl (by decide) ⟨rfl, rfl, rfl⟩ rfl ?_
  refine v_getN C 15 dX7_writtenOff_4 wd1_82 F0.1.m.o rfl (by decide) ⟨rfl, rfl, rfl⟩ rfl ?_
  exact v_iret C E dX7_writtenOff_7 rfl ⟨rfl, F0⟩
set_option maxHeartbeats 8000000 in
/-- dayCount -/
theorem c_X7_dayCount {G : hp_G} {l : Launch} (hl : l.stackTraces = false) {n0 : Nat} {h0 : Nat → Option va_E} {x L0 : Nat} {M : mk_T} {B : mk_T} {Z : mk_T} {mk : Nat → mk_T} {nx : Nat} {cnt : Nat} {t : Nat → Nat} {n : Nat} {lt : Nat → Nat} {ln : Nat} {hs : Int32} {ma : Int32} {fa : Int32} {rk : Nat → Option va_E} (E0 : Ex G h0 x L0 M B Z mk nx cnt t n lt ln hs ma fa rk) (hL : L0 ≤ n0)  : Ct G l yX7_dayCount cX7_dayCount 1 (some .int) 0 0 0 [.ref x] (n0, h0) (fun o τ => o = rI (M.2.2.1.1) ∧ Fx G n0 h0 x L0 M B Z mk nx cnt t n lt ln hs ma fa rk τ.1 τ.2) := by
  have F0 := Fx.start E0 hL
  have hhz := E0.m.hz
  have htr := E0.m.tr
  have hct := E0.m.ct
  have hbase := E0.base
  have hl0 := E0.l0
  refine Ct.of rfl hl (by simp [Value.category]) (Nat.le_of_ble_eq_true rfl) (fun K C E hRm hKl => ?_)
  subst hKl
  refine v_aload_n C dX7_dayCount_0 rfl ?_
  refine v_get C 0 dX7_dayCount_1 wd2_17 F0.1.o rfl (by decide) ⟨rfl, rfl, rfl⟩ rfl ?_
  refine v_getN C 13 dX7_dayCount_4 wd1_78 F0.1.m.o rfl (by decide) ⟨rfl, rfl, rfl⟩ rfl ?_
  exact v_iret C E dX7_dayCount_7 rfl ⟨rfl, F0⟩
set_option maxHeartbeats 8000000 in
/-- broughtIn -/
theorem c_X7_broughtIn {G : hp_G} {l : Launch} (hl : l.stackTraces = false) {n0 : Nat} {h0 : Nat → Option va_E} {x L0 : Nat} {M : mk_T} {B : mk_T} {Z : mk_T} {mk : Nat → mk_T} {nx : Nat} {cnt : Nat} {t : Nat → Nat} {n : Nat} {lt : Nat → Nat} {ln : Nat} {hs : Int32} {ma : Int32} {fa : Int32} {rk : Nat → Option va_E} (E0 : Ex G h0 x L0 M B Z mk nx cnt t n lt ln hs ma fa rk) (hL : L0 ≤ n0)  : Ct G l yX7_broughtIn cX7_broughtIn 1 (some .long) 0 0 0 [.ref x] (n0, h0) (fun o τ => o = .inl (some (.long (M.2.2.2.1))) ∧ Fx G n0 h0 x L0 M B Z mk nx cnt t n lt ln hs ma fa rk τ.1 τ.2) := by
  have F0 := Fx.start E0 hL
  have hhz := E0.m.hz
  have htr := E0.m.tr
  have hct := E0.m.ct
  have hbase := E0.base
  have hl0 := E0.l0
  refine Ct.of rfl hl (by simp [Value.category]) (Nat.le_of_ble_eq_true rfl) (fun K C E hRm hKl => ?_)
  subst hKl
  refine v_aload_n C dX7_broughtIn_0 rfl ?_
  refine v_get C 0 dX7_broughtIn_1 wd2_17 F0.1.o rfl (by decide) ⟨rfl, rfl, rfl⟩ rfl ?_
  refine v_getN C 16 dX7_broughtIn_4 wd1_84 F0.1.m.o rfl (by decide) ⟨rfl, rfl, rfl⟩ rfl ?_
  exact v_lret C E dX7_broughtIn_7 rfl ⟨rfl, F0⟩
set_option maxHeartbeats 8000000 in
/-- withdrawn -/
theorem c_X7_withdrawn {G : hp_G} {l : Launch} (hl : l.stackTraces = false) {n0 : Nat} {h0 : Nat → Option va_E} {x L0 : Nat} {M : mk_T} {B : mk_T} {Z : mk_T} {mk : Nat → mk_T} {nx : Nat} {cnt : Nat} {t : Nat → Nat} {n : Nat} {lt : Nat → Nat} {ln : Nat} {hs : Int32} {ma : Int32} {fa : Int32} {rk : Nat → Option va_E} (E0 : Ex G h0 x L0 M B Z mk nx cnt t n lt ln hs ma fa rk) (hL : L0 ≤ n0)  : Ct G l yX7_withdrawn cX7_withdrawn 1 (some .long) 0 0 0 [.ref x] (n0, h0) (fun o τ => o = .inl (some (.long (M.2.2.2.2))) ∧ Fx G n0 h0 x L0 M B Z mk nx cnt t n lt ln hs ma fa rk τ.1 τ.2) := by
  have F0 := Fx.start E0 hL
  have hhz := E0.m.hz
  have htr := E0.m.tr
  have hct := E0.m.ct
  have hbase := E0.base
  have hl0 := E0.l0
  refine Ct.of rfl hl (by simp [Value.category]) (Nat.le_of_ble_eq_true rfl) (fun K C E hRm hKl => ?_)
  subst hKl
  refine v_aload_n C dX7_withdrawn_0 rfl ?_
  refine v_get C 0 dX7_withdrawn_1 wd2_17 F0.1.o rfl (by decide) ⟨rfl, rfl, rfl⟩ rfl ?_
  refine v_getN C 17 dX7_withdrawn_4 wd1_86 F0.1.m.o rfl (by decide) ⟨rfl, rfl, rfl⟩ rfl ?_
  exact v_lret C E dX7_withdrawn_7 rfl ⟨rfl, F0⟩
set_option maxHeartbeats 8000000 in
/-- priceOf -/
theorem c_X7_priceOf {G : hp_G} {l : Launch} (hl : l.stackTraces = false) {n0 : Nat} {h0 : Nat → Option va_E} {x L0 : Nat} {M : mk_T} {B : mk_T} {Z : mk_T} {mk : Nat → mk_T} {nx : Nat} {cnt : Nat} {t : Nat → Nat} {n : Nat} {lt : Nat → Nat} {ln : Nat} {hs : Int32} {ma : Int32} {fa : Int32} {rk : Nat → Option va_E} (E0 : Ex G h0 x L0 M B Z mk nx cnt t n lt ln hs ma fa rk) (hL : L0 ≤ n0) (i : Int32) : Ct G l yX7_priceOf cX7_priceOf 2 (some .int) 8 1 6 [.ref x, .int i] (n0, h0) (fun o τ => o = qa (hp_num i (mk_hz M)) xI (rI (mk_ar M 0 i.toNatClampNeg)) ∧ Fx G n0 h0 x L0 M B Z mk nx cnt t n lt ln hs ma fa rk τ.1 τ.2) := by
  have F0 := Fx.start E0 hL
  have hhz := E0.m.hz
  have htr := E0.m.tr
  have hct := E0.m.ct
  have hbase := E0.base
  have hl0 := E0.l0
  refine Ct.of rfl hl (by simp [Value.category]) (Nat.le_of_ble_eq_true rfl) (fun K C E hRm hKl => ?_)
  subst hKl
  refine v_iload_n C dX7_priceOf_0 rfl ?_
  refine v_aload_n C dX7_priceOf_1 rfl ?_
  refine v_get C 0 dX7_priceOf_2 wd2_17 F0.1.o rfl (by decide) ⟨rfl, rfl, rfl⟩ rfl ?_
  refine v_getN (v := .int (nI (mk_hz M))) C 0 dX7_priceOf_5 wd1_48 F0.1.m.o rfl (by decide) ⟨rfl, rfl, rfl⟩ rfl ?_
  refine v_callSx C (c_X7_needNumber hl i (mk_hz M)) dX7_priceOf_8 mX7_needNumber wd4_82 rfl rfl (Nat.le_of_ble_eq_true rfl) (hp_rmle hRm (by decide) (by decide)) (Nat.le_of_ble_eq_true rfl) (Nat.le_of_ble_eq_true rfl) (fun e8 t8 q8 => ?_) (fun v8 t8 q8 => ?_)
  · obtain ⟨n8, h8⟩ := t8
    obtain ⟨c8, z8, y8, x8⟩ := q8.resolve_left (fun z => by cases z.2.1)
    have x8 := Eq.symm x8
    cases z8
    subst x8
    exact v_xout C E ⟨(if_neg c8).symm, F0.up y8⟩
  obtain ⟨c8, z8, y8⟩ := q8.resolve_right (fun z => by cases z.2.1)
  cases z8
  subst y8
  refine v_aload_n C dX7_priceOf_11 rfl ?_
  refine v_get C 0 dX7_priceOf_12 wd2_17 F0.1.o rfl (by decide) ⟨rfl, rfl, rfl⟩ rfl ?_
  refine v_getN C 1 dX7_priceOf_15 wd1_50 F0.1.m.o rfl (by decide) ⟨rfl, rfl, rfl⟩ rfl ?_
  refine v_iload_n C dX7_priceOf_18 rfl ?_
  refine v_iald C dX7_priceOf_19 F0.1.m.a0 (vp_in_num c8 (by omega) (by decide)) ?_
  exact v_iret C E dX7_priceOf_20 rfl ⟨(if_pos c8).symm, F0⟩
set_option maxHeartbeats 8000000 in
/-- quoteOf -/
theorem c_X7_quoteOf {G : hp_G} {l : Launch} (hl : l.stackTraces = false) {n0 : Nat} {h0 : Nat → Option va_E} {x L0 : Nat} {M : mk_T} {B : mk_T} {Z : mk_T} {mk : Nat → mk_T} {nx : Nat} {cnt : Nat} {t : Nat → Nat} {n : Nat} {lt : Nat → Nat} {ln : Nat} {hs : Int32} {ma : Int32} {fa : Int32} {rk : Nat → Option va_E} (E0 : Ex G h0 x L0 M B Z mk nx cnt t n lt ln hs ma fa rk) (hL : L0 ≤ n0) (i : Int32) : Ct G l yX7_quoteOf cX7_quoteOf 2 (some .int) 8 1 6 [.ref x, .int i] (n0, h0) (fun o τ => o = qa (hp_num i (mk_hz M)) xI (rI (mk_ar M 1 i.toNatClampNeg)) ∧ Fx G n0 h0 x L0 M B Z mk nx cnt t n lt ln hs ma fa rk τ.1 τ.2) := by
  have F0 := Fx.start E0 hL
  have hhz := E0.m.hz
  have htr := E0.m.tr
  have hct := E0.m.ct
  have hbase := E0.base
  have hl0 := E0.l0
  refine Ct.of rfl hl (by simp [Value.category]) (Nat.le_of_ble_eq_true rfl) (fun K C E hRm hKl => ?_)
  subst hKl
  refine v_iload_n C dX7_quoteOf_0 rfl ?_
  refine v_aload_n C dX7_quoteOf_1 rfl ?_
  refine v_get C 0 dX7_quoteOf_2 wd2_17 F0.1.o rfl (by decide) ⟨rfl, rfl, rfl⟩ rfl ?_
  refine v_getN (v := .int (nI (mk_hz M))) C 0 dX7_quoteOf_5 wd1_48 F0.1.m.o rfl (by decide) ⟨rfl, rfl, rfl⟩ rfl ?_
  refine v_callSx C (c_X7_needNumber hl i (mk_hz M)) dX7_quoteOf_8 mX7_needNumber wd4_82 rfl rfl (Nat.le_of_ble_eq_true rfl) (hp_rmle hRm (by decide) (by decide)) (Nat.le_of_ble_eq_true rfl) (Nat.le_of_ble_eq_true rfl) (fun e8 t8 q8 => ?_) (fun v8 t8 q8 => ?_)
  · obtain ⟨n8, h8⟩ := t8
    obtain ⟨c8, z8, y8, x8⟩ := q8.resolve_left (fun z => by cases z.2.1)
    have x8 := Eq.symm x8
    cases z8
    subst x8
    exact v_xout C E ⟨(if_neg c8).symm, F0.up y8⟩
  obtain ⟨c8, z8, y8⟩ := q8.resolve_right (fun z => by cases z.2.1)
  cases z8
  subst y8
  refine v_aload_n C dX7_quoteOf_11 rfl ?_
  refine v_get C 0 dX7_quoteOf_12 wd2_17 F0.1.o rfl (by decide) ⟨rfl, rfl, rfl⟩ rfl ?_
  refine v_getN C 2 dX7_quoteOf_15 wd1_52 F0.1.m.o rfl (by decide) ⟨rfl, rfl, rfl⟩ rfl ?_
  refine v_iload_n C dX7_quoteOf_18 rfl ?_
  refine v_iald C dX7_quoteOf_19 F0.1.m.a1 (vp_in_num c8 (by omega) (by decide)) ?_
  exact v_iret C E dX7_quoteOf_20 rfl ⟨(if_pos c8).symm, F0⟩
set_option maxHeartbeats 8000000 in
/-- rangeOf -/
theorem c_X7_rangeOf {G : hp_G} {l : Launch} (hl : l.stackTraces = false) {n0 : Nat} {h0 : Nat → Option va_E} {x L0 : Nat} {M : mk_T} {B : mk_T} {Z : mk_T} {mk : Nat → mk_T} {nx : Nat} {cnt : Nat} {t : Nat → Nat} {n : Nat} {lt : Nat → Nat} {ln : Nat} {hs : Int32} {ma : Int32} {fa : Int32} {rk : Nat → Option va_E} (E0 : Ex G h0 x L0 M B Z mk nx cnt t n lt ln hs ma fa rk) (hL : L0 ≤ n0) (i : Int32) : Ct G l yX7_rangeOf cX7_rangeOf 2 (some .int) 8 1 6 [.ref x, .int i] (n0, h0) (fun o τ => o = qa (hp_num i (mk_hz M)) xI (rI (mk_ar M 2 i.toNatClampNeg)) ∧ Fx G n0 h0 x L0 M B Z mk nx cnt t n lt ln hs ma fa rk τ.1 τ.2) := by
  have F0 := Fx.start E0 hL
  have hhz := E0.m.hz
  have htr := E0.m.tr
  have hct := E0.m.ct
  have hbase := E0.base
  have hl0 := E0.l0
  refine Ct.of rfl hl (by simp [Value.category]) (Nat.le_of_ble_eq_true rfl) (fun K C E hRm hKl => ?_)
  subst hKl
  refine v_iload_n C dX7_rangeOf_0 rfl ?_
  refine v_aload_n C dX7_rangeOf_1 rfl ?_
  refine v_get C 0 dX7_rangeOf_2 wd2_17 F0.1.o rfl (by decide) ⟨rfl, rfl, rfl⟩ rfl ?_
  refine v_getN (v := .int (nI (mk_hz M))) C 0 dX7_rangeOf_5 wd1_48 F0.1.m.o rfl (by decide) ⟨rfl, rfl, rfl⟩ rfl ?_
  refine v_callSx C (c_X7_needNumber hl i (mk_hz M)) dX7_rangeOf_8 mX7_needNumber wd4_82 rfl rfl (Nat.le_of_ble_eq_true rfl) (hp_rmle hRm (by decide) (by decide)) (Nat.le_of_ble_eq_true rfl) (Nat.le_of_ble_eq_true rfl) (fun e8 t8 q8 => ?_) (fun v8 t8 q8 => ?_)
  · obtain ⟨n8, h8⟩ := t8
    obtain ⟨c8, z8, y8, x8⟩ := q8.resolve_left (fun z => by cases z.2.1)
    have x8 := Eq.symm x8
    cases z8
    subst x8
    exact v_xout C E ⟨(if_neg c8).symm, F0.up y8⟩
  obtain ⟨c8, z8, y8⟩ := q8.resolve_right (fun z => by cases z.2.1)
  cases z8
  subst y8
  refine v_aload_n C dX7_rangeOf_11 rfl ?_
  refine v_get C 0 dX7_rangeOf_12 wd2_17 F0.1.o rfl (by decide) ⟨rfl, rfl, rfl⟩ rfl ?_
  refine v_getN C 3 dX7_rangeOf_15 wd1_55 F0.1.m.o rfl (by decide) ⟨rfl, rfl, rfl⟩ rfl ?_
  refine v_iload_n C dX7_rangeOf_18 rfl ?_
  refine v_iald C dX7_rangeOf_19 F0.1.m.a2 (vp_in_num c8 (by omega) (by decide)) ?_
  exact v_iret C E dX7_rangeOf_20 rfl ⟨(if_pos c8).symm, F0⟩
set_option maxHeartbeats 8000000 in
/-- moneyOf -/
theorem c_X7_moneyOf {G : hp_G} {l : Launch} (hl : l.stackTraces = false) {n0 : Nat} {h0 : Nat → Option va_E} {x L0 : Nat} {M : mk_T} {B : mk_T} {Z : mk_T} {mk : Nat → mk_T} {nx : Nat} {cnt : Nat} {t : Nat → Nat} {n : Nat} {lt : Nat → Nat} {ln : Nat} {hs : Int32} {ma : Int32} {fa : Int32} {rk : Nat → Option va_E} (E0 : Ex G h0 x L0 M B Z mk nx cnt t n lt ln hs ma fa rk) (hL : L0 ≤ n0) (i : Int32) : Ct G l yX7_moneyOf cX7_moneyOf 2 (some .int) 8 1 6 [.ref x, .int i] (n0, h0) (fun o τ => o = qa (hp_num i (mk_tr M)) xI (rI (mk_ar M 3 i.toNatClampNeg)) ∧ Fx G n0 h0 x L0 M B Z mk nx cnt t n lt ln hs ma fa rk τ.1 τ.2) := by
  have F0 := Fx.start E0 hL
  have hhz := E0.m.hz
  have htr := E0.m.tr
  have hct := E0.m.ct
  have hbase := E0.base
  have hl0 := E0.l0
  refine Ct.of rfl hl (by simp [Value.category]) (Nat.le_of_ble_eq_true rfl) (fun K C E hRm hKl => ?_)
  subst hKl
  refine v_iload_n C dX7_moneyOf_0 rfl ?_
  refine v_aload_n C dX7_moneyOf_1 rfl ?_
  refine v_get C 0 dX7_moneyOf_2 wd2_17 F0.1.o rfl (by decide) ⟨rfl, rfl, rfl⟩ rfl ?_
  refine v_getN (v := .int (nI (mk_tr M))) C 4 dX7_moneyOf_5 wd1_59 F0.1.m.o rfl (by decide) ⟨rfl, rfl, rfl⟩ rfl ?_
  refine v_callSx C (c_X7_needNumber hl i (mk_tr M)) dX7_moneyOf_8 mX7_needNumber wd4_82 rfl rfl (Nat.le_of_ble_eq_true rfl) (hp_rmle hRm (by decide) (by decide)) (Nat.le_of_ble_eq_true rfl) (Nat.le_of_ble_eq_true rfl) (fun e8 t8 q8 => ?_) (fun v8 t8 q8 => ?_)
  · obtain ⟨n8, h8⟩ := t8
    obtain ⟨c8, z8, y8, x8⟩ := q8.resolve_left (fun z => by cases z.2.1)
    have x8 := Eq.symm x8
    cases z8
    subst x8
    exact v_xout C E ⟨(if_neg c8).symm, F0.up y8⟩
  obtain ⟨c8, z8, y8⟩ := q8.resolve_right (fun z => by cases z.2.1)
  cases z8
  subst y8
  refine v_aload_n C dX7_moneyOf_11 rfl ?_
  refine v_get C 0 dX7_moneyOf_12 wd2_17 F0.1.o rfl (by decide) ⟨rfl, rfl, rfl⟩ rfl ?_
  refine v_getN C 5 dX7_moneyOf_15 wd1_61 F0.1.m.o rfl (by decide) ⟨rfl, rfl, rfl⟩ rfl ?_
  refine v_iload_n C dX7_moneyOf_18 rfl ?_
  refine v_iald C dX7_moneyOf_19 F0.1.m.a3 (vp_in_num c8 (by omega) (by decide)) ?_
  exact v_iret C E dX7_moneyOf_20 rfl ⟨(if_pos c8).symm, F0⟩
set_option maxHeartbeats 8000000 in
/-- buyerOf -/
theorem c_X7_buyerOf {G : hp_G} {l : Launch} (hl : l.stackTraces = false) {n0 : Nat} {h0 : Nat → Option va_E} {x L0 : Nat} {M : mk_T} {B : mk_T} {Z : mk_T} {mk : Nat → mk_T} {nx : Nat} {cnt : Nat} {t : Nat → Nat} {n : Nat} {lt : Nat → Nat} {ln : Nat} {hs : Int32} {ma : Int32} {fa : Int32} {rk : Nat → Option va_E} (E0 : Ex G h0 x L0 M B Z mk nx cnt t n lt ln hs ma fa rk) (hL : L0 ≤ n0) (i : Int32) : Ct G l yX7_buyerOf cX7_buyerOf 2 (some .int) 8 1 6 [.ref x, .int i] (n0, h0) (fun o τ => o = qa (hp_num i (mk_ct M)) xI (rI (mk_ar M 5 i.toNatClampNeg)) ∧ Fx G n0 h0 x L0 M B Z mk nx cnt t n lt ln hs ma fa rk τ.1 τ.2) := by
  have F0 := Fx.start E0 hL
  have hhz := E0.m.hz
  have htr := E0.m.tr
  have hct := E0.m.ct
  have hbase := E0.base
  have hl0 := E0.l0
  refine Ct.of rfl hl (by simp [Value.category]) (Nat.le_of_ble_eq_true rfl) (fun K C E hRm hKl => ?_)
  subst hKl
  refine v_iload_n C dX7_buyerOf_0 rfl ?_
  refine v_aload_n C dX7_buyerOf_1 rfl ?_
  refine v_get C 0 dX7_buyerOf_2 wd2_17 F0.1.o rfl (by decide) ⟨rfl, rfl, rfl⟩ rfl ?_
  refine v_getN (v := .int (nI (mk_ct M))) C 7 dX7_buyerOf_5 wd1_66 F0.1.m.o rfl (by decide) ⟨rfl, rfl, rfl⟩ rfl ?_
  refine v_callSx C (c_X7_needNumber hl i (mk_ct M)) dX7_buyerOf_8 mX7_needNumber wd4_82 rfl rfl (Nat.le_of_ble_eq_true rfl) (hp_rmle hRm (by decide) (by decide)) (Nat.le_of_ble_eq_true rfl) (Nat.le_of_ble_eq_true rfl) (fun e8 t8 q8 => ?_) (fun v8 t8 q8 => ?_)
  · obtain ⟨n8, h8⟩ := t8
    obtain ⟨c8, z8, y8, x8⟩ := q8.resolve_left (fun z => by cases z.2.1)
    have x8 := Eq.symm x8
    cases z8
    subst x8
    exact v_xout C E ⟨(if_neg c8).symm, F0.up y8⟩
  obtain ⟨c8, z8, y8⟩ := q8.resolve_right (fun z => by cases z.2.1)
  cases z8
  subst y8
  refine v_aload_n C dX7_buyerOf_11 rfl ?_
  refine v_get C 0 dX7_buyerOf_12 wd2_17 F0.1.o rfl (by decide) ⟨rfl, rfl, rfl⟩ rfl ?_
  refine v_getN C 8 dX7_buyerOf_15 wd1_68 F0.1.m.o rfl (by decide) ⟨rfl, rfl, rfl⟩ rfl ?_
  refine v_iload_n C dX7_buyerOf_18 rfl ?_
  refine v_iald C dX7_buyerOf_19 F0.1.m.a5 (vp_in_num c8 (by omega) (by decide)) ?_
  exact v_iret C E dX7_buyerOf_20 rfl ⟨(if_pos c8).symm, F0⟩
set_option maxHeartbeats 8000000 in
/-- sellerOf -/
theorem c_X7_sellerOf {G : hp_G} {l : Launch} (hl : l.stackTraces = false) {n0 : Nat} {h0 : Nat → Option va_E} {x L0 : Nat} {M : mk_T} {B : mk_T} {Z : mk_T} {mk : Nat → mk_T} {nx : Nat} {cnt : Nat} {t : Nat → Nat} {n : Nat} {lt : Nat → Nat} {ln : Nat} {hs : Int32} {ma : Int32} {fa : Int32} {rk : Nat → Option va_E} (E0 : Ex G h0 x L0 M B Z mk nx cnt t n lt ln hs ma fa rk) (hL : L0 ≤ n0) (i : Int32) : Ct G l yX7_sellerOf cX7_sellerOf 2 (some .int) 8 1 6 [.ref x, .int i] (n0, h0) (fun o τ => o = qa (hp_num i (mk_ct M)) xI (rI (mk_ar M 6 i.toNatClampNeg)) ∧ Fx G n0 h0 x L0 M B Z mk nx cnt t n lt ln hs ma fa rk τ.1 τ.2) := by
  have F0 := Fx.start E0 hL
  have hhz := E0.m.hz
  have htr := E0.m.tr
  have hct := E0.m.ct
  have hbase := E0.base
  have hl0 := E0.l0
  refine Ct.of rfl hl (by simp [Value.category]) (Nat.le_of_ble_eq_true rfl) (fun K C E hRm hKl => ?_)
  subst hKl
  refine v_iload_n C dX7_sellerOf_0 rfl ?_
  refine v_aload_n C dX7_sellerOf_1 rfl ?_
  refine v_get C 0 dX7_sellerOf_2 wd2_17 F0.1.o rfl (by decide) ⟨rfl, rfl, rfl⟩ rfl ?_
  refine v_getN (v := .int (nI (mk_ct M))) C 7 dX7_sellerOf_5 wd1_66 F0.1.m.o rfl (by decide) ⟨rfl, rfl, rfl⟩ rfl ?_
  refine v_callSx C (c_X7_needNumber hl i (mk_ct M)) dX7_sellerOf_8 mX7_needNumber wd4_82 rfl rfl (Nat.le_of_ble_eq_true rfl) (hp_rmle hRm (by decide) (by decide)) (Nat.le_of_ble_eq_true rfl) (Nat.le_of_ble_eq_true rfl) (fun e8 t8 q8 => ?_) (fun v8 t8 q8 => ?_)
  · obtain ⟨n8, h8⟩ := t8
    obtain ⟨c8, z8, y8, x8⟩ := q8.resolve_left (fun z => by cases z.2.1)
    have x8 := Eq.symm x8
    cases z8
    subst x8
    exact v_xout C E ⟨(if_neg c8).symm, F0.up y8⟩
  obtain ⟨c8, z8, y8⟩ := q8.resolve_right (fun z => by cases z.2.1)
  cases z8
  subst y8
  refine v_aload_n C dX7_sellerOf_11 rfl ?_
  refine v_get C 0 dX7_sellerOf_12 wd2_17 F0.1.o rfl (by decide) ⟨rfl, rfl, rfl⟩ rfl ?_
  refine v_getN C 9 dX7_sellerOf_15 wd1_70 F0.1.m.o rfl (by decide) ⟨rfl, rfl, rfl⟩ rfl ?_
  refine v_iload_n C dX7_sellerOf_18 rfl ?_
  refine v_iald C dX7_sellerOf_19 F0.1.m.a6 (vp_in_num c8 (by omega) (by decide)) ?_
  exact v_iret C E dX7_sellerOf_20 rfl ⟨(if_pos c8).symm, F0⟩
set_option maxHeartbeats 8000000 in
/-- horizonOf -/
theorem c_X7_horizonOf {G : hp_G} {l : Launch} (hl : l.stackTraces = false) {n0 : Nat} {h0 : Nat → Option va_E} {x L0 : Nat} {M : mk_T} {B : mk_T} {Z : mk_T} {mk : Nat → mk_T} {nx : Nat} {cnt : Nat} {t : Nat → Nat} {n : Nat} {lt : Nat → Nat} {ln : Nat} {hs : Int32} {ma : Int32} {fa : Int32} {rk : Nat → Option va_E} (E0 : Ex G h0 x L0 M B Z mk nx cnt t n lt ln hs ma fa rk) (hL : L0 ≤ n0) (i : Int32) : Ct G l yX7_horizonOf cX7_horizonOf 2 (some .int) 8 1 6 [.ref x, .int i] (n0, h0) (fun o τ => o = qa (hp_num i (mk_ct M)) xI (rI (mk_ar M 7 i.toNatClampNeg)) ∧ Fx G n0 h0 x L0 M B Z mk nx cnt t n lt ln hs ma fa rk τ.1 τ.2) := by
  have F0 := Fx.start E0 hL
  have hhz := E0.m.hz
  have htr := E0.m.tr
  have hct := E0.m.ct
  have hbase := E0.base
  have hl0 := E0.l0
  refine Ct.of rfl hl (by simp [Value.category]) (Nat.le_of_ble_eq_true rfl) (fun K C E hRm hKl => ?_)
  subst hKl
  refine v_iload_n C dX7_horizonOf_0 rfl ?_
  refine v_aload_n C dX7_horizonOf_1 rfl ?_
  refine v_get C 0 dX7_horizonOf_2 wd2_17 F0.1.o rfl (by decide) ⟨rfl, rfl, rfl⟩ rfl ?_
  refine v_getN (v := .int (nI (mk_ct M))) C 7 dX7_horizonOf_5 wd1_66 F0.1.m.o rfl (by decide) ⟨rfl, rfl, rfl⟩ rfl ?_
  refine v_callSx C (c_X7_needNumber hl i (mk_ct M)) dX7_horizonOf_8 mX7_needNumber wd4_82 rfl rfl (Nat.le_of_ble_eq_true rfl) (hp_rmle hRm (by decide) (by decide)) (Nat.le_of_ble_eq_true rfl) (Nat.le_of_ble_eq_true rfl) (fun e8 t8 q8 => ?_) (fun v8 t8 q8 => ?_)
  · obtain ⟨n8, h8⟩ := t8
    obtain ⟨c8, z8, y8, x8⟩ := q8.resolve_left (fun z => by cases z.2.1)
    have x8 := Eq.symm x8
    cases z8
    subst x8
    exact v_xout C E ⟨(if_neg c8).symm, F0.up y8⟩
  obtain ⟨c8, z8, y8⟩ := q8.resolve_right (fun z => by cases z.2.1)
  cases z8
  subst y8
  refine v_aload_n C dX7_horizonOf_11 rfl ?_
  refine v_get C 0 dX7_horizonOf_12 wd2_17 F0.1.o rfl (by decide) ⟨rfl, rfl, rfl⟩ rfl ?_
  refine v_getN C 10 dX7_horizonOf_15 wd1_72 F0.1.m.o rfl (by decide) ⟨rfl, rfl, rfl⟩ rfl ?_
  refine v_iload_n C dX7_horizonOf_18 rfl ?_
  refine v_iald C dX7_horizonOf_19 F0.1.m.a7 (vp_in_num c8 (by omega) (by decide)) ?_
  exact v_iret C E dX7_horizonOf_20 rfl ⟨(if_pos c8).symm, F0⟩
set_option maxHeartbeats 8000000 in
/-- quantityOf -/
theorem c_X7_quantityOf {G : hp_G} {l : Launch} (hl : l.stackTraces = false) {n0 : Nat} {h0 : Nat → Option va_E} {x L0 : Nat} {M : mk_T} {B : mk_T} {Z : mk_T} {mk : Nat → mk_T} {nx : Nat} {cnt : Nat} {t : Nat → Nat} {n : Nat} {lt : Nat → Nat} {ln : Nat} {hs : Int32} {ma : Int32} {fa : Int32} {rk : Nat → Option va_E} (E0 : Ex G h0 x L0 M B Z mk nx cnt t n lt ln hs ma fa rk) (hL : L0 ≤ n0) (i : Int32) : Ct G l yX7_quantityOf cX7_quantityOf 2 (some .int) 8 1 6 [.ref x, .int i] (n0, h0) (fun o τ => o = qa (hp_num i (mk_ct M)) xI (rI (mk_ar M 8 i.toNatClampNeg)) ∧ Fx G n0 h0 x L0 M B Z mk nx cnt t n lt ln hs ma fa rk τ.1 τ.2) := by
  have F0 := Fx.start E0 hL
  have hhz := E0.m.hz
  have htr := E0.m.tr
  have hct := E0.m.ct
  have hbase := E0.base
  have hl0 := E0.l0
  refine Ct.of rfl hl (by simp [Value.category]) (Nat.le_of_ble_eq_true rfl) (fun K C E hRm hKl => ?_)
  subst hKl
  refine v_iload_n C dX7_quantityOf_0 rfl ?_
  refine v_aload_n C dX7_quantityOf_1 rfl ?_
  refine v_get C 0 dX7_quantityOf_2 wd2_17 F0.1.o rfl (by decide) ⟨rfl, rfl, rfl⟩ rfl ?_
  refine v_getN (v := .int (nI (mk_ct M))) C 7 dX7_quantityOf_5 wd1_66 F0.1.m.o rfl (by decide) ⟨rfl, rfl, rfl⟩ rfl ?_
  refine v_callSx C (c_X7_needNumber hl i (mk_ct M)) dX7_quantityOf_8 mX7_needNumber wd4_82 rfl rfl (Nat.le_of_ble_eq_true rfl) (hp_rmle hRm (by decide) (by decide)) (Nat.le_of_ble_eq_true rfl) (Nat.le_of_ble_eq_true rfl) (fun e8 t8 q8 => ?_) (fun v8 t8 q8 => ?_)
  · obtain ⟨n8, h8⟩ := t8
    obtain ⟨c8, z8, y8, x8⟩ := q8.resolve_left (fun z => by cases z.2.1)
    have x8 := Eq.symm x8
    cases z8
    subst x8
    exact v_xout C E ⟨(if_neg c8).symm, F0.up y8⟩
  obtain ⟨c8, z8, y8⟩ := q8.resolve_right (fun z => by cases z.2.1)
  cases z8
  subst y8
  refine v_aload_n C dX7_quantityOf_11 rfl ?_
  refine v_get C 0 dX7_quantityOf_12 wd2_17 F0.1.o rfl (by decide) ⟨rfl, rfl, rfl⟩ rfl ?_
  refine v_getN C 11 dX7_quantityOf_15 wd1_74 F0.1.m.o rfl (by decide) ⟨rfl, rfl, rfl⟩ rfl ?_
  refine v_iload_n C dX7_quantityOf_18 rfl ?_
  refine v_iald C dX7_quantityOf_19 F0.1.m.a8 (vp_in_num c8 (by omega) (by decide)) ?_
  exact v_iret C E dX7_quantityOf_20 rfl ⟨(if_pos c8).symm, F0⟩
set_option maxHeartbeats 8000000 in
/-- daysLeft -/
theorem c_X7_daysLeft {G : hp_G} {l : Launch} (hl : l.stackTraces = false) {n0 : Nat} {h0 : Nat → Option va_E} {x L0 : Nat} {M : mk_T} {B : mk_T} {Z : mk_T} {mk : Nat → mk_T} {nx : Nat} {cnt : Nat} {t : Nat → Nat} {n : Nat} {lt : Nat → Nat} {ln : Nat} {hs : Int32} {ma : Int32} {fa : Int32} {rk : Nat → Option va_E} (E0 : Ex G h0 x L0 M B Z mk nx cnt t n lt ln hs ma fa rk) (hL : L0 ≤ n0) (i : Int32) : Ct G l yX7_daysLeft cX7_daysLeft 2 (some .int) 8 1 6 [.ref x, .int i] (n0, h0) (fun o τ => o = qa (hp_num i (mk_ct M)) xI (rI (mk_ar M 9 i.toNatClampNeg - M.2.2.1.1)) ∧ Fx G n0 h0 x L0 M B Z mk nx cnt t n lt ln hs ma fa rk τ.1 τ.2) := by
  have F0 := Fx.start E0 hL
  have hhz := E0.m.hz
  have htr := E0.m.tr
  have hct := E0.m.ct
  have hbase := E0.base
  have hl0 := E0.l0
  refine Ct.of rfl hl (by simp [Value.category]) (Nat.le_of_ble_eq_true rfl) (fun K C E hRm hKl => ?_)
  subst hKl
  refine v_iload_n C dX7_daysLeft_0 rfl ?_
  refine v_aload_n C dX7_daysLeft_1 rfl ?_
  refine v_get C 0 dX7_daysLeft_2 wd2_17 F0.1.o rfl (by decide) ⟨rfl, rfl, rfl⟩ rfl ?_
  refine v_getN (v := .int (nI (mk_ct M))) C 7 dX7_daysLeft_5 wd1_66 F0.1.m.o rfl (by decide) ⟨rfl, rfl, rfl⟩ rfl ?_
  refine v_callSx C (c_X7_needNumber hl i (mk_ct M)) dX7_daysLeft_8 mX7_needNumber wd4_82 rfl rfl (Nat.le_of_ble_eq_true rfl) (hp_rmle hRm (by decide) (by decide)) (Nat.le_of_ble_eq_true rfl) (Nat.le_of_ble_eq_true rfl) (fun e8 t8 q8 => ?_) (fun v8 t8 q8 => ?_)
  · obtain ⟨n8, h8⟩ := t8
    obtain ⟨c8, z8, y8, x8⟩ := q8.resolve_left (fun z => by cases z.2.1)
    have x8 := Eq.symm x8
    cases z8
    subst x8
    exact v_xout C E ⟨(if_neg c8).symm, F0.up y8⟩
  obtain ⟨c8, z8, y8⟩ := q8.resolve_right (fun z => by cases z.2.1)
  cases z8
  subst y8
  refine v_aload_n C dX7_daysLeft_11 rfl ?_
  refine v_get C 0 dX7_daysLeft_12 wd2_17 F0.1.o rfl (by decide) ⟨rfl, rfl, rfl⟩ rfl ?_
  refine v_getN C 12 dX7_daysLeft_15 wd1_76 F0.1.m.o rfl (by decide) ⟨rfl, rfl, rfl⟩ rfl ?_
  refine v_iload_n C dX7_daysLeft_18 rfl ?_
  refine v_iald C dX7_daysLeft_19 F0.1.m.a9 (vp_in_num c8 (by omega) (by decide)) ?_
  refine v_aload_n C dX7_daysLeft_20 rfl ?_
  refine v_get C 0 dX7_daysLeft_21 wd2_17 F0.1.o rfl (by decide) ⟨rfl, rfl, rfl⟩ rfl ?_
  refine v_getN C 13 dX7_daysLeft_24 wd1_78 F0.1.m.o rfl (by decide) ⟨rfl, rfl, rfl⟩ rfl ?_
  refine v_isub C dX7_daysLeft_27 ?_
  exact v_iret C E dX7_daysLeft_28 rfl ⟨(if_pos c8).symm, F0⟩
set_option maxHeartbeats 8000000 in
/-- isCalled -/
theorem c_X7_isCalled {G : hp_G} {l : Launch} (hl : l.stackTraces = false) {n0 : Nat} {h0 : Nat → Option va_E} {x L0 : Nat} {M : mk_T} {B : mk_T} {Z : mk_T} {mk : Nat → mk_T} {nx : Nat} {cnt : Nat} {t : Nat → Nat} {n : Nat} {lt : Nat → Nat} {ln : Nat} {hs : Int32} {ma : Int32} {fa : Int32} {rk : Nat → Option va_E} (E0 : Ex G h0 x L0 M B Z mk nx cnt t n lt ln hs ma fa rk) (hL : L0 ≤ n0) (i : Int32) : Ct G l yX7_isCalled cX7_isCalled 2 (some .boolean) 8 1 6 [.ref x, .int i] (n0, h0) (fun o τ => o = qa (hp_num i (mk_tr M)) xI (rI (hp_b (mk_ar M 4 i.toNatClampNeg = nI 1))) ∧ Fx G n0 h0 x L0 M B Z mk nx cnt t n lt ln hs ma fa rk τ.1 τ.2) := by
  have F0 := Fx.start E0 hL
  have hhz := E0.m.hz
  have htr := E0.m.tr
  have hct := E0.m.ct
  have hbase := E0.base
  have hl0 := E0.l0
  refine Ct.of rfl hl (by simp [Value.category]) (Nat.le_of_ble_eq_true rfl) (fun K C E hRm hKl => ?_)
  subst hKl
  refine v_iload_n C dX7_isCalled_0 rfl ?_
  refine v_aload_n C dX7_isCalled_1 rfl ?_
  refine v_get C 0 dX7_isCalled_2 wd2_17 F0.1.o rfl (by decide) ⟨rfl, rfl, rfl⟩ rfl ?_
  refine v_getN (v := .int (nI (mk_tr M))) C 4 dX7_isCalled_5 wd1_59 F0.1.m.o rfl (by decide) ⟨rfl, rfl, rfl⟩ rfl ?_
  refine v_callSx C (c_X7_needNumber hl i (mk_tr M)) dX7_isCalled_8 mX7_needNumber wd4_82 rfl rfl (Nat.le_of_ble_eq_true rfl) (hp_rmle hRm (by decide) (by decide)) (Nat.le_of_ble_eq_true rfl) (Nat.le_of_ble_eq_true rfl) (fun e8 t8 q8 => ?_) (fun v8 t8 q8 => ?_)
  · obtain ⟨n8, h8⟩ := t8
    obtain ⟨c8, z8, y8, x8⟩ := q8.resolve_left (fun z => by cases z.2.1)
    have x8 := Eq.symm x8
    cases z8
    subst x8
    exact v_xout C E ⟨(if_neg c8).symm, F0.up y8⟩
  obtain ⟨c8, z8, y8⟩ := q8.resolve_right (fun z => by cases z.2.1)
  cases z8
  subst y8
  refine v_aload_n C dX7_isCalled_11 rfl ?_
  refine v_get C 0 dX7_isCalled_12 wd2_17 F0.1.o rfl (by decide) ⟨rfl, rfl, rfl⟩ rfl ?_
  refine v_getN C 6 dX7_isCalled_15 wd1_64 F0.1.m.o rfl (by decide) ⟨rfl, rfl, rfl⟩ rfl ?_
  refine v_iload_n C dX7_isCalled_18 rfl ?_
  refine v_iald C dX7_isCalled_19 F0.1.m.a4 (vp_in_num c8 (by omega) (by decide)) ?_
  refine v_iconst (v := nI 1) C dX7_isCalled_20 (by decide) ?_
  refine v_icmp_ne (tgt := 28) C dX7_isCalled_21 (by decide) (fun c21 => ?_) (fun c21 => ?_)
  · refine v_iconst (v := nI 0) C dX7_isCalled_28 (by decide) ?_
    exact v_zret C E dX7_isCalled_29 rfl rfl ⟨by first | (rw [hp_b_t c21]; exact (if_pos c8).symm) | (rw [hp_b_f c21]; exact (if_pos c8).symm), F0⟩
  · refine v_iconst (v := nI 1) C dX7_isCalled_24 (by decide) ?_
    refine v_goto (tgt := 29) C dX7_isCalled_25 (by decide) ?_
    exact v_zret C E dX7_isCalled_29 rfl rfl ⟨by first | (rw [hp_b_t c21]; exact (if_pos c8).symm) | (rw [hp_b_f c21]; exact (if_pos c8).symm), F0⟩
set_option maxHeartbeats 8000000 in
/-- hasDefaulted -/
theorem c_X7_hasDefaulted {G : hp_G} {l : Launch} (hl : l.stackTraces = false) {n0 : Nat} {h0 : Nat → Option va_E} {x L0 : Nat} {M : mk_T} {B : mk_T} {Z : mk_T} {mk : Nat → mk_T} {nx : Nat} {cnt : Nat} {t : Nat → Nat} {n : Nat} {lt : Nat → Nat} {ln : Nat} {hs : Int32} {ma : Int32} {fa : Int32} {rk : Nat → Option va_E} (E0 : Ex G h0 x L0 M B Z mk nx cnt t n lt ln hs ma fa rk) (hL : L0 ≤ n0) (i : Int32) : Ct G l yX7_hasDefaulted cX7_hasDefaulted 2 (some .boolean) 8 1 6 [.ref x, .int i] (n0, h0) (fun o τ => o = qa (hp_num i (mk_tr M)) xI (rI (hp_b (mk_ar M 4 i.toNatClampNeg = nI 2))) ∧ Fx G n0 h0 x L0 M B Z mk nx cnt t n lt ln hs ma fa rk τ.1 τ.2) := by
  have F0 := Fx.start E0 hL
  have hhz := E0.m.hz
  have htr := E0.m.tr
  have hct := E0.m.ct
  have hbase := E0.base
  have hl0 := E0.l0
  refine Ct.of rfl hl (by simp [Value.category]) (Nat.le_of_ble_eq_true rfl) (fun K C E hRm hKl => ?_)
  subst hKl
  refine v_iload_n C dX7_hasDefaulted_0 rfl ?_
  refine v_aload_n C dX7_hasDefaulted_1 rfl ?_
  refine v_get C 0 dX7_hasDefaulted_2 wd2_17 F0.1.o rfl (by decide) ⟨rfl, rfl, rfl⟩ rfl ?_
  refine v_getN (v := .int (nI (mk_tr M))) C 4 dX7_hasDefaulted_5 wd1_59 F0.1.m.o rfl (by decide) ⟨rfl, rfl, rfl⟩ rfl ?_
  refine v_callSx C (c_X7_needNumber hl i (mk_tr M)) dX7_hasDefaulted_8 mX7_needNumber wd4_82 rfl rfl (Nat.le_of_ble_eq_true rfl) (hp_rmle hRm (by decide) (by decide)) (Nat.le_of_ble_eq_true rfl) (Nat.le_of_ble_eq_true rfl) (fun e8 t8 q8 => ?_) (fun v8 t8 q8 => ?_)
  · obtain ⟨n8, h8⟩ := t8
    obtain ⟨c8, z8, y8, x8⟩ := q8.resolve_left (fun z => by cases z.2.1)
    have x8 := Eq.symm x8
    cases z8
    subst x8
    exact v_xout C E ⟨(if_neg c8).symm, F0.up y8⟩
  obtain ⟨c8, z8, y8⟩ := q8.resolve_right (fun z => by cases z.2.1)
  cases z8
  subst y8
  refine v_aload_n C dX7_hasDefaulted_11 rfl ?_
  refine v_get C 0 dX7_hasDefaulted_12 wd2_17 F0.1.o rfl (by decide) ⟨rfl, rfl, rfl⟩ rfl ?_
  refine v_getN C 6 dX7_hasDefaulted_15 wd1_64 F0.1.m.o rfl (by decide) ⟨rfl, rfl, rfl⟩ rfl ?_
  refine v_iload_n C dX7_hasDefaulted_18 rfl ?_
  refine v_iald C dX7_hasDefaulted_19 F0.1.m.a4 (vp_in_num c8 (by omega) (by decide)) ?_
  refine v_iconst (v := nI 2) C dX7_hasDefaulted_20 (by decide) ?_
  refine v_icmp_ne (tgt := 28) C dX7_hasDefaulted_21 (by decide) (fun c21 => ?_) (fun c21 => ?_)
  · refine v_iconst (v := nI 0) C dX7_hasDefaulted_28 (by decide) ?_
    exact v_zret C E dX7_hasDefaulted_29 rfl rfl ⟨by first | (rw [hp_b_t c21]; exact (if_pos c8).symm) | (rw [hp_b_f c21]; exact (if_pos c8).symm), F0⟩
  · refine v_iconst (v := nI 1) C dX7_hasDefaulted_24 (by decide) ?_
    refine v_goto (tgt := 29) C dX7_hasDefaulted_25 (by decide) ?_
    exact v_zret C E dX7_hasDefaulted_29 rfl rfl ⟨by first | (rw [hp_b_t c21]; exact (if_pos c8).symm) | (rw [hp_b_f c21]; exact (if_pos c8).symm), F0⟩
set_option maxHeartbeats 8000000 in
/-- positionOf -/
theorem c_X7_positionOf {G : hp_G} {l : Launch} (hl : l.stackTraces = false) {n0 : Nat} {h0 : Nat → Option va_E} {x L0 : Nat} {M : mk_T} {B : mk_T} {Z : mk_T} {mk : Nat → mk_T} {nx : Nat} {cnt : Nat} {t : Nat → Nat} {n : Nat} {lt : Nat → Nat} {ln : Nat} {hs : Int32} {ma : Int32} {fa : Int32} {rk : Nat → Option va_E} (E0 : Ex G h0 x L0 M B Z mk nx cnt t n lt ln hs ma fa rk) (hL : L0 ≤ n0) (i j : Int32) : Ct G l yX7_positionOf cX7_positionOf 3 (some .int) 8 2 12 [.ref x, .int i, .int j] (n0, h0) (fun o τ => o = qa (hp_num i (mk_tr M) ∧ hp_num j (mk_hz M)) xI (rI (mk_po M i j)) ∧ Fx G n0 h0 x L0 M B Z mk nx cnt t n lt ln hs ma fa rk τ.1 τ.2) := by
  have F0 := Fx.start E0 hL
  have hhz := E0.m.hz
  have htr := E0.m.tr
  have hct := E0.m.ct
  have hbase := E0.base
  have hl0 := E0.l0
  refine Ct.of rfl hl (by simp [Value.category]) (Nat.le_of_ble_eq_true rfl) (fun K C E hRm hKl => ?_)
  subst hKl
  refine v_iload_n C dX7_positionOf_0 rfl ?_
  refine v_aload_n C dX7_positionOf_1 rfl ?_
  refine v_get C 0 dX7_positionOf_2 wd2_17 F0.1.o rfl (by decide) ⟨rfl, rfl, rfl⟩ rfl ?_
  refine v_getN (v := .int (nI (mk_tr M))) C 4 dX7_positionOf_5 wd1_59 F0.1.m.o rfl (by decide) ⟨rfl, rfl, rfl⟩ rfl ?_
  refine v_callSx C (c_X7_needNumber hl i (mk_tr M)) dX7_positionOf_8 mX7_needNumber wd4_82 rfl rfl (Nat.le_of_ble_eq_true rfl) (hp_rmle hRm (by decide) (by decide)) (Nat.le_of_ble_eq_true rfl) (Nat.le_of_ble_eq_true rfl) (fun e8 t8 q8 => ?_) (fun v8 t8 q8 => ?_)
  · obtain ⟨n8, h8⟩ := t8
    obtain ⟨c8, z8, y8, x8⟩ := q8.resolve_left (fun z => by cases z.2.1)
    have x8 := Eq.symm x8
    cases z8
    subst x8
    exact v_xout C E ⟨(if_neg (fun z => c8 z.1)).symm, (F0.up (Nat.le_refl _)).up y8⟩
  obtain ⟨c8, z8, y8⟩ := q8.resolve_right (fun z => by cases z.2.1)
  cases z8
  subst y8
  refine v_iload_n C dX7_positionOf_11 rfl ?_
  refine v_aload_n C dX7_positionOf_12 rfl ?_
  refine v_get C 0 dX7_positionOf_13 wd2_17 F0.1.o rfl (by decide) ⟨rfl, rfl, rfl⟩ rfl ?_
  refine v_getN (v := .int (nI (mk_hz M))) C 0 dX7_positionOf_16 wd1_48 F0.1.m.o rfl (by decide) ⟨rfl, rfl, rfl⟩ rfl ?_
  refine v_callSx C (c_X7_needNumber hl j (mk_hz M)) dX7_positionOf_19 mX7_needNumber wd4_82 rfl rfl (Nat.le_of_ble_eq_true rfl) (hp_rmle hRm (by decide) (by decide)) (Nat.le_of_ble_eq_true rfl) (Nat.le_of_ble_eq_true rfl) (fun e19 t19 q19 => ?_) (fun v19 t19 q19 => ?_)
  · obtain ⟨n19, h19⟩ := t19
    obtain ⟨c19, z19, y19, x19⟩ := q19.resolve_left (fun z => by cases z.2.1)
    have x19 := Eq.symm x19
    cases z19
    subst x19
    exact v_xout C E ⟨(if_neg (fun z => c19 z.2)).symm, (F0.up (Nat.le_refl _)).up y19⟩
  obtain ⟨c19, z19, y19⟩ := q19.resolve_right (fun z => by cases z.2.1)
  cases z19
  subst y19
  refine v_aload_n C dX7_positionOf_22 rfl ?_
  refine v_get C 0 dX7_positionOf_23 wd2_17 F0.1.o rfl (by decide) ⟨rfl, rfl, rfl⟩ rfl ?_
  refine v_iload_n C dX7_positionOf_26 rfl ?_
  refine v_iload_n C dX7_positionOf_27 rfl ?_
  refine v_callVi C (c_X4_position hl F0.1.m i j) dX7_positionOf_28 mX4_position rfl F0.1.m.o rfl wd4_127 rfl rfl (Nat.le_of_ble_eq_true rfl) (hp_rmle hRm (by decide) (by decide)) (Nat.le_of_ble_eq_true rfl) (Nat.le_of_ble_eq_true rfl) ?_
  exact v_iret C E dX7_positionOf_31 rfl ⟨(if_pos ⟨c8, c19⟩).symm, F0⟩
set_option maxHeartbeats 8000000 in
/-- openQuantity -/
theorem c_X7_openQuantity {G : hp_G} {l : Launch} (hl : l.stackTraces = false) {n0 : Nat} {h0 : Nat → Option va_E} {x L0 : Nat} {M : mk_T} {B : mk_T} {Z : mk_T} {mk : Nat → mk_T} {nx : Nat} {cnt : Nat} {t : Nat → Nat} {n : Nat} {lt : Nat → Nat} {ln : Nat} {hs : Int32} {ma : Int32} {fa : Int32} {rk : Nat → Option va_E} (E0 : Ex G h0 x L0 M B Z mk nx cnt t n lt ln hs ma fa rk) (hL : L0 ≤ n0) (i : Int32) : Ct G l yX7_openQuantity cX7_openQuantity 2 (some .int) 8 1 6 [.ref x, .int i] (n0, h0) (fun o τ => o = qa (hp_num i (mk_hz M)) xI (rI (mk_oq M i (mk_ct M))) ∧ Fx G n0 h0 x L0 M B Z mk nx cnt t n lt ln hs ma fa rk τ.1 τ.2) := by
  have F0 := Fx.start E0 hL
  have hhz := E0.m.hz
  have htr := E0.m.tr
  have hct := E0.m.ct
  have hbase := E0.base
  have hl0 := E0.l0
  refine Ct.of rfl hl (by simp [Value.category]) (Nat.le_of_ble_eq_true rfl) (fun K C E hRm hKl => ?_)
  subst hKl
  refine v_iload_n C dX7_openQuantity_0 rfl ?_
  refine v_aload_n C dX7_openQuantity_1 rfl ?_
  refine v_get C 0 dX7_openQuantity_2 wd2_17 F0.1.o rfl (by decide) ⟨rfl, rfl, rfl⟩ rfl ?_
  refine v_getN (v := .int (nI (mk_hz M))) C 0 dX7_openQuantity_5 wd1_48 F0.1.m.o rfl (by decide) ⟨rfl, rfl, rfl⟩ rfl ?_
  refine v_callSx C (c_X7_needNumber hl i (mk_hz M)) dX7_openQuantity_8 mX7_needNumber wd4_82 rfl rfl (Nat.le_of_ble_eq_true rfl) (hp_rmle hRm (by decide) (by decide)) (Nat.le_of_ble_eq_true rfl) (Nat.le_of_ble_eq_true rfl) (fun e8 t8 q8 => ?_) (fun v8 t8 q8 => ?_)
  · obtain ⟨n8, h8⟩ := t8
    obtain ⟨c8, z8, y8, x8⟩ := q8.resolve_left (fun z => by cases z.2.1)
    have x8 := Eq.symm x8
    cases z8
    subst x8
    exact v_xout C E ⟨(if_neg c8).symm, F0.up y8⟩
  obtain ⟨c8, z8, y8⟩ := q8.resolve_right (fun z => by cases z.2.1)
  cases z8
  subst y8
  refine v_aload_n C dX7_openQuantity_11 rfl ?_
  refine v_get C 0 dX7_openQuantity_12 wd2_17 F0.1.o rfl (by decide) ⟨rfl, rfl, rfl⟩ rfl ?_
  refine v_iload_n C dX7_openQuantity_15 rfl ?_
  refine v_callVi C (c_X4_quantityOpenOn hl F0.1.m i) dX7_openQuantity_16 mX4_quantityOpenOn rfl F0.1.m.o rfl wd4_135 rfl rfl (Nat.le_of_ble_eq_true rfl) (hp_rmle hRm (by decide) (by decide)) (Nat.le_of_ble_eq_true rfl) (Nat.le_of_ble_eq_true rfl) ?_
  exact v_iret C E dX7_openQuantity_19 rfl ⟨(if_pos c8).symm, F0⟩
set_option maxHeartbeats 8000000 in
/-- marginOf -/
theorem c_X7_marginOf {G : hp_G} {l : Launch} (hl : l.stackTraces = false) {n0 : Nat} {h0 : Nat → Option va_E} {x L0 : Nat} {M : mk_T} {B : mk_T} {Z : mk_T} {mk : Nat → mk_T} {nx : Nat} {cnt : Nat} {t : Nat → Nat} {n : Nat} {lt : Nat → Nat} {ln : Nat} {hs : Int32} {ma : Int32} {fa : Int32} {rk : Nat → Option va_E} (E0 : Ex G h0 x L0 M B Z mk nx cnt t n lt ln hs ma fa rk) (hL : L0 ≤ n0) (i : Int32) : Ct G l yX7_marginOf cX7_marginOf 2 (some .int) 8 1 6 [.ref x, .int i] (n0, h0) (fun o τ => o = qa (hp_num i (mk_tr M)) xI (rI (mk_ms M i (2 ^ mk_hz M))) ∧ Fx G n0 h0 x L0 M B Z mk nx cnt t n lt ln hs ma fa rk τ.1 τ.2) := by
  have F0 := Fx.start E0 hL
  have hhz := E0.m.hz
  have htr := E0.m.tr
  have hct := E0.m.ct
  have hbase := E0.base
  have hl0 := E0.l0
  refine Ct.of rfl hl (by simp [Value.category]) (Nat.le_of_ble_eq_true rfl) (fun K C E hRm hKl => ?_)
  subst hKl
  refine v_iload_n C dX7_marginOf_0 rfl ?_
  refine v_aload_n C dX7_marginOf_1 rfl ?_
  refine v_get C 0 dX7_marginOf_2 wd2_17 F0.1.o rfl (by decide) ⟨rfl, rfl, rfl⟩ rfl ?_
  refine v_getN (v := .int (nI (mk_tr M))) C 4 dX7_marginOf_5 wd1_59 F0.1.m.o rfl (by decide) ⟨rfl, rfl, rfl⟩ rfl ?_
  refine v_callSx C (c_X7_needNumber hl i (mk_tr M)) dX7_marginOf_8 mX7_needNumber wd4_82 rfl rfl (Nat.le_of_ble_eq_true rfl) (hp_rmle hRm (by decide) (by decide)) (Nat.le_of_ble_eq_true rfl) (Nat.le_of_ble_eq_true rfl) (fun e8 t8 q8 => ?_) (fun v8 t8 q8 => ?_)
  · obtain ⟨n8, h8⟩ := t8
    obtain ⟨c8, z8, y8, x8⟩ := q8.resolve_left (fun z => by cases z.2.1)
    have x8 := Eq.symm x8
    cases z8
    subst x8
    exact v_xout C E ⟨(if_neg c8).symm, F0.up y8⟩
  obtain ⟨c8, z8, y8⟩ := q8.resolve_right (fun z => by cases z.2.1)
  cases z8
  subst y8
  refine v_aload_n C dX7_marginOf_11 rfl ?_
  refine v_get C 0 dX7_marginOf_12 wd2_17 F0.1.o rfl (by decide) ⟨rfl, rfl, rfl⟩ rfl ?_
  refine v_iload_n C dX7_marginOf_15 rfl ?_
  refine v_callVi C (c_X4_marginOverScenarios hl F0.1.m i) dX7_marginOf_16 mX4_marginOverScenarios rfl F0.1.m.o rfl wd3_201 rfl rfl (Nat.le_of_ble_eq_true rfl) (hp_rmle hRm (by decide) (by decide)) (Nat.le_of_ble_eq_true rfl) (Nat.le_of_ble_eq_true rfl) ?_
  exact v_iret C E dX7_marginOf_19 rfl ⟨(if_pos c8).symm, F0⟩
set_option maxHeartbeats 8000000 in
/-- marginByPositions -/
theorem c_X7_marginByPositions {G : hp_G} {l : Launch} (hl : l.stackTraces = false) {n0 : Nat} {h0 : Nat → Option va_E} {x L0 : Nat} {M : mk_T} {B : mk_T} {Z : mk_T} {mk : Nat → mk_T} {nx : Nat} {cnt : Nat} {t : Nat → Nat} {n : Nat} {lt : Nat → Nat} {ln : Nat} {hs : Int32} {ma : Int32} {fa : Int32} {rk : Nat → Option va_E} (E0 : Ex G h0 x L0 M B Z mk nx cnt t n lt ln hs ma fa rk) (hL : L0 ≤ n0) (i : Int32) : Ct G l yX7_marginByPositions cX7_marginByPositions 2 (some .int) 8 1 6 [.ref x, .int i] (n0, h0) (fun o τ => o = qa (hp_num i (mk_tr M)) xI (rI (mk_mg M i (mk_hz M))) ∧ Fx G n0 h0 x L0 M B Z mk nx cnt t n lt ln hs ma fa rk τ.1 τ.2) := by
  have F0 := Fx.start E0 hL
  have hhz := E0.m.hz
  have htr := E0.m.tr
  have hct := E0.m.ct
  have hbase := E0.base
  have hl0 := E0.l0
  refine Ct.of rfl hl (by simp [Value.category]) (Nat.le_of_ble_eq_true rfl) (fun K C E hRm hKl => ?_)
  subst hKl
  refine v_iload_n C dX7_marginByPositions_0 rfl ?_
  refine v_aload_n C dX7_marginByPositions_1 rfl ?_
  refine v_get C 0 dX7_marginByPositions_2 wd2_17 F0.1.o rfl (by decide) ⟨rfl, rfl, rfl⟩ rfl ?_
  refine v_getN (v := .int (nI (mk_tr M))) C 4 dX7_marginByPositions_5 wd1_59 F0.1.m.o rfl (by decide) ⟨rfl, rfl, rfl⟩ rfl ?_
  refine v_callSx C (c_X7_needNumber hl i (mk_tr M)) dX7_marginByPositions_8 mX7_needNumber wd4_82 rfl rfl (Nat.le_of_ble_eq_true rfl) (hp_rmle hRm (by decide) (by decide)) (Nat.le_of_ble_eq_true rfl) (Nat.le_of_ble_eq_true rfl) (fun e8 t8 q8 => ?_) (fun v8 t8 q8 => ?_)
  · obtain ⟨n8, h8⟩ := t8
    obtain ⟨c8, z8, y8, x8⟩ := q8.resolve_left (fun z => by cases z.2.1)
    have x8 := Eq.symm x8
    cases z8
    subst x8
    exact v_xout C E ⟨(if_neg c8).symm, F0.up y8⟩
  obtain ⟨c8, z8, y8⟩ := q8.resolve_right (fun z => by cases z.2.1)
  cases z8
  subst y8
  refine v_aload_n C dX7_marginByPositions_11 rfl ?_
  refine v_get C 0 dX7_marginByPositions_12 wd2_17 F0.1.o rfl (by decide) ⟨rfl, rfl, rfl⟩ rfl ?_
  refine v_iload_n C dX7_marginByPositions_15 rfl ?_
  refine v_callVi C (c_X4_margin hl F0.1.m i) dX7_marginByPositions_16 mX4_margin rfl F0.1.m.o rfl wd3_206 rfl rfl (Nat.le_of_ble_eq_true rfl) (hp_rmle hRm (by decide) (by decide)) (Nat.le_of_ble_eq_true rfl) (Nat.le_of_ble_eq_true rfl) ?_
  exact v_iret C E dX7_marginByPositions_19 rfl ⟨(if_pos c8).symm, F0⟩
set_option maxHeartbeats 8000000 in
/-- variationOf -/
theorem c_X7_variationOf {G : hp_G} {l : Launch} (hl : l.stackTraces = false) {n0 : Nat} {h0 : Nat → Option va_E} {x L0 : Nat} {M : mk_T} {B : mk_T} {Z : mk_T} {mk : Nat → mk_T} {nx : Nat} {cnt : Nat} {t : Nat → Nat} {n : Nat} {lt : Nat → Nat} {ln : Nat} {hs : Int32} {ma : Int32} {fa : Int32} {rk : Nat → Option va_E} (E0 : Ex G h0 x L0 M B Z mk nx cnt t n lt ln hs ma fa rk) (hL : L0 ≤ n0) (i : Int32) : Ct G l yX7_variationOf cX7_variationOf 2 (some .int) 8 1 6 [.ref x, .int i] (n0, h0) (fun o τ => o = qa (hp_num i (mk_tr M)) xI (rI (mk_va M i (mk_hz M))) ∧ Fx G n0 h0 x L0 M B Z mk nx cnt t n lt ln hs ma fa rk τ.1 τ.2) := by
  have F0 := Fx.start E0 hL
  have hhz := E0.m.hz
  have htr := E0.m.tr
  have hct := E0.m.ct
  have hbase := E0.base
  have hl0 := E0.l0
  refine Ct.of rfl hl (by simp [Value.category]) (Nat.le_of_ble_eq_true rfl) (fun K C E hRm hKl => ?_)
  subst hKl
  refine v_iload_n C dX7_variationOf_0 rfl ?_
  refine v_aload_n C dX7_variationOf_1 rfl ?_
  refine v_get C 0 dX7_variationOf_2 wd2_17 F0.1.o rfl (by decide) ⟨rfl, rfl, rfl⟩ rfl ?_
  refine v_getN (v := .int (nI (mk_tr M))) C 4 dX7_variationOf_5 wd1_59 F0.1.m.o rfl (by decide) ⟨rfl, rfl, rfl⟩ rfl ?_
  refine v_callSx C (c_X7_needNumber hl i (mk_tr M)) dX7_variationOf_8 mX7_needNumber wd4_82 rfl rfl (Nat.le_of_ble_eq_true rfl) (hp_rmle hRm (by decide) (by decide)) (Nat.le_of_ble_eq_true rfl) (Nat.le_of_ble_eq_true rfl) (fun e8 t8 q8 => ?_) (fun v8 t8 q8 => ?_)
  · obtain ⟨n8, h8⟩ := t8
    obtain ⟨c8, z8, y8, x8⟩ := q8.resolve_left (fun z => by cases z.2.1)
    have x8 := Eq.symm x8
    cases z8
    subst x8
    exact v_xout C E ⟨(if_neg c8).symm, F0.up y8⟩
  obtain ⟨c8, z8, y8⟩ := q8.resolve_right (fun z => by cases z.2.1)
  cases z8
  subst y8
  refine v_aload_n C dX7_variationOf_11 rfl ?_
  refine v_get C 0 dX7_variationOf_12 wd2_17 F0.1.o rfl (by decide) ⟨rfl, rfl, rfl⟩ rfl ?_
  refine v_iload_n C dX7_variationOf_15 rfl ?_
  refine v_callVi C (c_X4_variation hl F0.1.m i) dX7_variationOf_16 mX4_variation rfl F0.1.m.o rfl wd4_195 rfl rfl (Nat.le_of_ble_eq_true rfl) (hp_rmle hRm (by decide) (by decide)) (Nat.le_of_ble_eq_true rfl) (Nat.le_of_ble_eq_true rfl) ?_
  exact v_iret C E dX7_variationOf_19 rfl ⟨(if_pos c8).symm, F0⟩

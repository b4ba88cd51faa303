/-! ===== THE MODEL: properties by number ===== -/
set_option maxHeartbeats 8000000 in
/-- priceOf -/
theorem c_X8_priceOf {G : hp_G} {l : Launch} (hl : l.stackTraces = false) {n0 : Nat} {h0 : Nat → Option va_E} {y : Nat} {S : mo_T} (hS : Mo G h0 y S) {M : mk_T} (hg : Gr (S.1 0) M) (i : Int32) : Ct G l yX8_priceOf cX8_priceOf 2 (some .int) 3 0 0 [.ref y, .int i] (n0, h0) (hp_iq (fun r τ => r = (if hp_num i (mk_hz M) then mk_ar M 0 i.toNatClampNeg else nI 0) ∧ τ.1 = n0 ∧ Mo G τ.2 y (mo_si S 3 (mo_cd (hp_num i (mk_hz M)))) ∧ ∀ a, (a < y ∨ y + 13 ≤ a) → τ.2 a = h0 a)) := by
  have hbase := hS.base
  have hhz := hg.hz
  have htr := hg.tr
  have hct := hg.ct
  refine Ct.of rfl hl (by simp [Value.category]) (Nat.le_of_ble_eq_true rfl) (fun K C E hRm hKl => ?_)
  subst hKl
  refine v_aload_n C dX8_priceOf_0 rfl ?_
  refine v_iload_n C dX8_priceOf_1 rfl ?_
  refine v_iconst (v := nI 0) C dX8_priceOf_2 (by decide) ?_
  refine v_callVq C (c_X8_ofHorizon0 hl hS hg i) dX8_priceOf_3 mX8_ofHorizon rfl hS.o rfl wd7_216 rfl rfl (Nat.le_of_ble_eq_true rfl) (hp_rmle hRm (by decide) (by decide)) (Nat.le_of_ble_eq_true rfl) (Nat.le_of_ble_eq_true rfl) (fun r3 n3 h3 q3 => ?_)
  obtain ⟨e3, k3, Y3, W3⟩ := q3
  have z3 := Eq.symm k3
  have z3 : n0 = n3 := z3
  subst z3
  exact v_iret C E dX8_priceOf_6 rfl ⟨_, rfl, e3, rfl, Y3, W3⟩
set_option maxHeartbeats 8000000 in
/-- quoteOf -/
theorem c_X8_quoteOf {G : hp_G} {l : Launch} (hl : l.stackTraces = false) {n0 : Nat} {h0 : Nat → Option va_E} {y : Nat} {S : mo_T} (hS : Mo G h0 y S) {M : mk_T} (hg : Gr (S.1 0) M) (i : Int32) : Ct G l yX8_quoteOf cX8_quoteOf 2 (some .int) 3 0 0 [.ref y, .int i] (n0, h0) (hp_iq (fun r τ => r = (if hp_num i (mk_hz M) then mk_ar M 1 i.toNatClampNeg else nI 0) ∧ τ.1 = n0 ∧ Mo G τ.2 y (mo_si S 3 (mo_cd (hp_num i (mk_hz M)))) ∧ ∀ a, (a < y ∨ y + 13 ≤ a) → τ.2 a = h0 a)) := by
  have hbase := hS.base
  have hhz := hg.hz
  have htr := hg.tr
  have hct := hg.ct
  refine Ct.of rfl hl (by simp [Value.category]) (Nat.le_of_ble_eq_true rfl) (fun K C E hRm hKl => ?_)
  subst hKl
  refine v_aload_n C dX8_quoteOf_0 rfl ?_
  refine v_iload_n C dX8_quoteOf_1 rfl ?_
  refine v_iconst (v := nI 1) C dX8_quoteOf_2 (by decide) ?_
  refine v_callVq C (c_X8_ofHorizon1 hl hS hg i) dX8_quoteOf_3 mX8_ofHorizon rfl hS.o rfl wd7_216 rfl rfl (Nat.le_of_ble_eq_true rfl) (hp_rmle hRm (by decide) (by decide)) (Nat.le_of_ble_eq_true rfl) (Nat.le_of_ble_eq_true rfl) (fun r3 n3 h3 q3 => ?_)
  obtain ⟨e3, k3, Y3, W3⟩ := q3
  have z3 := Eq.symm k3
  have z3 : n0 = n3 := z3
  subst z3
  exact v_iret C E dX8_quoteOf_6 rfl ⟨_, rfl, e3, rfl, Y3, W3⟩
set_option maxHeartbeats 8000000 in
/-- rangeOf -/
theorem c_X8_rangeOf {G : hp_G} {l : Launch} (hl : l.stackTraces = false) {n0 : Nat} {h0 : Nat → Option va_E} {y : Nat} {S : mo_T} (hS : Mo G h0 y S) {M : mk_T} (hg : Gr (S.1 0) M) (i : Int32) : Ct G l yX8_rangeOf cX8_rangeOf 2 (some .int) 3 0 0 [.ref y, .int i] (n0, h0) (hp_iq (fun r τ => r = (if hp_num i (mk_hz M) then mk_ar M 2 i.toNatClampNeg else nI 0) ∧ τ.1 = n0 ∧ Mo G τ.2 y (mo_si S 3 (mo_cd (hp_num i (mk_hz M)))) ∧ ∀ a, (a < y ∨ y + 13 ≤ a) → τ.2 a = h0 a)) := by
  have hbase := hS.base
  have hhz := hg.hz
  have htr := hg.tr
  have hct := hg.ct
  refine Ct.of rfl hl (by simp [Value.category]) (Nat.le_of_ble_eq_true rfl) (fun K C E hRm hKl => ?_)
  subst hKl
  refine v_aload_n C dX8_rangeOf_0 rfl ?_
  refine v_iload_n C dX8_rangeOf_1 rfl ?_
  refine v_iconst (v := nI 2) C dX8_rangeOf_2 (by decide) ?_
  refine v_callVq C (c_X8_ofHorizon2 hl hS hg i) dX8_rangeOf_3 mX8_ofHorizon rfl hS.o rfl wd7_216 rfl rfl (Nat.le_of_ble_eq_true rfl) (hp_rmle hRm (by decide) (by decide)) (Nat.le_of_ble_eq_true rfl) (Nat.le_of_ble_eq_true rfl) (fun r3 n3 h3 q3 => ?_)
  obtain ⟨e3, k3, Y3, W3⟩ := q3
  have z3 := Eq.symm k3
  have z3 : n0 = n3 := z3
  subst z3
  exact v_iret C E dX8_rangeOf_6 rfl ⟨_, rfl, e3, rfl, Y3, W3⟩
set_option maxHeartbeats 8000000 in
/-- moneyOf -/
theorem c_X8_moneyOf {G : hp_G} {l : Launch} (hl : l.stackTraces = false) {n0 : Nat} {h0 : Nat → Option va_E} {y : Nat} {S : mo_T} (hS : Mo G h0 y S) {M : mk_T} (hg : Gr (S.1 0) M) (i : Int32) : Ct G l yX8_moneyOf cX8_moneyOf 2 (some .int) 3 0 0 [.ref y, .int i] (n0, h0) (hp_iq (fun r τ => r = (if hp_num i (mk_tr M) then mk_ar M 3 i.toNatClampNeg else nI 0) ∧ τ.1 = n0 ∧ Mo G τ.2 y (mo_si S 3 (mo_cd (hp_num i (mk_tr M)))) ∧ ∀ a, (a < y ∨ y + 13 ≤ a) → τ.2 a = h0 a)) := by
  have hbase := hS.base
  have hhz := hg.hz
  have htr := hg.tr
  have hct := hg.ct
  refine Ct.of rfl hl (by simp [Value.category]) (Nat.le_of_ble_eq_true rfl) (fun K C E hRm hKl => ?_)
  subst hKl
  refine v_aload_n C dX8_moneyOf_0 rfl ?_
  refine v_iload_n C dX8_moneyOf_1 rfl ?_
  refine v_iconst (v := nI 0) C dX8_moneyOf_2 (by decide) ?_
  refine v_callVq C (c_X8_ofTrader0 hl hS hg i) dX8_moneyOf_3 mX8_ofTrader rfl hS.o rfl wd7_236 rfl rfl (Nat.le_of_ble_eq_true rfl) (hp_rmle hRm (by decide) (by decide)) (Nat.le_of_ble_eq_true rfl) (Nat.le_of_ble_eq_true rfl) (fun r3 n3 h3 q3 => ?_)
  obtain ⟨e3, k3, Y3, W3⟩ := q3
  have z3 := Eq.symm k3
  have z3 : n0 = n3 := z3
  subst z3
  exact v_iret C E dX8_moneyOf_6 rfl ⟨_, rfl, e3, rfl, Y3, W3⟩
set_option maxHeartbeats 8000000 in
/-- buyerOf -/
theorem c_X8_buyerOf {G : hp_G} {l : Launch} (hl : l.stackTraces = false) {n0 : Nat} {h0 : Nat → Option va_E} {y : Nat} {S : mo_T} (hS : Mo G h0 y S) {M : mk_T} (hg : Gr (S.1 0) M) (i : Int32) : Ct G l yX8_buyerOf cX8_buyerOf 2 (some .int) 3 0 0 [.ref y, .int i] (n0, h0) (hp_iq (fun r τ => r = (if hp_num i (mk_ct M) then mk_ar M 5 i.toNatClampNeg else nI 0) ∧ τ.1 = n0 ∧ Mo G τ.2 y (mo_si S 3 (mo_cd (hp_num i (mk_ct M)))) ∧ ∀ a, (a < y ∨ y + 13 ≤ a) → τ.2 a = h0 a)) := by
  have hbase := hS.base
  have hhz := hg.hz
  have htr := hg.tr
  have hct := hg.ct
  refine Ct.of rfl hl (by simp [Value.category]) (Nat.le_of_ble_eq_true rfl) (fun K C E hRm hKl => ?_)
  subst hKl
  refine v_aload_n C dX8_buyerOf_0 rfl ?_
  refine v_iload_n C dX8_buyerOf_1 rfl ?_
  refine v_iconst (v := nI 0) C dX8_buyerOf_2 (by decide) ?_
  refine v_callVq C (c_X8_ofContract0 hl hS hg i) dX8_buyerOf_3 mX8_ofContract rfl hS.o rfl wd8_24 rfl rfl (Nat.le_of_ble_eq_true rfl) (hp_rmle hRm (by decide) (by decide)) (Nat.le_of_ble_eq_true rfl) (Nat.le_of_ble_eq_true rfl) (fun r3 n3 h3 q3 => ?_)
  obtain ⟨e3, k3, Y3, W3⟩ := q3
  have z3 := Eq.symm k3
  have z3 : n0 = n3 := z3
  subst z3
  exact v_iret C E dX8_buyerOf_6 rfl ⟨_, rfl, e3, rfl, Y3, W3⟩
set_option maxHeartbeats 8000000 in
/-- sellerOf -/
theorem c_X8_sellerOf {G : hp_G} {l : Launch} (hl : l.stackTraces = false) {n0 : Nat} {h0 : Nat → Option va_E} {y : Nat} {S : mo_T} (hS : Mo G h0 y S) {M : mk_T} (hg : Gr (S.1 0) M) (i : Int32) : Ct G l yX8_sellerOf cX8_sellerOf 2 (some .int) 3 0 0 [.ref y, .int i] (n0, h0) (hp_iq (fun r τ => r = (if hp_num i (mk_ct M) then mk_ar M 6 i.toNatClampNeg else nI 0) ∧ τ.1 = n0 ∧ Mo G τ.2 y (mo_si S 3 (mo_cd (hp_num i (mk_ct M)))) ∧ ∀ a, (a < y ∨ y + 13 ≤ a) → τ.2 a = h0 a)) := by
  have hbase := hS.base
  have hhz := hg.hz
  have htr := hg.tr
  have hct := hg.ct
  refine Ct.of rfl hl (by simp [Value.category]) (Nat.le_of_ble_eq_true rfl) (fun K C E hRm hKl => ?_)
  subst hKl
  refine v_aload_n C dX8_sellerOf_0 rfl ?_
  refine v_iload_n C dX8_sellerOf_1 rfl ?_
  refine v_iconst (v := nI 1) C dX8_sellerOf_2 (by decide) ?_
  refine v_callVq C (c_X8_ofContract1 hl hS hg i) dX8_sellerOf_3 mX8_ofContract rfl hS.o rfl wd8_24 rfl rfl (Nat.le_of_ble_eq_true rfl) (hp_rmle hRm (by decide) (by decide)) (Nat.le_of_ble_eq_true rfl) (Nat.le_of_ble_eq_true rfl) (fun r3 n3 h3 q3 => ?_)
  obtain ⟨e3, k3, Y3, W3⟩ := q3
  have z3 := Eq.symm k3
  have z3 : n0 = n3 := z3
  subst z3
  exact v_iret C E dX8_sellerOf_6 rfl ⟨_, rfl, e3, rfl, Y3, W3⟩
set_option maxHeartbeats 8000000 in
/-- horizonOf -/
theorem c_X8_horizonOf {G : hp_G} {l : Launch} (hl : l.stackTraces = false) {n0 : Nat} {h0 : Nat → Option va_E} {y : Nat} {S : mo_T} (hS : Mo G h0 y S) {M : mk_T} (hg : Gr (S.1 0) M) (i : Int32) : Ct G l yX8_horizonOf cX8_horizonOf 2 (some .int) 3 0 0 [.ref y, .int i] (n0, h0) (hp_iq (fun r τ => r = (if hp_num i (mk_ct M) then mk_ar M 7 i.toNatClampNeg else nI 0) ∧ τ.1 = n0 ∧ Mo G τ.2 y (mo_si S 3 (mo_cd (hp_num i (mk_ct M)))) ∧ ∀ a, (a < y ∨ y + 13 ≤ a) → τ.2 a = h0 a)) := by
  have hbase := hS.base
  have hhz := hg.hz
  have htr := hg.tr
  have hct := hg.ct
  refine Ct.of rfl hl (by simp [Value.category]) (Nat.le_of_ble_eq_true rfl) (fun K C E hRm hKl => ?_)
  subst hKl
  refine v_aload_n C dX8_horizonOf_0 rfl ?_
  refine v_iload_n C dX8_horizonOf_1 rfl ?_
  refine v_iconst (v := nI 2) C dX8_horizonOf_2 (by decide) ?_
  refine v_callVq C (c_X8_ofContract2 hl hS hg i) dX8_horizonOf_3 mX8_ofContract rfl hS.o rfl wd8_24 rfl rfl (Nat.le_of_ble_eq_true rfl) (hp_rmle hRm (by decide) (by decide)) (Nat.le_of_ble_eq_true rfl) (Nat.le_of_ble_eq_true rfl) (fun r3 n3 h3 q3 => ?_)
  obtain ⟨e3, k3, Y3, W3⟩ := q3
  have z3 := Eq.symm k3
  have z3 : n0 = n3 := z3
  subst z3
  exact v_iret C E dX8_horizonOf_6 rfl ⟨_, rfl, e3, rfl, Y3, W3⟩
set_option maxHeartbeats 8000000 in
/-- quantityOf -/
theorem c_X8_quantityOf {G : hp_G} {l : Launch} (hl : l.stackTraces = false) {n0 : Nat} {h0 : Nat → Option va_E} {y : Nat} {S : mo_T} (hS : Mo G h0 y S) {M : mk_T} (hg : Gr (S.1 0) M) (i : Int32) : Ct G l yX8_quantityOf cX8_quantityOf 2 (some .int) 3 0 0 [.ref y, .int i] (n0, h0) (hp_iq (fun r τ => r = (if hp_num i (mk_ct M) then mk_ar M 8 i.toNatClampNeg else nI 0) ∧ τ.1 = n0 ∧ Mo G τ.2 y (mo_si S 3 (mo_cd (hp_num i (mk_ct M)))) ∧ ∀ a, (a < y ∨ y + 13 ≤ a) → τ.2 a = h0 a)) := by
  have hbase := hS.base
  have hhz := hg.hz
  have htr := hg.tr
  have hct := hg.ct
  refine Ct.of rfl hl (by simp [Value.category]) (Nat.le_of_ble_eq_true rfl) (fun K C E hRm hKl => ?_)
  subst hKl
  refine v_aload_n C dX8_quantityOf_0 rfl ?_
  refine v_iload_n C dX8_quantityOf_1 rfl ?_
  refine v_iconst (v := nI 3) C dX8_quantityOf_2 (by decide) ?_
  refine v_callVq C (c_X8_ofContract3 hl hS hg i) dX8_quantityOf_3 mX8_ofContract rfl hS.o rfl wd8_24 rfl rfl (Nat.le_of_ble_eq_true rfl) (hp_rmle hRm (by decide) (by decide)) (Nat.le_of_ble_eq_true rfl) (Nat.le_of_ble_eq_true rfl) (fun r3 n3 h3 q3 => ?_)
  obtain ⟨e3, k3, Y3, W3⟩ := q3
  have z3 := Eq.symm k3
  have z3 : n0 = n3 := z3
  subst z3
  exact v_iret C E dX8_quantityOf_6 rfl ⟨_, rfl, e3, rfl, Y3, W3⟩
theorem hp_b_1 {p : Prop} [Decidable p] : hp_b p = nI 1 ↔ p := by
  by_cases z : p
  · rw [hp_b_t z]
    exact ⟨fun _ => z, fun _ => rfl⟩
  · rw [hp_b_f z]
    exact ⟨fun y => absurd y (by decide), fun y => absurd y z⟩
set_option maxHeartbeats 8000000 in
/-- isCalled -/
theorem c_X8_isCalled {G : hp_G} {l : Launch} (hl : l.stackTraces = false) {n0 : Nat} {h0 : Nat → Option va_E} {y : Nat} {S : mo_T} (hS : Mo G h0 y S) {M : mk_T} (hg : Gr (S.1 0) M) (i : Int32) : Ct G l yX8_isCalled cX8_isCalled 2 (some .boolean) 3 0 0 [.ref y, .int i] (n0, h0) (hp_iq (fun r τ => r = hp_b (hp_num i (mk_tr M) ∧ mk_ar M 4 i.toNatClampNeg = nI 1) ∧ τ.1 = n0 ∧ Mo G τ.2 y (mo_si S 3 (mo_cd (hp_num i (mk_tr M)))) ∧ ∀ a, (a < y ∨ y + 13 ≤ a) → τ.2 a = h0 a)) := by
  have hbase := hS.base
  have hhz := hg.hz
  have htr := hg.tr
  have hct := hg.ct
  refine Ct.of rfl hl (by simp [Value.category]) (Nat.le_of_ble_eq_true rfl) (fun K C E hRm hKl => ?_)
  subst hKl
  refine v_aload_n C dX8_isCalled_0 rfl ?_
  refine v_iload_n C dX8_isCalled_1 rfl ?_
  refine v_iconst (v := nI 1) C dX8_isCalled_2 (by decide) ?_
  refine v_callVq C (c_X8_ofTrader1 hl hS hg i) dX8_isCalled_3 mX8_ofTrader rfl hS.o rfl wd7_236 rfl rfl (Nat.le_of_ble_eq_true rfl) (hp_rmle hRm (by decide) (by decide)) (Nat.le_of_ble_eq_true rfl) (Nat.le_of_ble_eq_true rfl) (fun r3 n3 h3 q3 => ?_)
  obtain ⟨e3, k3, Y3, W3⟩ := q3
  have z3 := Eq.symm k3
  have z3 : n0 = n3 := z3
  subst z3
  refine v_iconst (v := nI 1) C dX8_isCalled_6 (by decide) ?_
  refine v_icmp_ne (tgt := 14) C dX8_isCalled_7 (by decide) (fun c7 => ?_) (fun c7 => ?_)
  · have hs : ¬ (hp_num i (mk_tr M) ∧ mk_ar M 4 i.toNatClampNeg = nI 1) := fun z => c7 (e3.trans ((if_pos z.1).trans (hp_b_t z.2)))
    refine v_iconst (v := nI 0) C dX8_isCalled_14 (by decide) ?_
    exact v_zret C E dX8_isCalled_15 rfl rfl ⟨_, rfl, by first | exact (hp_b_t hs).symm | exact (hp_b_f hs).symm, rfl, Y3, W3⟩
  · have hs : (hp_num i (mk_tr M) ∧ mk_ar M 4 i.toNatClampNeg = nI 1) := by
        by_cases z : hp_num i (mk_tr M)
        · exact ⟨z, hp_b_1.mp ((e3.trans (if_pos z)).symm.trans c7)⟩
        · exact absurd ((e3.trans (if_neg z)).symm.trans c7) (by decide)
    refine v_iconst (v := nI 1) C dX8_isCalled_10 (by decide) ?_
    refine v_goto (tgt := 15) C dX8_isCalled_11 (by decide) ?_
    exact v_zret C E dX8_isCalled_15 rfl rfl ⟨_, rfl, by first | exact (hp_b_t hs).symm | exact (hp_b_f hs).symm, rfl, Y3, W3⟩
set_option maxHeartbeats 8000000 in
/-- hasDefaulted -/
theorem c_X8_hasDefaulted {G : hp_G} {l : Launch} (hl : l.stackTraces = false) {n0 : Nat} {h0 : Nat → Option va_E} {y : Nat} {S : mo_T} (hS : Mo G h0 y S) {M : mk_T} (hg : Gr (S.1 0) M) (i : Int32) : Ct G l yX8_hasDefaulted cX8_hasDefaulted 2 (some .boolean) 3 0 0 [.ref y, .int i] (n0, h0) (hp_iq (fun r τ => r = hp_b (hp_num i (mk_tr M) ∧ mk_ar M 4 i.toNatClampNeg = nI 2) ∧ τ.1 = n0 ∧ Mo G τ.2 y (mo_si S 3 (mo_cd (hp_num i (mk_tr M)))) ∧ ∀ a, (a < y ∨ y + 13 ≤ a) → τ.2 a = h0 a)) := by
  have hbase := hS.base
  have hhz := hg.hz
  have htr := hg.tr
  have hct := hg.ct
  refine Ct.of rfl hl (by simp [Value.category]) (Nat.le_of_ble_eq_true rfl) (fun K C E hRm hKl => ?_)
  subst hKl
  refine v_aload_n C dX8_hasDefaulted_0 rfl ?_
  refine v_iload_n C dX8_hasDefaulted_1 rfl ?_
  refine v_iconst (v := nI 2) C dX8_hasDefaulted_2 (by decide) ?_
  refine v_callVq C (c_X8_ofTrader2 hl hS hg i) dX8_hasDefaulted_3 mX8_ofTrader rfl hS.o rfl wd7_236 rfl rfl (Nat.le_of_ble_eq_true rfl) (hp_rmle hRm (by decide) (by decide)) (Nat.le_of_ble_eq_true rfl) (Nat.le_of_ble_eq_true rfl) (fun r3 n3 h3 q3 => ?_)
  obtain ⟨e3, k3, Y3, W3⟩ := q3
  have z3 := Eq.symm k3
  have z3 : n0 = n3 := z3
  subst z3
  refine v_iconst (v := nI 1) C dX8_hasDefaulted_6 (by decide) ?_
  refine v_icmp_ne (tgt := 14) C dX8_hasDefaulted_7 (by decide) (fun c7 => ?_) (fun c7 => ?_)
  · have hs : ¬ (hp_num i (mk_tr M) ∧ mk_ar M 4 i.toNatClampNeg = nI 2) := fun z => c7 (e3.trans ((if_pos z.1).trans (hp_b_t z.2)))
    refine v_iconst (v := nI 0) C dX8_hasDefaulted_14 (by decide) ?_
    exact v_zret C E dX8_hasDefaulted_15 rfl rfl ⟨_, rfl, by first | exact (hp_b_t hs).symm | exact (hp_b_f hs).symm, rfl, Y3, W3⟩
  · have hs : (hp_num i (mk_tr M) ∧ mk_ar M 4 i.toNatClampNeg = nI 2) := by
        by_cases z : hp_num i (mk_tr M)
        · exact ⟨z, hp_b_1.mp ((e3.trans (if_pos z)).symm.trans c7)⟩
        · exact absurd ((e3.trans (if_neg z)).symm.trans c7) (by decide)
    refine v_iconst (v := nI 1) C dX8_hasDefaulted_10 (by decide) ?_
    refine v_goto (tgt := 15) C dX8_hasDefaulted_11 (by decide) ?_
    exact v_zret C E dX8_hasDefaulted_15 rfl rfl ⟨_, rfl, by first | exact (hp_b_t hs).symm | exact (hp_b_f hs).symm, rfl, Y3, W3⟩
set_option maxHeartbeats 8000000 in
/-- daysLeft -/
theorem c_X8_daysLeft {G : hp_G} {l : Launch} (hl : l.stackTraces = false) {n0 : Nat} {h0 : Nat → Option va_E} {y : Nat} {S : mo_T} (hS : Mo G h0 y S) {M : mk_T} (hg : Gr (S.1 0) M) (i : Int32) : Ct G l yX8_daysLeft cX8_daysLeft 2 (some .int) 2 0 0 [.ref y, .int i] (n0, h0) (hp_iq (fun r τ => r = (if hp_num i (mk_ct M) then mk_ar M 9 i.toNatClampNeg - M.2.2.1.1 else nI 0) ∧ τ.1 = n0 ∧ Mo G τ.2 y (mo_si S 3 (mo_cd (hp_num i (mk_ct M)))) ∧ ∀ a, (a < y ∨ y + 13 ≤ a) → τ.2 a = h0 a)) := by
  have hbase := hS.base
  have hhz := hg.hz
  have htr := hg.tr
  have hct := hg.ct
  refine Ct.of rfl hl (by simp [Value.category]) (Nat.le_of_ble_eq_true rfl) (fun K C E hRm hKl => ?_)
  subst hKl
  refine v_aload_n C dX8_daysLeft_0 rfl ?_
  refine v_aload_n C dX8_daysLeft_1 rfl ?_
  refine v_iload_n C dX8_daysLeft_2 rfl ?_
  refine v_callVi C (c_X8_isContract hl hS hg i) dX8_daysLeft_3 mX8_isContract rfl hS.o rfl wd8_28 rfl rfl (Nat.le_of_ble_eq_true rfl) (hp_rmle hRm (by decide) (by decide)) (Nat.le_of_ble_eq_true rfl) (Nat.le_of_ble_eq_true rfl) ?_
  refine v_if_eqB (tgt := 13) C dX8_daysLeft_6 (by decide) (fun c6 => ?_) (fun c6 => ?_)
  · refine v_iconst (v := nI 1) C dX8_daysLeft_13 (by decide) ?_
    refine v_callVq C (c_X8_fails hl hS (nI 1)) dX8_daysLeft_14 mX8_fails rfl hS.o rfl wd7_82 rfl rfl (Nat.le_of_ble_eq_true rfl) (hp_rmle hRm (by decide) (by decide)) (Nat.le_of_ble_eq_true rfl) (Nat.le_of_ble_eq_true rfl) (fun r14 n14 h14 q14 => ?_)
    obtain ⟨e14, k14, Y14, W14⟩ := q14
    have z14 := Eq.symm k14
    have z14 : n0 = n14 := z14
    subst z14
    subst e14
    refine v_if_eqB (tgt := 24) C dX8_daysLeft_17 (by decide) (fun c17 => absurd c17 (fun z => z (by decide))) (fun c17 => ?_)
    refine v_iconst (v := nI 0) C dX8_daysLeft_20 (by decide) ?_
    refine v_goto (tgt := 37) C dX8_daysLeft_21 (by decide) ?_
    exact v_iret C E dX8_daysLeft_37 rfl ⟨_, rfl, (if_neg c6).symm, rfl, by rw [show mo_cd _ = _ from if_neg c6]; exact Y14, W14⟩
  · obtain ⟨j, hj, hij⟩ := hp_num_j c6 (by omega)
    have ed : i.toNatClampNeg = j := by rw [hij]; exact nI_clamp (by omega)
    refine v_iconst (v := nI 0) C dX8_daysLeft_9 (by decide) ?_
    refine v_goto (tgt := 14) C dX8_daysLeft_10 (by decide) ?_
    refine v_callVq C (c_X8_fails hl hS (nI 0)) dX8_daysLeft_14 mX8_fails rfl hS.o rfl wd7_82 rfl rfl (Nat.le_of_ble_eq_true rfl) (hp_rmle hRm (by decide) (by decide)) (Nat.le_of_ble_eq_true rfl) (Nat.le_of_ble_eq_true rfl) (fun r14 n14 h14 q14 => ?_)
    obtain ⟨e14, k14, Y14, W14⟩ := q14
    have z14 := Eq.symm k14
    have z14 : n0 = n14 := z14
    subst z14
    subst e14
    refine v_if_eqB (tgt := 24) C dX8_daysLeft_17 (by decide) (fun c17 => ?_) (fun c17 => absurd c17 (by decide))
    refine v_aload_n C dX8_daysLeft_24 rfl ?_
    refine v_iload_n C dX8_daysLeft_25 rfl ?_
    refine v_iconst (v := nI 4) C dX8_daysLeft_26 (by decide) ?_
    rw [hij]
    refine v_callVi C (c_X8_by hl Y14 (i := j) (k := 4) (by omega) (by decide)) dX8_daysLeft_27 mX8_by rfl Y14.o rfl wd7_141 rfl rfl (Nat.le_of_ble_eq_true rfl) (hp_rmle hRm (by decide) (by decide)) (Nat.le_of_ble_eq_true rfl) (Nat.le_of_ble_eq_true rfl) ?_
    rw [show (mo_si S 3 (nI 0)).1 0 = S.1 0 from rfl, hg.by4 hj, ← ed]
    refine v_aload_n C dX8_daysLeft_30 rfl ?_
    refine v_get C 0 dX8_daysLeft_31 wd6_237 Y14.o rfl (by decide) ⟨rfl, rfl, rfl⟩ rfl ?_
    refine v_iconst (v := nI 3) C dX8_daysLeft_34 (by decide) ?_
    refine v_ialdN C dX8_daysLeft_35 Y14.a0 (by omega) (by decide) ?_
    rw [show (mo_si S 3 (nI 0)).1 0 = S.1 0 from rfl, hg.g3]
    refine v_isub C dX8_daysLeft_36 ?_
    exact v_iret C E dX8_daysLeft_37 rfl ⟨_, rfl, (if_pos c6).symm, rfl, by rw [show mo_cd _ = _ from if_pos c6]; exact Y14, W14⟩
set_option maxHeartbeats 8000000 in
/-- marginOf -/
theorem c_X8_marginOf {G : hp_G} {l : Launch} (hl : l.stackTraces = false) {n0 : Nat} {h0 : Nat → Option va_E} {y : Nat} {S : mo_T} (hS : Mo G h0 y S) {M : mk_T} (hg : Gr (S.1 0) M) (i : Int32) : Ct G l yX8_marginOf cX8_marginOf 2 (some .int) 4 0 0 [.ref y, .int i] (n0, h0) (hp_iq (fun r τ => r = (if hp_num i (mk_tr M) then mo_mg M i (mk_hz M) else nI 0) ∧ τ.1 = n0 ∧ Mo G τ.2 y (mo_si S 3 (mo_cd (hp_num i (mk_tr M)))) ∧ ∀ a, (a < y ∨ y + 13 ≤ a) → τ.2 a = h0 a)) := by
  have hbase := hS.base
  have hhz := hg.hz
  have htr := hg.tr
  have hct := hg.ct
  refine Ct.of rfl hl (by simp [Value.category]) (Nat.le_of_ble_eq_true rfl) (fun K C E hRm hKl => ?_)
  subst hKl
  refine v_aload_n C dX8_marginOf_0 rfl ?_
  refine v_aload_n C dX8_marginOf_1 rfl ?_
  refine v_iload_n C dX8_marginOf_2 rfl ?_
  refine v_callVi C (c_X8_isTrader hl hS hg i) dX8_marginOf_3 mX8_isTrader rfl hS.o rfl wd7_105 rfl rfl (Nat.le_of_ble_eq_true rfl) (hp_rmle hRm (by decide) (by decide)) (Nat.le_of_ble_eq_true rfl) (Nat.le_of_ble_eq_true rfl) ?_
  refine v_if_eqB (tgt := 13) C dX8_marginOf_6 (by decide) (fun c6 => ?_) (fun c6 => ?_)
  · refine v_iconst (v := nI 1) C dX8_marginOf_13 (by decide) ?_
    refine v_callVq C (c_X8_fails hl hS (nI 1)) dX8_marginOf_14 mX8_fails rfl hS.o rfl wd7_82 rfl rfl (Nat.le_of_ble_eq_true rfl) (hp_rmle hRm (by decide) (by decide)) (Nat.le_of_ble_eq_true rfl) (Nat.le_of_ble_eq_true rfl) (fun r14 n14 h14 q14 => ?_)
    obtain ⟨e14, k14, Y14, W14⟩ := q14
    have z14 := Eq.symm k14
    have z14 : n0 = n14 := z14
    subst z14
    subst e14
    refine v_if_eqB (tgt := 24) C dX8_marginOf_17 (by decide) (fun c17 => absurd c17 (fun z => z (by decide))) (fun c17 => ?_)
    refine v_iconst (v := nI 0) C dX8_marginOf_20 (by decide) ?_
    refine v_goto (tgt := 29) C dX8_marginOf_21 (by decide) ?_
    exact v_iret C E dX8_marginOf_29 rfl ⟨_, rfl, (if_neg c6).symm, rfl, by rw [show mo_cd _ = _ from if_neg c6]; exact Y14, W14⟩
  · refine v_iconst (v := nI 0) C dX8_marginOf_9 (by decide) ?_
    refine v_goto (tgt := 14) C dX8_marginOf_10 (by decide) ?_
    refine v_callVq C (c_X8_fails hl hS (nI 0)) dX8_marginOf_14 mX8_fails rfl hS.o rfl wd7_82 rfl rfl (Nat.le_of_ble_eq_true rfl) (hp_rmle hRm (by decide) (by decide)) (Nat.le_of_ble_eq_true rfl) (Nat.le_of_ble_eq_true rfl) (fun r14 n14 h14 q14 => ?_)
    obtain ⟨e14, k14, Y14, W14⟩ := q14
    have z14 := Eq.symm k14
    have z14 : n0 = n14 := z14
    subst z14
    subst e14
    refine v_if_eqB (tgt := 24) C dX8_marginOf_17 (by decide) (fun c17 => ?_) (fun c17 => absurd c17 (by decide))
    refine v_aload_n C dX8_marginOf_24 rfl ?_
    refine v_iload_n C dX8_marginOf_25 rfl ?_
    refine v_callVi C (c_X8_margin hl Y14 hg i) dX8_marginOf_26 mX8_margin rfl Y14.o rfl wd7_133 rfl rfl (Nat.le_of_ble_eq_true rfl) (hp_rmle hRm (by decide) (by decide)) (Nat.le_of_ble_eq_true rfl) (Nat.le_of_ble_eq_true rfl) ?_
    exact v_iret C E dX8_marginOf_29 rfl ⟨_, rfl, (if_pos c6).symm, rfl, by rw [show mo_cd _ = _ from if_pos c6]; exact Y14, W14⟩
set_option maxHeartbeats 8000000 in
/-- marginByPositions -/
theorem c_X8_marginByPositions {G : hp_G} {l : Launch} (hl : l.stackTraces = false) {n0 : Nat} {h0 : Nat → Option va_E} {y : Nat} {S : mo_T} (hS : Mo G h0 y S) {M : mk_T} (hg : Gr (S.1 0) M) (i : Int32) : Ct G l yX8_marginByPositions cX8_marginByPositions 2 (some .int) 4 0 0 [.ref y, .int i] (n0, h0) (hp_iq (fun r τ => r = (if hp_num i (mk_tr M) then mo_mg M i (mk_hz M) else nI 0) ∧ τ.1 = n0 ∧ Mo G τ.2 y (mo_si S 3 (mo_cd (hp_num i (mk_tr M)))) ∧ ∀ a, (a < y ∨ y + 13 ≤ a) → τ.2 a = h0 a)) := by
  have hbase := hS.base
  have hhz := hg.hz
  have htr := hg.tr
  have hct := hg.ct
  refine Ct.of rfl hl (by simp [Value.category]) (Nat.le_of_ble_eq_true rfl) (fun K C E hRm hKl => ?_)
  subst hKl
  refine v_aload_n C dX8_marginByPositions_0 rfl ?_
  refine v_aload_n C dX8_marginByPositions_1 rfl ?_
  refine v_iload_n C dX8_marginByPositions_2 rfl ?_
  refine v_callVi C (c_X8_isTrader hl hS hg i) dX8_marginByPositions_3 mX8_isTrader rfl hS.o rfl wd7_105 rfl rfl (Nat.le_of_ble_eq_true rfl) (hp_rmle hRm (by decide) (by decide)) (Nat.le_of_ble_eq_true rfl) (Nat.le_of_ble_eq_true rfl) ?_
  refine v_if_eqB (tgt := 13) C dX8_marginByPositions_6 (by decide) (fun c6 => ?_) (fun c6 => ?_)
  · refine v_iconst (v := nI 1) C dX8_marginByPositions_13 (by decide) ?_
    refine v_callVq C (c_X8_fails hl hS (nI 1)) dX8_marginByPositions_14 mX8_fails rfl hS.o rfl wd7_82 rfl rfl (Nat.le_of_ble_eq_true rfl) (hp_rmle hRm (by decide) (by decide)) (Nat.le_of_ble_eq_true rfl) (Nat.le_of_ble_eq_true rfl) (fun r14 n14 h14 q14 => ?_)
    obtain ⟨e14, k14, Y14, W14⟩ := q14
    have z14 := Eq.symm k14
    have z14 : n0 = n14 := z14
    subst z14
    subst e14
    refine v_if_eqB (tgt := 24) C dX8_marginByPositions_17 (by decide) (fun c17 => absurd c17 (fun z => z (by decide))) (fun c17 => ?_)
    refine v_iconst (v := nI 0) C dX8_marginByPositions_20 (by decide) ?_
    refine v_goto (tgt := 29) C dX8_marginByPositions_21 (by decide) ?_
    exact v_iret C E dX8_marginByPositions_29 rfl ⟨_, rfl, (if_neg c6).symm, rfl, by rw [show mo_cd _ = _ from if_neg c6]; exact Y14, W14⟩
  · refine v_iconst (v := nI 0) C dX8_marginByPositions_9 (by decide) ?_
    refine v_goto (tgt := 14) C dX8_marginByPositions_10 (by decide) ?_
    refine v_callVq C (c_X8_fails hl hS (nI 0)) dX8_marginByPositions_14 mX8_fails rfl hS.o rfl wd7_82 rfl rfl (Nat.le_of_ble_eq_true rfl) (hp_rmle hRm (by decide) (by decide)) (Nat.le_of_ble_eq_true rfl) (Nat.le_of_ble_eq_true rfl) (fun r14 n14 h14 q14 => ?_)
    obtain ⟨e14, k14, Y14, W14⟩ := q14
    have z14 := Eq.symm k14
    have z14 : n0 = n14 := z14
    subst z14
    subst e14
    refine v_if_eqB (tgt := 24) C dX8_marginByPositions_17 (by decide) (fun c17 => ?_) (fun c17 => absurd c17 (by decide))
    refine v_aload_n C dX8_marginByPositions_24 rfl ?_
    refine v_iload_n C dX8_marginByPositions_25 rfl ?_
    refine v_callVi C (c_X8_margin hl Y14 hg i) dX8_marginByPositions_26 mX8_margin rfl Y14.o rfl wd7_133 rfl rfl (Nat.le_of_ble_eq_true rfl) (hp_rmle hRm (by decide) (by decide)) (Nat.le_of_ble_eq_true rfl) (Nat.le_of_ble_eq_true rfl) ?_
    exact v_iret C E dX8_marginByPositions_29 rfl ⟨_, rfl, (if_pos c6).symm, rfl, by rw [show mo_cd _ = _ from if_pos c6]; exact Y14, W14⟩
set_option maxHeartbeats 8000000 in
/-- variationOf -/
theorem c_X8_variationOf {G : hp_G} {l : Launch} (hl : l.stackTraces = false) {n0 : Nat} {h0 : Nat → Option va_E} {y : Nat} {S : mo_T} (hS : Mo G h0 y S) {M : mk_T} (hg : Gr (S.1 0) M) (i : Int32) : Ct G l yX8_variationOf cX8_variationOf 2 (some .int) 4 0 0 [.ref y, .int i] (n0, h0) (hp_iq (fun r τ => r = (if hp_num i (mk_tr M) then mo_va M i (mk_hz M) else nI 0) ∧ τ.1 = n0 ∧ Mo G τ.2 y (mo_si S 3 (mo_cd (hp_num i (mk_tr M)))) ∧ ∀ a, (a < y ∨ y + 13 ≤ a) → τ.2 a = h0 a)) := by
  have hbase := hS.base
  have hhz := hg.hz
  have htr := hg.tr
  have hct := hg.ct
  refine Ct.of rfl hl (by simp [Value.category]) (Nat.le_of_ble_eq_true rfl) (fun K C E hRm hKl => ?_)
  subst hKl
  refine v_aload_n C dX8_variationOf_0 rfl ?_
  refine v_aload_n C dX8_variationOf_1 rfl ?_
  refine v_iload_n C dX8_variationOf_2 rfl ?_
  refine v_callVi C (c_X8_isTrader hl hS hg i) dX8_variationOf_3 mX8_isTrader rfl hS.o rfl wd7_105 rfl rfl (Nat.le_of_ble_eq_true rfl) (hp_rmle hRm (by decide) (by decide)) (Nat.le_of_ble_eq_true rfl) (Nat.le_of_ble_eq_true rfl) ?_
  refine v_if_eqB (tgt := 13) C dX8_variationOf_6 (by decide) (fun c6 => ?_) (fun c6 => ?_)
  · refine v_iconst (v := nI 1) C dX8_variationOf_13 (by decide) ?_
    refine v_callVq C (c_X8_fails hl hS (nI 1)) dX8_variationOf_14 mX8_fails rfl hS.o rfl wd7_82 rfl rfl (Nat.le_of_ble_eq_true rfl) (hp_rmle hRm (by decide) (by decide)) (Nat.le_of_ble_eq_true rfl) (Nat.le_of_ble_eq_true rfl) (fun r14 n14 h14 q14 => ?_)
    obtain ⟨e14, k14, Y14, W14⟩ := q14
    have z14 := Eq.symm k14
    have z14 : n0 = n14 := z14
    subst z14
    subst e14
    refine v_if_eqB (tgt := 24) C dX8_variationOf_17 (by decide) (fun c17 => absurd c17 (fun z => z (by decide))) (fun c17 => ?_)
    refine v_iconst (v := nI 0) C dX8_variationOf_20 (by decide) ?_
    refine v_goto (tgt := 29) C dX8_variationOf_21 (by decide) ?_
    exact v_iret C E dX8_variationOf_29 rfl ⟨_, rfl, (if_neg c6).symm, rfl, by rw [show mo_cd _ = _ from if_neg c6]; exact Y14, W14⟩
  · refine v_iconst (v := nI 0) C dX8_variationOf_9 (by decide) ?_
    refine v_goto (tgt := 14) C dX8_variationOf_10 (by decide) ?_
    refine v_callVq C (c_X8_fails hl hS (nI 0)) dX8_variationOf_14 mX8_fails rfl hS.o rfl wd7_82 rfl rfl (Nat.le_of_ble_eq_true rfl) (hp_rmle hRm (by decide) (by decide)) (Nat.le_of_ble_eq_true rfl) (Nat.le_of_ble_eq_true rfl) (fun r14 n14 h14 q14 => ?_)
    obtain ⟨e14, k14, Y14, W14⟩ := q14
    have z14 := Eq.symm k14
    have z14 : n0 = n14 := z14
    subst z14
    subst e14
    refine v_if_eqB (tgt := 24) C dX8_variationOf_17 (by decide) (fun c17 => ?_) (fun c17 => absurd c17 (by decide))
    refine v_aload_n C dX8_variationOf_24 rfl ?_
    refine v_iload_n C dX8_variationOf_25 rfl ?_
    refine v_callVi C (c_X8_variation hl Y14 hg i) dX8_variationOf_26 mX8_variation rfl Y14.o rfl wd7_164 rfl rfl (Nat.le_of_ble_eq_true rfl) (hp_rmle hRm (by decide) (by decide)) (Nat.le_of_ble_eq_true rfl) (Nat.le_of_ble_eq_true rfl) ?_
    exact v_iret C E dX8_variationOf_29 rfl ⟨_, rfl, (if_pos c6).symm, rfl, by rw [show mo_cd _ = _ from if_pos c6]; exact Y14, W14⟩
set_option maxHeartbeats 8000000 in
/-- positionOf -/
theorem c_X8_positionOf {G : hp_G} {l : Launch} (hl : l.stackTraces = false) {n0 : Nat} {h0 : Nat → Option va_E} {y : Nat} {S : mo_T} (hS : Mo G h0 y S) {M : mk_T} (hg : Gr (S.1 0) M) (i j : Int32) : Ct G l yX8_positionOf cX8_positionOf 3 (some .int) 3 0 0 [.ref y, .int i, .int j] (n0, h0) (hp_iq (fun r τ => r = (if hp_num i (mk_tr M) ∧ hp_num j (mk_hz M) then mo_po M i j else nI 0) ∧ τ.1 = n0 ∧ Mo G τ.2 y (mo_si S 3 (mo_cd (hp_num i (mk_tr M) ∧ hp_num j (mk_hz M)))) ∧ ∀ a, (a < y ∨ y + 13 ≤ a) → τ.2 a = h0 a)) := by
  have hbase := hS.base
  have hhz := hg.hz
  have htr := hg.tr
  have hct := hg.ct
  refine Ct.of rfl hl (by simp [Value.category]) (Nat.le_of_ble_eq_true rfl) (fun K C E hRm hKl => ?_)
  subst hKl
  refine v_aload_n C dX8_positionOf_0 rfl ?_
  refine v_aload_n C dX8_positionOf_1 rfl ?_
  refine v_iload_n C dX8_positionOf_2 rfl ?_
  refine v_callVi C (c_X8_isTrader hl hS hg i) dX8_positionOf_3 mX8_isTrader rfl hS.o rfl wd7_105 rfl rfl (Nat.le_of_ble_eq_true rfl) (hp_rmle hRm (by decide) (by decide)) (Nat.le_of_ble_eq_true rfl) (Nat.le_of_ble_eq_true rfl) ?_
  refine v_if_eqB (tgt := 21) C dX8_positionOf_6 (by decide) (fun c6 => ?_) (fun c6 => ?_)
  · have hc : ¬ (hp_num i (mk_tr M) ∧ hp_num j (mk_hz M)) := fun z => c6 z.1
    refine v_iconst (v := nI 1) C dX8_positionOf_21 (by decide) ?_
    refine v_callVq C (c_X8_fails hl hS (nI 1)) dX8_positionOf_22 mX8_fails rfl hS.o rfl wd7_82 rfl rfl (Nat.le_of_ble_eq_true rfl) (hp_rmle hRm (by decide) (by decide)) (Nat.le_of_ble_eq_true rfl) (Nat.le_of_ble_eq_true rfl) (fun r22 n22 h22 q22 => ?_)
    obtain ⟨e22, k22, Y22, W22⟩ := q22
    have z22 := Eq.symm k22
    have z22 : n0 = n22 := z22
    subst z22
    subst e22
    refine v_if_eqB (tgt := 32) C dX8_positionOf_25 (by decide) (fun c25 => absurd c25 (fun z => z (by decide))) (fun c25 => ?_)
    refine v_iconst (v := nI 0) C dX8_positionOf_28 (by decide) ?_
    refine v_goto (tgt := 38) C dX8_positionOf_29 (by decide) ?_
    exact v_iret C E dX8_positionOf_38 rfl ⟨_, rfl, (if_neg hc).symm, rfl, by rw [show mo_cd _ = _ from if_neg hc]; exact Y22, W22⟩
  · refine v_aload_n C dX8_positionOf_9 rfl ?_
    refine v_iload_n C dX8_positionOf_10 rfl ?_
    refine v_callVi C (c_X8_isHorizon hl hS hg j) dX8_positionOf_11 mX8_isHorizon rfl hS.o rfl wd7_109 rfl rfl (Nat.le_of_ble_eq_true rfl) (hp_rmle hRm (by decide) (by decide)) (Nat.le_of_ble_eq_true rfl) (Nat.le_of_ble_eq_true rfl) ?_
    refine v_if_eqB (tgt := 21) C dX8_positionOf_14 (by decide) (fun c14 => ?_) (fun c14 => ?_)
    · have hc : ¬ (hp_num i (mk_tr M) ∧ hp_num j (mk_hz M)) := fun z => c14 z.2
      refine v_iconst (v := nI 1) C dX8_positionOf_21 (by decide) ?_
      refine v_callVq C (c_X8_fails hl hS (nI 1)) dX8_positionOf_22 mX8_fails rfl hS.o rfl wd7_82 rfl rfl (Nat.le_of_ble_eq_true rfl) (hp_rmle hRm (by decide) (by decide)) (Nat.le_of_ble_eq_true rfl) (Nat.le_of_ble_eq_true rfl) (fun r22 n22 h22 q22 => ?_)
      obtain ⟨e22, k22, Y22, W22⟩ := q22
      have z22 := Eq.symm k22
      have z22 : n0 = n22 := z22
      subst z22
      subst e22
      refine v_if_eqB (tgt := 32) C dX8_positionOf_25 (by decide) (fun c25 => absurd c25 (fun z => z (by decide))) (fun c25 => ?_)
      refine v_iconst (v := nI 0) C dX8_positionOf_28 (by decide) ?_
      refine v_goto (tgt := 38) C dX8_positionOf_29 (by decide) ?_
      exact v_iret C E dX8_positionOf_38 rfl ⟨_, rfl, (if_neg hc).symm, rfl, by rw [show mo_cd _ = _ from if_neg hc]; exact Y22, W22⟩
    · have hc : hp_num i (mk_tr M) ∧ hp_num j (mk_hz M) := ⟨c6, c14⟩
      refine v_iconst (v := nI 0) C dX8_positionOf_17 (by decide) ?_
      refine v_goto (tgt := 22) C dX8_positionOf_18 (by decide) ?_
      refine v_callVq C (c_X8_fails hl hS (nI 0)) dX8_positionOf_22 mX8_fails rfl hS.o rfl wd7_82 rfl rfl (Nat.le_of_ble_eq_true rfl) (hp_rmle hRm (by decide) (by decide)) (Nat.le_of_ble_eq_true rfl) (Nat.le_of_ble_eq_true rfl) (fun r22 n22 h22 q22 => ?_)
      obtain ⟨e22, k22, Y22, W22⟩ := q22
      have z22 := Eq.symm k22
      have z22 : n0 = n22 := z22
      subst z22
      subst e22
      refine v_if_eqB (tgt := 32) C dX8_positionOf_25 (by decide) (fun c25 => ?_) (fun c25 => absurd c25 (by decide))
      refine v_aload_n C dX8_positionOf_32 rfl ?_
      refine v_iload_n C dX8_positionOf_33 rfl ?_
      refine v_iload_n C dX8_positionOf_34 rfl ?_
      refine v_callVi C (c_X8_position hl Y22 hg i j) dX8_positionOf_35 mX8_position rfl Y22.o rfl wd7_137 rfl rfl (Nat.le_of_ble_eq_true rfl) (hp_rmle hRm (by decide) (by decide)) (Nat.le_of_ble_eq_true rfl) (Nat.le_of_ble_eq_true rfl) ?_
      exact v_iret C E dX8_positionOf_38 rfl ⟨_, rfl, (if_pos hc).symm, rfl, by rw [show mo_cd _ = _ from if_pos hc]; exact Y22, W22⟩
set_option maxHeartbeats 8000000 in
/-- errorPosition -/
theorem c_X8_errorPosition {G : hp_G} {l : Launch} (hl : l.stackTraces = false) {n0 : Nat} {h0 : Nat → Option va_E} {y : Nat} {S : mo_T} (hS : Mo G h0 y S)  : Ct G l yX8_errorPosition cX8_errorPosition 1 (some .int) 1 0 0 [.ref y] (n0, h0) (hp_iq (fun r τ => r = (if S.2 5 < 0 then nI 0 else S.2 5) ∧ τ.1 = n0 ∧ Mo G τ.2 y (mo_si S 3 (if S.2 5 < 0 then nI 1 else nI 0)) ∧ ∀ a, (a < y ∨ y + 13 ≤ a) → τ.2 a = h0 a)) := by
  have hbase := hS.base
  refine Ct.of rfl hl (by simp [Value.category]) (Nat.le_of_ble_eq_true rfl) (fun K C E hRm hKl => ?_)
  subst hKl
  refine v_aload_n C dX8_errorPosition_0 rfl ?_
  refine v_aload_n C dX8_errorPosition_1 rfl ?_
  refine v_get C 10 dX8_errorPosition_2 wd7_7 hS.o rfl (by decide) ⟨rfl, rfl, rfl⟩ rfl ?_
  refine v_if_ge (tgt := 12) C dX8_errorPosition_5 (by decide) (fun c5 => ?_) (fun c5 => ?_)
  · have hc : ¬ S.2 5 < 0 := Int32.not_lt.mpr c5
    refine v_iconst (v := nI 0) C dX8_errorPosition_12 (by decide) ?_
    refine v_callVq C (c_X8_fails hl hS (nI 0)) dX8_errorPosition_13 mX8_fails rfl hS.o rfl wd7_82 rfl rfl (Nat.le_of_ble_eq_true rfl) (hp_rmle hRm (by decide) (by decide)) (Nat.le_of_ble_eq_true rfl) (Nat.le_of_ble_eq_true rfl) (fun r13 n13 h13 q13 => ?_)
    obtain ⟨e13, k13, Y13, W13⟩ := q13
    have z13 := Eq.symm k13
    have z13 : n0 = n13 := z13
    subst z13
    subst e13
    refine v_if_eqB (tgt := 23) C dX8_errorPosition_16 (by decide) (fun c16 => ?_) (fun c16 => absurd c16 (by decide))
    refine v_aload_n C dX8_errorPosition_23 rfl ?_
    refine v_get C 10 dX8_errorPosition_24 wd7_7 Y13.o rfl (by decide) ⟨rfl, rfl, rfl⟩ rfl ?_
    exact v_iret C E dX8_errorPosition_27 rfl ⟨_, rfl, (if_neg hc).symm, rfl, by rw [show (if S.2 5 < 0 then nI 1 else nI 0) = _ from if_neg hc]; exact Y13, W13⟩
  · have hc : S.2 5 < 0 := Int32.not_le.mp c5
    refine v_iconst (v := nI 1) C dX8_errorPosition_8 (by decide) ?_
    refine v_goto (tgt := 13) C dX8_errorPosition_9 (by decide) ?_
    refine v_callVq C (c_X8_fails hl hS (nI 1)) dX8_errorPosition_13 mX8_fails rfl hS.o rfl wd7_82 rfl rfl (Nat.le_of_ble_eq_true rfl) (hp_rmle hRm (by decide) (by decide)) (Nat.le_of_ble_eq_true rfl) (Nat.le_of_ble_eq_true rfl) (fun r13 n13 h13 q13 => ?_)
    obtain ⟨e13, k13, Y13, W13⟩ := q13
    have z13 := Eq.symm k13
    have z13 : n0 = n13 := z13
    subst z13
    subst e13
    refine v_if_eqB (tgt := 23) C dX8_errorPosition_16 (by decide) (fun c16 => absurd c16 (fun z => z (by decide))) (fun c16 => ?_)
    refine v_iconst (v := nI 0) C dX8_errorPosition_19 (by decide) ?_
    refine v_goto (tgt := 27) C dX8_errorPosition_20 (by decide) ?_
    exact v_iret C E dX8_errorPosition_27 rfl ⟨_, rfl, (if_pos hc).symm, rfl, by rw [show (if S.2 5 < 0 then nI 1 else nI 0) = _ from if_pos hc]; exact Y13, W13⟩
set_option maxHeartbeats 8000000 in
/-- failedCommand -/
theorem c_X8_failedCommand {G : hp_G} {l : Launch} (hl : l.stackTraces = false) {n0 : Nat} {h0 : Nat → Option va_E} {y : Nat} {S : mo_T} (hS : Mo G h0 y S)  : Ct G l yX8_failedCommand cX8_failedCommand 1 (some .int) 1 0 0 [.ref y] (n0, h0) (hp_iq (fun r τ => r = (if S.2 6 < 0 then nI 0 else S.2 6) ∧ τ.1 = n0 ∧ Mo G τ.2 y (mo_si S 3 (if S.2 6 < 0 then nI 1 else nI 0)) ∧ ∀ a, (a < y ∨ y + 13 ≤ a) → τ.2 a = h0 a)) := by
  have hbase := hS.base
  refine Ct.of rfl hl (by simp [Value.category]) (Nat.le_of_ble_eq_true rfl) (fun K C E hRm hKl => ?_)
  subst hKl
  refine v_aload_n C dX8_failedCommand_0 rfl ?_
  refine v_aload_n C dX8_failedCommand_1 rfl ?_
  refine v_get C 11 dX8_failedCommand_2 wd7_8 hS.o rfl (by decide) ⟨rfl, rfl, rfl⟩ rfl ?_
  refine v_if_ge (tgt := 12) C dX8_failedCommand_5 (by decide) (fun c5 => ?_) (fun c5 => ?_)
  · have hc : ¬ S.2 6 < 0 := Int32.not_lt.mpr c5
    refine v_iconst (v := nI 0) C dX8_failedCommand_12 (by decide) ?_
    refine v_callVq C (c_X8_fails hl hS (nI 0)) dX8_failedCommand_13 mX8_fails rfl hS.o rfl wd7_82 rfl rfl (Nat.le_of_ble_eq_true rfl) (hp_rmle hRm (by decide) (by decide)) (Nat.le_of_ble_eq_true rfl) (Nat.le_of_ble_eq_true rfl) (fun r13 n13 h13 q13 => ?_)
    obtain ⟨e13, k13, Y13, W13⟩ := q13
    have z13 := Eq.symm k13
    have z13 : n0 = n13 := z13
    subst z13
    subst e13
    refine v_if_eqB (tgt := 23) C dX8_failedCommand_16 (by decide) (fun c16 => ?_) (fun c16 => absurd c16 (by decide))
    refine v_aload_n C dX8_failedCommand_23 rfl ?_
    refine v_get C 11 dX8_failedCommand_24 wd7_8 Y13.o rfl (by decide) ⟨rfl, rfl, rfl⟩ rfl ?_
    exact v_iret C E dX8_failedCommand_27 rfl ⟨_, rfl, (if_neg hc).symm, rfl, by rw [show (if S.2 6 < 0 then nI 1 else nI 0) = _ from if_neg hc]; exact Y13, W13⟩
  · have hc : S.2 6 < 0 := Int32.not_le.mp c5
    refine v_iconst (v := nI 1) C dX8_failedCommand_8 (by decide) ?_
    refine v_goto (tgt := 13) C dX8_failedCommand_9 (by decide) ?_
    refine v_callVq C (c_X8_fails hl hS (nI 1)) dX8_failedCommand_13 mX8_fails rfl hS.o rfl wd7_82 rfl rfl (Nat.le_of_ble_eq_true rfl) (hp_rmle hRm (by decide) (by decide)) (Nat.le_of_ble_eq_true rfl) (Nat.le_of_ble_eq_true rfl) (fun r13 n13 h13 q13 => ?_)
    obtain ⟨e13, k13, Y13, W13⟩ := q13
    have z13 := Eq.symm k13
    have z13 : n0 = n13 := z13
    subst z13
    subst e13
    refine v_if_eqB (tgt := 23) C dX8_failedCommand_16 (by decide) (fun c16 => absurd c16 (fun z => z (by decide))) (fun c16 => ?_)
    refine v_iconst (v := nI 0) C dX8_failedCommand_19 (by decide) ?_
    refine v_goto (tgt := 27) C dX8_failedCommand_20 (by decide) ?_
    exact v_iret C E dX8_failedCommand_27 rfl ⟨_, rfl, (if_pos hc).symm, rfl, by rw [show (if S.2 6 < 0 then nI 1 else nI 0) = _ from if_pos hc]; exact Y13, W13⟩

/-! ===== THE MODEL: its properties ===== -/
def mo_cd (p : Prop) [Decidable p] : Int32 := if p then nI 0 else nI 1
set_option maxHeartbeats 8000000 in
/-- horizonCount -/
theorem c_X8_horizonCount {G : hp_G} {l : Launch} (hl : l.stackTraces = false) {n0 : Nat} {h0 : Nat → Option va_E} {y : Nat} {S : mo_T} (hS : Mo G h0 y S) {M : mk_T} (hg : Gr (S.1 0) M)  : Ct G l yX8_horizonCount cX8_horizonCount 1 (some .int) 0 0 0 [.ref y] (n0, h0) (hp_iq (fun r τ => r = nI (mk_hz M) ∧ τ.1 = n0 ∧ Mo G τ.2 y (mo_si S 3 (nI 0)) ∧ ∀ a, (a < y ∨ y + 13 ≤ a) → τ.2 a = h0 a)) := by
  have hbase := hS.base
  have hhz := hg.hz
  have htr := hg.tr
  have hct := hg.ct
  refine Ct.of rfl hl (by simp [Value.category]) (Nat.le_of_ble_eq_true rfl) (fun K C E hRm hKl => ?_)
  subst hKl
  refine v_aload_n C dX8_horizonCount_0 rfl ?_
  refine v_iconst (v := nI 0) C dX8_horizonCount_1 (by decide) ?_
  refine v_put C 7 dX8_horizonCount_2 wd7_4 hbase hS.o rfl (by decide) ⟨rfl, rfl, rfl, rfl⟩ rfl rfl rfl (Nat.le_of_ble_eq_true rfl) (fun h2 e2 g2 => ?_)
  have Y2 := hS.i3 e2 g2
  have W2 : ∀ a, (a < y ∨ y + 13 ≤ a) → h2 a = _ := fun a ha => g2 a (by omega)
  refine v_aload_n C dX8_horizonCount_5 rfl ?_
  refine v_get C 0 dX8_horizonCount_6 wd6_237 Y2.o rfl (by decide) ⟨rfl, rfl, rfl⟩ rfl ?_
  refine v_iconst (v := nI 0) C dX8_horizonCount_9 (by decide) ?_
  refine v_ialdN C dX8_horizonCount_10 Y2.a0 (by omega) (by decide) ?_
  exact v_iret C E dX8_horizonCount_11 rfl ⟨_, rfl, hg.g0, rfl, Y2, W2⟩
set_option maxHeartbeats 8000000 in
/-- traderCount -/
theorem c_X8_traderCount {G : hp_G} {l : Launch} (hl : l.stackTraces = false) {n0 : Nat} {h0 : Nat → Option va_E} {y : Nat} {S : mo_T} (hS : Mo G h0 y S) {M : mk_T} (hg : Gr (S.1 0) M)  : Ct G l yX8_traderCount cX8_traderCount 1 (some .int) 0 0 0 [.ref y] (n0, h0) (hp_iq (fun r τ => r = nI (mk_tr M) ∧ τ.1 = n0 ∧ Mo G τ.2 y (mo_si S 3 (nI 0)) ∧ ∀ a, (a < y ∨ y + 13 ≤ a) → τ.2 a = h0 a)) := by
  have hbase := hS.base
  have hhz := hg.hz
  have htr := hg.tr
  have hct := hg.ct
  refine Ct.of rfl hl (by simp [Value.category]) (Nat.le_of_ble_eq_true rfl) (fun K C E hRm hKl => ?_)
  subst hKl
  refine v_aload_n C dX8_traderCount_0 rfl ?_
  refine v_iconst (v := nI 0) C dX8_traderCount_1 (by decide) ?_
  refine v_put C 7 dX8_traderCount_2 wd7_4 hbase hS.o rfl (by decide) ⟨rfl, rfl, rfl, rfl⟩ rfl rfl rfl (Nat.le_of_ble_eq_true rfl) (fun h2 e2 g2 => ?_)
  have Y2 := hS.i3 e2 g2
  have W2 : ∀ a, (a < y ∨ y + 13 ≤ a) → h2 a = _ := fun a ha => g2 a (by omega)
  refine v_aload_n C dX8_traderCount_5 rfl ?_
  refine v_get C 0 dX8_traderCount_6 wd6_237 Y2.o rfl (by decide) ⟨rfl, rfl, rfl⟩ rfl ?_
  refine v_iconst (v := nI 1) C dX8_traderCount_9 (by decide) ?_
  refine v_ialdN C dX8_traderCount_10 Y2.a0 (by omega) (by decide) ?_
  exact v_iret C E dX8_traderCount_11 rfl ⟨_, rfl, hg.g1, rfl, Y2, W2⟩
set_option maxHeartbeats 8000000 in
/-- contractCount -/
theorem c_X8_contractCount {G : hp_G} {l : Launch} (hl : l.stackTraces = false) {n0 : Nat} {h0 : Nat → Option va_E} {y : Nat} {S : mo_T} (hS : Mo G h0 y S) {M : mk_T} (hg : Gr (S.1 0) M)  : Ct G l yX8_contractCount cX8_contractCount 1 (some .int) 0 0 0 [.ref y] (n0, h0) (hp_iq (fun r τ => r = nI (mk_ct M) ∧ τ.1 = n0 ∧ Mo G τ.2 y (mo_si S 3 (nI 0)) ∧ ∀ a, (a < y ∨ y + 13 ≤ a) → τ.2 a = h0 a)) := by
  have hbase := hS.base
  have hhz := hg.hz
  have htr := hg.tr
  have hct := hg.ct
  refine Ct.of rfl hl (by simp [Value.category]) (Nat.le_of_ble_eq_true rfl) (fun K C E hRm hKl => ?_)
  subst hKl
  refine v_aload_n C dX8_contractCount_0 rfl ?_
  refine v_iconst (v := nI 0) C dX8_contractCount_1 (by decide) ?_
  refine v_put C 7 dX8_contractCount_2 wd7_4 hbase hS.o rfl (by decide) ⟨rfl, rfl, rfl, rfl⟩ rfl rfl rfl (Nat.le_of_ble_eq_true rfl) (fun h2 e2 g2 => ?_)
  have Y2 := hS.i3 e2 g2
  have W2 : ∀ a, (a < y ∨ y + 13 ≤ a) → h2 a = _ := fun a ha => g2 a (by omega)
  refine v_aload_n C dX8_contractCount_5 rfl ?_
  refine v_get C 0 dX8_contractCount_6 wd6_237 Y2.o rfl (by decide) ⟨rfl, rfl, rfl⟩ rfl ?_
  refine v_iconst (v := nI 2) C dX8_contractCount_9 (by decide) ?_
  refine v_ialdN C dX8_contractCount_10 Y2.a0 (by omega) (by decide) ?_
  exact v_iret C E dX8_contractCount_11 rfl ⟨_, rfl, hg.g2, rfl, Y2, W2⟩
set_option maxHeartbeats 8000000 in
/-- dayCount -/
theorem c_X8_dayCount {G : hp_G} {l : Launch} (hl : l.stackTraces = false) {n0 : Nat} {h0 : Nat → Option va_E} {y : Nat} {S : mo_T} (hS : Mo G h0 y S) {M : mk_T} (hg : Gr (S.1 0) M)  : Ct G l yX8_dayCount cX8_dayCount 1 (some .int) 0 0 0 [.ref y] (n0, h0) (hp_iq (fun r τ => r = M.2.2.1.1 ∧ τ.1 = n0 ∧ Mo G τ.2 y (mo_si S 3 (nI 0)) ∧ ∀ a, (a < y ∨ y + 13 ≤ a) → τ.2 a = h0 a)) := by
  have hbase := hS.base
  have hhz := hg.hz
  have htr := hg.tr
  have hct := hg.ct
  refine Ct.of rfl hl (by simp [Value.category]) (Nat.le_of_ble_eq_true rfl) (fun K C E hRm hKl => ?_)
  subst hKl
  refine v_aload_n C dX8_dayCount_0 rfl ?_
  refine v_iconst (v := nI 0) C dX8_dayCount_1 (by decide) ?_
  refine v_put C 7 dX8_dayCount_2 wd7_4 hbase hS.o rfl (by decide) ⟨rfl, rfl, rfl, rfl⟩ rfl rfl rfl (Nat.le_of_ble_eq_true rfl) (fun h2 e2 g2 => ?_)
  have Y2 := hS.i3 e2 g2
  have W2 : ∀ a, (a < y ∨ y + 13 ≤ a) → h2 a = _ := fun a ha => g2 a (by omega)
  refine v_aload_n C dX8_dayCount_5 rfl ?_
  refine v_get C 0 dX8_dayCount_6 wd6_237 Y2.o rfl (by decide) ⟨rfl, rfl, rfl⟩ rfl ?_
  refine v_iconst (v := nI 3) C dX8_dayCount_9 (by decide) ?_
  refine v_ialdN C dX8_dayCount_10 Y2.a0 (by omega) (by decide) ?_
  exact v_iret C E dX8_dayCount_11 rfl ⟨_, rfl, hg.g3, rfl, Y2, W2⟩
set_option maxHeartbeats 8000000 in
/-- fund -/
theorem c_X8_fund {G : hp_G} {l : Launch} (hl : l.stackTraces = false) {n0 : Nat} {h0 : Nat → Option va_E} {y : Nat} {S : mo_T} (hS : Mo G h0 y S) {M : mk_T} (hg : Gr (S.1 0) M)  : Ct G l yX8_fund cX8_fund 1 (some .int) 0 0 0 [.ref y] (n0, h0) (hp_iq (fun r τ => r = M.2.2.1.2.1 ∧ τ.1 = n0 ∧ Mo G τ.2 y (mo_si S 3 (nI 0)) ∧ ∀ a, (a < y ∨ y + 13 ≤ a) → τ.2 a = h0 a)) := by
  have hbase := hS.base
  have hhz := hg.hz
  have htr := hg.tr
  have hct := hg.ct
  refine Ct.of rfl hl (by simp [Value.category]) (Nat.le_of_ble_eq_true rfl) (fun K C E hRm hKl => ?_)
  subst hKl
  refine v_aload_n C dX8_fund_0 rfl ?_
  refine v_iconst (v := nI 0) C dX8_fund_1 (by decide) ?_
  refine v_put C 7 dX8_fund_2 wd7_4 hbase hS.o rfl (by decide) ⟨rfl, rfl, rfl, rfl⟩ rfl rfl rfl (Nat.le_of_ble_eq_true rfl) (fun h2 e2 g2 => ?_)
  have Y2 := hS.i3 e2 g2
  have W2 : ∀ a, (a < y ∨ y + 13 ≤ a) → h2 a = _ := fun a ha => g2 a (by omega)
  refine v_aload_n C dX8_fund_5 rfl ?_
  refine v_get C 0 dX8_fund_6 wd6_237 Y2.o rfl (by decide) ⟨rfl, rfl, rfl⟩ rfl ?_
  refine v_iconst (v := nI 4) C dX8_fund_9 (by decide) ?_
  refine v_ialdN C dX8_fund_10 Y2.a0 (by omega) (by decide) ?_
  exact v_iret C E dX8_fund_11 rfl ⟨_, rfl, hg.g4, rfl, Y2, W2⟩
set_option maxHeartbeats 8000000 in
/-- writtenOff -/
theorem c_X8_writtenOff {G : hp_G} {l : Launch} (hl : l.stackTraces = false) {n0 : Nat} {h0 : Nat → Option va_E} {y : Nat} {S : mo_T} (hS : Mo G h0 y S) {M : mk_T} (hg : Gr (S.1 0) M)  : Ct G l yX8_writtenOff cX8_writtenOff 1 (some .int) 0 0 0 [.ref y] (n0, h0) (hp_iq (fun r τ => r = M.2.2.1.2.2 ∧ τ.1 = n0 ∧ Mo G τ.2 y (mo_si S 3 (nI 0)) ∧ ∀ a, (a < y ∨ y + 13 ≤ a) → τ.2 a = h0 a)) := by
  have hbase := hS.base
  have hhz := hg.hz
  have htr := hg.tr
  have hct := hg.ct
  refine Ct.of rfl hl (by simp [Value.category]) (Nat.le_of_ble_eq_true rfl) (fun K C E hRm hKl => ?_)
  subst hKl
  refine v_aload_n C dX8_writtenOff_0 rfl ?_
  refine v_iconst (v := nI 0) C dX8_writtenOff_1 (by decide) ?_
  refine v_put C 7 dX8_writtenOff_2 wd7_4 hbase hS.o rfl (by decide) ⟨rfl, rfl, rfl, rfl⟩ rfl rfl rfl (Nat.le_of_ble_eq_true rfl) (fun h2 e2 g2 => ?_)
  have Y2 := hS.i3 e2 g2
  have W2 : ∀ a, (a < y ∨ y + 13 ≤ a) → h2 a = _ := fun a ha => g2 a (by omega)
  refine v_aload_n C dX8_writtenOff_5 rfl ?_
  refine v_get C 0 dX8_writtenOff_6 wd6_237 Y2.o rfl (by decide) ⟨rfl, rfl, rfl⟩ rfl ?_
  refine v_iconst (v := nI 5) C dX8_writtenOff_9 (by decide) ?_
  refine v_ialdN C dX8_writtenOff_10 Y2.a0 (by omega) (by decide) ?_
  exact v_iret C E dX8_writtenOff_11 rfl ⟨_, rfl, hg.g5, rfl, Y2, W2⟩
set_option maxHeartbeats 8000000 in
/-- broughtIn -/
theorem c_X8_broughtIn {G : hp_G} {l : Launch} (hl : l.stackTraces = false) {n0 : Nat} {h0 : Nat → Option va_E} {y : Nat} {S : mo_T} (hS : Mo G h0 y S) {M : mk_T} (hg : Gr (S.1 0) M)  : Ct G l yX8_broughtIn cX8_broughtIn 1 (some .long) 0 0 0 [.ref y] (n0, h0) (fun o τ => o = .inl (some (.long M.2.2.2.1)) ∧ τ.1 = n0 ∧ Mo G τ.2 y (mo_si S 3 (nI 0)) ∧ ∀ a, (a < y ∨ y + 13 ≤ a) → τ.2 a = h0 a) := by
  have hbase := hS.base
  have hhz := hg.hz
  have htr := hg.tr
  have hct := hg.ct
  refine Ct.of rfl hl (by simp [Value.category]) (Nat.le_of_ble_eq_true rfl) (fun K C E hRm hKl => ?_)
  subst hKl
  refine v_aload_n C dX8_broughtIn_0 rfl ?_
  refine v_iconst (v := nI 0) C dX8_broughtIn_1 (by decide) ?_
  refine v_put C 7 dX8_broughtIn_2 wd7_4 hbase hS.o rfl (by decide) ⟨rfl, rfl, rfl, rfl⟩ rfl rfl rfl (Nat.le_of_ble_eq_true rfl) (fun h2 e2 g2 => ?_)
  have Y2 := hS.i3 e2 g2
  have W2 : ∀ a, (a < y ∨ y + 13 ≤ a) → h2 a = _ := fun a ha => g2 a (by omega)
  refine v_aload_n C dX8_broughtIn_5 rfl ?_
  refine v_get C 0 dX8_broughtIn_6 wd6_237 Y2.o rfl (by decide) ⟨rfl, rfl, rfl⟩ rfl ?_
  refine v_sipush (v := nI 136) C dX8_broughtIn_9 (by decide) ?_
  refine v_ialdN C dX8_broughtIn_12 Y2.a0 (by omega) (by decide) ?_
  refine v_i2l C dX8_broughtIn_13 ?_
  exact v_lret C E dX8_broughtIn_14 rfl ⟨by rw [← hg.g6], rfl, Y2, W2⟩
set_option maxHeartbeats 8000000 in
/-- withdrawn -/
theorem c_X8_withdrawn {G : hp_G} {l : Launch} (hl : l.stackTraces = false) {n0 : Nat} {h0 : Nat → Option va_E} {y : Nat} {S : mo_T} (hS : Mo G h0 y S) {M : mk_T} (hg : Gr (S.1 0) M)  : Ct G l yX8_withdrawn cX8_withdrawn 1 (some .long) 0 0 0 [.ref y] (n0, h0) (fun o τ => o = .inl (some (.long M.2.2.2.2)) ∧ τ.1 = n0 ∧ Mo G τ.2 y (mo_si S 3 (nI 0)) ∧ ∀ a, (a < y ∨ y + 13 ≤ a) → τ.2 a = h0 a) := by
  have hbase := hS.base
  have hhz := hg.hz
  have htr := hg.tr
  have hct := hg.ct
  refine Ct.of rfl hl (by simp [Value.category]) (Nat.le_of_ble_eq_true rfl) (fun K C E hRm hKl => ?_)
  subst hKl
  refine v_aload_n C dX8_withdrawn_0 rfl ?_
  refine v_iconst (v := nI 0) C dX8_withdrawn_1 (by decide) ?_
  refine v_put C 7 dX8_withdrawn_2 wd7_4 hbase hS.o rfl (by decide) ⟨rfl, rfl, rfl, rfl⟩ rfl rfl rfl (Nat.le_of_ble_eq_true rfl) (fun h2 e2 g2 => ?_)
  have Y2 := hS.i3 e2 g2
  have W2 : ∀ a, (a < y ∨ y + 13 ≤ a) → h2 a = _ := fun a ha => g2 a (by omega)
  refine v_aload_n C dX8_withdrawn_5 rfl ?_
  refine v_get C 0 dX8_withdrawn_6 wd6_237 Y2.o rfl (by decide) ⟨rfl, rfl, rfl⟩ rfl ?_
  refine v_sipush (v := nI 137) C dX8_withdrawn_9 (by decide) ?_
  refine v_ialdN C dX8_withdrawn_12 Y2.a0 (by omega) (by decide) ?_
  refine v_i2l C dX8_withdrawn_13 ?_
  exact v_lret C E dX8_withdrawn_14 rfl ⟨by rw [← hg.g7], rfl, Y2, W2⟩
set_option maxHeartbeats 8000000 in
/-- ofHorizon -/
theorem c_X8_ofHorizon0 {G : hp_G} {l : Launch} (hl : l.stackTraces = false) {n0 : Nat} {h0 : Nat → Option va_E} {y : Nat} {S : mo_T} (hS : Mo G h0 y S) {M : mk_T} (hg : Gr (S.1 0) M) (i : Int32) : Ct G l yX8_ofHorizon cX8_ofHorizon 3 (some .int) 2 0 0 [.ref y, .int i, .int (nI 0)] (n0, h0) (hp_iq (fun r τ => r = (if hp_num i (mk_hz M) then mk_ar M 0 i.toNatClampNeg else nI 0) ∧ τ.1 = n0 ∧ Mo G τ.2 y (mo_si S 3 (mo_cd (hp_num i (mk_hz M)))) ∧ ∀ a, (a < y ∨ y + 13 ≤ a) → τ.2 a = h0 a)) := by
  have hbase := hS.base
  have hhz := hg.hz
  have htr := hg.tr
  have hct := hg.ct
  refine Ct.of rfl hl (by simp [Value.category]) (Nat.le_of_ble_eq_true rfl) (fun K C E hRm hKl => ?_)
  subst hKl
  refine v_aload_n C dX8_ofHorizon_0 rfl ?_
  refine v_aload_n C dX8_ofHorizon_1 rfl ?_
  refine v_iload_n C dX8_ofHorizon_2 rfl ?_
  refine v_callVi C (c_X8_isHorizon hl hS hg i) dX8_ofHorizon_3 mX8_isHorizon rfl hS.o rfl wd7_109 rfl rfl (Nat.le_of_ble_eq_true rfl) (hp_rmle hRm (by decide) (by decide)) (Nat.le_of_ble_eq_true rfl) (Nat.le_of_ble_eq_true rfl) ?_
  refine v_if_eqB (tgt := 13) C dX8_ofHorizon_6 (by decide) (fun c6 => ?_) (fun c6 => ?_)
  · refine v_iconst (v := nI 1) C dX8_ofHorizon_13 (by decide) ?_
    refine v_callVq C (c_X8_fails hl hS (nI 1)) dX8_ofHorizon_14 mX8_fails rfl hS.o rfl wd7_82 rfl rfl (Nat.le_of_ble_eq_true rfl) (hp_rmle hRm (by decide) (by decide)) (Nat.le_of_ble_eq_true rfl) (Nat.le_of_ble_eq_true rfl) (fun r14 n14 h14 q14 => ?_)
    obtain ⟨e14, k14, Y14, W14⟩ := q14
    have z14 := Eq.symm k14
    have z14 : n0 = n14 := z14
    subst z14
    subst e14
    refine v_if_eqB (tgt := 24) C dX8_ofHorizon_17 (by decide) (fun c17 => absurd c17 (fun z => z (by decide))) (fun c17 => ?_)
    refine v_iconst (v := nI 0) C dX8_ofHorizon_20 (by decide) ?_
    refine v_goto (tgt := 30) C dX8_ofHorizon_21 (by decide) ?_
    exact v_iret C E dX8_ofHorizon_30 rfl ⟨_, rfl, (if_neg c6).symm, rfl, by rw [show mo_cd _ = _ from if_neg c6]; exact Y14, W14⟩
  · obtain ⟨j, hj, hij⟩ := hp_num_j c6 (by omega)
    have ed : i.toNatClampNeg = j := by rw [hij]; exact nI_clamp (by omega)
    refine v_iconst (v := nI 0) C dX8_ofHorizon_9 (by decide) ?_
    refine v_goto (tgt := 14) C dX8_ofHorizon_10 (by decide) ?_
    refine v_callVq C (c_X8_fails hl hS (nI 0)) dX8_ofHorizon_14 mX8_fails rfl hS.o rfl wd7_82 rfl rfl (Nat.le_of_ble_eq_true rfl) (hp_rmle hRm (by decide) (by decide)) (Nat.le_of_ble_eq_true rfl) (Nat.le_of_ble_eq_true rfl) (fun r14 n14 h14 q14 => ?_)
    obtain ⟨e14, k14, Y14, W14⟩ := q14
    have z14 := Eq.symm k14
    have z14 : n0 = n14 := z14
    subst z14
    subst e14
    refine v_if_eqB (tgt := 24) C dX8_ofHorizon_17 (by decide) (fun c17 => ?_) (fun c17 => absurd c17 (by decide))
    refine v_aload_n C dX8_ofHorizon_24 rfl ?_
    refine v_iload_n C dX8_ofHorizon_25 rfl ?_
    refine v_iload_n C dX8_ofHorizon_26 rfl ?_
    rw [hij]
    refine v_callVi C (c_X8_on hl Y14 (i := j) (k := 0) (by omega) (by decide)) dX8_ofHorizon_27 mX8_on rfl Y14.o rfl wd7_148 rfl rfl (Nat.le_of_ble_eq_true rfl) (hp_rmle hRm (by decide) (by decide)) (Nat.le_of_ble_eq_true rfl) (Nat.le_of_ble_eq_true rfl) ?_
    rw [show (mo_si S 3 (nI 0)).1 0 = S.1 0 from rfl, hg.on0 hj, ← ed]
    exact v_iret C E dX8_ofHorizon_30 rfl ⟨_, rfl, (if_pos c6).symm, rfl, by rw [show mo_cd _ = _ from if_pos c6]; exact Y14, W14⟩
set_option maxHeartbeats 8000000 in
/-- ofHorizon -/
theorem c_X8_ofHorizon1 {G : hp_G} {l : Launch} (hl : l.stackTraces = false) {n0 : Nat} {h0 : Nat → Option va_E} {y : Nat} {S : mo_T} (hS : Mo G h0 y S) {M : mk_T} (hg : Gr (S.1 0) M) (i : Int32) : Ct G l yX8_ofHorizon cX8_ofHorizon 3 (some .int) 2 0 0 [.ref y, .int i, .int (nI 1)] (n0, h0) (hp_iq (fun r τ => r = (if hp_num i (mk_hz M) then mk_ar M 1 i.toNatClampNeg else nI 0) ∧ τ.1 = n0 ∧ Mo G τ.2 y (mo_si S 3 (mo_cd (hp_num i (mk_hz M)))) ∧ ∀ a, (a < y ∨ y + 13 ≤ a) → τ.2 a = h0 a)) := by
  have hbase := hS.base
  have hhz := hg.hz
  have htr := hg.tr
  have hct := hg.ct
  refine Ct.of rfl hl (by simp [Value.category]) (Nat.le_of_ble_eq_true rfl) (fun K C E hRm hKl => ?_)
  subst hKl
  refine v_aload_n C dX8_ofHorizon_0 rfl ?_
  refine v_aload_n C dX8_ofHorizon_1 rfl ?_
  refine v_iload_n C dX8_ofHorizon_2 rfl ?_
  refine v_callVi C (c_X8_isHorizon hl hS hg i) dX8_ofHorizon_3 mX8_isHorizon rfl hS.o rfl wd7_109 rfl rfl (Nat.le_of_ble_eq_true rfl) (hp_rmle hRm (by decide) (by decide)) (Nat.le_of_ble_eq_true rfl) (Nat.le_of_ble_eq_true rfl) ?_
  refine v_if_eqB (tgt := 13) C dX8_ofHorizon_6 (by decide) (fun c6 => ?_) (fun c6 => ?_)
  · refine v_iconst (v := nI 1) C dX8_ofHorizon_13 (by decide) ?_
    refine v_callVq C (c_X8_fails hl hS (nI 1)) dX8_ofHorizon_14 mX8_fails rfl hS.o rfl wd7_82 rfl rfl (Nat.le_of_ble_eq_true rfl) (hp_rmle hRm (by decide) (by decide)) (Nat.le_of_ble_eq_true rfl) (Nat.le_of_ble_eq_true rfl) (fun r14 n14 h14 q14 => ?_)
    obtain ⟨e14, k14, Y14, W14⟩ := q14
    have z14 := Eq.symm k14
    have z14 : n0 = n14 := z14
    subst z14
    subst e14
    refine v_if_eqB (tgt := 24) C dX8_ofHorizon_17 (by decide) (fun c17 => absurd c17 (fun z => z (by decide))) (fun c17 => ?_)
    refine v_iconst (v := nI 0) C dX8_ofHorizon_20 (by decide) ?_
    refine v_goto (tgt := 30) C dX8_ofHorizon_21 (by decide) ?_
    exact v_iret C E dX8_ofHorizon_30 rfl ⟨_, rfl, (if_neg c6).symm, rfl, by rw [show mo_cd _ = _ from if_neg c6]; exact Y14, W14⟩
  · obtain ⟨j, hj, hij⟩ := hp_num_j c6 (by omega)
    have ed : i.toNatClampNeg = j := by rw [hij]; exact nI_clamp (by omega)
    refine v_iconst (v := nI 0) C dX8_ofHorizon_9 (by decide) ?_
    refine v_goto (tgt := 14) C dX8_ofHorizon_10 (by decide) ?_
    refine v_callVq C (c_X8_fails hl hS (nI 0)) dX8_ofHorizon_14 mX8_fails rfl hS.o rfl wd7_82 rfl rfl (Nat.le_of_ble_eq_true rfl) (hp_rmle hRm (by decide) (by decide)) (Nat.le_of_ble_eq_true rfl) (Nat.le_of_ble_eq_true rfl) (fun r14 n14 h14 q14 => ?_)
    obtain ⟨e14, k14, Y14, W14⟩ := q14
    have z14 := Eq.symm k14
    have z14 : n0 = n14 := z14
    subst z14
    subst e14
    refine v_if_eqB (tgt := 24) C dX8_ofHorizon_17 (by decide) (fun c17 => ?_) (fun c17 => absurd c17 (by decide))
    refine v_aload_n C dX8_ofHorizon_24 rfl ?_
    refine v_iload_n C dX8_ofHorizon_25 rfl ?_
    refine v_iload_n C dX8_ofHorizon_26 rfl ?_
    rw [hij]
    refine v_callVi C (c_X8_on hl Y14 (i := j) (k := 1) (by omega) (by decide)) dX8_ofHorizon_27 mX8_on rfl Y14.o rfl wd7_148 rfl rfl (Nat.le_of_ble_eq_true rfl) (hp_rmle hRm (by decide) (by decide)) (Nat.le_of_ble_eq_true rfl) (Nat.le_of_ble_eq_true rfl) ?_
    rw [show (mo_si S 3 (nI 0)).1 0 = S.1 0 from rfl, hg.on1 hj, ← ed]
    exact v_iret C E dX8_ofHorizon_30 rfl ⟨_, rfl, (if_pos c6).symm, rfl, by rw [show mo_cd _ = _ from if_pos c6]; exact Y14, W14⟩
set_option maxHeartbeats 8000000 in
/-- ofHorizon -/
theorem c_X8_ofHorizon2 {G : hp_G} {l : Launch} (hl : l.stackTraces = false) {n0 : Nat} {h0 : Nat → Option va_E} {y : Nat} {S : mo_T} (hS : Mo G h0 y S) {M : mk_T} (hg : Gr (S.1 0) M) (i : Int32) : Ct G l yX8_ofHorizon cX8_ofHorizon 3 (some .int) 2 0 0 [.ref y, .int i, .int (nI 2)] (n0, h0) (hp_iq (fun r τ => r = (if hp_num i (mk_hz M) then mk_ar M 2 i.toNatClampNeg else nI 0) ∧ τ.1 = n0 ∧ Mo G τ.2 y (mo_si S 3 (mo_cd (hp_num i (mk_hz M)))) ∧ ∀ a, (a < y ∨ y + 13 ≤ a) → τ.2 a = h0 a)) := by
  have hbase := hS.base
  have hhz := hg.hz
  have htr := hg.tr
  have hct := hg.ct
  refine Ct.of rfl hl (by simp [Value.category]) (Nat.le_of_ble_eq_true rfl) (fun K C E hRm hKl => ?_)
  subst hKl
  refine v_aload_n C dX8_ofHorizon_0 rfl ?_
  refine v_aload_n C dX8_ofHorizon_1 rfl ?_
  refine v_iload_n C dX8_ofHorizon_2 rfl ?_
  refine v_callVi C (c_X8_isHorizon hl hS hg i) dX8_ofHorizon_3 mX8_isHorizon rfl hS.o rfl wd7_109 rfl rfl (Nat.le_of_ble_eq_true rfl) (hp_rmle hRm (by decide) (by decide)) (Nat.le_of_ble_eq_true rfl) (Nat.le_of_ble_eq_true rfl) ?_
  refine v_if_eqB (tgt := 13) C dX8_ofHorizon_6 (by decide) (fun c6 => ?_) (fun c6 => ?_)
  · refine v_iconst (v := nI 1) C dX8_ofHorizon_13 (by decide) ?_
    refine v_callVq C (c_X8_fails hl hS (nI 1)) dX8_ofHorizon_14 mX8_fails rfl hS.o rfl wd7_82 rfl rfl (Nat.le_of_ble_eq_true rfl) (hp_rmle hRm (by decide) (by decide)) (Nat.le_of_ble_eq_true rfl) (Nat.le_of_ble_eq_true rfl) (fun r14 n14 h14 q14 => ?_)
    obtain ⟨e14, k14, Y14, W14⟩ := q14
    have z14 := Eq.symm k14
    have z14 : n0 = n14 := z14
    subst z14
    subst e14
    refine v_if_eqB (tgt := 24) C dX8_ofHorizon_17 (by decide) (fun c17 => absurd c17 (fun z => z (by decide))) (fun c17 => ?_)
    refine v_iconst (v := nI 0) C dX8_ofHorizon_20 (by decide) ?_
    refine v_goto (tgt := 30) C dX8_ofHorizon_21 (by decide) ?_
    exact v_iret C E dX8_ofHorizon_30 rfl ⟨_, rfl, (if_neg c6).symm, rfl, by rw [show mo_cd _ = _ from if_neg c6]; exact Y14, W14⟩
  · obtain ⟨j, hj, hij⟩ := hp_num_j c6 (by omega)
    have ed : i.toNatClampNeg = j := by rw [hij]; exact nI_clamp (by omega)
    refine v_iconst (v := nI 0) C dX8_ofHorizon_9 (by decide) ?_
    refine v_goto (tgt := 14) C dX8_ofHorizon_10 (by decide) ?_
    refine v_callVq C (c_X8_fails hl hS (nI 0)) dX8_ofHorizon_14 mX8_fails rfl hS.o rfl wd7_82 rfl rfl (Nat.le_of_ble_eq_true rfl) (hp_rmle hRm (by decide) (by decide)) (Nat.le_of_ble_eq_true rfl) (Nat.le_of_ble_eq_true rfl) (fun r14 n14 h14 q14 => ?_)
    obtain ⟨e14, k14, Y14, W14⟩ := q14
    have z14 := Eq.symm k14
    have z14 : n0 = n14 := z14
    subst z14
    subst e14
    refine v_if_eqB (tgt := 24) C dX8_ofHorizon_17 (by decide) (fun c17 => ?_) (fun c17 => absurd c17 (by decide))
    refine v_aload_n C dX8_ofHorizon_24 rfl ?_
    refine v_iload_n C dX8_ofHorizon_25 rfl ?_
    refine v_iload_n C dX8_ofHorizon_26 rfl ?_
    rw [hij]
    refine v_callVi C (c_X8_on hl Y14 (i := j) (k := 2) (by omega) (by decide)) dX8_ofHorizon_27 mX8_on rfl Y14.o rfl wd7_148 rfl rfl (Nat.le_of_ble_eq_true rfl) (hp_rmle hRm (by decide) (by decide)) (Nat.le_of_ble_eq_true rfl) (Nat.le_of_ble_eq_true rfl) ?_
    rw [show (mo_si S 3 (nI 0)).1 0 = S.1 0 from rfl, hg.on2 hj, ← ed]
    exact v_iret C E dX8_ofHorizon_30 rfl ⟨_, rfl, (if_pos c6).symm, rfl, by rw [show mo_cd _ = _ from if_pos c6]; exact Y14, W14⟩
set_option maxHeartbeats 8000000 in
/-- ofTrader -/
theorem c_X8_ofTrader0 {G : hp_G} {l : Launch} (hl : l.stackTraces = false) {n0 : Nat} {h0 : Nat → Option va_E} {y : Nat} {S : mo_T} (hS : Mo G h0 y S) {M : mk_T} (hg : Gr (S.1 0) M) (i : Int32) : Ct G l yX8_ofTrader cX8_ofTrader 3 (some .int) 2 0 0 [.ref y, .int i, .int (nI 0)] (n0, h0) (hp_iq (fun r τ => r = (if hp_num i (mk_tr M) then mk_ar M 3 i.toNatClampNeg else nI 0) ∧ τ.1 = n0 ∧ Mo G τ.2 y (mo_si S 3 (mo_cd (hp_num i (mk_tr M)))) ∧ ∀ a, (a < y ∨ y + 13 ≤ a) → τ.2 a = h0 a)) := by
  have hbase := hS.base
  have hhz := hg.hz
  have htr := hg.tr
  have hct := hg.ct
  refine Ct.of rfl hl (by simp [Value.category]) (Nat.le_of_ble_eq_true rfl) (fun K C E hRm hKl => ?_)
  subst hKl
  refine v_aload_n C dX8_ofTrader_0 rfl ?_
  refine v_aload_n C dX8_ofTrader_1 rfl ?_
  refine v_iload_n C dX8_ofTrader_2 rfl ?_
  refine v_callVi C (c_X8_isTrader hl hS hg i) dX8_ofTrader_3 mX8_isTrader rfl hS.o rfl wd7_105 rfl rfl (Nat.le_of_ble_eq_true rfl) (hp_rmle hRm (by decide) (by decide)) (Nat.le_of_ble_eq_true rfl) (Nat.le_of_ble_eq_true rfl) ?_
  refine v_if_eqB (tgt := 13) C dX8_ofTrader_6 (by decide) (fun c6 => ?_) (fun c6 => ?_)
  · refine v_iconst (v := nI 1) C dX8_ofTrader_13 (by decide) ?_
    refine v_callVq C (c_X8_fails hl hS (nI 1)) dX8_ofTrader_14 mX8_fails rfl hS.o rfl wd7_82 rfl rfl (Nat.le_of_ble_eq_true rfl) (hp_rmle hRm (by decide) (by decide)) (Nat.le_of_ble_eq_true rfl) (Nat.le_of_ble_eq_true rfl) (fun r14 n14 h14 q14 => ?_)
    obtain ⟨e14, k14, Y14, W14⟩ := q14
    have z14 := Eq.symm k14
    have z14 : n0 = n14 := z14
    subst z14
    subst e14
    refine v_if_eqB (tgt := 24) C dX8_ofTrader_17 (by decide) (fun c17 => absurd c17 (fun z => z (by decide))) (fun c17 => ?_)
    refine v_iconst (v := nI 0) C dX8_ofTrader_20 (by decide) ?_
    refine v_goto (tgt := 30) C dX8_ofTrader_21 (by decide) ?_
    exact v_iret C E dX8_ofTrader_30 rfl ⟨_, rfl, (if_neg c6).symm, rfl, by rw [show mo_cd _ = _ from if_neg c6]; exact Y14, W14⟩
  · obtain ⟨j, hj, hij⟩ := hp_num_j c6 (by omega)
    have ed : i.toNatClampNeg = j := by rw [hij]; exact nI_clamp (by omega)
    refine v_iconst (v := nI 0) C dX8_ofTrader_9 (by decide) ?_
    refine v_goto (tgt := 14) C dX8_ofTrader_10 (by decide) ?_
    refine v_callVq C (c_X8_fails hl hS (nI 0)) dX8_ofTrader_14 mX8_fails rfl hS.o rfl wd7_82 rfl rfl (Nat.le_of_ble_eq_true rfl) (hp_rmle hRm (by decide) (by decide)) (Nat.le_of_ble_eq_true rfl) (Nat.le_of_ble_eq_true rfl) (fun r14 n14 h14 q14 => ?_)
    obtain ⟨e14, k14, Y14, W14⟩ := q14
    have z14 := Eq.symm k14
    have z14 : n0 = n14 := z14
    subst z14
    subst e14
    refine v_if_eqB (tgt := 24) C dX8_ofTrader_17 (by decide) (fun c17 => ?_) (fun c17 => absurd c17 (by decide))
    refine v_aload_n C dX8_ofTrader_24 rfl ?_
    refine v_iload_n C dX8_ofTrader_25 rfl ?_
    refine v_iload_n C dX8_ofTrader_26 rfl ?_
    rw [hij]
    refine v_callVi C (c_X8_of hl Y14 (i := j) (k := 0) (by omega) (by decide)) dX8_ofTrader_27 mX8_of rfl Y14.o rfl wd7_117 rfl rfl (Nat.le_of_ble_eq_true rfl) (hp_rmle hRm (by decide) (by decide)) (Nat.le_of_ble_eq_true rfl) (Nat.le_of_ble_eq_true rfl) ?_
    rw [show (mo_si S 3 (nI 0)).1 0 = S.1 0 from rfl, hg.of0 hj, ← ed]
    exact v_iret C E dX8_ofTrader_30 rfl ⟨_, rfl, (if_pos c6).symm, rfl, by rw [show mo_cd _ = _ from if_pos c6]; exact Y14, W14⟩
set_option maxHeartbeats 8000000 in
/-- ofTrader -/
theorem c_X8_ofTrader1 {G : hp_G} {l : Launch} (hl : l.stackTraces = false) {n0 : Nat} {h0 : Nat → Option va_E} {y : Nat} {S : mo_T} (hS : Mo G h0 y S) {M : mk_T} (hg : Gr (S.1 0) M) (i : Int32) : Ct G l yX8_ofTrader cX8_ofTrader 3 (some .int) 2 0 0 [.ref y, .int i, .int (nI 1)] (n0, h0) (hp_iq (fun r τ => r = (if hp_num i (mk_tr M) then hp_b (mk_ar M 4 i.toNatClampNeg = nI 1) else nI 0) ∧ τ.1 = n0 ∧ Mo G τ.2 y (mo_si S 3 (mo_cd (hp_num i (mk_tr M)))) ∧ ∀ a, (a < y ∨ y + 13 ≤ a) → τ.2 a = h0 a)) := by
  have hbase := hS.base
  have hhz := hg.hz
  have htr := hg.tr
  have hct := hg.ct
  refine Ct.of rfl hl (by simp [Value.category]) (Nat.le_of_ble_eq_true rfl) (fun K C E hRm hKl => ?_)
  subst hKl
  refine v_aload_n C dX8_ofTrader_0 rfl ?_
  refine v_aload_n C dX8_ofTrader_1 rfl ?_
  refine v_iload_n C dX8_ofTrader_2 rfl ?_
  refine v_callVi C (c_X8_isTrader hl hS hg i) dX8_ofTrader_3 mX8_isTrader rfl hS.o rfl wd7_105 rfl rfl (Nat.le_of_ble_eq_true rfl) (hp_rmle hRm (by decide) (by decide)) (Nat.le_of_ble_eq_true rfl) (Nat.le_of_ble_eq_true rfl) ?_
  refine v_if_eqB (tgt := 13) C dX8_ofTrader_6 (by decide) (fun c6 => ?_) (fun c6 => ?_)
  · refine v_iconst (v := nI 1) C dX8_ofTrader_13 (by decide) ?_
    refine v_callVq C (c_X8_fails hl hS (nI 1)) dX8_ofTrader_14 mX8_fails rfl hS.o rfl wd7_82 rfl rfl (Nat.le_of_ble_eq_true rfl) (hp_rmle hRm (by decide) (by decide)) (Nat.le_of_ble_eq_true rfl) (Nat.le_of_ble_eq_true rfl) (fun r14 n14 h14 q14 => ?_)
    obtain ⟨e14, k14, Y14, W14⟩ := q14
    have z14 := Eq.symm k14
    have z14 : n0 = n14 := z14
    subst z14
    subst e14
    refine v_if_eqB (tgt := 24) C dX8_ofTrader_17 (by decide) (fun c17 => absurd c17 (fun z => z (by decide))) (fun c17 => ?_)
    refine v_iconst (v := nI 0) C dX8_ofTrader_20 (by decide) ?_
    refine v_goto (tgt := 30) C dX8_ofTrader_21 (by decide) ?_
    exact v_iret C E dX8_ofTrader_30 rfl ⟨_, rfl, (if_neg c6).symm, rfl, by rw [show mo_cd _ = _ from if_neg c6]; exact Y14, W14⟩
  · obtain ⟨j, hj, hij⟩ := hp_num_j c6 (by omega)
    have ed : i.toNatClampNeg = j := by rw [hij]; exact nI_clamp (by omega)
    refine v_iconst (v := nI 0) C dX8_ofTrader_9 (by decide) ?_
    refine v_goto (tgt := 14) C dX8_ofTrader_10 (by decide) ?_
    refine v_callVq C (c_X8_fails hl hS (nI 0)) dX8_ofTrader_14 mX8_fails rfl hS.o rfl wd7_82 rfl rfl (Nat.le_of_ble_eq_true rfl) (hp_rmle hRm (by decide) (by decide)) (Nat.le_of_ble_eq_true rfl) (Nat.le_of_ble_eq_true rfl) (fun r14 n14 h14 q14 => ?_)
    obtain ⟨e14, k14, Y14, W14⟩ := q14
    have z14 := Eq.symm k14
    have z14 : n0 = n14 := z14
    subst z14
    subst e14
    refine v_if_eqB (tgt := 24) C dX8_ofTrader_17 (by decide) (fun c17 => ?_) (fun c17 => absurd c17 (by decide))
    refine v_aload_n C dX8_ofTrader_24 rfl ?_
    refine v_iload_n C dX8_ofTrader_25 rfl ?_
    refine v_iload_n C dX8_ofTrader_26 rfl ?_
    rw [hij]
    refine v_callVi C (c_X8_of hl Y14 (i := j) (k := 1) (by omega) (by decide)) dX8_ofTrader_27 mX8_of rfl Y14.o rfl wd7_117 rfl rfl (Nat.le_of_ble_eq_true rfl) (hp_rmle hRm (by decide) (by decide)) (Nat.le_of_ble_eq_true rfl) (Nat.le_of_ble_eq_true rfl) ?_
    rw [show (mo_si S 3 (nI 0)).1 0 = S.1 0 from rfl, hg.of1 hj, ← ed]
    exact v_iret C E dX8_ofTrader_30 rfl ⟨_, rfl, (if_pos c6).symm, rfl, by rw [show mo_cd _ = _ from if_pos c6]; exact Y14, W14⟩
set_option maxHeartbeats 8000000 in
/-- ofTrader -/
theorem c_X8_ofTrader2 {G : hp_G} {l : Launch} (hl : l.stackTraces = false) {n0 : Nat} {h0 : Nat → Option va_E} {y : Nat} {S : mo_T} (hS : Mo G h0 y S) {M : mk_T} (hg : Gr (S.1 0) M) (i : Int32) : Ct G l yX8_ofTrader cX8_ofTrader 3 (some .int) 2 0 0 [.ref y, .int i, .int (nI 2)] (n0, h0) (hp_iq (fun r τ => r = (if hp_num i (mk_tr M) then hp_b (mk_ar M 4 i.toNatClampNeg = nI 2) else nI 0) ∧ τ.1 = n0 ∧ Mo G τ.2 y (mo_si S 3 (mo_cd (hp_num i (mk_tr M)))) ∧ ∀ a, (a < y ∨ y + 13 ≤ a) → τ.2 a = h0 a)) := by
  have hbase := hS.base
  have hhz := hg.hz
  have htr := hg.tr
  have hct := hg.ct
  refine Ct.of rfl hl (by simp [Value.category]) (Nat.le_of_ble_eq_true rfl) (fun K C E hRm hKl => ?_)
  subst hKl
  refine v_aload_n C dX8_ofTrader_0 rfl ?_
  refine v_aload_n C dX8_ofTrader_1 rfl ?_
  refine v_iload_n C dX8_ofTrader_2 rfl ?_
  refine v_callVi C (c_X8_isTrader hl hS hg i) dX8_ofTrader_3 mX8_isTrader rfl hS.o rfl wd7_105 rfl rfl (Nat.le_of_ble_eq_true rfl) (hp_rmle hRm (by decide) (by decide)) (Nat.le_of_ble_eq_true rfl) (Nat.le_of_ble_eq_true rfl) ?_
  refine v_if_eqB (tgt := 13) C dX8_ofTrader_6 (by decide) (fun c6 => ?_) (fun c6 => ?_)
  · refine v_iconst (v := nI 1) C dX8_ofTrader_13 (by decide) ?_
    refine v_callVq C (c_X8_fails hl hS (nI 1)) dX8_ofTrader_14 mX8_fails rfl hS.o rfl wd7_82 rfl rfl (Nat.le_of_ble_eq_true rfl) (hp_rmle hRm (by decide) (by decide)) (Nat.le_of_ble_eq_true rfl) (Nat.le_of_ble_eq_true rfl) (fun r14 n14 h14 q14 => ?_)
    obtain ⟨e14, k14, Y14, W14⟩ := q14
    have z14 := Eq.symm k14
    have z14 : n0 = n14 := z14
    subst z14
    subst e14
    refine v_if_eqB (tgt := 24) C dX8_ofTrader_17 (by decide) (fun c17 => absurd c17 (fun z => z (by decide))) (fun c17 => ?_)
    refine v_iconst (v := nI 0) C dX8_ofTrader_20 (by decide) ?_
    refine v_goto (tgt := 30) C dX8_ofTrader_21 (by decide) ?_
    exact v_iret C E dX8_ofTrader_30 rfl ⟨_, rfl, (if_neg c6).symm, rfl, by rw [show mo_cd _ = _ from if_neg c6]; exact Y14, W14⟩
  · obtain ⟨j, hj, hij⟩ := hp_num_j c6 (by omega)
    have ed : i.toNatClampNeg = j := by rw [hij]; exact nI_clamp (by omega)
    refine v_iconst (v := nI 0) C dX8_ofTrader_9 (by decide) ?_
    refine v_goto (tgt := 14) C dX8_ofTrader_10 (by decide) ?_
    refine v_callVq C (c_X8_fails hl hS (nI 0)) dX8_ofTrader_14 mX8_fails rfl hS.o rfl wd7_82 rfl rfl (Nat.le_of_ble_eq_true rfl) (hp_rmle hRm (by decide) (by decide)) (Nat.le_of_ble_eq_true rfl) (Nat.le_of_ble_eq_true rfl) (fun r14 n14 h14 q14 => ?_)
    obtain ⟨e14, k14, Y14, W14⟩ := q14
    have z14 := Eq.symm k14
    have z14 : n0 = n14 := z14
    subst z14
    subst e14
    refine v_if_eqB (tgt := 24) C dX8_ofTrader_17 (by decide) (fun c17 => ?_) (fun c17 => absurd c17 (by decide))
    refine v_aload_n C dX8_ofTrader_24 rfl ?_
    refine v_iload_n C dX8_ofTrader_25 rfl ?_
    refine v_iload_n C dX8_ofTrader_26 rfl ?_
    rw [hij]
    refine v_callVi C (c_X8_of hl Y14 (i := j) (k := 2) (by omega) (by decide)) dX8_ofTrader_27 mX8_of rfl Y14.o rfl wd7_117 rfl rfl (Nat.le_of_ble_eq_true rfl) (hp_rmle hRm (by decide) (by decide)) (Nat.le_of_ble_eq_true rfl) (Nat.le_of_ble_eq_true rfl) ?_
    rw [show (mo_si S 3 (nI 0)).1 0 = S.1 0 from rfl, hg.of2 hj, ← ed]
    exact v_iret C E dX8_ofTrader_30 rfl ⟨_, rfl, (if_pos c6).symm, rfl, by rw [show mo_cd _ = _ from if_pos c6]; exact Y14, W14⟩
set_option maxHeartbeats 8000000 in
/-- ofContract -/
theorem c_X8_ofContract0 {G : hp_G} {l : Launch} (hl : l.stackTraces = false) {n0 : Nat} {h0 : Nat → Option va_E} {y : Nat} {S : mo_T} (hS : Mo G h0 y S) {M : mk_T} (hg : Gr (S.1 0) M) (i : Int32) : Ct G l yX8_ofContract cX8_ofContract 3 (some .int) 2 0 0 [.ref y, .int i, .int (nI 0)] (n0, h0) (hp_iq (fun r τ => r = (if hp_num i (mk_ct M) then mk_ar M 5 i.toNatClampNeg else nI 0) ∧ τ.1 = n0 ∧ Mo G τ.2 y (mo_si S 3 (mo_cd (hp_num i (mk_ct M)))) ∧ ∀ a, (a < y ∨ y + 13 ≤ a) → τ.2 a = h0 a)) := by
  have hbase := hS.base
  have hhz := hg.hz
  have htr := hg.tr
  have hct := hg.ct
  refine Ct.of rfl hl (by simp [Value.category]) (Nat.le_of_ble_eq_true rfl) (fun K C E hRm hKl => ?_)
  subst hKl
  refine v_aload_n C dX8_ofContract_0 rfl ?_
  refine v_aload_n C dX8_ofContract_1 rfl ?_
  refine v_iload_n C dX8_ofContract_2 rfl ?_
  refine v_callVi C (c_X8_isContract hl hS hg i) dX8_ofContract_3 mX8_isContract rfl hS.o rfl wd8_28 rfl rfl (Nat.le_of_ble_eq_true rfl) (hp_rmle hRm (by decide) (by decide)) (Nat.le_of_ble_eq_true rfl) (Nat.le_of_ble_eq_true rfl) ?_
  refine v_if_eqB (tgt := 13) C dX8_ofContract_6 (by decide) (fun c6 => ?_) (fun c6 => ?_)
  · refine v_iconst (v := nI 1) C dX8_ofContract_13 (by decide) ?_
    refine v_callVq C (c_X8_fails hl hS (nI 1)) dX8_ofContract_14 mX8_fails rfl hS.o rfl wd7_82 rfl rfl (Nat.le_of_ble_eq_true rfl) (hp_rmle hRm (by decide) (by decide)) (Nat.le_of_ble_eq_true rfl) (Nat.le_of_ble_eq_true rfl) (fun r14 n14 h14 q14 => ?_)
    obtain ⟨e14, k14, Y14, W14⟩ := q14
    have z14 := Eq.symm k14
    have z14 : n0 = n14 := z14
    subst z14
    subst e14
    refine v_if_eqB (tgt := 24) C dX8_ofContract_17 (by decide) (fun c17 => absurd c17 (fun z => z (by decide))) (fun c17 => ?_)
    refine v_iconst (v := nI 0) C dX8_ofContract_20 (by decide) ?_
    refine v_goto (tgt := 30) C dX8_ofContract_21 (by decide) ?_
    exact v_iret C E dX8_ofContract_30 rfl ⟨_, rfl, (if_neg c6).symm, rfl, by rw [show mo_cd _ = _ from if_neg c6]; exact Y14, W14⟩
  · obtain ⟨j, hj, hij⟩ := hp_num_j c6 (by omega)
    have ed : i.toNatClampNeg = j := by rw [hij]; exact nI_clamp (by omega)
    refine v_iconst (v := nI 0) C dX8_ofContract_9 (by decide) ?_
    refine v_goto (tgt := 14) C dX8_ofContract_10 (by decide) ?_
    refine v_callVq C (c_X8_fails hl hS (nI 0)) dX8_ofContract_14 mX8_fails rfl hS.o rfl wd7_82 rfl rfl (Nat.le_of_ble_eq_true rfl) (hp_rmle hRm (by decide) (by decide)) (Nat.le_of_ble_eq_true rfl) (Nat.le_of_ble_eq_true rfl) (fun r14 n14 h14 q14 => ?_)
    obtain ⟨e14, k14, Y14, W14⟩ := q14
    have z14 := Eq.symm k14
    have z14 : n0 = n14 := z14
    subst z14
    subst e14
    refine v_if_eqB (tgt := 24) C dX8_ofContract_17 (by decide) (fun c17 => ?_) (fun c17 => absurd c17 (by decide))
    refine v_aload_n C dX8_ofContract_24 rfl ?_
    refine v_iload_n C dX8_ofContract_25 rfl ?_
    refine v_iload_n C dX8_ofContract_26 rfl ?_
    rw [hij]
    refine v_callVi C (c_X8_by hl Y14 (i := j) (k := 0) (by omega) (by decide)) dX8_ofContract_27 mX8_by rfl Y14.o rfl wd7_141 rfl rfl (Nat.le_of_ble_eq_true rfl) (hp_rmle hRm (by decide) (by decide)) (Nat.le_of_ble_eq_true rfl) (Nat.le_of_ble_eq_true rfl) ?_
    rw [show (mo_si S 3 (nI 0)).1 0 = S.1 0 from rfl, hg.by0 hj, ← ed]
    exact v_iret C E dX8_ofContract_30 rfl ⟨_, rfl, (if_pos c6).symm, rfl, by rw [show mo_cd _ = _ from if_pos c6]; exact Y14, W14⟩
set_option maxHeartbeats 8000000 in
/-- ofContract -/
theorem c_X8_ofContract1 {G : hp_G} {l : Launch} (hl : l.stackTraces = false) {n0 : Nat} {h0 : Nat → Option va_E} {y : Nat} {S : mo_T} (hS : Mo G h0 y S) {M : mk_T} (hg : Gr (S.1 0) M) (i : Int32) : Ct G l yX8_ofContract cX8_ofContract 3 (some .int) 2 0 0 [.ref y, .int i, .int (nI 1)] (n0, h0) (hp_iq (fun r τ => r = (if hp_num i (mk_ct M) then mk_ar M 6 i.toNatClampNeg else nI 0) ∧ τ.1 = n0 ∧ Mo G τ.2 y (mo_si S 3 (mo_cd (hp_num i (mk_ct M)))) ∧ ∀ a, (a < y ∨ y + 13 ≤ a) → τ.2 a = h0 a)) := by
  have hbase := hS.base
  have hhz := hg.hz
  have htr := hg.tr
  have hct := hg.ct
  refine Ct.of rfl hl (by simp [Value.category]) (Nat.le_of_ble_eq_true rfl) (fun K C E hRm hKl => ?_)
  subst hKl
  refine v_aload_n C dX8_ofContract_0 rfl ?_
  refine v_aload_n C dX8_ofContract_1 rfl ?_
  refine v_iload_n C dX8_ofContract_2 rfl ?_
  refine v_callVi C (c_X8_isContract hl hS hg i) dX8_ofContract_3 mX8_isContract rfl hS.o rfl wd8_28 rfl rfl (Nat.le_of_ble_eq_true rfl) (hp_rmle hRm (by decide) (by decide)) (Nat.le_of_ble_eq_true rfl) (Nat.le_of_ble_eq_true rfl) ?_
  refine v_if_eqB (tgt := 13) C dX8_ofContract_6 (by decide) (fun c6 => ?_) (fun c6 => ?_)
  · refine v_iconst (v := nI 1) C dX8_ofContract_13 (by decide) ?_
    refine v_callVq C (c_X8_fails hl hS (nI 1)) dX8_ofContract_14 mX8_fails rfl hS.o rfl wd7_82 rfl rfl (Nat.le_of_ble_eq_true rfl) (hp_rmle hRm (by decide) (by decide)) (Nat.le_of_ble_eq_true rfl) (Nat.le_of_ble_eq_true rfl) (fun r14 n14 h14 q14 => ?_)
    obtain ⟨e14, k14, Y14, W14⟩ := q14
    have z14 := Eq.symm k14
    have z14 : n0 = n14 := z14
    subst z14
    subst e14
    refine v_if_eqB (tgt := 24) C dX8_ofContract_17 (by decide) (fun c17 => absurd c17 (fun z => z (by decide))) (fun c17 => ?_)
    refine v_iconst (v := nI 0) C dX8_ofContract_20 (by decide) ?_
    refine v_goto (tgt := 30) C dX8_ofContract_21 (by decide) ?_
    exact v_iret C E dX8_ofContract_30 rfl ⟨_, rfl, (if_neg c6).symm, rfl, by rw [show mo_cd _ = _ from if_neg c6]; exact Y14, W14⟩
  · obtain ⟨j, hj, hij⟩ := hp_num_j c6 (by omega)
    have ed : i.toNatClampNeg = j := by rw [hij]; exact nI_clamp (by omega)
    refine v_iconst (v := nI 0) C dX8_ofContract_9 (by decide) ?_
    refine v_goto (tgt := 14) C dX8_ofContract_10 (by decide) ?_
    refine v_callVq C (c_X8_fails hl hS (nI 0)) dX8_ofContract_14 mX8_fails rfl hS.o rfl wd7_82 rfl rfl (Nat.le_of_ble_eq_true rfl) (hp_rmle hRm (by decide) (by decide)) (Nat.le_of_ble_eq_true rfl) (Nat.le_of_ble_eq_true rfl) (fun r14 n14 h14 q14 => ?_)
    obtain ⟨e14, k14, Y14, W14⟩ := q14
    have z14 := Eq.symm k14
    have z14 : n0 = n14 := z14
    subst z14
    subst e14
    refine v_if_eqB (tgt := 24) C dX8_ofContract_17 (by decide) (fun c17 => ?_) (fun c17 => absurd c17 (by decide))
    refine v_aload_n C dX8_ofContract_24 rfl ?_
    refine v_iload_n C dX8_ofContract_25 rfl ?_
    refine v_iload_n C dX8_ofContract_26 rfl ?_
    rw [hij]
    refine v_callVi C (c_X8_by hl Y14 (i := j) (k := 1) (by omega) (by decide)) dX8_ofContract_27 mX8_by rfl Y14.o rfl wd7_141 rfl rfl (Nat.le_of_ble_eq_true rfl) (hp_rmle hRm (by decide) (by decide)) (Nat.le_of_ble_eq_true rfl) (Nat.le_of_ble_eq_true rfl) ?_
    rw [show (mo_si S 3 (nI 0)).1 0 = S.1 0 from rfl, hg.by1 hj, ← ed]
    exact v_iret C E dX8_ofContract_30 rfl ⟨_, rfl, (if_pos c6).symm, rfl, by rw [show mo_cd _ = _ from if_pos c6]; exact Y14, W14⟩
set_option maxHeartbeats 8000000 in
/-- ofContract -/
theorem c_X8_ofContract2 {G : hp_G} {l : Launch} (hl : l.stackTraces = false) {n0 : Nat} {h0 : Nat → Option va_E} {y : Nat} {S : mo_T} (hS : Mo G h0 y S) {M : mk_T} (hg : Gr (S.1 0) M) (i : Int32) : Ct G l yX8_ofContract cX8_ofContract 3 (some .int) 2 0 0 [.ref y, .int i, .int (nI 2)] (n0, h0) (hp_iq (fun r τ => r = (if hp_num i (mk_ct M) then mk_ar M 7 i.toNatClampNeg else nI 0) ∧ τ.1 = n0 ∧ Mo G τ.2 y (mo_si S 3 (mo_cd (hp_num i (mk_ct M)))) ∧ ∀ a, (a < y ∨ y + 13 ≤ a) → τ.2 a = h0 a)) := by
  have hbase := hS.base
  have hhz := hg.hz
  have htr := hg.tr
  have hct := hg.ct
  refine Ct.of rfl hl (by simp [Value.category]) (Nat.le_of_ble_eq_true rfl) (fun K C E hRm hKl => ?_)
  subst hKl
  refine v_aload_n C dX8_ofContract_0 rfl ?_
  refine v_aload_n C dX8_ofContract_1 rfl ?_
  refine v_iload_n C dX8_ofContract_2 rfl ?_
  refine v_callVi C (c_X8_isContract hl hS hg i) dX8_ofContract_3 mX8_isContract rfl hS.o rfl wd8_28 rfl rfl (Nat.le_of_ble_eq_true rfl) (hp_rmle hRm (by decide) (by decide)) (Nat.le_of_ble_eq_true rfl) (Nat.le_of_ble_eq_true rfl) ?_
  refine v_if_eqB (tgt := 13) C dX8_ofContract_6 (by decide) (fun c6 => ?_) (fun c6 => ?_)
  · refine v_iconst (v := nI 1) C dX8_ofContract_13 (by decide) ?_
    refine v_callVq C (c_X8_fails hl hS (nI 1)) dX8_ofContract_14 mX8_fails rfl hS.o rfl wd7_82 rfl rfl (Nat.le_of_ble_eq_true rfl) (hp_rmle hRm (by decide) (by decide)) (Nat.le_of_ble_eq_true rfl) (Nat.le_of_ble_eq_true rfl) (fun r14 n14 h14 q14 => ?_)
    obtain ⟨e14, k14, Y14, W14⟩ := q14
    have z14 := Eq.symm k14
    have z14 : n0 = n14 := z14
    subst z14
    subst e14
    refine v_if_eqB (tgt := 24) C dX8_ofContract_17 (by decide) (fun c17 => absurd c17 (fun z => z (by decide))) (fun c17 => ?_)
    refine v_iconst (v := nI 0) C dX8_ofContract_20 (by decide) ?_
    refine v_goto (tgt := 30) C dX8_ofContract_21 (by decide) ?_
    exact v_iret C E dX8_ofContract_30 rfl ⟨_, rfl, (if_neg c6).symm, rfl, by rw [show mo_cd _ = _ from if_neg c6]; exact Y14, W14⟩
  · obtain ⟨j, hj, hij⟩ := hp_num_j c6 (by omega)
    have ed : i.toNatClampNeg = j := by rw [hij]; exact nI_clamp (by omega)
    refine v_iconst (v := nI 0) C dX8_ofContract_9 (by decide) ?_
    refine v_goto (tgt := 14) C dX8_ofContract_10 (by decide) ?_
    refine v_callVq C (c_X8_fails hl hS (nI 0)) dX8_ofContract_14 mX8_fails rfl hS.o rfl wd7_82 rfl rfl (Nat.le_of_ble_eq_true rfl) (hp_rmle hRm (by decide) (by decide)) (Nat.le_of_ble_eq_true rfl) (Nat.le_of_ble_eq_true rfl) (fun r14 n14 h14 q14 => ?_)
    obtain ⟨e14, k14, Y14, W14⟩ := q14
    have z14 := Eq.symm k14
    have z14 : n0 = n14 := z14
    subst z14
    subst e14
    refine v_if_eqB (tgt := 24) C dX8_ofContract_17 (by decide) (fun c17 => ?_) (fun c17 => absurd c17 (by decide))
    refine v_aload_n C dX8_ofContract_24 rfl ?_
    refine v_iload_n C dX8_ofContract_25 rfl ?_
    refine v_iload_n C dX8_ofContract_26 rfl ?_
    rw [hij]
    refine v_callVi C (c_X8_by hl Y14 (i := j) (k := 2) (by omega) (by decide)) dX8_ofContract_27 mX8_by rfl Y14.o rfl wd7_141 rfl rfl (Nat.le_of_ble_eq_true rfl) (hp_rmle hRm (by decide) (by decide)) (Nat.le_of_ble_eq_true rfl) (Nat.le_of_ble_eq_true rfl) ?_
    rw [show (mo_si S 3 (nI 0)).1 0 = S.1 0 from rfl, hg.by2 hj, ← ed]
    exact v_iret C E dX8_ofContract_30 rfl ⟨_, rfl, (if_pos c6).symm, rfl, by rw [show mo_cd _ = _ from if_pos c6]; exact Y14, W14⟩
set_option maxHeartbeats 8000000 in
/-- ofContract -/
theorem c_X8_ofContract3 {G : hp_G} {l : Launch} (hl : l.stackTraces = false) {n0 : Nat} {h0 : Nat → Option va_E} {y : Nat} {S : mo_T} (hS : Mo G h0 y S) {M : mk_T} (hg : Gr (S.1 0) M) (i : Int32) : Ct G l yX8_ofContract cX8_ofContract 3 (some .int) 2 0 0 [.ref y, .int i, .int (nI 3)] (n0, h0) (hp_iq (fun r τ => r = (if hp_num i (mk_ct M) then mk_ar M 8 i.toNatClampNeg else nI 0) ∧ τ.1 = n0 ∧ Mo G τ.2 y (mo_si S 3 (mo_cd (hp_num i (mk_ct M)))) ∧ ∀ a, (a < y ∨ y + 13 ≤ a) → τ.2 a = h0 a)) := by
  have hbase := hS.base
  have hhz := hg.hz
  have htr := hg.tr
  have hct := hg.ct
  refine Ct.of rfl hl (by simp [Value.category]) (Nat.le_of_ble_eq_true rfl) (fun K C E hRm hKl => ?_)
  subst hKl
  refine v_aload_n C dX8_ofContract_0 rfl ?_
  refine v_aload_n C dX8_ofContract_1 rfl ?_
  refine v_iload_n C dX8_ofContract_2 rfl ?_
  refine v_callVi C (c_X8_isContract hl hS hg i) dX8_ofContract_3 mX8_isContract rfl hS.o rfl wd8_28 rfl rfl (Nat.le_of_ble_eq_true rfl) (hp_rmle hRm (by decide) (by decide)) (Nat.le_of_ble_eq_true rfl) (Nat.le_of_ble_eq_true rfl) ?_
  refine v_if_eqB (tgt := 13) C dX8_ofContract_6 (by decide) (fun c6 => ?_) (fun c6 => ?_)
  · refine v_iconst (v := nI 1) C dX8_ofContract_13 (by decide) ?_
    refine v_callVq C (c_X8_fails hl hS (nI 1)) dX8_ofContract_14 mX8_fails rfl hS.o rfl wd7_82 rfl rfl (Nat.le_of_ble_eq_true rfl) (hp_rmle hRm (by decide) (by decide)) (Nat.le_of_ble_eq_true rfl) (Nat.le_of_ble_eq_true rfl) (fun r14 n14 h14 q14 => ?_)
    obtain ⟨e14, k14, Y14, W14⟩ := q14
    have z14 := Eq.symm k14
    have z14 : n0 = n14 := z14
    subst z14
    subst e14
    refine v_if_eqB (tgt := 24) C dX8_ofContract_17 (by decide) (fun c17 => absurd c17 (fun z => z (by decide))) (fun c17 => ?_)
    refine v_iconst (v := nI 0) C dX8_ofContract_20 (by decide) ?_
    refine v_goto (tgt := 30) C dX8_ofContract_21 (by decide) ?_
    exact v_iret C E dX8_ofContract_30 rfl ⟨_, rfl, (if_neg c6).symm, rfl, by rw [show mo_cd _ = _ from if_neg c6]; exact Y14, W14⟩
  · obtain ⟨j, hj, hij⟩ := hp_num_j c6 (by omega)
    have ed : i.toNatClampNeg = j := by rw [hij]; exact nI_clamp (by omega)
    refine v_iconst (v := nI 0) C dX8_ofContract_9 (by decide) ?_
    refine v_goto (tgt := 14) C dX8_ofContract_10 (by decide) ?_
    refine v_callVq C (c_X8_fails hl hS (nI 0)) dX8_ofContract_14 mX8_fails rfl hS.o rfl wd7_82 rfl rfl (Nat.le_of_ble_eq_true rfl) (hp_rmle hRm (by decide) (by decide)) (Nat.le_of_ble_eq_true rfl) (Nat.le_of_ble_eq_true rfl) (fun r14 n14 h14 q14 => ?_)
    obtain ⟨e14, k14, Y14, W14⟩ := q14
    have z14 := Eq.symm k14
    have z14 : n0 = n14 := z14
    subst z14
    subst e14
    refine v_if_eqB (tgt := 24) C dX8_ofContract_17 (by decide) (fun c17 => ?_) (fun c17 => absurd c17 (by decide))
    refine v_aload_n C dX8_ofContract_24 rfl ?_
    refine v_iload_n C dX8_ofContract_25 rfl ?_
    refine v_iload_n C dX8_ofContract_26 rfl ?_
    rw [hij]
    refine v_callVi C (c_X8_by hl Y14 (i := j) (k := 3) (by omega) (by decide)) dX8_ofContract_27 mX8_by rfl Y14.o rfl wd7_141 rfl rfl (Nat.le_of_ble_eq_true rfl) (hp_rmle hRm (by decide) (by decide)) (Nat.le_of_ble_eq_true rfl) (Nat.le_of_ble_eq_true rfl) ?_
    rw [show (mo_si S 3 (nI 0)).1 0 = S.1 0 from rfl, hg.by3 hj, ← ed]
    exact v_iret C E dX8_ofContract_30 rfl ⟨_, rfl, (if_pos c6).symm, rfl, by rw [show mo_cd _ = _ from if_pos c6]; exact Y14, W14⟩
set_option maxHeartbeats 8000000 in
/-- ofContract -/
theorem c_X8_ofContract4 {G : hp_G} {l : Launch} (hl : l.stackTraces = false) {n0 : Nat} {h0 : Nat → Option va_E} {y : Nat} {S : mo_T} (hS : Mo G h0 y S) {M : mk_T} (hg : Gr (S.1 0) M) (i : Int32) : Ct G l yX8_ofContract cX8_ofContract 3 (some .int) 2 0 0 [.ref y, .int i, .int (nI 4)] (n0, h0) (hp_iq (fun r τ => r = (if hp_num i (mk_ct M) then mk_ar M 9 i.toNatClampNeg else nI 0) ∧ τ.1 = n0 ∧ Mo G τ.2 y (mo_si S 3 (mo_cd (hp_num i (mk_ct M)))) ∧ ∀ a, (a < y ∨ y + 13 ≤ a) → τ.2 a = h0 a)) := by
  have hbase := hS.base
  have hhz := hg.hz
  have htr := hg.tr
  have hct := hg.ct
  refine Ct.of rfl hl (by simp [Value.category]) (Nat.le_of_ble_eq_true rfl) (fun K C E hRm hKl => ?_)
  subst hKl
  refine v_aload_n C dX8_ofContract_0 rfl ?_
  refine v_aload_n C dX8_ofContract_1 rfl ?_
  refine v_iload_n C dX8_ofContract_2 rfl ?_
  refine v_callVi C (c_X8_isContract hl hS hg i) dX8_ofContract_3 mX8_isContract rfl hS.o rfl wd8_28 rfl rfl (Nat.le_of_ble_eq_true rfl) (hp_rmle hRm (by decide) (by decide)) (Nat.le_of_ble_eq_true rfl) (Nat.le_of_ble_eq_true rfl) ?_
  refine v_if_eqB (tgt := 13) C dX8_ofContract_6 (by decide) (fun c6 => ?_) (fun c6 => ?_)
  · refine v_iconst (v := nI 1) C dX8_ofContract_13 (by decide) ?_
    refine v_callVq C (c_X8_fails hl hS (nI 1)) dX8_ofContract_14 mX8_fails rfl hS.o rfl wd7_82 rfl rfl (Nat.le_of_ble_eq_true rfl) (hp_rmle hRm (by decide) (by decide)) (Nat.le_of_ble_eq_true rfl) (Nat.le_of_ble_eq_true rfl) (fun r14 n14 h14 q14 => ?_)
    obtain ⟨e14, k14, Y14, W14⟩ := q14
    have z14 := Eq.symm k14
    have z14 : n0 = n14 := z14
    subst z14
    subst e14
    refine v_if_eqB (tgt := 24) C dX8_ofContract_17 (by decide) (fun c17 => absurd c17 (fun z => z (by decide))) (fun c17 => ?_)
    refine v_iconst (v := nI 0) C dX8_ofContract_20 (by decide) ?_
    refine v_goto (tgt := 30) C dX8_ofContract_21 (by decide) ?_
    exact v_iret C E dX8_ofContract_30 rfl ⟨_, rfl, (if_neg c6).symm, rfl, by rw [show mo_cd _ = _ from if_neg c6]; exact Y14, W14⟩
  · obtain ⟨j, hj, hij⟩ := hp_num_j c6 (by omega)
    have ed : i.toNatClampNeg = j := by rw [hij]; exact nI_clamp (by omega)
    refine v_iconst (v := nI 0) C dX8_ofContract_9 (by decide) ?_
    refine v_goto (tgt := 14) C dX8_ofContract_10 (by decide) ?_
    refine v_callVq C (c_X8_fails hl hS (nI 0)) dX8_ofContract_14 mX8_fails rfl hS.o rfl wd7_82 rfl rfl (Nat.le_of_ble_eq_true rfl) (hp_rmle hRm (by decide) (by decide)) (Nat.le_of_ble_eq_true rfl) (Nat.le_of_ble_eq_true rfl) (fun r14 n14 h14 q14 => ?_)
    obtain ⟨e14, k14, Y14, W14⟩ := q14
    have z14 := Eq.symm k14
    have z14 : n0 = n14 := z14
    subst z14
    subst e14
    refine v_if_eqB (tgt := 24) C dX8_ofContract_17 (by decide) (fun c17 => ?_) (fun c17 => absurd c17 (by decide))
    refine v_aload_n C dX8_ofContract_24 rfl ?_
    refine v_iload_n C dX8_ofContract_25 rfl ?_
    refine v_iload_n C dX8_ofContract_26 rfl ?_
    rw [hij]
    refine v_callVi C (c_X8_by hl Y14 (i := j) (k := 4) (by omega) (by decide)) dX8_ofContract_27 mX8_by rfl Y14.o rfl wd7_141 rfl rfl (Nat.le_of_ble_eq_true rfl) (hp_rmle hRm (by decide) (by decide)) (Nat.le_of_ble_eq_true rfl) (Nat.le_of_ble_eq_true rfl) ?_
    rw [show (mo_si S 3 (nI 0)).1 0 = S.1 0 from rfl, hg.by4 hj, ← ed]
    exact v_iret C E dX8_ofContract_30 rfl ⟨_, rfl, (if_pos c6).symm, rfl, by rw [show mo_cd _ = _ from if_pos c6]; exact Y14, W14⟩

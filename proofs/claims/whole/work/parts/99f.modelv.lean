/-! ===== THE MODEL: the lines of a contract, of a trader ===== -/
/-- the same but for the line and the number of the claim -/
def mo_lq (S S2 : mo_T) : Prop := (∀ k, k < 12 → k ≠ 5 → S2.1 k = S.1 k) ∧ ∀ k, k < 12 → k ≠ 7 → k ≠ 3 → S2.2 k = S.2 k
theorem mo_lq.si (S : mo_T) (v : Int32) : mo_lq S (mo_si S 3 v) := ⟨fun _ _ _ => rfl, fun k hk _ h3 => pk_un h3⟩
theorem mo_lq.ln {S S2 S3 : mo_T} (a : mo_lq S S2) (b : mo_ln S2 S3) : mo_lq S S3 := ⟨fun k h1 h2 => (b.1 k h1 h2).trans (a.1 k h1 h2), fun k h1 h2 h3 => (b.2 k h1 h2).trans (a.2 k h1 h2 h3)⟩
theorem mo_lq.i7 (S : mo_T) (v w : Int32) : mo_lq S (mo_si (mo_si S 3 v) 7 w) := ⟨fun _ _ _ => rfl, fun k hk h7 h3 => (pk_un h7).trans (pk_un h3)⟩
theorem Ln.z (S : mo_T) : Ln (mo_si S 7 (nI 0)) wl_0 := ⟨mo_si_3 S 7 (nI 0), Nat.zero_le _, fun i hi => absurd hi (Nat.not_lt_zero i)⟩
theorem Ln.s3 {S : mo_T} {P : wl_T} (H : Ln S P) (v : Int32) : Ln (mo_si S 3 v) P := H
/-- the model's line of a trader -/
def mt_l (M : mk_T) (j : Nat) : wl_T := if mk_ar M 4 j = nI 1 then wl_c (wl_i (wl_c (wl_i wl_0 (mk_ar M 3 j)) 47) (mo_mg M (nI j) (mk_hz M))) 33 else if mk_ar M 4 j = nI 2 then wl_c (wl_i (wl_c (wl_i wl_0 (mk_ar M 3 j)) 47) (mo_mg M (nI j) (mk_hz M))) 120 else wl_i (wl_c (wl_i wl_0 (mk_ar M 3 j)) 47) (mo_mg M (nI j) (mk_hz M))
theorem nar_r : ∀ k, k < 256 → narrow .char (.int (nI k)) = .int (nI k) := by decide +kernel
def mt_ok (M : mk_T) : Prop := ∀ j, j < mk_tr M → mk_ar M 3 j ≠ hp_mn ∧ mo_mg M (nI j) (mk_hz M) ≠ hp_mn
set_option maxHeartbeats 8000000 in
/-- a contract is written -/
theorem c_X8_writeContract {G : hp_G} {l : Launch} (hl : l.stackTraces = false) {n0 : Nat} {h0 : Nat → Option va_E} {y : Nat} {S : mo_T} (hS : Mo G h0 y S) {M : mk_T} (hg : Gr (S.1 0) M) (i : Int32) {P : wl_T} (hL : Ln S P) (hok : wc_ok M) : Ct G l yX8_writeContract cX8_writeContract 2 (some .int) 13 0 0 [.ref y, .int i] (n0, h0) (hp_iq (fun r τ => r = (if hp_num i (mk_ct M) then nI (wc_l M i.toNatClampNeg).1 else nI 0) ∧ τ.1 = n0 ∧ (∃ S2, Mo G τ.2 y S2 ∧ Ln S2 (if hp_num i (mk_ct M) then wc_l M i.toNatClampNeg else P) ∧ mo_lq S S2 ∧ S2.2 3 = mo_cd (hp_num i (mk_ct M))) ∧ ∀ a, (a < y ∨ y + 13 ≤ a) → τ.2 a = h0 a)) := by
  have hbase := hS.base
  have hhz := hg.hz
  have htr := hg.tr
  have hct := hg.ct
  refine Ct.of rfl hl (by simp [Value.category]) (Nat.le_of_ble_eq_true rfl) (fun K C E hRm hKl => ?_)
  subst hKl
  refine v_aload_n C dX8_writeContract_0 rfl ?_
  refine v_aload_n C dX8_writeContract_1 rfl ?_
  refine v_iload_n C dX8_writeContract_2 rfl ?_
  refine v_callVi C (c_X8_isContract hl hS hg i) dX8_writeContract_3 mX8_isContract rfl hS.o rfl wd8_28 rfl rfl (Nat.le_of_ble_eq_true rfl) (hp_rmle hRm (by decide) (by decide)) (Nat.le_of_ble_eq_true rfl) (Nat.le_of_ble_eq_true rfl) ?_
  refine v_if_eqB (tgt := 13) C dX8_writeContract_6 (by decide) (fun c6 => ?_) (fun c6 => ?_)
  · refine v_iconst (v := nI 1) C dX8_writeContract_13 (by decide) ?_
    refine v_callVq C (c_X8_fails hl hS (nI 1)) dX8_writeContract_14 mX8_fails rfl hS.o rfl wd7_82 rfl rfl (Nat.le_of_ble_eq_true rfl) (hp_rmle hRm (by decide) (by decide)) (Nat.le_of_ble_eq_true rfl) (Nat.le_of_ble_eq_true rfl) (fun r14 n14 h14 q14 => ?_)
    obtain ⟨e14, k14, Y14, W14⟩ := q14
    have z14 := Eq.symm k14
    have z14 : n0 = n14 := z14
    subst z14
    subst e14
    refine v_if_eqB (tgt := 22) C dX8_writeContract_17 (by decide) (fun c17 => absurd c17 (fun z => z (by decide))) (fun c17 => ?_)
    refine v_iconst (v := nI 0) C dX8_writeContract_20 (by decide) ?_
    exact v_iret C E dX8_writeContract_21 rfl ⟨_, rfl, (if_neg c6).symm, rfl, ⟨_, Y14, by rw [if_neg c6]; exact hL.s3 _, mo_lq.si S _, (mo_si_3 S 3 _).trans (show _ = mo_cd _ from (if_neg c6).symm)⟩, W14⟩
  · obtain ⟨j, hj, hij⟩ := hp_num_j c6 (by omega)
    have ed : i.toNatClampNeg = j := by rw [hij]; exact nI_clamp (by omega)
    have o1 := it_n_le (mk_ar M 5 j)
    have o2 := it_n_le (mk_ar M 6 j)
    have o3 := it_n_le (mk_ar M 8 j)
    have o4 := it_n_le (mk_ar M 7 j)
    have o5 := it_n_le (mk_ar M 9 j - M.2.2.1.1)
    obtain ⟨x5, x6, x7, x8, x9⟩ := hok j hj
    refine v_iconst (v := nI 0) C dX8_writeContract_9 (by decide) ?_
    refine v_goto (tgt := 14) C dX8_writeContract_10 (by decide) ?_
    refine v_callVq C (c_X8_fails hl hS (nI 0)) dX8_writeContract_14 mX8_fails rfl hS.o rfl wd7_82 rfl rfl (Nat.le_of_ble_eq_true rfl) (hp_rmle hRm (by decide) (by decide)) (Nat.le_of_ble_eq_true rfl) (Nat.le_of_ble_eq_true rfl) (fun r14 n14 h14 q14 => ?_)
    obtain ⟨e14, k14, Y14, W14⟩ := q14
    have z14 := Eq.symm k14
    have z14 : n0 = n14 := z14
    subst z14
    subst e14
    refine v_if_eqB (tgt := 22) C dX8_writeContract_17 (by decide) (fun c17 => ?_) (fun c17 => absurd c17 (by decide))
    refine v_aload_n C dX8_writeContract_22 rfl ?_
    refine v_iconst (v := nI 0) C dX8_writeContract_23 (by decide) ?_
    refine v_put C 13 dX8_writeContract_24 wd7_10 hbase Y14.o rfl (by decide) ⟨rfl, rfl, rfl, rfl⟩ rfl rfl rfl (Nat.le_of_ble_eq_true rfl) (fun h24 e24 g24 => ?_)
    have Y24 := Y14.i7 e24 g24
    have W24 : ∀ a, (a < y ∨ y + 13 ≤ a) → h24 a = h0 a := fun a ha => (g24 a (by omega)).trans (W14 a ha)
    have L24 := Ln.z (mo_si S 3 (nI 0))
    have Q24 := mo_lq.i7 S (nI 0) (nI 0)
    have g24 : Gr ((mo_si (mo_si S 3 (nI 0)) 7 (nI 0)).1 0) M := hg
    have b24 : (wl_0).1 ≤ 0 := Nat.le_refl _
    have t24 : (mo_si (mo_si S 3 (nI 0)) 7 (nI 0)).2 3 = nI 0 := (show upd (upd S.2 3 (nI 0)) 7 (nI 0) 3 = nI 0 by rw [pk_un (by decide), pk_us])
    refine v_aload_n C dX8_writeContract_27 rfl ?_
    refine v_aload_n C dX8_writeContract_28 rfl ?_
    refine v_iload_n C dX8_writeContract_29 rfl ?_
    refine v_iconst (v := nI 0) C dX8_writeContract_30 (by decide) ?_
    have cR31 := c_X8_by (n0 := n0) hl Y24 (i := j) (k := 0) (by omega) (by decide)
    rw [g24.by0 hj, ← hij] at cR31
    refine v_callVi C cR31 dX8_writeContract_31 mX8_by rfl Y24.o rfl wd7_141 rfl rfl (Nat.le_of_ble_eq_true rfl) (hp_rmle hRm (by decide) (by decide)) (Nat.le_of_ble_eq_true rfl) (Nat.le_of_ble_eq_true rfl) ?_
    refine v_callVv C (c_X8_writesNumber hl Y24 L24 x5 (show 0 + _ ≤ 60 by omega)) dX8_writeContract_34 mX8_writesNumber rfl Y24.o rfl wd8_124 rfl rfl (Nat.le_of_ble_eq_true rfl) (hp_rmle hRm (by decide) (by decide)) (Nat.le_of_ble_eq_true rfl) (Nat.le_of_ble_eq_true rfl) (fun n34 h34 q34 => ?_)
    obtain ⟨k34, ⟨S34, Y34, L34, M34⟩, W34⟩ := q34
    have z34 := Eq.symm k34
    have z34 : n0 = n34 := z34
    subst z34
    have W34 : ∀ a, (a < y ∨ y + 13 ≤ a) → h34 a = h0 a := fun a ha => (W34 a ha).trans (W24 a ha)
    have Q34 := Q24.ln M34
    have g34 : Gr (S34.1 0) M := by rw [M34.1 0 (by decide) (by decide)]; exact g24
    have t34 : S34.2 3 = nI 0 := (M34.2 3 (by decide) (by decide)).trans t24
    refine v_aload_n C dX8_writeContract_37 rfl ?_
    refine v_bipush (v := nI 60) C dX8_writeContract_38 (by decide) ?_
    refine v_aload_n C dX8_writeContract_40 rfl ?_
    refine v_iload_n C dX8_writeContract_41 rfl ?_
    refine v_iconst (v := nI 1) C dX8_writeContract_42 (by decide) ?_
    have cR43 := c_X8_by (n0 := n0) hl Y34 (i := j) (k := 1) (by omega) (by decide)
    rw [g34.by1 hj, ← hij] at cR43
    refine v_callVi C cR43 dX8_writeContract_43 mX8_by rfl Y34.o rfl wd7_141 rfl rfl (Nat.le_of_ble_eq_true rfl) (hp_rmle hRm (by decide) (by decide)) (Nat.le_of_ble_eq_true rfl) (Nat.le_of_ble_eq_true rfl) ?_
    refine v_callVv C (c_X8_writesBehind hl Y34 L34 (k := 60) (by decide) x6 (show 0 + it_n (mk_ar M 5 j) + 1 + it_n (mk_ar M 6 j) ≤ 60 by omega)) dX8_writeContract_46 mX8_writesBehind rfl Y34.o rfl wd8_132 rfl rfl (Nat.le_of_ble_eq_true rfl) (hp_rmle hRm (by decide) (by decide)) (Nat.le_of_ble_eq_true rfl) (Nat.le_of_ble_eq_true rfl) (fun n46 h46 q46 => ?_)
    obtain ⟨k46, ⟨S46, Y46, L46, M46⟩, W46⟩ := q46
    have z46 := Eq.symm k46
    have z46 : n0 = n46 := z46
    subst z46
    have W46 : ∀ a, (a < y ∨ y + 13 ≤ a) → h46 a = h0 a := fun a ha => (W46 a ha).trans (W34 a ha)
    have Q46 := Q34.ln M46
    have g46 : Gr (S46.1 0) M := by rw [M46.1 0 (by decide) (by decide)]; exact g34
    have t46 : S46.2 3 = nI 0 := (M46.2 3 (by decide) (by decide)).trans t34
    refine v_aload_n C dX8_writeContract_49 rfl ?_
    refine v_bipush (v := nI 58) C dX8_writeContract_50 (by decide) ?_
    refine v_aload_n C dX8_writeContract_52 rfl ?_
    refine v_iload_n C dX8_writeContract_53 rfl ?_
    refine v_iconst (v := nI 3) C dX8_writeContract_54 (by decide) ?_
    have cR55 := c_X8_by (n0 := n0) hl Y46 (i := j) (k := 3) (by omega) (by decide)
    rw [g46.by3 hj, ← hij] at cR55
    refine v_callVi C cR55 dX8_writeContract_55 mX8_by rfl Y46.o rfl wd7_141 rfl rfl (Nat.le_of_ble_eq_true rfl) (hp_rmle hRm (by decide) (by decide)) (Nat.le_of_ble_eq_true rfl) (Nat.le_of_ble_eq_true rfl) ?_
    refine v_callVv C (c_X8_writesBehind hl Y46 L46 (k := 58) (by decide) x8 (show 0 + it_n (mk_ar M 5 j) + 1 + it_n (mk_ar M 6 j) + 1 + it_n (mk_ar M 8 j) ≤ 60 by omega)) dX8_writeContract_58 mX8_writesBehind rfl Y46.o rfl wd8_132 rfl rfl (Nat.le_of_ble_eq_true rfl) (hp_rmle hRm (by decide) (by decide)) (Nat.le_of_ble_eq_true rfl) (Nat.le_of_ble_eq_true rfl) (fun n58 h58 q58 => ?_)
    obtain ⟨k58, ⟨S58, Y58, L58, M58⟩, W58⟩ := q58
    have z58 := Eq.symm k58
    have z58 : n0 = n58 := z58
    subst z58
    have W58 : ∀ a, (a < y ∨ y + 13 ≤ a) → h58 a = h0 a := fun a ha => (W58 a ha).trans (W46 a ha)
    have Q58 := Q46.ln M58
    have g58 : Gr (S58.1 0) M := by rw [M58.1 0 (by decide) (by decide)]; exact g46
    have t58 : S58.2 3 = nI 0 := (M58.2 3 (by decide) (by decide)).trans t46
    refine v_aload_n C dX8_writeContract_61 rfl ?_
    refine v_bipush (v := nI 104) C dX8_writeContract_62 (by decide) ?_
    refine v_aload_n C dX8_writeContract_64 rfl ?_
    refine v_iload_n C dX8_writeContract_65 rfl ?_
    refine v_iconst (v := nI 2) C dX8_writeContract_66 (by decide) ?_
    have cR67 := c_X8_by (n0 := n0) hl Y58 (i := j) (k := 2) (by omega) (by decide)
    rw [g58.by2 hj, ← hij] at cR67
    refine v_callVi C cR67 dX8_writeContract_67 mX8_by rfl Y58.o rfl wd7_141 rfl rfl (Nat.le_of_ble_eq_true rfl) (hp_rmle hRm (by decide) (by decide)) (Nat.le_of_ble_eq_true rfl) (Nat.le_of_ble_eq_true rfl) ?_
    refine v_callVv C (c_X8_writesBehind hl Y58 L58 (k := 104) (by decide) x7 (show 0 + it_n (mk_ar M 5 j) + 1 + it_n (mk_ar M 6 j) + 1 + it_n (mk_ar M 8 j) + 1 + it_n (mk_ar M 7 j) ≤ 60 by omega)) dX8_writeContract_70 mX8_writesBehind rfl Y58.o rfl wd8_132 rfl rfl (Nat.le_of_ble_eq_true rfl) (hp_rmle hRm (by decide) (by decide)) (Nat.le_of_ble_eq_true rfl) (Nat.le_of_ble_eq_true rfl) (fun n70 h70 q70 => ?_)
    obtain ⟨k70, ⟨S70, Y70, L70, M70⟩, W70⟩ := q70
    have z70 := Eq.symm k70
    have z70 : n0 = n70 := z70
    subst z70
    have W70 : ∀ a, (a < y ∨ y + 13 ≤ a) → h70 a = h0 a := fun a ha => (W70 a ha).trans (W58 a ha)
    have Q70 := Q58.ln M70
    have g70 : Gr (S70.1 0) M := by rw [M70.1 0 (by decide) (by decide)]; exact g58
    have t70 : S70.2 3 = nI 0 := (M70.2 3 (by decide) (by decide)).trans t58
    refine v_aload_n C dX8_writeContract_73 rfl ?_
    refine v_bipush (v := nI 43) C dX8_writeContract_74 (by decide) ?_
    refine v_aload_n C dX8_writeContract_76 rfl ?_
    refine v_iload_n C dX8_writeContract_77 rfl ?_
    refine v_iconst (v := nI 4) C dX8_writeContract_78 (by decide) ?_
    have cR79 := c_X8_by (n0 := n0) hl Y70 (i := j) (k := 4) (by omega) (by decide)
    rw [g70.by4 hj, ← hij] at cR79
    refine v_callVi C cR79 dX8_writeContract_79 mX8_by rfl Y70.o rfl wd7_141 rfl rfl (Nat.le_of_ble_eq_true rfl) (hp_rmle hRm (by decide) (by decide)) (Nat.le_of_ble_eq_true rfl) (Nat.le_of_ble_eq_true rfl) ?_
    refine v_aload_n C dX8_writeContract_82 rfl ?_
    refine v_get C 0 dX8_writeContract_83 wd6_237 Y70.o rfl (by decide) ⟨rfl, rfl, rfl⟩ rfl ?_
    refine v_iconst (v := nI 3) C dX8_writeContract_86 (by decide) ?_
    refine v_ialdN C dX8_writeContract_87 Y70.a0 (by omega) (by decide) ?_
    rw [g70.g3]
    refine v_isub C dX8_writeContract_88 ?_
    refine v_callVv C (c_X8_writesBehind hl Y70 L70 (k := 43) (by decide) x9 (show 0 + it_n (mk_ar M 5 j) + 1 + it_n (mk_ar M 6 j) + 1 + it_n (mk_ar M 8 j) + 1 + it_n (mk_ar M 7 j) + 1 + it_n (mk_ar M 9 j - M.2.2.1.1) ≤ 60 by omega)) dX8_writeContract_89 mX8_writesBehind rfl Y70.o rfl wd8_132 rfl rfl (Nat.le_of_ble_eq_true rfl) (hp_rmle hRm (by decide) (by decide)) (Nat.le_of_ble_eq_true rfl) (Nat.le_of_ble_eq_true rfl) (fun n89 h89 q89 => ?_)
    obtain ⟨k89, ⟨S89, Y89, L89, M89⟩, W89⟩ := q89
    have z89 := Eq.symm k89
    have z89 : n0 = n89 := z89
    subst z89
    have W89 : ∀ a, (a < y ∨ y + 13 ≤ a) → h89 a = h0 a := fun a ha => (W89 a ha).trans (W70 a ha)
    have Q89 := Q70.ln M89
    have g89 : Gr (S89.1 0) M := by rw [M89.1 0 (by decide) (by decide)]; exact g70
    have t89 : S89.2 3 = nI 0 := (M89.2 3 (by decide) (by decide)).trans t70
    refine v_aload_n C dX8_writeContract_92 rfl ?_
    refine v_get C 13 dX8_writeContract_93 wd7_10 Y89.o rfl (by decide) ⟨rfl, rfl, rfl⟩ rfl ?_
    exact v_iret C E dX8_writeContract_96 rfl ⟨_, rfl, by rw [if_pos c6, ed]; exact L89.1, rfl, ⟨_, Y89, by rw [if_pos c6, ed]; exact L89, Q89, t89.trans (show _ = mo_cd _ from (if_pos c6).symm)⟩, W89⟩
set_option maxHeartbeats 8000000 in
/-- a trader is written -/
theorem c_X8_writeTrader {G : hp_G} {l : Launch} (hl : l.stackTraces = false) {n0 : Nat} {h0 : Nat → Option va_E} {y : Nat} {S : mo_T} (hS : Mo G h0 y S) {M : mk_T} (hg : Gr (S.1 0) M) (i : Int32) {P : wl_T} (hL : Ln S P) (hok : mt_ok M) : Ct G l yX8_writeTrader cX8_writeTrader 2 (some .int) 13 0 0 [.ref y, .int i] (n0, h0) (hp_iq (fun r τ => r = (if hp_num i (mk_tr M) then nI (mt_l M i.toNatClampNeg).1 else nI 0) ∧ τ.1 = n0 ∧ (∃ S2, Mo G τ.2 y S2 ∧ Ln S2 (if hp_num i (mk_tr M) then mt_l M i.toNatClampNeg else P) ∧ mo_lq S S2 ∧ S2.2 3 = mo_cd (hp_num i (mk_tr M))) ∧ ∀ a, (a < y ∨ y + 13 ≤ a) → τ.2 a = h0 a)) := by
  have hbase := hS.base
  have hhz := hg.hz
  have htr := hg.tr
  have hct := hg.ct
  refine Ct.of rfl hl (by simp [Value.category]) (Nat.le_of_ble_eq_true rfl) (fun K C E hRm hKl => ?_)
  subst hKl
  refine v_aload_n C dX8_writeTrader_0 rfl ?_
  refine v_aload_n C dX8_writeTrader_1 rfl ?_
  refine v_iload_n C dX8_writeTrader_2 rfl ?_
  refine v_callVi C (c_X8_isTrader hl hS hg i) dX8_writeTrader_3 mX8_isTrader rfl hS.o rfl wd7_105 rfl rfl (Nat.le_of_ble_eq_true rfl) (hp_rmle hRm (by decide) (by decide)) (Nat.le_of_ble_eq_true rfl) (Nat.le_of_ble_eq_true rfl) ?_
  refine v_if_eqB (tgt := 13) C dX8_writeTrader_6 (by decide) (fun c6 => ?_) (fun c6 => ?_)
  · refine v_iconst (v := nI 1) C dX8_writeTrader_13 (by decide) ?_
    refine v_callVq C (c_X8_fails hl hS (nI 1)) dX8_writeTrader_14 mX8_fails rfl hS.o rfl wd7_82 rfl rfl (Nat.le_of_ble_eq_true rfl) (hp_rmle hRm (by decide) (by decide)) (Nat.le_of_ble_eq_true rfl) (Nat.le_of_ble_eq_true rfl) (fun r14 n14 h14 q14 => ?_)
    obtain ⟨e14, k14, Y14, W14⟩ := q14
    have z14 := Eq.symm k14
    have z14 : n0 = n14 := z14
    subst z14
    subst e14
    refine v_if_eqB (tgt := 22) C dX8_writeTrader_17 (by decide) (fun c17 => absurd c17 (fun z => z (by decide))) (fun c17 => ?_)
    refine v_iconst (v := nI 0) C dX8_writeTrader_20 (by decide) ?_
    exact v_iret C E dX8_writeTrader_21 rfl ⟨_, rfl, (if_neg c6).symm, rfl, ⟨_, Y14, by rw [if_neg c6]; exact hL.s3 _, mo_lq.si S _, (mo_si_3 S 3 _).trans (show _ = mo_cd _ from (if_neg c6).symm)⟩, W14⟩
  · obtain ⟨j, hj, hij⟩ := hp_num_j c6 (by omega)
    have ed : i.toNatClampNeg = j := by rw [hij]; exact nI_clamp (by omega)
    have o1 := it_n_le (mk_ar M 3 j)
    have o2 := it_n_le (mo_mg M (nI j) (mk_hz M))
    obtain ⟨x3, xm⟩ := hok j hj
    refine v_iconst (v := nI 0) C dX8_writeTrader_9 (by decide) ?_
    refine v_goto (tgt := 14) C dX8_writeTrader_10 (by decide) ?_
    refine v_callVq C (c_X8_fails hl hS (nI 0)) dX8_writeTrader_14 mX8_fails rfl hS.o rfl wd7_82 rfl rfl (Nat.le_of_ble_eq_true rfl) (hp_rmle hRm (by decide) (by decide)) (Nat.le_of_ble_eq_true rfl) (Nat.le_of_ble_eq_true rfl) (fun r14 n14 h14 q14 => ?_)
    obtain ⟨e14, k14, Y14, W14⟩ := q14
    have z14 := Eq.symm k14
    have z14 : n0 = n14 := z14
    subst z14
    subst e14
    refine v_if_eqB (tgt := 22) C dX8_writeTrader_17 (by decide) (fun c17 => ?_) (fun c17 => absurd c17 (by decide))
    refine v_aload_n C dX8_writeTrader_22 rfl ?_
    refine v_iconst (v := nI 0) C dX8_writeTrader_23 (by decide) ?_
    refine v_put C 13 dX8_writeTrader_24 wd7_10 hbase Y14.o rfl (by decide) ⟨rfl, rfl, rfl, rfl⟩ rfl rfl rfl (Nat.le_of_ble_eq_true rfl) (fun h24 e24 g24 => ?_)
    have Y24 := Y14.i7 e24 g24
    have W24 : ∀ a, (a < y ∨ y + 13 ≤ a) → h24 a = h0 a := fun a ha => (g24 a (by omega)).trans (W14 a ha)
    have L24 := Ln.z (mo_si S 3 (nI 0))
    have Q24 := mo_lq.i7 S (nI 0) (nI 0)
    have g24 : Gr ((mo_si (mo_si S 3 (nI 0)) 7 (nI 0)).1 0) M := hg
    have b24 : (wl_0).1 ≤ 0 := Nat.le_refl _
    have t24 : (mo_si (mo_si S 3 (nI 0)) 7 (nI 0)).2 3 = nI 0 := (show upd (upd S.2 3 (nI 0)) 7 (nI 0) 3 = nI 0 by rw [pk_un (by decide), pk_us])
    refine v_aload_n C dX8_writeTrader_27 rfl ?_
    refine v_aload_n C dX8_writeTrader_28 rfl ?_
    refine v_iload_n C dX8_writeTrader_29 rfl ?_
    refine v_iconst (v := nI 0) C dX8_writeTrader_30 (by decide) ?_
    have cR31 := c_X8_of (n0 := n0) hl Y24 (i := j) (k := 0) (by omega) (by decide)
    rw [g24.of0 hj, ← hij] at cR31
    refine v_callVi C cR31 dX8_writeTrader_31 mX8_of rfl Y24.o rfl wd7_117 rfl rfl (Nat.le_of_ble_eq_true rfl) (hp_rmle hRm (by decide) (by decide)) (Nat.le_of_ble_eq_true rfl) (Nat.le_of_ble_eq_true rfl) ?_
    refine v_callVv C (c_X8_writesNumber hl Y24 L24 x3 (show 0 + _ ≤ 60 by omega)) dX8_writeTrader_34 mX8_writesNumber rfl Y24.o rfl wd8_124 rfl rfl (Nat.le_of_ble_eq_true rfl) (hp_rmle hRm (by decide) (by decide)) (Nat.le_of_ble_eq_true rfl) (Nat.le_of_ble_eq_true rfl) (fun n34 h34 q34 => ?_)
    obtain ⟨k34, ⟨S34, Y34, L34, M34⟩, W34⟩ := q34
    have z34 := Eq.symm k34
    have z34 : n0 = n34 := z34
    subst z34
    have W34 : ∀ a, (a < y ∨ y + 13 ≤ a) → h34 a = h0 a := fun a ha => (W34 a ha).trans (W24 a ha)
    have Q34 := Q24.ln M34
    have g34 : Gr (S34.1 0) M := by rw [M34.1 0 (by decide) (by decide)]; exact g24
    have t34 : S34.2 3 = nI 0 := (M34.2 3 (by decide) (by decide)).trans t24
    refine v_aload_n C dX8_writeTrader_37 rfl ?_
    refine v_bipush (v := nI 47) C dX8_writeTrader_38 (by decide) ?_
    refine v_aload_n C dX8_writeTrader_40 rfl ?_
    refine v_iload_n C dX8_writeTrader_41 rfl ?_
    refine v_callVi C (c_X8_margin hl Y34 g34 i) dX8_writeTrader_42 mX8_margin rfl Y34.o rfl wd7_133 rfl rfl (Nat.le_of_ble_eq_true rfl) (hp_rmle hRm (by decide) (by decide)) (Nat.le_of_ble_eq_true rfl) (Nat.le_of_ble_eq_true rfl) ?_
    rw [show mo_mg M i (mk_hz M) = mo_mg M (nI j) (mk_hz M) by rw [hij]]
    refine v_callVv C (c_X8_writesBehind hl Y34 L34 (k := 47) (by decide) xm (show 0 + it_n (mk_ar M 3 j) + 1 + it_n (mo_mg M (nI j) (mk_hz M)) ≤ 60 by omega)) dX8_writeTrader_45 mX8_writesBehind rfl Y34.o rfl wd8_132 rfl rfl (Nat.le_of_ble_eq_true rfl) (hp_rmle hRm (by decide) (by decide)) (Nat.le_of_ble_eq_true rfl) (Nat.le_of_ble_eq_true rfl) (fun n45 h45 q45 => ?_)
    obtain ⟨k45, ⟨S45, Y45, L45, M45⟩, W45⟩ := q45
    have z45 := Eq.symm k45
    have z45 : n0 = n45 := z45
    subst z45
    have W45 : ∀ a, (a < y ∨ y + 13 ≤ a) → h45 a = h0 a := fun a ha => (W45 a ha).trans (W34 a ha)
    have Q45 := Q34.ln M45
    have g45 : Gr (S45.1 0) M := by rw [M45.1 0 (by decide) (by decide)]; exact g34
    have t45 : S45.2 3 = nI 0 := (M45.2 3 (by decide) (by decide)).trans t34
    refine v_aload_n C dX8_writeTrader_48 rfl ?_
    refine v_iload_n C dX8_writeTrader_49 rfl ?_
    have cR50 := c_X8_isSound (n0 := n0) hl Y45 g45 hj
    rw [← hij] at cR50
    refine v_callVi C cR50 dX8_writeTrader_50 mX8_isSound rfl Y45.o rfl wd7_113 rfl rfl (Nat.le_of_ble_eq_true rfl) (hp_rmle hRm (by decide) (by decide)) (Nat.le_of_ble_eq_true rfl) (Nat.le_of_ble_eq_true rfl) ?_
    refine v_if_neB (tgt := 77) C dX8_writeTrader_53 (by decide) (fun c53 => ?_) (fun c53 => ?_)
    · have ev : mt_l M j = wl_i (wl_c (wl_i wl_0 (mk_ar M 3 j)) 47) (mo_mg M (nI j) (mk_hz M)) := (if_neg (fun z => absurd (z.symm.trans c53) (by decide))).trans (if_neg (fun z => absurd (z.symm.trans c53) (by decide)))
      refine v_aload_n C dX8_writeTrader_77 rfl ?_
      refine v_get C 13 dX8_writeTrader_78 wd7_10 Y45.o rfl (by decide) ⟨rfl, rfl, rfl⟩ rfl ?_
      exact v_iret C E dX8_writeTrader_81 rfl ⟨_, rfl, by rw [if_pos c6, ed, ev]; exact L45.1, rfl, ⟨_, Y45, by rw [if_pos c6, ed, ev]; exact L45, Q45, t45.trans (show _ = mo_cd _ from (if_pos c6).symm)⟩, W45⟩
    · refine v_aload_n C dX8_writeTrader_56 rfl ?_
      refine v_aload_n C dX8_writeTrader_57 rfl ?_
      refine v_iload_n C dX8_writeTrader_58 rfl ?_
      refine v_iconst (v := nI 1) C dX8_writeTrader_59 (by decide) ?_
      have cR60 := c_X8_of (n0 := n0) hl Y45 (i := j) (k := 1) (by omega) (by decide)
      rw [g45.of1 hj, ← hij] at cR60
      refine v_callVi C cR60 dX8_writeTrader_60 mX8_of rfl Y45.o rfl wd7_117 rfl rfl (Nat.le_of_ble_eq_true rfl) (hp_rmle hRm (by decide) (by decide)) (Nat.le_of_ble_eq_true rfl) (Nat.le_of_ble_eq_true rfl) ?_
      refine v_iconst (v := nI 1) C dX8_writeTrader_63 (by decide) ?_
      refine v_icmp_ne (tgt := 72) C dX8_writeTrader_64 (by decide) (fun c64 => ?_) (fun c64 => ?_)
      · have ev : mt_l M j = wl_c (wl_i (wl_c (wl_i wl_0 (mk_ar M 3 j)) 47) (mo_mg M (nI j) (mk_hz M))) 120 := (if_neg (fun z => c64 (hp_b_1.mpr z))).trans (if_pos (((hg.st hj).resolve_left c53).resolve_left (fun z => c64 (hp_b_1.mpr z))))
        refine v_bipush (v := nI 120) C dX8_writeTrader_72 (by decide) ?_
        refine v_callVv C (c_X8_writes hl Y45 L45 (k := 120) (by decide) (show 0 + it_n (mk_ar M 3 j) + 1 + it_n (mo_mg M (nI j) (mk_hz M)) < 60 by omega)) dX8_writeTrader_74 mX8_writes rfl Y45.o rfl wd8_128 rfl rfl (Nat.le_of_ble_eq_true rfl) (hp_rmle hRm (by decide) (by decide)) (Nat.le_of_ble_eq_true rfl) (Nat.le_of_ble_eq_true rfl) (fun n74 h74 q74 => ?_)
        obtain ⟨k74, ⟨S74, Y74, L74, M74⟩, W74⟩ := q74
        have z74 := Eq.symm k74
        have z74 : n0 = n74 := z74
        subst z74
        have W74 : ∀ a, (a < y ∨ y + 13 ≤ a) → h74 a = h0 a := fun a ha => (W74 a ha).trans (W45 a ha)
        have Q74 := Q45.ln M74
        have g74 : Gr (S74.1 0) M := by rw [M74.1 0 (by decide) (by decide)]; exact g45
        have t74 : S74.2 3 = nI 0 := (M74.2 3 (by decide) (by decide)).trans t45
        refine v_aload_n C dX8_writeTrader_77 rfl ?_
        refine v_get C 13 dX8_writeTrader_78 wd7_10 Y74.o rfl (by decide) ⟨rfl, rfl, rfl⟩ rfl ?_
        exact v_iret C E dX8_writeTrader_81 rfl ⟨_, rfl, by rw [if_pos c6, ed, ev]; exact L74.1, rfl, ⟨_, Y74, by rw [if_pos c6, ed, ev]; exact L74, Q74, t74.trans (show _ = mo_cd _ from (if_pos c6).symm)⟩, W74⟩
      · have ev : mt_l M j = wl_c (wl_i (wl_c (wl_i wl_0 (mk_ar M 3 j)) 47) (mo_mg M (nI j) (mk_hz M))) 33 := if_pos (hp_b_1.mp c64)
        refine v_bipush (v := nI 33) C dX8_writeTrader_67 (by decide) ?_
        refine v_goto (tgt := 74) C dX8_writeTrader_69 (by decide) ?_
        refine v_callVv C (c_X8_writes hl Y45 L45 (k := 33) (by decide) (show 0 + it_n (mk_ar M 3 j) + 1 + it_n (mo_mg M (nI j) (mk_hz M)) < 60 by omega)) dX8_writeTrader_74 mX8_writes rfl Y45.o rfl wd8_128 rfl rfl (Nat.le_of_ble_eq_true rfl) (hp_rmle hRm (by decide) (by decide)) (Nat.le_of_ble_eq_true rfl) (Nat.le_of_ble_eq_true rfl) (fun n74 h74 q74 => ?_)
        obtain ⟨k74, ⟨S74, Y74, L74, M74⟩, W74⟩ := q74
        have z74 := Eq.symm k74
        have z74 : n0 = n74 := z74
        subst z74
        have W74 : ∀ a, (a < y ∨ y + 13 ≤ a) → h74 a = h0 a := fun a ha => (W74 a ha).trans (W45 a ha)
        have Q74 := Q45.ln M74
        have g74 : Gr (S74.1 0) M := by rw [M74.1 0 (by decide) (by decide)]; exact g45
        have t74 : S74.2 3 = nI 0 := (M74.2 3 (by decide) (by decide)).trans t45
        refine v_aload_n C dX8_writeTrader_77 rfl ?_
        refine v_get C 13 dX8_writeTrader_78 wd7_10 Y74.o rfl (by decide) ⟨rfl, rfl, rfl⟩ rfl ?_
        exact v_iret C E dX8_writeTrader_81 rfl ⟨_, rfl, by rw [if_pos c6, ed, ev]; exact L74.1, rfl, ⟨_, Y74, by rw [if_pos c6, ed, ev]; exact L74, Q74, t74.trans (show _ = mo_cd _ from (if_pos c6).symm)⟩, W74⟩
set_option maxHeartbeats 8000000 in
/-- a sign of the line -/
theorem c_X8_lineAt {G : hp_G} {l : Launch} (hl : l.stackTraces = false) {n0 : Nat} {h0 : Nat → Option va_E} {y : Nat} {S : mo_T} (hS : Mo G h0 y S) {P : wl_T} (hL : Ln S P) (i : Int32) : Ct G l yX8_lineAt cX8_lineAt 2 (some .char) 1 0 0 [.ref y, .int i] (n0, h0) (hp_iq (fun r τ => r = (if hp_num i P.1 then nI (P.2 i.toNatClampNeg) else nI 32) ∧ τ.1 = n0 ∧ Mo G τ.2 y (mo_si S 3 (mo_cd (hp_num i P.1))) ∧ ∀ a, (a < y ∨ y + 13 ≤ a) → τ.2 a = h0 a)) := by
  have hbase := hS.base
  have hS1 := hS.to (mo_si_eq hL.1)
  have hL60 := hL.2.1
  refine Ct.of rfl hl (by simp [Value.category]) (Nat.le_of_ble_eq_true rfl) (fun K C E hRm hKl => ?_)
  subst hKl
  refine v_aload_n C dX8_lineAt_0 rfl ?_
  refine v_iload_n C dX8_lineAt_1 rfl ?_
  refine v_iconst (v := nI 0) C dX8_lineAt_2 (by decide) ?_
  refine v_aload_n C dX8_lineAt_3 rfl ?_
  refine v_get (v := .int (nI (P.1))) C 13 dX8_lineAt_4 wd7_10 hS1.o rfl (by decide) ⟨rfl, rfl, rfl⟩ rfl ?_
  refine v_iconst (v := nI 1) C dX8_lineAt_7 (by decide) ?_
  refine v_isub C dX8_lineAt_8 ?_
  refine v_callSi C (c_X8_in hl i (nI 0) _) dX8_lineAt_9 mX8_in wd7_79 rfl rfl (Nat.le_of_ble_eq_true rfl) (hp_rmle hRm (by decide) (by decide)) (Nat.le_of_ble_eq_true rfl) (Nat.le_of_ble_eq_true rfl) ?_
  rw [show hp_b (hp_wi i (nI 0) (nI P.1 - nI 1)) = hp_b (hp_num i P.1) from hp_b_iff (hp_wi_num (by omega))]
  refine v_if_eqB (tgt := 19) C dX8_lineAt_12 (by decide) (fun c12 => ?_) (fun c12 => ?_)
  · refine v_iconst (v := nI 1) C dX8_lineAt_19 (by decide) ?_
    refine v_callVq C (c_X8_fails hl hS1 (nI 1)) dX8_lineAt_20 mX8_fails rfl hS1.o rfl wd7_82 rfl rfl (Nat.le_of_ble_eq_true rfl) (hp_rmle hRm (by decide) (by decide)) (Nat.le_of_ble_eq_true rfl) (Nat.le_of_ble_eq_true rfl) (fun r20 n20 h20 q20 => ?_)
    obtain ⟨e20, k20, Y20, W20⟩ := q20
    have z20 := Eq.symm k20
    have z20 : n0 = n20 := z20
    subst z20
    subst e20
    refine v_if_eqB (tgt := 31) C dX8_lineAt_23 (by decide) (fun c23 => absurd c23 (fun z => z (by decide))) (fun c23 => ?_)
    refine v_bipush (v := nI 32) C dX8_lineAt_26 (by decide) ?_
    refine v_goto (tgt := 37) C dX8_lineAt_28 (by decide) ?_
    exact v_zret C E dX8_lineAt_37 rfl rfl ⟨_, rfl, (if_neg c12).symm, rfl, by rw [show mo_cd _ = _ from if_neg c12]; exact Y20.to (by rw [← mo_si_eq hL.1]), W20⟩
  · obtain ⟨j, hj, hij⟩ := hp_num_j c12 (by omega)
    have ed : i.toNatClampNeg = j := by rw [hij]; exact nI_clamp (by omega)
    refine v_iconst (v := nI 0) C dX8_lineAt_15 (by decide) ?_
    refine v_goto (tgt := 20) C dX8_lineAt_16 (by decide) ?_
    refine v_callVq C (c_X8_fails hl hS1 (nI 0)) dX8_lineAt_20 mX8_fails rfl hS1.o rfl wd7_82 rfl rfl (Nat.le_of_ble_eq_true rfl) (hp_rmle hRm (by decide) (by decide)) (Nat.le_of_ble_eq_true rfl) (Nat.le_of_ble_eq_true rfl) (fun r20 n20 h20 q20 => ?_)
    obtain ⟨e20, k20, Y20, W20⟩ := q20
    have z20 := Eq.symm k20
    have z20 : n0 = n20 := z20
    subst z20
    subst e20
    refine v_if_eqB (tgt := 31) C dX8_lineAt_23 (by decide) (fun c23 => ?_) (fun c23 => absurd c23 (by decide))
    refine v_aload_n C dX8_lineAt_31 rfl ?_
    refine v_get C 12 dX8_lineAt_32 wd7_9 Y20.o rfl (by decide) ⟨rfl, rfl, rfl⟩ rfl ?_
    refine v_iload_n C dX8_lineAt_35 rfl ?_
    rw [hij]
    refine v_caldN C dX8_lineAt_36 Y20.a5 (by omega) (by decide) ?_
    exact v_zret C E dX8_lineAt_37 rfl (by rw [show (mo_si S 3 (nI 0)).1 5 = S.1 5 from rfl, (hL.2.2 j hj).2]; exact nar_r _ (hL.2.2 j hj).1) ⟨_, rfl, by rw [if_pos c12, ed]; exact (hL.2.2 j hj).2, rfl, by rw [show mo_cd _ = _ from if_pos c12]; exact Y20.to (by rw [← mo_si_eq hL.1]), W20⟩

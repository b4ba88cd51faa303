/-! ===== THE MODEL: takerOf ===== -/
def to_c (S : mo_T) (M : mk_T) (i b : Int32) : Int32 := if ¬ hp_num i (mk_tr M) ∨ ¬ hp_num b (mk_hz M) then nI 1 else if mk_ar M 4 i.toNatClampNeg = nI 2 then nI 2 else if ls_v S M i.toNatClampNeg < 0 then nI 3 else if mo_po M i b = 0 then nI 4 else nI 0
def ls_k (S : mo_T) (M : mk_T) (d : Nat) : Nat → Int32 := if ld_a M d (mk_tr M) < ld_n M d (mk_hz M) then S.1 7 else (ls_f M d (S.1 6) (S.1 7)).2.2
theorem ls_S_7 (S : mo_T) (M : mk_T) (d : Nat) : (ls_S S M d).1 7 = ls_k S M d := by
  unfold ls_S ls_k
  split <;> rfl
set_option maxHeartbeats 8000000 in
/-- leastMargins -/
theorem c_X8_leastMargins {G : hp_G} {l : Launch} (hl : l.stackTraces = false) {n0 : Nat} {h0 : Nat → Option va_E} {y : Nat} {S : mo_T} (hS : Mo G h0 y S) {M : mk_T} (hg : Gr (S.1 0) M) (i : Int32) : Ct G l yX8_leastMargins cX8_leastMargins 2 (some .int) 5 0 0 [.ref y, .int i] (n0, h0) (hp_iq (fun r τ => r = (if ta_c S M i = nI 0 then ls_v S M i.toNatClampNeg else nI 0) ∧ τ.1 = n0 ∧ (∃ S2, Mo G τ.2 y S2 ∧ mo_eq S S2 ∧ S2.2 3 = ta_c S M i) ∧ ∀ a, (a < y ∨ y + 13 ≤ a) → τ.2 a = h0 a)) := by
  have hbase := hS.base
  have hhz := hg.hz
  have htr := hg.tr
  have hct := hg.ct
  refine Ct.of rfl hl (by simp [Value.category]) (Nat.le_of_ble_eq_true rfl) (fun K C E hRm hKl => ?_)
  subst hKl
  refine v_aload_n C dX8_leastMargins_0 rfl ?_
  refine v_iload_n C dX8_leastMargins_1 rfl ?_
  refine v_callVq C (c_X8_takes hl hS hg i) dX8_leastMargins_2 mX8_takes rfl hS.o rfl wd8_76 rfl rfl (Nat.le_of_ble_eq_true rfl) (hp_rmle hRm (by decide) (by decide)) (Nat.le_of_ble_eq_true rfl) (Nat.le_of_ble_eq_true rfl) (fun r2 n2 h2 q2 => ?_)
  obtain ⟨e2, k2, Y2, W2⟩ := q2
  have z2 := Eq.symm k2
  have z2 : n0 = n2 := z2
  subst z2
  exact v_iret C E dX8_leastMargins_5 rfl ⟨_, rfl, e2, rfl, Y2, W2⟩
set_option maxHeartbeats 8000000 in
/-- leastMarginsBySets -/
theorem c_X8_leastMarginsBySets {G : hp_G} {l : Launch} (hl : l.stackTraces = false) {n0 : Nat} {h0 : Nat → Option va_E} {y : Nat} {S : mo_T} (hS : Mo G h0 y S) {M : mk_T} (hg : Gr (S.1 0) M) (i : Int32) : Ct G l yX8_leastMarginsBySets cX8_leastMarginsBySets 2 (some .int) 5 0 0 [.ref y, .int i] (n0, h0) (hp_iq (fun r τ => r = (if ta_c S M i = nI 0 then ls_v S M i.toNatClampNeg else nI 0) ∧ τ.1 = n0 ∧ (∃ S2, Mo G τ.2 y S2 ∧ mo_eq S S2 ∧ S2.2 3 = ta_c S M i) ∧ ∀ a, (a < y ∨ y + 13 ≤ a) → τ.2 a = h0 a)) := by
  have hbase := hS.base
  have hhz := hg.hz
  have htr := hg.tr
  have hct := hg.ct
  refine Ct.of rfl hl (by simp [Value.category]) (Nat.le_of_ble_eq_true rfl) (fun K C E hRm hKl => ?_)
  subst hKl
  refine v_aload_n C dX8_leastMarginsBySets_0 rfl ?_
  refine v_iload_n C dX8_leastMarginsBySets_1 rfl ?_
  refine v_callVq C (c_X8_takes hl hS hg i) dX8_leastMarginsBySets_2 mX8_takes rfl hS.o rfl wd8_76 rfl rfl (Nat.le_of_ble_eq_true rfl) (hp_rmle hRm (by decide) (by decide)) (Nat.le_of_ble_eq_true rfl) (Nat.le_of_ble_eq_true rfl) (fun r2 n2 h2 q2 => ?_)
  obtain ⟨e2, k2, Y2, W2⟩ := q2
  have z2 := Eq.symm k2
  have z2 : n0 = n2 := z2
  subst z2
  exact v_iret C E dX8_leastMarginsBySets_5 rfl ⟨_, rfl, e2, rfl, Y2, W2⟩
theorem ls_k_eq {S : mo_T} {v : Int32} {M : mk_T} {d : Nat} : ls_k (mo_si S 3 v) M d = ls_k S M d := rfl
set_option maxHeartbeats 8000000 in
/-- takerOf -/
theorem c_X8_takerOf {G : hp_G} {l : Launch} (hl : l.stackTraces = false) {n0 : Nat} {h0 : Nat → Option va_E} {y : Nat} {S : mo_T} (hS : Mo G h0 y S) {M : mk_T} (hg : Gr (S.1 0) M) (i b : Int32) : Ct G l yX8_takerOf cX8_takerOf 4 (some .int) 4 0 0 [.ref y, .int i, .int b] (n0, h0) (hp_iq (fun r τ => r = (if to_c S M i b = nI 0 then ls_k S M i.toNatClampNeg b.toNatClampNeg else nI 0) ∧ τ.1 = n0 ∧ (∃ S2, Mo G τ.2 y S2 ∧ mo_eq S S2 ∧ S2.2 3 = to_c S M i b) ∧ ∀ a, (a < y ∨ y + 13 ≤ a) → τ.2 a = h0 a)) := by
  have hbase := hS.base
  have hhz := hg.hz
  have htr := hg.tr
  have hct := hg.ct
  refine Ct.of rfl hl (by simp [Value.category]) (Nat.le_of_ble_eq_true rfl) (fun K C E hRm hKl => ?_)
  subst hKl
  refine v_aload_n C dX8_takerOf_0 rfl ?_
  refine v_aload_n C dX8_takerOf_1 rfl ?_
  refine v_iload_n C dX8_takerOf_2 rfl ?_
  refine v_callVi C (c_X8_isTrader hl hS hg i) dX8_takerOf_3 mX8_isTrader rfl hS.o rfl wd7_105 rfl rfl (Nat.le_of_ble_eq_true rfl) (hp_rmle hRm (by decide) (by decide)) (Nat.le_of_ble_eq_true rfl) (Nat.le_of_ble_eq_true rfl) ?_
  refine v_if_eqB (tgt := 17) C dX8_takerOf_6 (by decide) (fun c6 => ?_) (fun c6 => ?_)
  · have ev : to_c S M i b = nI 1 := if_pos (Or.inl c6)
    have hnz : ¬ to_c S M i b = nI 0 := by rw [ev]; decide
    refine v_iconst (v := nI 1) C dX8_takerOf_17 (by decide) ?_
    refine v_goto (tgt := 36) C dX8_takerOf_18 (by decide) ?_
    refine v_callVq C (c_X8_fails hl hS (nI 1)) dX8_takerOf_36 mX8_fails rfl hS.o rfl wd7_82 rfl rfl (Nat.le_of_ble_eq_true rfl) (hp_rmle hRm (by decide) (by decide)) (Nat.le_of_ble_eq_true rfl) (Nat.le_of_ble_eq_true rfl) (fun r36 n36 h36 q36 => ?_)
    obtain ⟨e36, k36, Y36, W36⟩ := q36
    have z36 := Eq.symm k36
    have z36 : n0 = n36 := z36
    subst z36
    subst e36
    refine v_if_eqB (tgt := 44) C dX8_takerOf_39 (by decide) (fun c39 => absurd c39 (fun z => z (by decide))) (fun c39 => ?_)
    refine v_iconst (v := nI 0) C dX8_takerOf_42 (by decide) ?_
    exact v_iret C E dX8_takerOf_43 rfl ⟨_, rfl, (if_neg hnz).symm, rfl, ⟨_, Y36, (mo_eq.rf S).si (by decide), (show _ = _ by rw [ev]; exact mo_si_3 _ _ _)⟩, W36⟩
  · obtain ⟨j, hj, hij⟩ := hp_num_j c6 (by omega)
    have ed : i.toNatClampNeg = j := by rw [hij]; exact nI_clamp (by omega)
    refine v_aload_n C dX8_takerOf_9 rfl ?_
    refine v_iload_n C dX8_takerOf_10 rfl ?_
    refine v_callVi C (c_X8_isHorizon hl hS hg b) dX8_takerOf_11 mX8_isHorizon rfl hS.o rfl wd7_109 rfl rfl (Nat.le_of_ble_eq_true rfl) (hp_rmle hRm (by decide) (by decide)) (Nat.le_of_ble_eq_true rfl) (Nat.le_of_ble_eq_true rfl) ?_
    refine v_if_neB (tgt := 21) C dX8_takerOf_14 (by decide) (fun c14 => ?_) (fun c14 => ?_)
    · obtain ⟨jb, hjb, hib⟩ := hp_num_j c14 (by omega)
      have edb : b.toNatClampNeg = jb := by rw [hib]; exact nI_clamp (by omega)
      have hg1 : ¬ (¬ hp_num i (mk_tr M) ∨ ¬ hp_num b (mk_hz M)) := fun z => z.elim (fun q => q c6) (fun q => q c14)
      refine v_aload_n C dX8_takerOf_21 rfl ?_
      refine v_iload_n C dX8_takerOf_22 rfl ?_
      refine v_iconst (v := nI 2) C dX8_takerOf_23 (by decide) ?_
      rw [hij]
      refine v_callVi C (c_X8_of hl hS (i := j) (k := 2) (by omega) (by decide)) dX8_takerOf_24 mX8_of rfl hS.o rfl wd7_117 rfl rfl (Nat.le_of_ble_eq_true rfl) (hp_rmle hRm (by decide) (by decide)) (Nat.le_of_ble_eq_true rfl) (Nat.le_of_ble_eq_true rfl) ?_
      rw [hg.of2 hj]
      refine v_iconst (v := nI 1) C dX8_takerOf_27 (by decide) ?_
      refine v_icmp_ne (tgt := 35) C dX8_takerOf_28 (by decide) (fun c28 => ?_) (fun c28 => ?_)
      · have hns : ¬ mk_ar M 4 i.toNatClampNeg = nI 2 := by rw [ed]; exact fun z => c28 (hp_b_1.mpr z)
        refine v_iconst (v := nI 0) C dX8_takerOf_35 (by decide) ?_
        refine v_callVq C (c_X8_fails hl hS (nI 0)) dX8_takerOf_36 mX8_fails rfl hS.o rfl wd7_82 rfl rfl (Nat.le_of_ble_eq_true rfl) (hp_rmle hRm (by decide) (by decide)) (Nat.le_of_ble_eq_true rfl) (Nat.le_of_ble_eq_true rfl) (fun r36 n36 h36 q36 => ?_)
        obtain ⟨e36, k36, Y36, W36⟩ := q36
        have z36 := Eq.symm k36
        have z36 : n0 = n36 := z36
        subst z36
        subst e36
        refine v_if_eqB (tgt := 44) C dX8_takerOf_39 (by decide) (fun c39 => ?_) (fun c39 => absurd c39 (by decide))
        refine v_aload_n C dX8_takerOf_44 rfl ?_
        refine v_iload_n C dX8_takerOf_45 rfl ?_
        refine v_callVq C (c_X8_least hl Y36 hg (d := j) (by omega)) dX8_takerOf_46 mX8_least rfl Y36.o rfl wd7_172 rfl rfl (Nat.le_of_ble_eq_true rfl) (hp_rmle hRm (by decide) (by decide)) (Nat.le_of_ble_eq_true rfl) (Nat.le_of_ble_eq_true rfl) (fun r46 n46 h46 q46 => ?_)
        obtain ⟨e46, k46, Y46, W46⟩ := q46
        have z46 := Eq.symm k46
        have z46 : n0 = n46 := z46
        subst z46
        have e46 : r46 = ls_v S M j := e46.trans (ls_v_eq rfl rfl)
        subst e46
        have W46 : ∀ a, (a < y ∨ y + 13 ≤ a) → h46 a = h0 a := fun a ha => (W46 a ha).trans (W36 a ha)
        refine v_istore_n C dX8_takerOf_49 (by decide) ?_
        refine v_aload_n C dX8_takerOf_50 rfl ?_
        refine v_iload_n C dX8_takerOf_51 rfl ?_
        refine v_if_ge (tgt := 59) C dX8_takerOf_52 (by decide) (fun c52 => ?_) (fun c52 => ?_)
        · have hls : ¬ ls_v S M i.toNatClampNeg < 0 := by rw [ed]; exact Int32.not_lt.mpr c52
          refine v_aload_n C dX8_takerOf_59 rfl ?_
          refine v_iload_n C dX8_takerOf_60 rfl ?_
          refine v_iload_n C dX8_takerOf_61 rfl ?_
          refine v_callVi C (c_X8_position hl Y46 (M := M) (by unfold ls_S; split <;> exact hg) (nI j) b) dX8_takerOf_62 mX8_position rfl Y46.o rfl wd7_137 rfl rfl (Nat.le_of_ble_eq_true rfl) (hp_rmle hRm (by decide) (by decide)) (Nat.le_of_ble_eq_true rfl) (Nat.le_of_ble_eq_true rfl) ?_
          rw [← hij]
          refine v_if_ne (tgt := 72) C dX8_takerOf_65 (by decide) (fun c65 => ?_) (fun c65 => ?_)
          · have ev : to_c S M i b = nI 0 := by unfold to_c; rw [if_neg hg1, if_neg hns, if_neg hls, if_neg c65]
            refine v_iconst (v := nI 0) C dX8_takerOf_72 (by decide) ?_
            refine v_callVq C (c_X8_fails hl Y46 (nI 0)) dX8_takerOf_73 mX8_fails rfl Y46.o rfl wd7_82 rfl rfl (Nat.le_of_ble_eq_true rfl) (hp_rmle hRm (by decide) (by decide)) (Nat.le_of_ble_eq_true rfl) (Nat.le_of_ble_eq_true rfl) (fun r73 n73 h73 q73 => ?_)
            obtain ⟨e73, k73, Y73, W73⟩ := q73
            have z73 := Eq.symm k73
            have z73 : n0 = n73 := z73
            subst z73
            subst e73
            have W73 : ∀ a, (a < y ∨ y + 13 ≤ a) → h73 a = _ := fun a ha => (W73 a ha).trans (W46 a ha)
            refine v_if_eqB (tgt := 83) C dX8_takerOf_76 (by decide) (fun c76 => ?_) (fun c76 => absurd c76 (by decide))
            refine v_aload_n C dX8_takerOf_83 rfl ?_
            refine v_get C 15 dX8_takerOf_84 wd7_12 Y73.o rfl (by decide) ⟨rfl, rfl, rfl⟩ rfl ?_
            refine v_iload_n C dX8_takerOf_87 rfl ?_
            rw [hib]
            refine v_ialdN C dX8_takerOf_88 Y73.a7 (by omega) (by decide) ?_
            exact v_iret C E dX8_takerOf_89 rfl ⟨_, rfl, (by rw [if_pos ev, ed, edb, ← ls_k_eq, ← ls_S_7]), rfl, ⟨_, Y73, ((mo_eq.rf S).si (by decide)).ls.si (by decide), (show _ = _ by rw [ev]; exact mo_si_3 _ _ _)⟩, W73⟩
          · have ev : to_c S M i b = nI 4 := by unfold to_c; rw [if_neg hg1, if_neg hns, if_neg hls, if_pos c65]
            have hnz : ¬ to_c S M i b = nI 0 := by rw [ev]; decide
            refine v_iconst (v := nI 4) C dX8_takerOf_68 (by decide) ?_
            refine v_goto (tgt := 73) C dX8_takerOf_69 (by decide) ?_
            refine v_callVq C (c_X8_fails hl Y46 (nI 4)) dX8_takerOf_73 mX8_fails rfl Y46.o rfl wd7_82 rfl rfl (Nat.le_of_ble_eq_true rfl) (hp_rmle hRm (by decide) (by decide)) (Nat.le_of_ble_eq_true rfl) (Nat.le_of_ble_eq_true rfl) (fun r73 n73 h73 q73 => ?_)
            obtain ⟨e73, k73, Y73, W73⟩ := q73
            have z73 := Eq.symm k73
            have z73 : n0 = n73 := z73
            subst z73
            subst e73
            have W73 : ∀ a, (a < y ∨ y + 13 ≤ a) → h73 a = _ := fun a ha => (W73 a ha).trans (W46 a ha)
            refine v_if_eqB (tgt := 83) C dX8_takerOf_76 (by decide) (fun c76 => absurd c76 (fun z => z (by decide))) (fun c76 => ?_)
            refine v_iconst (v := nI 0) C dX8_takerOf_79 (by decide) ?_
            refine v_goto (tgt := 89) C dX8_takerOf_80 (by decide) ?_
            exact v_iret C E dX8_takerOf_89 rfl ⟨_, rfl, (if_neg hnz).symm, rfl, ⟨_, Y73, ((mo_eq.rf S).si (by decide)).ls.si (by decide), (show _ = _ by rw [ev]; exact mo_si_3 _ _ _)⟩, W73⟩
        · have ev : to_c S M i b = nI 3 := by unfold to_c; rw [if_neg hg1, if_neg hns, if_pos (by rw [ed]; exact Int32.not_le.mp c52)]
          have hnz : ¬ to_c S M i b = nI 0 := by rw [ev]; decide
          refine v_iconst (v := nI 3) C dX8_takerOf_55 (by decide) ?_
          refine v_goto (tgt := 73) C dX8_takerOf_56 (by decide) ?_
          refine v_callVq C (c_X8_fails hl Y46 (nI 3)) dX8_takerOf_73 mX8_fails rfl Y46.o rfl wd7_82 rfl rfl (Nat.le_of_ble_eq_true rfl) (hp_rmle hRm (by decide) (by decide)) (Nat.le_of_ble_eq_true rfl) (Nat.le_of_ble_eq_true rfl) (fun r73 n73 h73 q73 => ?_)
          obtain ⟨e73, k73, Y73, W73⟩ := q73
          have z73 := Eq.symm k73
          have z73 : n0 = n73 := z73
          subst z73
          subst e73
          have W73 : ∀ a, (a < y ∨ y + 13 ≤ a) → h73 a = _ := fun a ha => (W73 a ha).trans (W46 a ha)
          refine v_if_eqB (tgt := 83) C dX8_takerOf_76 (by decide) (fun c76 => absurd c76 (fun z => z (by decide))) (fun c76 => ?_)
          refine v_iconst (v := nI 0) C dX8_takerOf_79 (by decide) ?_
          refine v_goto (tgt := 89) C dX8_takerOf_80 (by decide) ?_
          exact v_iret C E dX8_takerOf_89 rfl ⟨_, rfl, (if_neg hnz).symm, rfl, ⟨_, Y73, ((mo_eq.rf S).si (by decide)).ls.si (by decide), (show _ = _ by rw [ev]; exact mo_si_3 _ _ _)⟩, W73⟩
      · have ev : to_c S M i b = nI 2 := by unfold to_c; rw [if_neg hg1, if_pos (by rw [ed]; exact hp_b_1.mp c28)]
        have hnz : ¬ to_c S M i b = nI 0 := by rw [ev]; decide
        refine v_iconst (v := nI 2) C dX8_takerOf_31 (by decide) ?_
        refine v_goto (tgt := 36) C dX8_takerOf_32 (by decide) ?_
        refine v_callVq C (c_X8_fails hl hS (nI 2)) dX8_takerOf_36 mX8_fails rfl hS.o rfl wd7_82 rfl rfl (Nat.le_of_ble_eq_true rfl) (hp_rmle hRm (by decide) (by decide)) (Nat.le_of_ble_eq_true rfl) (Nat.le_of_ble_eq_true rfl) (fun r36 n36 h36 q36 => ?_)
        obtain ⟨e36, k36, Y36, W36⟩ := q36
        have z36 := Eq.symm k36
        have z36 : n0 = n36 := z36
        subst z36
        subst e36
        refine v_if_eqB (tgt := 44) C dX8_takerOf_39 (by decide) (fun c39 => absurd c39 (fun z => z (by decide))) (fun c39 => ?_)
        refine v_iconst (v := nI 0) C dX8_takerOf_42 (by decide) ?_
        exact v_iret C E dX8_takerOf_43 rfl ⟨_, rfl, (if_neg hnz).symm, rfl, ⟨_, Y36, (mo_eq.rf S).si (by decide), (show _ = _ by rw [ev]; exact mo_si_3 _ _ _)⟩, W36⟩
    · have ev : to_c S M i b = nI 1 := if_pos (Or.inr c14)
      have hnz : ¬ to_c S M i b = nI 0 := by rw [ev]; decide
      refine v_iconst (v := nI 1) C dX8_takerOf_17 (by decide) ?_
      refine v_goto (tgt := 36) C dX8_takerOf_18 (by decide) ?_
      refine v_callVq C (c_X8_fails hl hS (nI 1)) dX8_takerOf_36 mX8_fails rfl hS.o rfl wd7_82 rfl rfl (Nat.le_of_ble_eq_true rfl) (hp_rmle hRm (by decide) (by decide)) (Nat.le_of_ble_eq_true rfl) (Nat.le_of_ble_eq_true rfl) (fun r36 n36 h36 q36 => ?_)
      obtain ⟨e36, k36, Y36, W36⟩ := q36
      have z36 := Eq.symm k36
      have z36 : n0 = n36 := z36
      subst z36
      subst e36
      refine v_if_eqB (tgt := 44) C dX8_takerOf_39 (by decide) (fun c39 => absurd c39 (fun z => z (by decide))) (fun c39 => ?_)
      refine v_iconst (v := nI 0) C dX8_takerOf_42 (by decide) ?_
      exact v_iret C E dX8_takerOf_43 rfl ⟨_, rfl, (if_neg hnz).symm, rfl, ⟨_, Y36, (mo_eq.rf S).si (by decide), (show _ = _ by rw [ev]; exact mo_si_3 _ _ _)⟩, W36⟩

/-! ===== THE MODEL: takes, takerOf ===== -/
theorem mo_si_3 (S : mo_T) (j : Nat) (v : Int32) : (mo_si S j v).2 j = v := show upd S.2 j v j = v from pk_us
/-- the same but for what is worked with and the number of the claim -/
def mo_eq (S S2 : mo_T) : Prop := (∀ k, k < 6 → S2.1 k = S.1 k) ∧ ∀ k, (k < 3 ∨ (4 ≤ k ∧ k < 8)) → S2.2 k = S.2 k
theorem mo_eq.rf (S : mo_T) : mo_eq S S := ⟨fun _ _ => rfl, fun _ _ => rfl⟩
theorem mo_eq.si {S S2 : mo_T} (H : mo_eq S S2) {j : Nat} {v : Int32} (hj : ¬ (j < 3 ∨ (4 ≤ j ∧ j < 8))) : mo_eq S (mo_si S2 j v) := ⟨H.1, fun k hk => (pk_un (show k ≠ j from fun z => hj (z ▸ hk))).trans (H.2 k hk)⟩
theorem mo_eq.s67 {S S2 : mo_T} (H : mo_eq S S2) {T B : Nat → Int32} : mo_eq S (mo_s67 S2 T B) := ⟨fun k hk => (show (if k = 6 then _ else if k = 7 then _ else S2.1 k) = _ by rw [if_neg (by omega), if_neg (by omega)]; exact H.1 k hk), H.2⟩
theorem mo_eq.ls {S S2 : mo_T} (H : mo_eq S S2) {M : mk_T} {d : Nat} : mo_eq S (ls_S S2 M d) := by
  unfold ls_S
  split
  · exact (H.si (by decide)).si (by decide)
  · exact ((H.si (by decide)).si (by decide)).s67
def ta_c (S : mo_T) (M : mk_T) (i : Int32) : Int32 := if ¬ hp_num i (mk_tr M) then nI 1 else if mk_ar M 4 i.toNatClampNeg = nI 2 then nI 2 else if ls_v S M i.toNatClampNeg < 0 then nI 3 else nI 0
theorem ls_v_eq {S S2 : mo_T} (h6 : S2.1 6 = S.1 6) (h7 : S2.1 7 = S.1 7) {M : mk_T} {d : Nat} : ls_v S2 M d = ls_v S M d := by
  unfold ls_v
  rw [h6, h7]
set_option maxHeartbeats 8000000 in
/-- takes -/
theorem c_X8_takes {G : hp_G} {l : Launch} (hl : l.stackTraces = false) {n0 : Nat} {h0 : Nat → Option va_E} {y : Nat} {S : mo_T} (hS : Mo G h0 y S) {M : mk_T} (hg : Gr (S.1 0) M) (i : Int32) : Ct G l yX8_takes cX8_takes 3 (some .int) 4 0 0 [.ref y, .int i] (n0, h0) (hp_iq (fun r τ => r = (if ta_c S M i = nI 0 then ls_v S M i.toNatClampNeg else nI 0) ∧ τ.1 = n0 ∧ (∃ S2, Mo G τ.2 y S2 ∧ mo_eq S S2 ∧ S2.2 3 = ta_c S M i) ∧ ∀ a, (a < y ∨ y + 13 ≤ a) → τ.2 a = h0 a)) := by
  have hbase := hS.base
  have hhz := hg.hz
  have htr := hg.tr
  have hct := hg.ct
  refine Ct.of rfl hl (by simp [Value.category]) (Nat.le_of_ble_eq_true rfl) (fun K C E hRm hKl => ?_)
  subst hKl
  refine v_aload_n C dX8_takes_0 rfl ?_
  refine v_aload_n C dX8_takes_1 rfl ?_
  refine v_iload_n C dX8_takes_2 rfl ?_
  refine v_callVi C (c_X8_isTrader hl hS hg i) dX8_takes_3 mX8_isTrader rfl hS.o rfl wd7_105 rfl rfl (Nat.le_of_ble_eq_true rfl) (hp_rmle hRm (by decide) (by decide)) (Nat.le_of_ble_eq_true rfl) (Nat.le_of_ble_eq_true rfl) ?_
  refine v_if_neB (tgt := 13) C dX8_takes_6 (by decide) (fun c6 => ?_) (fun c6 => ?_)
  · obtain ⟨j, hj, hij⟩ := hp_num_j c6 (by omega)
    have ed : i.toNatClampNeg = j := by rw [hij]; exact nI_clamp (by omega)
    refine v_aload_n C dX8_takes_13 rfl ?_
    refine v_iload_n C dX8_takes_14 rfl ?_
    refine v_iconst (v := nI 2) C dX8_takes_15 (by decide) ?_
    rw [hij]
    refine v_callVi C (c_X8_of hl hS (i := j) (k := 2) (by omega) (by decide)) dX8_takes_16 mX8_of rfl hS.o rfl wd7_117 rfl rfl (Nat.le_of_ble_eq_true rfl) (hp_rmle hRm (by decide) (by decide)) (Nat.le_of_ble_eq_true rfl) (Nat.le_of_ble_eq_true rfl) ?_
    rw [hg.of2 hj]
    refine v_iconst (v := nI 1) C dX8_takes_19 (by decide) ?_
    refine v_icmp_ne (tgt := 27) C dX8_takes_20 (by decide) (fun c20 => ?_) (fun c20 => ?_)
    · have hns : ¬ mk_ar M 4 i.toNatClampNeg = nI 2 := by rw [ed]; exact fun z => c20 (hp_b_1.mpr z)
      refine v_iconst (v := nI 0) C dX8_takes_27 (by decide) ?_
      refine v_callVq C (c_X8_fails hl hS (nI 0)) dX8_takes_28 mX8_fails rfl hS.o rfl wd7_82 rfl rfl (Nat.le_of_ble_eq_true rfl) (hp_rmle hRm (by decide) (by decide)) (Nat.le_of_ble_eq_true rfl) (Nat.le_of_ble_eq_true rfl) (fun r28 n28 h28 q28 => ?_)
      obtain ⟨e28, k28, Y28, W28⟩ := q28
      have z28 := Eq.symm k28
      have z28 : n0 = n28 := z28
      subst z28
      subst e28
      refine v_if_eqB (tgt := 36) C dX8_takes_31 (by decide) (fun c31 => ?_) (fun c31 => absurd c31 (by decide))
      refine v_aload_n C dX8_takes_36 rfl ?_
      refine v_iload_n C dX8_takes_37 rfl ?_
      refine v_callVq C (c_X8_least hl Y28 hg (d := j) (by omega)) dX8_takes_38 mX8_least rfl Y28.o rfl wd7_172 rfl rfl (Nat.le_of_ble_eq_true rfl) (hp_rmle hRm (by decide) (by decide)) (Nat.le_of_ble_eq_true rfl) (Nat.le_of_ble_eq_true rfl) (fun r38 n38 h38 q38 => ?_)
      obtain ⟨e38, k38, Y38, W38⟩ := q38
      have z38 := Eq.symm k38
      have z38 : n0 = n38 := z38
      subst z38
      have e38 : r38 = ls_v S M j := e38.trans (ls_v_eq rfl rfl)
      subst e38
      have W38 : ∀ a, (a < y ∨ y + 13 ≤ a) → h38 a = h0 a := fun a ha => (W38 a ha).trans (W28 a ha)
      refine v_istore_n C dX8_takes_41 (by decide) ?_
      refine v_aload_n C dX8_takes_42 rfl ?_
      refine v_iload_n C dX8_takes_43 rfl ?_
      refine v_if_ge (tgt := 51) C dX8_takes_44 (by decide) (fun c44 => ?_) (fun c44 => ?_)
      · have ev : ta_c S M i = nI 0 := by unfold ta_c; rw [if_neg (fun z => z c6), if_neg hns, if_neg (by rw [ed]; exact Int32.not_lt.mpr c44)]
        refine v_iconst (v := nI 0) C dX8_takes_51 (by decide) ?_
        refine v_callVq C (c_X8_fails hl Y38 (nI 0)) dX8_takes_52 mX8_fails rfl Y38.o rfl wd7_82 rfl rfl (Nat.le_of_ble_eq_true rfl) (hp_rmle hRm (by decide) (by decide)) (Nat.le_of_ble_eq_true rfl) (Nat.le_of_ble_eq_true rfl) (fun r52 n52 h52 q52 => ?_)
        obtain ⟨e52, k52, Y52, W52⟩ := q52
        have z52 := Eq.symm k52
        have z52 : n0 = n52 := z52
        subst z52
        subst e52
        have W52 : ∀ a, (a < y ∨ y + 13 ≤ a) → h52 a = _ := fun a ha => (W52 a ha).trans (W38 a ha)
        refine v_if_eqB (tgt := 62) C dX8_takes_55 (by decide) (fun c55 => ?_) (fun c55 => absurd c55 (by decide))
        refine v_iload_n C dX8_takes_62 rfl ?_
        exact v_iret C E dX8_takes_63 rfl ⟨_, rfl, (by rw [if_pos ev, ed]), rfl, ⟨_, Y52, ((mo_eq.rf S).si (by decide)).ls.si (by decide), (show _ = _ by rw [ev]; exact mo_si_3 _ _ _)⟩, W52⟩
      · have ev : ta_c S M i = nI 3 := by unfold ta_c; rw [if_neg (fun z => z c6), if_neg hns, if_pos (by rw [ed]; exact Int32.not_le.mp c44)]
        have hnz : ¬ ta_c S M i = nI 0 := by rw [ev]; decide
        refine v_iconst (v := nI 3) C dX8_takes_47 (by decide) ?_
        refine v_goto (tgt := 52) C dX8_takes_48 (by decide) ?_
        refine v_callVq C (c_X8_fails hl Y38 (nI 3)) dX8_takes_52 mX8_fails rfl Y38.o rfl wd7_82 rfl rfl (Nat.le_of_ble_eq_true rfl) (hp_rmle hRm (by decide) (by decide)) (Nat.le_of_ble_eq_true rfl) (Nat.le_of_ble_eq_true rfl) (fun r52 n52 h52 q52 => ?_)
        obtain ⟨e52, k52, Y52, W52⟩ := q52
        have z52 := Eq.symm k52
        have z52 : n0 = n52 := z52
        subst z52
        subst e52
        have W52 : ∀ a, (a < y ∨ y + 13 ≤ a) → h52 a = _ := fun a ha => (W52 a ha).trans (W38 a ha)
        refine v_if_eqB (tgt := 62) C dX8_takes_55 (by decide) (fun c55 => absurd c55 (fun z => z (by decide))) (fun c55 => ?_)
        refine v_iconst (v := nI 0) C dX8_takes_58 (by decide) ?_
        refine v_goto (tgt := 63) C dX8_takes_59 (by decide) ?_
        exact v_iret C E dX8_takes_63 rfl ⟨_, rfl, (if_neg hnz).symm, rfl, ⟨_, Y52, ((mo_eq.rf S).si (by decide)).ls.si (by decide), (show _ = _ by rw [ev]; exact mo_si_3 _ _ _)⟩, W52⟩
    · have ev : ta_c S M i = nI 2 := by unfold ta_c; rw [if_neg (fun z => z c6), if_pos (by rw [ed]; exact hp_b_1.mp c20)]
      have hnz : ¬ ta_c S M i = nI 0 := by rw [ev]; decide
      refine v_iconst (v := nI 2) C dX8_takes_23 (by decide) ?_
      refine v_goto (tgt := 28) C dX8_takes_24 (by decide) ?_
      refine v_callVq C (c_X8_fails hl hS (nI 2)) dX8_takes_28 mX8_fails rfl hS.o rfl wd7_82 rfl rfl (Nat.le_of_ble_eq_true rfl) (hp_rmle hRm (by decide) (by decide)) (Nat.le_of_ble_eq_true rfl) (Nat.le_of_ble_eq_true rfl) (fun r28 n28 h28 q28 => ?_)
      obtain ⟨e28, k28, Y28, W28⟩ := q28
      have z28 := Eq.symm k28
      have z28 : n0 = n28 := z28
      subst z28
      subst e28
      refine v_if_eqB (tgt := 36) C dX8_takes_31 (by decide) (fun c31 => absurd c31 (fun z => z (by decide))) (fun c31 => ?_)
      refine v_iconst (v := nI 0) C dX8_takes_34 (by decide) ?_
      exact v_iret C E dX8_takes_35 rfl ⟨_, rfl, (if_neg hnz).symm, rfl, ⟨_, Y28, (mo_eq.rf S).si (by decide), (show _ = _ by rw [ev]; exact mo_si_3 _ _ _)⟩, W28⟩
  · have ev : ta_c S M i = nI 1 := if_pos c6
    have hnz : ¬ ta_c S M i = nI 0 := by rw [ev]; decide
    refine v_iconst (v := nI 1) C dX8_takes_9 (by decide) ?_
    refine v_goto (tgt := 28) C dX8_takes_10 (by decide) ?_
    refine v_callVq C (c_X8_fails hl hS (nI 1)) dX8_takes_28 mX8_fails rfl hS.o rfl wd7_82 rfl rfl (Nat.le_of_ble_eq_true rfl) (hp_rmle hRm (by decide) (by decide)) (Nat.le_of_ble_eq_true rfl) (Nat.le_of_ble_eq_true rfl) (fun r28 n28 h28 q28 => ?_)
    obtain ⟨e28, k28, Y28, W28⟩ := q28
    have z28 := Eq.symm k28
    have z28 : n0 = n28 := z28
    subst z28
    subst e28
    refine v_if_eqB (tgt := 36) C dX8_takes_31 (by decide) (fun c31 => absurd c31 (fun z => z (by decide))) (fun c31 => ?_)
    refine v_iconst (v := nI 0) C dX8_takes_34 (by decide) ?_
    exact v_iret C E dX8_takes_35 rfl ⟨_, rfl, (if_neg hnz).symm, rfl, ⟨_, Y28, (mo_eq.rf S).si (by decide), (show _ = _ by rw [ev]; exact mo_si_3 _ _ _)⟩, W28⟩

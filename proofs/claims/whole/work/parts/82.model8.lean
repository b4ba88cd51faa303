/-! ===== THE MODEL: horizons, quotes ===== -/
section GRV
variable {g : Nat → Int32} {M : mk_T}
theorem Gr.u1 (H : Gr g M) {t : Nat} (ht : t < mk_hz M) (v : Int32) : Gr (upd g (6 + 3 * t + 1) v) (mk_st M 1 t v) := by
  obtain ⟨⟨a0, a1, a2, a3, a4, a5, a6, a7⟩, b, c, d, e1, e2, e3⟩ := H
  refine ⟨⟨(pk_un (by omega)).trans a0, (pk_un (by omega)).trans a1, (pk_un (by omega)).trans a2, (pk_un (by omega)).trans a3, (pk_un (by omega)).trans a4, (pk_un (by omega)).trans a5, (by rw [pk_un (by omega)]; exact a6), (by rw [pk_un (by omega)]; exact a7)⟩, fun i (hi : i < mk_hz M) k hk => ?_, fun s (hs : s < mk_tr M) => ?_, fun c2 (hc : c2 < mk_ct M) k hk => ?_, e1, e2, e3⟩
  · by_cases q : i = t
    · subst q
      by_cases z : k = 1
      · subst z
        exact pk_us.trans (show v = upd (M.2.1 1) i v i from pk_us.symm)
      · refine (pk_un (by omega)).trans ?_
        show _ = (if k = 1 then _ else mk_ar M k) i
        rw [if_neg z]
        exact b i hi k hk
    · refine (pk_un (by omega)).trans ?_
      show _ = (if k = 1 then _ else mk_ar M k) i
      by_cases z : k = 1
      · subst z
        rw [if_pos rfl, pk_un q]
        exact b i hi 1 hk
      · rw [if_neg z]
        exact b i hi k hk
  · exact ⟨(pk_un (by omega)).trans (c s hs).1, (pk_un (by omega)).trans (c s hs).2.1, (pk_un (by omega)).trans (c s hs).2.2.1, (c s hs).2.2.2⟩
  · rw [pk_un (by omega)]
    show _ = (if 5 + k = 1 then _ else mk_ar M (5 + k)) c2
    rw [if_neg (by omega)]
    exact d c2 hc k hk
end GRV
theorem Gr.addh {g : Nat → Int32} {M : mk_T} (H : Gr g M) (h4 : mk_hz M < 4) (p r : Int32) : Gr (upd (upd (upd (upd g (6 + 3 * mk_hz M + 0) p) (6 + 3 * mk_hz M + 1) p) (6 + 3 * mk_hz M + 2) r) 0 (nI (mk_hz M + 1))) (mk_plH M p r) := by
  obtain ⟨⟨a0, a1, a2, a3, a4, a5, a6, a7⟩, b, c, d, e1, e2, e3⟩ := H
  have un : ∀ i, i ≠ 0 → (i < 6 + 3 * mk_hz M ∨ 9 + 3 * mk_hz M ≤ i) → upd (upd (upd (upd g (6 + 3 * mk_hz M + 0) p) (6 + 3 * mk_hz M + 1) p) (6 + 3 * mk_hz M + 2) r) 0 (nI (mk_hz M + 1)) i = g i := fun i h0 h1 => by rw [pk_un h0, pk_un (by omega), pk_un (by omega), pk_un (by omega)]
  have ak : ∀ k i, i ≠ mk_hz M ∨ 3 ≤ k → mk_ar (mk_plH M p r) k i = mk_ar M k i := fun k i h => by
    show (if k = 2 then _ else (if k = 1 then _ else (if k = 0 then _ else mk_ar M k))) i = _
    by_cases z2 : k = 2
    · subst z2
      rw [if_pos rfl]
      exact pk_un (by omega)
    · rw [if_neg z2]
      by_cases z1 : k = 1
      · subst z1
        rw [if_pos rfl]
        exact pk_un (by omega)
      · rw [if_neg z1]
        by_cases z0 : k = 0
        · subst z0
          rw [if_pos rfl]
          exact pk_un (by omega)
        · rw [if_neg z0]
  refine ⟨⟨pk_us, (un _ (by omega) (by omega)).trans a1, (un _ (by omega) (by omega)).trans a2, (un _ (by omega) (by omega)).trans a3, (un _ (by omega) (by omega)).trans a4, (un _ (by omega) (by omega)).trans a5, (by rw [un _ (by omega) (by omega)]; exact a6), (by rw [un _ (by omega) (by omega)]; exact a7)⟩, fun i (hi : i < mk_hz M + 1) k hk => ?_, fun s (hs : s < mk_tr M) => ?_, fun c2 (hc : c2 < mk_ct M) k hk => ?_, (by show mk_hz M + 1 ≤ 4; omega), e2, e3⟩
  · by_cases q : i = mk_hz M
    · subst q
      obtain rfl | rfl | rfl : k = 0 ∨ k = 1 ∨ k = 2 := by omega
      · rw [pk_un (by omega), pk_un (by omega), pk_un (by omega), pk_us]
        exact (show upd (M.2.1 0) (mk_hz M) p (mk_hz M) = p from pk_us).symm
      · rw [pk_un (by omega), pk_un (by omega), pk_us]
        exact (show upd (M.2.1 1) (mk_hz M) p (mk_hz M) = p from pk_us).symm
      · rw [pk_un (by omega), pk_us]
        exact (show upd (M.2.1 2) (mk_hz M) r (mk_hz M) = r from pk_us).symm
    · rw [un _ (by omega) (by omega), ak k i (Or.inl q)]
      exact b i (by omega) k hk
  · rw [un _ (by omega) (by omega), un _ (by omega) (by omega), un _ (by omega) (by omega)]
    exact c s hs
  · rw [un _ (by omega) (by omega), ak (5 + k) c2 (Or.inr (by omega))]
    exact d c2 hc k hk
def mo_fH (M : mk_T) (p r : Int32) : Int32 := if ¬ hp_wi p (nI 1) (nI 99) ∨ ¬ hp_wi r (nI 1) (nI 20) then nI 1 else if mk_hz M = 4 then nI 2 else nI 0
def mo_fQ (M : mk_T) (on q : Int32) : Int32 := if ¬ hp_num on (mk_hz M) then nI 1 else if hp_wi q (nI 1) (nI 99) then nI 0 else nI 2
set_option maxHeartbeats 8000000 in
/-- setQuote -/
theorem c_X8_setQuote {G : hp_G} {l : Launch} (hl : l.stackTraces = false) {n0 : Nat} {h0 : Nat → Option va_E} {y : Nat} {S : mo_T} (hS : Mo G h0 y S) {M : mk_T} (hg : Gr (S.1 0) M) {ch : Nat} (hch : S.2 1 = nI ch) (h8 : ch ≤ 8) (i a : Int32) : Ct G l yX8_setQuote cX8_setQuote 4 (some .int) 2 0 0 [.ref y, .int i, .int a] (n0, h0) (hp_iq (fun r τ => r = (if mo_fQ M i a = nI 0 then mk_ar M 1 i.toNatClampNeg else nI 0) ∧ τ.1 = n0 ∧ (∃ S2, Mo G τ.2 y S2 ∧ mo_aft S (mo_fQ M i a) ch (mk_st M 1 i.toNatClampNeg a) S2) ∧ ∀ a, (a < y ∨ y + 13 ≤ a) → τ.2 a = h0 a)) := by
  have hbase := hS.base
  have hhz := hg.hz
  have htr := hg.tr
  have hct := hg.ct
  refine Ct.of rfl hl (by simp [Value.category]) (Nat.le_of_ble_eq_true rfl) (fun K C E hRm hKl => ?_)
  subst hKl
  refine v_aload_n C dX8_setQuote_0 rfl ?_
  refine v_aload_n C dX8_setQuote_1 rfl ?_
  refine v_iload_n C dX8_setQuote_2 rfl ?_
  refine v_callVi C (c_X8_isHorizon hl hS hg i) dX8_setQuote_3 mX8_isHorizon rfl hS.o rfl wd7_109 rfl rfl (Nat.le_of_ble_eq_true rfl) (hp_rmle hRm (by decide) (by decide)) (Nat.le_of_ble_eq_true rfl) (Nat.le_of_ble_eq_true rfl) ?_
  refine v_if_neB (tgt := 13) C dX8_setQuote_6 (by decide) (fun c6 => ?_) (fun c6 => ?_)
  · obtain ⟨j, hj, hij⟩ := hp_num_j c6 (by omega)
    have ed : i.toNatClampNeg = j := by rw [hij]; exact nI_clamp (by omega)
    refine v_iload_n C dX8_setQuote_13 rfl ?_
    refine v_iconst (v := nI 1) C dX8_setQuote_14 (by decide) ?_
    refine v_bipush (v := nI 99) C dX8_setQuote_15 (by decide) ?_
    refine v_callSi C (c_X8_in hl a (nI 1) (nI 99)) dX8_setQuote_17 mX8_in wd7_79 rfl rfl (Nat.le_of_ble_eq_true rfl) (hp_rmle hRm (by decide) (by decide)) (Nat.le_of_ble_eq_true rfl) (Nat.le_of_ble_eq_true rfl) ?_
    refine v_if_eqB (tgt := 27) C dX8_setQuote_20 (by decide) (fun c20 => ?_) (fun c20 => ?_)
    · have ev : mo_fQ M i a = nI 2 := by unfold mo_fQ; rw [if_neg (fun z => z c6), if_neg c20]
      have hnz : ¬ mo_fQ M i a = nI 0 := by rw [ev]; decide
      refine v_iconst (v := nI 2) C dX8_setQuote_27 (by decide) ?_
      refine v_callVq C (c_X8_fails hl hS (nI 2)) dX8_setQuote_28 mX8_fails rfl hS.o rfl wd7_82 rfl rfl (Nat.le_of_ble_eq_true rfl) (hp_rmle hRm (by decide) (by decide)) (Nat.le_of_ble_eq_true rfl) (Nat.le_of_ble_eq_true rfl) (fun r28 n28 h28 q28 => ?_)
      obtain ⟨e28, k28, Y28, W28⟩ := q28
      have z28 := Eq.symm k28
      have z28 : n0 = n28 := z28
      subst z28
      subst e28
      refine v_if_eqB (tgt := 36) C dX8_setQuote_31 (by decide) (fun c31 => absurd c31 (fun z => z (by decide))) (fun c31 => ?_)
      refine v_iconst (v := nI 0) C dX8_setQuote_34 (by decide) ?_
      exact v_iret C E dX8_setQuote_35 rfl ⟨_, rfl, (if_neg hnz).symm, rfl, ⟨_, Y28, Or.inr ⟨hnz, by rw [ev]⟩⟩, W28⟩
    · have ev : mo_fQ M i a = nI 0 := by unfold mo_fQ; rw [if_neg (fun z => z c6), if_pos c20]
      refine v_iconst (v := nI 0) C dX8_setQuote_23 (by decide) ?_
      refine v_goto (tgt := 28) C dX8_setQuote_24 (by decide) ?_
      refine v_callVq C (c_X8_fails hl hS (nI 0)) dX8_setQuote_28 mX8_fails rfl hS.o rfl wd7_82 rfl rfl (Nat.le_of_ble_eq_true rfl) (hp_rmle hRm (by decide) (by decide)) (Nat.le_of_ble_eq_true rfl) (Nat.le_of_ble_eq_true rfl) (fun r28 n28 h28 q28 => ?_)
      obtain ⟨e28, k28, Y28, W28⟩ := q28
      have z28 := Eq.symm k28
      have z28 : n0 = n28 := z28
      subst z28
      subst e28
      refine v_if_eqB (tgt := 36) C dX8_setQuote_31 (by decide) (fun c31 => ?_) (fun c31 => absurd c31 (by decide))
      refine v_aload_n C dX8_setQuote_36 rfl ?_
      refine v_iload_n C dX8_setQuote_37 rfl ?_
      refine v_iconst (v := nI 1) C dX8_setQuote_38 (by decide) ?_
      rw [hij]
      refine v_callVi C (c_X8_on hl Y28 (i := j) (k := 1) (by omega) (by decide)) dX8_setQuote_39 mX8_on rfl Y28.o rfl wd7_148 rfl rfl (Nat.le_of_ble_eq_true rfl) (hp_rmle hRm (by decide) (by decide)) (Nat.le_of_ble_eq_true rfl) (Nat.le_of_ble_eq_true rfl) ?_
      rw [show (mo_si S 3 (nI 0)).1 0 = S.1 0 from rfl, hg.on1 hj]
      refine v_istore_n C dX8_setQuote_42 (by decide) ?_
      refine v_aload_n C dX8_setQuote_43 rfl ?_
      refine v_aload_n C dX8_setQuote_44 rfl ?_
      refine v_get C 0 dX8_setQuote_45 wd6_237 Y28.o rfl (by decide) ⟨rfl, rfl, rfl⟩ rfl ?_
      refine v_callVv C (c_X8_keeps0 hl Y28 (ch := ch) hch h8) dX8_setQuote_48 mX8_keeps rfl Y28.o rfl wd7_86 rfl rfl (Nat.le_of_ble_eq_true rfl) (hp_rmle hRm (by decide) (by decide)) (Nat.le_of_ble_eq_true rfl) (Nat.le_of_ble_eq_true rfl) (fun n48 h48 q48 => ?_)
      obtain ⟨k48, Y48, W48⟩ := q48
      have z48 := Eq.symm k48
      have z48 : n0 = n48 := z48
      subst z48
      have W48 : ∀ a, (a < y ∨ y + 13 ≤ a) → h48 a = _ := fun a ha => (W48 a ha).trans (W28 a ha)
      have X48 : Mo G h48 y (mo_sg (mo_kp (mo_si S 3 (nI 0)) 0 ch) (S.1 0)) := Y48.to (mo_sg_eq (mo_kp_g _ _ _))
      refine v_aload_n C dX8_setQuote_51 rfl ?_
      refine v_get C 0 dX8_setQuote_52 wd6_237 X48.o rfl (by decide) ⟨rfl, rfl, rfl⟩ rfl ?_
      refine v_bipush (v := nI 6) C dX8_setQuote_55 (by decide) ?_
      refine v_iconst (v := nI 3) C dX8_setQuote_57 (by decide) ?_
      refine v_iload_n C dX8_setQuote_58 rfl ?_
      refine v_imulN C dX8_setQuote_59 ?_
      refine v_iaddN C dX8_setQuote_60 ?_
      refine v_iconst (v := nI 1) C dX8_setQuote_61 (by decide) ?_
      refine v_iaddN C dX8_setQuote_62 ?_
      refine v_iload_n C dX8_setQuote_63 rfl ?_
      refine v_iastN C dX8_setQuote_64 (by omega) X48.a0 (by omega) (by decide) (fun h64 e64 g64 => ?_)
      have Y64 := X48.s0 e64 g64
      have W64 : ∀ a, (a < y ∨ y + 13 ≤ a) → h64 a = _ := fun a ha => (g64 a (by omega)).trans (W48 a ha)
      have X64 := Y64.to mo_sg_sa
      have G64 := hg.u1 hj a
      refine v_iload_n C dX8_setQuote_65 rfl ?_
      exact v_iret C E dX8_setQuote_66 rfl ⟨_, rfl, by rw [if_pos ev, ed], rfl, ⟨_, X64, Or.inl ⟨ev, _, by rw [ed]; exact G64, rfl⟩⟩, W64⟩
  · have ev : mo_fQ M i a = nI 1 := if_pos c6
    have hnz : ¬ mo_fQ M i a = nI 0 := by rw [ev]; decide
    refine v_iconst (v := nI 1) C dX8_setQuote_9 (by decide) ?_
    refine v_goto (tgt := 28) C dX8_setQuote_10 (by decide) ?_
    refine v_callVq C (c_X8_fails hl hS (nI 1)) dX8_setQuote_28 mX8_fails rfl hS.o rfl wd7_82 rfl rfl (Nat.le_of_ble_eq_true rfl) (hp_rmle hRm (by decide) (by decide)) (Nat.le_of_ble_eq_true rfl) (Nat.le_of_ble_eq_true rfl) (fun r28 n28 h28 q28 => ?_)
    obtain ⟨e28, k28, Y28, W28⟩ := q28
    have z28 := Eq.symm k28
    have z28 : n0 = n28 := z28
    subst z28
    subst e28
    refine v_if_eqB (tgt := 36) C dX8_setQuote_31 (by decide) (fun c31 => absurd c31 (fun z => z (by decide))) (fun c31 => ?_)
    refine v_iconst (v := nI 0) C dX8_setQuote_34 (by decide) ?_
    exact v_iret C E dX8_setQuote_35 rfl ⟨_, rfl, (if_neg hnz).symm, rfl, ⟨_, Y28, Or.inr ⟨hnz, by rw [ev]⟩⟩, W28⟩
set_option maxHeartbeats 8000000 in
/-- addHorizon -/
theorem c_X8_addHorizon {G : hp_G} {l : Launch} (hl : l.stackTraces = false) {n0 : Nat} {h0 : Nat → Option va_E} {y : Nat} {S : mo_T} (hS : Mo G h0 y S) {M : mk_T} (hg : Gr (S.1 0) M) {ch : Nat} (hch : S.2 1 = nI ch) (h8 : ch ≤ 8) (p u : Int32) : Ct G l yX8_addHorizon cX8_addHorizon 4 (some .int) 2 0 0 [.ref y, .int p, .int u] (n0, h0) (hp_iq (fun r τ => r = (if mo_fH M p u = nI 0 then nI (mk_hz M + 1 - 1) else nI 0) ∧ τ.1 = n0 ∧ (∃ S2, Mo G τ.2 y S2 ∧ mo_aft S (mo_fH M p u) ch (mk_plH M p u) S2) ∧ ∀ a, (a < y ∨ y + 13 ≤ a) → τ.2 a = h0 a)) := by
  have hbase := hS.base
  have hhz := hg.hz
  have htr := hg.tr
  have hct := hg.ct
  refine Ct.of rfl hl (by simp [Value.category]) (Nat.le_of_ble_eq_true rfl) (fun K C E hRm hKl => ?_)
  subst hKl
  refine v_aload_n C dX8_addHorizon_0 rfl ?_
  refine v_iload_n C dX8_addHorizon_1 rfl ?_
  refine v_iconst (v := nI 1) C dX8_addHorizon_2 (by decide) ?_
  refine v_bipush (v := nI 99) C dX8_addHorizon_3 (by decide) ?_
  refine v_callSi C (c_X8_in hl p (nI 1) (nI 99)) dX8_addHorizon_5 mX8_in wd7_79 rfl rfl (Nat.le_of_ble_eq_true rfl) (hp_rmle hRm (by decide) (by decide)) (Nat.le_of_ble_eq_true rfl) (Nat.le_of_ble_eq_true rfl) ?_
  refine v_if_eqB (tgt := 21) C dX8_addHorizon_8 (by decide) (fun c8 => ?_) (fun c8 => ?_)
  · have ev : mo_fH M p u = nI 1 := if_pos (Or.inl c8)
    have hnz : ¬ mo_fH M p u = nI 0 := by rw [ev]; decide
    refine v_iconst (v := nI 1) C dX8_addHorizon_21 (by decide) ?_
    refine v_goto (tgt := 40) C dX8_addHorizon_22 (by decide) ?_
    refine v_callVq C (c_X8_fails hl hS (nI 1)) dX8_addHorizon_40 mX8_fails rfl hS.o rfl wd7_82 rfl rfl (Nat.le_of_ble_eq_true rfl) (hp_rmle hRm (by decide) (by decide)) (Nat.le_of_ble_eq_true rfl) (Nat.le_of_ble_eq_true rfl) (fun r40 n40 h40 q40 => ?_)
    obtain ⟨e40, k40, Y40, W40⟩ := q40
    have z40 := Eq.symm k40
    have z40 : n0 = n40 := z40
    subst z40
    subst e40
    refine v_if_eqB (tgt := 48) C dX8_addHorizon_43 (by decide) (fun c43 => absurd c43 (fun z => z (by decide))) (fun c43 => ?_)
    refine v_iconst (v := nI 0) C dX8_addHorizon_46 (by decide) ?_
    exact v_iret C E dX8_addHorizon_47 rfl ⟨_, rfl, (if_neg hnz).symm, rfl, ⟨_, Y40, Or.inr ⟨hnz, by rw [ev]⟩⟩, W40⟩
  · refine v_iload_n C dX8_addHorizon_11 rfl ?_
    refine v_iconst (v := nI 1) C dX8_addHorizon_12 (by decide) ?_
    refine v_bipush (v := nI 20) C dX8_addHorizon_13 (by decide) ?_
    refine v_callSi C (c_X8_in hl u (nI 1) (nI 20)) dX8_addHorizon_15 mX8_in wd7_79 rfl rfl (Nat.le_of_ble_eq_true rfl) (hp_rmle hRm (by decide) (by decide)) (Nat.le_of_ble_eq_true rfl) (Nat.le_of_ble_eq_true rfl) ?_
    refine v_if_neB (tgt := 25) C dX8_addHorizon_18 (by decide) (fun c18 => ?_) (fun c18 => ?_)
    · refine v_aload_n C dX8_addHorizon_25 rfl ?_
      refine v_get C 0 dX8_addHorizon_26 wd6_237 hS.o rfl (by decide) ⟨rfl, rfl, rfl⟩ rfl ?_
      refine v_iconst (v := nI 0) C dX8_addHorizon_29 (by decide) ?_
      refine v_ialdN C dX8_addHorizon_30 hS.a0 (by omega) (by decide) ?_
      rw [hg.g0]
      refine v_iconst (v := nI 4) C dX8_addHorizon_31 (by decide) ?_
      refine v_icmp_neN (tgt := 39) C dX8_addHorizon_32 (by decide) (by omega) (by omega) (fun c32 => ?_) (fun c32 => ?_)
      · have ev : mo_fH M p u = nI 0 := by unfold mo_fH; rw [if_neg (fun z => z.elim (fun y => y c8) (fun y => y c18)), if_neg c32]
        refine v_iconst (v := nI 0) C dX8_addHorizon_39 (by decide) ?_
        refine v_callVq C (c_X8_fails hl hS (nI 0)) dX8_addHorizon_40 mX8_fails rfl hS.o rfl wd7_82 rfl rfl (Nat.le_of_ble_eq_true rfl) (hp_rmle hRm (by decide) (by decide)) (Nat.le_of_ble_eq_true rfl) (Nat.le_of_ble_eq_true rfl) (fun r40 n40 h40 q40 => ?_)
        obtain ⟨e40, k40, Y40, W40⟩ := q40
        have z40 := Eq.symm k40
        have z40 : n0 = n40 := z40
        subst z40
        subst e40
        refine v_if_eqB (tgt := 48) C dX8_addHorizon_43 (by decide) (fun c43 => ?_) (fun c43 => absurd c43 (by decide))
        refine v_aload_n C dX8_addHorizon_48 rfl ?_
        refine v_aload_n C dX8_addHorizon_49 rfl ?_
        refine v_get C 0 dX8_addHorizon_50 wd6_237 Y40.o rfl (by decide) ⟨rfl, rfl, rfl⟩ rfl ?_
        refine v_callVv C (c_X8_keeps0 hl Y40 (ch := ch) hch h8) dX8_addHorizon_53 mX8_keeps rfl Y40.o rfl wd7_86 rfl rfl (Nat.le_of_ble_eq_true rfl) (hp_rmle hRm (by decide) (by decide)) (Nat.le_of_ble_eq_true rfl) (Nat.le_of_ble_eq_true rfl) (fun n53 h53 q53 => ?_)
        obtain ⟨k53, Y53, W53⟩ := q53
        have z53 := Eq.symm k53
        have z53 : n0 = n53 := z53
        subst z53
        have W53 : ∀ a, (a < y ∨ y + 13 ≤ a) → h53 a = _ := fun a ha => (W53 a ha).trans (W40 a ha)
        have X53 : Mo G h53 y (mo_sg (mo_kp (mo_si S 3 (nI 0)) 0 ch) (S.1 0)) := Y53.to (mo_sg_eq (mo_kp_g _ _ _))
        refine v_bipush (v := nI 6) C dX8_addHorizon_56 (by decide) ?_
        refine v_iconst (v := nI 3) C dX8_addHorizon_58 (by decide) ?_
        refine v_aload_n C dX8_addHorizon_59 rfl ?_
        refine v_get C 0 dX8_addHorizon_60 wd6_237 X53.o rfl (by decide) ⟨rfl, rfl, rfl⟩ rfl ?_
        refine v_iconst (v := nI 0) C dX8_addHorizon_63 (by decide) ?_
        refine v_ialdN C dX8_addHorizon_64 X53.a0 (by omega) (by decide) ?_
        rw [mo_sg_0, hg.g0]
        refine v_imulN C dX8_addHorizon_65 ?_
        refine v_iaddN C dX8_addHorizon_66 ?_
        refine v_istore_n C dX8_addHorizon_67 (by decide) ?_
        refine v_aload_n C dX8_addHorizon_68 rfl ?_
        refine v_get C 0 dX8_addHorizon_69 wd6_237 X53.o rfl (by decide) ⟨rfl, rfl, rfl⟩ rfl ?_
        refine v_iload_n C dX8_addHorizon_72 rfl ?_
        refine v_iconst (v := nI 0) C dX8_addHorizon_73 (by decide) ?_
        refine v_iaddN C dX8_addHorizon_74 ?_
        refine v_iload_n C dX8_addHorizon_75 rfl ?_
        refine v_iastN C dX8_addHorizon_76 (by omega) X53.a0 (by omega) (by decide) (fun h76 e76 g76 => ?_)
        have Y76 := X53.s0 e76 g76
        have W76 : ∀ a, (a < y ∨ y + 13 ≤ a) → h76 a = _ := fun a ha => (g76 a (by omega)).trans (W53 a ha)
        have X76 := Y76.to mo_sg_sa
        refine v_aload_n C dX8_addHorizon_77 rfl ?_
        refine v_get C 0 dX8_addHorizon_78 wd6_237 X76.o rfl (by decide) ⟨rfl, rfl, rfl⟩ rfl ?_
        refine v_iload_n C dX8_addHorizon_81 rfl ?_
        refine v_iconst (v := nI 1) C dX8_addHorizon_82 (by decide) ?_
        refine v_iaddN C dX8_addHorizon_83 ?_
        refine v_iload_n C dX8_addHorizon_84 rfl ?_
        refine v_iastN C dX8_addHorizon_85 (by omega) X76.a0 (by omega) (by decide) (fun h85 e85 g85 => ?_)
        have Y85 := X76.s0 e85 g85
        have W85 : ∀ a, (a < y ∨ y + 13 ≤ a) → h85 a = _ := fun a ha => (g85 a (by omega)).trans (W76 a ha)
        have X85 := Y85.to mo_sg_sa
        refine v_aload_n C dX8_addHorizon_86 rfl ?_
        refine v_get C 0 dX8_addHorizon_87 wd6_237 X85.o rfl (by decide) ⟨rfl, rfl, rfl⟩ rfl ?_
        refine v_iload_n C dX8_addHorizon_90 rfl ?_
        refine v_iconst (v := nI 2) C dX8_addHorizon_91 (by decide) ?_
        refine v_iaddN C dX8_addHorizon_92 ?_
        refine v_iload_n C dX8_addHorizon_93 rfl ?_
        refine v_iastN C dX8_addHorizon_94 (by omega) X85.a0 (by omega) (by decide) (fun h94 e94 g94 => ?_)
        have Y94 := X85.s0 e94 g94
        have W94 : ∀ a, (a < y ∨ y + 13 ≤ a) → h94 a = _ := fun a ha => (g94 a (by omega)).trans (W85 a ha)
        have X94 := Y94.to mo_sg_sa
        refine v_aload_n C dX8_addHorizon_95 rfl ?_
        refine v_get C 0 dX8_addHorizon_96 wd6_237 X94.o rfl (by decide) ⟨rfl, rfl, rfl⟩ rfl ?_
        refine v_iconst (v := nI 0) C dX8_addHorizon_99 (by decide) ?_
        refine v_dup2 C dX8_addHorizon_100 rfl rfl ?_
        refine v_ialdN C dX8_addHorizon_101 X94.a0 (by omega) (by decide) ?_
        rw [mo_sg_0, pk_un (show (0 : Nat) ≠ 6 + 3 * mk_hz M + 2 by omega), pk_un (show (0 : Nat) ≠ 6 + 3 * mk_hz M + 1 by omega), pk_un (show (0 : Nat) ≠ 6 + 3 * mk_hz M + 0 by omega), hg.g0]
        refine v_iconst (v := nI 1) C dX8_addHorizon_102 (by decide) ?_
        refine v_iaddN C dX8_addHorizon_103 ?_
        refine v_iastN C dX8_addHorizon_104 (by omega) X94.a0 (by omega) (by decide) (fun h104 e104 g104 => ?_)
        have Y104 := X94.s0 e104 g104
        have W104 : ∀ a, (a < y ∨ y + 13 ≤ a) → h104 a = _ := fun a ha => (g104 a (by omega)).trans (W94 a ha)
        have X104 := Y104.to mo_sg_sa
        have G104 := hg.addh (by omega) p u
        refine v_aload_n C dX8_addHorizon_105 rfl ?_
        refine v_get C 0 dX8_addHorizon_106 wd6_237 X104.o rfl (by decide) ⟨rfl, rfl, rfl⟩ rfl ?_
        refine v_iconst (v := nI 0) C dX8_addHorizon_109 (by decide) ?_
        refine v_ialdN C dX8_addHorizon_110 X104.a0 (by omega) (by decide) ?_
        rw [mo_sg_0, pk_us]
        refine v_iconst (v := nI 1) C dX8_addHorizon_111 (by decide) ?_
        refine v_isubN C dX8_addHorizon_112 (by omega) ?_
        exact v_iret C E dX8_addHorizon_113 rfl ⟨_, rfl, (if_pos ev).symm, rfl, ⟨_, X104, Or.inl ⟨ev, _, G104, rfl⟩⟩, W104⟩
      · have ev : mo_fH M p u = nI 2 := by unfold mo_fH; rw [if_neg (fun z => z.elim (fun y => y c8) (fun y => y c18)), if_pos c32]
        have hnz : ¬ mo_fH M p u = nI 0 := by rw [ev]; decide
        refine v_iconst (v := nI 2) C dX8_addHorizon_35 (by decide) ?_
        refine v_goto (tgt := 40) C dX8_addHorizon_36 (by decide) ?_
        refine v_callVq C (c_X8_fails hl hS (nI 2)) dX8_addHorizon_40 mX8_fails rfl hS.o rfl wd7_82 rfl rfl (Nat.le_of_ble_eq_true rfl) (hp_rmle hRm (by decide) (by decide)) (Nat.le_of_ble_eq_true rfl) (Nat.le_of_ble_eq_true rfl) (fun r40 n40 h40 q40 => ?_)
        obtain ⟨e40, k40, Y40, W40⟩ := q40
        have z40 := Eq.symm k40
        have z40 : n0 = n40 := z40
        subst z40
        subst e40
        refine v_if_eqB (tgt := 48) C dX8_addHorizon_43 (by decide) (fun c43 => absurd c43 (fun z => z (by decide))) (fun c43 => ?_)
        refine v_iconst (v := nI 0) C dX8_addHorizon_46 (by decide) ?_
        exact v_iret C E dX8_addHorizon_47 rfl ⟨_, rfl, (if_neg hnz).symm, rfl, ⟨_, Y40, Or.inr ⟨hnz, by rw [ev]⟩⟩, W40⟩
    · have ev : mo_fH M p u = nI 1 := if_pos (Or.inr c18)
      have hnz : ¬ mo_fH M p u = nI 0 := by rw [ev]; decide
      refine v_iconst (v := nI 1) C dX8_addHorizon_21 (by decide) ?_
      refine v_goto (tgt := 40) C dX8_addHorizon_22 (by decide) ?_
      refine v_callVq C (c_X8_fails hl hS (nI 1)) dX8_addHorizon_40 mX8_fails rfl hS.o rfl wd7_82 rfl rfl (Nat.le_of_ble_eq_true rfl) (hp_rmle hRm (by decide) (by decide)) (Nat.le_of_ble_eq_true rfl) (Nat.le_of_ble_eq_true rfl) (fun r40 n40 h40 q40 => ?_)
      obtain ⟨e40, k40, Y40, W40⟩ := q40
      have z40 := Eq.symm k40
      have z40 : n0 = n40 := z40
      subst z40
      subst e40
      refine v_if_eqB (tgt := 48) C dX8_addHorizon_43 (by decide) (fun c43 => absurd c43 (fun z => z (by decide))) (fun c43 => ?_)
      refine v_iconst (v := nI 0) C dX8_addHorizon_46 (by decide) ?_
      exact v_iret C E dX8_addHorizon_47 rfl ⟨_, rfl, (if_neg hnz).symm, rfl, ⟨_, Y40, Or.inr ⟨hnz, by rw [ev]⟩⟩, W40⟩

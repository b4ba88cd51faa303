/-! ===== THE MODEL: traders ===== -/
theorem Gr.addt {g : Nat → Int32} {M : mk_T} (H : Gr g M) (h6 : mk_tr M < 6) (m : Int32) (hin : (g 136 + m).toInt64 = M.2.2.2.1 + m.toInt64) : Gr (upd (upd (upd (upd (upd g 1 (nI (mk_tr M + 1))) (18 + 3 * mk_tr M + 0) m) (18 + 3 * mk_tr M + 1) (nI 0)) (18 + 3 * mk_tr M + 2) (nI 0)) 136 (g 136 + m)) (mk_plT M m) := by
  obtain ⟨⟨a0, a1, a2, a3, a4, a5, a6, a7⟩, b, c, d, e1, e2, e3⟩ := H
  have un : ∀ i, i ≠ 1 → i ≠ 136 → (i < 18 + 3 * mk_tr M ∨ 21 + 3 * mk_tr M ≤ i) → upd (upd (upd (upd (upd g 1 (nI (mk_tr M + 1))) (18 + 3 * mk_tr M + 0) m) (18 + 3 * mk_tr M + 1) (nI 0)) (18 + 3 * mk_tr M + 2) (nI 0)) 136 (g 136 + m) i = g i := fun i h0 h2 h1 => by rw [pk_un h2, pk_un (by omega), pk_un (by omega), pk_un (by omega), pk_un h0]
  have ak : ∀ k i, i ≠ mk_tr M ∨ (k ≠ 3 ∧ k ≠ 4) → mk_ar (mk_plT M m) k i = mk_ar M k i := fun k i h => by
    show (if k = 4 then _ else (if k = 3 then _ else mk_ar M k)) i = _
    by_cases z2 : k = 4
    · subst z2
      rw [if_pos rfl]
      exact pk_un (by omega)
    · rw [if_neg z2]
      by_cases z1 : k = 3
      · subst z1
        rw [if_pos rfl]
        exact pk_un (by omega)
      · rw [if_neg z1]
  refine ⟨⟨(un _ (by omega) (by omega) (by omega)).trans a0, (by rw [pk_un (by omega), pk_un (by omega), pk_un (by omega), pk_un (by omega), pk_us]), (un _ (by omega) (by omega) (by omega)).trans a2, (un _ (by omega) (by omega) (by omega)).trans a3, (un _ (by omega) (by omega) (by omega)).trans a4, (un _ (by omega) (by omega) (by omega)).trans a5, (by rw [pk_us]; exact hin), (by rw [un _ (by omega) (by omega) (by omega)]; exact a7)⟩, fun i (hi : i < mk_hz M) k hk => ?_, fun s (hs : s < mk_tr M + 1) => ?_, fun c2 (hc : c2 < mk_ct M) k hk => ?_, e1, (by show mk_tr M + 1 ≤ 6; omega), e3⟩
  · rw [un _ (by omega) (by omega) (by omega), ak k i (Or.inr ⟨by omega, by omega⟩)]
    exact b i hi k hk
  · by_cases q : s = mk_tr M
    · subst q
      have e4 : mk_ar (mk_plT M m) 4 (mk_tr M) = nI 0 := show upd (M.2.1 4) (mk_tr M) (nI 0) (mk_tr M) = nI 0 from pk_us
      have e5 : mk_ar (mk_plT M m) 3 (mk_tr M) = m := show upd (M.2.1 3) (mk_tr M) m (mk_tr M) = m from pk_us
      rw [e4, e5]
      refine ⟨?_, ?_, ?_, Or.inl rfl⟩
      · rw [pk_un (by omega), pk_un (by omega), pk_un (by omega), pk_us]
      · rw [pk_un (by omega), pk_un (by omega), pk_us]
        rfl
      · rw [pk_un (by omega), pk_us]
        rfl
    · rw [un _ (by omega) (by omega) (by omega), un _ (by omega) (by omega) (by omega), un _ (by omega) (by omega) (by omega), ak 3 s (Or.inl q), ak 4 s (Or.inl q)]
      exact c s (by omega)
  · rw [un _ (by omega) (by omega) (by omega), ak (5 + k) c2 (Or.inr ⟨by omega, by omega⟩)]
    exact d c2 hc k hk
def mo_fR (M : mk_T) (m : Int32) : Int32 := if ¬ hp_wi m (nI 0) (nI 9999) then nI 1 else if mk_tr M = 6 then nI 2 else nI 0
set_option maxHeartbeats 8000000 in
/-- addTrader -/
theorem c_X8_addTrader {G : hp_G} {l : Launch} (hl : l.stackTraces = false) {n0 : Nat} {h0 : Nat → Option va_E} {y : Nat} {S : mo_T} (hS : Mo G h0 y S) {M : mk_T} (hg : Gr (S.1 0) M) {ch : Nat} (hch : S.2 1 = nI ch) (h8 : ch ≤ 8) (m : Int32) (hin : mo_fR M m = nI 0 → (S.1 0 136 + m).toInt64 = M.2.2.2.1 + m.toInt64) : Ct G l yX8_addTrader cX8_addTrader 3 (some .int) 2 0 0 [.ref y, .int m] (n0, h0) (hp_iq (fun r τ => r = (if mo_fR M m = nI 0 then nI (mk_tr M) else nI 0) ∧ τ.1 = n0 ∧ (∃ S2, Mo G τ.2 y S2 ∧ mo_aft S (mo_fR M m) ch (mk_plT M m) S2) ∧ ∀ a, (a < y ∨ y + 13 ≤ a) → τ.2 a = h0 a)) := by
  have hbase := hS.base
  have hhz := hg.hz
  have htr := hg.tr
  have hct := hg.ct
  refine Ct.of rfl hl (by simp [Value.category]) (Nat.le_of_ble_eq_true rfl) (fun K C E hRm hKl => ?_)
  subst hKl
  refine v_aload_n C dX8_addTrader_0 rfl ?_
  refine v_iload_n C dX8_addTrader_1 rfl ?_
  refine v_iconst (v := nI 0) C dX8_addTrader_2 (by decide) ?_
  refine v_sipush (v := nI 9999) C dX8_addTrader_3 (by decide) ?_
  refine v_callSi C (c_X8_in hl m (nI 0) (nI 9999)) dX8_addTrader_6 mX8_in wd7_79 rfl rfl (Nat.le_of_ble_eq_true rfl) (hp_rmle hRm (by decide) (by decide)) (Nat.le_of_ble_eq_true rfl) (Nat.le_of_ble_eq_true rfl) ?_
  refine v_if_neB (tgt := 16) C dX8_addTrader_9 (by decide) (fun c9 => ?_) (fun c9 => ?_)
  · refine v_aload_n C dX8_addTrader_16 rfl ?_
    refine v_get C 0 dX8_addTrader_17 wd6_237 hS.o rfl (by decide) ⟨rfl, rfl, rfl⟩ rfl ?_
    refine v_iconst (v := nI 1) C dX8_addTrader_20 (by decide) ?_
    refine v_ialdN C dX8_addTrader_21 hS.a0 (by omega) (by decide) ?_
    rw [hg.g1]
    refine v_bipush (v := nI 6) C dX8_addTrader_22 (by decide) ?_
    refine v_icmp_neN (tgt := 31) C dX8_addTrader_24 (by decide) (by omega) (by omega) (fun c24 => ?_) (fun c24 => ?_)
    · have ev : mo_fR M m = nI 0 := by unfold mo_fR; rw [if_neg (fun z => z c9), if_neg c24]
      refine v_iconst (v := nI 0) C dX8_addTrader_31 (by decide) ?_
      refine v_callVq C (c_X8_fails hl hS (nI 0)) dX8_addTrader_32 mX8_fails rfl hS.o rfl wd7_82 rfl rfl (Nat.le_of_ble_eq_true rfl) (hp_rmle hRm (by decide) (by decide)) (Nat.le_of_ble_eq_true rfl) (Nat.le_of_ble_eq_true rfl) (fun r32 n32 h32 q32 => ?_)
      obtain ⟨e32, k32, Y32, W32⟩ := q32
      have z32 := Eq.symm k32
      have z32 : n0 = n32 := z32
      subst z32
      subst e32
      refine v_if_eqB (tgt := 40) C dX8_addTrader_35 (by decide) (fun c35 => ?_) (fun c35 => absurd c35 (by decide))
      refine v_aload_n C dX8_addTrader_40 rfl ?_
      refine v_aload_n C dX8_addTrader_41 rfl ?_
      refine v_get C 0 dX8_addTrader_42 wd6_237 Y32.o rfl (by decide) ⟨rfl, rfl, rfl⟩ rfl ?_
      refine v_callVv C (c_X8_keeps0 hl Y32 (ch := ch) hch h8) dX8_addTrader_45 mX8_keeps rfl Y32.o rfl wd7_86 rfl rfl (Nat.le_of_ble_eq_true rfl) (hp_rmle hRm (by decide) (by decide)) (Nat.le_of_ble_eq_true rfl) (Nat.le_of_ble_eq_true rfl) (fun n45 h45 q45 => ?_)
      obtain ⟨k45, Y45, W45⟩ := q45
      have z45 := Eq.symm k45
      have z45 : n0 = n45 := z45
      subst z45
      have W45 : ∀ a, (a < y ∨ y + 13 ≤ a) → h45 a = _ := fun a ha => (W45 a ha).trans (W32 a ha)
      have X45 : Mo G h45 y (mo_sg (mo_kp (mo_si S 3 (nI 0)) 0 ch) (S.1 0)) := Y45.to (mo_sg_eq (mo_kp_g _ _ _))
      refine v_aload_n C dX8_addTrader_48 rfl ?_
      refine v_get C 0 dX8_addTrader_49 wd6_237 X45.o rfl (by decide) ⟨rfl, rfl, rfl⟩ rfl ?_
      refine v_iconst (v := nI 1) C dX8_addTrader_52 (by decide) ?_
      refine v_ialdN C dX8_addTrader_53 X45.a0 (by omega) (by decide) ?_
      rw [mo_sg_0, hg.g1]
      refine v_istore_n C dX8_addTrader_54 (by decide) ?_
      refine v_aload_n C dX8_addTrader_55 rfl ?_
      refine v_get C 0 dX8_addTrader_56 wd6_237 X45.o rfl (by decide) ⟨rfl, rfl, rfl⟩ rfl ?_
      refine v_iconst (v := nI 1) C dX8_addTrader_59 (by decide) ?_
      refine v_dup2 C dX8_addTrader_60 rfl rfl ?_
      refine v_ialdN C dX8_addTrader_61 X45.a0 (by omega) (by decide) ?_
      rw [mo_sg_0, hg.g1]
      refine v_iconst (v := nI 1) C dX8_addTrader_62 (by decide) ?_
      refine v_iaddN C dX8_addTrader_63 ?_
      refine v_iastN C dX8_addTrader_64 (by omega) X45.a0 (by omega) (by decide) (fun h64 e64 g64 => ?_)
      have Y64 := X45.s0 e64 g64
      have W64 : ∀ a, (a < y ∨ y + 13 ≤ a) → h64 a = _ := fun a ha => (g64 a (by omega)).trans (W45 a ha)
      have X64 := Y64.to mo_sg_sa
      refine v_aload_n C dX8_addTrader_65 rfl ?_
      refine v_iload_n C dX8_addTrader_66 rfl ?_
      refine v_iconst (v := nI 0) C dX8_addTrader_67 (by decide) ?_
      refine v_iload_n C dX8_addTrader_68 rfl ?_
      refine v_callVv C (c_X8_lays hl X64 (i := mk_tr M) (k := 0) (by omega) (by decide) _) dX8_addTrader_69 mX8_lays rfl X64.o rfl wd7_97 rfl rfl (Nat.le_of_ble_eq_true rfl) (hp_rmle hRm (by decide) (by decide)) (Nat.le_of_ble_eq_true rfl) (Nat.le_of_ble_eq_true rfl) (fun n69 h69 q69 => ?_)
      obtain ⟨k69, Y69, W69⟩ := q69
      have z69 := Eq.symm k69
      have z69 : n0 = n69 := z69
      subst z69
      have W69 : ∀ a, (a < y ∨ y + 13 ≤ a) → h69 a = _ := fun a ha => (W69 a ha).trans (W64 a ha)
      have X69 := Y69.to mo_sg_sa
      refine v_aload_n C dX8_addTrader_72 rfl ?_
      refine v_iload_n C dX8_addTrader_73 rfl ?_
      refine v_iconst (v := nI 1) C dX8_addTrader_74 (by decide) ?_
      refine v_iconst (v := nI 0) C dX8_addTrader_75 (by decide) ?_
      refine v_callVv C (c_X8_lays hl X69 (i := mk_tr M) (k := 1) (by omega) (by decide) _) dX8_addTrader_76 mX8_lays rfl X69.o rfl wd7_97 rfl rfl (Nat.le_of_ble_eq_true rfl) (hp_rmle hRm (by decide) (by decide)) (Nat.le_of_ble_eq_true rfl) (Nat.le_of_ble_eq_true rfl) (fun n76 h76 q76 => ?_)
      obtain ⟨k76, Y76, W76⟩ := q76
      have z76 := Eq.symm k76
      have z76 : n0 = n76 := z76
      subst z76
      have W76 : ∀ a, (a < y ∨ y + 13 ≤ a) → h76 a = _ := fun a ha => (W76 a ha).trans (W69 a ha)
      have X76 := Y76.to mo_sg_sa
      refine v_aload_n C dX8_addTrader_79 rfl ?_
      refine v_iload_n C dX8_addTrader_80 rfl ?_
      refine v_iconst (v := nI 2) C dX8_addTrader_81 (by decide) ?_
      refine v_iconst (v := nI 0) C dX8_addTrader_82 (by decide) ?_
      refine v_callVv C (c_X8_lays hl X76 (i := mk_tr M) (k := 2) (by omega) (by decide) _) dX8_addTrader_83 mX8_lays rfl X76.o rfl wd7_97 rfl rfl (Nat.le_of_ble_eq_true rfl) (hp_rmle hRm (by decide) (by decide)) (Nat.le_of_ble_eq_true rfl) (Nat.le_of_ble_eq_true rfl) (fun n83 h83 q83 => ?_)
      obtain ⟨k83, Y83, W83⟩ := q83
      have z83 := Eq.symm k83
      have z83 : n0 = n83 := z83
      subst z83
      have W83 : ∀ a, (a < y ∨ y + 13 ≤ a) → h83 a = _ := fun a ha => (W83 a ha).trans (W76 a ha)
      have X83 := Y83.to mo_sg_sa
      refine v_aload_n C dX8_addTrader_86 rfl ?_
      refine v_get C 0 dX8_addTrader_87 wd6_237 X83.o rfl (by decide) ⟨rfl, rfl, rfl⟩ rfl ?_
      refine v_sipush (v := nI 136) C dX8_addTrader_90 (by decide) ?_
      refine v_dup2 C dX8_addTrader_93 rfl rfl ?_
      refine v_ialdN C dX8_addTrader_94 X83.a0 (by omega) (by decide) ?_
      rw [mo_sg_0, pk_un (show (136 : Nat) ≠ 18 + 3 * mk_tr M + 2 by omega), pk_un (show (136 : Nat) ≠ 18 + 3 * mk_tr M + 1 by omega), pk_un (show (136 : Nat) ≠ 18 + 3 * mk_tr M + 0 by omega), pk_un (show (136 : Nat) ≠ 1 by decide)]
      refine v_iload_n C dX8_addTrader_95 rfl ?_
      refine v_iadd C dX8_addTrader_96 ?_
      refine v_iastN C dX8_addTrader_97 (by omega) X83.a0 (by omega) (by decide) (fun h97 e97 g97 => ?_)
      have Y97 := X83.s0 e97 g97
      have W97 : ∀ a, (a < y ∨ y + 13 ≤ a) → h97 a = _ := fun a ha => (g97 a (by omega)).trans (W83 a ha)
      have X97 := Y97.to mo_sg_sa
      have G97 := hg.addt (by omega) m (hin ev)
      refine v_iload_n C dX8_addTrader_98 rfl ?_
      exact v_iret C E dX8_addTrader_99 rfl ⟨_, rfl, (if_pos ev).symm, rfl, ⟨_, X97, Or.inl ⟨ev, _, G97, rfl⟩⟩, W97⟩
    · have ev : mo_fR M m = nI 2 := by unfold mo_fR; rw [if_neg (fun z => z c9), if_pos c24]
      have hnz : ¬ mo_fR M m = nI 0 := by rw [ev]; decide
      refine v_iconst (v := nI 2) C dX8_addTrader_27 (by decide) ?_
      refine v_goto (tgt := 32) C dX8_addTrader_28 (by decide) ?_
      refine v_callVq C (c_X8_fails hl hS (nI 2)) dX8_addTrader_32 mX8_fails rfl hS.o rfl wd7_82 rfl rfl (Nat.le_of_ble_eq_true rfl) (hp_rmle hRm (by decide) (by decide)) (Nat.le_of_ble_eq_true rfl) (Nat.le_of_ble_eq_true rfl) (fun r32 n32 h32 q32 => ?_)
      obtain ⟨e32, k32, Y32, W32⟩ := q32
      have z32 := Eq.symm k32
      have z32 : n0 = n32 := z32
      subst z32
      subst e32
      refine v_if_eqB (tgt := 40) C dX8_addTrader_35 (by decide) (fun c35 => absurd c35 (fun z => z (by decide))) (fun c35 => ?_)
      refine v_iconst (v := nI 0) C dX8_addTrader_38 (by decide) ?_
      exact v_iret C E dX8_addTrader_39 rfl ⟨_, rfl, (if_neg hnz).symm, rfl, ⟨_, Y32, Or.inr ⟨hnz, by rw [ev]⟩⟩, W32⟩
  · have ev : mo_fR M m = nI 1 := if_pos c9
    have hnz : ¬ mo_fR M m = nI 0 := by rw [ev]; decide
    refine v_iconst (v := nI 1) C dX8_addTrader_12 (by decide) ?_
    refine v_goto (tgt := 32) C dX8_addTrader_13 (by decide) ?_
    refine v_callVq C (c_X8_fails hl hS (nI 1)) dX8_addTrader_32 mX8_fails rfl hS.o rfl wd7_82 rfl rfl (Nat.le_of_ble_eq_true rfl) (hp_rmle hRm (by decide) (by decide)) (Nat.le_of_ble_eq_true rfl) (Nat.le_of_ble_eq_true rfl) (fun r32 n32 h32 q32 => ?_)
    obtain ⟨e32, k32, Y32, W32⟩ := q32
    have z32 := Eq.symm k32
    have z32 : n0 = n32 := z32
    subst z32
    subst e32
    refine v_if_eqB (tgt := 40) C dX8_addTrader_35 (by decide) (fun c35 => absurd c35 (fun z => z (by decide))) (fun c35 => ?_)
    refine v_iconst (v := nI 0) C dX8_addTrader_38 (by decide) ?_
    exact v_iret C E dX8_addTrader_39 rfl ⟨_, rfl, (if_neg hnz).symm, rfl, ⟨_, Y32, Or.inr ⟨hnz, by rw [ev]⟩⟩, W32⟩

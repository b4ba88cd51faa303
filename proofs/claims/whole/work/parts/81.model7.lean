/-! ===== THE MODEL: the row is changed ===== -/
/-- the row g in the place of the first one -/
def mo_sg (S : mo_T) (g : Nat → Int32) : mo_T := (fun j => if j = 0 then g else S.1 j, S.2)
theorem mo_sg_eq {S : mo_T} {g : Nat → Int32} (h : S.1 0 = g) : S = mo_sg S g := by
  refine Prod.ext (funext fun j => ?_) rfl
  show S.1 j = (if j = 0 then g else S.1 j)
  by_cases q : j = 0
  · rw [if_pos q, q]
    exact h
  · rw [if_neg q]
theorem mo_sg_sa {S : mo_T} {g : Nat → Int32} {i : Nat} {v : Int32} : mo_sa (mo_sg S g) 0 i v = mo_sg S (upd g i v) := by
  refine Prod.ext (funext fun j => ?_) rfl
  show (if j = 0 then upd ((mo_sg S g).1 0) i v else (mo_sg S g).1 j) = (if j = 0 then upd g i v else S.1 j)
  by_cases q : j = 0
  · rw [if_pos q, if_pos q]
    rfl
  · rw [if_neg q, if_neg q]
    exact if_neg q
theorem mo_sg_0 (S : mo_T) (g : Nat → Int32) : (mo_sg S g).1 0 = g := rfl
theorem mo_kp_g (S : mo_T) (kf ch : Nat) : (mo_kp S kf ch).1 0 = S.1 0 := by
  unfold mo_kp
  split
  · rfl
  · split <;> rfl
section GRU
variable {g : Nat → Int32} {M : mk_T}
theorem Gr.u3 (H : Gr g M) {t : Nat} (ht : t < mk_tr M) (v : Int32) : Gr (upd g (18 + 3 * t + 0) v) (mk_st M 3 t v) := by
  obtain ⟨⟨a0, a1, a2, a3, a4, a5, a6, a7⟩, b, c, d, e1, e2, e3⟩ := H
  refine ⟨⟨(pk_un (by omega)).trans a0, (pk_un (by omega)).trans a1, (pk_un (by omega)).trans a2, (pk_un (by omega)).trans a3, (pk_un (by omega)).trans a4, (pk_un (by omega)).trans a5, (by rw [pk_un (by omega)]; exact a6), (by rw [pk_un (by omega)]; exact a7)⟩, fun i (hi : i < mk_hz M) k hk => ?_, fun s (hs : s < mk_tr M) => ?_, fun c2 (hc : c2 < mk_ct M) k hk => ?_, e1, e2, e3⟩
  · rw [pk_un (by omega)]
    show _ = (if k = 3 then _ else mk_ar M k) i
    rw [if_neg (by omega)]
    exact b i hi k hk
  · by_cases q : s = t
    · subst q
      exact ⟨pk_us.trans (show v = upd (M.2.1 3) s v s from pk_us.symm), (pk_un (by omega)).trans (c s hs).2.1, (pk_un (by omega)).trans (c s hs).2.2.1, (c s hs).2.2.2⟩
    · exact ⟨(pk_un (by omega)).trans ((c s hs).1.trans (show M.2.1 3 s = upd (M.2.1 3) t v s from (pk_un q).symm)), (pk_un (by omega)).trans (c s hs).2.1, (pk_un (by omega)).trans (c s hs).2.2.1, (c s hs).2.2.2⟩
  · rw [pk_un (by omega)]
    show _ = (if 5 + k = 3 then _ else mk_ar M (5 + k)) c2
    rw [if_neg (by omega)]
    exact d c2 hc k hk
theorem Gr.uin (H : Gr g M) {v : Int32} {x : Int64} (hx : v.toInt64 = x) : Gr (upd g (136) v) (mk_pin M x) := by
  obtain ⟨⟨a0, a1, a2, a3, a4, a5, a6, a7⟩, b, c, d, e1, e2, e3⟩ := H
  refine ⟨⟨(pk_un (by omega)).trans a0, (pk_un (by omega)).trans a1, (pk_un (by omega)).trans a2, (pk_un (by omega)).trans a3, (pk_un (by omega)).trans a4, (pk_un (by omega)).trans a5, (by rw [pk_us]; exact hx), (by rw [pk_un (by omega)]; exact a7)⟩, fun i (hi : i < mk_hz M) k hk => ?_, fun s (hs : s < mk_tr M) => ?_, fun c2 (hc : c2 < mk_ct M) k hk => ?_, e1, e2, e3⟩
  · exact (pk_un (by omega)).trans (b i hi k hk)
  · exact ⟨(pk_un (by omega)).trans (c s hs).1, (pk_un (by omega)).trans (c s hs).2.1, (pk_un (by omega)).trans (c s hs).2.2.1, (c s hs).2.2.2⟩
  · exact (pk_un (by omega)).trans (d c2 hc k hk)
theorem Gr.uou (H : Gr g M) {v : Int32} {x : Int64} (hx : v.toInt64 = x) : Gr (upd g (137) v) (mk_pou M x) := by
  obtain ⟨⟨a0, a1, a2, a3, a4, a5, a6, a7⟩, b, c, d, e1, e2, e3⟩ := H
  refine ⟨⟨(pk_un (by omega)).trans a0, (pk_un (by omega)).trans a1, (pk_un (by omega)).trans a2, (pk_un (by omega)).trans a3, (pk_un (by omega)).trans a4, (pk_un (by omega)).trans a5, (by rw [pk_un (by omega)]; exact a6), (by rw [pk_us]; exact hx)⟩, fun i (hi : i < mk_hz M) k hk => ?_, fun s (hs : s < mk_tr M) => ?_, fun c2 (hc : c2 < mk_ct M) k hk => ?_, e1, e2, e3⟩
  · exact (pk_un (by omega)).trans (b i hi k hk)
  · exact ⟨(pk_un (by omega)).trans (c s hs).1, (pk_un (by omega)).trans (c s hs).2.1, (pk_un (by omega)).trans (c s hs).2.2.1, (c s hs).2.2.2⟩
  · exact (pk_un (by omega)).trans (d c2 hc k hk)
theorem Gr.udy (H : Gr g M) (v : Int32) : Gr (upd g (3) v) (mk_pdy M v) := by
  obtain ⟨⟨a0, a1, a2, a3, a4, a5, a6, a7⟩, b, c, d, e1, e2, e3⟩ := H
  refine ⟨⟨(pk_un (by omega)).trans a0, (pk_un (by omega)).trans a1, (pk_un (by omega)).trans a2, pk_us, (pk_un (by omega)).trans a4, (pk_un (by omega)).trans a5, (by rw [pk_un (by omega)]; exact a6), (by rw [pk_un (by omega)]; exact a7)⟩, fun i (hi : i < mk_hz M) k hk => ?_, fun s (hs : s < mk_tr M) => ?_, fun c2 (hc : c2 < mk_ct M) k hk => ?_, e1, e2, e3⟩
  · exact (pk_un (by omega)).trans (b i hi k hk)
  · exact ⟨(pk_un (by omega)).trans (c s hs).1, (pk_un (by omega)).trans (c s hs).2.1, (pk_un (by omega)).trans (c s hs).2.2.1, (c s hs).2.2.2⟩
  · exact (pk_un (by omega)).trans (d c2 hc k hk)
theorem Gr.ufu (H : Gr g M) (v : Int32) : Gr (upd g (4) v) (mk_pfu M v) := by
  obtain ⟨⟨a0, a1, a2, a3, a4, a5, a6, a7⟩, b, c, d, e1, e2, e3⟩ := H
  refine ⟨⟨(pk_un (by omega)).trans a0, (pk_un (by omega)).trans a1, (pk_un (by omega)).trans a2, (pk_un (by omega)).trans a3, pk_us, (pk_un (by omega)).trans a5, (by rw [pk_un (by omega)]; exact a6), (by rw [pk_un (by omega)]; exact a7)⟩, fun i (hi : i < mk_hz M) k hk => ?_, fun s (hs : s < mk_tr M) => ?_, fun c2 (hc : c2 < mk_ct M) k hk => ?_, e1, e2, e3⟩
  · exact (pk_un (by omega)).trans (b i hi k hk)
  · exact ⟨(pk_un (by omega)).trans (c s hs).1, (pk_un (by omega)).trans (c s hs).2.1, (pk_un (by omega)).trans (c s hs).2.2.1, (c s hs).2.2.2⟩
  · exact (pk_un (by omega)).trans (d c2 hc k hk)
theorem Gr.ulo (H : Gr g M) (v : Int32) : Gr (upd g (5) v) (mk_plo M v) := by
  obtain ⟨⟨a0, a1, a2, a3, a4, a5, a6, a7⟩, b, c, d, e1, e2, e3⟩ := H
  refine ⟨⟨(pk_un (by omega)).trans a0, (pk_un (by omega)).trans a1, (pk_un (by omega)).trans a2, (pk_un (by omega)).trans a3, (pk_un (by omega)).trans a4, pk_us, (by rw [pk_un (by omega)]; exact a6), (by rw [pk_un (by omega)]; exact a7)⟩, fun i (hi : i < mk_hz M) k hk => ?_, fun s (hs : s < mk_tr M) => ?_, fun c2 (hc : c2 < mk_ct M) k hk => ?_, e1, e2, e3⟩
  · exact (pk_un (by omega)).trans (b i hi k hk)
  · exact ⟨(pk_un (by omega)).trans (c s hs).1, (pk_un (by omega)).trans (c s hs).2.1, (pk_un (by omega)).trans (c s hs).2.2.1, (c s hs).2.2.2⟩
  · exact (pk_un (by omega)).trans (d c2 hc k hk)
end GRU
theorem fB_z {M : mk_T} {i a : Int32} : ¬ 0 < mk_fB M i a ↔ mk_fB M i a = nI 0 := by
  unfold mk_fB
  repeat' split
  all_goals decide
/-- what a modification leaves: the row of a new market, the old one kept; or only the number of the claim that failed -/
def mo_aft (S : mo_T) (cd : Int32) (ch : Nat) (M' : mk_T) (S' : mo_T) : Prop := (cd = nI 0 ∧ ∃ g', Gr g' M' ∧ S' = mo_sg (mo_kp (mo_si S 3 (nI 0)) 0 ch) g') ∨ (¬ cd = nI 0 ∧ S' = mo_si S 3 cd)
set_option maxHeartbeats 8000000 in
/-- is it refused -/
theorem c_X8_isRefused {G : hp_G} {l : Launch} (hl : l.stackTraces = false) {n0 : Nat} {h0 : Nat → Option va_E} {y : Nat} {S : mo_T} (hS : Mo G h0 y S) {M : mk_T} (hg : Gr (S.1 0) M) (i a : Int32) : Ct G l yX8_isRefused cX8_isRefused 3 (some .boolean) 2 0 0 [.ref y, .int i, .int a] (n0, h0) (hp_iq (fun r τ => r = hp_b (0 < mk_fB M i a) ∧ τ.1 = n0 ∧ Mo G τ.2 y (mo_si S 3 (mk_fB M i a)) ∧ ∀ a, (a < y ∨ y + 13 ≤ a) → τ.2 a = h0 a)) := by
  have hbase := hS.base
  have hhz := hg.hz
  have htr := hg.tr
  have hct := hg.ct
  refine Ct.of rfl hl (by simp [Value.category]) (Nat.le_of_ble_eq_true rfl) (fun K C E hRm hKl => ?_)
  subst hKl
  refine v_aload_n C dX8_isRefused_0 rfl ?_
  refine v_aload_n C dX8_isRefused_1 rfl ?_
  refine v_iload_n C dX8_isRefused_2 rfl ?_
  refine v_callVi C (c_X8_isTrader hl hS hg i) dX8_isRefused_3 mX8_isTrader rfl hS.o rfl wd7_105 rfl rfl (Nat.le_of_ble_eq_true rfl) (hp_rmle hRm (by decide) (by decide)) (Nat.le_of_ble_eq_true rfl) (Nat.le_of_ble_eq_true rfl) ?_
  refine v_if_neB (tgt := 13) C dX8_isRefused_6 (by decide) (fun c6 => ?_) (fun c6 => ?_)
  · obtain ⟨j, hj, hij⟩ := hp_num_j c6 (by omega)
    have ed : i.toNatClampNeg = j := by rw [hij]; exact nI_clamp (by omega)
    refine v_iload_n C dX8_isRefused_13 rfl ?_
    refine v_iconst (v := nI 1) C dX8_isRefused_14 (by decide) ?_
    refine v_sipush (v := nI 9999) C dX8_isRefused_15 (by decide) ?_
    refine v_callSi C (c_X8_in hl a (nI 1) (nI 9999)) dX8_isRefused_18 mX8_in wd7_79 rfl rfl (Nat.le_of_ble_eq_true rfl) (hp_rmle hRm (by decide) (by decide)) (Nat.le_of_ble_eq_true rfl) (Nat.le_of_ble_eq_true rfl) ?_
    refine v_if_neB (tgt := 28) C dX8_isRefused_21 (by decide) (fun c21 => ?_) (fun c21 => ?_)
    · refine v_aload_n C dX8_isRefused_28 rfl ?_
      refine v_iload_n C dX8_isRefused_29 rfl ?_
      refine v_iconst (v := nI 2) C dX8_isRefused_30 (by decide) ?_
      rw [hij]
      refine v_callVi C (c_X8_of hl hS (i := j) (k := 2) (by omega) (by decide)) dX8_isRefused_31 mX8_of rfl hS.o rfl wd7_117 rfl rfl (Nat.le_of_ble_eq_true rfl) (hp_rmle hRm (by decide) (by decide)) (Nat.le_of_ble_eq_true rfl) (Nat.le_of_ble_eq_true rfl) ?_
      rw [hg.of2 hj, ← ed]
      refine v_iconst (v := nI 1) C dX8_isRefused_34 (by decide) ?_
      refine v_icmp_ne (tgt := 42) C dX8_isRefused_35 (by decide) (fun c35 => ?_) (fun c35 => ?_)
      · have ev : mk_fB M i a = nI 0 := by unfold mk_fB; rw [if_neg (fun z => z c6), if_neg (fun z => z c21), if_neg (fun z => c35 (hp_b_1.mpr z))]
        refine v_iconst (v := nI 0) C dX8_isRefused_42 (by decide) ?_
        refine v_callVq C (c_X8_fails hl hS (nI 0)) dX8_isRefused_43 mX8_fails rfl hS.o rfl wd7_82 rfl rfl (Nat.le_of_ble_eq_true rfl) (hp_rmle hRm (by decide) (by decide)) (Nat.le_of_ble_eq_true rfl) (Nat.le_of_ble_eq_true rfl) (fun r43 n43 h43 q43 => ?_)
        obtain ⟨e43, k43, Y43, W43⟩ := q43
        have z43 := Eq.symm k43
        have z43 : n0 = n43 := z43
        subst z43
        subst e43
        exact v_zret C E dX8_isRefused_46 rfl (hp_nb _) ⟨_, rfl, by rw [ev], rfl, by rw [ev]; exact Y43, W43⟩
      · have ev : mk_fB M i a = nI 3 := by unfold mk_fB; rw [if_neg (fun z => z c6), if_neg (fun z => z c21), if_pos (hp_b_1.mp c35)]
        refine v_iconst (v := nI 3) C dX8_isRefused_38 (by decide) ?_
        refine v_goto (tgt := 43) C dX8_isRefused_39 (by decide) ?_
        refine v_callVq C (c_X8_fails hl hS (nI 3)) dX8_isRefused_43 mX8_fails rfl hS.o rfl wd7_82 rfl rfl (Nat.le_of_ble_eq_true rfl) (hp_rmle hRm (by decide) (by decide)) (Nat.le_of_ble_eq_true rfl) (Nat.le_of_ble_eq_true rfl) (fun r43 n43 h43 q43 => ?_)
        obtain ⟨e43, k43, Y43, W43⟩ := q43
        have z43 := Eq.symm k43
        have z43 : n0 = n43 := z43
        subst z43
        subst e43
        exact v_zret C E dX8_isRefused_46 rfl (hp_nb _) ⟨_, rfl, by rw [ev], rfl, by rw [ev]; exact Y43, W43⟩
    · have ev : mk_fB M i a = nI 2 := by unfold mk_fB; rw [if_neg (fun z => z c6), if_pos c21]
      refine v_iconst (v := nI 2) C dX8_isRefused_24 (by decide) ?_
      refine v_goto (tgt := 43) C dX8_isRefused_25 (by decide) ?_
      refine v_callVq C (c_X8_fails hl hS (nI 2)) dX8_isRefused_43 mX8_fails rfl hS.o rfl wd7_82 rfl rfl (Nat.le_of_ble_eq_true rfl) (hp_rmle hRm (by decide) (by decide)) (Nat.le_of_ble_eq_true rfl) (Nat.le_of_ble_eq_true rfl) (fun r43 n43 h43 q43 => ?_)
      obtain ⟨e43, k43, Y43, W43⟩ := q43
      have z43 := Eq.symm k43
      have z43 : n0 = n43 := z43
      subst z43
      subst e43
      exact v_zret C E dX8_isRefused_46 rfl (hp_nb _) ⟨_, rfl, by rw [ev], rfl, by rw [ev]; exact Y43, W43⟩
  · have ev : mk_fB M i a = nI 1 := if_pos c6
    refine v_iconst (v := nI 1) C dX8_isRefused_9 (by decide) ?_
    refine v_goto (tgt := 43) C dX8_isRefused_10 (by decide) ?_
    refine v_callVq C (c_X8_fails hl hS (nI 1)) dX8_isRefused_43 mX8_fails rfl hS.o rfl wd7_82 rfl rfl (Nat.le_of_ble_eq_true rfl) (hp_rmle hRm (by decide) (by decide)) (Nat.le_of_ble_eq_true rfl) (Nat.le_of_ble_eq_true rfl) (fun r43 n43 h43 q43 => ?_)
    obtain ⟨e43, k43, Y43, W43⟩ := q43
    have z43 := Eq.symm k43
    have z43 : n0 = n43 := z43
    subst z43
    subst e43
    exact v_zret C E dX8_isRefused_46 rfl (hp_nb _) ⟨_, rfl, by rw [ev], rfl, by rw [ev]; exact Y43, W43⟩
set_option maxHeartbeats 8000000 in
/-- deposit -/
theorem c_X8_deposit {G : hp_G} {l : Launch} (hl : l.stackTraces = false) {n0 : Nat} {h0 : Nat → Option va_E} {y : Nat} {S : mo_T} (hS : Mo G h0 y S) {M : mk_T} (hg : Gr (S.1 0) M) {ch : Nat} (hch : S.2 1 = nI ch) (h8 : ch ≤ 8) (i a : Int32) (hin : mk_fB M i a = nI 0 → (S.1 0 136 + a).toInt64 = M.2.2.2.1 + a.toInt64) : Ct G l yX8_deposit cX8_deposit 3 (some .int) 3 0 0 [.ref y, .int i, .int a] (n0, h0) (hp_iq (fun r τ => r = (if mk_fB M i a = nI 0 then mk_ar (mk_bri M i.toNatClampNeg a) 3 i.toNatClampNeg else nI 0) ∧ τ.1 = n0 ∧ (∃ S2, Mo G τ.2 y S2 ∧ mo_aft S (mk_fB M i a) ch (mk_bri M i.toNatClampNeg a) S2) ∧ ∀ a, (a < y ∨ y + 13 ≤ a) → τ.2 a = h0 a)) := by
  have hbase := hS.base
  have hhz := hg.hz
  have htr := hg.tr
  have hct := hg.ct
  refine Ct.of rfl hl (by simp [Value.category]) (Nat.le_of_ble_eq_true rfl) (fun K C E hRm hKl => ?_)
  subst hKl
  refine v_aload_n C dX8_deposit_0 rfl ?_
  refine v_iload_n C dX8_deposit_1 rfl ?_
  refine v_iload_n C dX8_deposit_2 rfl ?_
  refine v_callVq C (c_X8_isRefused hl hS hg i a) dX8_deposit_3 mX8_isRefused rfl hS.o rfl wd7_196 rfl rfl (Nat.le_of_ble_eq_true rfl) (hp_rmle hRm (by decide) (by decide)) (Nat.le_of_ble_eq_true rfl) (Nat.le_of_ble_eq_true rfl) (fun r3 n3 h3 q3 => ?_)
  obtain ⟨e3, k3, Y3, W3⟩ := q3
  have z3 := Eq.symm k3
  have z3 : n0 = n3 := z3
  subst z3
  subst e3
  refine v_if_eqB (tgt := 11) C dX8_deposit_6 (by decide) (fun c6 => ?_) (fun c6 => ?_)
  · have hz := fB_z.mp c6
    have hnum := (mk_fB_0 hz).1
    obtain ⟨j, hj, hij⟩ := hp_num_j hnum (by omega)
    have ed : i.toNatClampNeg = j := by rw [hij]; exact nI_clamp (by omega)
    rw [hz] at Y3
    refine v_aload_n C dX8_deposit_11 rfl ?_
    refine v_aload_n C dX8_deposit_12 rfl ?_
    refine v_get C 0 dX8_deposit_13 wd6_237 Y3.o rfl (by decide) ⟨rfl, rfl, rfl⟩ rfl ?_
    refine v_callVv C (c_X8_keeps0 hl Y3 (ch := ch) hch h8) dX8_deposit_16 mX8_keeps rfl Y3.o rfl wd7_86 rfl rfl (Nat.le_of_ble_eq_true rfl) (hp_rmle hRm (by decide) (by decide)) (Nat.le_of_ble_eq_true rfl) (Nat.le_of_ble_eq_true rfl) (fun n16 h16 q16 => ?_)
    obtain ⟨k16, Y16, W16⟩ := q16
    have z16 := Eq.symm k16
    have z16 : n0 = n16 := z16
    subst z16
    have W16 : ∀ a, (a < y ∨ y + 13 ≤ a) → h16 a = _ := fun a ha => (W16 a ha).trans (W3 a ha)
    have X16 : Mo G h16 y (mo_sg (mo_kp (mo_si S 3 (nI 0)) 0 ch) (S.1 0)) := Y16.to (mo_sg_eq (mo_kp_g _ _ _))
    refine v_aload_n C dX8_deposit_19 rfl ?_
    refine v_iload_n C dX8_deposit_20 rfl ?_
    refine v_iconst (v := nI 0) C dX8_deposit_21 (by decide) ?_
    refine v_aload_n C dX8_deposit_22 rfl ?_
    refine v_iload_n C dX8_deposit_23 rfl ?_
    refine v_iconst (v := nI 0) C dX8_deposit_24 (by decide) ?_
    rw [hij]
    refine v_callVi C (c_X8_of hl X16 (i := j) (k := 0) (by omega) (by decide)) dX8_deposit_25 mX8_of rfl X16.o rfl wd7_117 rfl rfl (Nat.le_of_ble_eq_true rfl) (hp_rmle hRm (by decide) (by decide)) (Nat.le_of_ble_eq_true rfl) (Nat.le_of_ble_eq_true rfl) ?_
    rw [show (mo_sg (mo_kp (mo_si S 3 (nI 0)) 0 ch) (S.1 0)).1 0 = S.1 0 from rfl, hg.of0 hj]
    refine v_iload_n C dX8_deposit_28 rfl ?_
    refine v_iadd C dX8_deposit_29 ?_
    refine v_callVv C (c_X8_lays hl X16 (i := j) (k := 0) (by omega) (by decide) _) dX8_deposit_30 mX8_lays rfl X16.o rfl wd7_97 rfl rfl (Nat.le_of_ble_eq_true rfl) (hp_rmle hRm (by decide) (by decide)) (Nat.le_of_ble_eq_true rfl) (Nat.le_of_ble_eq_true rfl) (fun n30 h30 q30 => ?_)
    obtain ⟨k30, Y30, W30⟩ := q30
    have z30 := Eq.symm k30
    have z30 : n0 = n30 := z30
    subst z30
    have W30 : ∀ a, (a < y ∨ y + 13 ≤ a) → h30 a = _ := fun a ha => (W30 a ha).trans (W16 a ha)
    have X30 := Y30.to mo_sg_sa
    have G30 := hg.u3 hj (mk_ar M 3 j + a)
    refine v_aload_n C dX8_deposit_33 rfl ?_
    refine v_get C 0 dX8_deposit_34 wd6_237 X30.o rfl (by decide) ⟨rfl, rfl, rfl⟩ rfl ?_
    refine v_sipush (v := nI 136) C dX8_deposit_37 (by decide) ?_
    refine v_dup2 C dX8_deposit_40 rfl rfl ?_
    refine v_ialdN C dX8_deposit_41 X30.a0 (by omega) (by decide) ?_
    rw [mo_sg_0, pk_un (show (136 : Nat) ≠ 18 + 3 * j + 0 by omega)]
    refine v_iload_n C dX8_deposit_42 rfl ?_
    refine v_iadd C dX8_deposit_43 ?_
    refine v_iastN C dX8_deposit_44 (by omega) X30.a0 (by omega) (by decide) (fun h44 e44 g44 => ?_)
    have Y44 := X30.s0 e44 g44
    have W44 : ∀ a, (a < y ∨ y + 13 ≤ a) → h44 a = _ := fun a ha => (g44 a (by omega)).trans (W30 a ha)
    have X44 := Y44.to mo_sg_sa
    have G44 := G30.uin (v := S.1 0 136 + a) (x := M.2.2.2.1 + a.toInt64) (hin hz)
    refine v_aload_n C dX8_deposit_45 rfl ?_
    refine v_iload_n C dX8_deposit_46 rfl ?_
    refine v_iconst (v := nI 0) C dX8_deposit_47 (by decide) ?_
    refine v_callVi C (c_X8_of hl X44 (i := j) (k := 0) (by omega) (by decide)) dX8_deposit_48 mX8_of rfl X44.o rfl wd7_117 rfl rfl (Nat.le_of_ble_eq_true rfl) (hp_rmle hRm (by decide) (by decide)) (Nat.le_of_ble_eq_true rfl) (Nat.le_of_ble_eq_true rfl) ?_
    rw [mo_sg_0, G44.of0 hj]
    exact v_iret C E dX8_deposit_51 rfl ⟨_, rfl, by rw [if_pos hz, ed], rfl, ⟨_, X44, Or.inl ⟨hz, _, by rw [ed]; exact G44, rfl⟩⟩, W44⟩
  · refine v_iconst (v := nI 0) C dX8_deposit_9 (by decide) ?_
    exact v_iret C E dX8_deposit_10 rfl ⟨_, rfl, (if_neg (fun z => fB_z.mpr z c6)).symm, rfl, ⟨_, Y3, Or.inr ⟨fun z => fB_z.mpr z c6, rfl⟩⟩, W3⟩
/-- what is wrong with taking money, as the model sees it -/
def mo_fK (M : mk_T) (t a : Int32) : Int32 := if ¬ mk_fB M t a = nI 0 then mk_fB M t a else if mk_ar M 3 t.toNatClampNeg - a < mo_mg M t (mk_hz M) then nI 4 else nI 0
theorem fK_z {M : mk_T} {t a : Int32} (h : mo_fK M t a = nI 0) : mk_fB M t a = nI 0 := by
  unfold mo_fK at h
  split at h
  · exact h
  · rename_i z
    exact Decidable.not_not.mp z
set_option maxHeartbeats 8000000 in
/-- withdraw -/
theorem c_X8_withdraw {G : hp_G} {l : Launch} (hl : l.stackTraces = false) {n0 : Nat} {h0 : Nat → Option va_E} {y : Nat} {S : mo_T} (hS : Mo G h0 y S) {M : mk_T} (hg : Gr (S.1 0) M) {ch : Nat} (hch : S.2 1 = nI ch) (h8 : ch ≤ 8) (i a : Int32) (hin : mo_fK M i a = nI 0 → (S.1 0 137 + a).toInt64 = M.2.2.2.2 + a.toInt64) : Ct G l yX8_withdraw cX8_withdraw 3 (some .int) 4 0 0 [.ref y, .int i, .int a] (n0, h0) (hp_iq (fun r τ => r = (if mo_fK M i a = nI 0 then mk_ar (mk_tak M i.toNatClampNeg a) 3 i.toNatClampNeg else nI 0) ∧ τ.1 = n0 ∧ (∃ S2, Mo G τ.2 y S2 ∧ mo_aft S (mo_fK M i a) ch (mk_tak M i.toNatClampNeg a) S2) ∧ ∀ a, (a < y ∨ y + 13 ≤ a) → τ.2 a = h0 a)) := by
  have hbase := hS.base
  have hhz := hg.hz
  have htr := hg.tr
  have hct := hg.ct
  refine Ct.of rfl hl (by simp [Value.category]) (Nat.le_of_ble_eq_true rfl) (fun K C E hRm hKl => ?_)
  subst hKl
  refine v_aload_n C dX8_withdraw_0 rfl ?_
  refine v_iload_n C dX8_withdraw_1 rfl ?_
  refine v_iload_n C dX8_withdraw_2 rfl ?_
  refine v_callVq C (c_X8_isRefused hl hS hg i a) dX8_withdraw_3 mX8_isRefused rfl hS.o rfl wd7_196 rfl rfl (Nat.le_of_ble_eq_true rfl) (hp_rmle hRm (by decide) (by decide)) (Nat.le_of_ble_eq_true rfl) (Nat.le_of_ble_eq_true rfl) (fun r3 n3 h3 q3 => ?_)
  obtain ⟨e3, k3, Y3, W3⟩ := q3
  have z3 := Eq.symm k3
  have z3 : n0 = n3 := z3
  subst z3
  subst e3
  refine v_if_neB (tgt := 30) C dX8_withdraw_6 (by decide) (fun c6 => ?_) (fun c6 => ?_)
  · have hnb : ¬ mk_fB M i a = nI 0 := fun z => fB_z.mpr z c6
    have ev : mo_fK M i a = mk_fB M i a := if_pos hnb
    have hnz : ¬ mo_fK M i a = nI 0 := by rw [ev]; exact hnb
    refine v_iconst (v := nI 0) C dX8_withdraw_30 (by decide) ?_
    exact v_iret C E dX8_withdraw_31 rfl ⟨_, rfl, (if_neg (fun z => hnz z)).symm, rfl, ⟨_, Y3, Or.inr ⟨hnz, by rw [ev]⟩⟩, W3⟩
  · have hb := fB_z.mp c6
    obtain ⟨j, hj, hij⟩ := hp_num_j (mk_fB_0 hb).1 (by omega)
    have ed : i.toNatClampNeg = j := by rw [hij]; exact nI_clamp (by omega)
    rw [hb] at Y3
    refine v_aload_n C dX8_withdraw_9 rfl ?_
    refine v_aload_n C dX8_withdraw_10 rfl ?_
    refine v_iload_n C dX8_withdraw_11 rfl ?_
    refine v_iload_n C dX8_withdraw_12 rfl ?_
    rw [hij]
    refine v_callVi C (c_X8_isShort hl Y3 hg (t := j) (by omega) a) dX8_withdraw_13 mX8_isShort rfl Y3.o rfl wd7_129 rfl rfl (Nat.le_of_ble_eq_true rfl) (hp_rmle hRm (by decide) (by decide)) (Nat.le_of_ble_eq_true rfl) (Nat.le_of_ble_eq_true rfl) ?_
    rw [← hij]
    refine v_if_eqB (tgt := 23) C dX8_withdraw_16 (by decide) (fun c16 => ?_) (fun c16 => ?_)
    · have ev : mo_fK M i a = nI 0 := by unfold mo_fK; rw [if_neg (fun z => z hb), if_neg (by rw [ed]; exact c16)]
      refine v_iconst (v := nI 0) C dX8_withdraw_23 (by decide) ?_
      refine v_callVq C (c_X8_fails hl Y3 (nI 0)) dX8_withdraw_24 mX8_fails rfl Y3.o rfl wd7_82 rfl rfl (Nat.le_of_ble_eq_true rfl) (hp_rmle hRm (by decide) (by decide)) (Nat.le_of_ble_eq_true rfl) (Nat.le_of_ble_eq_true rfl) (fun r24 n24 h24 q24 => ?_)
      obtain ⟨e24, k24, Y24, W24⟩ := q24
      have z24 := Eq.symm k24
      have z24 : n0 = n24 := z24
      subst z24
      subst e24
      have W24 : ∀ a, (a < y ∨ y + 13 ≤ a) → h24 a = _ := fun a ha => (W24 a ha).trans (W3 a ha)
      refine v_if_eqB (tgt := 32) C dX8_withdraw_27 (by decide) (fun c27 => ?_) (fun c27 => absurd c27 (by decide))
      refine v_aload_n C dX8_withdraw_32 rfl ?_
      refine v_aload_n C dX8_withdraw_33 rfl ?_
      refine v_get C 0 dX8_withdraw_34 wd6_237 Y24.o rfl (by decide) ⟨rfl, rfl, rfl⟩ rfl ?_
      have Z24 := Y24.to (S' := mo_si S 3 (nI 0)) (Prod.ext rfl (mo_uu _ _ _ _))
      refine v_callVv C (c_X8_keeps0 hl Z24 (ch := ch) hch h8) dX8_withdraw_37 mX8_keeps rfl Z24.o rfl wd7_86 rfl rfl (Nat.le_of_ble_eq_true rfl) (hp_rmle hRm (by decide) (by decide)) (Nat.le_of_ble_eq_true rfl) (Nat.le_of_ble_eq_true rfl) (fun n37 h37 q37 => ?_)
      obtain ⟨k37, Y37, W37⟩ := q37
      have z37 := Eq.symm k37
      have z37 : n0 = n37 := z37
      subst z37
      have W37 : ∀ a, (a < y ∨ y + 13 ≤ a) → h37 a = _ := fun a ha => (W37 a ha).trans (W24 a ha)
      have X37 : Mo G h37 y (mo_sg (mo_kp (mo_si S 3 (nI 0)) 0 ch) (S.1 0)) := Y37.to (mo_sg_eq (mo_kp_g _ _ _))
      refine v_aload_n C dX8_withdraw_40 rfl ?_
      refine v_iload_n C dX8_withdraw_41 rfl ?_
      refine v_iconst (v := nI 0) C dX8_withdraw_42 (by decide) ?_
      refine v_aload_n C dX8_withdraw_43 rfl ?_
      refine v_iload_n C dX8_withdraw_44 rfl ?_
      refine v_iconst (v := nI 0) C dX8_withdraw_45 (by decide) ?_
      rw [hij]
      refine v_callVi C (c_X8_of hl X37 (i := j) (k := 0) (by omega) (by decide)) dX8_withdraw_46 mX8_of rfl X37.o rfl wd7_117 rfl rfl (Nat.le_of_ble_eq_true rfl) (hp_rmle hRm (by decide) (by decide)) (Nat.le_of_ble_eq_true rfl) (Nat.le_of_ble_eq_true rfl) ?_
      rw [mo_sg_0, hg.of0 hj]
      refine v_iload_n C dX8_withdraw_49 rfl ?_
      refine v_isub C dX8_withdraw_50 ?_
      refine v_callVv C (c_X8_lays hl X37 (i := j) (k := 0) (by omega) (by decide) _) dX8_withdraw_51 mX8_lays rfl X37.o rfl wd7_97 rfl rfl (Nat.le_of_ble_eq_true rfl) (hp_rmle hRm (by decide) (by decide)) (Nat.le_of_ble_eq_true rfl) (Nat.le_of_ble_eq_true rfl) (fun n51 h51 q51 => ?_)
      obtain ⟨k51, Y51, W51⟩ := q51
      have z51 := Eq.symm k51
      have z51 : n0 = n51 := z51
      subst z51
      have W51 : ∀ a, (a < y ∨ y + 13 ≤ a) → h51 a = _ := fun a ha => (W51 a ha).trans (W37 a ha)
      have X51 := Y51.to mo_sg_sa
      have G51 := hg.u3 hj (mk_ar M 3 j - a)
      refine v_aload_n C dX8_withdraw_54 rfl ?_
      refine v_get C 0 dX8_withdraw_55 wd6_237 X51.o rfl (by decide) ⟨rfl, rfl, rfl⟩ rfl ?_
      refine v_sipush (v := nI 137) C dX8_withdraw_58 (by decide) ?_
      refine v_dup2 C dX8_withdraw_61 rfl rfl ?_
      refine v_ialdN C dX8_withdraw_62 X51.a0 (by omega) (by decide) ?_
      rw [mo_sg_0, pk_un (show (137 : Nat) ≠ 18 + 3 * j + 0 by omega)]
      refine v_iload_n C dX8_withdraw_63 rfl ?_
      refine v_iadd C dX8_withdraw_64 ?_
      refine v_iastN C dX8_withdraw_65 (by omega) X51.a0 (by omega) (by decide) (fun h65 e65 g65 => ?_)
      have Y65 := X51.s0 e65 g65
      have W65 : ∀ a, (a < y ∨ y + 13 ≤ a) → h65 a = _ := fun a ha => (g65 a (by omega)).trans (W51 a ha)
      have X65 := Y65.to mo_sg_sa
      have G65 := G51.uou (v := S.1 0 137 + a) (x := M.2.2.2.2 + a.toInt64) (hin ev)
      refine v_aload_n C dX8_withdraw_66 rfl ?_
      refine v_iload_n C dX8_withdraw_67 rfl ?_
      refine v_iconst (v := nI 0) C dX8_withdraw_68 (by decide) ?_
      refine v_callVi C (c_X8_of hl X65 (i := j) (k := 0) (by omega) (by decide)) dX8_withdraw_69 mX8_of rfl X65.o rfl wd7_117 rfl rfl (Nat.le_of_ble_eq_true rfl) (hp_rmle hRm (by decide) (by decide)) (Nat.le_of_ble_eq_true rfl) (Nat.le_of_ble_eq_true rfl) ?_
      rw [mo_sg_0, G65.of0 hj]
      exact v_iret C E dX8_withdraw_72 rfl ⟨_, rfl, by rw [if_pos ev, ed], rfl, ⟨_, X65, Or.inl ⟨ev, _, by rw [ed]; exact G65, rfl⟩⟩, W65⟩
    · have ev : mo_fK M i a = nI 4 := by unfold mo_fK; rw [if_neg (fun z => z hb), if_pos (by rw [ed]; exact c16)]
      have hnz : ¬ mo_fK M i a = nI 0 := by rw [ev]; decide
      refine v_iconst (v := nI 4) C dX8_withdraw_19 (by decide) ?_
      refine v_goto (tgt := 24) C dX8_withdraw_20 (by decide) ?_
      refine v_callVq C (c_X8_fails hl Y3 (nI 4)) dX8_withdraw_24 mX8_fails rfl Y3.o rfl wd7_82 rfl rfl (Nat.le_of_ble_eq_true rfl) (hp_rmle hRm (by decide) (by decide)) (Nat.le_of_ble_eq_true rfl) (Nat.le_of_ble_eq_true rfl) (fun r24 n24 h24 q24 => ?_)
      obtain ⟨e24, k24, Y24, W24⟩ := q24
      have z24 := Eq.symm k24
      have z24 : n0 = n24 := z24
      subst z24
      subst e24
      have W24 : ∀ a, (a < y ∨ y + 13 ≤ a) → h24 a = _ := fun a ha => (W24 a ha).trans (W3 a ha)
      refine v_if_eqB (tgt := 32) C dX8_withdraw_27 (by decide) (fun c27 => absurd c27 (fun z => z (by decide))) (fun c27 => ?_)
      refine v_iconst (v := nI 0) C dX8_withdraw_30 (by decide) ?_
      exact v_iret C E dX8_withdraw_31 rfl ⟨_, rfl, (if_neg (fun z => hnz z)).symm, rfl, ⟨mo_si S 3 (mo_fK M i a), Y24.to (by rw [ev]; exact Prod.ext rfl (mo_uu _ _ _ _)), Or.inr ⟨hnz, rfl⟩⟩, W24⟩
set_option maxHeartbeats 8000000 in
/-- contribute -/
theorem c_X8_contribute {G : hp_G} {l : Launch} (hl : l.stackTraces = false) {n0 : Nat} {h0 : Nat → Option va_E} {y : Nat} {S : mo_T} (hS : Mo G h0 y S) {M : mk_T} (hg : Gr (S.1 0) M) {ch : Nat} (hch : S.2 1 = nI ch) (h8 : ch ≤ 8) (i a : Int32)  : Ct G l yX8_contribute cX8_contribute 3 (some .int) 4 0 0 [.ref y, .int i, .int a] (n0, h0) (hp_iq (fun r τ => r = (if mo_fK M i a = nI 0 then mk_fu (mk_giv M i.toNatClampNeg a) else nI 0) ∧ τ.1 = n0 ∧ (∃ S2, Mo G τ.2 y S2 ∧ mo_aft S (mo_fK M i a) ch (mk_giv M i.toNatClampNeg a) S2) ∧ ∀ a, (a < y ∨ y + 13 ≤ a) → τ.2 a = h0 a)) := by
  have hbase := hS.base
  have hhz := hg.hz
  have htr := hg.tr
  have hct := hg.ct
  refine Ct.of rfl hl (by simp [Value.category]) (Nat.le_of_ble_eq_true rfl) (fun K C E hRm hKl => ?_)
  subst hKl
  refine v_aload_n C dX8_contribute_0 rfl ?_
  refine v_iload_n C dX8_contribute_1 rfl ?_
  refine v_iload_n C dX8_contribute_2 rfl ?_
  refine v_callVq C (c_X8_isRefused hl hS hg i a) dX8_contribute_3 mX8_isRefused rfl hS.o rfl wd7_196 rfl rfl (Nat.le_of_ble_eq_true rfl) (hp_rmle hRm (by decide) (by decide)) (Nat.le_of_ble_eq_true rfl) (Nat.le_of_ble_eq_true rfl) (fun r3 n3 h3 q3 => ?_)
  obtain ⟨e3, k3, Y3, W3⟩ := q3
  have z3 := Eq.symm k3
  have z3 : n0 = n3 := z3
  subst z3
  subst e3
  refine v_if_neB (tgt := 30) C dX8_contribute_6 (by decide) (fun c6 => ?_) (fun c6 => ?_)
  · have hnb : ¬ mk_fB M i a = nI 0 := fun z => fB_z.mpr z c6
    have ev : mo_fK M i a = mk_fB M i a := if_pos hnb
    have hnz : ¬ mo_fK M i a = nI 0 := by rw [ev]; exact hnb
    refine v_iconst (v := nI 0) C dX8_contribute_30 (by decide) ?_
    exact v_iret C E dX8_contribute_31 rfl ⟨_, rfl, (if_neg (fun z => hnz z)).symm, rfl, ⟨_, Y3, Or.inr ⟨hnz, by rw [ev]⟩⟩, W3⟩
  · have hb := fB_z.mp c6
    obtain ⟨j, hj, hij⟩ := hp_num_j (mk_fB_0 hb).1 (by omega)
    have ed : i.toNatClampNeg = j := by rw [hij]; exact nI_clamp (by omega)
    rw [hb] at Y3
    refine v_aload_n C dX8_contribute_9 rfl ?_
    refine v_aload_n C dX8_contribute_10 rfl ?_
    refine v_iload_n C dX8_contribute_11 rfl ?_
    refine v_iload_n C dX8_contribute_12 rfl ?_
    rw [hij]
    refine v_callVi C (c_X8_isShort hl Y3 hg (t := j) (by omega) a) dX8_contribute_13 mX8_isShort rfl Y3.o rfl wd7_129 rfl rfl (Nat.le_of_ble_eq_true rfl) (hp_rmle hRm (by decide) (by decide)) (Nat.le_of_ble_eq_true rfl) (Nat.le_of_ble_eq_true rfl) ?_
    rw [← hij]
    refine v_if_eqB (tgt := 23) C dX8_contribute_16 (by decide) (fun c16 => ?_) (fun c16 => ?_)
    · have ev : mo_fK M i a = nI 0 := by unfold mo_fK; rw [if_neg (fun z => z hb), if_neg (by rw [ed]; exact c16)]
      refine v_iconst (v := nI 0) C dX8_contribute_23 (by decide) ?_
      refine v_callVq C (c_X8_fails hl Y3 (nI 0)) dX8_contribute_24 mX8_fails rfl Y3.o rfl wd7_82 rfl rfl (Nat.le_of_ble_eq_true rfl) (hp_rmle hRm (by decide) (by decide)) (Nat.le_of_ble_eq_true rfl) (Nat.le_of_ble_eq_true rfl) (fun r24 n24 h24 q24 => ?_)
      obtain ⟨e24, k24, Y24, W24⟩ := q24
      have z24 := Eq.symm k24
      have z24 : n0 = n24 := z24
      subst z24
      subst e24
      have W24 : ∀ a, (a < y ∨ y + 13 ≤ a) → h24 a = _ := fun a ha => (W24 a ha).trans (W3 a ha)
      refine v_if_eqB (tgt := 32) C dX8_contribute_27 (by decide) (fun c27 => ?_) (fun c27 => absurd c27 (by decide))
      refine v_aload_n C dX8_contribute_32 rfl ?_
      refine v_aload_n C dX8_contribute_33 rfl ?_
      refine v_get C 0 dX8_contribute_34 wd6_237 Y24.o rfl (by decide) ⟨rfl, rfl, rfl⟩ rfl ?_
      have Z24 := Y24.to (S' := mo_si S 3 (nI 0)) (Prod.ext rfl (mo_uu _ _ _ _))
      refine v_callVv C (c_X8_keeps0 hl Z24 (ch := ch) hch h8) dX8_contribute_37 mX8_keeps rfl Z24.o rfl wd7_86 rfl rfl (Nat.le_of_ble_eq_true rfl) (hp_rmle hRm (by decide) (by decide)) (Nat.le_of_ble_eq_true rfl) (Nat.le_of_ble_eq_true rfl) (fun n37 h37 q37 => ?_)
      obtain ⟨k37, Y37, W37⟩ := q37
      have z37 := Eq.symm k37
      have z37 : n0 = n37 := z37
      subst z37
      have W37 : ∀ a, (a < y ∨ y + 13 ≤ a) → h37 a = _ := fun a ha => (W37 a ha).trans (W24 a ha)
      have X37 : Mo G h37 y (mo_sg (mo_kp (mo_si S 3 (nI 0)) 0 ch) (S.1 0)) := Y37.to (mo_sg_eq (mo_kp_g _ _ _))
      refine v_aload_n C dX8_contribute_40 rfl ?_
      refine v_iload_n C dX8_contribute_41 rfl ?_
      refine v_iconst (v := nI 0) C dX8_contribute_42 (by decide) ?_
      refine v_aload_n C dX8_contribute_43 rfl ?_
      refine v_iload_n C dX8_contribute_44 rfl ?_
      refine v_iconst (v := nI 0) C dX8_contribute_45 (by decide) ?_
      rw [hij]
      refine v_callVi C (c_X8_of hl X37 (i := j) (k := 0) (by omega) (by decide)) dX8_contribute_46 mX8_of rfl X37.o rfl wd7_117 rfl rfl (Nat.le_of_ble_eq_true rfl) (hp_rmle hRm (by decide) (by decide)) (Nat.le_of_ble_eq_true rfl) (Nat.le_of_ble_eq_true rfl) ?_
      rw [mo_sg_0, hg.of0 hj]
      refine v_iload_n C dX8_contribute_49 rfl ?_
      refine v_isub C dX8_contribute_50 ?_
      refine v_callVv C (c_X8_lays hl X37 (i := j) (k := 0) (by omega) (by decide) _) dX8_contribute_51 mX8_lays rfl X37.o rfl wd7_97 rfl rfl (Nat.le_of_ble_eq_true rfl) (hp_rmle hRm (by decide) (by decide)) (Nat.le_of_ble_eq_true rfl) (Nat.le_of_ble_eq_true rfl) (fun n51 h51 q51 => ?_)
      obtain ⟨k51, Y51, W51⟩ := q51
      have z51 := Eq.symm k51
      have z51 : n0 = n51 := z51
      subst z51
      have W51 : ∀ a, (a < y ∨ y + 13 ≤ a) → h51 a = _ := fun a ha => (W51 a ha).trans (W37 a ha)
      have X51 := Y51.to mo_sg_sa
      have G51 := hg.u3 hj (mk_ar M 3 j - a)
      refine v_aload_n C dX8_contribute_54 rfl ?_
      refine v_get C 0 dX8_contribute_55 wd6_237 X51.o rfl (by decide) ⟨rfl, rfl, rfl⟩ rfl ?_
      refine v_iconst (v := nI 4) C dX8_contribute_58 (by decide) ?_
      refine v_dup2 C dX8_contribute_59 rfl rfl ?_
      refine v_ialdN C dX8_contribute_60 X51.a0 (by omega) (by decide) ?_
      rw [mo_sg_0, G51.g4]
      refine v_iload_n C dX8_contribute_61 rfl ?_
      refine v_iadd C dX8_contribute_62 ?_
      refine v_iastN C dX8_contribute_63 (by omega) X51.a0 (by omega) (by decide) (fun h63 e63 g63 => ?_)
      have Y63 := X51.s0 e63 g63
      have W63 : ∀ a, (a < y ∨ y + 13 ≤ a) → h63 a = _ := fun a ha => (g63 a (by omega)).trans (W51 a ha)
      have X63 := Y63.to mo_sg_sa
      have G63 := G51.ufu (mk_fu M + a)
      refine v_aload_n C dX8_contribute_64 rfl ?_
      refine v_get C 0 dX8_contribute_65 wd6_237 X63.o rfl (by decide) ⟨rfl, rfl, rfl⟩ rfl ?_
      refine v_iconst (v := nI 4) C dX8_contribute_68 (by decide) ?_
      refine v_ialdN C dX8_contribute_69 X63.a0 (by omega) (by decide) ?_
      rw [mo_sg_0, G63.g4]
      exact v_iret C E dX8_contribute_70 rfl ⟨_, rfl, by rw [if_pos ev, ed], rfl, ⟨_, X63, Or.inl ⟨ev, _, by rw [ed]; exact G63, rfl⟩⟩, W63⟩
    · have ev : mo_fK M i a = nI 4 := by unfold mo_fK; rw [if_neg (fun z => z hb), if_pos (by rw [ed]; exact c16)]
      have hnz : ¬ mo_fK M i a = nI 0 := by rw [ev]; decide
      refine v_iconst (v := nI 4) C dX8_contribute_19 (by decide) ?_
      refine v_goto (tgt := 24) C dX8_contribute_20 (by decide) ?_
      refine v_callVq C (c_X8_fails hl Y3 (nI 4)) dX8_contribute_24 mX8_fails rfl Y3.o rfl wd7_82 rfl rfl (Nat.le_of_ble_eq_true rfl) (hp_rmle hRm (by decide) (by decide)) (Nat.le_of_ble_eq_true rfl) (Nat.le_of_ble_eq_true rfl) (fun r24 n24 h24 q24 => ?_)
      obtain ⟨e24, k24, Y24, W24⟩ := q24
      have z24 := Eq.symm k24
      have z24 : n0 = n24 := z24
      subst z24
      subst e24
      have W24 : ∀ a, (a < y ∨ y + 13 ≤ a) → h24 a = _ := fun a ha => (W24 a ha).trans (W3 a ha)
      refine v_if_eqB (tgt := 32) C dX8_contribute_27 (by decide) (fun c27 => absurd c27 (fun z => z (by decide))) (fun c27 => ?_)
      refine v_iconst (v := nI 0) C dX8_contribute_30 (by decide) ?_
      exact v_iret C E dX8_contribute_31 rfl ⟨_, rfl, (if_neg (fun z => hnz z)).symm, rfl, ⟨mo_si S 3 (mo_fK M i a), Y24.to (by rw [ev]; exact Prod.ext rfl (mo_uu _ _ _ _)), Or.inr ⟨hnz, rfl⟩⟩, W24⟩

/-! ===== THE MODEL: markets that say the same; what a modification leaves ===== -/
/-- two markets that say the same -/
def mk_q (M M' : mk_T) : Prop := M.1 = M'.1 ∧ M.2.2 = M'.2.2 ∧ (∀ k, k < 3 → ∀ i, i < mk_hz M → mk_ar M k i = mk_ar M' k i) ∧ (∀ k, 3 ≤ k → k < 5 → ∀ i, i < mk_tr M → mk_ar M k i = mk_ar M' k i) ∧ (∀ k, 5 ≤ k → k < 10 → ∀ i, i < mk_ct M → mk_ar M k i = mk_ar M' k i)
theorem mk_q.rf (M : mk_T) : mk_q M M := ⟨rfl, rfl, fun _ _ _ _ => rfl, fun _ _ _ _ _ => rfl, fun _ _ _ _ _ => rfl⟩
theorem Gr.q {g : Nat → Int32} {M M' : mk_T} (H : Gr g M) (Q : mk_q M M') : Gr g M' := by
  obtain ⟨⟨a0, a1, a2, a3, a4, a5, a6, a7⟩, b, c, d, e1, e2, e3⟩ := H
  obtain ⟨q1, q2, q3, q4, q5⟩ := Q
  have z0 : mk_hz M' = mk_hz M := congrArg (fun z => z.1) q1.symm
  have z1 : mk_tr M' = mk_tr M := congrArg (fun z => z.2.1) q1.symm
  have z2 : mk_ct M' = mk_ct M := congrArg (fun z => z.2.2) q1.symm
  refine ⟨⟨?_, ?_, ?_, ?_, ?_, ?_, ?_, ?_⟩, fun i hi k hk => ?_, fun t ht => ?_, fun c2 hc k hk => ?_, ?_, ?_, ?_⟩
  · rw [z0]
    exact a0
  · rw [z1]
    exact a1
  · rw [z2]
    exact a2
  · rw [← q2]
    exact a3
  · rw [← q2]
    exact a4
  · rw [← q2]
    exact a5
  · rw [← q2]
    exact a6
  · rw [← q2]
    exact a7
  · rw [← q3 k hk i (by omega)]
    exact b i (by omega) k hk
  · rw [← q4 3 (by decide) (by decide) t (by omega), ← q4 4 (by decide) (by decide) t (by omega)]
    exact c t (by omega)
  · rw [← q5 (5 + k) (by omega) (by omega) c2 (by omega)]
    exact d c2 (by omega) k hk
  · omega
  · omega
  · omega
/-- a contract that is placed and ends again leaves the same market -/
theorem mk_q_con (M : mk_T) (b s on q d : Int32) : mk_q (mk_rm (mk_con M b s on q d) (mk_ct M)) M := by
  have hlt : ∀ k i, i < mk_ct M ∨ k < 5 → mk_ar (mk_rm (mk_con M b s on q d) (mk_ct M)) k i = mk_ar M k i := fun k i h => by
    show mk_ar (mk_sh (mk_con M b s on q d) (mk_ct M) (mk_ct M + 1 - 1)) k i = _
    rw [mk_sh_ar, if_neg (by omega)]
    show mk_ar (mk_st (mk_st (mk_st (mk_st (mk_st M 5 (mk_ct M) b) 6 (mk_ct M) s) 7 (mk_ct M) on) 8 (mk_ct M) q) 9 (mk_ct M) (mk_dy M + d)) k i = _
    rw [mk_st_ar, mk_st_ar, mk_st_ar, mk_st_ar, mk_st_ar, if_neg (by omega), if_neg (by omega), if_neg (by omega), if_neg (by omega), if_neg (by omega)]
  have e1 : (mk_rm (mk_con M b s on q d) (mk_ct M)).1 = M.1 := by
    show (mk_hz M, mk_tr M, mk_ct M + 1 - 1) = M.1
    rw [Nat.add_sub_cancel]
  refine ⟨e1, rfl, fun k hk i _ => hlt k i (Or.inr (by omega)), fun k _ hk i _ => hlt k i (Or.inr hk), fun k _ hk i hi => hlt k i (Or.inl ?_)⟩
  have z2 : mk_ct (mk_rm (mk_con M b s on q d) (mk_ct M)) = mk_ct M := congrArg (fun z => z.2.2) e1
  omega
/-- the same but for the first row and what is worked with -/
def mo_wk (S S2 : mo_T) : Prop := (∀ k, k < 12 → ¬ (k = 0 ∨ (6 ≤ k ∧ k < 11)) → S2.1 k = S.1 k) ∧ ∀ k, k < 12 → ¬ (k = 3 ∨ k = 8 ∨ k = 9) → S2.2 k = S.2 k
theorem mo_wk.rf (S : mo_T) : mo_wk S S := ⟨fun _ _ _ => rfl, fun _ _ _ => rfl⟩
theorem mo_wk.tr {S S2 S3 : mo_T} (a : mo_wk S S2) (b : mo_wk S2 S3) : mo_wk S S3 := ⟨fun k h1 h2 => (b.1 k h1 h2).trans (a.1 k h1 h2), fun k h1 h2 => (b.2 k h1 h2).trans (a.2 k h1 h2)⟩
theorem mo_wk.si {S S2 : mo_T} (H : mo_wk S S2) {j : Nat} {v : Int32} (hj : j = 3 ∨ j = 8 ∨ j = 9) : mo_wk S (mo_si S2 j v) := ⟨H.1, fun k hk h2 => (pk_un (show k ≠ j from fun z => h2 (z ▸ hj))).trans (H.2 k hk h2)⟩
theorem mo_wk.s67 {S S2 : mo_T} (H : mo_wk S S2) {T B : Nat → Int32} : mo_wk S (mo_s67 S2 T B) := ⟨fun k hk h2 => (show (if k = 6 then _ else if k = 7 then _ else S2.1 k) = _ by rw [if_neg (by omega), if_neg (by omega)]; exact H.1 k hk h2), H.2⟩
theorem mo_wk.sg {S S2 : mo_T} (H : mo_wk S S2) {g : Nat → Int32} : mo_wk S (mo_sg S2 g) := ⟨fun k hk h2 => (show (if k = 0 then _ else S2.1 k) = _ by rw [if_neg (by omega)]; exact H.1 k hk h2), H.2⟩
theorem mo_wk.sr {S S2 : mo_T} (H : mo_wk S S2) {j : Nat} {T : Nat → Int32} (hj : j = 0 ∨ (6 ≤ j ∧ j < 11)) : mo_wk S (mo_sr S2 j T) := ⟨fun k hk h2 => (show (if k = j then _ else S2.1 k) = _ by rw [if_neg (fun z => h2 (by rw [z]; exact hj))]; exact H.1 k hk h2), H.2⟩
theorem mo_wk.sa {S S2 : mo_T} (H : mo_wk S S2) {j i : Nat} {v : Int32} (hj : j = 0 ∨ (6 ≤ j ∧ j < 11)) : mo_wk S (mo_sa S2 j i v) := ⟨fun k hk h2 => (show (if k = j then _ else S2.1 k) = _ by rw [if_neg (fun z => h2 (by rw [z]; exact hj))]; exact H.1 k hk h2), H.2⟩
theorem mo_wk.ls {S S2 : mo_T} (H : mo_wk S S2) {M : mk_T} {d : Nat} : mo_wk S (ls_S S2 M d) := by
  unfold ls_S
  split
  · exact (H.si (by decide)).si (by decide)
  · exact ((H.si (by decide)).si (by decide)).s67
/-- what a modification leaves: the row of a new market, one of the old one kept; or one of the old one; the number of the claim -/
def mo_af (S : mo_T) (cd : Int32) (ch : Nat) (M M' : mk_T) (S' : mo_T) : Prop := S'.2 3 = cd ∧ ((cd = nI 0 ∧ Gr (S'.1 0) M' ∧ ∃ g1, Gr g1 M ∧ mo_wk (mo_kp (mo_si (mo_sg S g1) 3 (nI 0)) 0 ch) S') ∨ (¬ cd = nI 0 ∧ Gr (S'.1 0) M ∧ mo_wk S S'))
theorem mo_kp_3 (S : mo_T) (kf ch : Nat) : (mo_kp S kf ch).2 3 = nI 0 := by
  unfold mo_kp
  split
  · exact (show upd S.2 3 (nI 0) 3 = nI 0 from pk_us)
  · split
    · show upd (upd S.2 3 (nI 0)) 1 (nI 8) 3 = _
      rw [pk_un (by decide), pk_us]
    · show upd (upd S.2 3 (nI 0)) 1 (nI (ch + 1)) 3 = _
      rw [pk_un (by decide), pk_us]
theorem mo_sg_self (S : mo_T) : mo_sg S (S.1 0) = S := (mo_sg_eq rfl).symm
theorem mo_aft.up {S S' : mo_T} {cd : Int32} {ch : Nat} {M M' : mk_T} (hg : Gr (S.1 0) M) (H : mo_aft S cd ch M' S') : mo_af S cd ch M M' S' := by
  rcases H with ⟨h1, g', h2, h3⟩ | ⟨h1, h2⟩
  · subst h3
    refine ⟨(mo_kp_3 _ _ _).trans h1.symm, Or.inl ⟨h1, h2, S.1 0, hg, ?_⟩⟩
    rw [mo_sg_self]
    exact (mo_wk.rf _).sg
  · subst h2
    exact ⟨mo_si_3 _ _ _, Or.inr ⟨h1, hg, (mo_wk.rf S).si (Or.inl rfl)⟩⟩
def mo_fT (M : mk_T) (b s on q d : Int32) : Int32 := if ¬ hp_num b (mk_tr M) ∨ ¬ hp_num s (mk_tr M) ∨ ¬ hp_num on (mk_hz M) then nI 1 else if b = s ∨ ¬ hp_wi q (nI 1) (nI 20) ∨ ¬ hp_wi d (nI 1) (nI 9) then nI 2 else if mk_ct M = 20 ∨ ¬ mk_ar M 4 b.toNatClampNeg = nI 0 ∨ ¬ mk_ar M 4 s.toNatClampNeg = nI 0 then nI 3 else if mk_ar M 3 b.toNatClampNeg - nI 0 < mo_mg (mk_con M b s on q d) b (mk_hz M) ∨ mk_ar M 3 s.toNatClampNeg - nI 0 < mo_mg (mk_con M b s on q d) s (mk_hz M) then nI 4 else nI 0
set_option maxHeartbeats 8000000 in
/-- trade -/
theorem c_X8_trade {G : hp_G} {l : Launch} (hl : l.stackTraces = false) {n0 : Nat} {h0 : Nat → Option va_E} {y : Nat} {S : mo_T} (hS : Mo G h0 y S) {M : mk_T} (hg : Gr (S.1 0) M) {ch : Nat} (hch : S.2 1 = nI ch) (h8 : ch ≤ 8) (b s on q d : Int32) : Ct G l yX8_trade cX8_trade 8 (some .int) 4 0 0 [.ref y, .int b, .int s, .int on, .int q, .int d] (n0, h0) (hp_iq (fun r τ => r = (if mo_fT M b s on q d = nI 0 then nI (mk_ct M) else nI 0) ∧ τ.1 = n0 ∧ (∃ S2, Mo G τ.2 y S2 ∧ mo_af S (mo_fT M b s on q d) ch M (mk_con M b s on q d) S2) ∧ ∀ a, (a < y ∨ y + 13 ≤ a) → τ.2 a = h0 a)) := by
  have hbase := hS.base
  have hhz := hg.hz
  have htr := hg.tr
  have hct := hg.ct
  refine Ct.of rfl hl (by simp [Value.category]) (Nat.le_of_ble_eq_true rfl) (fun K C E hRm hKl => ?_)
  subst hKl
  refine v_aload_n C dX8_trade_0 rfl ?_
  refine v_aload_n C dX8_trade_1 rfl ?_
  refine v_iload_n C dX8_trade_2 rfl ?_
  refine v_callVi C (c_X8_isTrader hl hS hg b) dX8_trade_3 mX8_isTrader rfl hS.o rfl wd7_105 rfl rfl (Nat.le_of_ble_eq_true rfl) (hp_rmle hRm (by decide) (by decide)) (Nat.le_of_ble_eq_true rfl) (Nat.le_of_ble_eq_true rfl) ?_
  refine v_if_eqB (tgt := 25) C dX8_trade_6 (by decide) (fun c6 => ?_) (fun c6 => ?_)
  · have ev : mo_fT M b s on q d = nI 1 := if_pos (Or.inl c6)
    have hnz : ¬ mo_fT M b s on q d = nI 0 := by rw [ev]; decide
    refine v_iconst (v := nI 1) C dX8_trade_25 (by decide) ?_
    refine v_goto (tgt := 61) C dX8_trade_26 (by decide) ?_
    refine v_callVq C (c_X8_fails hl hS (nI 1)) dX8_trade_61 mX8_fails rfl hS.o rfl wd7_82 rfl rfl (Nat.le_of_ble_eq_true rfl) (hp_rmle hRm (by decide) (by decide)) (Nat.le_of_ble_eq_true rfl) (Nat.le_of_ble_eq_true rfl) (fun r61 n61 h61 q61 => ?_)
    obtain ⟨e61, k61, Y61, W61⟩ := q61
    have z61 := Eq.symm k61
    have z61 : n0 = n61 := z61
    subst z61
    subst e61
    refine v_if_eqB (tgt := 69) C dX8_trade_64 (by decide) (fun c64 => absurd c64 (fun z => z (by decide))) (fun c64 => ?_)
    refine v_iconst (v := nI 0) C dX8_trade_67 (by decide) ?_
    exact v_iret C E dX8_trade_68 rfl ⟨_, rfl, (if_neg hnz).symm, rfl, ⟨_, Y61, (show _ = mo_fT M b s on q d by rw [ev]; exact mo_si_3 _ _ _), Or.inr ⟨hnz, hg, (mo_wk.rf S).si (Or.inl rfl)⟩⟩, W61⟩
  · refine v_aload_n C dX8_trade_9 rfl ?_
    refine v_iload_n C dX8_trade_10 rfl ?_
    refine v_callVi C (c_X8_isTrader hl hS hg s) dX8_trade_11 mX8_isTrader rfl hS.o rfl wd7_105 rfl rfl (Nat.le_of_ble_eq_true rfl) (hp_rmle hRm (by decide) (by decide)) (Nat.le_of_ble_eq_true rfl) (Nat.le_of_ble_eq_true rfl) ?_
    refine v_if_eqB (tgt := 25) C dX8_trade_14 (by decide) (fun c14 => ?_) (fun c14 => ?_)
    · have ev : mo_fT M b s on q d = nI 1 := if_pos (Or.inr (Or.inl c14))
      have hnz : ¬ mo_fT M b s on q d = nI 0 := by rw [ev]; decide
      refine v_iconst (v := nI 1) C dX8_trade_25 (by decide) ?_
      refine v_goto (tgt := 61) C dX8_trade_26 (by decide) ?_
      refine v_callVq C (c_X8_fails hl hS (nI 1)) dX8_trade_61 mX8_fails rfl hS.o rfl wd7_82 rfl rfl (Nat.le_of_ble_eq_true rfl) (hp_rmle hRm (by decide) (by decide)) (Nat.le_of_ble_eq_true rfl) (Nat.le_of_ble_eq_true rfl) (fun r61 n61 h61 q61 => ?_)
      obtain ⟨e61, k61, Y61, W61⟩ := q61
      have z61 := Eq.symm k61
      have z61 : n0 = n61 := z61
      subst z61
      subst e61
      refine v_if_eqB (tgt := 69) C dX8_trade_64 (by decide) (fun c64 => absurd c64 (fun z => z (by decide))) (fun c64 => ?_)
      refine v_iconst (v := nI 0) C dX8_trade_67 (by decide) ?_
      exact v_iret C E dX8_trade_68 rfl ⟨_, rfl, (if_neg hnz).symm, rfl, ⟨_, Y61, (show _ = mo_fT M b s on q d by rw [ev]; exact mo_si_3 _ _ _), Or.inr ⟨hnz, hg, (mo_wk.rf S).si (Or.inl rfl)⟩⟩, W61⟩
    · refine v_aload_n C dX8_trade_17 rfl ?_
      refine v_iload_n C dX8_trade_18 rfl ?_
      refine v_callVi C (c_X8_isHorizon hl hS hg on) dX8_trade_19 mX8_isHorizon rfl hS.o rfl wd7_109 rfl rfl (Nat.le_of_ble_eq_true rfl) (hp_rmle hRm (by decide) (by decide)) (Nat.le_of_ble_eq_true rfl) (Nat.le_of_ble_eq_true rfl) ?_
      refine v_if_neB (tgt := 29) C dX8_trade_22 (by decide) (fun c22 => ?_) (fun c22 => ?_)
      · have hg1 : ¬ (¬ hp_num b (mk_tr M) ∨ ¬ hp_num s (mk_tr M) ∨ ¬ hp_num on (mk_hz M)) := fun z => z.elim (fun q => q c6) (fun z => z.elim (fun q => q c14) (fun q => q c22))
        refine v_iload_n C dX8_trade_29 rfl ?_
        refine v_iload_n C dX8_trade_30 rfl ?_
        refine v_icmp_eq (tgt := 56) C dX8_trade_31 (by decide) (fun c31 => ?_) (fun c31 => ?_)
        · have ev : mo_fT M b s on q d = nI 2 := (if_neg hg1).trans (if_pos (Or.inl c31))
          have hnz : ¬ mo_fT M b s on q d = nI 0 := by rw [ev]; decide
          refine v_iconst (v := nI 2) C dX8_trade_56 (by decide) ?_
          refine v_goto (tgt := 61) C dX8_trade_57 (by decide) ?_
          refine v_callVq C (c_X8_fails hl hS (nI 2)) dX8_trade_61 mX8_fails rfl hS.o rfl wd7_82 rfl rfl (Nat.le_of_ble_eq_true rfl) (hp_rmle hRm (by decide) (by decide)) (Nat.le_of_ble_eq_true rfl) (Nat.le_of_ble_eq_true rfl) (fun r61 n61 h61 q61 => ?_)
          obtain ⟨e61, k61, Y61, W61⟩ := q61
          have z61 := Eq.symm k61
          have z61 : n0 = n61 := z61
          subst z61
          subst e61
          refine v_if_eqB (tgt := 69) C dX8_trade_64 (by decide) (fun c64 => absurd c64 (fun z => z (by decide))) (fun c64 => ?_)
          refine v_iconst (v := nI 0) C dX8_trade_67 (by decide) ?_
          exact v_iret C E dX8_trade_68 rfl ⟨_, rfl, (if_neg hnz).symm, rfl, ⟨_, Y61, (show _ = mo_fT M b s on q d by rw [ev]; exact mo_si_3 _ _ _), Or.inr ⟨hnz, hg, (mo_wk.rf S).si (Or.inl rfl)⟩⟩, W61⟩
        · refine v_iload C dX8_trade_34 rfl ?_
          refine v_iconst (v := nI 1) C dX8_trade_36 (by decide) ?_
          refine v_bipush (v := nI 20) C dX8_trade_37 (by decide) ?_
          refine v_callSi C (c_X8_in hl q (nI 1) (nI 20)) dX8_trade_39 mX8_in wd7_79 rfl rfl (Nat.le_of_ble_eq_true rfl) (hp_rmle hRm (by decide) (by decide)) (Nat.le_of_ble_eq_true rfl) (Nat.le_of_ble_eq_true rfl) ?_
          refine v_if_eqB (tgt := 56) C dX8_trade_42 (by decide) (fun c42 => ?_) (fun c42 => ?_)
          · have ev : mo_fT M b s on q d = nI 2 := (if_neg hg1).trans (if_pos (Or.inr (Or.inl c42)))
            have hnz : ¬ mo_fT M b s on q d = nI 0 := by rw [ev]; decide
            refine v_iconst (v := nI 2) C dX8_trade_56 (by decide) ?_
            refine v_goto (tgt := 61) C dX8_trade_57 (by decide) ?_
            refine v_callVq C (c_X8_fails hl hS (nI 2)) dX8_trade_61 mX8_fails rfl hS.o rfl wd7_82 rfl rfl (Nat.le_of_ble_eq_true rfl) (hp_rmle hRm (by decide) (by decide)) (Nat.le_of_ble_eq_true rfl) (Nat.le_of_ble_eq_true rfl) (fun r61 n61 h61 q61 => ?_)
            obtain ⟨e61, k61, Y61, W61⟩ := q61
            have z61 := Eq.symm k61
            have z61 : n0 = n61 := z61
            subst z61
            subst e61
            refine v_if_eqB (tgt := 69) C dX8_trade_64 (by decide) (fun c64 => absurd c64 (fun z => z (by decide))) (fun c64 => ?_)
            refine v_iconst (v := nI 0) C dX8_trade_67 (by decide) ?_
            exact v_iret C E dX8_trade_68 rfl ⟨_, rfl, (if_neg hnz).symm, rfl, ⟨_, Y61, (show _ = mo_fT M b s on q d by rw [ev]; exact mo_si_3 _ _ _), Or.inr ⟨hnz, hg, (mo_wk.rf S).si (Or.inl rfl)⟩⟩, W61⟩
          · refine v_iload C dX8_trade_45 rfl ?_
            refine v_iconst (v := nI 1) C dX8_trade_47 (by decide) ?_
            refine v_bipush (v := nI 9) C dX8_trade_48 (by decide) ?_
            refine v_callSi C (c_X8_in hl d (nI 1) (nI 9)) dX8_trade_50 mX8_in wd7_79 rfl rfl (Nat.le_of_ble_eq_true rfl) (hp_rmle hRm (by decide) (by decide)) (Nat.le_of_ble_eq_true rfl) (Nat.le_of_ble_eq_true rfl) ?_
            refine v_if_neB (tgt := 60) C dX8_trade_53 (by decide) (fun c53 => ?_) (fun c53 => ?_)
            · have hg2 : ¬ (b = s ∨ ¬ hp_wi q (nI 1) (nI 20) ∨ ¬ hp_wi d (nI 1) (nI 9)) := fun z => z.elim c31 (fun z => z.elim (fun q => q c42) (fun q => q c53))
              obtain ⟨jb, hjb, ejb⟩ := hp_num_j c6 (by omega)
              have djb : b.toNatClampNeg = jb := by rw [ejb]; exact nI_clamp (by omega)
              obtain ⟨js, hjs, ejs⟩ := hp_num_j c14 (by omega)
              have djs : s.toNatClampNeg = js := by rw [ejs]; exact nI_clamp (by omega)
              obtain ⟨jo, hjo, ejo⟩ := hp_num_j c22 (by omega)
              have djo : on.toNatClampNeg = jo := by rw [ejo]; exact nI_clamp (by omega)
              refine v_iconst (v := nI 0) C dX8_trade_60 (by decide) ?_
              refine v_callVq C (c_X8_fails hl hS (nI 0)) dX8_trade_61 mX8_fails rfl hS.o rfl wd7_82 rfl rfl (Nat.le_of_ble_eq_true rfl) (hp_rmle hRm (by decide) (by decide)) (Nat.le_of_ble_eq_true rfl) (Nat.le_of_ble_eq_true rfl) (fun r61 n61 h61 q61 => ?_)
              obtain ⟨e61, k61, Y61, W61⟩ := q61
              have z61 := Eq.symm k61
              have z61 : n0 = n61 := z61
              subst z61
              subst e61
              refine v_if_eqB (tgt := 69) C dX8_trade_64 (by decide) (fun c64 => ?_) (fun c64 => absurd c64 (by decide))
              refine v_aload_n C dX8_trade_69 rfl ?_
              refine v_aload_n C dX8_trade_70 rfl ?_
              refine v_get C 0 dX8_trade_71 wd6_237 Y61.o rfl (by decide) ⟨rfl, rfl, rfl⟩ rfl ?_
              refine v_iconst (v := nI 2) C dX8_trade_74 (by decide) ?_
              refine v_ialdN C dX8_trade_75 Y61.a0 (by omega) (by decide) ?_
              rw [show (mo_si S 3 (nI 0)).1 0 = S.1 0 from rfl, hg.g2]
              refine v_bipush (v := nI 20) C dX8_trade_76 (by decide) ?_
              refine v_icmp_eqN (tgt := 97) C dX8_trade_78 (by decide) (by omega) (by omega) (fun c78 => ?_) (fun c78 => ?_)
              · have ev : mo_fT M b s on q d = nI 3 := (if_neg hg1).trans ((if_neg hg2).trans (if_pos (Or.inl c78)))
                have hnz : ¬ mo_fT M b s on q d = nI 0 := by rw [ev]; decide
                refine v_iconst (v := nI 3) C dX8_trade_97 (by decide) ?_
                refine v_goto (tgt := 102) C dX8_trade_98 (by decide) ?_
                refine v_callVq C (c_X8_fails hl Y61 (nI 3)) dX8_trade_102 mX8_fails rfl Y61.o rfl wd7_82 rfl rfl (Nat.le_of_ble_eq_true rfl) (hp_rmle hRm (by decide) (by decide)) (Nat.le_of_ble_eq_true rfl) (Nat.le_of_ble_eq_true rfl) (fun r102 n102 h102 q102 => ?_)
                obtain ⟨e102, k102, Y102, W102⟩ := q102
                have z102 := Eq.symm k102
                have z102 : n0 = n102 := z102
                subst z102
                subst e102
                have W102 : ∀ a, (a < y ∨ y + 13 ≤ a) → h102 a = _ := fun a ha => (W102 a ha).trans (W61 a ha)
                refine v_if_eqB (tgt := 110) C dX8_trade_105 (by decide) (fun c105 => absurd c105 (fun z => z (by decide))) (fun c105 => ?_)
                refine v_iconst (v := nI 0) C dX8_trade_108 (by decide) ?_
                exact v_iret C E dX8_trade_109 rfl ⟨_, rfl, (if_neg hnz).symm, rfl, ⟨_, Y102, (show _ = mo_fT M b s on q d by rw [ev]; exact mo_si_3 _ _ _), Or.inr ⟨hnz, hg, ((mo_wk.rf S).si (Or.inl rfl)).si (Or.inl rfl)⟩⟩, W102⟩
              · refine v_aload_n C dX8_trade_81 rfl ?_
                refine v_iload_n C dX8_trade_82 rfl ?_
                have cS83 := c_X8_isSound (n0 := n0) hl Y61 (M := M) hg (t := jb) hjb
                rw [← ejb, ← djb] at cS83
                refine v_callVi C cS83 dX8_trade_83 mX8_isSound rfl Y61.o rfl wd7_113 rfl rfl (Nat.le_of_ble_eq_true rfl) (hp_rmle hRm (by decide) (by decide)) (Nat.le_of_ble_eq_true rfl) (Nat.le_of_ble_eq_true rfl) ?_
                refine v_if_eqB (tgt := 97) C dX8_trade_86 (by decide) (fun c86 => ?_) (fun c86 => ?_)
                · have ev : mo_fT M b s on q d = nI 3 := (if_neg hg1).trans ((if_neg hg2).trans (if_pos (Or.inr (Or.inl c86))))
                  have hnz : ¬ mo_fT M b s on q d = nI 0 := by rw [ev]; decide
                  refine v_iconst (v := nI 3) C dX8_trade_97 (by decide) ?_
                  refine v_goto (tgt := 102) C dX8_trade_98 (by decide) ?_
                  refine v_callVq C (c_X8_fails hl Y61 (nI 3)) dX8_trade_102 mX8_fails rfl Y61.o rfl wd7_82 rfl rfl (Nat.le_of_ble_eq_true rfl) (hp_rmle hRm (by decide) (by decide)) (Nat.le_of_ble_eq_true rfl) (Nat.le_of_ble_eq_true rfl) (fun r102 n102 h102 q102 => ?_)
                  obtain ⟨e102, k102, Y102, W102⟩ := q102
                  have z102 := Eq.symm k102
                  have z102 : n0 = n102 := z102
                  subst z102
                  subst e102
                  have W102 : ∀ a, (a < y ∨ y + 13 ≤ a) → h102 a = _ := fun a ha => (W102 a ha).trans (W61 a ha)
                  refine v_if_eqB (tgt := 110) C dX8_trade_105 (by decide) (fun c105 => absurd c105 (fun z => z (by decide))) (fun c105 => ?_)
                  refine v_iconst (v := nI 0) C dX8_trade_108 (by decide) ?_
                  exact v_iret C E dX8_trade_109 rfl ⟨_, rfl, (if_neg hnz).symm, rfl, ⟨_, Y102, (show _ = mo_fT M b s on q d by rw [ev]; exact mo_si_3 _ _ _), Or.inr ⟨hnz, hg, ((mo_wk.rf S).si (Or.inl rfl)).si (Or.inl rfl)⟩⟩, W102⟩
                · refine v_aload_n C dX8_trade_89 rfl ?_
                  refine v_iload_n C dX8_trade_90 rfl ?_
                  have cS91 := c_X8_isSound (n0 := n0) hl Y61 (M := M) hg (t := js) hjs
                  rw [← ejs, ← djs] at cS91
                  refine v_callVi C cS91 dX8_trade_91 mX8_isSound rfl Y61.o rfl wd7_113 rfl rfl (Nat.le_of_ble_eq_true rfl) (hp_rmle hRm (by decide) (by decide)) (Nat.le_of_ble_eq_true rfl) (Nat.le_of_ble_eq_true rfl) ?_
                  refine v_if_neB (tgt := 101) C dX8_trade_94 (by decide) (fun c94 => ?_) (fun c94 => ?_)
                  · have hg3 : ¬ (mk_ct M = 20 ∨ ¬ mk_ar M 4 b.toNatClampNeg = nI 0 ∨ ¬ mk_ar M 4 s.toNatClampNeg = nI 0) := fun z => z.elim c78 (fun z => z.elim (fun q => q c86) (fun q => q c94))
                    have h20 : mk_ct M < 20 := by omega
                    refine v_iconst (v := nI 0) C dX8_trade_101 (by decide) ?_
                    refine v_callVq C (c_X8_fails hl Y61 (nI 0)) dX8_trade_102 mX8_fails rfl Y61.o rfl wd7_82 rfl rfl (Nat.le_of_ble_eq_true rfl) (hp_rmle hRm (by decide) (by decide)) (Nat.le_of_ble_eq_true rfl) (Nat.le_of_ble_eq_true rfl) (fun r102 n102 h102 q102 => ?_)
                    obtain ⟨e102, k102, Y102, W102⟩ := q102
                    have z102 := Eq.symm k102
                    have z102 : n0 = n102 := z102
                    subst z102
                    subst e102
                    have W102 : ∀ a, (a < y ∨ y + 13 ≤ a) → h102 a = _ := fun a ha => (W102 a ha).trans (W61 a ha)
                    refine v_if_eqB (tgt := 110) C dX8_trade_105 (by decide) (fun c105 => ?_) (fun c105 => absurd c105 (by decide))
                    refine v_aload_n C dX8_trade_110 rfl ?_
                    refine v_iload_n C dX8_trade_111 rfl ?_
                    refine v_iload_n C dX8_trade_112 rfl ?_
                    refine v_iload_n C dX8_trade_113 rfl ?_
                    refine v_iload C dX8_trade_114 rfl ?_
                    refine v_iload C dX8_trade_116 rfl ?_
                    have X102 := Y102.to (mo_sg_eq rfl)
                    refine v_callVq C (c_X8_places hl X102 hg h20 b s on q d) dX8_trade_118 mX8_places rfl X102.o rfl wd7_121 rfl rfl (Nat.le_of_ble_eq_true rfl) (hp_rmle hRm (by decide) (by decide)) (Nat.le_of_ble_eq_true rfl) (Nat.le_of_ble_eq_true rfl) (fun r118 n118 h118 q118 => ?_)
                    obtain ⟨e118, k118, ⟨g1, G1, Y118⟩, W118⟩ := q118
                    have z118 := Eq.symm k118
                    have z118 : n0 = n118 := z118
                    subst z118
                    subst e118
                    have W118 : ∀ a, (a < y ∨ y + 13 ≤ a) → h118 a = h0 a := fun a ha => (W118 a ha).trans (W102 a ha)
                    refine v_istore C dX8_trade_121 (by decide) ?_
                    have arjb : mk_ar (mk_con M b s on q d) 3 jb = mk_ar M 3 jb := rfl
                    have arjs : mk_ar (mk_con M b s on q d) 3 js = mk_ar M 3 js := rfl
                    refine v_aload_n C dX8_trade_123 rfl ?_
                    refine v_iload_n C dX8_trade_124 rfl ?_
                    refine v_iconst (v := nI 0) C dX8_trade_125 (by decide) ?_
                    have cS126 := c_X8_isShort (n0 := n0) hl Y118 (M := mk_con M b s on q d) G1 (t := jb) hjb (nI 0)
                    rw [← ejb, arjb, ← djb] at cS126
                    refine v_callVi C cS126 dX8_trade_126 mX8_isShort rfl Y118.o rfl wd7_129 rfl rfl (Nat.le_of_ble_eq_true rfl) (hp_rmle hRm (by decide) (by decide)) (Nat.le_of_ble_eq_true rfl) (Nat.le_of_ble_eq_true rfl) ?_
                    refine v_if_neB (tgt := 141) C dX8_trade_129 (by decide) (fun c129 => ?_) (fun c129 => ?_)
                    · have ev : mo_fT M b s on q d = nI 4 := (if_neg hg1).trans ((if_neg hg2).trans ((if_neg hg3).trans (if_pos (Or.inl c129))))
                      have hnz : ¬ mo_fT M b s on q d = nI 0 := by rw [ev]; decide
                      refine v_iconst (v := nI 1) C dX8_trade_141 (by decide) ?_
                      refine v_goto (tgt := 146) C dX8_trade_142 (by decide) ?_
                      refine v_istore C dX8_trade_146 (by decide) ?_
                      refine v_aload_n C dX8_trade_148 rfl ?_
                      refine v_iload C dX8_trade_149 rfl ?_
                      refine v_callVv C (c_X8_ends hl Y118 G1 (c := mk_ct M) (show mk_ct M < mk_ct M + 1 by omega)) dX8_trade_151 mX8_ends rfl Y118.o rfl wd7_152 rfl rfl (Nat.le_of_ble_eq_true rfl) (hp_rmle hRm (by decide) (by decide)) (Nat.le_of_ble_eq_true rfl) (Nat.le_of_ble_eq_true rfl) (fun n151 h151 q151 => ?_)
                      obtain ⟨k151, ⟨g2, G2, Y151⟩, W151⟩ := q151
                      have z151 := Eq.symm k151
                      have z151 : n0 = n151 := z151
                      subst z151
                      have W151 : ∀ a, (a < y ∨ y + 13 ≤ a) → h151 a = h0 a := fun a ha => (W151 a ha).trans (W118 a ha)
                      have G2 : Gr g2 M := G2.q (mk_q_con M b s on q d)
                      refine v_aload_n C dX8_trade_154 rfl ?_
                      refine v_iload C dX8_trade_155 rfl ?_
                      refine v_if_eq (tgt := 164) C dX8_trade_157 (by decide) (fun c157 => absurd c157 (by decide)) (fun c157 => ?_)
                      refine v_iconst (v := nI 4) C dX8_trade_160 (by decide) ?_
                      refine v_goto (tgt := 165) C dX8_trade_161 (by decide) ?_
                      refine v_callVq C (c_X8_fails hl Y151 (nI 4)) dX8_trade_165 mX8_fails rfl Y151.o rfl wd7_82 rfl rfl (Nat.le_of_ble_eq_true rfl) (hp_rmle hRm (by decide) (by decide)) (Nat.le_of_ble_eq_true rfl) (Nat.le_of_ble_eq_true rfl) (fun r165 n165 h165 q165 => ?_)
                      obtain ⟨e165, k165, Y165, W165⟩ := q165
                      have z165 := Eq.symm k165
                      have z165 : n0 = n165 := z165
                      subst z165
                      subst e165
                      have W165 : ∀ a, (a < y ∨ y + 13 ≤ a) → h165 a = _ := fun a ha => (W165 a ha).trans (W151 a ha)
                      refine v_if_eqB (tgt := 173) C dX8_trade_168 (by decide) (fun c168 => absurd c168 (fun z => z (by decide))) (fun c168 => ?_)
                      refine v_iconst (v := nI 0) C dX8_trade_171 (by decide) ?_
                      exact v_iret C E dX8_trade_172 rfl ⟨_, rfl, (if_neg hnz).symm, rfl, ⟨_, Y165, (show _ = mo_fT M b s on q d by rw [ev]; exact mo_si_3 _ _ _), Or.inr ⟨hnz, G2, ((((mo_wk.rf S).si (Or.inl rfl)).si (Or.inl rfl)).sg).si (Or.inl rfl)⟩⟩, W165⟩
                    · refine v_aload_n C dX8_trade_132 rfl ?_
                      refine v_iload_n C dX8_trade_133 rfl ?_
                      refine v_iconst (v := nI 0) C dX8_trade_134 (by decide) ?_
                      have cS135 := c_X8_isShort (n0 := n0) hl Y118 (M := mk_con M b s on q d) G1 (t := js) hjs (nI 0)
                      rw [← ejs, arjs, ← djs] at cS135
                      refine v_callVi C cS135 dX8_trade_135 mX8_isShort rfl Y118.o rfl wd7_129 rfl rfl (Nat.le_of_ble_eq_true rfl) (hp_rmle hRm (by decide) (by decide)) (Nat.le_of_ble_eq_true rfl) (Nat.le_of_ble_eq_true rfl) ?_
                      refine v_if_eqB (tgt := 145) C dX8_trade_138 (by decide) (fun c138 => ?_) (fun c138 => ?_)
                      · have hg4 : ¬ (mk_ar M 3 b.toNatClampNeg - nI 0 < mo_mg (mk_con M b s on q d) b (mk_hz M) ∨ mk_ar M 3 s.toNatClampNeg - nI 0 < mo_mg (mk_con M b s on q d) s (mk_hz M)) := fun z => z.elim c129 c138
                        have ev : mo_fT M b s on q d = nI 0 := (if_neg hg1).trans ((if_neg hg2).trans ((if_neg hg3).trans (if_neg hg4)))
                        refine v_iconst (v := nI 0) C dX8_trade_145 (by decide) ?_
                        refine v_istore C dX8_trade_146 (by decide) ?_
                        refine v_aload_n C dX8_trade_148 rfl ?_
                        refine v_iload C dX8_trade_149 rfl ?_
                        refine v_callVv C (c_X8_ends hl Y118 G1 (c := mk_ct M) (show mk_ct M < mk_ct M + 1 by omega)) dX8_trade_151 mX8_ends rfl Y118.o rfl wd7_152 rfl rfl (Nat.le_of_ble_eq_true rfl) (hp_rmle hRm (by decide) (by decide)) (Nat.le_of_ble_eq_true rfl) (Nat.le_of_ble_eq_true rfl) (fun n151 h151 q151 => ?_)
                        obtain ⟨k151, ⟨g2, G2, Y151⟩, W151⟩ := q151
                        have z151 := Eq.symm k151
                        have z151 : n0 = n151 := z151
                        subst z151
                        have W151 : ∀ a, (a < y ∨ y + 13 ≤ a) → h151 a = h0 a := fun a ha => (W151 a ha).trans (W118 a ha)
                        have G2 : Gr g2 M := G2.q (mk_q_con M b s on q d)
                        refine v_aload_n C dX8_trade_154 rfl ?_
                        refine v_iload C dX8_trade_155 rfl ?_
                        refine v_if_eq (tgt := 164) C dX8_trade_157 (by decide) (fun c157 => ?_) (fun c157 => absurd c157 (by decide))
                        refine v_iconst (v := nI 0) C dX8_trade_164 (by decide) ?_
                        refine v_callVq C (c_X8_fails hl Y151 (nI 0)) dX8_trade_165 mX8_fails rfl Y151.o rfl wd7_82 rfl rfl (Nat.le_of_ble_eq_true rfl) (hp_rmle hRm (by decide) (by decide)) (Nat.le_of_ble_eq_true rfl) (Nat.le_of_ble_eq_true rfl) (fun r165 n165 h165 q165 => ?_)
                        obtain ⟨e165, k165, Y165, W165⟩ := q165
                        have z165 := Eq.symm k165
                        have z165 : n0 = n165 := z165
                        subst z165
                        subst e165
                        have W165 : ∀ a, (a < y ∨ y + 13 ≤ a) → h165 a = _ := fun a ha => (W165 a ha).trans (W151 a ha)
                        refine v_if_eqB (tgt := 173) C dX8_trade_168 (by decide) (fun c168 => ?_) (fun c168 => absurd c168 (by decide))
                        refine v_aload_n C dX8_trade_173 rfl ?_
                        refine v_aload_n C dX8_trade_174 rfl ?_
                        refine v_get C 0 dX8_trade_175 wd6_237 Y165.o rfl (by decide) ⟨rfl, rfl, rfl⟩ rfl ?_
                        refine v_callVv C (c_X8_keeps0 hl Y165 (ch := ch) hch h8) dX8_trade_178 mX8_keeps rfl Y165.o rfl wd7_86 rfl rfl (Nat.le_of_ble_eq_true rfl) (hp_rmle hRm (by decide) (by decide)) (Nat.le_of_ble_eq_true rfl) (Nat.le_of_ble_eq_true rfl) (fun n178 h178 q178 => ?_)
                        obtain ⟨k178, Y178, W178⟩ := q178
                        have z178 := Eq.symm k178
                        have z178 : n0 = n178 := z178
                        subst z178
                        have W178 : ∀ a, (a < y ∨ y + 13 ≤ a) → h178 a = _ := fun a ha => (W178 a ha).trans (W165 a ha)
                        have X178 := Y178.to (mo_sg_eq (mo_kp_g _ _ _))
                        refine v_aload_n C dX8_trade_181 rfl ?_
                        refine v_iload_n C dX8_trade_182 rfl ?_
                        refine v_iload_n C dX8_trade_183 rfl ?_
                        refine v_iload_n C dX8_trade_184 rfl ?_
                        refine v_iload C dX8_trade_185 rfl ?_
                        refine v_iload C dX8_trade_187 rfl ?_
                        refine v_callVq C (c_X8_places hl X178 G2 h20 b s on q d) dX8_trade_189 mX8_places rfl X178.o rfl wd7_121 rfl rfl (Nat.le_of_ble_eq_true rfl) (hp_rmle hRm (by decide) (by decide)) (Nat.le_of_ble_eq_true rfl) (Nat.le_of_ble_eq_true rfl) (fun r189 n189 h189 q189 => ?_)
                        obtain ⟨e189, k189, ⟨g3, G3, Y189⟩, W189⟩ := q189
                        have z189 := Eq.symm k189
                        have z189 : n0 = n189 := z189
                        subst z189
                        subst e189
                        refine v_iret C E dX8_trade_192 rfl ⟨_, rfl, (if_pos ev).symm, rfl, ⟨_, Y189, (show _ = mo_fT M b s on q d by rw [ev]; exact mo_kp_3 _ _ _), Or.inl ⟨ev, G3, g2, G2, ?_⟩⟩, fun a ha => (W189 a ha).trans (W178 a ha)⟩
                        refine mo_wk.sg ?_
                        rw [show mo_si (mo_sg (mo_si (mo_si S 3 (nI 0)) 3 (nI 0)) g2) 3 (nI 0) = mo_si (mo_sg S g2) 3 (nI 0) from Prod.ext rfl (by show upd (upd (upd S.2 3 _) 3 _) 3 _ = upd S.2 3 _; rw [mo_uu, mo_uu])]
                        exact mo_wk.rf _
                      · have ev : mo_fT M b s on q d = nI 4 := (if_neg hg1).trans ((if_neg hg2).trans ((if_neg hg3).trans (if_pos (Or.inr c138))))
                        have hnz : ¬ mo_fT M b s on q d = nI 0 := by rw [ev]; decide
                        refine v_iconst (v := nI 1) C dX8_trade_141 (by decide) ?_
                        refine v_goto (tgt := 146) C dX8_trade_142 (by decide) ?_
                        refine v_istore C dX8_trade_146 (by decide) ?_
                        refine v_aload_n C dX8_trade_148 rfl ?_
                        refine v_iload C dX8_trade_149 rfl ?_
                        refine v_callVv C (c_X8_ends hl Y118 G1 (c := mk_ct M) (show mk_ct M < mk_ct M + 1 by omega)) dX8_trade_151 mX8_ends rfl Y118.o rfl wd7_152 rfl rfl (Nat.le_of_ble_eq_true rfl) (hp_rmle hRm (by decide) (by decide)) (Nat.le_of_ble_eq_true rfl) (Nat.le_of_ble_eq_true rfl) (fun n151 h151 q151 => ?_)
                        obtain ⟨k151, ⟨g2, G2, Y151⟩, W151⟩ := q151
                        have z151 := Eq.symm k151
                        have z151 : n0 = n151 := z151
                        subst z151
                        have W151 : ∀ a, (a < y ∨ y + 13 ≤ a) → h151 a = h0 a := fun a ha => (W151 a ha).trans (W118 a ha)
                        have G2 : Gr g2 M := G2.q (mk_q_con M b s on q d)
                        refine v_aload_n C dX8_trade_154 rfl ?_
                        refine v_iload C dX8_trade_155 rfl ?_
                        refine v_if_eq (tgt := 164) C dX8_trade_157 (by decide) (fun c157 => absurd c157 (by decide)) (fun c157 => ?_)
                        refine v_iconst (v := nI 4) C dX8_trade_160 (by decide) ?_
                        refine v_goto (tgt := 165) C dX8_trade_161 (by decide) ?_
                        refine v_callVq C (c_X8_fails hl Y151 (nI 4)) dX8_trade_165 mX8_fails rfl Y151.o rfl wd7_82 rfl rfl (Nat.le_of_ble_eq_true rfl) (hp_rmle hRm (by decide) (by decide)) (Nat.le_of_ble_eq_true rfl) (Nat.le_of_ble_eq_true rfl) (fun r165 n165 h165 q165 => ?_)
                        obtain ⟨e165, k165, Y165, W165⟩ := q165
                        have z165 := Eq.symm k165
                        have z165 : n0 = n165 := z165
                        subst z165
                        subst e165
                        have W165 : ∀ a, (a < y ∨ y + 13 ≤ a) → h165 a = _ := fun a ha => (W165 a ha).trans (W151 a ha)
                        refine v_if_eqB (tgt := 173) C dX8_trade_168 (by decide) (fun c168 => absurd c168 (fun z => z (by decide))) (fun c168 => ?_)
                        refine v_iconst (v := nI 0) C dX8_trade_171 (by decide) ?_
                        exact v_iret C E dX8_trade_172 rfl ⟨_, rfl, (if_neg hnz).symm, rfl, ⟨_, Y165, (show _ = mo_fT M b s on q d by rw [ev]; exact mo_si_3 _ _ _), Or.inr ⟨hnz, G2, ((((mo_wk.rf S).si (Or.inl rfl)).si (Or.inl rfl)).sg).si (Or.inl rfl)⟩⟩, W165⟩
                  · have ev : mo_fT M b s on q d = nI 3 := (if_neg hg1).trans ((if_neg hg2).trans (if_pos (Or.inr (Or.inr c94))))
                    have hnz : ¬ mo_fT M b s on q d = nI 0 := by rw [ev]; decide
                    refine v_iconst (v := nI 3) C dX8_trade_97 (by decide) ?_
                    refine v_goto (tgt := 102) C dX8_trade_98 (by decide) ?_
                    refine v_callVq C (c_X8_fails hl Y61 (nI 3)) dX8_trade_102 mX8_fails rfl Y61.o rfl wd7_82 rfl rfl (Nat.le_of_ble_eq_true rfl) (hp_rmle hRm (by decide) (by decide)) (Nat.le_of_ble_eq_true rfl) (Nat.le_of_ble_eq_true rfl) (fun r102 n102 h102 q102 => ?_)
                    obtain ⟨e102, k102, Y102, W102⟩ := q102
                    have z102 := Eq.symm k102
                    have z102 : n0 = n102 := z102
                    subst z102
                    subst e102
                    have W102 : ∀ a, (a < y ∨ y + 13 ≤ a) → h102 a = _ := fun a ha => (W102 a ha).trans (W61 a ha)
                    refine v_if_eqB (tgt := 110) C dX8_trade_105 (by decide) (fun c105 => absurd c105 (fun z => z (by decide))) (fun c105 => ?_)
                    refine v_iconst (v := nI 0) C dX8_trade_108 (by decide) ?_
                    exact v_iret C E dX8_trade_109 rfl ⟨_, rfl, (if_neg hnz).symm, rfl, ⟨_, Y102, (show _ = mo_fT M b s on q d by rw [ev]; exact mo_si_3 _ _ _), Or.inr ⟨hnz, hg, ((mo_wk.rf S).si (Or.inl rfl)).si (Or.inl rfl)⟩⟩, W102⟩
            · have ev : mo_fT M b s on q d = nI 2 := (if_neg hg1).trans (if_pos (Or.inr (Or.inr c53)))
              have hnz : ¬ mo_fT M b s on q d = nI 0 := by rw [ev]; decide
              refine v_iconst (v := nI 2) C dX8_trade_56 (by decide) ?_
              refine v_goto (tgt := 61) C dX8_trade_57 (by decide) ?_
              refine v_callVq C (c_X8_fails hl hS (nI 2)) dX8_trade_61 mX8_fails rfl hS.o rfl wd7_82 rfl rfl (Nat.le_of_ble_eq_true rfl) (hp_rmle hRm (by decide) (by decide)) (Nat.le_of_ble_eq_true rfl) (Nat.le_of_ble_eq_true rfl) (fun r61 n61 h61 q61 => ?_)
              obtain ⟨e61, k61, Y61, W61⟩ := q61
              have z61 := Eq.symm k61
              have z61 : n0 = n61 := z61
              subst z61
              subst e61
              refine v_if_eqB (tgt := 69) C dX8_trade_64 (by decide) (fun c64 => absurd c64 (fun z => z (by decide))) (fun c64 => ?_)
              refine v_iconst (v := nI 0) C dX8_trade_67 (by decide) ?_
              exact v_iret C E dX8_trade_68 rfl ⟨_, rfl, (if_neg hnz).symm, rfl, ⟨_, Y61, (show _ = mo_fT M b s on q d by rw [ev]; exact mo_si_3 _ _ _), Or.inr ⟨hnz, hg, (mo_wk.rf S).si (Or.inl rfl)⟩⟩, W61⟩
      · have ev : mo_fT M b s on q d = nI 1 := if_pos (Or.inr (Or.inr c22))
        have hnz : ¬ mo_fT M b s on q d = nI 0 := by rw [ev]; decide
        refine v_iconst (v := nI 1) C dX8_trade_25 (by decide) ?_
        refine v_goto (tgt := 61) C dX8_trade_26 (by decide) ?_
        refine v_callVq C (c_X8_fails hl hS (nI 1)) dX8_trade_61 mX8_fails rfl hS.o rfl wd7_82 rfl rfl (Nat.le_of_ble_eq_true rfl) (hp_rmle hRm (by decide) (by decide)) (Nat.le_of_ble_eq_true rfl) (Nat.le_of_ble_eq_true rfl) (fun r61 n61 h61 q61 => ?_)
        obtain ⟨e61, k61, Y61, W61⟩ := q61
        have z61 := Eq.symm k61
        have z61 : n0 = n61 := z61
        subst z61
        subst e61
        refine v_if_eqB (tgt := 69) C dX8_trade_64 (by decide) (fun c64 => absurd c64 (fun z => z (by decide))) (fun c64 => ?_)
        refine v_iconst (v := nI 0) C dX8_trade_67 (by decide) ?_
        exact v_iret C E dX8_trade_68 rfl ⟨_, rfl, (if_neg hnz).symm, rfl, ⟨_, Y61, (show _ = mo_fT M b s on q d by rw [ev]; exact mo_si_3 _ _ _), Or.inr ⟨hnz, hg, (mo_wk.rf S).si (Or.inl rfl)⟩⟩, W61⟩

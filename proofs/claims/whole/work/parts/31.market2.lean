/-! ===== THE MARKET: what changes it ===== -/
abbrev mk_wa (M : mk_T) (k : Nat) (f : Nat → Int32) : mk_T := (M.1, fun j => if j = k then f else M.2.1 j, M.2.2)
abbrev mk_phz (M : mk_T) (c : Nat) : mk_T := ((c, M.1.2.1, M.1.2.2), M.2)
abbrev mk_ptr (M : mk_T) (c : Nat) : mk_T := ((M.1.1, c, M.1.2.2), M.2)
abbrev mk_pct (M : mk_T) (c : Nat) : mk_T := ((M.1.1, M.1.2.1, c), M.2)
abbrev mk_pdy (M : mk_T) (x : Int32) : mk_T := (M.1, M.2.1, (x, M.2.2.1.2.1, M.2.2.1.2.2), M.2.2.2)
abbrev mk_pfu (M : mk_T) (x : Int32) : mk_T := (M.1, M.2.1, (M.2.2.1.1, x, M.2.2.1.2.2), M.2.2.2)
abbrev mk_plo (M : mk_T) (x : Int32) : mk_T := (M.1, M.2.1, (M.2.2.1.1, M.2.2.1.2.1, x), M.2.2.2)
abbrev mk_pin (M : mk_T) (x : Int64) : mk_T := (M.1, M.2.1, M.2.2.1, (x, M.2.2.2.2))
abbrev mk_pou (M : mk_T) (x : Int64) : mk_T := (M.1, M.2.1, M.2.2.1, (M.2.2.2.1, x))
abbrev mk_dy (M : mk_T) : Int32 := M.2.2.1.1
abbrev mk_fu (M : mk_T) : Int32 := M.2.2.1.2.1
abbrev mk_lo (M : mk_T) : Int32 := M.2.2.1.2.2
theorem Mk.to {G : hp_G} {h : Nat → Option va_E} {o : Nat} {M M' : mk_T} (H : Mk G h o M) (e : M = M') : Mk G h o M' := e ▸ H
theorem Mk.fs {G : hp_G} {h h' : Nat → Option va_E} {o : Nat} {M M' : mk_T} (H : Mk G h o M) (hA : M'.2.1 = M.2.1) (h1 : h' o = some (.inr (6, mk_fs o M'))) (h2 : ∀ b, b ≠ o → h' b = h b) (b1 : mk_hz M' ≤ 4) (b2 : mk_tr M' ≤ 6) (b3 : mk_ct M' ≤ 20) : Mk G h' o M' := by
  refine ⟨h1, fun k hk => ?_, b1, b2, b3, H.base⟩
  rw [h2 _ (by omega), H.2.1 k hk]
  show _ = some (Sum.inl (_, _, Sum.inl (M'.2.1 k)))
  rw [hA]
theorem Mk.phz {G : hp_G} {h h' : Nat → Option va_E} {o : Nat} {M : mk_T} {c : Nat} (H : Mk G h o M) (h1 : h' o = some (.inr (6, (mk_fs o M).set 0 (.int (nI c))))) (h2 : ∀ b, b ≠ o → h' b = h b) (hc : c ≤ 4) : Mk G h' o (mk_phz M c) := H.fs rfl h1 h2 hc H.tr H.ct
theorem Mk.ptr {G : hp_G} {h h' : Nat → Option va_E} {o : Nat} {M : mk_T} {c : Nat} (H : Mk G h o M) (h1 : h' o = some (.inr (6, (mk_fs o M).set 4 (.int (nI c))))) (h2 : ∀ b, b ≠ o → h' b = h b) (hc : c ≤ 6) : Mk G h' o (mk_ptr M c) := H.fs rfl h1 h2 H.hz hc H.ct
theorem Mk.pct {G : hp_G} {h h' : Nat → Option va_E} {o : Nat} {M : mk_T} {c : Nat} (H : Mk G h o M) (h1 : h' o = some (.inr (6, (mk_fs o M).set 7 (.int (nI c))))) (h2 : ∀ b, b ≠ o → h' b = h b) (hc : c ≤ 20) : Mk G h' o (mk_pct M c) := H.fs rfl h1 h2 H.hz H.tr hc
theorem Mk.pdy {G : hp_G} {h h' : Nat → Option va_E} {o : Nat} {M : mk_T} {x : Int32} (H : Mk G h o M) (h1 : h' o = some (.inr (6, (mk_fs o M).set 13 (.int x)))) (h2 : ∀ b, b ≠ o → h' b = h b)  : Mk G h' o (mk_pdy M x) := H.fs rfl h1 h2 H.hz H.tr H.ct
theorem Mk.pfu {G : hp_G} {h h' : Nat → Option va_E} {o : Nat} {M : mk_T} {x : Int32} (H : Mk G h o M) (h1 : h' o = some (.inr (6, (mk_fs o M).set 14 (.int x)))) (h2 : ∀ b, b ≠ o → h' b = h b)  : Mk G h' o (mk_pfu M x) := H.fs rfl h1 h2 H.hz H.tr H.ct
theorem Mk.plo {G : hp_G} {h h' : Nat → Option va_E} {o : Nat} {M : mk_T} {x : Int32} (H : Mk G h o M) (h1 : h' o = some (.inr (6, (mk_fs o M).set 15 (.int x)))) (h2 : ∀ b, b ≠ o → h' b = h b)  : Mk G h' o (mk_plo M x) := H.fs rfl h1 h2 H.hz H.tr H.ct
theorem Mk.pin {G : hp_G} {h h' : Nat → Option va_E} {o : Nat} {M : mk_T} {x : Int64} (H : Mk G h o M) (h1 : h' o = some (.inr (6, (mk_fs o M).set 16 (.long x)))) (h2 : ∀ b, b ≠ o → h' b = h b)  : Mk G h' o (mk_pin M x) := H.fs rfl h1 h2 H.hz H.tr H.ct
theorem Mk.pou {G : hp_G} {h h' : Nat → Option va_E} {o : Nat} {M : mk_T} {x : Int64} (H : Mk G h o M) (h1 : h' o = some (.inr (6, (mk_fs o M).set 17 (.long x)))) (h2 : ∀ b, b ≠ o → h' b = h b)  : Mk G h' o (mk_pou M x) := H.fs rfl h1 h2 H.hz H.tr H.ct
/-- the market's cells hold M', nothing else has changed -/
def mk_Q (G : hp_G) (n : Nat) (h : Nat → Option va_E) (o : Nat) (M' : mk_T) : hp_T → Prop := fun τ => τ.1 = n ∧ Mk G τ.2 o M' ∧ ∀ a, (a < o ∨ o + 11 ≤ a) → τ.2 a = h a
theorem hp_dec (x : Int32) : x + Int32.ofInt (-1) = x - nI 1 := by
  rw [Int32.sub_eq_add_neg]; rfl
def mk_mw (M : mk_T) (t on more : Int32) : Int32 := mk_mg M t (mk_hz M) + (hp_abs (mk_po M t on + more) - hp_abs (mk_po M t on)) * mk_ar M 2 on.toNatClampNeg
def mk_fH (M : mk_T) (p r : Int32) : Int32 := if ¬ hp_wi p (nI 1) (nI 99) ∨ ¬ hp_wi r (nI 1) (nI 20) then nI 2 else if 4 ≤ mk_hz M then nI 3 else nI 0
def mk_fR (M : mk_T) (m : Int32) : Int32 := if ¬ hp_wi m (nI 0) (nI 9999) then nI 2 else if 6 ≤ mk_tr M then nI 3 else nI 0
def mk_fT (M : mk_T) (b s on q d : Int32) : Int32 := if ¬ hp_num b (mk_tr M) ∨ ¬ hp_num s (mk_tr M) ∨ ¬ hp_num on (mk_hz M) then nI 1 else if b = s ∨ ¬ hp_wi q (nI 1) (nI 20) ∨ ¬ hp_wi d (nI 1) (nI 9) then nI 2 else if 20 ≤ mk_ct M ∨ ¬ mk_ar M 4 b.toNatClampNeg = 0 ∨ ¬ mk_ar M 4 s.toNatClampNeg = 0 then nI 3 else if mk_ar M 3 b.toNatClampNeg < mk_mw M b on q ∨ mk_ar M 3 s.toNatClampNeg < mk_mw M s on (-q) then nI 4 else nI 0
def mk_fQ (M : mk_T) (on q : Int32) : Int32 := if ¬ hp_num on (mk_hz M) then nI 1 else if hp_wi q (nI 1) (nI 99) then nI 0 else nI 2
def mk_fB (M : mk_T) (t a : Int32) : Int32 := if ¬ hp_num t (mk_tr M) then nI 1 else if ¬ hp_wi a (nI 1) (nI 9999) then nI 2 else if mk_ar M 4 t.toNatClampNeg = nI 2 then nI 3 else nI 0
def mk_fK (M : mk_T) (t a : Int32) : Int32 := if ¬ mk_fB M t a = 0 then mk_fB M t a else if mk_ar M 3 t.toNatClampNeg - a < mk_mg M t (mk_hz M) then nI 4 else nI 0
theorem mk_fB_0 {M : mk_T} {t a : Int32} (h : mk_fB M t a = 0) : hp_num t (mk_tr M) ∧ hp_wi a (nI 1) (nI 9999) ∧ ¬ mk_ar M 4 t.toNatClampNeg = nI 2 := by
  unfold mk_fB at h
  split at h
  · exact absurd h (by decide)
  · split at h
    · exact absurd h (by decide)
    · split at h
      · exact absurd h (by decide)
      · rename_i q1 q2 q3
        exact ⟨Decidable.not_not.mp q1, Decidable.not_not.mp q2, q3⟩
set_option maxHeartbeats 4000000 in
/-- what is wrong with a horizon -/
theorem c_X4_faultOfHorizon {G : hp_G} {l : Launch} (hl : l.stackTraces = false) {n : Nat} {h : Nat → Option va_E} {o : Nat} {M : mk_T} (hM : Mk G h o M) (p r : Int32) : Ct G l yX4_faultOfHorizon cX4_faultOfHorizon 3 (some .int) 1 0 0 [.ref o, .int p, .int r] (n, h) (hp_ri (mk_fH M p r) (n, h)) := by
  refine Ct.of rfl hl (by simp [Value.category]) (Nat.le_of_ble_eq_true rfl) (fun K C E hRm hKl => ?_)
  subst hKl
  have hhz := hM.hz
  have htr := hM.tr
  have hct := hM.ct
  refine v_iload_n C dX4_faultOfHorizon_0 rfl ?_
  refine v_iconst (v := nI 1) C dX4_faultOfHorizon_1 (by decide) ?_
  refine v_bipush (v := nI 99) C dX4_faultOfHorizon_2 (by decide) ?_
  refine v_callSNi C (c_X7_isWithin hl _ _ _) dX4_faultOfHorizon_4 mX7_isWithin wd2_70 rfl rfl (Nat.le_of_ble_eq_true rfl) (hp_rmle hRm (by decide) (by decide)) (Nat.le_of_ble_eq_true rfl) (Nat.le_of_ble_eq_true rfl) ?_
  refine v_if_eqB (tgt := 20) C dX4_faultOfHorizon_7 (by decide) (fun c7 => ?_) (fun c7 => ?_)
  · refine v_iconst (v := nI 2) C dX4_faultOfHorizon_20 (by decide) ?_
    exact v_iret C E dX4_faultOfHorizon_21 rfl (hp_rib (by first | (simp [mk_fH, *]; done) | (simp only [mk_fH]; grind)))
  · refine v_iload_n C dX4_faultOfHorizon_10 rfl ?_
    refine v_iconst (v := nI 1) C dX4_faultOfHorizon_11 (by decide) ?_
    refine v_bipush (v := nI 20) C dX4_faultOfHorizon_12 (by decide) ?_
    refine v_callSNi C (c_X7_isWithin hl _ _ _) dX4_faultOfHorizon_14 mX7_isWithin wd2_70 rfl rfl (Nat.le_of_ble_eq_true rfl) (hp_rmle hRm (by decide) (by decide)) (Nat.le_of_ble_eq_true rfl) (Nat.le_of_ble_eq_true rfl) ?_
    refine v_if_neB (tgt := 22) C dX4_faultOfHorizon_17 (by decide) (fun c17 => ?_) (fun c17 => ?_)
    · refine v_aload_n C dX4_faultOfHorizon_22 rfl ?_
      refine v_get (v := .int (nI (mk_hz M))) C 0 dX4_faultOfHorizon_23 wd1_46 hM.o rfl (by decide) ⟨rfl, rfl, rfl⟩ rfl ?_
      refine v_iconst (v := nI 4) C dX4_faultOfHorizon_26 (by decide) ?_
      refine v_icmp_ltN (tgt := 34) C dX4_faultOfHorizon_27 (by decide) (by omega) (by omega) (fun c27 => ?_) (fun c27 => ?_)
      · refine v_iconst (v := nI 0) C dX4_faultOfHorizon_34 (by decide) ?_
        exact v_iret C E dX4_faultOfHorizon_35 rfl (hp_rib (by first | (simp [mk_fH, *]; done) | (simp only [mk_fH]; grind)))
      · refine v_iconst (v := nI 3) C dX4_faultOfHorizon_30 (by decide) ?_
        refine v_goto (tgt := 35) C dX4_faultOfHorizon_31 (by decide) ?_
        exact v_iret C E dX4_faultOfHorizon_35 rfl (hp_rib (by first | (simp [mk_fH, *]; done) | (simp only [mk_fH]; grind)))
    · refine v_iconst (v := nI 2) C dX4_faultOfHorizon_20 (by decide) ?_
      exact v_iret C E dX4_faultOfHorizon_21 rfl (hp_rib (by first | (simp [mk_fH, *]; done) | (simp only [mk_fH]; grind)))
set_option maxHeartbeats 4000000 in
/-- what is wrong with a trader -/
theorem c_X4_faultOfTrader {G : hp_G} {l : Launch} (hl : l.stackTraces = false) {n : Nat} {h : Nat → Option va_E} {o : Nat} {M : mk_T} (hM : Mk G h o M) (m : Int32) : Ct G l yX4_faultOfTrader cX4_faultOfTrader 2 (some .int) 1 0 0 [.ref o, .int m] (n, h) (hp_ri (mk_fR M m) (n, h)) := by
  refine Ct.of rfl hl (by simp [Value.category]) (Nat.le_of_ble_eq_true rfl) (fun K C E hRm hKl => ?_)
  subst hKl
  have hhz := hM.hz
  have htr := hM.tr
  have hct := hM.ct
  refine v_iload_n C dX4_faultOfTrader_0 rfl ?_
  refine v_iconst (v := nI 0) C dX4_faultOfTrader_1 (by decide) ?_
  refine v_sipush (v := nI 9999) C dX4_faultOfTrader_2 (by decide) ?_
  refine v_callSNi C (c_X7_isWithin hl _ _ _) dX4_faultOfTrader_5 mX7_isWithin wd2_70 rfl rfl (Nat.le_of_ble_eq_true rfl) (hp_rmle hRm (by decide) (by decide)) (Nat.le_of_ble_eq_true rfl) (Nat.le_of_ble_eq_true rfl) ?_
  refine v_if_neB (tgt := 13) C dX4_faultOfTrader_8 (by decide) (fun c8 => ?_) (fun c8 => ?_)
  · refine v_aload_n C dX4_faultOfTrader_13 rfl ?_
    refine v_get (v := .int (nI (mk_tr M))) C 4 dX4_faultOfTrader_14 wd1_58 hM.o rfl (by decide) ⟨rfl, rfl, rfl⟩ rfl ?_
    refine v_bipush (v := nI 6) C dX4_faultOfTrader_17 (by decide) ?_
    refine v_icmp_ltN (tgt := 26) C dX4_faultOfTrader_19 (by decide) (by omega) (by omega) (fun c19 => ?_) (fun c19 => ?_)
    · refine v_iconst (v := nI 0) C dX4_faultOfTrader_26 (by decide) ?_
      exact v_iret C E dX4_faultOfTrader_27 rfl (hp_rib (by first | (simp [mk_fR, *]; done) | (simp only [mk_fR]; grind)))
    · refine v_iconst (v := nI 3) C dX4_faultOfTrader_22 (by decide) ?_
      refine v_goto (tgt := 27) C dX4_faultOfTrader_23 (by decide) ?_
      exact v_iret C E dX4_faultOfTrader_27 rfl (hp_rib (by first | (simp [mk_fR, *]; done) | (simp only [mk_fR]; grind)))
  · refine v_iconst (v := nI 2) C dX4_faultOfTrader_11 (by decide) ?_
    exact v_iret C E dX4_faultOfTrader_12 rfl (hp_rib (by first | (simp [mk_fR, *]; done) | (simp only [mk_fR]; grind)))
set_option maxHeartbeats 4000000 in
/-- what is wrong with a trade -/
theorem c_X4_faultOfTrade {G : hp_G} {l : Launch} (hl : l.stackTraces = false) {n : Nat} {h : Nat → Option va_E} {o : Nat} {M : mk_T} (hM : Mk G h o M) (b s on q d : Int32) : Ct G l yX4_faultOfTrade cX4_faultOfTrade 6 (some .int) 5 0 0 [.ref o, .int b, .int s, .int on, .int q, .int d] (n, h) (hp_ri (mk_fT M b s on q d) (n, h)) := by
  refine Ct.of rfl hl (by simp [Value.category]) (Nat.le_of_ble_eq_true rfl) (fun K C E hRm hKl => ?_)
  subst hKl
  have hhz := hM.hz
  have htr := hM.tr
  have hct := hM.ct
  refine v_iload_n C dX4_faultOfTrade_0 rfl ?_
  refine v_aload_n C dX4_faultOfTrade_1 rfl ?_
  refine v_get (v := .int (nI (mk_tr M))) C 4 dX4_faultOfTrade_2 wd1_58 hM.o rfl (by decide) ⟨rfl, rfl, rfl⟩ rfl ?_
  refine v_callSNi C (c_X7_isNumber hl _ _) dX4_faultOfTrade_5 mX7_isNumber wd2_81 rfl rfl (Nat.le_of_ble_eq_true rfl) (hp_rmle hRm (by decide) (by decide)) (Nat.le_of_ble_eq_true rfl) (Nat.le_of_ble_eq_true rfl) ?_
  refine v_if_eqB (tgt := 33) C dX4_faultOfTrade_8 (by decide) (fun c8 => ?_) (fun c8 => ?_)
  · refine v_iconst (v := nI 1) C dX4_faultOfTrade_33 (by decide) ?_
    exact v_iret C E dX4_faultOfTrade_34 rfl (hp_rib (by first | (simp [mk_fT, mk_mw, *]; done) | (simp only [mk_fT, mk_mw]; grind)))
  · obtain ⟨jb, hjb, rfl⟩ := hp_num_j c8 (by omega)
    have ejb := nI_clamp (show jb < 2 ^ 31 by omega)
    refine v_iload_n C dX4_faultOfTrade_11 rfl ?_
    refine v_aload_n C dX4_faultOfTrade_12 rfl ?_
    refine v_get (v := .int (nI (mk_tr M))) C 4 dX4_faultOfTrade_13 wd1_58 hM.o rfl (by decide) ⟨rfl, rfl, rfl⟩ rfl ?_
    refine v_callSNi C (c_X7_isNumber hl _ _) dX4_faultOfTrade_16 mX7_isNumber wd2_81 rfl rfl (Nat.le_of_ble_eq_true rfl) (hp_rmle hRm (by decide) (by decide)) (Nat.le_of_ble_eq_true rfl) (Nat.le_of_ble_eq_true rfl) ?_
    refine v_if_eqB (tgt := 33) C dX4_faultOfTrade_19 (by decide) (fun c19 => ?_) (fun c19 => ?_)
    · refine v_iconst (v := nI 1) C dX4_faultOfTrade_33 (by decide) ?_
      exact v_iret C E dX4_faultOfTrade_34 rfl (hp_rib (by first | (simp [mk_fT, mk_mw, *]; done) | (simp only [mk_fT, mk_mw]; grind)))
    · obtain ⟨js, hjs, rfl⟩ := hp_num_j c19 (by omega)
      have ejs := nI_clamp (show js < 2 ^ 31 by omega)
      refine v_iload_n C dX4_faultOfTrade_22 rfl ?_
      refine v_aload_n C dX4_faultOfTrade_23 rfl ?_
      refine v_get (v := .int (nI (mk_hz M))) C 0 dX4_faultOfTrade_24 wd1_46 hM.o rfl (by decide) ⟨rfl, rfl, rfl⟩ rfl ?_
      refine v_callSNi C (c_X7_isNumber hl _ _) dX4_faultOfTrade_27 mX7_isNumber wd2_81 rfl rfl (Nat.le_of_ble_eq_true rfl) (hp_rmle hRm (by decide) (by decide)) (Nat.le_of_ble_eq_true rfl) (Nat.le_of_ble_eq_true rfl) ?_
      refine v_if_neB (tgt := 35) C dX4_faultOfTrade_30 (by decide) (fun c30 => ?_) (fun c30 => ?_)
      · obtain ⟨jo, hjo, rfl⟩ := hp_num_j c30 (by omega)
        have ejo := nI_clamp (show jo < 2 ^ 31 by omega)
        refine v_iload_n C dX4_faultOfTrade_35 rfl ?_
        refine v_iload_n C dX4_faultOfTrade_36 rfl ?_
        refine v_icmp_eq (tgt := 62) C dX4_faultOfTrade_37 (by decide) (fun c37 => ?_) (fun c37 => ?_)
        · refine v_iconst (v := nI 2) C dX4_faultOfTrade_62 (by decide) ?_
          exact v_iret C E dX4_faultOfTrade_63 rfl (hp_rib (by first | (simp [mk_fT, mk_mw, *]; done) | (simp only [mk_fT, mk_mw]; grind)))
        · refine v_iload C dX4_faultOfTrade_40 rfl ?_
          refine v_iconst (v := nI 1) C dX4_faultOfTrade_42 (by decide) ?_
          refine v_bipush (v := nI 20) C dX4_faultOfTrade_43 (by decide) ?_
          refine v_callSNi C (c_X7_isWithin hl _ _ _) dX4_faultOfTrade_45 mX7_isWithin wd2_70 rfl rfl (Nat.le_of_ble_eq_true rfl) (hp_rmle hRm (by decide) (by decide)) (Nat.le_of_ble_eq_true rfl) (Nat.le_of_ble_eq_true rfl) ?_
          refine v_if_eqB (tgt := 62) C dX4_faultOfTrade_48 (by decide) (fun c48 => ?_) (fun c48 => ?_)
          · refine v_iconst (v := nI 2) C dX4_faultOfTrade_62 (by decide) ?_
            exact v_iret C E dX4_faultOfTrade_63 rfl (hp_rib (by first | (simp [mk_fT, mk_mw, *]; done) | (simp only [mk_fT, mk_mw]; grind)))
          · refine v_iload C dX4_faultOfTrade_51 rfl ?_
            refine v_iconst (v := nI 1) C dX4_faultOfTrade_53 (by decide) ?_
            refine v_bipush (v := nI 9) C dX4_faultOfTrade_54 (by decide) ?_
            refine v_callSNi C (c_X7_isWithin hl _ _ _) dX4_faultOfTrade_56 mX7_isWithin wd2_70 rfl rfl (Nat.le_of_ble_eq_true rfl) (hp_rmle hRm (by decide) (by decide)) (Nat.le_of_ble_eq_true rfl) (Nat.le_of_ble_eq_true rfl) ?_
            refine v_if_neB (tgt := 64) C dX4_faultOfTrade_59 (by decide) (fun c59 => ?_) (fun c59 => ?_)
            · refine v_aload_n C dX4_faultOfTrade_64 rfl ?_
              refine v_get (v := .int (nI (mk_ct M))) C 7 dX4_faultOfTrade_65 wd1_65 hM.o rfl (by decide) ⟨rfl, rfl, rfl⟩ rfl ?_
              refine v_bipush (v := nI 20) C dX4_faultOfTrade_68 (by decide) ?_
              refine v_icmp_geN (tgt := 91) C dX4_faultOfTrade_70 (by decide) (by omega) (by omega) (fun c70 => ?_) (fun c70 => ?_)
              · refine v_iconst (v := nI 3) C dX4_faultOfTrade_91 (by decide) ?_
                exact v_iret C E dX4_faultOfTrade_92 rfl (hp_rib (by first | (simp [mk_fT, mk_mw, *]; done) | (simp only [mk_fT, mk_mw]; grind)))
              · refine v_aload_n C dX4_faultOfTrade_73 rfl ?_
                refine v_get C 6 dX4_faultOfTrade_74 wd1_62 hM.o rfl (by decide) ⟨rfl, rfl, rfl⟩ rfl ?_
                refine v_iload_n C dX4_faultOfTrade_77 rfl ?_
                refine v_ialdN C dX4_faultOfTrade_78 hM.a4 (by omega) (by decide) ?_
                refine v_if_ne (tgt := 91) C dX4_faultOfTrade_79 (by decide) (fun c79 => ?_) (fun c79 => ?_)
                · refine v_iconst (v := nI 3) C dX4_faultOfTrade_91 (by decide) ?_
                  exact v_iret C E dX4_faultOfTrade_92 rfl (hp_rib (by first | (simp [mk_fT, mk_mw, *]; done) | (simp only [mk_fT, mk_mw]; grind)))
                · refine v_aload_n C dX4_faultOfTrade_82 rfl ?_
                  refine v_get C 6 dX4_faultOfTrade_83 wd1_62 hM.o rfl (by decide) ⟨rfl, rfl, rfl⟩ rfl ?_
                  refine v_iload_n C dX4_faultOfTrade_86 rfl ?_
                  refine v_ialdN C dX4_faultOfTrade_87 hM.a4 (by omega) (by decide) ?_
                  refine v_if_eq (tgt := 93) C dX4_faultOfTrade_88 (by decide) (fun c88 => ?_) (fun c88 => ?_)
                  · refine v_aload_n C dX4_faultOfTrade_93 rfl ?_
                    refine v_get C 5 dX4_faultOfTrade_94 wd1_60 hM.o rfl (by decide) ⟨rfl, rfl, rfl⟩ rfl ?_
                    refine v_iload_n C dX4_faultOfTrade_97 rfl ?_
                    refine v_ialdN C dX4_faultOfTrade_98 hM.a3 (by omega) (by decide) ?_
                    refine v_aload_n C dX4_faultOfTrade_99 rfl ?_
                    refine v_iload_n C dX4_faultOfTrade_100 rfl ?_
                    refine v_iload_n C dX4_faultOfTrade_101 rfl ?_
                    refine v_iload C dX4_faultOfTrade_102 rfl ?_
                    refine v_callVi C (c_X4_marginWith hl hM _ (by omega) _) dX4_faultOfTrade_104 mX4_marginWith rfl hM.o rfl wd2_84 rfl rfl (Nat.le_of_ble_eq_true rfl) (hp_rmle hRm (by decide) (by decide)) (Nat.le_of_ble_eq_true rfl) (Nat.le_of_ble_eq_true rfl) ?_
                    refine v_icmp_lt (tgt := 128) C dX4_faultOfTrade_107 (by decide) (fun c107 => ?_) (fun c107 => ?_)
                    · refine v_iconst (v := nI 4) C dX4_faultOfTrade_128 (by decide) ?_
                      exact v_iret C E dX4_faultOfTrade_129 rfl (hp_rib (by first | (simp [mk_fT, mk_mw, *]; done) | (simp only [mk_fT, mk_mw]; grind)))
                    · refine v_aload_n C dX4_faultOfTrade_110 rfl ?_
                      refine v_get C 5 dX4_faultOfTrade_111 wd1_60 hM.o rfl (by decide) ⟨rfl, rfl, rfl⟩ rfl ?_
                      refine v_iload_n C dX4_faultOfTrade_114 rfl ?_
                      refine v_ialdN C dX4_faultOfTrade_115 hM.a3 (by omega) (by decide) ?_
                      refine v_aload_n C dX4_faultOfTrade_116 rfl ?_
                      refine v_iload_n C dX4_faultOfTrade_117 rfl ?_
                      refine v_iload_n C dX4_faultOfTrade_118 rfl ?_
                      refine v_iload C dX4_faultOfTrade_119 rfl ?_
                      refine v_ineg C dX4_faultOfTrade_121 ?_
                      refine v_callVi C (c_X4_marginWith hl hM _ (by omega) _) dX4_faultOfTrade_122 mX4_marginWith rfl hM.o rfl wd2_84 rfl rfl (Nat.le_of_ble_eq_true rfl) (hp_rmle hRm (by decide) (by decide)) (Nat.le_of_ble_eq_true rfl) (Nat.le_of_ble_eq_true rfl) ?_
                      refine v_icmp_ge (tgt := 130) C dX4_faultOfTrade_125 (by decide) (fun c125 => ?_) (fun c125 => ?_)
                      · refine v_iconst (v := nI 0) C dX4_faultOfTrade_130 (by decide) ?_
                        exact v_iret C E dX4_faultOfTrade_131 rfl (hp_rib (by first | (simp [mk_fT, mk_mw, *]; done) | (simp only [mk_fT, mk_mw]; grind)))
                      · refine v_iconst (v := nI 4) C dX4_faultOfTrade_128 (by decide) ?_
                        exact v_iret C E dX4_faultOfTrade_129 rfl (hp_rib (by first | (simp [mk_fT, mk_mw, *]; done) | (simp only [mk_fT, mk_mw]; grind)))
                  · refine v_iconst (v := nI 3) C dX4_faultOfTrade_91 (by decide) ?_
                    exact v_iret C E dX4_faultOfTrade_92 rfl (hp_rib (by first | (simp [mk_fT, mk_mw, *]; done) | (simp only [mk_fT, mk_mw]; grind)))
            · refine v_iconst (v := nI 2) C dX4_faultOfTrade_62 (by decide) ?_
              exact v_iret C E dX4_faultOfTrade_63 rfl (hp_rib (by first | (simp [mk_fT, mk_mw, *]; done) | (simp only [mk_fT, mk_mw]; grind)))
      · refine v_iconst (v := nI 1) C dX4_faultOfTrade_33 (by decide) ?_
        exact v_iret C E dX4_faultOfTrade_34 rfl (hp_rib (by first | (simp [mk_fT, mk_mw, *]; done) | (simp only [mk_fT, mk_mw]; grind)))
set_option maxHeartbeats 4000000 in
/-- what is wrong with a quote -/
theorem c_X4_faultOfQuote {G : hp_G} {l : Launch} (hl : l.stackTraces = false) {n : Nat} {h : Nat → Option va_E} {o : Nat} {M : mk_T} (hM : Mk G h o M) (on q : Int32) : Ct G l yX4_faultOfQuote cX4_faultOfQuote 3 (some .int) 1 0 0 [.ref o, .int on, .int q] (n, h) (hp_ri (mk_fQ M on q) (n, h)) := by
  refine Ct.of rfl hl (by simp [Value.category]) (Nat.le_of_ble_eq_true rfl) (fun K C E hRm hKl => ?_)
  subst hKl
  have hhz := hM.hz
  have htr := hM.tr
  have hct := hM.ct
  refine v_iload_n C dX4_faultOfQuote_0 rfl ?_
  refine v_aload_n C dX4_faultOfQuote_1 rfl ?_
  refine v_get (v := .int (nI (mk_hz M))) C 0 dX4_faultOfQuote_2 wd1_46 hM.o rfl (by decide) ⟨rfl, rfl, rfl⟩ rfl ?_
  refine v_callSNi C (c_X7_isNumber hl _ _) dX4_faultOfQuote_5 mX7_isNumber wd2_81 rfl rfl (Nat.le_of_ble_eq_true rfl) (hp_rmle hRm (by decide) (by decide)) (Nat.le_of_ble_eq_true rfl) (Nat.le_of_ble_eq_true rfl) ?_
  refine v_if_neB (tgt := 13) C dX4_faultOfQuote_8 (by decide) (fun c8 => ?_) (fun c8 => ?_)
  · refine v_iload_n C dX4_faultOfQuote_13 rfl ?_
    refine v_iconst (v := nI 1) C dX4_faultOfQuote_14 (by decide) ?_
    refine v_bipush (v := nI 99) C dX4_faultOfQuote_15 (by decide) ?_
    refine v_callSNi C (c_X7_isWithin hl _ _ _) dX4_faultOfQuote_17 mX7_isWithin wd2_70 rfl rfl (Nat.le_of_ble_eq_true rfl) (hp_rmle hRm (by decide) (by decide)) (Nat.le_of_ble_eq_true rfl) (Nat.le_of_ble_eq_true rfl) ?_
    refine v_if_eqB (tgt := 27) C dX4_faultOfQuote_20 (by decide) (fun c20 => ?_) (fun c20 => ?_)
    · refine v_iconst (v := nI 2) C dX4_faultOfQuote_27 (by decide) ?_
      exact v_iret C E dX4_faultOfQuote_28 rfl (hp_rib (by first | (simp [mk_fQ, *]; done) | (simp only [mk_fQ]; grind)))
    · refine v_iconst (v := nI 0) C dX4_faultOfQuote_23 (by decide) ?_
      refine v_goto (tgt := 28) C dX4_faultOfQuote_24 (by decide) ?_
      exact v_iret C E dX4_faultOfQuote_28 rfl (hp_rib (by first | (simp [mk_fQ, *]; done) | (simp only [mk_fQ]; grind)))
  · refine v_iconst (v := nI 1) C dX4_faultOfQuote_11 (by decide) ?_
    exact v_iret C E dX4_faultOfQuote_12 rfl (hp_rib (by first | (simp [mk_fQ, *]; done) | (simp only [mk_fQ]; grind)))
set_option maxHeartbeats 4000000 in
/-- what is wrong with a deposit -/
theorem c_X4_faultOfBringing {G : hp_G} {l : Launch} (hl : l.stackTraces = false) {n : Nat} {h : Nat → Option va_E} {o : Nat} {M : mk_T} (hM : Mk G h o M) (t a : Int32) : Ct G l yX4_faultOfBringing cX4_faultOfBringing 3 (some .int) 1 0 0 [.ref o, .int t, .int a] (n, h) (hp_ri (mk_fB M t a) (n, h)) := by
  refine Ct.of rfl hl (by simp [Value.category]) (Nat.le_of_ble_eq_true rfl) (fun K C E hRm hKl => ?_)
  subst hKl
  have hhz := hM.hz
  have htr := hM.tr
  have hct := hM.ct
  refine v_iload_n C dX4_faultOfBringing_0 rfl ?_
  refine v_aload_n C dX4_faultOfBringing_1 rfl ?_
  refine v_get (v := .int (nI (mk_tr M))) C 4 dX4_faultOfBringing_2 wd1_58 hM.o rfl (by decide) ⟨rfl, rfl, rfl⟩ rfl ?_
  refine v_callSNi C (c_X7_isNumber hl _ _) dX4_faultOfBringing_5 mX7_isNumber wd2_81 rfl rfl (Nat.le_of_ble_eq_true rfl) (hp_rmle hRm (by decide) (by decide)) (Nat.le_of_ble_eq_true rfl) (Nat.le_of_ble_eq_true rfl) ?_
  refine v_if_neB (tgt := 13) C dX4_faultOfBringing_8 (by decide) (fun c8 => ?_) (fun c8 => ?_)
  · obtain ⟨j, hj, rfl⟩ := hp_num_j c8 (by omega)
    have ej := nI_clamp (show j < 2 ^ 31 by omega)
    refine v_iload_n C dX4_faultOfBringing_13 rfl ?_
    refine v_iconst (v := nI 1) C dX4_faultOfBringing_14 (by decide) ?_
    refine v_sipush (v := nI 9999) C dX4_faultOfBringing_15 (by decide) ?_
    refine v_callSNi C (c_X7_isWithin hl _ _ _) dX4_faultOfBringing_18 mX7_isWithin wd2_70 rfl rfl (Nat.le_of_ble_eq_true rfl) (hp_rmle hRm (by decide) (by decide)) (Nat.le_of_ble_eq_true rfl) (Nat.le_of_ble_eq_true rfl) ?_
    refine v_if_neB (tgt := 26) C dX4_faultOfBringing_21 (by decide) (fun c21 => ?_) (fun c21 => ?_)
    · refine v_aload_n C dX4_faultOfBringing_26 rfl ?_
      refine v_get C 6 dX4_faultOfBringing_27 wd1_62 hM.o rfl (by decide) ⟨rfl, rfl, rfl⟩ rfl ?_
      refine v_iload_n C dX4_faultOfBringing_30 rfl ?_
      refine v_ialdN C dX4_faultOfBringing_31 hM.a4 (by omega) (by decide) ?_
      refine v_iconst (v := nI 2) C dX4_faultOfBringing_32 (by decide) ?_
      refine v_icmp_ne (tgt := 40) C dX4_faultOfBringing_33 (by decide) (fun c33 => ?_) (fun c33 => ?_)
      · refine v_iconst (v := nI 0) C dX4_faultOfBringing_40 (by decide) ?_
        exact v_iret C E dX4_faultOfBringing_41 rfl (hp_rib (by first | (simp [mk_fB, *]; done) | (simp only [mk_fB]; grind)))
      · refine v_iconst (v := nI 3) C dX4_faultOfBringing_36 (by decide) ?_
        refine v_goto (tgt := 41) C dX4_faultOfBringing_37 (by decide) ?_
        exact v_iret C E dX4_faultOfBringing_41 rfl (hp_rib (by first | (simp [mk_fB, *]; done) | (simp only [mk_fB]; grind)))
    · refine v_iconst (v := nI 2) C dX4_faultOfBringing_24 (by decide) ?_
      exact v_iret C E dX4_faultOfBringing_25 rfl (hp_rib (by first | (simp [mk_fB, *]; done) | (simp only [mk_fB]; grind)))
  · refine v_iconst (v := nI 1) C dX4_faultOfBringing_11 (by decide) ?_
    exact v_iret C E dX4_faultOfBringing_12 rfl (hp_rib (by first | (simp [mk_fB, *]; done) | (simp only [mk_fB]; grind)))
set_option maxHeartbeats 4000000 in
/-- what is wrong with a withdrawal -/
theorem c_X4_faultOfTaking {G : hp_G} {l : Launch} (hl : l.stackTraces = false) {n : Nat} {h : Nat → Option va_E} {o : Nat} {M : mk_T} (hM : Mk G h o M) (t a : Int32) : Ct G l yX4_faultOfTaking cX4_faultOfTaking 4 (some .int) 4 0 0 [.ref o, .int t, .int a] (n, h) (hp_ri (mk_fK M t a) (n, h)) := by
  refine Ct.of rfl hl (by simp [Value.category]) (Nat.le_of_ble_eq_true rfl) (fun K C E hRm hKl => ?_)
  subst hKl
  have hhz := hM.hz
  have htr := hM.tr
  have hct := hM.ct
  refine v_aload_n C dX4_faultOfTaking_0 rfl ?_
  refine v_iload_n C dX4_faultOfTaking_1 rfl ?_
  refine v_iload_n C dX4_faultOfTaking_2 rfl ?_
  refine v_callVi C (c_X4_faultOfBringing hl hM _ _) dX4_faultOfTaking_3 mX4_faultOfBringing rfl hM.o rfl wd2_119 rfl rfl (Nat.le_of_ble_eq_true rfl) (hp_rmle hRm (by decide) (by decide)) (Nat.le_of_ble_eq_true rfl) (Nat.le_of_ble_eq_true rfl) ?_
  refine v_istore_n C dX4_faultOfTaking_6 (by decide) ?_
  refine v_iload_n C dX4_faultOfTaking_7 rfl ?_
  refine v_if_eq (tgt := 13) C dX4_faultOfTaking_8 (by decide) (fun c8 => ?_) (fun c8 => ?_)
  · have z8 := mk_fB_0 c8
    obtain ⟨j, hj, rfl⟩ := hp_num_j z8.1 (by omega)
    have ej := nI_clamp (show j < 2 ^ 31 by omega)
    refine v_aload_n C dX4_faultOfTaking_13 rfl ?_
    refine v_get C 5 dX4_faultOfTaking_14 wd1_60 hM.o rfl (by decide) ⟨rfl, rfl, rfl⟩ rfl ?_
    refine v_iload_n C dX4_faultOfTaking_17 rfl ?_
    refine v_ialdN C dX4_faultOfTaking_18 hM.a3 (by omega) (by decide) ?_
    refine v_iload_n C dX4_faultOfTaking_19 rfl ?_
    refine v_isub C dX4_faultOfTaking_20 ?_
    refine v_aload_n C dX4_faultOfTaking_21 rfl ?_
    refine v_iload_n C dX4_faultOfTaking_22 rfl ?_
    refine v_callVi C (c_X4_margin hl hM _) dX4_faultOfTaking_23 mX4_margin rfl hM.o rfl wd2_100 rfl rfl (Nat.le_of_ble_eq_true rfl) (hp_rmle hRm (by decide) (by decide)) (Nat.le_of_ble_eq_true rfl) (Nat.le_of_ble_eq_true rfl) ?_
    refine v_icmp_ge (tgt := 33) C dX4_faultOfTaking_26 (by decide) (fun c26 => ?_) (fun c26 => ?_)
    · refine v_iconst (v := nI 0) C dX4_faultOfTaking_33 (by decide) ?_
      exact v_iret C E dX4_faultOfTaking_34 rfl (hp_rib (by first | (simp [mk_fK, *]; done) | (simp only [mk_fK]; grind)))
    · refine v_iconst (v := nI 4) C dX4_faultOfTaking_29 (by decide) ?_
      refine v_goto (tgt := 34) C dX4_faultOfTaking_30 (by decide) ?_
      exact v_iret C E dX4_faultOfTaking_34 rfl (hp_rib (by first | (simp [mk_fK, *]; done) | (simp only [mk_fK]; grind)))
  · refine v_iload_n C dX4_faultOfTaking_11 rfl ?_
    exact v_iret C E dX4_faultOfTaking_12 rfl (hp_rib (by first | (simp [mk_fK, *]; done) | (simp only [mk_fK]; grind)))
abbrev mk_plH (M : mk_T) (p r : Int32) : mk_T := mk_phz (mk_st (mk_st (mk_st M 0 (mk_hz M) p) 1 (mk_hz M) p) 2 (mk_hz M) r) (mk_hz M + 1)
abbrev mk_plT (M : mk_T) (m : Int32) : mk_T := mk_ptr (mk_pin (mk_st (mk_st M 3 (mk_tr M) m) 4 (mk_tr M) (nI 0)) (M.2.2.2.1 + m.toInt64)) (mk_tr M + 1)
abbrev mk_con (M : mk_T) (b s on q d : Int32) : mk_T := mk_pct (mk_st (mk_st (mk_st (mk_st (mk_st M 5 (mk_ct M) b) 6 (mk_ct M) s) 7 (mk_ct M) on) 8 (mk_ct M) q) 9 (mk_ct M) (mk_dy M + d)) (mk_ct M + 1)
abbrev mk_bri (M : mk_T) (j : Nat) (a : Int32) : mk_T := mk_pin (mk_st M 3 j (mk_ar M 3 j + a)) (M.2.2.2.1 + a.toInt64)
abbrev mk_tak (M : mk_T) (j : Nat) (a : Int32) : mk_T := mk_pou (mk_st M 3 j (mk_ar M 3 j - a)) (M.2.2.2.2 + a.toInt64)
abbrev mk_giv (M : mk_T) (j : Nat) (a : Int32) : mk_T := mk_pfu (mk_st M 3 j (mk_ar M 3 j - a)) (mk_fu M + a)
set_option maxHeartbeats 4000000 in
/-- a new horizon -/
theorem c_X4_placeHorizon {G : hp_G} {l : Launch} (hl : l.stackTraces = false) {n : Nat} {h0 : Nat → Option va_E} {o : Nat} {M : mk_T} (hM : Mk G h0 o M) (hf : mk_hz M < 4) (p r : Int32) : Ct G l yX4_placeHorizon cX4_placeHorizon 3 (some .int) 0 0 0 [.ref o, .int p, .int r] (n, h0) (hp_iq (fun r0 τ => r0 = nI (mk_hz M) ∧ mk_Q G n h0 o (mk_plH M p r) τ)) := by
  have hhz := hM.hz
  have htr := hM.tr
  have hct := hM.ct
  have hbase := hM.base
  have hO : ∀ a, (a < o ∨ o + 11 ≤ a) → h0 a = h0 a := fun _ _ => rfl
  refine Ct.of rfl hl (by simp [Value.category]) (Nat.le_of_ble_eq_true rfl) (fun K C E hRm hKl => ?_)
  subst hKl
  refine v_aload_n C dX4_placeHorizon_0 rfl ?_
  refine v_get C 1 dX4_placeHorizon_1 wd1_49 hM.o rfl (by decide) ⟨rfl, rfl, rfl⟩ rfl ?_
  refine v_aload_n C dX4_placeHorizon_4 rfl ?_
  refine v_get (v := .int (nI (mk_hz M))) C 0 dX4_placeHorizon_5 wd1_46 hM.o rfl (by decide) ⟨rfl, rfl, rfl⟩ rfl ?_
  refine v_iload_n C dX4_placeHorizon_8 rfl ?_
  refine v_iastN C dX4_placeHorizon_9 (by omega) hM.a0 (by omega) (by decide) (fun h9 e9 g9 => ?_)
  have hM9 := hM.st (k := 0) (by decide) rfl e9 g9
  have hO9 : ∀ a, (a < o ∨ o + 11 ≤ a) → h9 a = h0 a := fun a ha => (g9 a (by omega)).trans (hO a ha)
  refine v_aload_n C dX4_placeHorizon_10 rfl ?_
  refine v_get C 2 dX4_placeHorizon_11 wd1_51 hM9.o rfl (by decide) ⟨rfl, rfl, rfl⟩ rfl ?_
  refine v_aload_n C dX4_placeHorizon_14 rfl ?_
  refine v_get (v := .int (nI (mk_hz M))) C 0 dX4_placeHorizon_15 wd1_46 hM9.o rfl (by decide) ⟨rfl, rfl, rfl⟩ rfl ?_
  refine v_iload_n C dX4_placeHorizon_18 rfl ?_
  refine v_iastN C dX4_placeHorizon_19 (by omega) hM9.a1 (by omega) (by decide) (fun h19 e19 g19 => ?_)
  have hM19 := hM9.st (k := 1) (by decide) rfl e19 g19
  have hO19 : ∀ a, (a < o ∨ o + 11 ≤ a) → h19 a = h0 a := fun a ha => (g19 a (by omega)).trans (hO9 a ha)
  refine v_aload_n C dX4_placeHorizon_20 rfl ?_
  refine v_get C 3 dX4_placeHorizon_21 wd1_53 hM19.o rfl (by decide) ⟨rfl, rfl, rfl⟩ rfl ?_
  refine v_aload_n C dX4_placeHorizon_24 rfl ?_
  refine v_get (v := .int (nI (mk_hz M))) C 0 dX4_placeHorizon_25 wd1_46 hM19.o rfl (by decide) ⟨rfl, rfl, rfl⟩ rfl ?_
  refine v_iload_n C dX4_placeHorizon_28 rfl ?_
  refine v_iastN C dX4_placeHorizon_29 (by omega) hM19.a2 (by omega) (by decide) (fun h29 e29 g29 => ?_)
  have hM29 := hM19.st (k := 2) (by decide) rfl e29 g29
  have hO29 : ∀ a, (a < o ∨ o + 11 ≤ a) → h29 a = h0 a := fun a ha => (g29 a (by omega)).trans (hO19 a ha)
  refine v_aload_n C dX4_placeHorizon_30 rfl ?_
  refine v_dup C dX4_placeHorizon_31 rfl ?_
  refine v_get (v := .int (nI (mk_hz M))) C 0 dX4_placeHorizon_32 wd1_46 hM29.o rfl (by decide) ⟨rfl, rfl, rfl⟩ rfl ?_
  refine v_iconst (v := nI 1) C dX4_placeHorizon_35 (by decide) ?_
  refine v_iaddN C dX4_placeHorizon_36 ?_
  refine v_put C 0 dX4_placeHorizon_37 wd1_46 hbase hM29.o rfl (by decide) ⟨rfl, rfl, rfl, rfl⟩ rfl rfl rfl (Nat.le_of_ble_eq_true rfl) (fun h37 e37 g37 => ?_)
  have hM37 := hM29.phz e37 g37 (by omega)
  have hO37 : ∀ a, (a < o ∨ o + 11 ≤ a) → h37 a = h0 a := fun a ha => (g37 a (by omega)).trans (hO29 a ha)
  refine v_aload_n C dX4_placeHorizon_40 rfl ?_
  refine v_get (v := .int (nI ((mk_hz M + 1)))) C 0 dX4_placeHorizon_41 wd1_46 hM37.o rfl (by decide) ⟨rfl, rfl, rfl⟩ rfl ?_
  refine v_iconst (v := nI 1) C dX4_placeHorizon_44 (by decide) ?_
  refine v_isubN C dX4_placeHorizon_45 (by omega) ?_
  exact v_iret C E dX4_placeHorizon_46 rfl ⟨_, rfl, rfl, rfl, hM37, hO37⟩
set_option maxHeartbeats 4000000 in
/-- a new trader -/
theorem c_X4_placeTrader {G : hp_G} {l : Launch} (hl : l.stackTraces = false) {n : Nat} {h0 : Nat → Option va_E} {o : Nat} {M : mk_T} (hM : Mk G h0 o M) (hf : mk_tr M < 6) (m : Int32) : Ct G l yX4_placeTrader cX4_placeTrader 2 (some .int) 0 0 0 [.ref o, .int m] (n, h0) (hp_iq (fun r0 τ => r0 = nI (mk_tr M) ∧ mk_Q G n h0 o (mk_plT M m) τ)) := by
  have hhz := hM.hz
  have htr := hM.tr
  have hct := hM.ct
  have hbase := hM.base
  have hO : ∀ a, (a < o ∨ o + 11 ≤ a) → h0 a = h0 a := fun _ _ => rfl
  refine Ct.of rfl hl (by simp [Value.category]) (Nat.le_of_ble_eq_true rfl) (fun K C E hRm hKl => ?_)
  subst hKl
  refine v_aload_n C dX4_placeTrader_0 rfl ?_
  refine v_get C 5 dX4_placeTrader_1 wd1_60 hM.o rfl (by decide) ⟨rfl, rfl, rfl⟩ rfl ?_
  refine v_aload_n C dX4_placeTrader_4 rfl ?_
  refine v_get (v := .int (nI (mk_tr M))) C 4 dX4_placeTrader_5 wd1_58 hM.o rfl (by decide) ⟨rfl, rfl, rfl⟩ rfl ?_
  refine v_iload_n C dX4_placeTrader_8 rfl ?_
  refine v_iastN C dX4_placeTrader_9 (by omega) hM.a3 (by omega) (by decide) (fun h9 e9 g9 => ?_)
  have hM9 := hM.st (k := 3) (by decide) rfl e9 g9
  have hO9 : ∀ a, (a < o ∨ o + 11 ≤ a) → h9 a = h0 a := fun a ha => (g9 a (by omega)).trans (hO a ha)
  refine v_aload_n C dX4_placeTrader_10 rfl ?_
  refine v_get C 6 dX4_placeTrader_11 wd1_62 hM9.o rfl (by decide) ⟨rfl, rfl, rfl⟩ rfl ?_
  refine v_aload_n C dX4_placeTrader_14 rfl ?_
  refine v_get (v := .int (nI (mk_tr M))) C 4 dX4_placeTrader_15 wd1_58 hM9.o rfl (by decide) ⟨rfl, rfl, rfl⟩ rfl ?_
  refine v_iconst (v := nI 0) C dX4_placeTrader_18 (by decide) ?_
  refine v_iastN C dX4_placeTrader_19 (by omega) hM9.a4 (by omega) (by decide) (fun h19 e19 g19 => ?_)
  have hM19 := hM9.st (k := 4) (by decide) rfl e19 g19
  have hO19 : ∀ a, (a < o ∨ o + 11 ≤ a) → h19 a = h0 a := fun a ha => (g19 a (by omega)).trans (hO9 a ha)
  refine v_aload_n C dX4_placeTrader_20 rfl ?_
  refine v_dup C dX4_placeTrader_21 rfl ?_
  refine v_get C 16 dX4_placeTrader_22 wd1_83 hM19.o rfl (by decide) ⟨rfl, rfl, rfl⟩ rfl ?_
  refine v_iload_n C dX4_placeTrader_25 rfl ?_
  refine v_i2l C dX4_placeTrader_26 ?_
  refine v_ladd C dX4_placeTrader_27 ?_
  refine v_put C 16 dX4_placeTrader_28 wd1_83 hbase hM19.o rfl (by decide) ⟨rfl, rfl, rfl, rfl⟩ rfl rfl rfl (Nat.le_of_ble_eq_true rfl) (fun h28 e28 g28 => ?_)
  have hM28 := hM19.pin e28 g28
  have hO28 : ∀ a, (a < o ∨ o + 11 ≤ a) → h28 a = h0 a := fun a ha => (g28 a (by omega)).trans (hO19 a ha)
  refine v_aload_n C dX4_placeTrader_31 rfl ?_
  refine v_dup C dX4_placeTrader_32 rfl ?_
  refine v_get (v := .int (nI (mk_tr M))) C 4 dX4_placeTrader_33 wd1_58 hM28.o rfl (by decide) ⟨rfl, rfl, rfl⟩ rfl ?_
  refine v_iconst (v := nI 1) C dX4_placeTrader_36 (by decide) ?_
  refine v_iaddN C dX4_placeTrader_37 ?_
  refine v_put C 4 dX4_placeTrader_38 wd1_58 hbase hM28.o rfl (by decide) ⟨rfl, rfl, rfl, rfl⟩ rfl rfl rfl (Nat.le_of_ble_eq_true rfl) (fun h38 e38 g38 => ?_)
  have hM38 := hM28.ptr e38 g38 (by omega)
  have hO38 : ∀ a, (a < o ∨ o + 11 ≤ a) → h38 a = h0 a := fun a ha => (g38 a (by omega)).trans (hO28 a ha)
  refine v_aload_n C dX4_placeTrader_41 rfl ?_
  refine v_get (v := .int (nI ((mk_tr M + 1)))) C 4 dX4_placeTrader_42 wd1_58 hM38.o rfl (by decide) ⟨rfl, rfl, rfl⟩ rfl ?_
  refine v_iconst (v := nI 1) C dX4_placeTrader_45 (by decide) ?_
  refine v_isubN C dX4_placeTrader_46 (by omega) ?_
  exact v_iret C E dX4_placeTrader_47 rfl ⟨_, rfl, rfl, rfl, hM38, hO38⟩
set_option maxHeartbeats 4000000 in
/-- a new contract -/
theorem c_X4_conclude {G : hp_G} {l : Launch} (hl : l.stackTraces = false) {n : Nat} {h0 : Nat → Option va_E} {o : Nat} {M : mk_T} (hM : Mk G h0 o M) (hf : mk_ct M < 20) (b s on q d : Int32) : Ct G l yX4_conclude cX4_conclude 6 (some .int) 0 0 0 [.ref o, .int b, .int s, .int on, .int q, .int d] (n, h0) (hp_iq (fun r0 τ => r0 = nI (mk_ct M) ∧ mk_Q G n h0 o (mk_con M b s on q d) τ)) := by
  have hhz := hM.hz
  have htr := hM.tr
  have hct := hM.ct
  have hbase := hM.base
  have hO : ∀ a, (a < o ∨ o + 11 ≤ a) → h0 a = h0 a := fun _ _ => rfl
  refine Ct.of rfl hl (by simp [Value.category]) (Nat.le_of_ble_eq_true rfl) (fun K C E hRm hKl => ?_)
  subst hKl
  refine v_aload_n C dX4_conclude_0 rfl ?_
  refine v_get C 8 dX4_conclude_1 wd1_67 hM.o rfl (by decide) ⟨rfl, rfl, rfl⟩ rfl ?_
  refine v_aload_n C dX4_conclude_4 rfl ?_
  refine v_get (v := .int (nI (mk_ct M))) C 7 dX4_conclude_5 wd1_65 hM.o rfl (by decide) ⟨rfl, rfl, rfl⟩ rfl ?_
  refine v_iload_n C dX4_conclude_8 rfl ?_
  refine v_iastN C dX4_conclude_9 (by omega) hM.a5 (by omega) (by decide) (fun h9 e9 g9 => ?_)
  have hM9 := hM.st (k := 5) (by decide) rfl e9 g9
  have hO9 : ∀ a, (a < o ∨ o + 11 ≤ a) → h9 a = h0 a := fun a ha => (g9 a (by omega)).trans (hO a ha)
  refine v_aload_n C dX4_conclude_10 rfl ?_
  refine v_get C 9 dX4_conclude_11 wd1_69 hM9.o rfl (by decide) ⟨rfl, rfl, rfl⟩ rfl ?_
  refine v_aload_n C dX4_conclude_14 rfl ?_
  refine v_get (v := .int (nI (mk_ct M))) C 7 dX4_conclude_15 wd1_65 hM9.o rfl (by decide) ⟨rfl, rfl, rfl⟩ rfl ?_
  refine v_iload_n C dX4_conclude_18 rfl ?_
  refine v_iastN C dX4_conclude_19 (by omega) hM9.a6 (by omega) (by decide) (fun h19 e19 g19 => ?_)
  have hM19 := hM9.st (k := 6) (by decide) rfl e19 g19
  have hO19 : ∀ a, (a < o ∨ o + 11 ≤ a) → h19 a = h0 a := fun a ha => (g19 a (by omega)).trans (hO9 a ha)
  refine v_aload_n C dX4_conclude_20 rfl ?_
  refine v_get C 10 dX4_conclude_21 wd1_71 hM19.o rfl (by decide) ⟨rfl, rfl, rfl⟩ rfl ?_
  refine v_aload_n C dX4_conclude_24 rfl ?_
  refine v_get (v := .int (nI (mk_ct M))) C 7 dX4_conclude_25 wd1_65 hM19.o rfl (by decide) ⟨rfl, rfl, rfl⟩ rfl ?_
  refine v_iload_n C dX4_conclude_28 rfl ?_
  refine v_iastN C dX4_conclude_29 (by omega) hM19.a7 (by omega) (by decide) (fun h29 e29 g29 => ?_)
  have hM29 := hM19.st (k := 7) (by decide) rfl e29 g29
  have hO29 : ∀ a, (a < o ∨ o + 11 ≤ a) → h29 a = h0 a := fun a ha => (g29 a (by omega)).trans (hO19 a ha)
  refine v_aload_n C dX4_conclude_30 rfl ?_
  refine v_get C 11 dX4_conclude_31 wd1_73 hM29.o rfl (by decide) ⟨rfl, rfl, rfl⟩ rfl ?_
  refine v_aload_n C dX4_conclude_34 rfl ?_
  refine v_get (v := .int (nI (mk_ct M))) C 7 dX4_conclude_35 wd1_65 hM29.o rfl (by decide) ⟨rfl, rfl, rfl⟩ rfl ?_
  refine v_iload C dX4_conclude_38 rfl ?_
  refine v_iastN C dX4_conclude_40 (by omega) hM29.a8 (by omega) (by decide) (fun h40 e40 g40 => ?_)
  have hM40 := hM29.st (k := 8) (by decide) rfl e40 g40
  have hO40 : ∀ a, (a < o ∨ o + 11 ≤ a) → h40 a = h0 a := fun a ha => (g40 a (by omega)).trans (hO29 a ha)
  refine v_aload_n C dX4_conclude_41 rfl ?_
  refine v_get C 12 dX4_conclude_42 wd1_75 hM40.o rfl (by decide) ⟨rfl, rfl, rfl⟩ rfl ?_
  refine v_aload_n C dX4_conclude_45 rfl ?_
  refine v_get (v := .int (nI (mk_ct M))) C 7 dX4_conclude_46 wd1_65 hM40.o rfl (by decide) ⟨rfl, rfl, rfl⟩ rfl ?_
  refine v_aload_n C dX4_conclude_49 rfl ?_
  refine v_get C 13 dX4_conclude_50 wd1_77 hM40.o rfl (by decide) ⟨rfl, rfl, rfl⟩ rfl ?_
  refine v_iload C dX4_conclude_53 rfl ?_
  refine v_iadd C dX4_conclude_55 ?_
  refine v_iastN C dX4_conclude_56 (by omega) hM40.a9 (by omega) (by decide) (fun h56 e56 g56 => ?_)
  have hM56 := hM40.st (k := 9) (by decide) rfl e56 g56
  have hO56 : ∀ a, (a < o ∨ o + 11 ≤ a) → h56 a = h0 a := fun a ha => (g56 a (by omega)).trans (hO40 a ha)
  refine v_aload_n C dX4_conclude_57 rfl ?_
  refine v_dup C dX4_conclude_58 rfl ?_
  refine v_get (v := .int (nI (mk_ct M))) C 7 dX4_conclude_59 wd1_65 hM56.o rfl (by decide) ⟨rfl, rfl, rfl⟩ rfl ?_
  refine v_iconst (v := nI 1) C dX4_conclude_62 (by decide) ?_
  refine v_iaddN C dX4_conclude_63 ?_
  refine v_put C 7 dX4_conclude_64 wd1_65 hbase hM56.o rfl (by decide) ⟨rfl, rfl, rfl, rfl⟩ rfl rfl rfl (Nat.le_of_ble_eq_true rfl) (fun h64 e64 g64 => ?_)
  have hM64 := hM56.pct e64 g64 (by omega)
  have hO64 : ∀ a, (a < o ∨ o + 11 ≤ a) → h64 a = h0 a := fun a ha => (g64 a (by omega)).trans (hO56 a ha)
  refine v_aload_n C dX4_conclude_67 rfl ?_
  refine v_get (v := .int (nI ((mk_ct M + 1)))) C 7 dX4_conclude_68 wd1_65 hM64.o rfl (by decide) ⟨rfl, rfl, rfl⟩ rfl ?_
  refine v_iconst (v := nI 1) C dX4_conclude_71 (by decide) ?_
  refine v_isubN C dX4_conclude_72 (by omega) ?_
  exact v_iret C E dX4_conclude_73 rfl ⟨_, rfl, rfl, rfl, hM64, hO64⟩
set_option maxHeartbeats 4000000 in
/-- a new quote -/
theorem c_X4_replaceQuote {G : hp_G} {l : Launch} (hl : l.stackTraces = false) {n : Nat} {h0 : Nat → Option va_E} {o : Nat} {M : mk_T} (hM : Mk G h0 o M) {j : Nat} (hj : j < mk_hz M) (q : Int32) : Ct G l yX4_replaceQuote cX4_replaceQuote 4 (some .int) 0 0 0 [.ref o, .int (nI j), .int q] (n, h0) (hp_iq (fun r0 τ => r0 = mk_ar M 1 j ∧ mk_Q G n h0 o (mk_st M 1 j q) τ)) := by
  have hhz := hM.hz
  have htr := hM.tr
  have hct := hM.ct
  have hbase := hM.base
  have hO : ∀ a, (a < o ∨ o + 11 ≤ a) → h0 a = h0 a := fun _ _ => rfl
  refine Ct.of rfl hl (by simp [Value.category]) (Nat.le_of_ble_eq_true rfl) (fun K C E hRm hKl => ?_)
  subst hKl
  refine v_aload_n C dX4_replaceQuote_0 rfl ?_
  refine v_get C 2 dX4_replaceQuote_1 wd1_51 hM.o rfl (by decide) ⟨rfl, rfl, rfl⟩ rfl ?_
  refine v_iload_n C dX4_replaceQuote_4 rfl ?_
  refine v_ialdN C dX4_replaceQuote_5 hM.a1 (by omega) (by decide) ?_
  refine v_istore_n C dX4_replaceQuote_6 (by decide) ?_
  refine v_aload_n C dX4_replaceQuote_7 rfl ?_
  refine v_get C 2 dX4_replaceQuote_8 wd1_51 hM.o rfl (by decide) ⟨rfl, rfl, rfl⟩ rfl ?_
  refine v_iload_n C dX4_replaceQuote_11 rfl ?_
  refine v_iload_n C dX4_replaceQuote_12 rfl ?_
  refine v_iastN C dX4_replaceQuote_13 (by omega) hM.a1 (by omega) (by decide) (fun h13 e13 g13 => ?_)
  have hM13 := hM.st (k := 1) (by decide) rfl e13 g13
  have hO13 : ∀ a, (a < o ∨ o + 11 ≤ a) → h13 a = h0 a := fun a ha => (g13 a (by omega)).trans (hO a ha)
  refine v_iload_n C dX4_replaceQuote_14 rfl ?_
  exact v_iret C E dX4_replaceQuote_15 rfl ⟨_, rfl, rfl, rfl, hM13, hO13⟩
set_option maxHeartbeats 4000000 in
/-- money is brought -/
theorem c_X4_bringMoney {G : hp_G} {l : Launch} (hl : l.stackTraces = false) {n : Nat} {h0 : Nat → Option va_E} {o : Nat} {M : mk_T} (hM : Mk G h0 o M) {j : Nat} (hj : j < mk_tr M) (a : Int32) : Ct G l yX4_bringMoney cX4_bringMoney 3 (some .int) 0 0 0 [.ref o, .int (nI j), .int a] (n, h0) (hp_iq (fun r0 τ => r0 = mk_ar (mk_bri M j a) 3 j ∧ mk_Q G n h0 o (mk_bri M j a) τ)) := by
  have hhz := hM.hz
  have htr := hM.tr
  have hct := hM.ct
  have hbase := hM.base
  have hO : ∀ a, (a < o ∨ o + 11 ≤ a) → h0 a = h0 a := fun _ _ => rfl
  refine Ct.of rfl hl (by simp [Value.category]) (Nat.le_of_ble_eq_true rfl) (fun K C E hRm hKl => ?_)
  subst hKl
  refine v_aload_n C dX4_bringMoney_0 rfl ?_
  refine v_get C 5 dX4_bringMoney_1 wd1_60 hM.o rfl (by decide) ⟨rfl, rfl, rfl⟩ rfl ?_
  refine v_iload_n C dX4_bringMoney_4 rfl ?_
  refine v_dup2 C dX4_bringMoney_5 rfl rfl ?_
  refine v_ialdN C dX4_bringMoney_6 hM.a3 (by omega) (by decide) ?_
  refine v_iload_n C dX4_bringMoney_7 rfl ?_
  refine v_iadd C dX4_bringMoney_8 ?_
  refine v_iastN C dX4_bringMoney_9 (by omega) hM.a3 (by omega) (by decide) (fun h9 e9 g9 => ?_)
  have hM9 := hM.st (k := 3) (by decide) rfl e9 g9
  have hO9 : ∀ a, (a < o ∨ o + 11 ≤ a) → h9 a = h0 a := fun a ha => (g9 a (by omega)).trans (hO a ha)
  refine v_aload_n C dX4_bringMoney_10 rfl ?_
  refine v_dup C dX4_bringMoney_11 rfl ?_
  refine v_get C 16 dX4_bringMoney_12 wd1_83 hM9.o rfl (by decide) ⟨rfl, rfl, rfl⟩ rfl ?_
  refine v_iload_n C dX4_bringMoney_15 rfl ?_
  refine v_i2l C dX4_bringMoney_16 ?_
  refine v_ladd C dX4_bringMoney_17 ?_
  refine v_put C 16 dX4_bringMoney_18 wd1_83 hbase hM9.o rfl (by decide) ⟨rfl, rfl, rfl, rfl⟩ rfl rfl rfl (Nat.le_of_ble_eq_true rfl) (fun h18 e18 g18 => ?_)
  have hM18 := hM9.pin e18 g18
  have hO18 : ∀ a, (a < o ∨ o + 11 ≤ a) → h18 a = h0 a := fun a ha => (g18 a (by omega)).trans (hO9 a ha)
  refine v_aload_n C dX4_bringMoney_21 rfl ?_
  refine v_get C 5 dX4_bringMoney_22 wd1_60 hM18.o rfl (by decide) ⟨rfl, rfl, rfl⟩ rfl ?_
  refine v_iload_n C dX4_bringMoney_25 rfl ?_
  refine v_ialdN C dX4_bringMoney_26 hM18.a3 (by omega) (by decide) ?_
  exact v_iret C E dX4_bringMoney_27 rfl ⟨_, rfl, rfl, rfl, hM18, hO18⟩
set_option maxHeartbeats 4000000 in
/-- money is taken -/
theorem c_X4_takeMoney {G : hp_G} {l : Launch} (hl : l.stackTraces = false) {n : Nat} {h0 : Nat → Option va_E} {o : Nat} {M : mk_T} (hM : Mk G h0 o M) {j : Nat} (hj : j < mk_tr M) (a : Int32) : Ct G l yX4_takeMoney cX4_takeMoney 3 (some .int) 0 0 0 [.ref o, .int (nI j), .int a] (n, h0) (hp_iq (fun r0 τ => r0 = mk_ar (mk_tak M j a) 3 j ∧ mk_Q G n h0 o (mk_tak M j a) τ)) := by
  have hhz := hM.hz
  have htr := hM.tr
  have hct := hM.ct
  have hbase := hM.base
  have hO : ∀ a, (a < o ∨ o + 11 ≤ a) → h0 a = h0 a := fun _ _ => rfl
  refine Ct.of rfl hl (by simp [Value.category]) (Nat.le_of_ble_eq_true rfl) (fun K C E hRm hKl => ?_)
  subst hKl
  refine v_aload_n C dX4_takeMoney_0 rfl ?_
  refine v_get C 5 dX4_takeMoney_1 wd1_60 hM.o rfl (by decide) ⟨rfl, rfl, rfl⟩ rfl ?_
  refine v_iload_n C dX4_takeMoney_4 rfl ?_
  refine v_dup2 C dX4_takeMoney_5 rfl rfl ?_
  refine v_ialdN C dX4_takeMoney_6 hM.a3 (by omega) (by decide) ?_
  refine v_iload_n C dX4_takeMoney_7 rfl ?_
  refine v_isub C dX4_takeMoney_8 ?_
  refine v_iastN C dX4_takeMoney_9 (by omega) hM.a3 (by omega) (by decide) (fun h9 e9 g9 => ?_)
  have hM9 := hM.st (k := 3) (by decide) rfl e9 g9
  have hO9 : ∀ a, (a < o ∨ o + 11 ≤ a) → h9 a = h0 a := fun a ha => (g9 a (by omega)).trans (hO a ha)
  refine v_aload_n C dX4_takeMoney_10 rfl ?_
  refine v_dup C dX4_takeMoney_11 rfl ?_
  refine v_get C 17 dX4_takeMoney_12 wd1_85 hM9.o rfl (by decide) ⟨rfl, rfl, rfl⟩ rfl ?_
  refine v_iload_n C dX4_takeMoney_15 rfl ?_
  refine v_i2l C dX4_takeMoney_16 ?_
  refine v_ladd C dX4_takeMoney_17 ?_
  refine v_put C 17 dX4_takeMoney_18 wd1_85 hbase hM9.o rfl (by decide) ⟨rfl, rfl, rfl, rfl⟩ rfl rfl rfl (Nat.le_of_ble_eq_true rfl) (fun h18 e18 g18 => ?_)
  have hM18 := hM9.pou e18 g18
  have hO18 : ∀ a, (a < o ∨ o + 11 ≤ a) → h18 a = h0 a := fun a ha => (g18 a (by omega)).trans (hO9 a ha)
  refine v_aload_n C dX4_takeMoney_21 rfl ?_
  refine v_get C 5 dX4_takeMoney_22 wd1_60 hM18.o rfl (by decide) ⟨rfl, rfl, rfl⟩ rfl ?_
  refine v_iload_n C dX4_takeMoney_25 rfl ?_
  refine v_ialdN C dX4_takeMoney_26 hM18.a3 (by omega) (by decide) ?_
  exact v_iret C E dX4_takeMoney_27 rfl ⟨_, rfl, rfl, rfl, hM18, hO18⟩
set_option maxHeartbeats 4000000 in
/-- money is given -/
theorem c_X4_giveToFund {G : hp_G} {l : Launch} (hl : l.stackTraces = false) {n : Nat} {h0 : Nat → Option va_E} {o : Nat} {M : mk_T} (hM : Mk G h0 o M) {j : Nat} (hj : j < mk_tr M) (a : Int32) : Ct G l yX4_giveToFund cX4_giveToFund 3 (some .int) 0 0 0 [.ref o, .int (nI j), .int a] (n, h0) (hp_iq (fun r0 τ => r0 = mk_fu (mk_giv M j a) ∧ mk_Q G n h0 o (mk_giv M j a) τ)) := by
  have hhz := hM.hz
  have htr := hM.tr
  have hct := hM.ct
  have hbase := hM.base
  have hO : ∀ a, (a < o ∨ o + 11 ≤ a) → h0 a = h0 a := fun _ _ => rfl
  refine Ct.of rfl hl (by simp [Value.category]) (Nat.le_of_ble_eq_true rfl) (fun K C E hRm hKl => ?_)
  subst hKl
  refine v_aload_n C dX4_giveToFund_0 rfl ?_
  refine v_get C 5 dX4_giveToFund_1 wd1_60 hM.o rfl (by decide) ⟨rfl, rfl, rfl⟩ rfl ?_
  refine v_iload_n C dX4_giveToFund_4 rfl ?_
  refine v_dup2 C dX4_giveToFund_5 rfl rfl ?_
  refine v_ialdN C dX4_giveToFund_6 hM.a3 (by omega) (by decide) ?_
  refine v_iload_n C dX4_giveToFund_7 rfl ?_
  refine v_isub C dX4_giveToFund_8 ?_
  refine v_iastN C dX4_giveToFund_9 (by omega) hM.a3 (by omega) (by decide) (fun h9 e9 g9 => ?_)
  have hM9 := hM.st (k := 3) (by decide) rfl e9 g9
  have hO9 : ∀ a, (a < o ∨ o + 11 ≤ a) → h9 a = h0 a := fun a ha => (g9 a (by omega)).trans (hO a ha)
  refine v_aload_n C dX4_giveToFund_10 rfl ?_
  refine v_dup C dX4_giveToFund_11 rfl ?_
  refine v_get C 14 dX4_giveToFund_12 wd1_79 hM9.o rfl (by decide) ⟨rfl, rfl, rfl⟩ rfl ?_
  refine v_iload_n C dX4_giveToFund_15 rfl ?_
  refine v_iadd C dX4_giveToFund_16 ?_
  refine v_put C 14 dX4_giveToFund_17 wd1_79 hbase hM9.o rfl (by decide) ⟨rfl, rfl, rfl, rfl⟩ rfl rfl rfl (Nat.le_of_ble_eq_true rfl) (fun h17 e17 g17 => ?_)
  have hM17 := hM9.pfu e17 g17
  have hO17 : ∀ a, (a < o ∨ o + 11 ≤ a) → h17 a = h0 a := fun a ha => (g17 a (by omega)).trans (hO9 a ha)
  refine v_aload_n C dX4_giveToFund_20 rfl ?_
  refine v_get C 14 dX4_giveToFund_21 wd1_79 hM17.o rfl (by decide) ⟨rfl, rfl, rfl⟩ rfl ?_
  exact v_iret C E dX4_giveToFund_24 rfl ⟨_, rfl, rfl, rfl, hM17, hO17⟩

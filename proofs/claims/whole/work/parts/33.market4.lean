/-! ===== THE MARKET: the day's end, calls, defaults ===== -/
def mk_ed (M : mk_T) (c : Nat) : mk_T := match c with
  | 0 => M
  | c + 1 => mk_ed (if mk_ar M 9 c = mk_dy M then mk_rm M c else M) c
def mk_eo (M : mk_T) (t : Int32) (c : Nat) : mk_T := match c with
  | 0 => M
  | c + 1 => mk_eo (if (mk_ar M 5 c = t ∨ mk_ar M 6 c = t) ∨ mk_ar M 5 c = mk_ar M 6 c then mk_rm M c else M) t c
abbrev mk_endday (M : mk_T) : mk_T := mk_ed (mk_pdy M (mk_dy M + nI 1)) (mk_ct M)
theorem hp_dec0 : nI 0 - nI 1 < 0 := by decide
theorem hp_decs (j : Nat) : nI (j + 1) - nI 1 = nI j := nI_pred j
set_option maxHeartbeats 4000000 in
theorem loop_X4_endDay {G : hp_G} {K : hp_C} {n : Nat} {h0 : Nat → Option va_E} {o : Nat}  (C : hp_Cx G K MX4_endDay) (hRm : hp_Rm K = hp_rm 1 0 0) (hl : K.2.1.stackTraces = false) (F : mk_T)  (hk : ∀ h : Nat → Option va_E, Mk G h o F → (∀ a, (a < o ∨ o + 11 ≤ a) → h a = h0 a) → V G K MX4_endDay 0 0 (n, h) 45 [some (.ref o), some (.int (nI 0 - nI 1))] []) : ∀ (c : Nat) (M : mk_T) (h : Nat → Option va_E) (v : Int32), v = nI c - nI 1 → c ≤ mk_ct M → mk_ed M c = F → Mk G h o M → (∀ a, (a < o ∨ o + 11 ≤ a) → h a = h0 a) → V G K MX4_endDay 0 0 (n, h) 17 [some (.ref o), some (.int (v))] [] := by
  intro c
  induction c with
  | zero =>
    intro M h v ev h1 hF hM hO
    subst ev
    have hF : M = F := hF
    subst hF
    refine v_iload_n C dX4_endDay_17 rfl ?_
    refine v_if_lt (tgt := 45) C dX4_endDay_18 (by decide) (fun c18 => ?_) (fun c18 => absurd hp_dec0 c18)
    exact hk _ hM hO
  | succ j ih =>
    intro M h v ev h1 hF hM hO
    have hct := hM.ct
    have hbase := hM.base
    have ev : v = nI j := ev.trans (hp_decs j)
    subst ev
    refine v_iload_n C dX4_endDay_17 rfl ?_
    refine v_if_lt (tgt := 45) C dX4_endDay_18 (by decide) (fun c18 => absurd c18 (nI_pos (by omega))) (fun c18 => ?_)
    refine v_aload_n C dX4_endDay_21 rfl ?_
    refine v_get C 12 dX4_endDay_22 wd1_75 hM.o rfl (by decide) ⟨rfl, rfl, rfl⟩ rfl ?_
    refine v_iload_n C dX4_endDay_25 rfl ?_
    refine v_ialdN C dX4_endDay_26 hM.a9 (by omega) (by decide) ?_
    refine v_aload_n C dX4_endDay_27 rfl ?_
    refine v_get C 13 dX4_endDay_28 wd1_77 hM.o rfl (by decide) ⟨rfl, rfl, rfl⟩ rfl ?_
    refine v_icmp_ne (tgt := 39) C dX4_endDay_31 (by decide) (fun c31 => ?_) (fun c31 => ?_)
    · refine v_iinc C dX4_endDay_39 (by decide) rfl ?_
      refine v_goto (tgt := 17) C dX4_endDay_42 (by decide) ?_
      exact ih M _ _ (hp_dec _) (by omega) (by rw [← hF]; simp only [mk_ed, mk_eo]; rw [if_neg (by grind)]) hM hO
    · refine v_aload_n C dX4_endDay_34 rfl ?_
      refine v_iload_n C dX4_endDay_35 rfl ?_
      refine v_callVv C (c_X4_removeContract hl hM (by omega)) dX4_endDay_36 mX4_removeContract rfl hM.o rfl wd3_56 rfl rfl (Nat.le_of_ble_eq_true rfl) (hp_rmle hRm (by decide) (by decide)) (Nat.le_of_ble_eq_true rfl) (Nat.le_of_ble_eq_true rfl) (fun n36 h36 q36 => ?_)
      obtain ⟨rfl, hM36, u36⟩ := q36
      have hO36 : ∀ a, (a < o ∨ o + 11 ≤ a) → h36 a = h0 a := fun a ha => (u36 a ha).trans (hO a ha)
      refine v_iinc C dX4_endDay_39 (by decide) rfl ?_
      refine v_goto (tgt := 17) C dX4_endDay_42 (by decide) ?_
      exact ih _ _ _ (hp_dec _) (by show j ≤ mk_ct M - 1; omega) (by rw [← hF]; simp only [mk_ed, mk_eo]; rw [if_pos (by grind)]) hM36 hO36
set_option maxHeartbeats 4000000 in
/-- the day ends -/
theorem c_X4_endDay {G : hp_G} {l : Launch} (hl : l.stackTraces = false) {n : Nat} {h0 : Nat → Option va_E} {o : Nat} {M : mk_T} (hM : Mk G h0 o M) : Ct G l yX4_endDay cX4_endDay 2 none 1 0 0 [.ref o] (n, h0) (hp_vq (mk_Q G n h0 o (mk_endday M))) := by
  have hhz := hM.hz
  have htr := hM.tr
  have hct := hM.ct
  have hbase := hM.base
  have hO : ∀ a, (a < o ∨ o + 11 ≤ a) → h0 a = h0 a := fun _ _ => rfl
  refine Ct.of rfl hl (by simp [Value.category]) (Nat.le_of_ble_eq_true rfl) (fun K C E hRm hKl => ?_)
  subst hKl
  refine v_aload_n C dX4_endDay_0 rfl ?_
  refine v_dup C dX4_endDay_1 rfl ?_
  refine v_get C 13 dX4_endDay_2 wd1_77 hM.o rfl (by decide) ⟨rfl, rfl, rfl⟩ rfl ?_
  refine v_iconst (v := nI 1) C dX4_endDay_5 (by decide) ?_
  refine v_iadd C dX4_endDay_6 ?_
  refine v_put C 13 dX4_endDay_7 wd1_77 hbase hM.o rfl (by decide) ⟨rfl, rfl, rfl, rfl⟩ rfl rfl rfl (Nat.le_of_ble_eq_true rfl) (fun h7 e7 g7 => ?_)
  have hM7 := hM.pdy e7 g7
  have hO7 : ∀ a, (a < o ∨ o + 11 ≤ a) → h7 a = h0 a := fun a ha => (g7 a (by omega)).trans (hO a ha)
  refine v_aload_n C dX4_endDay_10 rfl ?_
  refine v_get (v := .int (nI (mk_ct M))) C 7 dX4_endDay_11 wd1_65 hM7.o rfl (by decide) ⟨rfl, rfl, rfl⟩ rfl ?_
  refine v_iconst (v := nI 1) C dX4_endDay_14 (by decide) ?_
  refine v_isub C dX4_endDay_15 ?_
  refine v_istore_n C dX4_endDay_16 (by decide) ?_
  exact loop_X4_endDay C hRm hl (mk_endday M) (fun h1 hM1 hO1 => v_vret C E dX4_endDay_45 rfl ⟨rfl, rfl, hM1, hO1⟩) (mk_ct M) (mk_pdy M (mk_dy M + nI 1)) _ _ rfl (Nat.le_refl _) rfl hM7 hO7
set_option maxHeartbeats 4000000 in
theorem loop_X4_endContractsOf {G : hp_G} {K : hp_C} {n : Nat} {h0 : Nat → Option va_E} {o : Nat}  (C : hp_Cx G K MX4_endContractsOf) (hRm : hp_Rm K = hp_rm 1 0 0) (hl : K.2.1.stackTraces = false) (F : mk_T) {t : Int32} (hk : ∀ h : Nat → Option va_E, Mk G h o F → (∀ a, (a < o ∨ o + 11 ≤ a) → h a = h0 a) → V G K MX4_endContractsOf 0 0 (n, h) 46 [some (.ref o), some (.int t), some (.int (nI 0 - nI 1))] []) : ∀ (c : Nat) (M : mk_T) (h : Nat → Option va_E) (v : Int32), v = nI c - nI 1 → c ≤ mk_ct M → mk_eo M t c = F → Mk G h o M → (∀ a, (a < o ∨ o + 11 ≤ a) → h a = h0 a) → V G K MX4_endContractsOf 0 0 (n, h) 7 [some (.ref o), some (.int t), some (.int (v))] [] := by
  intro c
  induction c with
  | zero =>
    intro M h v ev h1 hF hM hO
    subst ev
    have hF : M = F := hF
    subst hF
    refine v_iload_n C dX4_endContractsOf_7 rfl ?_
    refine v_if_lt (tgt := 46) C dX4_endContractsOf_8 (by decide) (fun c8 => ?_) (fun c8 => absurd hp_dec0 c8)
    exact hk _ hM hO
  | succ j ih =>
    intro M h v ev h1 hF hM hO
    have hct := hM.ct
    have hbase := hM.base
    have ev : v = nI j := ev.trans (hp_decs j)
    subst ev
    refine v_iload_n C dX4_endContractsOf_7 rfl ?_
    refine v_if_lt (tgt := 46) C dX4_endContractsOf_8 (by decide) (fun c8 => absurd c8 (nI_pos (by omega))) (fun c8 => ?_)
    refine v_aload_n C dX4_endContractsOf_11 rfl ?_
    refine v_iload_n C dX4_endContractsOf_12 rfl ?_
    refine v_iload_n C dX4_endContractsOf_13 rfl ?_
    refine v_callVi C (c_X4_concerns hl hM (by omega) _) dX4_endContractsOf_14 mX4_concerns rfl hM.o rfl wd2_96 rfl rfl (Nat.le_of_ble_eq_true rfl) (hp_rmle hRm (by decide) (by decide)) (Nat.le_of_ble_eq_true rfl) (Nat.le_of_ble_eq_true rfl) ?_
    refine v_if_neB (tgt := 35) C dX4_endContractsOf_17 (by decide) (fun c17 => ?_) (fun c17 => ?_)
    · refine v_aload_n C dX4_endContractsOf_35 rfl ?_
      refine v_iload_n C dX4_endContractsOf_36 rfl ?_
      refine v_callVv C (c_X4_removeContract hl hM (by omega)) dX4_endContractsOf_37 mX4_removeContract rfl hM.o rfl wd3_56 rfl rfl (Nat.le_of_ble_eq_true rfl) (hp_rmle hRm (by decide) (by decide)) (Nat.le_of_ble_eq_true rfl) (Nat.le_of_ble_eq_true rfl) (fun n37 h37 q37 => ?_)
      obtain ⟨rfl, hM37, u37⟩ := q37
      have hO37 : ∀ a, (a < o ∨ o + 11 ≤ a) → h37 a = h0 a := fun a ha => (u37 a ha).trans (hO a ha)
      refine v_iinc C dX4_endContractsOf_40 (by decide) rfl ?_
      refine v_goto (tgt := 7) C dX4_endContractsOf_43 (by decide) ?_
      exact ih _ _ _ (hp_dec _) (by show j ≤ mk_ct M - 1; omega) (by rw [← hF]; simp only [mk_ed, mk_eo]; rw [if_pos (by grind)]) hM37 hO37
    · refine v_aload_n C dX4_endContractsOf_20 rfl ?_
      refine v_get C 8 dX4_endContractsOf_21 wd1_67 hM.o rfl (by decide) ⟨rfl, rfl, rfl⟩ rfl ?_
      refine v_iload_n C dX4_endContractsOf_24 rfl ?_
      refine v_ialdN C dX4_endContractsOf_25 hM.a5 (by omega) (by decide) ?_
      refine v_aload_n C dX4_endContractsOf_26 rfl ?_
      refine v_get C 9 dX4_endContractsOf_27 wd1_69 hM.o rfl (by decide) ⟨rfl, rfl, rfl⟩ rfl ?_
      refine v_iload_n C dX4_endContractsOf_30 rfl ?_
      refine v_ialdN C dX4_endContractsOf_31 hM.a6 (by omega) (by decide) ?_
      refine v_icmp_ne (tgt := 40) C dX4_endContractsOf_32 (by decide) (fun c32 => ?_) (fun c32 => ?_)
      · refine v_iinc C dX4_endContractsOf_40 (by decide) rfl ?_
        refine v_goto (tgt := 7) C dX4_endContractsOf_43 (by decide) ?_
        exact ih M _ _ (hp_dec _) (by omega) (by rw [← hF]; simp only [mk_ed, mk_eo]; rw [if_neg (by grind)]) hM hO
      · refine v_aload_n C dX4_endContractsOf_35 rfl ?_
        refine v_iload_n C dX4_endContractsOf_36 rfl ?_
        refine v_callVv C (c_X4_removeContract hl hM (by omega)) dX4_endContractsOf_37 mX4_removeContract rfl hM.o rfl wd3_56 rfl rfl (Nat.le_of_ble_eq_true rfl) (hp_rmle hRm (by decide) (by decide)) (Nat.le_of_ble_eq_true rfl) (Nat.le_of_ble_eq_true rfl) (fun n37 h37 q37 => ?_)
        obtain ⟨rfl, hM37, u37⟩ := q37
        have hO37 : ∀ a, (a < o ∨ o + 11 ≤ a) → h37 a = h0 a := fun a ha => (u37 a ha).trans (hO a ha)
        refine v_iinc C dX4_endContractsOf_40 (by decide) rfl ?_
        refine v_goto (tgt := 7) C dX4_endContractsOf_43 (by decide) ?_
        exact ih _ _ _ (hp_dec _) (by show j ≤ mk_ct M - 1; omega) (by rw [← hF]; simp only [mk_ed, mk_eo]; rw [if_pos (by grind)]) hM37 hO37
set_option maxHeartbeats 4000000 in
/-- the contracts of a trader end -/
theorem c_X4_endContractsOf {G : hp_G} {l : Launch} (hl : l.stackTraces = false) {n : Nat} {h0 : Nat → Option va_E} {o : Nat} {M : mk_T} (hM : Mk G h0 o M) (t : Int32) : Ct G l yX4_endContractsOf cX4_endContractsOf 3 none 1 0 0 [.ref o, .int t] (n, h0) (hp_vq (mk_Q G n h0 o (mk_eo M t (mk_ct M)))) := by
  have hhz := hM.hz
  have htr := hM.tr
  have hct := hM.ct
  have hbase := hM.base
  have hO : ∀ a, (a < o ∨ o + 11 ≤ a) → h0 a = h0 a := fun _ _ => rfl
  refine Ct.of rfl hl (by simp [Value.category]) (Nat.le_of_ble_eq_true rfl) (fun K C E hRm hKl => ?_)
  subst hKl
  refine v_aload_n C dX4_endContractsOf_0 rfl ?_
  refine v_get (v := .int (nI (mk_ct M))) C 7 dX4_endContractsOf_1 wd1_65 hM.o rfl (by decide) ⟨rfl, rfl, rfl⟩ rfl ?_
  refine v_iconst (v := nI 1) C dX4_endContractsOf_4 (by decide) ?_
  refine v_isub C dX4_endContractsOf_5 ?_
  refine v_istore_n C dX4_endContractsOf_6 (by decide) ?_
  exact loop_X4_endContractsOf C hRm hl (mk_eo M t (mk_ct M)) (fun h1 hM1 hO1 => v_vret C E dX4_endContractsOf_46 rfl ⟨rfl, rfl, hM1, hO1⟩) (mk_ct M) M _ _ rfl (Nat.le_refl _) rfl hM hO
def mk_cs (M : mk_T) (i : Nat) : Int32 := if mk_ar M 4 i = nI 2 then mk_ar M 4 i else if mk_ar M 3 i < mk_mg M (nI i) (mk_hz M) then nI 1 else nI 0
def mk_cd (M : mk_T) (c : Nat) : Int32 := match c with
  | 0 => nI 0
  | c + 1 => if ¬ mk_ar M 4 c = nI 2 ∧ mk_ar M 3 c < mk_mg M (nI c) (mk_hz M) ∧ mk_ar M 4 c = nI 1 then mk_cd M c ||| (nI 1 <<< (nI c &&& 31)) else mk_cd M c
abbrev mk_cw (M : mk_T) (c : Nat) : mk_T := mk_wa M 4 (fun i => if i < c then mk_cs M i else mk_ar M 4 i)
theorem mk_cw_4 (M : mk_T) (c : Nat) : mk_ar (mk_cw M c) 4 c = mk_ar M 4 c := if_neg (Nat.lt_irrefl c)
theorem mk_cw_3 (M : mk_T) (c i : Nat) : mk_ar (mk_cw M c) 3 i = mk_ar M 3 i := rfl
theorem mk_cw_mg (M : mk_T) (c : Nat) (t : Int32) (k : Nat) : mk_mg (mk_cw M c) t k = mk_mg M t k := mk_mg_congr (M := M) (M' := mk_cw M c) (fun t on => mk_po_congr (M := M) (M' := mk_cw M c) rfl rfl rfl rfl rfl t on) rfl t k
theorem mk_cw_st {M : mk_T} {c : Nat} {x : Int32} (h : x = mk_cs M c) : mk_st (mk_cw M c) 4 c x = mk_cw M (c + 1) := by
  refine mk_wa_st fun i => ?_
  subst h
  by_cases q : i = c
  · subst q
    rw [if_pos (Nat.lt_succ_self i), if_pos rfl]
  · rw [if_neg q]
    by_cases q2 : i < c
    · rw [if_pos q2, if_pos (by omega)]
    · rw [if_neg q2, if_neg (by omega)]
theorem mk_cw_id {M : mk_T} {c : Nat} (h : mk_ar M 4 c = mk_cs M c) : mk_cw M c = mk_cw M (c + 1) := by
  rw [← mk_cw_st h]
  refine mk_ext rfl (fun k i => ?_) rfl
  rw [mk_st_ar]
  by_cases q : k = 4 ∧ i = c
  · obtain ⟨rfl, rfl⟩ := q
    rw [if_pos ⟨rfl, rfl⟩]
    exact mk_cw_4 M i
  · rw [if_neg q]
set_option maxHeartbeats 4000000 in
theorem loop_X4_callTraders {G : hp_G} {K : hp_C} {n : Nat} {h0 : Nat → Option va_E} {o : Nat} {M : mk_T} (C : hp_Cx G K MX4_callTraders) (hRm : hp_Rm K = hp_rm 4 0 0) (hl : K.2.1.stackTraces = false) (hhz : mk_hz M ≤ 4) (htr : mk_tr M ≤ 6) (hct : mk_ct M ≤ 20) (hk : ∀ h : Nat → Option va_E, Mk G h o (mk_cw M (mk_tr M)) → (∀ a, (a < o ∨ o + 11 ≤ a) → h a = h0 a) → V G K MX4_callTraders 0 0 (n, h) 81 [some (.ref o), some (.int (mk_cd M (mk_tr M))), some (.int (nI (mk_tr M)))] []) : ∀ (f c : Nat) (h : Nat → Option va_E) (x : Int32), x = mk_cd M c → c ≤ mk_tr M → mk_tr M ≤ c + f → Mk G h o (mk_cw M c) → (∀ a, (a < o ∨ o + 11 ≤ a) → h a = h0 a) → V G K MX4_callTraders 0 0 (n, h) 4 [some (.ref o), some (.int x), some (.int (nI c))] [] := by
  intro f
  induction f with
  | zero =>
    intro c h x ex h1 h2 hM hO
    have hbase := hM.base
    have e : c = mk_tr M := by omega
    subst e
    subst ex
    refine v_iload_n C dX4_callTraders_4 rfl ?_
    refine v_aload_n C dX4_callTraders_5 rfl ?_
    refine v_get (v := .int (nI (mk_tr M))) C 4 dX4_callTraders_6 wd1_58 hM.o rfl (by decide) ⟨rfl, rfl, rfl⟩ rfl ?_
    refine v_icmp_geN (tgt := 81) C dX4_callTraders_9 (by decide) (by omega) (by omega) (fun c9 => ?_) (fun c9 => absurd c9 (by omega))
    exact hk _ hM hO
  | succ f ih =>
    intro c h x ex h1 h2 hM hO
    have hbase := hM.base
    refine v_iload_n C dX4_callTraders_4 rfl ?_
    refine v_aload_n C dX4_callTraders_5 rfl ?_
    refine v_get (v := .int (nI (mk_tr M))) C 4 dX4_callTraders_6 wd1_58 hM.o rfl (by decide) ⟨rfl, rfl, rfl⟩ rfl ?_
    refine v_icmp_geN (tgt := 81) C dX4_callTraders_9 (by decide) (by omega) (by omega) (fun c9 => ?_) (fun c9 => ?_)
    · have e : c = mk_tr M := by omega
      subst e
      subst ex
      exact hk _ hM hO
    · refine v_aload_n C dX4_callTraders_12 rfl ?_
      refine v_get C 6 dX4_callTraders_13 wd1_62 hM.o rfl (by decide) ⟨rfl, rfl, rfl⟩ rfl ?_
      refine v_iload_n C dX4_callTraders_16 rfl ?_
      refine v_ialdN C dX4_callTraders_17 hM.a4 (by omega) (by decide) ?_
      refine v_iconst (v := nI 2) C dX4_callTraders_18 (by decide) ?_
      refine v_icmp_ne (tgt := 25) C dX4_callTraders_19 (by decide) (fun c19 => ?_) (fun c19 => ?_)
      · rw [mk_cw_4] at c19
        refine v_aload_n C dX4_callTraders_25 rfl ?_
        refine v_get C 5 dX4_callTraders_26 wd1_60 hM.o rfl (by decide) ⟨rfl, rfl, rfl⟩ rfl ?_
        refine v_iload_n C dX4_callTraders_29 rfl ?_
        refine v_ialdN C dX4_callTraders_30 hM.a3 (by omega) (by decide) ?_
        refine v_aload_n C dX4_callTraders_31 rfl ?_
        refine v_iload_n C dX4_callTraders_32 rfl ?_
        refine v_callVi C (c_X4_margin hl hM _) dX4_callTraders_33 mX4_margin rfl hM.o rfl wd2_100 rfl rfl (Nat.le_of_ble_eq_true rfl) (hp_rmle hRm (by decide) (by decide)) (Nat.le_of_ble_eq_true rfl) (Nat.le_of_ble_eq_true rfl) ?_
        refine v_icmp_lt (tgt := 49) C dX4_callTraders_36 (by decide) (fun c36 => ?_) (fun c36 => ?_)
        · rw [mk_cw_3, mk_cw_mg] at c36
          refine v_aload_n C dX4_callTraders_49 rfl ?_
          refine v_get C 6 dX4_callTraders_50 wd1_62 hM.o rfl (by decide) ⟨rfl, rfl, rfl⟩ rfl ?_
          refine v_iload_n C dX4_callTraders_53 rfl ?_
          refine v_ialdN C dX4_callTraders_54 hM.a4 (by omega) (by decide) ?_
          refine v_iconst (v := nI 1) C dX4_callTraders_55 (by decide) ?_
          refine v_icmp_ne (tgt := 68) C dX4_callTraders_56 (by decide) (fun c56 => ?_) (fun c56 => ?_)
          · rw [mk_cw_4] at c56
            refine v_aload_n C dX4_callTraders_68 rfl ?_
            refine v_get C 6 dX4_callTraders_69 wd1_62 hM.o rfl (by decide) ⟨rfl, rfl, rfl⟩ rfl ?_
            refine v_iload_n C dX4_callTraders_72 rfl ?_
            refine v_iconst (v := nI 1) C dX4_callTraders_73 (by decide) ?_
            refine v_iastN C dX4_callTraders_74 (by omega) hM.a4 (by omega) (by decide) (fun h74 e74 g74 => ?_)
            have hM74 := hM.st (k := 4) (by decide) rfl e74 g74
            have hO74 : ∀ a, (a < o ∨ o + 11 ≤ a) → h74 a = h0 a := fun a ha => (g74 a (by omega)).trans (hO a ha)
            refine v_iincN C dX4_callTraders_75 (by decide) rfl ?_
            refine v_goto (tgt := 4) C dX4_callTraders_78 (by decide) ?_
            exact ih (c + 1) _ _ (by rw [ex]; simp only [mk_cd]; grind) (by omega) (by omega) (hM74.to (mk_cw_st (by simp only [mk_cs]; grind))) hO74
          · rw [mk_cw_4] at c56
            refine v_iload_n C dX4_callTraders_59 rfl ?_
            refine v_iconst (v := nI 1) C dX4_callTraders_60 (by decide) ?_
            refine v_iload_n C dX4_callTraders_61 rfl ?_
            refine v_ishl C dX4_callTraders_62 ?_
            refine v_ior C dX4_callTraders_63 ?_
            refine v_istore_n C dX4_callTraders_64 (by decide) ?_
            refine v_goto (tgt := 75) C dX4_callTraders_65 (by decide) ?_
            refine v_iincN C dX4_callTraders_75 (by decide) rfl ?_
            refine v_goto (tgt := 4) C dX4_callTraders_78 (by decide) ?_
            exact ih (c + 1) _ _ (by rw [ex]; simp only [mk_cd]; grind) (by omega) (by omega) (hM.to (mk_cw_id (by simp only [mk_cs]; grind))) hO
        · rw [mk_cw_3, mk_cw_mg] at c36
          refine v_aload_n C dX4_callTraders_39 rfl ?_
          refine v_get C 6 dX4_callTraders_40 wd1_62 hM.o rfl (by decide) ⟨rfl, rfl, rfl⟩ rfl ?_
          refine v_iload_n C dX4_callTraders_43 rfl ?_
          refine v_iconst (v := nI 0) C dX4_callTraders_44 (by decide) ?_
          refine v_iastN C dX4_callTraders_45 (by omega) hM.a4 (by omega) (by decide) (fun h45 e45 g45 => ?_)
          have hM45 := hM.st (k := 4) (by decide) rfl e45 g45
          have hO45 : ∀ a, (a < o ∨ o + 11 ≤ a) → h45 a = h0 a := fun a ha => (g45 a (by omega)).trans (hO a ha)
          refine v_goto (tgt := 75) C dX4_callTraders_46 (by decide) ?_
          refine v_iincN C dX4_callTraders_75 (by decide) rfl ?_
          refine v_goto (tgt := 4) C dX4_callTraders_78 (by decide) ?_
          exact ih (c + 1) _ _ (by rw [ex]; simp only [mk_cd]; grind) (by omega) (by omega) (hM45.to (mk_cw_st (by simp only [mk_cs]; grind))) hO45
      · rw [mk_cw_4] at c19
        refine v_goto (tgt := 75) C dX4_callTraders_22 (by decide) ?_
        refine v_iincN C dX4_callTraders_75 (by decide) rfl ?_
        refine v_goto (tgt := 4) C dX4_callTraders_78 (by decide) ?_
        exact ih (c + 1) _ _ (by rw [ex]; simp only [mk_cd]; grind) (by omega) (by omega) (hM.to (mk_cw_id (by simp only [mk_cs]; grind))) hO
set_option maxHeartbeats 4000000 in
/-- traders are called -/
theorem c_X4_callTraders {G : hp_G} {l : Launch} (hl : l.stackTraces = false) {n : Nat} {h0 : Nat → Option va_E} {o : Nat} {M : mk_T} (hM : Mk G h0 o M) : Ct G l yX4_callTraders cX4_callTraders 3 (some .int) 4 0 0 [.ref o] (n, h0) (hp_iq (fun r0 τ => r0 = mk_cd M (mk_tr M) ∧ mk_Q G n h0 o (mk_cw M (mk_tr M)) τ)) := by
  have hhz := hM.hz
  have htr := hM.tr
  have hct := hM.ct
  have hbase := hM.base
  have hO : ∀ a, (a < o ∨ o + 11 ≤ a) → h0 a = h0 a := fun _ _ => rfl
  refine Ct.of rfl hl (by simp [Value.category]) (Nat.le_of_ble_eq_true rfl) (fun K C E hRm hKl => ?_)
  subst hKl
  refine v_iconst (v := nI 0) C dX4_callTraders_0 (by decide) ?_
  refine v_istore_n C dX4_callTraders_1 (by decide) ?_
  refine v_iconst (v := nI 0) C dX4_callTraders_2 (by decide) ?_
  refine v_istore_n C dX4_callTraders_3 (by decide) ?_
  refine loop_X4_callTraders C hRm hl hhz htr hct (fun h1 hM1 hO1 => ?_) (mk_tr M) 0 h0 _ rfl (Nat.zero_le _) (Nat.le_of_eq (Nat.zero_add _).symm) (hM.to (mk_wa_id (fun i => if_neg (Nat.not_lt_zero i)))) hO
  refine v_iload_n C dX4_callTraders_81 rfl ?_
  exact v_iret C E dX4_callTraders_82 rfl ⟨_, rfl, rfl, rfl, hM1, hO1⟩
abbrev mk_rt (M : mk_T) (t k on : Int32) (c : Nat) : mk_T := (M.1, fun a i => if a = 5 ∧ i < c ∧ mk_ar M 7 i = on ∧ mk_ar M 5 i = t then k else if a = 6 ∧ i < c ∧ mk_ar M 7 i = on ∧ ¬ mk_ar M 5 i = t ∧ mk_ar M 6 i = t then k else mk_ar M a i, M.2.2)
theorem mk_rt_ar (M : mk_T) (t k on : Int32) (c a i : Nat) : mk_ar (mk_rt M t k on c) a i = if a = 5 ∧ i < c ∧ mk_ar M 7 i = on ∧ mk_ar M 5 i = t then k else if a = 6 ∧ i < c ∧ mk_ar M 7 i = on ∧ ¬ mk_ar M 5 i = t ∧ mk_ar M 6 i = t then k else mk_ar M a i := rfl
theorem mk_rt_at (M : mk_T) (t k on : Int32) (c a : Nat) : mk_ar (mk_rt M t k on c) a c = mk_ar M a c := by
  rw [mk_rt_ar, if_neg (fun q => Nat.lt_irrefl _ q.2.1), if_neg (fun q => Nat.lt_irrefl _ q.2.1)]
theorem mk_rt_0 (M : mk_T) (t k on : Int32) : M = mk_rt M t k on 0 := by
  refine mk_ext rfl (fun a i => ?_) rfl
  rw [mk_rt_ar, if_neg (fun q => Nat.not_lt_zero _ q.2.1), if_neg (fun q => Nat.not_lt_zero _ q.2.1)]
theorem mk_rt_5 {M : mk_T} {t k on : Int32} {c : Nat} (h7 : mk_ar M 7 c = on) (h5 : mk_ar M 5 c = t) : mk_st (mk_rt M t k on c) 5 c k = mk_rt M t k on (c + 1) := by
  refine mk_ext rfl (fun a i => ?_) rfl
  rw [mk_st_ar, mk_rt_ar, mk_rt_ar]
  grind
theorem mk_rt_6 {M : mk_T} {t k on : Int32} {c : Nat} (h7 : mk_ar M 7 c = on) (h5 : ¬ mk_ar M 5 c = t) (h6 : mk_ar M 6 c = t) : mk_st (mk_rt M t k on c) 6 c k = mk_rt M t k on (c + 1) := by
  refine mk_ext rfl (fun a i => ?_) rfl
  rw [mk_st_ar, mk_rt_ar, mk_rt_ar]
  grind
theorem mk_rt_n {M : mk_T} {t k on : Int32} {c : Nat} (h : ¬ (mk_ar M 7 c = on ∧ (mk_ar M 5 c = t ∨ mk_ar M 6 c = t))) : mk_rt M t k on c = mk_rt M t k on (c + 1) := by
  refine mk_ext rfl (fun a i => ?_) rfl
  rw [mk_rt_ar, mk_rt_ar]
  grind
set_option maxHeartbeats 4000000 in
theorem loop_X4_replaceTrader {G : hp_G} {K : hp_C} {n : Nat} {h0 : Nat → Option va_E} {o : Nat} {M : mk_T} (C : hp_Cx G K MX4_replaceTrader) (hRm : hp_Rm K = hp_rm 0 0 0) (hl : K.2.1.stackTraces = false) (hhz : mk_hz M ≤ 4) (htr : mk_tr M ≤ 6) (hct : mk_ct M ≤ 20) {t k on : Int32} (hk : ∀ h : Nat → Option va_E, Mk G h o (mk_rt M t k on (mk_ct M)) → (∀ a, (a < o ∨ o + 11 ≤ a) → h a = h0 a) → V G K MX4_replaceTrader 0 0 (n, h) 73 [some (.ref o), some (.int t), some (.int k), some (.int on), some (.int (nI (mk_ct M)))] []) : ∀ (f c : Nat) (h : Nat → Option va_E), c ≤ mk_ct M → mk_ct M ≤ c + f → Mk G h o (mk_rt M t k on c) → (∀ a, (a < o ∨ o + 11 ≤ a) → h a = h0 a) → V G K MX4_replaceTrader 0 0 (n, h) 3 [some (.ref o), some (.int t), some (.int k), some (.int on), some (.int (nI c))] [] := by
  intro f
  induction f with
  | zero =>
    intro c h h1 h2 hM hO
    have hbase := hM.base
    have e : c = mk_ct M := by omega
    subst e
    refine v_iload C dX4_replaceTrader_3 rfl ?_
    refine v_aload_n C dX4_replaceTrader_5 rfl ?_
    refine v_get (v := .int (nI (mk_ct M))) C 7 dX4_replaceTrader_6 wd1_65 hM.o rfl (by decide) ⟨rfl, rfl, rfl⟩ rfl ?_
    refine v_icmp_geN (tgt := 73) C dX4_replaceTrader_9 (by decide) (by omega) (by omega) (fun c9 => ?_) (fun c9 => absurd c9 (by omega))
    exact hk _ hM hO
  | succ f ih =>
    intro c h h1 h2 hM hO
    have hbase := hM.base
    refine v_iload C dX4_replaceTrader_3 rfl ?_
    refine v_aload_n C dX4_replaceTrader_5 rfl ?_
    refine v_get (v := .int (nI (mk_ct M))) C 7 dX4_replaceTrader_6 wd1_65 hM.o rfl (by decide) ⟨rfl, rfl, rfl⟩ rfl ?_
    refine v_icmp_geN (tgt := 73) C dX4_replaceTrader_9 (by decide) (by omega) (by omega) (fun c9 => ?_) (fun c9 => ?_)
    · have e : c = mk_ct M := by omega
      subst e
      exact hk _ hM hO
    · refine v_aload_n C dX4_replaceTrader_12 rfl ?_
      refine v_get C 10 dX4_replaceTrader_13 wd1_71 hM.o rfl (by decide) ⟨rfl, rfl, rfl⟩ rfl ?_
      refine v_iload C dX4_replaceTrader_16 rfl ?_
      refine v_ialdN C dX4_replaceTrader_18 hM.a7 (by omega) (by decide) ?_
      refine v_iload_n C dX4_replaceTrader_19 rfl ?_
      refine v_icmp_eq (tgt := 26) C dX4_replaceTrader_20 (by decide) (fun c20 => ?_) (fun c20 => ?_)
      · rw [mk_rt_at] at c20
        refine v_aload_n C dX4_replaceTrader_26 rfl ?_
        refine v_get C 8 dX4_replaceTrader_27 wd1_67 hM.o rfl (by decide) ⟨rfl, rfl, rfl⟩ rfl ?_
        refine v_iload C dX4_replaceTrader_30 rfl ?_
        refine v_ialdN C dX4_replaceTrader_32 hM.a5 (by omega) (by decide) ?_
        refine v_iload_n C dX4_replaceTrader_33 rfl ?_
        refine v_icmp_ne (tgt := 48) C dX4_replaceTrader_34 (by decide) (fun c34 => ?_) (fun c34 => ?_)
        · rw [mk_rt_at] at c34
          refine v_aload_n C dX4_replaceTrader_48 rfl ?_
          refine v_get C 9 dX4_replaceTrader_49 wd1_69 hM.o rfl (by decide) ⟨rfl, rfl, rfl⟩ rfl ?_
          refine v_iload C dX4_replaceTrader_52 rfl ?_
          refine v_ialdN C dX4_replaceTrader_54 hM.a6 (by omega) (by decide) ?_
          refine v_iload_n C dX4_replaceTrader_55 rfl ?_
          refine v_icmp_ne (tgt := 67) C dX4_replaceTrader_56 (by decide) (fun c56 => ?_) (fun c56 => ?_)
          · rw [mk_rt_at] at c56
            refine v_iincN C dX4_replaceTrader_67 (by decide) rfl ?_
            refine v_goto (tgt := 3) C dX4_replaceTrader_70 (by decide) ?_
            exact ih (c + 1) _ (by omega) (by omega) (hM.to (mk_rt_n (by grind))) hO
          · rw [mk_rt_at] at c56
            refine v_aload_n C dX4_replaceTrader_59 rfl ?_
            refine v_get C 9 dX4_replaceTrader_60 wd1_69 hM.o rfl (by decide) ⟨rfl, rfl, rfl⟩ rfl ?_
            refine v_iload C dX4_replaceTrader_63 rfl ?_
            refine v_iload_n C dX4_replaceTrader_65 rfl ?_
            refine v_iastN C dX4_replaceTrader_66 (by omega) hM.a6 (by omega) (by decide) (fun h66 e66 g66 => ?_)
            have hM66 := hM.st (k := 6) (by decide) rfl e66 g66
            have hO66 : ∀ a, (a < o ∨ o + 11 ≤ a) → h66 a = h0 a := fun a ha => (g66 a (by omega)).trans (hO a ha)
            refine v_iincN C dX4_replaceTrader_67 (by decide) rfl ?_
            refine v_goto (tgt := 3) C dX4_replaceTrader_70 (by decide) ?_
            exact ih (c + 1) _ (by omega) (by omega) (hM66.to (mk_rt_6 (by assumption) (by assumption) (by assumption))) hO66
        · rw [mk_rt_at] at c34
          refine v_aload_n C dX4_replaceTrader_37 rfl ?_
          refine v_get C 8 dX4_replaceTrader_38 wd1_67 hM.o rfl (by decide) ⟨rfl, rfl, rfl⟩ rfl ?_
          refine v_iload C dX4_replaceTrader_41 rfl ?_
          refine v_iload_n C dX4_replaceTrader_43 rfl ?_
          refine v_iastN C dX4_replaceTrader_44 (by omega) hM.a5 (by omega) (by decide) (fun h44 e44 g44 => ?_)
          have hM44 := hM.st (k := 5) (by decide) rfl e44 g44
          have hO44 : ∀ a, (a < o ∨ o + 11 ≤ a) → h44 a = h0 a := fun a ha => (g44 a (by omega)).trans (hO a ha)
          refine v_goto (tgt := 67) C dX4_replaceTrader_45 (by decide) ?_
          refine v_iincN C dX4_replaceTrader_67 (by decide) rfl ?_
          refine v_goto (tgt := 3) C dX4_replaceTrader_70 (by decide) ?_
          exact ih (c + 1) _ (by omega) (by omega) (hM44.to (mk_rt_5 (by assumption) (by assumption))) hO44
      · rw [mk_rt_at] at c20
        refine v_goto (tgt := 67) C dX4_replaceTrader_23 (by decide) ?_
        refine v_iincN C dX4_replaceTrader_67 (by decide) rfl ?_
        refine v_goto (tgt := 3) C dX4_replaceTrader_70 (by decide) ?_
        exact ih (c + 1) _ (by omega) (by omega) (hM.to (mk_rt_n (by grind))) hO
set_option maxHeartbeats 4000000 in
/-- another takes the contracts on a horizon -/
theorem c_X4_replaceTrader {G : hp_G} {l : Launch} (hl : l.stackTraces = false) {n : Nat} {h0 : Nat → Option va_E} {o : Nat} {M : mk_T} (hM : Mk G h0 o M) (t k on : Int32) : Ct G l yX4_replaceTrader cX4_replaceTrader 5 none 0 0 0 [.ref o, .int t, .int k, .int on] (n, h0) (hp_vq (mk_Q G n h0 o (mk_rt M t k on (mk_ct M)))) := by
  have hhz := hM.hz
  have htr := hM.tr
  have hct := hM.ct
  have hbase := hM.base
  have hO : ∀ a, (a < o ∨ o + 11 ≤ a) → h0 a = h0 a := fun _ _ => rfl
  refine Ct.of rfl hl (by simp [Value.category]) (Nat.le_of_ble_eq_true rfl) (fun K C E hRm hKl => ?_)
  subst hKl
  refine v_iconst (v := nI 0) C dX4_replaceTrader_0 (by decide) ?_
  refine v_istore C dX4_replaceTrader_1 (by decide) ?_
  exact loop_X4_replaceTrader C hRm hl hhz htr hct (fun h1 hM1 hO1 => v_vret C E dX4_replaceTrader_73 rfl ⟨rfl, rfl, hM1, hO1⟩) (mk_ct M) 0 h0 (Nat.zero_le _) (Nat.le_of_eq (Nat.zero_add _).symm) (hM.to (mk_rt_0 M t k on)) hO
abbrev mk_ca (M : mk_T) (j : Nat) : mk_T := mk_st (mk_st (if mk_ar M 3 j ≤ 0 then mk_plo (mk_pfu M (mk_fu M - (if mk_fu M < -mk_ar M 3 j then mk_fu M else -mk_ar M 3 j))) (mk_lo M + (-mk_ar M 3 j - (if mk_fu M < -mk_ar M 3 j then mk_fu M else -mk_ar M 3 j))) else mk_pfu M (mk_fu M + mk_ar M 3 j)) 3 j (nI 0)) 4 j (nI 2)
set_option maxHeartbeats 4000000 in
/-- the account of a trader that defaults is closed -/
theorem c_X4_closeAccount {G : hp_G} {l : Launch} (hl : l.stackTraces = false) {n : Nat} {h0 : Nat → Option va_E} {o : Nat} {M : mk_T} (hM : Mk G h0 o M) {j : Nat} (hj : j < mk_tr M) : Ct G l yX4_closeAccount cX4_closeAccount 4 none 1 0 0 [.ref o, .int (nI j)] (n, h0) (hp_vq (mk_Q G n h0 o (mk_ca M j))) := by
  have hhz := hM.hz
  have htr := hM.tr
  have hct := hM.ct
  have hbase := hM.base
  have hO : ∀ a, (a < o ∨ o + 11 ≤ a) → h0 a = h0 a := fun _ _ => rfl
  refine Ct.of rfl hl (by simp [Value.category]) (Nat.le_of_ble_eq_true rfl) (fun K C E hRm hKl => ?_)
  subst hKl
  refine v_aload_n C dX4_closeAccount_0 rfl ?_
  refine v_get C 5 dX4_closeAccount_1 wd1_60 hM.o rfl (by decide) ⟨rfl, rfl, rfl⟩ rfl ?_
  refine v_iload_n C dX4_closeAccount_4 rfl ?_
  refine v_ialdN C dX4_closeAccount_5 hM.a3 (by omega) (by decide) ?_
  refine v_if_le (tgt := 27) C dX4_closeAccount_6 (by decide) (fun c6 => ?_) (fun c6 => ?_)
  · refine v_aload_n C dX4_closeAccount_27 rfl ?_
    refine v_get C 5 dX4_closeAccount_28 wd1_60 hM.o rfl (by decide) ⟨rfl, rfl, rfl⟩ rfl ?_
    refine v_iload_n C dX4_closeAccount_31 rfl ?_
    refine v_ialdN C dX4_closeAccount_32 hM.a3 (by omega) (by decide) ?_
    refine v_ineg C dX4_closeAccount_33 ?_
    refine v_istore_n C dX4_closeAccount_34 (by decide) ?_
    refine v_iload_n C dX4_closeAccount_35 rfl ?_
    refine v_aload_n C dX4_closeAccount_36 rfl ?_
    refine v_get C 14 dX4_closeAccount_37 wd1_79 hM.o rfl (by decide) ⟨rfl, rfl, rfl⟩ rfl ?_
    refine v_mmin C dX4_closeAccount_40 wd3_115 (Nat.le_of_ble_eq_true rfl) (hp_rmm hRm) ?_
    refine v_istore_n C dX4_closeAccount_43 (by decide) ?_
    refine v_aload_n C dX4_closeAccount_44 rfl ?_
    refine v_dup C dX4_closeAccount_45 rfl ?_
    refine v_get C 14 dX4_closeAccount_46 wd1_79 hM.o rfl (by decide) ⟨rfl, rfl, rfl⟩ rfl ?_
    refine v_iload_n C dX4_closeAccount_49 rfl ?_
    refine v_isub C dX4_closeAccount_50 ?_
    refine v_put C 14 dX4_closeAccount_51 wd1_79 hbase hM.o rfl (by decide) ⟨rfl, rfl, rfl, rfl⟩ rfl rfl rfl (Nat.le_of_ble_eq_true rfl) (fun h51 e51 g51 => ?_)
    have hM51 := hM.pfu e51 g51
    have hO51 : ∀ a, (a < o ∨ o + 11 ≤ a) → h51 a = h0 a := fun a ha => (g51 a (by omega)).trans (hO a ha)
    refine v_aload_n C dX4_closeAccount_54 rfl ?_
    refine v_dup C dX4_closeAccount_55 rfl ?_
    refine v_get C 15 dX4_closeAccount_56 wd1_81 hM51.o rfl (by decide) ⟨rfl, rfl, rfl⟩ rfl ?_
    refine v_iload_n C dX4_closeAccount_59 rfl ?_
    refine v_iload_n C dX4_closeAccount_60 rfl ?_
    refine v_isub C dX4_closeAccount_61 ?_
    refine v_iadd C dX4_closeAccount_62 ?_
    refine v_put C 15 dX4_closeAccount_63 wd1_81 hbase hM51.o rfl (by decide) ⟨rfl, rfl, rfl, rfl⟩ rfl rfl rfl (Nat.le_of_ble_eq_true rfl) (fun h63 e63 g63 => ?_)
    have hM63 := hM51.plo e63 g63
    have hO63 : ∀ a, (a < o ∨ o + 11 ≤ a) → h63 a = h0 a := fun a ha => (g63 a (by omega)).trans (hO51 a ha)
    refine v_aload_n C dX4_closeAccount_66 rfl ?_
    refine v_get C 5 dX4_closeAccount_67 wd1_60 hM63.o rfl (by decide) ⟨rfl, rfl, rfl⟩ rfl ?_
    refine v_iload_n C dX4_closeAccount_70 rfl ?_
    refine v_iconst (v := nI 0) C dX4_closeAccount_71 (by decide) ?_
    refine v_iastN C dX4_closeAccount_72 (by omega) hM63.a3 (by omega) (by decide) (fun h72 e72 g72 => ?_)
    have hM72 := hM63.st (k := 3) (by decide) rfl e72 g72
    have hO72 : ∀ a, (a < o ∨ o + 11 ≤ a) → h72 a = h0 a := fun a ha => (g72 a (by omega)).trans (hO63 a ha)
    refine v_aload_n C dX4_closeAccount_73 rfl ?_
    refine v_get C 6 dX4_closeAccount_74 wd1_62 hM72.o rfl (by decide) ⟨rfl, rfl, rfl⟩ rfl ?_
    refine v_iload_n C dX4_closeAccount_77 rfl ?_
    refine v_iconst (v := nI 2) C dX4_closeAccount_78 (by decide) ?_
    refine v_iastN C dX4_closeAccount_79 (by omega) hM72.a4 (by omega) (by decide) (fun h79 e79 g79 => ?_)
    have hM79 := hM72.st (k := 4) (by decide) rfl e79 g79
    have hO79 : ∀ a, (a < o ∨ o + 11 ≤ a) → h79 a = h0 a := fun a ha => (g79 a (by omega)).trans (hO72 a ha)
    exact v_vret C E dX4_closeAccount_80 rfl ⟨rfl, rfl, hM79.to (by unfold mk_ca; first | rw [if_pos c6] | rw [if_neg c6]), hO79⟩
  · refine v_aload_n C dX4_closeAccount_9 rfl ?_
    refine v_dup C dX4_closeAccount_10 rfl ?_
    refine v_get C 14 dX4_closeAccount_11 wd1_79 hM.o rfl (by decide) ⟨rfl, rfl, rfl⟩ rfl ?_
    refine v_aload_n C dX4_closeAccount_14 rfl ?_
    refine v_get C 5 dX4_closeAccount_15 wd1_60 hM.o rfl (by decide) ⟨rfl, rfl, rfl⟩ rfl ?_
    refine v_iload_n C dX4_closeAccount_18 rfl ?_
    refine v_ialdN C dX4_closeAccount_19 hM.a3 (by omega) (by decide) ?_
    refine v_iadd C dX4_closeAccount_20 ?_
    refine v_put C 14 dX4_closeAccount_21 wd1_79 hbase hM.o rfl (by decide) ⟨rfl, rfl, rfl, rfl⟩ rfl rfl rfl (Nat.le_of_ble_eq_true rfl) (fun h21 e21 g21 => ?_)
    have hM21 := hM.pfu e21 g21
    have hO21 : ∀ a, (a < o ∨ o + 11 ≤ a) → h21 a = h0 a := fun a ha => (g21 a (by omega)).trans (hO a ha)
    refine v_goto (tgt := 66) C dX4_closeAccount_24 (by decide) ?_
    refine v_aload_n C dX4_closeAccount_66 rfl ?_
    refine v_get C 5 dX4_closeAccount_67 wd1_60 hM21.o rfl (by decide) ⟨rfl, rfl, rfl⟩ rfl ?_
    refine v_iload_n C dX4_closeAccount_70 rfl ?_
    refine v_iconst (v := nI 0) C dX4_closeAccount_71 (by decide) ?_
    refine v_iastN C dX4_closeAccount_72 (by omega) hM21.a3 (by omega) (by decide) (fun h72 e72 g72 => ?_)
    have hM72 := hM21.st (k := 3) (by decide) rfl e72 g72
    have hO72 : ∀ a, (a < o ∨ o + 11 ≤ a) → h72 a = h0 a := fun a ha => (g72 a (by omega)).trans (hO21 a ha)
    refine v_aload_n C dX4_closeAccount_73 rfl ?_
    refine v_get C 6 dX4_closeAccount_74 wd1_62 hM72.o rfl (by decide) ⟨rfl, rfl, rfl⟩ rfl ?_
    refine v_iload_n C dX4_closeAccount_77 rfl ?_
    refine v_iconst (v := nI 2) C dX4_closeAccount_78 (by decide) ?_
    refine v_iastN C dX4_closeAccount_79 (by omega) hM72.a4 (by omega) (by decide) (fun h79 e79 g79 => ?_)
    have hM79 := hM72.st (k := 4) (by decide) rfl e79 g79
    have hO79 : ∀ a, (a < o ∨ o + 11 ≤ a) → h79 a = h0 a := fun a ha => (g79 a (by omega)).trans (hO72 a ha)
    exact v_vret C E dX4_closeAccount_80 rfl ⟨rfl, rfl, hM79.to (by unfold mk_ca; first | rw [if_pos c6] | rw [if_neg c6]), hO79⟩

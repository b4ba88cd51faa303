/-! ===== THE CLASS: lines, consistency ===== -/
abbrev hp_mn : Int32 := -2147483648
/-- a number as it is written -/
def it_t (x : Int32) : Nat → Nat := if 0 ≤ x.toInt then sx_dec 0 x.toInt.toNat else sx_dec 1 (-x.toInt).toNat
def it_n (x : Int32) : Nat := if 0 ≤ x.toInt then sb_dg x.toInt.toNat + 0 else sb_dg (-x.toInt).toNat + 1
theorem it_n_le (x : Int32) : it_n x ≤ 11 := by
  unfold it_n
  split
  · have := (sb_dg_in x.toInt.toNat).2
    omega
  · have := (sb_dg_in (-x.toInt).toNat).2
    omega
theorem it_sg {x : Int32} (h : x ≠ hp_mn) : (∃ k, k < 2 ^ 31 ∧ x = nI k) ∨ (∃ k, 1 ≤ k ∧ k < 2 ^ 31 ∧ x = -nI k) := by
  have h1 := Int32.le_toInt x
  have h2 := Int32.toInt_lt x
  have h3 : x.toInt ≠ -2147483648 := fun z => h (Int32.toInt.inj (z.trans (by decide)))
  by_cases z : 0 ≤ x.toInt
  · refine Or.inl ⟨x.toInt.toNat, by omega, Int32.toInt.inj ?_⟩
    rw [nI_toInt (by omega)]
    omega
  · refine Or.inr ⟨(-x.toInt).toNat, by omega, by omega, Int32.toInt.inj ?_⟩
    rw [sb_negT (by omega)]
    omega
theorem it_p {k : Nat} (h : k < 2 ^ 31) : it_t (nI k) = sx_dec 0 k ∧ it_n (nI k) = sb_dg k + 0 := by
  have e : (nI k).toInt = (k : Int) := nI_toInt h
  unfold it_t it_n
  rw [e]
  have z : (0 : Int) ≤ (k : Int) := by omega
  rw [if_pos z, if_pos z]
  exact ⟨rfl, rfl⟩
theorem it_m {k : Nat} (h1 : 1 ≤ k) (h : k < 2 ^ 31) : it_t (-nI k) = sx_dec 1 k ∧ it_n (-nI k) = sb_dg k + 1 := by
  have e : (-nI k).toInt = -(k : Int) := sb_negT h
  unfold it_t it_n
  rw [e]
  have z : ¬ (0 : Int) ≤ -(k : Int) := by omega
  rw [if_neg z, if_neg z]
  have e2 : (- -(k : Int)).toNat = k := by omega
  rw [e2]
  exact ⟨rfl, rfl⟩
set_option maxHeartbeats 4000000 in
theorem c_J4_append_bf812_i {G : hp_G} {l : Launch} (hl : l.stackTraces = false) {n0 : Nat} {h : Nat → Option va_E} {q v : Nat} {ml : Int32} {t : Nat → Nat} {n m : Nat} (S : Sb G h q v ml t n m) {y : Int32} (hD : Dg G h) (hy : y ≠ hp_mn) (hn : n + it_n y ≤ 100) : Ct G l yJ4_append_bf812 cJ4_append_bf812 2 (some (.object "java/lang/StringBuilder")) 5 1 602 [.ref q, .int y] (n0, h) (hp_aq (fun r τ => r = q ∧ ∃ (v1 : Nat) (ml1 : Int32) (m1 : Nat), Sb G τ.2 q v1 ml1 (sb_cat t n (it_t y)) (n + it_n y) m1 ∧ Sx n0 h q v v1 τ)) := by
  rcases it_sg hy with ⟨k, h1, rfl⟩ | ⟨k, h0, h1, rfl⟩
  · rw [(it_p h1).2] at hn
    have c := c_J4_append_bf812 (n0 := n0) hl S hD h1 hn
    rw [(it_p h1).1, (it_p h1).2]
    exact c
  · rw [(it_m h0 h1).2] at hn
    have c := c_J4_append_bf812_m (n0 := n0) hl S hD h0 h1 hn
    rw [(it_m h0 h1).1, (it_m h0 h1).2]
    exact c
/-- a line as it grows -/
abbrev wl_T : Type := Nat × (Nat → Nat)
def wl_0 : wl_T := (0, fun _ => 0)
def wl_i (P : wl_T) (x : Int32) : wl_T := (P.1 + it_n x, sb_cat P.2 P.1 (it_t x))
def wl_c (P : wl_T) (c : Nat) : wl_T := (P.1 + 1, sb_cat P.2 P.1 (fun _ => c))
theorem wl_i_le {P : wl_T} {x : Int32} {k : Nat} (h : P.1 ≤ k) : (wl_i P x).1 ≤ k + 11 := by
  have := it_n_le x
  show P.1 + it_n x ≤ k + 11
  omega
theorem wl_c_le {P : wl_T} {c : Nat} {k : Nat} (h : P.1 ≤ k) : (wl_c P c).1 ≤ k + 1 := by
  show P.1 + 1 ≤ k + 1
  omega
/-- the line of a contract, of a trader -/
def wc_l (M : mk_T) (j : Nat) : wl_T := wl_i (wl_c (wl_i (wl_c (wl_i (wl_c (wl_i (wl_c (wl_i wl_0 (mk_ar M 5 j)) 60) (mk_ar M 6 j)) 58) (mk_ar M 8 j)) 104) (mk_ar M 7 j)) 43) (mk_ar M 9 j - M.2.2.1.1)
def wt_l (M : mk_T) (j : Nat) : wl_T := if mk_ar M 4 j = nI 1 then wl_c (wl_i (wl_c (wl_i wl_0 (mk_ar M 3 j)) 47) (mk_mg M (nI j) (mk_hz M))) 33 else if mk_ar M 4 j = nI 2 then wl_c (wl_i (wl_c (wl_i wl_0 (mk_ar M 3 j)) 47) (mk_mg M (nI j) (mk_hz M))) 120 else wl_i (wl_c (wl_i wl_0 (mk_ar M 3 j)) 47) (mk_mg M (nI j) (mk_hz M))
def wc_ok (M : mk_T) : Prop := ∀ j, j < mk_ct M → mk_ar M 5 j ≠ hp_mn ∧ mk_ar M 6 j ≠ hp_mn ∧ mk_ar M 7 j ≠ hp_mn ∧ mk_ar M 8 j ≠ hp_mn ∧ mk_ar M 9 j - M.2.2.1.1 ≠ hp_mn
def wt_ok (M : mk_T) : Prop := ∀ j, j < mk_tr M → mk_ar M 3 j ≠ hp_mn ∧ mk_mg M (nI j) (mk_hz M) ≠ hp_mn
def wc_t (M : mk_T) (i : Int32) (lt : Nat → Nat) : Nat → Nat := if hp_num i (mk_ct M) then (wc_l M i.toNatClampNeg).2 else lt
def wc_n (M : mk_T) (i : Int32) (ln : Nat) : Nat := if hp_num i (mk_ct M) then (wc_l M i.toNatClampNeg).1 else ln
def wt_t (M : mk_T) (i : Int32) (lt : Nat → Nat) : Nat → Nat := if hp_num i (mk_tr M) then (wt_l M i.toNatClampNeg).2 else lt
def wt_n (M : mk_T) (i : Int32) (ln : Nat) : Nat := if hp_num i (mk_tr M) then (wt_l M i.toNatClampNeg).1 else ln
set_option maxHeartbeats 8000000 in
/-- the line of a contract -/
theorem c_X7_writeContract {G : hp_G} {l : Launch} (hl : l.stackTraces = false) {n0 : Nat} {h0 : Nat → Option va_E} {x L0 : Nat} {M : mk_T} {B : mk_T} {Z : mk_T} {mk : Nat → mk_T} {nx : Nat} {cnt : Nat} {t : Nat → Nat} {n : Nat} {lt : Nat → Nat} {ln : Nat} {hs : Int32} {ma : Int32} {fa : Int32} {rk : Nat → Option va_E} (E0 : Ex G h0 x L0 M B Z mk nx cnt t n lt ln hs ma fa rk) (hL : L0 ≤ n0) (i : Int32) (hok : wc_ok M) : Ct G l yX7_writeContract cX7_writeContract 2 (some .int) 8 10 5424 [.ref x, .int i] (n0, h0) (fun o τ => o = qa (hp_num i (mk_ct M)) xI (rI (nI (wc_l M i.toNatClampNeg).1)) ∧ Fx G n0 h0 x L0 M B Z mk nx cnt t n (wc_t M i lt) (wc_n M i ln) hs ma fa rk τ.1 τ.2) := by
  have F0 := Fx.start E0 hL
  have hhz := E0.m.hz
  have htr := E0.m.tr
  have hct := E0.m.ct
  have hbase := E0.base
  have hl0 := E0.l0
  refine Ct.of rfl hl (by simp [Value.category]) (Nat.le_of_ble_eq_true rfl) (fun K C E hRm hKl => ?_)
  subst hKl
  refine v_iload_n C dX7_writeContract_0 rfl ?_
  refine v_aload_n C dX7_writeContract_1 rfl ?_
  refine v_get C 0 dX7_writeContract_2 wd2_17 F0.1.o rfl (by decide) ⟨rfl, rfl, rfl⟩ rfl ?_
  refine v_getN (v := .int (nI (mk_ct M))) C 7 dX7_writeContract_5 wd1_66 F0.1.m.o rfl (by decide) ⟨rfl, rfl, rfl⟩ rfl ?_
  refine v_callSx C (c_X7_needNumber hl i (mk_ct M)) dX7_writeContract_8 mX7_needNumber wd4_82 rfl rfl (Nat.le_of_ble_eq_true rfl) (hp_rmle hRm (by decide) (by decide)) (Nat.le_of_ble_eq_true rfl) (Nat.le_of_ble_eq_true rfl) (fun e8 t8 q8 => ?_) (fun v8 t8 q8 => ?_)
  · obtain ⟨n8, h8⟩ := t8
    obtain ⟨c8, z8, y8, x8⟩ := q8.resolve_left (fun z => by cases z.2.1)
    have x8 := Eq.symm x8
    cases z8
    subst x8
    exact v_xout C E ⟨(if_neg c8).symm, by unfold wc_t wc_n; rw [if_neg c8, if_neg c8]; exact F0.up y8⟩
  obtain ⟨c8, z8, y8⟩ := q8.resolve_right (fun z => by cases z.2.1)
  cases z8
  subst y8
  obtain ⟨j, hj, rfl⟩ := hp_num_j c8 (by omega)
  have ed : (nI j).toNatClampNeg = j := nI_clamp (by omega)
  obtain ⟨x5, x6, x7, x8, x9⟩ := hok j hj
  refine v_aload_n C dX7_writeContract_11 rfl ?_
  refine v_get C 8 dX7_writeContract_12 wd2_25 F0.1.o rfl (by decide) ⟨rfl, rfl, rfl⟩ rfl ?_
  refine v_iconst (v := nI 0) C dX7_writeContract_15 (by decide) ?_
  obtain ⟨vt16, mlt16, mt16, vl16, mll16, mm16, ST16, SL16, z316, z416, z516⟩ := F0.1.sb
  obtain ⟨al16, hal16, -⟩ := ST16.2.1
  refine v_lt hal16 (fun hv16 => ?_)
  refine v_callVv C (c_J4_setLength_d00df hl SL16) dX7_writeContract_16 mJ4_setLength_d00df rfl SL16.1 rfl wd5_44 rfl rfl (Nat.le_of_ble_eq_true rfl) (hp_rmle hRm (by decide) (by decide)) (Nat.le_of_ble_eq_true rfl) (Nat.le_of_ble_eq_true rfl) (fun n16 h16 q16 => ?_)
  obtain ⟨ml16x, S16, k16, u16⟩ := q16
  have z16 := Eq.symm k16
  have z16 : n0 = n16 := z16
  subst z16
  have F16 : Fx G n0 h0 x L0 M B Z mk nx cnt t n wl_0.2 wl_0.1 hs ma fa rk n0 h16 := F0.ul (n' := n0) SL16 ST16 z416 z316 (Ne.symm z516) (S16.text (fun j hj => absurd hj (Nat.not_lt_zero j))) (Or.inl rfl) hv16 (Nat.le_refl _) (fun b k1 _ _ => u16 b k1)
  have s16 : wl_0.1 ≤ 0 := Nat.le_refl _
  refine v_aload_n C dX7_writeContract_19 rfl ?_
  refine v_get C 8 dX7_writeContract_20 wd2_25 F16.1.o rfl (by decide) ⟨rfl, rfl, rfl⟩ rfl ?_
  refine v_aload_n C dX7_writeContract_23 rfl ?_
  refine v_get C 0 dX7_writeContract_24 wd2_17 F16.1.o rfl (by decide) ⟨rfl, rfl, rfl⟩ rfl ?_
  refine v_getN C 8 dX7_writeContract_27 wd1_68 F16.1.m.o rfl (by decide) ⟨rfl, rfl, rfl⟩ rfl ?_
  refine v_iload_n C dX7_writeContract_30 rfl ?_
  refine v_ialdN C dX7_writeContract_31 F16.1.m.a5 (by omega) (by decide) ?_
  obtain ⟨vt32, mlt32, mt32, vl32, mll32, mm32, ST32, SL32, z332, z432, z532⟩ := F16.1.sb
  obtain ⟨al32, hal32, -⟩ := ST32.2.1
  refine v_lt hal32 (fun hv32 => ?_)
  refine v_callVa C (c_J4_append_bf812_i hl SL32 F16.1.kc.1 x5 (by have := it_n_le (mk_ar M 5 j); omega)) dX7_writeContract_32 mJ4_append_bf812 rfl SL32.1 rfl wd6_55 rfl rfl (Nat.le_of_ble_eq_true rfl) (hp_rmle hRm (by decide) (by decide)) (Nat.le_of_ble_eq_true rfl) (Nat.le_of_ble_eq_true rfl) (fun r32 n32 h32 q32 => ?_)
  obtain ⟨e32, v132, ml132, m132, S32, x132, x232, x332⟩ := q32
  subst e32
  have F32 : Fx G n0 h0 x L0 M B Z mk nx cnt t n (wl_i wl_0 (mk_ar M 5 j)).2 (wl_i wl_0 (mk_ar M 5 j)).1 hs ma fa rk n32 h32 := F16.ul (n' := n32) SL32 ST32 z432 z332 (Ne.symm z532) S32 x232 hv32 x132 x332
  have s32 : (wl_i wl_0 (mk_ar M 5 j)).1 ≤ 11 := wl_i_le s16
  refine v_bipush (v := nI 60) C dX7_writeContract_35 (by decide) ?_
  obtain ⟨vt37, mlt37, mt37, vl37, mll37, mm37, ST37, SL37, z337, z437, z537⟩ := F32.1.sb
  obtain ⟨al37, hal37, -⟩ := ST37.2.1
  refine v_lt hal37 (fun hv37 => ?_)
  refine v_callVa C (c_J4_append_cf468 hl SL37 (c := 60) (by decide) (by omega)) dX7_writeContract_37 mJ4_append_cf468 rfl SL37.1 rfl wd6_56 rfl rfl (Nat.le_of_ble_eq_true rfl) (hp_rmle hRm (by decide) (by decide)) (Nat.le_of_ble_eq_true rfl) (Nat.le_of_ble_eq_true rfl) (fun r37 n37 h37 q37 => ?_)
  obtain ⟨e37, v137, ml137, m137, S37, x137, x237, x337⟩ := q37
  subst e37
  have F37 : Fx G n0 h0 x L0 M B Z mk nx cnt t n (wl_c (wl_i wl_0 (mk_ar M 5 j)) 60).2 (wl_c (wl_i wl_0 (mk_ar M 5 j)) 60).1 hs ma fa rk n37 h37 := F32.ul (n' := n37) SL37 ST37 z437 z337 (Ne.symm z537) S37 x237 hv37 x137 x337
  have s37 : (wl_c (wl_i wl_0 (mk_ar M 5 j)) 60).1 ≤ 12 := wl_c_le s32
  refine v_aload_n C dX7_writeContract_40 rfl ?_
  refine v_get C 0 dX7_writeContract_41 wd2_17 F37.1.o rfl (by decide) ⟨rfl, rfl, rfl⟩ rfl ?_
  refine v_getN C 9 dX7_writeContract_44 wd1_70 F37.1.m.o rfl (by decide) ⟨rfl, rfl, rfl⟩ rfl ?_
  refine v_iload_n C dX7_writeContract_47 rfl ?_
  refine v_ialdN C dX7_writeContract_48 F37.1.m.a6 (by omega) (by decide) ?_
  obtain ⟨vt49, mlt49, mt49, vl49, mll49, mm49, ST49, SL49, z349, z449, z549⟩ := F37.1.sb
  obtain ⟨al49, hal49, -⟩ := ST49.2.1
  refine v_lt hal49 (fun hv49 => ?_)
  refine v_callVa C (c_J4_append_bf812_i hl SL49 F37.1.kc.1 x6 (by have := it_n_le (mk_ar M 6 j); omega)) dX7_writeContract_49 mJ4_append_bf812 rfl SL49.1 rfl wd6_55 rfl rfl (Nat.le_of_ble_eq_true rfl) (hp_rmle hRm (by decide) (by decide)) (Nat.le_of_ble_eq_true rfl) (Nat.le_of_ble_eq_true rfl) (fun r49 n49 h49 q49 => ?_)
  obtain ⟨e49, v149, ml149, m149, S49, x149, x249, x349⟩ := q49
  subst e49
  have F49 : Fx G n0 h0 x L0 M B Z mk nx cnt t n (wl_i (wl_c (wl_i wl_0 (mk_ar M 5 j)) 60) (mk_ar M 6 j)).2 (wl_i (wl_c (wl_i wl_0 (mk_ar M 5 j)) 60) (mk_ar M 6 j)).1 hs ma fa rk n49 h49 := F37.ul (n' := n49) SL49 ST49 z449 z349 (Ne.symm z549) S49 x249 hv49 x149 x349
  have s49 : (wl_i (wl_c (wl_i wl_0 (mk_ar M 5 j)) 60) (mk_ar M 6 j)).1 ≤ 23 := wl_i_le s37
  refine v_pop C dX7_writeContract_52 rfl ?_
  refine v_aload_n C dX7_writeContract_53 rfl ?_
  refine v_get C 8 dX7_writeContract_54 wd2_25 F49.1.o rfl (by decide) ⟨rfl, rfl, rfl⟩ rfl ?_
  refine v_bipush (v := nI 58) C dX7_writeContract_57 (by decide) ?_
  obtain ⟨vt59, mlt59, mt59, vl59, mll59, mm59, ST59, SL59, z359, z459, z559⟩ := F49.1.sb
  obtain ⟨al59, hal59, -⟩ := ST59.2.1
  refine v_lt hal59 (fun hv59 => ?_)
  refine v_callVa C (c_J4_append_cf468 hl SL59 (c := 58) (by decide) (by omega)) dX7_writeContract_59 mJ4_append_cf468 rfl SL59.1 rfl wd6_56 rfl rfl (Nat.le_of_ble_eq_true rfl) (hp_rmle hRm (by decide) (by decide)) (Nat.le_of_ble_eq_true rfl) (Nat.le_of_ble_eq_true rfl) (fun r59 n59 h59 q59 => ?_)
  obtain ⟨e59, v159, ml159, m159, S59, x159, x259, x359⟩ := q59
  subst e59
  have F59 : Fx G n0 h0 x L0 M B Z mk nx cnt t n (wl_c (wl_i (wl_c (wl_i wl_0 (mk_ar M 5 j)) 60) (mk_ar M 6 j)) 58).2 (wl_c (wl_i (wl_c (wl_i wl_0 (mk_ar M 5 j)) 60) (mk_ar M 6 j)) 58).1 hs ma fa rk n59 h59 := F49.ul (n' := n59) SL59 ST59 z459 z359 (Ne.symm z559) S59 x259 hv59 x159 x359
  have s59 : (wl_c (wl_i (wl_c (wl_i wl_0 (mk_ar M 5 j)) 60) (mk_ar M 6 j)) 58).1 ≤ 24 := wl_c_le s49
  refine v_aload_n C dX7_writeContract_62 rfl ?_
  refine v_get C 0 dX7_writeContract_63 wd2_17 F59.1.o rfl (by decide) ⟨rfl, rfl, rfl⟩ rfl ?_
  refine v_getN C 11 dX7_writeContract_66 wd1_74 F59.1.m.o rfl (by decide) ⟨rfl, rfl, rfl⟩ rfl ?_
  refine v_iload_n C dX7_writeContract_69 rfl ?_
  refine v_ialdN C dX7_writeContract_70 F59.1.m.a8 (by omega) (by decide) ?_
  obtain ⟨vt71, mlt71, mt71, vl71, mll71, mm71, ST71, SL71, z371, z471, z571⟩ := F59.1.sb
  obtain ⟨al71, hal71, -⟩ := ST71.2.1
  refine v_lt hal71 (fun hv71 => ?_)
  refine v_callVa C (c_J4_append_bf812_i hl SL71 F59.1.kc.1 x8 (by have := it_n_le (mk_ar M 8 j); omega)) dX7_writeContract_71 mJ4_append_bf812 rfl SL71.1 rfl wd6_55 rfl rfl (Nat.le_of_ble_eq_true rfl) (hp_rmle hRm (by decide) (by decide)) (Nat.le_of_ble_eq_true rfl) (Nat.le_of_ble_eq_true rfl) (fun r71 n71 h71 q71 => ?_)
  obtain ⟨e71, v171, ml171, m171, S71, x171, x271, x371⟩ := q71
  subst e71
  have F71 : Fx G n0 h0 x L0 M B Z mk nx cnt t n (wl_i (wl_c (wl_i (wl_c (wl_i wl_0 (mk_ar M 5 j)) 60) (mk_ar M 6 j)) 58) (mk_ar M 8 j)).2 (wl_i (wl_c (wl_i (wl_c (wl_i wl_0 (mk_ar M 5 j)) 60) (mk_ar M 6 j)) 58) (mk_ar M 8 j)).1 hs ma fa rk n71 h71 := F59.ul (n' := n71) SL71 ST71 z471 z371 (Ne.symm z571) S71 x271 hv71 x171 x371
  have s71 : (wl_i (wl_c (wl_i (wl_c (wl_i wl_0 (mk_ar M 5 j)) 60) (mk_ar M 6 j)) 58) (mk_ar M 8 j)).1 ≤ 35 := wl_i_le s59
  refine v_bipush (v := nI 104) C dX7_writeContract_74 (by decide) ?_
  obtain ⟨vt76, mlt76, mt76, vl76, mll76, mm76, ST76, SL76, z376, z476, z576⟩ := F71.1.sb
  obtain ⟨al76, hal76, -⟩ := ST76.2.1
  refine v_lt hal76 (fun hv76 => ?_)
  refine v_callVa C (c_J4_append_cf468 hl SL76 (c := 104) (by decide) (by omega)) dX7_writeContract_76 mJ4_append_cf468 rfl SL76.1 rfl wd6_56 rfl rfl (Nat.le_of_ble_eq_true rfl) (hp_rmle hRm (by decide) (by decide)) (Nat.le_of_ble_eq_true rfl) (Nat.le_of_ble_eq_true rfl) (fun r76 n76 h76 q76 => ?_)
  obtain ⟨e76, v176, ml176, m176, S76, x176, x276, x376⟩ := q76
  subst e76
  have F76 : Fx G n0 h0 x L0 M B Z mk nx cnt t n (wl_c (wl_i (wl_c (wl_i (wl_c (wl_i wl_0 (mk_ar M 5 j)) 60) (mk_ar M 6 j)) 58) (mk_ar M 8 j)) 104).2 (wl_c (wl_i (wl_c (wl_i (wl_c (wl_i wl_0 (mk_ar M 5 j)) 60) (mk_ar M 6 j)) 58) (mk_ar M 8 j)) 104).1 hs ma fa rk n76 h76 := F71.ul (n' := n76) SL76 ST76 z476 z376 (Ne.symm z576) S76 x276 hv76 x176 x376
  have s76 : (wl_c (wl_i (wl_c (wl_i (wl_c (wl_i wl_0 (mk_ar M 5 j)) 60) (mk_ar M 6 j)) 58) (mk_ar M 8 j)) 104).1 ≤ 36 := wl_c_le s71
  refine v_aload_n C dX7_writeContract_79 rfl ?_
  refine v_get C 0 dX7_writeContract_80 wd2_17 F76.1.o rfl (by decide) ⟨rfl, rfl, rfl⟩ rfl ?_
  refine v_getN C 10 dX7_writeContract_83 wd1_72 F76.1.m.o rfl (by decide) ⟨rfl, rfl, rfl⟩ rfl ?_
  refine v_iload_n C dX7_writeContract_86 rfl ?_
  refine v_ialdN C dX7_writeContract_87 F76.1.m.a7 (by omega) (by decide) ?_
  obtain ⟨vt88, mlt88, mt88, vl88, mll88, mm88, ST88, SL88, z388, z488, z588⟩ := F76.1.sb
  obtain ⟨al88, hal88, -⟩ := ST88.2.1
  refine v_lt hal88 (fun hv88 => ?_)
  refine v_callVa C (c_J4_append_bf812_i hl SL88 F76.1.kc.1 x7 (by have := it_n_le (mk_ar M 7 j); omega)) dX7_writeContract_88 mJ4_append_bf812 rfl SL88.1 rfl wd6_55 rfl rfl (Nat.le_of_ble_eq_true rfl) (hp_rmle hRm (by decide) (by decide)) (Nat.le_of_ble_eq_true rfl) (Nat.le_of_ble_eq_true rfl) (fun r88 n88 h88 q88 => ?_)
  obtain ⟨e88, v188, ml188, m188, S88, x188, x288, x388⟩ := q88
  subst e88
  have F88 : Fx G n0 h0 x L0 M B Z mk nx cnt t n (wl_i (wl_c (wl_i (wl_c (wl_i (wl_c (wl_i wl_0 (mk_ar M 5 j)) 60) (mk_ar M 6 j)) 58) (mk_ar M 8 j)) 104) (mk_ar M 7 j)).2 (wl_i (wl_c (wl_i (wl_c (wl_i (wl_c (wl_i wl_0 (mk_ar M 5 j)) 60) (mk_ar M 6 j)) 58) (mk_ar M 8 j)) 104) (mk_ar M 7 j)).1 hs ma fa rk n88 h88 := F76.ul (n' := n88) SL88 ST88 z488 z388 (Ne.symm z588) S88 x288 hv88 x188 x388
  have s88 : (wl_i (wl_c (wl_i (wl_c (wl_i (wl_c (wl_i wl_0 (mk_ar M 5 j)) 60) (mk_ar M 6 j)) 58) (mk_ar M 8 j)) 104) (mk_ar M 7 j)).1 ≤ 47 := wl_i_le s76
  refine v_pop C dX7_writeContract_91 rfl ?_
  refine v_aload_n C dX7_writeContract_92 rfl ?_
  refine v_get C 8 dX7_writeContract_93 wd2_25 F88.1.o rfl (by decide) ⟨rfl, rfl, rfl⟩ rfl ?_
  refine v_bipush (v := nI 43) C dX7_writeContract_96 (by decide) ?_
  obtain ⟨vt98, mlt98, mt98, vl98, mll98, mm98, ST98, SL98, z398, z498, z598⟩ := F88.1.sb
  obtain ⟨al98, hal98, -⟩ := ST98.2.1
  refine v_lt hal98 (fun hv98 => ?_)
  refine v_callVa C (c_J4_append_cf468 hl SL98 (c := 43) (by decide) (by omega)) dX7_writeContract_98 mJ4_append_cf468 rfl SL98.1 rfl wd6_56 rfl rfl (Nat.le_of_ble_eq_true rfl) (hp_rmle hRm (by decide) (by decide)) (Nat.le_of_ble_eq_true rfl) (Nat.le_of_ble_eq_true rfl) (fun r98 n98 h98 q98 => ?_)
  obtain ⟨e98, v198, ml198, m198, S98, x198, x298, x398⟩ := q98
  subst e98
  have F98 : Fx G n0 h0 x L0 M B Z mk nx cnt t n (wl_c (wl_i (wl_c (wl_i (wl_c (wl_i (wl_c (wl_i wl_0 (mk_ar M 5 j)) 60) (mk_ar M 6 j)) 58) (mk_ar M 8 j)) 104) (mk_ar M 7 j)) 43).2 (wl_c (wl_i (wl_c (wl_i (wl_c (wl_i (wl_c (wl_i wl_0 (mk_ar M 5 j)) 60) (mk_ar M 6 j)) 58) (mk_ar M 8 j)) 104) (mk_ar M 7 j)) 43).1 hs ma fa rk n98 h98 := F88.ul (n' := n98) SL98 ST98 z498 z398 (Ne.symm z598) S98 x298 hv98 x198 x398
  have s98 : (wl_c (wl_i (wl_c (wl_i (wl_c (wl_i (wl_c (wl_i wl_0 (mk_ar M 5 j)) 60) (mk_ar M 6 j)) 58) (mk_ar M 8 j)) 104) (mk_ar M 7 j)) 43).1 ≤ 48 := wl_c_le s88
  refine v_aload_n C dX7_writeContract_101 rfl ?_
  refine v_get C 0 dX7_writeContract_102 wd2_17 F98.1.o rfl (by decide) ⟨rfl, rfl, rfl⟩ rfl ?_
  refine v_getN C 12 dX7_writeContract_105 wd1_76 F98.1.m.o rfl (by decide) ⟨rfl, rfl, rfl⟩ rfl ?_
  refine v_iload_n C dX7_writeContract_108 rfl ?_
  refine v_ialdN C dX7_writeContract_109 F98.1.m.a9 (by omega) (by decide) ?_
  refine v_aload_n C dX7_writeContract_110 rfl ?_
  refine v_get C 0 dX7_writeContract_111 wd2_17 F98.1.o rfl (by decide) ⟨rfl, rfl, rfl⟩ rfl ?_
  refine v_getN C 13 dX7_writeContract_114 wd1_78 F98.1.m.o rfl (by decide) ⟨rfl, rfl, rfl⟩ rfl ?_
  refine v_isub C dX7_writeContract_117 ?_
  obtain ⟨vt118, mlt118, mt118, vl118, mll118, mm118, ST118, SL118, z3118, z4118, z5118⟩ := F98.1.sb
  obtain ⟨al118, hal118, -⟩ := ST118.2.1
  refine v_lt hal118 (fun hv118 => ?_)
  refine v_callVa C (c_J4_append_bf812_i hl SL118 F98.1.kc.1 x9 (by have := it_n_le (mk_ar M 9 j - M.2.2.1.1); omega)) dX7_writeContract_118 mJ4_append_bf812 rfl SL118.1 rfl wd6_55 rfl rfl (Nat.le_of_ble_eq_true rfl) (hp_rmle hRm (by decide) (by decide)) (Nat.le_of_ble_eq_true rfl) (Nat.le_of_ble_eq_true rfl) (fun r118 n118 h118 q118 => ?_)
  obtain ⟨e118, v1118, ml1118, m1118, S118, x1118, x2118, x3118⟩ := q118
  subst e118
  have F118 : Fx G n0 h0 x L0 M B Z mk nx cnt t n (wl_i (wl_c (wl_i (wl_c (wl_i (wl_c (wl_i (wl_c (wl_i wl_0 (mk_ar M 5 j)) 60) (mk_ar M 6 j)) 58) (mk_ar M 8 j)) 104) (mk_ar M 7 j)) 43) (mk_ar M 9 j - M.2.2.1.1)).2 (wl_i (wl_c (wl_i (wl_c (wl_i (wl_c (wl_i (wl_c (wl_i wl_0 (mk_ar M 5 j)) 60) (mk_ar M 6 j)) 58) (mk_ar M 8 j)) 104) (mk_ar M 7 j)) 43) (mk_ar M 9 j - M.2.2.1.1)).1 hs ma fa rk n118 h118 := F98.ul (n' := n118) SL118 ST118 z4118 z3118 (Ne.symm z5118) S118 x2118 hv118 x1118 x3118
  have s118 : (wl_i (wl_c (wl_i (wl_c (wl_i (wl_c (wl_i (wl_c (wl_i wl_0 (mk_ar M 5 j)) 60) (mk_ar M 6 j)) 58) (mk_ar M 8 j)) 104) (mk_ar M 7 j)) 43) (mk_ar M 9 j - M.2.2.1.1)).1 ≤ 59 := wl_i_le s98
  refine v_pop C dX7_writeContract_121 rfl ?_
  refine v_aload_n C dX7_writeContract_122 rfl ?_
  refine v_get C 8 dX7_writeContract_123 wd2_25 F118.1.o rfl (by decide) ⟨rfl, rfl, rfl⟩ rfl ?_
  obtain ⟨vt126, mlt126, mt126, vl126, mll126, mm126, ST126, SL126, z3126, z4126, z5126⟩ := F118.1.sb
  obtain ⟨al126, hal126, -⟩ := ST126.2.1
  refine v_lt hal126 (fun hv126 => ?_)
  refine v_callVi C (c_J4_length_8abf5 hl SL126.1) dX7_writeContract_126 mJ4_length_8abf5 rfl SL126.1 rfl wd6_78 rfl rfl (Nat.le_of_ble_eq_true rfl) (hp_rmle hRm (by decide) (by decide)) (Nat.le_of_ble_eq_true rfl) (Nat.le_of_ble_eq_true rfl) ?_
  exact v_iret C E dX7_writeContract_129 rfl ⟨by rw [ed]; exact (if_pos c8).symm, by unfold wc_t wc_n; rw [if_pos c8, if_pos c8, ed]; exact F118⟩
set_option maxHeartbeats 8000000 in
/-- the line of a trader -/
theorem c_X7_writeTrader {G : hp_G} {l : Launch} (hl : l.stackTraces = false) {n0 : Nat} {h0 : Nat → Option va_E} {x L0 : Nat} {M : mk_T} {B : mk_T} {Z : mk_T} {mk : Nat → mk_T} {nx : Nat} {cnt : Nat} {t : Nat → Nat} {n : Nat} {lt : Nat → Nat} {ln : Nat} {hs : Int32} {ma : Int32} {fa : Int32} {rk : Nat → Option va_E} (E0 : Ex G h0 x L0 M B Z mk nx cnt t n lt ln hs ma fa rk) (hL : L0 ≤ n0) (i : Int32) (hok : wt_ok M) : Ct G l yX7_writeTrader cX7_writeTrader 2 (some .int) 8 5 2414 [.ref x, .int i] (n0, h0) (fun o τ => o = qa (hp_num i (mk_tr M)) xI (rI (nI (wt_l M i.toNatClampNeg).1)) ∧ Fx G n0 h0 x L0 M B Z mk nx cnt t n (wt_t M i lt) (wt_n M i ln) hs ma fa rk τ.1 τ.2) := by
  have F0 := Fx.start E0 hL
  have hhz := E0.m.hz
  have htr := E0.m.tr
  have hct := E0.m.ct
  have hbase := E0.base
  have hl0 := E0.l0
  refine Ct.of rfl hl (by simp [Value.category]) (Nat.le_of_ble_eq_true rfl) (fun K C E hRm hKl => ?_)
  subst hKl
  refine v_iload_n C dX7_writeTrader_0 rfl ?_
  refine v_aload_n C dX7_writeTrader_1 rfl ?_
  refine v_get C 0 dX7_writeTrader_2 wd2_17 F0.1.o rfl (by decide) ⟨rfl, rfl, rfl⟩ rfl ?_
  refine v_getN (v := .int (nI (mk_tr M))) C 4 dX7_writeTrader_5 wd1_59 F0.1.m.o rfl (by decide) ⟨rfl, rfl, rfl⟩ rfl ?_
  refine v_callSx C (c_X7_needNumber hl i (mk_tr M)) dX7_writeTrader_8 mX7_needNumber wd4_82 rfl rfl (Nat.le_of_ble_eq_true rfl) (hp_rmle hRm (by decide) (by decide)) (Nat.le_of_ble_eq_true rfl) (Nat.le_of_ble_eq_true rfl) (fun e8 t8 q8 => ?_) (fun v8 t8 q8 => ?_)
  · obtain ⟨n8, h8⟩ := t8
    obtain ⟨c8, z8, y8, x8⟩ := q8.resolve_left (fun z => by cases z.2.1)
    have x8 := Eq.symm x8
    cases z8
    subst x8
    exact v_xout C E ⟨(if_neg c8).symm, by unfold wt_t wt_n; rw [if_neg c8, if_neg c8]; exact F0.up y8⟩
  obtain ⟨c8, z8, y8⟩ := q8.resolve_right (fun z => by cases z.2.1)
  cases z8
  subst y8
  obtain ⟨j, hj, rfl⟩ := hp_num_j c8 (by omega)
  have ed : (nI j).toNatClampNeg = j := nI_clamp (by omega)
  obtain ⟨x3, x4⟩ := hok j hj
  refine v_aload_n C dX7_writeTrader_11 rfl ?_
  refine v_get C 8 dX7_writeTrader_12 wd2_25 F0.1.o rfl (by decide) ⟨rfl, rfl, rfl⟩ rfl ?_
  refine v_iconst (v := nI 0) C dX7_writeTrader_15 (by decide) ?_
  obtain ⟨vt16, mlt16, mt16, vl16, mll16, mm16, ST16, SL16, z316, z416, z516⟩ := F0.1.sb
  obtain ⟨al16, hal16, -⟩ := ST16.2.1
  refine v_lt hal16 (fun hv16 => ?_)
  refine v_callVv C (c_J4_setLength_d00df hl SL16) dX7_writeTrader_16 mJ4_setLength_d00df rfl SL16.1 rfl wd5_44 rfl rfl (Nat.le_of_ble_eq_true rfl) (hp_rmle hRm (by decide) (by decide)) (Nat.le_of_ble_eq_true rfl) (Nat.le_of_ble_eq_true rfl) (fun n16 h16 q16 => ?_)
  obtain ⟨ml16x, S16, k16, u16⟩ := q16
  have z16 := Eq.symm k16
  have z16 : n0 = n16 := z16
  subst z16
  have F16 : Fx G n0 h0 x L0 M B Z mk nx cnt t n wl_0.2 wl_0.1 hs ma fa rk n0 h16 := F0.ul (n' := n0) SL16 ST16 z416 z316 (Ne.symm z516) (S16.text (fun j hj => absurd hj (Nat.not_lt_zero j))) (Or.inl rfl) hv16 (Nat.le_refl _) (fun b k1 _ _ => u16 b k1)
  have s16 : wl_0.1 ≤ 0 := Nat.le_refl _
  refine v_aload_n C dX7_writeTrader_19 rfl ?_
  refine v_get C 8 dX7_writeTrader_20 wd2_25 F16.1.o rfl (by decide) ⟨rfl, rfl, rfl⟩ rfl ?_
  refine v_aload_n C dX7_writeTrader_23 rfl ?_
  refine v_get C 0 dX7_writeTrader_24 wd2_17 F16.1.o rfl (by decide) ⟨rfl, rfl, rfl⟩ rfl ?_
  refine v_getN C 5 dX7_writeTrader_27 wd1_61 F16.1.m.o rfl (by decide) ⟨rfl, rfl, rfl⟩ rfl ?_
  refine v_iload_n C dX7_writeTrader_30 rfl ?_
  refine v_ialdN C dX7_writeTrader_31 F16.1.m.a3 (by omega) (by decide) ?_
  obtain ⟨vt32, mlt32, mt32, vl32, mll32, mm32, ST32, SL32, z332, z432, z532⟩ := F16.1.sb
  obtain ⟨al32, hal32, -⟩ := ST32.2.1
  refine v_lt hal32 (fun hv32 => ?_)
  refine v_callVa C (c_J4_append_bf812_i hl SL32 F16.1.kc.1 x3 (by have := it_n_le (mk_ar M 3 j); omega)) dX7_writeTrader_32 mJ4_append_bf812 rfl SL32.1 rfl wd6_55 rfl rfl (Nat.le_of_ble_eq_true rfl) (hp_rmle hRm (by decide) (by decide)) (Nat.le_of_ble_eq_true rfl) (Nat.le_of_ble_eq_true rfl) (fun r32 n32 h32 q32 => ?_)
  obtain ⟨e32, v132, ml132, m132, S32, x132, x232, x332⟩ := q32
  subst e32
  have F32 : Fx G n0 h0 x L0 M B Z mk nx cnt t n (wl_i wl_0 (mk_ar M 3 j)).2 (wl_i wl_0 (mk_ar M 3 j)).1 hs ma fa rk n32 h32 := F16.ul (n' := n32) SL32 ST32 z432 z332 (Ne.symm z532) S32 x232 hv32 x132 x332
  have s32 : (wl_i wl_0 (mk_ar M 3 j)).1 ≤ 11 := wl_i_le s16
  refine v_bipush (v := nI 47) C dX7_writeTrader_35 (by decide) ?_
  obtain ⟨vt37, mlt37, mt37, vl37, mll37, mm37, ST37, SL37, z337, z437, z537⟩ := F32.1.sb
  obtain ⟨al37, hal37, -⟩ := ST37.2.1
  refine v_lt hal37 (fun hv37 => ?_)
  refine v_callVa C (c_J4_append_cf468 hl SL37 (c := 47) (by decide) (by omega)) dX7_writeTrader_37 mJ4_append_cf468 rfl SL37.1 rfl wd6_56 rfl rfl (Nat.le_of_ble_eq_true rfl) (hp_rmle hRm (by decide) (by decide)) (Nat.le_of_ble_eq_true rfl) (Nat.le_of_ble_eq_true rfl) (fun r37 n37 h37 q37 => ?_)
  obtain ⟨e37, v137, ml137, m137, S37, x137, x237, x337⟩ := q37
  subst e37
  have F37 : Fx G n0 h0 x L0 M B Z mk nx cnt t n (wl_c (wl_i wl_0 (mk_ar M 3 j)) 47).2 (wl_c (wl_i wl_0 (mk_ar M 3 j)) 47).1 hs ma fa rk n37 h37 := F32.ul (n' := n37) SL37 ST37 z437 z337 (Ne.symm z537) S37 x237 hv37 x137 x337
  have s37 : (wl_c (wl_i wl_0 (mk_ar M 3 j)) 47).1 ≤ 12 := wl_c_le s32
  refine v_aload_n C dX7_writeTrader_40 rfl ?_
  refine v_get C 0 dX7_writeTrader_41 wd2_17 F37.1.o rfl (by decide) ⟨rfl, rfl, rfl⟩ rfl ?_
  refine v_iload_n C dX7_writeTrader_44 rfl ?_
  refine v_callVi C (c_X4_margin hl F37.1.m (nI j)) dX7_writeTrader_45 mX4_margin rfl F37.1.m.o rfl wd3_206 rfl rfl (Nat.le_of_ble_eq_true rfl) (hp_rmle hRm (by decide) (by decide)) (Nat.le_of_ble_eq_true rfl) (Nat.le_of_ble_eq_true rfl) ?_
  obtain ⟨vt48, mlt48, mt48, vl48, mll48, mm48, ST48, SL48, z348, z448, z548⟩ := F37.1.sb
  obtain ⟨al48, hal48, -⟩ := ST48.2.1
  refine v_lt hal48 (fun hv48 => ?_)
  refine v_callVa C (c_J4_append_bf812_i hl SL48 F37.1.kc.1 x4 (by have := it_n_le (mk_mg M (nI j) (mk_hz M)); omega)) dX7_writeTrader_48 mJ4_append_bf812 rfl SL48.1 rfl wd6_55 rfl rfl (Nat.le_of_ble_eq_true rfl) (hp_rmle hRm (by decide) (by decide)) (Nat.le_of_ble_eq_true rfl) (Nat.le_of_ble_eq_true rfl) (fun r48 n48 h48 q48 => ?_)
  obtain ⟨e48, v148, ml148, m148, S48, x148, x248, x348⟩ := q48
  subst e48
  have F48 : Fx G n0 h0 x L0 M B Z mk nx cnt t n (wl_i (wl_c (wl_i wl_0 (mk_ar M 3 j)) 47) (mk_mg M (nI j) (mk_hz M))).2 (wl_i (wl_c (wl_i wl_0 (mk_ar M 3 j)) 47) (mk_mg M (nI j) (mk_hz M))).1 hs ma fa rk n48 h48 := F37.ul (n' := n48) SL48 ST48 z448 z348 (Ne.symm z548) S48 x248 hv48 x148 x348
  have s48 : (wl_i (wl_c (wl_i wl_0 (mk_ar M 3 j)) 47) (mk_mg M (nI j) (mk_hz M))).1 ≤ 23 := wl_i_le s37
  refine v_pop C dX7_writeTrader_51 rfl ?_
  refine v_aload_n C dX7_writeTrader_52 rfl ?_
  refine v_get C 0 dX7_writeTrader_53 wd2_17 F48.1.o rfl (by decide) ⟨rfl, rfl, rfl⟩ rfl ?_
  refine v_getN C 6 dX7_writeTrader_56 wd1_64 F48.1.m.o rfl (by decide) ⟨rfl, rfl, rfl⟩ rfl ?_
  refine v_iload_n C dX7_writeTrader_59 rfl ?_
  refine v_ialdN C dX7_writeTrader_60 F48.1.m.a4 (by omega) (by decide) ?_
  refine v_iconst (v := nI 1) C dX7_writeTrader_61 (by decide) ?_
  refine v_icmp_ne (tgt := 78) C dX7_writeTrader_62 (by decide) (fun c62 => ?_) (fun c62 => ?_)
  · refine v_aload_n C dX7_writeTrader_78 rfl ?_
    refine v_get C 0 dX7_writeTrader_79 wd2_17 F48.1.o rfl (by decide) ⟨rfl, rfl, rfl⟩ rfl ?_
    refine v_getN C 6 dX7_writeTrader_82 wd1_64 F48.1.m.o rfl (by decide) ⟨rfl, rfl, rfl⟩ rfl ?_
    refine v_iload_n C dX7_writeTrader_85 rfl ?_
    refine v_ialdN C dX7_writeTrader_86 F48.1.m.a4 (by omega) (by decide) ?_
    refine v_iconst (v := nI 2) C dX7_writeTrader_87 (by decide) ?_
    refine v_icmp_ne (tgt := 101) C dX7_writeTrader_88 (by decide) (fun c88 => ?_) (fun c88 => ?_)
    · have ew : wt_l M j = wl_i (wl_c (wl_i wl_0 (mk_ar M 3 j)) 47) (mk_mg M (nI j) (mk_hz M)) := by unfold wt_l; rw [if_neg c62, if_neg c88]
      refine v_aload_n C dX7_writeTrader_101 rfl ?_
      refine v_get C 8 dX7_writeTrader_102 wd2_25 F48.1.o rfl (by decide) ⟨rfl, rfl, rfl⟩ rfl ?_
      obtain ⟨vt105, mlt105, mt105, vl105, mll105, mm105, ST105, SL105, z3105, z4105, z5105⟩ := F48.1.sb
      obtain ⟨al105, hal105, -⟩ := ST105.2.1
      refine v_lt hal105 (fun hv105 => ?_)
      refine v_callVi C (c_J4_length_8abf5 hl SL105.1) dX7_writeTrader_105 mJ4_length_8abf5 rfl SL105.1 rfl wd6_78 rfl rfl (Nat.le_of_ble_eq_true rfl) (hp_rmle hRm (by decide) (by decide)) (Nat.le_of_ble_eq_true rfl) (Nat.le_of_ble_eq_true rfl) ?_
      exact v_iret C E dX7_writeTrader_108 rfl ⟨by rw [ed, ew]; exact (if_pos c8).symm, by unfold wt_t wt_n; rw [if_pos c8, if_pos c8, ed, ew]; exact F48⟩
    · have ew : wt_l M j = wl_c (wl_i (wl_c (wl_i wl_0 (mk_ar M 3 j)) 47) (mk_mg M (nI j) (mk_hz M))) 120 := by unfold wt_l; rw [if_neg c62]; exact if_pos c88
      refine v_aload_n C dX7_writeTrader_91 rfl ?_
      refine v_get C 8 dX7_writeTrader_92 wd2_25 F48.1.o rfl (by decide) ⟨rfl, rfl, rfl⟩ rfl ?_
      refine v_bipush (v := nI 120) C dX7_writeTrader_95 (by decide) ?_
      obtain ⟨vt97, mlt97, mt97, vl97, mll97, mm97, ST97, SL97, z397, z497, z597⟩ := F48.1.sb
      obtain ⟨al97, hal97, -⟩ := ST97.2.1
      refine v_lt hal97 (fun hv97 => ?_)
      refine v_callVa C (c_J4_append_cf468 hl SL97 (c := 120) (by decide) (by omega)) dX7_writeTrader_97 mJ4_append_cf468 rfl SL97.1 rfl wd6_56 rfl rfl (Nat.le_of_ble_eq_true rfl) (hp_rmle hRm (by decide) (by decide)) (Nat.le_of_ble_eq_true rfl) (Nat.le_of_ble_eq_true rfl) (fun r97 n97 h97 q97 => ?_)
      obtain ⟨e97, v197, ml197, m197, S97, x197, x297, x397⟩ := q97
      subst e97
      have F97 : Fx G n0 h0 x L0 M B Z mk nx cnt t n (wl_c (wl_i (wl_c (wl_i wl_0 (mk_ar M 3 j)) 47) (mk_mg M (nI j) (mk_hz M))) 120).2 (wl_c (wl_i (wl_c (wl_i wl_0 (mk_ar M 3 j)) 47) (mk_mg M (nI j) (mk_hz M))) 120).1 hs ma fa rk n97 h97 := F48.ul (n' := n97) SL97 ST97 z497 z397 (Ne.symm z597) S97 x297 hv97 x197 x397
      have s97 : (wl_c (wl_i (wl_c (wl_i wl_0 (mk_ar M 3 j)) 47) (mk_mg M (nI j) (mk_hz M))) 120).1 ≤ 24 := wl_c_le s48
      refine v_pop C dX7_writeTrader_100 rfl ?_
      refine v_aload_n C dX7_writeTrader_101 rfl ?_
      refine v_get C 8 dX7_writeTrader_102 wd2_25 F97.1.o rfl (by decide) ⟨rfl, rfl, rfl⟩ rfl ?_
      obtain ⟨vt105, mlt105, mt105, vl105, mll105, mm105, ST105, SL105, z3105, z4105, z5105⟩ := F97.1.sb
      obtain ⟨al105, hal105, -⟩ := ST105.2.1
      refine v_lt hal105 (fun hv105 => ?_)
      refine v_callVi C (c_J4_length_8abf5 hl SL105.1) dX7_writeTrader_105 mJ4_length_8abf5 rfl SL105.1 rfl wd6_78 rfl rfl (Nat.le_of_ble_eq_true rfl) (hp_rmle hRm (by decide) (by decide)) (Nat.le_of_ble_eq_true rfl) (Nat.le_of_ble_eq_true rfl) ?_
      exact v_iret C E dX7_writeTrader_108 rfl ⟨by rw [ed, ew]; exact (if_pos c8).symm, by unfold wt_t wt_n; rw [if_pos c8, if_pos c8, ed, ew]; exact F97⟩
  · have ew : wt_l M j = wl_c (wl_i (wl_c (wl_i wl_0 (mk_ar M 3 j)) 47) (mk_mg M (nI j) (mk_hz M))) 33 := by unfold wt_l; exact if_pos c62
    refine v_aload_n C dX7_writeTrader_65 rfl ?_
    refine v_get C 8 dX7_writeTrader_66 wd2_25 F48.1.o rfl (by decide) ⟨rfl, rfl, rfl⟩ rfl ?_
    refine v_bipush (v := nI 33) C dX7_writeTrader_69 (by decide) ?_
    obtain ⟨vt71, mlt71, mt71, vl71, mll71, mm71, ST71, SL71, z371, z471, z571⟩ := F48.1.sb
    obtain ⟨al71, hal71, -⟩ := ST71.2.1
    refine v_lt hal71 (fun hv71 => ?_)
    refine v_callVa C (c_J4_append_cf468 hl SL71 (c := 33) (by decide) (by omega)) dX7_writeTrader_71 mJ4_append_cf468 rfl SL71.1 rfl wd6_56 rfl rfl (Nat.le_of_ble_eq_true rfl) (hp_rmle hRm (by decide) (by decide)) (Nat.le_of_ble_eq_true rfl) (Nat.le_of_ble_eq_true rfl) (fun r71 n71 h71 q71 => ?_)
    obtain ⟨e71, v171, ml171, m171, S71, x171, x271, x371⟩ := q71
    subst e71
    have F71 : Fx G n0 h0 x L0 M B Z mk nx cnt t n (wl_c (wl_i (wl_c (wl_i wl_0 (mk_ar M 3 j)) 47) (mk_mg M (nI j) (mk_hz M))) 33).2 (wl_c (wl_i (wl_c (wl_i wl_0 (mk_ar M 3 j)) 47) (mk_mg M (nI j) (mk_hz M))) 33).1 hs ma fa rk n71 h71 := F48.ul (n' := n71) SL71 ST71 z471 z371 (Ne.symm z571) S71 x271 hv71 x171 x371
    have s71 : (wl_c (wl_i (wl_c (wl_i wl_0 (mk_ar M 3 j)) 47) (mk_mg M (nI j) (mk_hz M))) 33).1 ≤ 24 := wl_c_le s48
    refine v_pop C dX7_writeTrader_74 rfl ?_
    refine v_goto (tgt := 101) C dX7_writeTrader_75 (by decide) ?_
    refine v_aload_n C dX7_writeTrader_101 rfl ?_
    refine v_get C 8 dX7_writeTrader_102 wd2_25 F71.1.o rfl (by decide) ⟨rfl, rfl, rfl⟩ rfl ?_
    obtain ⟨vt105, mlt105, mt105, vl105, mll105, mm105, ST105, SL105, z3105, z4105, z5105⟩ := F71.1.sb
    obtain ⟨al105, hal105, -⟩ := ST105.2.1
    refine v_lt hal105 (fun hv105 => ?_)
    refine v_callVi C (c_J4_length_8abf5 hl SL105.1) dX7_writeTrader_105 mJ4_length_8abf5 rfl SL105.1 rfl wd6_78 rfl rfl (Nat.le_of_ble_eq_true rfl) (hp_rmle hRm (by decide) (by decide)) (Nat.le_of_ble_eq_true rfl) (Nat.le_of_ble_eq_true rfl) ?_
    exact v_iret C E dX7_writeTrader_108 rfl ⟨by rw [ed, ew]; exact (if_pos c8).symm, by unfold wt_t wt_n; rw [if_pos c8, if_pos c8, ed, ew]; exact F71⟩

/-! ===== THE CLASS: a night, consistency ===== -/
theorem mk_ed_hz (M : mk_T) : ∀ c, mk_hz (mk_ed M c) = mk_hz M ∧ mk_tr (mk_ed M c) = mk_tr M
  | 0 => ⟨rfl, rfl⟩
  | c + 1 => by
    unfold mk_ed
    split
    · exact mk_ed_hz (mk_rm M c) c
    · exact mk_ed_hz M c
theorem mk_eo_hz (M : mk_T) (t : Int32) : ∀ c, mk_hz (mk_eo M t c) = mk_hz M ∧ mk_tr (mk_eo M t c) = mk_tr M
  | 0 => ⟨rfl, rfl⟩
  | c + 1 => by
    unfold mk_eo
    split
    · exact mk_eo_hz (mk_rm M c) t c
    · exact mk_eo_hz M t c
theorem mk_ca_hz (M : mk_T) (j : Nat) : mk_hz (mk_ca M j) = mk_hz M ∧ mk_tr (mk_ca M j) = mk_tr M := by
  show (mk_ca M j).1.1 = M.1.1 ∧ (mk_ca M j).1.2.1 = M.1.2.1
  unfold mk_ca
  by_cases z : mk_ar M 3 j ≤ 0
  · rw [if_pos z]
    exact ⟨rfl, rfl⟩
  · rw [if_neg z]
    exact ⟨rfl, rfl⟩
def mk_cn (M : mk_T) (c : Nat) : Nat := match c with
  | 0 => 0
  | c + 1 => if ¬ mk_ar M 4 c = nI 2 ∧ mk_ar M 3 c < mk_mg M (nI c) (mk_hz M) ∧ mk_ar M 4 c = nI 1 then mk_cn M c ||| 2 ^ c else mk_cn M c
theorem mk_cn_lt (M : mk_T) : ∀ c, mk_cn M c < 2 ^ c
  | 0 => by show 0 < 2 ^ 0; decide
  | c + 1 => by
    have h := mk_cn_lt M c
    have e : 2 ^ (c + 1) = 2 ^ c + 2 ^ c := by rw [Nat.pow_succ]; omega
    unfold mk_cn
    split
    · exact Nat.or_lt_two_pow (by omega) (by have := Nat.one_le_two_pow (n := c); omega)
    · omega
theorem mk_cd_n (M : mk_T) : ∀ c, c ≤ 30 → mk_cd M c = nI (mk_cn M c)
  | 0, _ => rfl
  | c + 1, hc => by
    unfold mk_cd mk_cn
    rw [mk_cd_n M c (by omega), hp_sh1 c (by omega)]
    split
    · exact hp_or _ _
    · rfl
/-- the positions of d are taken over, on the first c horizons -/
def co_l (M0 : mk_T) (d c : Nat) : mk_T := match c with
  | 0 => M0
  | c + 1 => if tk_on M0 d (nI c) = -1 then co_l M0 d c else mk_rt (co_l M0 d c) (nI d) (tk_on M0 d (nI c)) (nI c) (mk_ct (co_l M0 d c))
theorem co_l_hz (M0 : mk_T) (d : Nat) : ∀ c, (co_l M0 d c).1 = M0.1
  | 0 => rfl
  | c + 1 => by
    have h := co_l_hz M0 d c
    unfold co_l
    split
    · exact h
    · exact h
/-- what a default makes of the market -/
def co_b (M : mk_T) (d : Nat) : mk_T := if tk_nd M d ≤ tk_bc (tk_sd M d) then co_l M d (mk_hz M) else M
def co_d (M : mk_T) (d : Nat) : mk_T := mk_ca (mk_eo (co_b M d) (nI d) (mk_ct (co_b M d))) d
theorem co_b_hz (M : mk_T) (d : Nat) : (co_b M d).1 = M.1 := by
  unfold co_b
  split
  · exact co_l_hz M d _
  · rfl
theorem co_d_hz (M : mk_T) (d : Nat) : mk_hz (co_d M d) = mk_hz M ∧ mk_tr (co_d M d) = mk_tr M := by
  have h1 := mk_ca_hz (mk_eo (co_b M d) (nI d) (mk_ct (co_b M d))) d
  have h2 := mk_eo_hz (co_b M d) (nI d) (mk_ct (co_b M d))
  have h3 := co_b_hz M d
  unfold co_d
  rw [h1.1, h1.2, h2.1, h2.2]
  exact ⟨congrArg (fun z => z.1) h3, congrArg (fun z => z.2.1) h3⟩
/-- the market before the defaults of a night; the set of those who default; the market behind the first c -/
def pn_e (M : mk_T) : mk_T := mk_endday (mk_settle M)
def pn_0 (M : mk_T) : mk_T := mk_cw (pn_e M) (mk_tr (pn_e M))
def pn_s (M : mk_T) : Nat := mk_cn (pn_e M) (mk_tr (pn_e M))
def pn_l (M : mk_T) (c : Nat) : mk_T := match c with
  | 0 => pn_0 M
  | c + 1 => if pn_s M / 2 ^ c % 2 = 0 then pn_l M c else co_d (pn_l M c) c
theorem pn_e_hz (M : mk_T) : mk_hz (pn_e M) = mk_hz M ∧ mk_tr (pn_e M) = mk_tr M := mk_ed_hz _ _
theorem pn_l_hz (M : mk_T) : ∀ c, mk_hz (pn_l M c) = mk_hz M ∧ mk_tr (pn_l M c) = mk_tr M
  | 0 => pn_e_hz M
  | c + 1 => by
    have h := pn_l_hz M c
    unfold pn_l
    split
    · exact h
    · exact ⟨(co_d_hz _ c).1.trans h.1, (co_d_hz _ c).2.trans h.2⟩
/-- the market behind a night -/
def pn_M (M : mk_T) : mk_T := pn_l M (mk_tr M)
/-- every default of the night has a best way where it has one at all -/
def pn_ok (M : mk_T) : Prop := ∀ c, c < mk_tr M → ¬ pn_s M / 2 ^ c % 2 = 0 → tk_nd (pn_l M c) c ≤ tk_bc (tk_sd (pn_l M c) c) → (tk_res (pn_l M c) c).1 < 1000000000
set_option maxHeartbeats 8000000 in
theorem loop_X7_carryOutDefault {G : hp_G} {K : hp_C} {n0 : Nat} {h0 : Nat → Option va_E} {x L0 : Nat} {M : mk_T} {B : mk_T} {Z : mk_T} {mk : Nat → mk_T} {nx : Nat} {cnt : Nat} {t : Nat → Nat} {n : Nat} {lt : Nat → Nat} {ln : Nat} {hs : Int32} {ma : Int32} {fa : Int32} {rk : Nat → Option va_E} {d nd sd : Nat} {M0 : mk_T} {af : Nat → Nat → Int32} {hs1 ps tk bt lf : Nat → Int32} {ls : Int32} (C : hp_Cx G K MX7_carryOutDefault) (hRm : hp_Rm K = hp_rm 8 0 0) (hl : K.2.1.stackTraces = false) (hM0 : M0 = M) (hto : ∀ on, tk_to hs1 bt on nd 0 = tk_on M d on) (hhz : mk_hz M ≤ 4) (hbase : G.2.1 ≤ x) (hl0 : x + 148 ≤ L0) (hk : ∀ h, Fx G n0 h0 x L0 (co_l M d (mk_hz M)) B Z mk nx cnt t n lt ln hs ma fa rk n0 h → V G K MX7_carryOutDefault 0 0 (n0, h) 77 [some (.ref x), some (.int (nI d)), none, none] []) : ∀ (e c : Nat) (h : Nat → Option va_E), c + e = mk_hz M → Fx G n0 h0 x L0 (co_l M d c) B Z mk nx cnt t n lt ln hs ma fa rk n0 h → Tk G h (x + 128) sd nd af hs1 ps tk bt lf ls → V G K MX7_carryOutDefault 0 0 (n0, h) 36 [some (.ref x), some (.int (nI d)), some (.int (nI c)), none] [] := by
  intro e
  induction e with
  | zero =>
    intro c h h1 F hT
    have ehz : mk_hz (co_l M d c) = mk_hz M := congrArg (fun z => z.1) (co_l_hz M d c)
    have e : c = mk_hz M := by omega
    refine v_iload_n C dX7_carryOutDefault_36 rfl ?_
    refine v_aload_n C dX7_carryOutDefault_37 rfl ?_
    refine v_get C 0 dX7_carryOutDefault_38 wd2_17 F.1.o rfl (by decide) ⟨rfl, rfl, rfl⟩ rfl ?_
    refine v_getN (v := .int (nI (mk_hz (co_l M d c)))) C 0 dX7_carryOutDefault_41 wd1_48 F.1.m.o rfl (by decide) ⟨rfl, rfl, rfl⟩ rfl ?_
    refine v_icmp_geN (tgt := 77) C dX7_carryOutDefault_44 (by decide) (by omega) (by omega) (fun c44 => ?_) (fun c44 => absurd c44 (by omega))
    refine v_drop 2 ?_
    subst e
    exact hk h F
  | succ e ih =>
    intro c h h1 F hT
    have ehz : mk_hz (co_l M d c) = mk_hz M := congrArg (fun z => z.1) (co_l_hz M d c)
    have htr := F.1.m.tr
    have hct := F.1.m.ct
    refine v_iload_n C dX7_carryOutDefault_36 rfl ?_
    refine v_aload_n C dX7_carryOutDefault_37 rfl ?_
    refine v_get C 0 dX7_carryOutDefault_38 wd2_17 F.1.o rfl (by decide) ⟨rfl, rfl, rfl⟩ rfl ?_
    refine v_getN (v := .int (nI (mk_hz (co_l M d c)))) C 0 dX7_carryOutDefault_41 wd1_48 F.1.m.o rfl (by decide) ⟨rfl, rfl, rfl⟩ rfl ?_
    refine v_icmp_geN (tgt := 77) C dX7_carryOutDefault_44 (by decide) (by omega) (by omega) (fun c44 => absurd c44 (by omega)) (fun c44 => ?_)
    refine v_aload_n C dX7_carryOutDefault_47 rfl ?_
    refine v_get C 5 dX7_carryOutDefault_48 wd2_22 F.1.o rfl (by decide) ⟨rfl, rfl, rfl⟩ rfl ?_
    refine v_iload_n C dX7_carryOutDefault_51 rfl ?_
    refine v_callVi C (c_X6_takerOn hl hT (nI c)) dX7_carryOutDefault_52 mX6_takerOn rfl hT.o rfl wd3_99 rfl rfl (Nat.le_of_ble_eq_true rfl) (hp_rmle hRm (by decide) (by decide)) (Nat.le_of_ble_eq_true rfl) (Nat.le_of_ble_eq_true rfl) ?_
    rw [hto]
    refine v_istore_n C dX7_carryOutDefault_55 (by decide) ?_
    refine v_iload_n C dX7_carryOutDefault_56 rfl ?_
    refine v_iconst (v := (-1)) C dX7_carryOutDefault_57 (by decide) ?_
    refine v_icmp_eq (tgt := 71) C dX7_carryOutDefault_58 (by decide) (fun c58 => ?_) (fun c58 => ?_)
    · refine v_iincN C dX7_carryOutDefault_71 (by decide) rfl ?_
      refine v_goto (tgt := 36) C dX7_carryOutDefault_74 (by decide) ?_
      refine v_drop 3 ?_
      have en : co_l M d (c + 1) = co_l M d c := if_pos c58
      exact ih (c + 1) _ (by omega) (by rw [en]; exact F) hT
    · refine v_aload_n C dX7_carryOutDefault_61 rfl ?_
      refine v_get C 0 dX7_carryOutDefault_62 wd2_17 F.1.o rfl (by decide) ⟨rfl, rfl, rfl⟩ rfl ?_
      refine v_iload_n C dX7_carryOutDefault_65 rfl ?_
      refine v_iload_n C dX7_carryOutDefault_66 rfl ?_
      refine v_iload_n C dX7_carryOutDefault_67 rfl ?_
      refine v_callVv C (c_X4_replaceTrader hl F.1.m (nI d) (tk_on M d (nI c)) (nI c)) dX7_carryOutDefault_68 mX4_replaceTrader rfl F.1.m.o rfl wf11 rfl rfl (Nat.le_of_ble_eq_true rfl) (hp_rmle hRm (by decide) (by decide)) (Nat.le_of_ble_eq_true rfl) (Nat.le_of_ble_eq_true rfl) (fun n68 h68 q68 => ?_)
      obtain ⟨k68, M68, u68⟩ := q68
      have z68 := Eq.symm k68
      have z68 : n0 = n68 := z68
      subst z68
      have F68 := F.um M68 u68
      have T68 := hT.same (h' := h68) (fun a k1 k2 => u68 a (by omega))
      refine v_iincN C dX7_carryOutDefault_71 (by decide) rfl ?_
      refine v_goto (tgt := 36) C dX7_carryOutDefault_74 (by decide) ?_
      refine v_drop 3 ?_
      have en : co_l M d (c + 1) = mk_rt (co_l M d c) (nI d) (tk_on M d (nI c)) (nI c) (mk_ct (co_l M d c)) := if_neg c58
      rw [← en] at F68
      exact ih (c + 1) _ (by omega) F68 T68
set_option maxHeartbeats 8000000 in
/-- a default is carried out -/
theorem c_X7_carryOutDefault {G : hp_G} {l : Launch} (hl : l.stackTraces = false) {n0 : Nat} {h0 : Nat → Option va_E} {x L0 : Nat} {M : mk_T} {B : mk_T} {Z : mk_T} {mk : Nat → mk_T} {nx : Nat} {cnt : Nat} {t : Nat → Nat} {n : Nat} {lt : Nat → Nat} {ln : Nat} {hs : Int32} {ma : Int32} {fa : Int32} {rk : Nat → Option va_E} (E0 : Ex G h0 x L0 M B Z mk nx cnt t n lt ln hs ma fa rk) (hL : L0 ≤ n0) {d : Nat} (hd : d < mk_tr M) (hgood : tk_nd M d ≤ tk_bc (tk_sd M d) → (tk_res M d).1 < 1000000000) : Ct G l yX7_carryOutDefault cX7_carryOutDefault 4 none 8 0 0 [.ref x, .int (nI d)] (n0, h0) (hp_vq (fun τ => τ.1 = n0 ∧ Fx G n0 h0 x L0 (co_d M d) B Z mk nx cnt t n lt ln hs ma fa rk n0 τ.2)) := by
  have F0 := Fx.start E0 hL
  have hhz := E0.m.hz
  have htr := E0.m.tr
  have hct := E0.m.ct
  have hbase := E0.base
  have hl0 := E0.l0
  obtain ⟨tsd, tnd, taf, ths, tps, ttk, tbt, tlf, tls, hT⟩ := E0.tk
  refine Ct.of rfl hl (by simp [Value.category]) (Nat.le_of_ble_eq_true rfl) (fun K C E hRm hKl => ?_)
  subst hKl
  refine v_aload_n C dX7_carryOutDefault_0 rfl ?_
  refine v_get C 5 dX7_carryOutDefault_1 wd2_22 F0.1.o rfl (by decide) ⟨rfl, rfl, rfl⟩ rfl ?_
  refine v_aload_n C dX7_carryOutDefault_4 rfl ?_
  refine v_get C 0 dX7_carryOutDefault_5 wd2_17 F0.1.o rfl (by decide) ⟨rfl, rfl, rfl⟩ rfl ?_
  refine v_iload_n C dX7_carryOutDefault_8 rfl ?_
  refine v_callVv C (c_X6_prepare hl hT E0.m (by omega) (by omega)) dX7_carryOutDefault_9 mX6_prepare rfl hT.o rfl wd3_68 rfl rfl (Nat.le_of_ble_eq_true rfl) (hp_rmle hRm (by decide) (by decide)) (Nat.le_of_ble_eq_true rfl) (Nat.le_of_ble_eq_true rfl) (fun n9 h9 q9 => ?_)
  obtain ⟨k9, af1, hs1, ps1, T9, ho9, ha9, u9⟩ := q9
  have z9 := Eq.symm k9
  have z9 : n0 = n9 := z9
  subst z9
  have F9 := F0.ut ⟨_, _, _, _, _, _, _, _, _, T9⟩ u9
  have hpre : tk_pre M d (tk_so M d (mk_tr M)) (tk_pz M d (mk_hz M)).length af1 hs1 ps1 := ⟨rfl, rfl, ho9, ha9⟩
  refine v_aload_n C dX7_carryOutDefault_12 rfl ?_
  refine v_get C 5 dX7_carryOutDefault_13 wd2_22 F9.1.o rfl (by decide) ⟨rfl, rfl, rfl⟩ rfl ?_
  refine v_callVi C (c_X6_isPossible hl T9) dX7_carryOutDefault_16 mX6_isPossible rfl T9.o rfl wf9 rfl rfl (Nat.le_of_ble_eq_true rfl) (hp_rmle hRm (by decide) (by decide)) (Nat.le_of_ble_eq_true rfl) (Nat.le_of_ble_eq_true rfl) ?_
  refine v_if_eqB (tgt := 77) C dX7_carryOutDefault_19 (by decide) (fun c19 => ?_) (fun c19 => ?_)
  · have eb : co_b M d = M := if_neg c19
    have F1 := F9
    have F1 : Fx G n0 h0 x L0 (co_b M d) B Z mk nx cnt t n lt ln hs ma fa rk n0 h9 := by rw [eb]; exact F9
    have ebt : mk_tr (mk_eo (co_b M d) (nI d) (mk_ct (co_b M d))) = mk_tr M := ((mk_eo_hz _ _ _).2).trans (congrArg (fun z => z.2.1) (co_b_hz M d))
    refine v_aload_n C dX7_carryOutDefault_77 rfl ?_
    refine v_get C 0 dX7_carryOutDefault_78 wd2_17 F1.1.o rfl (by decide) ⟨rfl, rfl, rfl⟩ rfl ?_
    refine v_iload_n C dX7_carryOutDefault_81 rfl ?_
    refine v_callVv C (c_X4_endContractsOf hl F1.1.m (nI d)) dX7_carryOutDefault_82 mX4_endContractsOf rfl F1.1.m.o rfl wf12 rfl rfl (Nat.le_of_ble_eq_true rfl) (hp_rmle hRm (by decide) (by decide)) (Nat.le_of_ble_eq_true rfl) (Nat.le_of_ble_eq_true rfl) (fun n82 h82 q82 => ?_)
    obtain ⟨k82, M82, u82⟩ := q82
    have z82 := Eq.symm k82
    have z82 : n0 = n82 := z82
    subst z82
    have F82 := F1.um M82 u82
    refine v_aload_n C dX7_carryOutDefault_85 rfl ?_
    refine v_get C 0 dX7_carryOutDefault_86 wd2_17 F82.1.o rfl (by decide) ⟨rfl, rfl, rfl⟩ rfl ?_
    refine v_iload_n C dX7_carryOutDefault_89 rfl ?_
    refine v_callVv C (c_X4_closeAccount hl F82.1.m (by omega)) dX7_carryOutDefault_90 mX4_closeAccount rfl F82.1.m.o rfl wf13 rfl rfl (Nat.le_of_ble_eq_true rfl) (hp_rmle hRm (by decide) (by decide)) (Nat.le_of_ble_eq_true rfl) (Nat.le_of_ble_eq_true rfl) (fun n90 h90 q90 => ?_)
    obtain ⟨k90, M90, u90⟩ := q90
    have z90 := Eq.symm k90
    have z90 : n0 = n90 := z90
    subst z90
    exact v_vret C E dX7_carryOutDefault_93 rfl ⟨rfl, rfl, F82.um M90 u90⟩
  · refine v_aload_n C dX7_carryOutDefault_22 rfl ?_
    refine v_get C 5 dX7_carryOutDefault_23 wd2_22 F9.1.o rfl (by decide) ⟨rfl, rfl, rfl⟩ rfl ?_
    refine v_aload_n C dX7_carryOutDefault_26 rfl ?_
    refine v_get C 0 dX7_carryOutDefault_27 wd2_17 F9.1.o rfl (by decide) ⟨rfl, rfl, rfl⟩ rfl ?_
    refine v_callVq C (c_X6_leastOverWays hl T9 F9.1.m (by omega) (tk_pre_hs hpre hhz)) dX7_carryOutDefault_30 mX6_leastOverWays rfl T9.o rfl wd3_84 rfl rfl (Nat.le_of_ble_eq_true rfl) (hp_rmle hRm (by decide) (by decide)) (Nat.le_of_ble_eq_true rfl) (Nat.le_of_ble_eq_true rfl) (fun r30 n30 h30 q30 => ?_)
    obtain ⟨k30r, k30, tk1, bt1, T30, hb30, u30⟩ := q30
    have z30 := Eq.symm k30
    have z30 : n0 = n30 := z30
    subst z30
    have F30 := F9.ut ⟨_, _, _, _, _, _, _, _, _, T30⟩ u30
    refine v_pop C dX7_carryOutDefault_33 rfl ?_
    refine v_iconst (v := nI 0) C dX7_carryOutDefault_34 (by decide) ?_
    refine v_istore_n C dX7_carryOutDefault_35 (by decide) ?_
    have er := (tk_pre_res (tk := ttk) (bt := tbt) hpre rfl).2 (hgood c19)
    have hto : ∀ on, tk_to hs1 bt1 on (tk_pz M d (mk_hz M)).length 0 = tk_on M d on := by
      intro on
      refine tk_to_ae (tk_pz M d (mk_hz M)).length 0 (fun k hk => ⟨(ho9 k (by omega)).1, (hb30 k (by omega)).trans (er k (by omega))⟩)
    refine loop_X7_carryOutDefault (M0 := M) C hRm hl rfl hto hhz hbase hl0 (fun h1 F1 => ?_) (mk_hz M) 0 _ (Nat.zero_add _) F30 T30
    have eb : co_b M d = co_l M d (mk_hz M) := if_pos c19
    rw [← eb] at F1
    have ebt : mk_tr (mk_eo (co_b M d) (nI d) (mk_ct (co_b M d))) = mk_tr M := ((mk_eo_hz _ _ _).2).trans (congrArg (fun z => z.2.1) (co_b_hz M d))
    refine v_aload_n C dX7_carryOutDefault_77 rfl ?_
    refine v_get C 0 dX7_carryOutDefault_78 wd2_17 F1.1.o rfl (by decide) ⟨rfl, rfl, rfl⟩ rfl ?_
    refine v_iload_n C dX7_carryOutDefault_81 rfl ?_
    refine v_callVv C (c_X4_endContractsOf hl F1.1.m (nI d)) dX7_carryOutDefault_82 mX4_endContractsOf rfl F1.1.m.o rfl wf12 rfl rfl (Nat.le_of_ble_eq_true rfl) (hp_rmle hRm (by decide) (by decide)) (Nat.le_of_ble_eq_true rfl) (Nat.le_of_ble_eq_true rfl) (fun n82 h82 q82 => ?_)
    obtain ⟨k82, M82, u82⟩ := q82
    have z82 := Eq.symm k82
    have z82 : n0 = n82 := z82
    subst z82
    have F82 := F1.um M82 u82
    refine v_aload_n C dX7_carryOutDefault_85 rfl ?_
    refine v_get C 0 dX7_carryOutDefault_86 wd2_17 F82.1.o rfl (by decide) ⟨rfl, rfl, rfl⟩ rfl ?_
    refine v_iload_n C dX7_carryOutDefault_89 rfl ?_
    refine v_callVv C (c_X4_closeAccount hl F82.1.m (by omega)) dX7_carryOutDefault_90 mX4_closeAccount rfl F82.1.m.o rfl wf13 rfl rfl (Nat.le_of_ble_eq_true rfl) (hp_rmle hRm (by decide) (by decide)) (Nat.le_of_ble_eq_true rfl) (Nat.le_of_ble_eq_true rfl) (fun n90 h90 q90 => ?_)
    obtain ⟨k90, M90, u90⟩ := q90
    have z90 := Eq.symm k90
    have z90 : n0 = n90 := z90
    subst z90
    exact v_vret C E dX7_carryOutDefault_93 rfl ⟨rfl, rfl, F82.um M90 u90⟩
theorem Fx.trans {G : hp_G} {n0 n1 n2 x L0 : Nat} {h0 h h' : Nat → Option va_E} {M : mk_T} {B : mk_T} {Z : mk_T} {mk : Nat → mk_T} {nx : Nat} {cnt : Nat} {t : Nat → Nat} {n : Nat} {lt : Nat → Nat} {ln : Nat} {hs : Int32} {ma : Int32} {fa : Int32} {rk : Nat → Option va_E} {M1 B1 Z1 : mk_T} {mk1 : Nat → mk_T} {nx1 cnt1 : Nat} {t1 : Nat → Nat} {nn1 : Nat} {lt1 : Nat → Nat} {ln1 : Nat} {hs1 ma1 fa1 : Int32} {rk1 : Nat → Option va_E} (F : Fx G n0 h0 x L0 M B Z mk nx cnt t n lt ln hs ma fa rk n1 h) (F2 : Fx G n1 h x L0 M1 B1 Z1 mk1 nx1 cnt1 t1 nn1 lt1 ln1 hs1 ma1 fa1 rk1 n2 h') : Fx G n0 h0 x L0 M1 B1 Z1 mk1 nx1 cnt1 t1 nn1 lt1 ln1 hs1 ma1 fa1 rk1 n2 h' := ⟨F2.1, by have := F.2.1; have := F2.2.1; omega, F.2.2.1, fun a ha => (F2.2.2.2 a ha).trans (F.2.2.2 a ha)⟩
theorem Fx.lo {G : hp_G} {n0 n1 x L0 : Nat} {h0 h : Nat → Option va_E} {M : mk_T} {B : mk_T} {Z : mk_T} {mk : Nat → mk_T} {nx : Nat} {cnt : Nat} {t : Nat → Nat} {n : Nat} {lt : Nat → Nat} {ln : Nat} {hs : Int32} {ma : Int32} {fa : Int32} {rk : Nat → Option va_E} (F : Fx G n0 h0 x L0 M B Z mk nx cnt t n lt ln hs ma fa rk n1 h) : L0 ≤ n1 := by have := F.2.1; have := F.2.2.1; omega
set_option maxHeartbeats 8000000 in
theorem loop_X7_passNight {G : hp_G} {K : hp_C} {n0 : Nat} {h0 : Nat → Option va_E} {x L0 : Nat} {M : mk_T} {B : mk_T} {Z : mk_T} {mk : Nat → mk_T} {nx : Nat} {cnt : Nat} {t : Nat → Nat} {n : Nat} {lt : Nat → Nat} {ln : Nat} {hs : Int32} {ma : Int32} {fa : Int32} {rk : Nat → Option va_E} (C : hp_Cx G K MX7_passNight) (hRm : hp_Rm K = hp_rm 9 0 0) (hl : K.2.1.stackTraces = false) (hok : pn_ok M) (htr6 : mk_tr M ≤ 6) (hs64 : pn_s M < 64) (hk : ∀ h, Fx G n0 h0 x L0 (pn_M M) B Z mk nx cnt t n lt ln hs ma fa rk n0 h → V G K MX7_passNight 0 0 (n0, h) 54 [some (.ref x), some (.int (nI (pn_s M))), none] []) : ∀ (e c : Nat) (h : Nat → Option va_E), c + e = mk_tr M → Fx G n0 h0 x L0 (pn_l M c) B Z mk nx cnt t n lt ln hs ma fa rk n0 h → V G K MX7_passNight 0 0 (n0, h) 24 [some (.ref x), some (.int (nI (pn_s M))), some (.int (nI c))] [] := by
  intro e
  induction e with
  | zero =>
    intro c h h1 F
    have etr := (pn_l_hz M c).2
    have e : c = mk_tr M := by omega
    refine v_iload_n C dX7_passNight_24 rfl ?_
    refine v_aload_n C dX7_passNight_25 rfl ?_
    refine v_get C 0 dX7_passNight_26 wd2_17 F.1.o rfl (by decide) ⟨rfl, rfl, rfl⟩ rfl ?_
    refine v_getN (v := .int (nI (mk_tr (pn_l M c)))) C 4 dX7_passNight_29 wd1_59 F.1.m.o rfl (by decide) ⟨rfl, rfl, rfl⟩ rfl ?_
    refine v_icmp_geN (tgt := 54) C dX7_passNight_32 (by decide) (by omega) (by omega) (fun c32 => ?_) (fun c32 => absurd c32 (by omega))
    refine v_drop 2 ?_
    subst e
    exact hk h F
  | succ e ih =>
    intro c h h1 F
    have etr := (pn_l_hz M c).2
    refine v_iload_n C dX7_passNight_24 rfl ?_
    refine v_aload_n C dX7_passNight_25 rfl ?_
    refine v_get C 0 dX7_passNight_26 wd2_17 F.1.o rfl (by decide) ⟨rfl, rfl, rfl⟩ rfl ?_
    refine v_getN (v := .int (nI (mk_tr (pn_l M c)))) C 4 dX7_passNight_29 wd1_59 F.1.m.o rfl (by decide) ⟨rfl, rfl, rfl⟩ rfl ?_
    refine v_icmp_geN (tgt := 54) C dX7_passNight_32 (by decide) (by omega) (by omega) (fun c32 => absurd c32 (by omega)) (fun c32 => ?_)
    refine v_iload_n C dX7_passNight_35 rfl ?_
    refine v_iload_n C dX7_passNight_36 rfl ?_
    refine v_ishr C dX7_passNight_37 ?_
    refine v_iconst (v := nI 1) C dX7_passNight_38 (by decide) ?_
    refine v_iand C dX7_passNight_39 ?_
    refine v_if_eq (tgt := 48) C dX7_passNight_40 (by decide) (fun c40 => ?_) (fun c40 => ?_)
    · refine v_iincN C dX7_passNight_48 (by decide) rfl ?_
      refine v_goto (tgt := 24) C dX7_passNight_51 (by decide) ?_
      have en : pn_l M (c + 1) = pn_l M c := if_pos ((tb_i _ hs64 c (by omega)).mp c40)
      exact ih (c + 1) _ (by omega) (by rw [en]; exact F)
    · refine v_aload_n C dX7_passNight_43 rfl ?_
      refine v_iload_n C dX7_passNight_44 rfl ?_
      refine v_callVv C (c_X7_carryOutDefault hl F.1 F.lo (by omega) (hok c (by omega) (fun z => c40 ((tb_i _ hs64 c (by omega)).mpr z)))) dX7_passNight_45 mX7_carryOutDefault rfl F.1.o rfl wd3_64 rfl rfl (Nat.le_of_ble_eq_true rfl) (hp_rmle hRm (by decide) (by decide)) (Nat.le_of_ble_eq_true rfl) (Nat.le_of_ble_eq_true rfl) (fun n45 h45 q45 => ?_)
      obtain ⟨k45, F45⟩ := q45
      have z45 := Eq.symm k45
      have z45 : n0 = n45 := z45
      subst z45
      have F45 := F.trans F45
      refine v_iincN C dX7_passNight_48 (by decide) rfl ?_
      refine v_goto (tgt := 24) C dX7_passNight_51 (by decide) ?_
      have en : pn_l M (c + 1) = co_d (pn_l M c) c := if_neg (fun z => c40 ((tb_i _ hs64 c (by omega)).mpr z))
      exact ih (c + 1) _ (by omega) (by rw [en]; exact F45)
set_option maxHeartbeats 8000000 in
/-- a night -/
theorem c_X7_passNight {G : hp_G} {l : Launch} (hl : l.stackTraces = false) {n0 : Nat} {h0 : Nat → Option va_E} {x L0 : Nat} {M : mk_T} {B : mk_T} {Z : mk_T} {mk : Nat → mk_T} {nx : Nat} {cnt : Nat} {t : Nat → Nat} {n : Nat} {lt : Nat → Nat} {ln : Nat} {hs : Int32} {ma : Int32} {fa : Int32} {rk : Nat → Option va_E} (E0 : Ex G h0 x L0 M B Z mk nx cnt t n lt ln hs ma fa rk) (hL : L0 ≤ n0) (hok : pn_ok M) : Ct G l yX7_passNight cX7_passNight 3 (some .int) 9 0 0 [.ref x] (n0, h0) (hp_iq (fun r τ => r = nI (tk_bc (pn_s M)) ∧ τ.1 = n0 ∧ Fx G n0 h0 x L0 (pn_M M) B Z mk nx cnt t n lt ln hs ma fa rk n0 τ.2)) := by
  have F0 := Fx.start E0 hL
  have hhz := E0.m.hz
  have htr := E0.m.tr
  have hct := E0.m.ct
  have hbase := E0.base
  have hl0 := E0.l0
  have hs64 : pn_s M < 64 := by have h1 := mk_cn_lt (pn_e M) (mk_tr (pn_e M)); have h2 := hp_p6 (k := mk_tr (pn_e M)) (by have := (pn_e_hz M).2; omega); show mk_cn _ _ < 64; omega
  refine Ct.of rfl hl (by simp [Value.category]) (Nat.le_of_ble_eq_true rfl) (fun K C E hRm hKl => ?_)
  subst hKl
  refine v_aload_n C dX7_passNight_0 rfl ?_
  refine v_get C 0 dX7_passNight_1 wd2_17 F0.1.o rfl (by decide) ⟨rfl, rfl, rfl⟩ rfl ?_
  refine v_callVv C (c_X4_settleVariations hl E0.m) dX7_passNight_4 mX4_settleVariations rfl F0.1.m.o rfl wd3_44 rfl rfl (Nat.le_of_ble_eq_true rfl) (hp_rmle hRm (by decide) (by decide)) (Nat.le_of_ble_eq_true rfl) (Nat.le_of_ble_eq_true rfl) (fun n4 h4 q4 => ?_)
  obtain ⟨k4, M4, u4⟩ := q4
  have z4 := Eq.symm k4
  have z4 : n0 = n4 := z4
  subst z4
  have F4 := F0.um M4 u4
  refine v_aload_n C dX7_passNight_7 rfl ?_
  refine v_get C 0 dX7_passNight_8 wd2_17 F4.1.o rfl (by decide) ⟨rfl, rfl, rfl⟩ rfl ?_
  refine v_callVv C (c_X4_endDay hl F4.1.m) dX7_passNight_11 mX4_endDay rfl F4.1.m.o rfl wd3_52 rfl rfl (Nat.le_of_ble_eq_true rfl) (hp_rmle hRm (by decide) (by decide)) (Nat.le_of_ble_eq_true rfl) (Nat.le_of_ble_eq_true rfl) (fun n11 h11 q11 => ?_)
  obtain ⟨k11, M11, u11⟩ := q11
  have z11 := Eq.symm k11
  have z11 : n0 = n11 := z11
  subst z11
  have F11 := F4.um M11 u11
  refine v_aload_n C dX7_passNight_14 rfl ?_
  refine v_get C 0 dX7_passNight_15 wd2_17 F11.1.o rfl (by decide) ⟨rfl, rfl, rfl⟩ rfl ?_
  refine v_callVq C (c_X4_callTraders hl F11.1.m) dX7_passNight_18 mX4_callTraders rfl F11.1.m.o rfl wd3_60 rfl rfl (Nat.le_of_ble_eq_true rfl) (hp_rmle hRm (by decide) (by decide)) (Nat.le_of_ble_eq_true rfl) (Nat.le_of_ble_eq_true rfl) (fun r18 n18 h18 q18 => ?_)
  obtain ⟨e18, k18, M18, u18⟩ := q18
  have z18 := Eq.symm k18
  have z18 : n0 = n18 := z18
  subst z18
  have F18 : Fx G n0 h0 x L0 (pn_l M 0) B Z mk nx cnt t n lt ln hs ma fa rk n0 h18 := F11.um M18 u18
  have e18 : r18 = nI (pn_s M) := e18.trans (mk_cd_n _ _ (by have := (pn_e_hz M).2; show mk_tr (pn_e M) ≤ 30; omega))
  subst e18
  refine v_istore_n C dX7_passNight_21 (by decide) ?_
  refine v_iconst (v := nI 0) C dX7_passNight_22 (by decide) ?_
  refine v_istore_n C dX7_passNight_23 (by decide) ?_
  refine loop_X7_passNight C hRm hl hok htr hs64 (fun h1 F1 => ?_) (mk_tr M) 0 _ (Nat.zero_add _) F18
  refine v_iload_n C dX7_passNight_54 rfl ?_
  refine v_callSi C (c_J6_bitCount_0f7a4 hl hs64) dX7_passNight_55 mJ6_bitCount_0f7a4 wd3_116 rfl rfl (Nat.le_of_ble_eq_true rfl) (hp_rmle hRm (by decide) (by decide)) (Nat.le_of_ble_eq_true rfl) (Nat.le_of_ble_eq_true rfl) ?_
  exact v_iret C E dX7_passNight_58 rfl ⟨_, rfl, rfl, rfl, F1⟩
/-- what is wrong with a command -/
def fo (M : mk_T) (c : Nat) (a b k d e : Int32) : Int32 := match c with
  | 0 => mk_fH M a b
  | 1 => mk_fR M a
  | 2 => mk_fT M a b k d e
  | 3 => mk_fQ M a b
  | 4 => nI 0
  | 5 => mk_fB M a b
  | _ => mk_fK M a b
/-- what a command makes of the market; what it answers -/
def po_M (M : mk_T) (c : Nat) (a b k d e : Int32) : mk_T := match c with
  | 0 => mk_plH M a b
  | 1 => mk_plT M a
  | 2 => mk_con M a b k d e
  | 3 => mk_st M 1 a.toNatClampNeg b
  | 4 => pn_M M
  | 5 => mk_bri M a.toNatClampNeg b
  | 6 => mk_tak M a.toNatClampNeg b
  | _ => mk_giv M a.toNatClampNeg b
def po_v (M : mk_T) (c : Nat) (a b k d e : Int32) : Int32 := match c with
  | 0 => nI (mk_hz M)
  | 1 => nI (mk_tr M)
  | 2 => nI (mk_ct M)
  | 3 => mk_ar M 1 a.toNatClampNeg
  | 4 => nI (tk_bc (pn_s M))
  | 5 => mk_ar (mk_bri M a.toNatClampNeg b) 3 a.toNatClampNeg
  | 6 => mk_ar (mk_tak M a.toNatClampNeg b) 3 a.toNatClampNeg
  | _ => mk_fu (mk_giv M a.toNatClampNeg b)
theorem mk_fH_0 {M : mk_T} {a b : Int32} (h : mk_fH M a b = nI 0) : mk_hz M < 4 := by
  unfold mk_fH at h
  split at h
  · exact absurd h (by decide)
  · split at h
    · exact absurd h (by decide)
    · omega
theorem mk_fR_0 {M : mk_T} {a : Int32} (h : mk_fR M a = nI 0) : mk_tr M < 6 := by
  unfold mk_fR at h
  split at h
  · exact absurd h (by decide)
  · split at h
    · exact absurd h (by decide)
    · omega
theorem mk_fT_0 {M : mk_T} {a b k d e : Int32} (h : mk_fT M a b k d e = nI 0) : mk_ct M < 20 := by
  unfold mk_fT at h
  split at h
  · exact absurd h (by decide)
  · split at h
    · exact absurd h (by decide)
    · split at h
      · exact absurd h (by decide)
      · rename_i z
        exact Nat.not_le.mp (fun q => z (Or.inl q))
theorem mk_fQ_0 {M : mk_T} {a b : Int32} (h : mk_fQ M a b = nI 0) : hp_num a (mk_hz M) := by
  unfold mk_fQ at h
  split at h
  · exact absurd h (by decide)
  · rename_i z
    exact Decidable.not_not.mp z
theorem mk_fK_0 {M : mk_T} {a b : Int32} (h : mk_fK M a b = nI 0) : mk_fB M a b = nI 0 := by
  unfold mk_fK at h
  split at h
  · exact h
  · rename_i z
    exact Decidable.not_not.mp z
theorem mk_f_in (M : mk_T) (c : Nat) (a b k d e : Int32) : fo M c a b k d e = nI 0 ∨ fo M c a b k d e = nI 1 ∨ fo M c a b k d e = nI 2 ∨ fo M c a b k d e = nI 3 ∨ fo M c a b k d e = nI 4 := by
  have hB : ∀ a b, mk_fB M a b = nI 0 ∨ mk_fB M a b = nI 1 ∨ mk_fB M a b = nI 2 ∨ mk_fB M a b = nI 3 ∨ mk_fB M a b = nI 4 := by
    intro a b
    unfold mk_fB
    repeat' split
    all_goals simp
  unfold fo
  split
  · unfold mk_fH
    repeat' split
    all_goals simp
  · unfold mk_fR
    repeat' split
    all_goals simp
  · unfold mk_fT
    repeat' split
    all_goals simp
  · unfold mk_fQ
    repeat' split
    all_goals simp
  · simp
  · exact hB a b
  · unfold mk_fK
    split
    · exact hB a b
    · split <;> simp
set_option maxHeartbeats 8000000 in
/-- what is wrong with a command -/
theorem c_X7_faultOf {G : hp_G} {l : Launch} (hl : l.stackTraces = false) {n0 : Nat} {h0 : Nat → Option va_E} {x L0 : Nat} {M : mk_T} {B : mk_T} {Z : mk_T} {mk : Nat → mk_T} {nx : Nat} {cnt : Nat} {t : Nat → Nat} {n : Nat} {lt : Nat → Nat} {ln : Nat} {hs : Int32} {ma : Int32} {fa : Int32} {rk : Nat → Option va_E} (E0 : Ex G h0 x L0 M B Z mk nx cnt t n lt ln hs ma fa rk) (hL : L0 ≤ n0) {c : Nat} (hc : c < 8) (a b k d e : Int32) : Ct G l yX7_faultOf cX7_faultOf 7 (some .int) 6 0 0 [.ref x, .int (nI c), .int a, .int b, .int k, .int d, .int e] (n0, h0) (hp_ri (fo M c a b k d e) (n0, h0)) := by
  have F0 := Fx.start E0 hL
  have hhz := E0.m.hz
  have htr := E0.m.tr
  have hct := E0.m.ct
  have hbase := E0.base
  have hl0 := E0.l0
  refine Ct.of rfl hl (by simp [Value.category]) (Nat.le_of_ble_eq_true rfl) (fun K C E hRm hKl => ?_)
  subst hKl
  match c, hc with
  | 0, _ =>
    refine v_iload_n C dX7_faultOf_0 rfl ?_
    refine v_tableIn (tgt := 48) (off := 47) C dX7_faultOf_1 (by decide) (by decide) (by decide) (by decide) ?_
    refine v_aload_n C dX7_faultOf_48 rfl ?_
    refine v_get C 0 dX7_faultOf_49 wd2_17 F0.1.o rfl (by decide) ⟨rfl, rfl, rfl⟩ rfl ?_
    refine v_iload_n C dX7_faultOf_52 rfl ?_
    refine v_iload_n C dX7_faultOf_53 rfl ?_
    refine v_callVi C (c_X4_faultOfHorizon hl E0.m a b) dX7_faultOf_54 mX4_faultOfHorizon rfl F0.1.m.o rfl wd2_66 rfl rfl (Nat.le_of_ble_eq_true rfl) (hp_rmle hRm (by decide) (by decide)) (Nat.le_of_ble_eq_true rfl) (Nat.le_of_ble_eq_true rfl) ?_
    exact v_iret C E dX7_faultOf_57 rfl ⟨rfl, rfl⟩
  | 1, _ =>
    refine v_iload_n C dX7_faultOf_0 rfl ?_
    refine v_tableIn (tgt := 58) (off := 57) C dX7_faultOf_1 (by decide) (by decide) (by decide) (by decide) ?_
    refine v_aload_n C dX7_faultOf_58 rfl ?_
    refine v_get C 0 dX7_faultOf_59 wd2_17 F0.1.o rfl (by decide) ⟨rfl, rfl, rfl⟩ rfl ?_
    refine v_iload_n C dX7_faultOf_62 rfl ?_
    refine v_callVi C (c_X4_faultOfTrader hl E0.m a) dX7_faultOf_63 mX4_faultOfTrader rfl F0.1.m.o rfl wd2_73 rfl rfl (Nat.le_of_ble_eq_true rfl) (hp_rmle hRm (by decide) (by decide)) (Nat.le_of_ble_eq_true rfl) (Nat.le_of_ble_eq_true rfl) ?_
    exact v_iret C E dX7_faultOf_66 rfl ⟨rfl, rfl⟩
  | 2, _ =>
    refine v_iload_n C dX7_faultOf_0 rfl ?_
    refine v_tableIn (tgt := 67) (off := 66) C dX7_faultOf_1 (by decide) (by decide) (by decide) (by decide) ?_
    refine v_aload_n C dX7_faultOf_67 rfl ?_
    refine v_get C 0 dX7_faultOf_68 wd2_17 F0.1.o rfl (by decide) ⟨rfl, rfl, rfl⟩ rfl ?_
    refine v_iload_n C dX7_faultOf_71 rfl ?_
    refine v_iload_n C dX7_faultOf_72 rfl ?_
    refine v_iload C dX7_faultOf_73 rfl ?_
    refine v_iload C dX7_faultOf_75 rfl ?_
    refine v_iload C dX7_faultOf_77 rfl ?_
    refine v_callVi C (c_X4_faultOfTrade hl E0.m a b k d e) dX7_faultOf_79 mX4_faultOfTrade rfl F0.1.m.o rfl wd2_77 rfl rfl (Nat.le_of_ble_eq_true rfl) (hp_rmle hRm (by decide) (by decide)) (Nat.le_of_ble_eq_true rfl) (Nat.le_of_ble_eq_true rfl) ?_
    exact v_iret C E dX7_faultOf_82 rfl ⟨rfl, rfl⟩
  | 3, _ =>
    refine v_iload_n C dX7_faultOf_0 rfl ?_
    refine v_tableIn (tgt := 83) (off := 82) C dX7_faultOf_1 (by decide) (by decide) (by decide) (by decide) ?_
    refine v_aload_n C dX7_faultOf_83 rfl ?_
    refine v_get C 0 dX7_faultOf_84 wd2_17 F0.1.o rfl (by decide) ⟨rfl, rfl, rfl⟩ rfl ?_
    refine v_iload_n C dX7_faultOf_87 rfl ?_
    refine v_iload_n C dX7_faultOf_88 rfl ?_
    refine v_callVi C (c_X4_faultOfQuote hl E0.m a b) dX7_faultOf_89 mX4_faultOfQuote rfl F0.1.m.o rfl wd2_107 rfl rfl (Nat.le_of_ble_eq_true rfl) (hp_rmle hRm (by decide) (by decide)) (Nat.le_of_ble_eq_true rfl) (Nat.le_of_ble_eq_true rfl) ?_
    exact v_iret C E dX7_faultOf_92 rfl ⟨rfl, rfl⟩
  | 4, _ =>
    refine v_iload_n C dX7_faultOf_0 rfl ?_
    refine v_tableIn (tgt := 123) (off := 122) C dX7_faultOf_1 (by decide) (by decide) (by decide) (by decide) ?_
    refine v_iconst (v := nI 0) C dX7_faultOf_123 (by decide) ?_
    exact v_iret C E dX7_faultOf_124 rfl ⟨rfl, rfl⟩
  | 5, _ =>
    refine v_iload_n C dX7_faultOf_0 rfl ?_
    refine v_tableIn (tgt := 93) (off := 92) C dX7_faultOf_1 (by decide) (by decide) (by decide) (by decide) ?_
    refine v_aload_n C dX7_faultOf_93 rfl ?_
    refine v_get C 0 dX7_faultOf_94 wd2_17 F0.1.o rfl (by decide) ⟨rfl, rfl, rfl⟩ rfl ?_
    refine v_iload_n C dX7_faultOf_97 rfl ?_
    refine v_iload_n C dX7_faultOf_98 rfl ?_
    refine v_callVi C (c_X4_faultOfBringing hl E0.m a b) dX7_faultOf_99 mX4_faultOfBringing rfl F0.1.m.o rfl wd2_111 rfl rfl (Nat.le_of_ble_eq_true rfl) (hp_rmle hRm (by decide) (by decide)) (Nat.le_of_ble_eq_true rfl) (Nat.le_of_ble_eq_true rfl) ?_
    exact v_iret C E dX7_faultOf_102 rfl ⟨rfl, rfl⟩
  | 6, _ =>
    refine v_iload_n C dX7_faultOf_0 rfl ?_
    refine v_tableIn (tgt := 103) (off := 102) C dX7_faultOf_1 (by decide) (by decide) (by decide) (by decide) ?_
    refine v_aload_n C dX7_faultOf_103 rfl ?_
    refine v_get C 0 dX7_faultOf_104 wd2_17 F0.1.o rfl (by decide) ⟨rfl, rfl, rfl⟩ rfl ?_
    refine v_iload_n C dX7_faultOf_107 rfl ?_
    refine v_iload_n C dX7_faultOf_108 rfl ?_
    refine v_callVi C (c_X4_faultOfTaking hl E0.m a b) dX7_faultOf_109 mX4_faultOfTaking rfl F0.1.m.o rfl wd2_115 rfl rfl (Nat.le_of_ble_eq_true rfl) (hp_rmle hRm (by decide) (by decide)) (Nat.le_of_ble_eq_true rfl) (Nat.le_of_ble_eq_true rfl) ?_
    exact v_iret C E dX7_faultOf_112 rfl ⟨rfl, rfl⟩
  | 7, _ =>
    refine v_iload_n C dX7_faultOf_0 rfl ?_
    refine v_tableIn (tgt := 113) (off := 112) C dX7_faultOf_1 (by decide) (by decide) (by decide) (by decide) ?_
    refine v_aload_n C dX7_faultOf_113 rfl ?_
    refine v_get C 0 dX7_faultOf_114 wd2_17 F0.1.o rfl (by decide) ⟨rfl, rfl, rfl⟩ rfl ?_
    refine v_iload_n C dX7_faultOf_117 rfl ?_
    refine v_iload_n C dX7_faultOf_118 rfl ?_
    refine v_callVi C (c_X4_faultOfTaking hl E0.m a b) dX7_faultOf_119 mX4_faultOfTaking rfl F0.1.m.o rfl wd2_115 rfl rfl (Nat.le_of_ble_eq_true rfl) (hp_rmle hRm (by decide) (by decide)) (Nat.le_of_ble_eq_true rfl) (Nat.le_of_ble_eq_true rfl) ?_
    exact v_iret C E dX7_faultOf_122 rfl ⟨rfl, rfl⟩
set_option maxHeartbeats 8000000 in
/-- a command is carried out -/
theorem c_X7_perform {G : hp_G} {l : Launch} (hl : l.stackTraces = false) {n0 : Nat} {h0 : Nat → Option va_E} {x L0 : Nat} {M : mk_T} {B : mk_T} {Z : mk_T} {mk : Nat → mk_T} {nx : Nat} {cnt : Nat} {t : Nat → Nat} {n : Nat} {lt : Nat → Nat} {ln : Nat} {hs : Int32} {ma : Int32} {fa : Int32} {rk : Nat → Option va_E} (E0 : Ex G h0 x L0 M B Z mk nx cnt t n lt ln hs ma fa rk) (hL : L0 ≤ n0) {c : Nat} (hc : c < 8) (a b k d e : Int32) (hf : fo M c a b k d e = nI 0) (hok : c = 4 → pn_ok M) : Ct G l yX7_perform cX7_perform 7 (some .int) 10 0 0 [.ref x, .int (nI c), .int a, .int b, .int k, .int d, .int e] (n0, h0) (hp_iq (fun r τ => r = po_v M c a b k d e ∧ τ.1 = n0 ∧ Fx G n0 h0 x L0 (po_M M c a b k d e) B Z mk nx cnt t n lt ln hs ma fa rk n0 τ.2)) := by
  have F0 := Fx.start E0 hL
  have hhz := E0.m.hz
  have htr := E0.m.tr
  have hct := E0.m.ct
  have hbase := E0.base
  have hl0 := E0.l0
  refine Ct.of rfl hl (by simp [Value.category]) (Nat.le_of_ble_eq_true rfl) (fun K C E hRm hKl => ?_)
  subst hKl
  match c, hc with
  | 0, _ =>
    refine v_iload_n C dX7_perform_0 rfl ?_
    refine v_tableIn (tgt := 48) (off := 47) C dX7_perform_1 (by decide) (by decide) (by decide) (by decide) ?_
    refine v_aload_n C dX7_perform_48 rfl ?_
    refine v_get C 0 dX7_perform_49 wd2_17 F0.1.o rfl (by decide) ⟨rfl, rfl, rfl⟩ rfl ?_
    refine v_iload_n C dX7_perform_52 rfl ?_
    refine v_iload_n C dX7_perform_53 rfl ?_
    refine v_callVq C (c_X4_placeHorizon hl E0.m (mk_fH_0 hf) a b) dX7_perform_54 mX4_placeHorizon rfl F0.1.m.o rfl wd3_24 rfl rfl (Nat.le_of_ble_eq_true rfl) (hp_rmle hRm (by decide) (by decide)) (Nat.le_of_ble_eq_true rfl) (Nat.le_of_ble_eq_true rfl) (fun r54 n54 h54 q54 => ?_)
    obtain ⟨e54, k54, M54, u54⟩ := q54
    have z54 := Eq.symm k54
    have z54 : n0 = n54 := z54
    subst z54
    exact v_iret C E dX7_perform_57 rfl ⟨_, rfl, e54, rfl, F0.um M54 u54⟩
  | 1, _ =>
    refine v_iload_n C dX7_perform_0 rfl ?_
    refine v_tableIn (tgt := 58) (off := 57) C dX7_perform_1 (by decide) (by decide) (by decide) (by decide) ?_
    refine v_aload_n C dX7_perform_58 rfl ?_
    refine v_get C 0 dX7_perform_59 wd2_17 F0.1.o rfl (by decide) ⟨rfl, rfl, rfl⟩ rfl ?_
    refine v_iload_n C dX7_perform_62 rfl ?_
    refine v_callVq C (c_X4_placeTrader hl E0.m (mk_fR_0 hf) a) dX7_perform_63 mX4_placeTrader rfl F0.1.m.o rfl wd3_28 rfl rfl (Nat.le_of_ble_eq_true rfl) (hp_rmle hRm (by decide) (by decide)) (Nat.le_of_ble_eq_true rfl) (Nat.le_of_ble_eq_true rfl) (fun r63 n63 h63 q63 => ?_)
    obtain ⟨e63, k63, M63, u63⟩ := q63
    have z63 := Eq.symm k63
    have z63 : n0 = n63 := z63
    subst z63
    exact v_iret C E dX7_perform_66 rfl ⟨_, rfl, e63, rfl, F0.um M63 u63⟩
  | 2, _ =>
    refine v_iload_n C dX7_perform_0 rfl ?_
    refine v_tableIn (tgt := 67) (off := 66) C dX7_perform_1 (by decide) (by decide) (by decide) (by decide) ?_
    refine v_aload_n C dX7_perform_67 rfl ?_
    refine v_get C 0 dX7_perform_68 wd2_17 F0.1.o rfl (by decide) ⟨rfl, rfl, rfl⟩ rfl ?_
    refine v_iload_n C dX7_perform_71 rfl ?_
    refine v_iload_n C dX7_perform_72 rfl ?_
    refine v_iload C dX7_perform_73 rfl ?_
    refine v_iload C dX7_perform_75 rfl ?_
    refine v_iload C dX7_perform_77 rfl ?_
    refine v_callVq C (c_X4_conclude hl E0.m (mk_fT_0 hf) a b k d e) dX7_perform_79 mX4_conclude rfl F0.1.m.o rfl wd3_32 rfl rfl (Nat.le_of_ble_eq_true rfl) (hp_rmle hRm (by decide) (by decide)) (Nat.le_of_ble_eq_true rfl) (Nat.le_of_ble_eq_true rfl) (fun r79 n79 h79 q79 => ?_)
    obtain ⟨e79, k79, M79, u79⟩ := q79
    have z79 := Eq.symm k79
    have z79 : n0 = n79 := z79
    subst z79
    exact v_iret C E dX7_perform_82 rfl ⟨_, rfl, e79, rfl, F0.um M79 u79⟩
  | 3, _ =>
    obtain ⟨j, hj, rfl⟩ := hp_num_j (mk_fQ_0 hf) (by omega)
    have ej : (nI j).toNatClampNeg = j := nI_clamp (by omega)
    refine v_iload_n C dX7_perform_0 rfl ?_
    refine v_tableIn (tgt := 83) (off := 82) C dX7_perform_1 (by decide) (by decide) (by decide) (by decide) ?_
    refine v_aload_n C dX7_perform_83 rfl ?_
    refine v_get C 0 dX7_perform_84 wd2_17 F0.1.o rfl (by decide) ⟨rfl, rfl, rfl⟩ rfl ?_
    refine v_iload_n C dX7_perform_87 rfl ?_
    refine v_iload_n C dX7_perform_88 rfl ?_
    refine v_callVq C (c_X4_replaceQuote hl E0.m hj b) dX7_perform_89 mX4_replaceQuote rfl F0.1.m.o rfl wd3_36 rfl rfl (Nat.le_of_ble_eq_true rfl) (hp_rmle hRm (by decide) (by decide)) (Nat.le_of_ble_eq_true rfl) (Nat.le_of_ble_eq_true rfl) (fun r89 n89 h89 q89 => ?_)
    obtain ⟨e89, k89, M89, u89⟩ := q89
    have z89 := Eq.symm k89
    have z89 : n0 = n89 := z89
    subst z89
    exact v_iret C E dX7_perform_92 rfl ⟨_, rfl, (by rw [e89]; unfold po_v; simp only [ej]), rfl, (by unfold po_M; simp only [ej]; exact F0.um M89 u89)⟩
  | 4, _ =>
    refine v_iload_n C dX7_perform_0 rfl ?_
    refine v_tableIn (tgt := 93) (off := 92) C dX7_perform_1 (by decide) (by decide) (by decide) (by decide) ?_
    refine v_aload_n C dX7_perform_93 rfl ?_
    refine v_callVq C (c_X7_passNight hl E0 hL (hok rfl)) dX7_perform_94 mX7_passNight rfl F0.1.o rfl wd3_40 rfl rfl (Nat.le_of_ble_eq_true rfl) (hp_rmle hRm (by decide) (by decide)) (Nat.le_of_ble_eq_true rfl) (Nat.le_of_ble_eq_true rfl) (fun r94 n94 h94 q94 => ?_)
    obtain ⟨e94, k94, F94⟩ := q94
    have z94 := Eq.symm k94
    have z94 : n0 = n94 := z94
    subst z94
    exact v_iret C E dX7_perform_97 rfl ⟨_, rfl, e94, rfl, F94⟩
  | 5, _ =>
    obtain ⟨j, hj, rfl⟩ := hp_num_j (mk_fB_0 hf).1 (by omega)
    have ej : (nI j).toNatClampNeg = j := nI_clamp (by omega)
    refine v_iload_n C dX7_perform_0 rfl ?_
    refine v_tableIn (tgt := 98) (off := 97) C dX7_perform_1 (by decide) (by decide) (by decide) (by decide) ?_
    refine v_aload_n C dX7_perform_98 rfl ?_
    refine v_get C 0 dX7_perform_99 wd2_17 F0.1.o rfl (by decide) ⟨rfl, rfl, rfl⟩ rfl ?_
    refine v_iload_n C dX7_perform_102 rfl ?_
    refine v_iload_n C dX7_perform_103 rfl ?_
    refine v_callVq C (c_X4_bringMoney hl E0.m hj b) dX7_perform_104 mX4_bringMoney rfl F0.1.m.o rfl wd3_117 rfl rfl (Nat.le_of_ble_eq_true rfl) (hp_rmle hRm (by decide) (by decide)) (Nat.le_of_ble_eq_true rfl) (Nat.le_of_ble_eq_true rfl) (fun r104 n104 h104 q104 => ?_)
    obtain ⟨e104, k104, M104, u104⟩ := q104
    have z104 := Eq.symm k104
    have z104 : n0 = n104 := z104
    subst z104
    exact v_iret C E dX7_perform_107 rfl ⟨_, rfl, (by rw [e104]; unfold po_v; simp only [ej]), rfl, (by unfold po_M; simp only [ej]; exact F0.um M104 u104)⟩
  | 6, _ =>
    obtain ⟨j, hj, rfl⟩ := hp_num_j (mk_fB_0 (mk_fK_0 hf)).1 (by omega)
    have ej : (nI j).toNatClampNeg = j := nI_clamp (by omega)
    refine v_iload_n C dX7_perform_0 rfl ?_
    refine v_tableIn (tgt := 108) (off := 107) C dX7_perform_1 (by decide) (by decide) (by decide) (by decide) ?_
    refine v_aload_n C dX7_perform_108 rfl ?_
    refine v_get C 0 dX7_perform_109 wd2_17 F0.1.o rfl (by decide) ⟨rfl, rfl, rfl⟩ rfl ?_
    refine v_iload_n C dX7_perform_112 rfl ?_
    refine v_iload_n C dX7_perform_113 rfl ?_
    refine v_callVq C (c_X4_takeMoney hl E0.m hj b) dX7_perform_114 mX4_takeMoney rfl F0.1.m.o rfl wd3_121 rfl rfl (Nat.le_of_ble_eq_true rfl) (hp_rmle hRm (by decide) (by decide)) (Nat.le_of_ble_eq_true rfl) (Nat.le_of_ble_eq_true rfl) (fun r114 n114 h114 q114 => ?_)
    obtain ⟨e114, k114, M114, u114⟩ := q114
    have z114 := Eq.symm k114
    have z114 : n0 = n114 := z114
    subst z114
    exact v_iret C E dX7_perform_117 rfl ⟨_, rfl, (by rw [e114]; unfold po_v; simp only [ej]), rfl, (by unfold po_M; simp only [ej]; exact F0.um M114 u114)⟩
  | 7, _ =>
    obtain ⟨j, hj, rfl⟩ := hp_num_j (mk_fB_0 (mk_fK_0 hf)).1 (by omega)
    have ej : (nI j).toNatClampNeg = j := nI_clamp (by omega)
    refine v_iload_n C dX7_perform_0 rfl ?_
    refine v_tableIn (tgt := 118) (off := 117) C dX7_perform_1 (by decide) (by decide) (by decide) (by decide) ?_
    refine v_aload_n C dX7_perform_118 rfl ?_
    refine v_get C 0 dX7_perform_119 wd2_17 F0.1.o rfl (by decide) ⟨rfl, rfl, rfl⟩ rfl ?_
    refine v_iload_n C dX7_perform_122 rfl ?_
    refine v_iload_n C dX7_perform_123 rfl ?_
    refine v_callVq C (c_X4_giveToFund hl E0.m hj b) dX7_perform_124 mX4_giveToFund rfl F0.1.m.o rfl wd3_125 rfl rfl (Nat.le_of_ble_eq_true rfl) (hp_rmle hRm (by decide) (by decide)) (Nat.le_of_ble_eq_true rfl) (Nat.le_of_ble_eq_true rfl) (fun r124 n124 h124 q124 => ?_)
    obtain ⟨e124, k124, M124, u124⟩ := q124
    have z124 := Eq.symm k124
    have z124 : n0 = n124 := z124
    subst z124
    exact v_iret C E dX7_perform_127 rfl ⟨_, rfl, (by rw [e124]; unfold po_v; simp only [ej]), rfl, (by unfold po_M; simp only [ej]; exact F0.um M124 u124)⟩
def md_M (M : mk_T) (c : Nat) (a b k d e : Int32) : mk_T := if fo M c a b k d e = nI 0 then po_M M c a b k d e else M
def md_K (M : mk_T) (mk : Nat → mk_T) (nx : Nat) (f : Int32) : Nat → mk_T := if f = nI 0 then va_up mk nx M else mk
def md_X (nx : Nat) (f : Int32) : Nat := if f = nI 0 then (nx + 1) % 8 else nx
def md_C (cnt : Nat) (f : Int32) : Nat := if f = nI 0 then min (cnt + 1) 8 else cnt
set_option maxHeartbeats 8000000 in
/-- a modification -/
theorem c_X7_modify {G : hp_G} {l : Launch} (hl : l.stackTraces = false) {n0 : Nat} {h0 : Nat → Option va_E} {x L0 : Nat} {M : mk_T} {B : mk_T} {Z : mk_T} {mk : Nat → mk_T} {nx : Nat} {cnt : Nat} {t : Nat → Nat} {n : Nat} {lt : Nat → Nat} {ln : Nat} {hs : Int32} {ma : Int32} {fa : Int32} {rk : Nat → Option va_E} (E0 : Ex G h0 x L0 M B Z mk nx cnt t n lt ln hs ma fa rk) (hL : L0 ≤ n0) {c : Nat} (hc : c < 8) (a b k d e : Int32) (hok : c = 4 → pn_ok M) : Ct G l yX7_modify cX7_modify 7 (some .int) 11 1 6 [.ref x, .int (nI c), .int a, .int b, .int k, .int d, .int e] (n0, h0) (fun o τ => o = qa (fo M c a b k d e = nI 0) (ex_cl (fo M c a b k d e)) (rI (po_v M c a b k d e)) ∧ Fx G n0 h0 x L0 (md_M M c a b k d e) B Z (md_K M mk nx (fo M c a b k d e)) (md_X nx (fo M c a b k d e)) (md_C cnt (fo M c a b k d e)) t n lt ln hs ma fa rk τ.1 τ.2) := by
  have F0 := Fx.start E0 hL
  have hhz := E0.m.hz
  have htr := E0.m.tr
  have hct := E0.m.ct
  have hbase := E0.base
  have hl0 := E0.l0
  refine Ct.of rfl hl (by simp [Value.category]) (Nat.le_of_ble_eq_true rfl) (fun K C E hRm hKl => ?_)
  subst hKl
  refine v_aload_n C dX7_modify_0 rfl ?_
  refine v_iload_n C dX7_modify_1 rfl ?_
  refine v_iload_n C dX7_modify_2 rfl ?_
  refine v_iload_n C dX7_modify_3 rfl ?_
  refine v_iload C dX7_modify_4 rfl ?_
  refine v_iload C dX7_modify_6 rfl ?_
  refine v_iload C dX7_modify_8 rfl ?_
  refine v_callVi C (c_X7_faultOf hl E0 hL hc a b k d e) dX7_modify_10 mX7_faultOf rfl F0.1.o rfl wd2_62 rfl rfl (Nat.le_of_ble_eq_true rfl) (hp_rmle hRm (by decide) (by decide)) (Nat.le_of_ble_eq_true rfl) (Nat.le_of_ble_eq_true rfl) ?_
  refine v_callSx C (c_X7_raise hl (mk_f_in M c a b k d e)) dX7_modify_13 mX7_raise wd2_120 rfl rfl (Nat.le_of_ble_eq_true rfl) (hp_rmle hRm (by decide) (by decide)) (Nat.le_of_ble_eq_true rfl) (Nat.le_of_ble_eq_true rfl) (fun e13 t13 q13 => ?_) (fun v13 t13 q13 => ?_)
  · obtain ⟨n13, h13⟩ := t13
    obtain ⟨c13, z13, y13, x13⟩ := q13.resolve_left (fun z => by cases z.2.1)
    have x13 := Eq.symm x13
    cases z13
    subst x13
    exact v_xout C E ⟨(if_neg c13).symm, by unfold md_M md_K md_X md_C; rw [if_neg c13, if_neg c13, if_neg c13, if_neg c13]; exact F0.up y13⟩
  obtain ⟨c13, z13, y13⟩ := q13.resolve_right (fun z => by cases z.2.1)
  cases z13
  subst y13
  refine v_aload_n C dX7_modify_16 rfl ?_
  refine v_get C 3 dX7_modify_17 wd2_20 F0.1.o rfl (by decide) ⟨rfl, rfl, rfl⟩ rfl ?_
  refine v_aload_n C dX7_modify_20 rfl ?_
  refine v_get C 0 dX7_modify_21 wd2_17 F0.1.o rfl (by decide) ⟨rfl, rfl, rfl⟩ rfl ?_
  refine v_callVv C (c_X3_keep hl E0.hh E0.m (by omega)) dX7_modify_24 mX3_keep rfl F0.1.hh.o rfl wd3_3 rfl rfl (Nat.le_of_ble_eq_true rfl) (hp_rmle hRm (by decide) (by decide)) (Nat.le_of_ble_eq_true rfl) (Nat.le_of_ble_eq_true rfl) (fun n24 h24 q24 => ?_)
  obtain ⟨k24, H24, M24, u24⟩ := q24
  have z24 := Eq.symm k24
  have z24 : n0 = n24 := z24
  subst z24
  have F24 := F0.uhm H24 M24 u24
  refine v_aload_n C dX7_modify_27 rfl ?_
  refine v_iload_n C dX7_modify_28 rfl ?_
  refine v_iload_n C dX7_modify_29 rfl ?_
  refine v_iload_n C dX7_modify_30 rfl ?_
  refine v_iload C dX7_modify_31 rfl ?_
  refine v_iload C dX7_modify_33 rfl ?_
  refine v_iload C dX7_modify_35 rfl ?_
  refine v_callVq C (c_X7_perform hl F24.1 F24.lo hc a b k d e c13 hok) dX7_modify_37 mX7_perform rfl F24.1.o rfl wd3_20 rfl rfl (Nat.le_of_ble_eq_true rfl) (hp_rmle hRm (by decide) (by decide)) (Nat.le_of_ble_eq_true rfl) (Nat.le_of_ble_eq_true rfl) (fun r37 n37 h37 q37 => ?_)
  obtain ⟨e37, k37, F37⟩ := q37
  have z37 := Eq.symm k37
  have z37 : n0 = n37 := z37
  subst z37
  exact v_iret C E dX7_modify_40 rfl ⟨(congrArg rI e37).trans (if_pos c13).symm, by unfold md_M md_K md_X md_C; rw [if_pos c13, if_pos c13, if_pos c13, if_pos c13]; exact F24.trans F37⟩
set_option maxHeartbeats 8000000 in
/-- addHorizon -/
theorem c_X7_addHorizon {G : hp_G} {l : Launch} (hl : l.stackTraces = false) {n0 : Nat} {h0 : Nat → Option va_E} {x L0 : Nat} {M : mk_T} {B : mk_T} {Z : mk_T} {mk : Nat → mk_T} {nx : Nat} {cnt : Nat} {t : Nat → Nat} {n : Nat} {lt : Nat → Nat} {ln : Nat} {hs : Int32} {ma : Int32} {fa : Int32} {rk : Nat → Option va_E} (E0 : Ex G h0 x L0 M B Z mk nx cnt t n lt ln hs ma fa rk) (hL : L0 ≤ n0) (a b : Int32) : Ct G l yX7_addHorizon cX7_addHorizon 3 (some .int) 12 1 6 [.ref x, .int a, .int b] (n0, h0) (fun o τ => o = qa (fo M 0 a b (nI 0) (nI 0) (nI 0) = nI 0) (ex_cl (fo M 0 a b (nI 0) (nI 0) (nI 0))) (rI (po_v M 0 a b (nI 0) (nI 0) (nI 0))) ∧ Fx G n0 h0 x L0 (md_M M 0 a b (nI 0) (nI 0) (nI 0)) B Z (md_K M mk nx (fo M 0 a b (nI 0) (nI 0) (nI 0))) (md_X nx (fo M 0 a b (nI 0) (nI 0) (nI 0))) (md_C cnt (fo M 0 a b (nI 0) (nI 0) (nI 0))) t n lt ln hs ma fa rk τ.1 τ.2) := by
  have F0 := Fx.start E0 hL
  have hhz := E0.m.hz
  have htr := E0.m.tr
  have hct := E0.m.ct
  have hbase := E0.base
  have hl0 := E0.l0
  refine Ct.of rfl hl (by simp [Value.category]) (Nat.le_of_ble_eq_true rfl) (fun K C E hRm hKl => ?_)
  subst hKl
  refine v_aload_n C dX7_addHorizon_0 rfl ?_
  refine v_iconst (v := nI 0) C dX7_addHorizon_1 (by decide) ?_
  refine v_iload_n C dX7_addHorizon_2 rfl ?_
  refine v_iload_n C dX7_addHorizon_3 rfl ?_
  refine v_iconst (v := nI 0) C dX7_addHorizon_4 (by decide) ?_
  refine v_iconst (v := nI 0) C dX7_addHorizon_5 (by decide) ?_
  refine v_iconst (v := nI 0) C dX7_addHorizon_6 (by decide) ?_
  refine v_callVx C (c_X7_modify hl E0 hL (c := 0) (by decide) a b (nI 0) (nI 0) (nI 0) (fun z => absurd z (by decide))) dX7_addHorizon_7 mX7_modify rfl F0.1.o rfl wd2_58 rfl rfl (Nat.le_of_ble_eq_true rfl) (hp_rmle hRm (by decide) (by decide)) (Nat.le_of_ble_eq_true rfl) (Nat.le_of_ble_eq_true rfl) (fun e7 t7 q7 => ?_) (fun v7 t7 q7 => ?_)
  · exact v_xout C E q7
  obtain ⟨n7, h7⟩ := t7
  obtain ⟨o7, F7⟩ := q7
  have w7 : v7 = some (.int (po_v M 0 a b (nI 0) (nI 0) (nI 0))) := by
    by_cases z : fo M 0 a b (nI 0) (nI 0) (nI 0) = nI 0
    · exact Sum.inl.inj (o7.trans (if_pos z))
    · exact absurd (o7.trans (if_neg z)) (fun y => by cases y)
  have oo7 := o7
  subst w7
  exact v_iret C E dX7_addHorizon_10 rfl ⟨oo7, F7⟩
set_option maxHeartbeats 8000000 in
/-- addTrader -/
theorem c_X7_addTrader {G : hp_G} {l : Launch} (hl : l.stackTraces = false) {n0 : Nat} {h0 : Nat → Option va_E} {x L0 : Nat} {M : mk_T} {B : mk_T} {Z : mk_T} {mk : Nat → mk_T} {nx : Nat} {cnt : Nat} {t : Nat → Nat} {n : Nat} {lt : Nat → Nat} {ln : Nat} {hs : Int32} {ma : Int32} {fa : Int32} {rk : Nat → Option va_E} (E0 : Ex G h0 x L0 M B Z mk nx cnt t n lt ln hs ma fa rk) (hL : L0 ≤ n0) (a : Int32) : Ct G l yX7_addTrader cX7_addTrader 2 (some .int) 12 1 6 [.ref x, .int a] (n0, h0) (fun o τ => o = qa (fo M 1 a (nI 0) (nI 0) (nI 0) (nI 0) = nI 0) (ex_cl (fo M 1 a (nI 0) (nI 0) (nI 0) (nI 0))) (rI (po_v M 1 a (nI 0) (nI 0) (nI 0) (nI 0))) ∧ Fx G n0 h0 x L0 (md_M M 1 a (nI 0) (nI 0) (nI 0) (nI 0)) B Z (md_K M mk nx (fo M 1 a (nI 0) (nI 0) (nI 0) (nI 0))) (md_X nx (fo M 1 a (nI 0) (nI 0) (nI 0) (nI 0))) (md_C cnt (fo M 1 a (nI 0) (nI 0) (nI 0) (nI 0))) t n lt ln hs ma fa rk τ.1 τ.2) := by
  have F0 := Fx.start E0 hL
  have hhz := E0.m.hz
  have htr := E0.m.tr
  have hct := E0.m.ct
  have hbase := E0.base
  have hl0 := E0.l0
  refine Ct.of rfl hl (by simp [Value.category]) (Nat.le_of_ble_eq_true rfl) (fun K C E hRm hKl => ?_)
  subst hKl
  refine v_aload_n C dX7_addTrader_0 rfl ?_
  refine v_iconst (v := nI 1) C dX7_addTrader_1 (by decide) ?_
  refine v_iload_n C dX7_addTrader_2 rfl ?_
  refine v_iconst (v := nI 0) C dX7_addTrader_3 (by decide) ?_
  refine v_iconst (v := nI 0) C dX7_addTrader_4 (by decide) ?_
  refine v_iconst (v := nI 0) C dX7_addTrader_5 (by decide) ?_
  refine v_iconst (v := nI 0) C dX7_addTrader_6 (by decide) ?_
  refine v_callVx C (c_X7_modify hl E0 hL (c := 1) (by decide) a (nI 0) (nI 0) (nI 0) (nI 0) (fun z => absurd z (by decide))) dX7_addTrader_7 mX7_modify rfl F0.1.o rfl wd2_58 rfl rfl (Nat.le_of_ble_eq_true rfl) (hp_rmle hRm (by decide) (by decide)) (Nat.le_of_ble_eq_true rfl) (Nat.le_of_ble_eq_true rfl) (fun e7 t7 q7 => ?_) (fun v7 t7 q7 => ?_)
  · exact v_xout C E q7
  obtain ⟨n7, h7⟩ := t7
  obtain ⟨o7, F7⟩ := q7
  have w7 : v7 = some (.int (po_v M 1 a (nI 0) (nI 0) (nI 0) (nI 0))) := by
    by_cases z : fo M 1 a (nI 0) (nI 0) (nI 0) (nI 0) = nI 0
    · exact Sum.inl.inj (o7.trans (if_pos z))
    · exact absurd (o7.trans (if_neg z)) (fun y => by cases y)
  have oo7 := o7
  subst w7
  exact v_iret C E dX7_addTrader_10 rfl ⟨oo7, F7⟩
set_option maxHeartbeats 8000000 in
/-- trade -/
theorem c_X7_trade {G : hp_G} {l : Launch} (hl : l.stackTraces = false) {n0 : Nat} {h0 : Nat → Option va_E} {x L0 : Nat} {M : mk_T} {B : mk_T} {Z : mk_T} {mk : Nat → mk_T} {nx : Nat} {cnt : Nat} {t : Nat → Nat} {n : Nat} {lt : Nat → Nat} {ln : Nat} {hs : Int32} {ma : Int32} {fa : Int32} {rk : Nat → Option va_E} (E0 : Ex G h0 x L0 M B Z mk nx cnt t n lt ln hs ma fa rk) (hL : L0 ≤ n0) (a b k d e : Int32) : Ct G l yX7_trade cX7_trade 6 (some .int) 12 1 6 [.ref x, .int a, .int b, .int k, .int d, .int e] (n0, h0) (fun o τ => o = qa (fo M 2 a b k d e = nI 0) (ex_cl (fo M 2 a b k d e)) (rI (po_v M 2 a b k d e)) ∧ Fx G n0 h0 x L0 (md_M M 2 a b k d e) B Z (md_K M mk nx (fo M 2 a b k d e)) (md_X nx (fo M 2 a b k d e)) (md_C cnt (fo M 2 a b k d e)) t n lt ln hs ma fa rk τ.1 τ.2) := by
  have F0 := Fx.start E0 hL
  have hhz := E0.m.hz
  have htr := E0.m.tr
  have hct := E0.m.ct
  have hbase := E0.base
  have hl0 := E0.l0
  refine Ct.of rfl hl (by simp [Value.category]) (Nat.le_of_ble_eq_true rfl) (fun K C E hRm hKl => ?_)
  subst hKl
  refine v_aload_n C dX7_trade_0 rfl ?_
  refine v_iconst (v := nI 2) C dX7_trade_1 (by decide) ?_
  refine v_iload_n C dX7_trade_2 rfl ?_
  refine v_iload_n C dX7_trade_3 rfl ?_
  refine v_iload_n C dX7_trade_4 rfl ?_
  refine v_iload C dX7_trade_5 rfl ?_
  refine v_iload C dX7_trade_7 rfl ?_
  refine v_callVx C (c_X7_modify hl E0 hL (c := 2) (by decide) a b k d e (fun z => absurd z (by decide))) dX7_trade_9 mX7_modify rfl F0.1.o rfl wd2_58 rfl rfl (Nat.le_of_ble_eq_true rfl) (hp_rmle hRm (by decide) (by decide)) (Nat.le_of_ble_eq_true rfl) (Nat.le_of_ble_eq_true rfl) (fun e9 t9 q9 => ?_) (fun v9 t9 q9 => ?_)
  · exact v_xout C E q9
  obtain ⟨n9, h9⟩ := t9
  obtain ⟨o9, F9⟩ := q9
  have w9 : v9 = some (.int (po_v M 2 a b k d e)) := by
    by_cases z : fo M 2 a b k d e = nI 0
    · exact Sum.inl.inj (o9.trans (if_pos z))
    · exact absurd (o9.trans (if_neg z)) (fun y => by cases y)
  have oo9 := o9
  subst w9
  exact v_iret C E dX7_trade_12 rfl ⟨oo9, F9⟩
set_option maxHeartbeats 8000000 in
/-- setQuote -/
theorem c_X7_setQuote {G : hp_G} {l : Launch} (hl : l.stackTraces = false) {n0 : Nat} {h0 : Nat → Option va_E} {x L0 : Nat} {M : mk_T} {B : mk_T} {Z : mk_T} {mk : Nat → mk_T} {nx : Nat} {cnt : Nat} {t : Nat → Nat} {n : Nat} {lt : Nat → Nat} {ln : Nat} {hs : Int32} {ma : Int32} {fa : Int32} {rk : Nat → Option va_E} (E0 : Ex G h0 x L0 M B Z mk nx cnt t n lt ln hs ma fa rk) (hL : L0 ≤ n0) (a b : Int32) : Ct G l yX7_setQuote cX7_setQuote 3 (some .int) 12 1 6 [.ref x, .int a, .int b] (n0, h0) (fun o τ => o = qa (fo M 3 a b (nI 0) (nI 0) (nI 0) = nI 0) (ex_cl (fo M 3 a b (nI 0) (nI 0) (nI 0))) (rI (po_v M 3 a b (nI 0) (nI 0) (nI 0))) ∧ Fx G n0 h0 x L0 (md_M M 3 a b (nI 0) (nI 0) (nI 0)) B Z (md_K M mk nx (fo M 3 a b (nI 0) (nI 0) (nI 0))) (md_X nx (fo M 3 a b (nI 0) (nI 0) (nI 0))) (md_C cnt (fo M 3 a b (nI 0) (nI 0) (nI 0))) t n lt ln hs ma fa rk τ.1 τ.2) := by
  have F0 := Fx.start E0 hL
  have hhz := E0.m.hz
  have htr := E0.m.tr
  have hct := E0.m.ct
  have hbase := E0.base
  have hl0 := E0.l0
  refine Ct.of rfl hl (by simp [Value.category]) (Nat.le_of_ble_eq_true rfl) (fun K C E hRm hKl => ?_)
  subst hKl
  refine v_aload_n C dX7_setQuote_0 rfl ?_
  refine v_iconst (v := nI 3) C dX7_setQuote_1 (by decide) ?_
  refine v_iload_n C dX7_setQuote_2 rfl ?_
  refine v_iload_n C dX7_setQuote_3 rfl ?_
  refine v_iconst (v := nI 0) C dX7_setQuote_4 (by decide) ?_
  refine v_iconst (v := nI 0) C dX7_setQuote_5 (by decide) ?_
  refine v_iconst (v := nI 0) C dX7_setQuote_6 (by decide) ?_
  refine v_callVx C (c_X7_modify hl E0 hL (c := 3) (by decide) a b (nI 0) (nI 0) (nI 0) (fun z => absurd z (by decide))) dX7_setQuote_7 mX7_modify rfl F0.1.o rfl wd2_58 rfl rfl (Nat.le_of_ble_eq_true rfl) (hp_rmle hRm (by decide) (by decide)) (Nat.le_of_ble_eq_true rfl) (Nat.le_of_ble_eq_true rfl) (fun e7 t7 q7 => ?_) (fun v7 t7 q7 => ?_)
  · exact v_xout C E q7
  obtain ⟨n7, h7⟩ := t7
  obtain ⟨o7, F7⟩ := q7
  have w7 : v7 = some (.int (po_v M 3 a b (nI 0) (nI 0) (nI 0))) := by
    by_cases z : fo M 3 a b (nI 0) (nI 0) (nI 0) = nI 0
    · exact Sum.inl.inj (o7.trans (if_pos z))
    · exact absurd (o7.trans (if_neg z)) (fun y => by cases y)
  have oo7 := o7
  subst w7
  exact v_iret C E dX7_setQuote_10 rfl ⟨oo7, F7⟩
set_option maxHeartbeats 8000000 in
/-- dawn -/
theorem c_X7_dawn {G : hp_G} {l : Launch} (hl : l.stackTraces = false) {n0 : Nat} {h0 : Nat → Option va_E} {x L0 : Nat} {M : mk_T} {B : mk_T} {Z : mk_T} {mk : Nat → mk_T} {nx : Nat} {cnt : Nat} {t : Nat → Nat} {n : Nat} {lt : Nat → Nat} {ln : Nat} {hs : Int32} {ma : Int32} {fa : Int32} {rk : Nat → Option va_E} (E0 : Ex G h0 x L0 M B Z mk nx cnt t n lt ln hs ma fa rk) (hL : L0 ≤ n0)  (hok : pn_ok M) : Ct G l yX7_dawn cX7_dawn 1 (some .int) 12 1 6 [.ref x] (n0, h0) (fun o τ => o = qa (fo M 4 (nI 0) (nI 0) (nI 0) (nI 0) (nI 0) = nI 0) (ex_cl (fo M 4 (nI 0) (nI 0) (nI 0) (nI 0) (nI 0))) (rI (po_v M 4 (nI 0) (nI 0) (nI 0) (nI 0) (nI 0))) ∧ Fx G n0 h0 x L0 (md_M M 4 (nI 0) (nI 0) (nI 0) (nI 0) (nI 0)) B Z (md_K M mk nx (fo M 4 (nI 0) (nI 0) (nI 0) (nI 0) (nI 0))) (md_X nx (fo M 4 (nI 0) (nI 0) (nI 0) (nI 0) (nI 0))) (md_C cnt (fo M 4 (nI 0) (nI 0) (nI 0) (nI 0) (nI 0))) t n lt ln hs ma fa rk τ.1 τ.2) := by
  have F0 := Fx.start E0 hL
  have hhz := E0.m.hz
  have htr := E0.m.tr
  have hct := E0.m.ct
  have hbase := E0.base
  have hl0 := E0.l0
  refine Ct.of rfl hl (by simp [Value.category]) (Nat.le_of_ble_eq_true rfl) (fun K C E hRm hKl => ?_)
  subst hKl
  refine v_aload_n C dX7_dawn_0 rfl ?_
  refine v_iconst (v := nI 4) C dX7_dawn_1 (by decide) ?_
  refine v_iconst (v := nI 0) C dX7_dawn_2 (by decide) ?_
  refine v_iconst (v := nI 0) C dX7_dawn_3 (by decide) ?_
  refine v_iconst (v := nI 0) C dX7_dawn_4 (by decide) ?_
  refine v_iconst (v := nI 0) C dX7_dawn_5 (by decide) ?_
  refine v_iconst (v := nI 0) C dX7_dawn_6 (by decide) ?_
  refine v_callVx C (c_X7_modify hl E0 hL (c := 4) (by decide) (nI 0) (nI 0) (nI 0) (nI 0) (nI 0) (fun _ => hok)) dX7_dawn_7 mX7_modify rfl F0.1.o rfl wd2_58 rfl rfl (Nat.le_of_ble_eq_true rfl) (hp_rmle hRm (by decide) (by decide)) (Nat.le_of_ble_eq_true rfl) (Nat.le_of_ble_eq_true rfl) (fun e7 t7 q7 => ?_) (fun v7 t7 q7 => ?_)
  · exact v_xout C E q7
  obtain ⟨n7, h7⟩ := t7
  obtain ⟨o7, F7⟩ := q7
  have w7 : v7 = some (.int (po_v M 4 (nI 0) (nI 0) (nI 0) (nI 0) (nI 0))) := by
    by_cases z : fo M 4 (nI 0) (nI 0) (nI 0) (nI 0) (nI 0) = nI 0
    · exact Sum.inl.inj (o7.trans (if_pos z))
    · exact absurd (o7.trans (if_neg z)) (fun y => by cases y)
  have oo7 := o7
  subst w7
  exact v_iret C E dX7_dawn_10 rfl ⟨oo7, F7⟩
set_option maxHeartbeats 8000000 in
/-- deposit -/
theorem c_X7_deposit {G : hp_G} {l : Launch} (hl : l.stackTraces = false) {n0 : Nat} {h0 : Nat → Option va_E} {x L0 : Nat} {M : mk_T} {B : mk_T} {Z : mk_T} {mk : Nat → mk_T} {nx : Nat} {cnt : Nat} {t : Nat → Nat} {n : Nat} {lt : Nat → Nat} {ln : Nat} {hs : Int32} {ma : Int32} {fa : Int32} {rk : Nat → Option va_E} (E0 : Ex G h0 x L0 M B Z mk nx cnt t n lt ln hs ma fa rk) (hL : L0 ≤ n0) (a b : Int32) : Ct G l yX7_deposit cX7_deposit 3 (some .int) 12 1 6 [.ref x, .int a, .int b] (n0, h0) (fun o τ => o = qa (fo M 5 a b (nI 0) (nI 0) (nI 0) = nI 0) (ex_cl (fo M 5 a b (nI 0) (nI 0) (nI 0))) (rI (po_v M 5 a b (nI 0) (nI 0) (nI 0))) ∧ Fx G n0 h0 x L0 (md_M M 5 a b (nI 0) (nI 0) (nI 0)) B Z (md_K M mk nx (fo M 5 a b (nI 0) (nI 0) (nI 0))) (md_X nx (fo M 5 a b (nI 0) (nI 0) (nI 0))) (md_C cnt (fo M 5 a b (nI 0) (nI 0) (nI 0))) t n lt ln hs ma fa rk τ.1 τ.2) := by
  have F0 := Fx.start E0 hL
  have hhz := E0.m.hz
  have htr := E0.m.tr
  have hct := E0.m.ct
  have hbase := E0.base
  have hl0 := E0.l0
  refine Ct.of rfl hl (by simp [Value.category]) (Nat.le_of_ble_eq_true rfl) (fun K C E hRm hKl => ?_)
  subst hKl
  refine v_aload_n C dX7_deposit_0 rfl ?_
  refine v_iconst (v := nI 5) C dX7_deposit_1 (by decide) ?_
  refine v_iload_n C dX7_deposit_2 rfl ?_
  refine v_iload_n C dX7_deposit_3 rfl ?_
  refine v_iconst (v := nI 0) C dX7_deposit_4 (by decide) ?_
  refine v_iconst (v := nI 0) C dX7_deposit_5 (by decide) ?_
  refine v_iconst (v := nI 0) C dX7_deposit_6 (by decide) ?_
  refine v_callVx C (c_X7_modify hl E0 hL (c := 5) (by decide) a b (nI 0) (nI 0) (nI 0) (fun z => absurd z (by decide))) dX7_deposit_7 mX7_modify rfl F0.1.o rfl wd2_58 rfl rfl (Nat.le_of_ble_eq_true rfl) (hp_rmle hRm (by decide) (by decide)) (Nat.le_of_ble_eq_true rfl) (Nat.le_of_ble_eq_true rfl) (fun e7 t7 q7 => ?_) (fun v7 t7 q7 => ?_)
  · exact v_xout C E q7
  obtain ⟨n7, h7⟩ := t7
  obtain ⟨o7, F7⟩ := q7
  have w7 : v7 = some (.int (po_v M 5 a b (nI 0) (nI 0) (nI 0))) := by
    by_cases z : fo M 5 a b (nI 0) (nI 0) (nI 0) = nI 0
    · exact Sum.inl.inj (o7.trans (if_pos z))
    · exact absurd (o7.trans (if_neg z)) (fun y => by cases y)
  have oo7 := o7
  subst w7
  exact v_iret C E dX7_deposit_10 rfl ⟨oo7, F7⟩
set_option maxHeartbeats 8000000 in
/-- withdraw -/
theorem c_X7_withdraw {G : hp_G} {l : Launch} (hl : l.stackTraces = false) {n0 : Nat} {h0 : Nat → Option va_E} {x L0 : Nat} {M : mk_T} {B : mk_T} {Z : mk_T} {mk : Nat → mk_T} {nx : Nat} {cnt : Nat} {t : Nat → Nat} {n : Nat} {lt : Nat → Nat} {ln : Nat} {hs : Int32} {ma : Int32} {fa : Int32} {rk : Nat → Option va_E} (E0 : Ex G h0 x L0 M B Z mk nx cnt t n lt ln hs ma fa rk) (hL : L0 ≤ n0) (a b : Int32) : Ct G l yX7_withdraw cX7_withdraw 3 (some .int) 12 1 6 [.ref x, .int a, .int b] (n0, h0) (fun o τ => o = qa (fo M 6 a b (nI 0) (nI 0) (nI 0) = nI 0) (ex_cl (fo M 6 a b (nI 0) (nI 0) (nI 0))) (rI (po_v M 6 a b (nI 0) (nI 0) (nI 0))) ∧ Fx G n0 h0 x L0 (md_M M 6 a b (nI 0) (nI 0) (nI 0)) B Z (md_K M mk nx (fo M 6 a b (nI 0) (nI 0) (nI 0))) (md_X nx (fo M 6 a b (nI 0) (nI 0) (nI 0))) (md_C cnt (fo M 6 a b (nI 0) (nI 0) (nI 0))) t n lt ln hs ma fa rk τ.1 τ.2) := by
  have F0 := Fx.start E0 hL
  have hhz := E0.m.hz
  have htr := E0.m.tr
  have hct := E0.m.ct
  have hbase := E0.base
  have hl0 := E0.l0
  refine Ct.of rfl hl (by simp [Value.category]) (Nat.le_of_ble_eq_true rfl) (fun K C E hRm hKl => ?_)
  subst hKl
  refine v_aload_n C dX7_withdraw_0 rfl ?_
  refine v_bipush (v := nI 6) C dX7_withdraw_1 (by decide) ?_
  refine v_iload_n C dX7_withdraw_3 rfl ?_
  refine v_iload_n C dX7_withdraw_4 rfl ?_
  refine v_iconst (v := nI 0) C dX7_withdraw_5 (by decide) ?_
  refine v_iconst (v := nI 0) C dX7_withdraw_6 (by decide) ?_
  refine v_iconst (v := nI 0) C dX7_withdraw_7 (by decide) ?_
  refine v_callVx C (c_X7_modify hl E0 hL (c := 6) (by decide) a b (nI 0) (nI 0) (nI 0) (fun z => absurd z (by decide))) dX7_withdraw_8 mX7_modify rfl F0.1.o rfl wd2_58 rfl rfl (Nat.le_of_ble_eq_true rfl) (hp_rmle hRm (by decide) (by decide)) (Nat.le_of_ble_eq_true rfl) (Nat.le_of_ble_eq_true rfl) (fun e8 t8 q8 => ?_) (fun v8 t8 q8 => ?_)
  · exact v_xout C E q8
  obtain ⟨n8, h8⟩ := t8
  obtain ⟨o8, F8⟩ := q8
  have w8 : v8 = some (.int (po_v M 6 a b (nI 0) (nI 0) (nI 0))) := by
    by_cases z : fo M 6 a b (nI 0) (nI 0) (nI 0) = nI 0
    · exact Sum.inl.inj (o8.trans (if_pos z))
    · exact absurd (o8.trans (if_neg z)) (fun y => by cases y)
  have oo8 := o8
  subst w8
  exact v_iret C E dX7_withdraw_11 rfl ⟨oo8, F8⟩
set_option maxHeartbeats 8000000 in
/-- contribute -/
theorem c_X7_contribute {G : hp_G} {l : Launch} (hl : l.stackTraces = false) {n0 : Nat} {h0 : Nat → Option va_E} {x L0 : Nat} {M : mk_T} {B : mk_T} {Z : mk_T} {mk : Nat → mk_T} {nx : Nat} {cnt : Nat} {t : Nat → Nat} {n : Nat} {lt : Nat → Nat} {ln : Nat} {hs : Int32} {ma : Int32} {fa : Int32} {rk : Nat → Option va_E} (E0 : Ex G h0 x L0 M B Z mk nx cnt t n lt ln hs ma fa rk) (hL : L0 ≤ n0) (a b : Int32) : Ct G l yX7_contribute cX7_contribute 3 (some .int) 12 1 6 [.ref x, .int a, .int b] (n0, h0) (fun o τ => o = qa (fo M 7 a b (nI 0) (nI 0) (nI 0) = nI 0) (ex_cl (fo M 7 a b (nI 0) (nI 0) (nI 0))) (rI (po_v M 7 a b (nI 0) (nI 0) (nI 0))) ∧ Fx G n0 h0 x L0 (md_M M 7 a b (nI 0) (nI 0) (nI 0)) B Z (md_K M mk nx (fo M 7 a b (nI 0) (nI 0) (nI 0))) (md_X nx (fo M 7 a b (nI 0) (nI 0) (nI 0))) (md_C cnt (fo M 7 a b (nI 0) (nI 0) (nI 0))) t n lt ln hs ma fa rk τ.1 τ.2) := by
  have F0 := Fx.start E0 hL
  have hhz := E0.m.hz
  have htr := E0.m.tr
  have hct := E0.m.ct
  have hbase := E0.base
  have hl0 := E0.l0
  refine Ct.of rfl hl (by simp [Value.category]) (Nat.le_of_ble_eq_true rfl) (fun K C E hRm hKl => ?_)
  subst hKl
  refine v_aload_n C dX7_contribute_0 rfl ?_
  refine v_bipush (v := nI 7) C dX7_contribute_1 (by decide) ?_
  refine v_iload_n C dX7_contribute_3 rfl ?_
  refine v_iload_n C dX7_contribute_4 rfl ?_
  refine v_iconst (v := nI 0) C dX7_contribute_5 (by decide) ?_
  refine v_iconst (v := nI 0) C dX7_contribute_6 (by decide) ?_
  refine v_iconst (v := nI 0) C dX7_contribute_7 (by decide) ?_
  refine v_callVx C (c_X7_modify hl E0 hL (c := 7) (by decide) a b (nI 0) (nI 0) (nI 0) (fun z => absurd z (by decide))) dX7_contribute_8 mX7_modify rfl F0.1.o rfl wd2_58 rfl rfl (Nat.le_of_ble_eq_true rfl) (hp_rmle hRm (by decide) (by decide)) (Nat.le_of_ble_eq_true rfl) (Nat.le_of_ble_eq_true rfl) (fun e8 t8 q8 => ?_) (fun v8 t8 q8 => ?_)
  · exact v_xout C E q8
  obtain ⟨n8, h8⟩ := t8
  obtain ⟨o8, F8⟩ := q8
  have w8 : v8 = some (.int (po_v M 7 a b (nI 0) (nI 0) (nI 0))) := by
    by_cases z : fo M 7 a b (nI 0) (nI 0) (nI 0) = nI 0
    · exact Sum.inl.inj (o8.trans (if_pos z))
    · exact absurd (o8.trans (if_neg z)) (fun y => by cases y)
  have oo8 := o8
  subst w8
  exact v_iret C E dX7_contribute_11 rfl ⟨oo8, F8⟩

/-! ===== THE MODEL: ways to take over ===== -/
theorem lw_dv : ∀ a, a < 1296 → nI a / nI 6 = nI (a / 6) ∧ nI a - nI a / nI 6 * nI 6 = nI (a % 6) := by decide +kernel
theorem tb_1 : ∀ s, s < 64 → ∀ t, t < 6 → ((nI s >>> (nI t &&& 31)) &&& nI 1 = nI 1 ↔ s / 2 ^ t % 2 = 1) := by decide +kernel
def mo_sr (S : mo_T) (k : Nat) (T : Nat → Int32) : mo_T := (fun j => if j = k then T else S.1 j, S.2)
theorem mo_sr_eq (S : mo_T) (k : Nat) : S = mo_sr S k (S.1 k) := by
  refine Prod.ext (funext fun j => ?_) rfl
  show S.1 j = (if j = k then S.1 k else S.1 j)
  by_cases q : j = k
  · rw [if_pos q, q]
  · rw [if_neg q]
theorem mo_sr_sa {S : mo_T} {T : Nat → Int32} {i : Nat} {v : Int32} : mo_sa (mo_sr S 6 T) 6 i v = mo_sr S 6 (upd T i v) := by
  refine Prod.ext (funext fun j => ?_) rfl
  show (if j = 6 then upd ((mo_sr S 6 T).1 6) i v else (mo_sr S 6 T).1 j) = (if j = 6 then upd T i v else S.1 j)
  by_cases q : j = 6
  · rw [if_pos q, if_pos q]
    rfl
  · rw [if_neg q, if_neg q]
    exact if_neg q
/-- whether a way is one, and who takes then -/
def mo_lw (M : mk_T) (d : Nat) (e left taken : Nat) (T : Nat → Int32) : Bool × (Nat → Int32) := match e with
  | 0 => (true, T)
  | e + 1 => if mo_po M (nI d) (nI e) = 0 then (if 0 < left % 6 then (false, upd T e (-1)) else mo_lw M d e (left / 6) taken (upd T e (-1))) else if mk_tr M ≤ left % 6 ∨ left % 6 = d ∨ ¬ mk_ar M 4 (left % 6) = nI 0 ∨ taken / 2 ^ (left % 6) % 2 = 1 then (false, upd T e (-1)) else mo_lw M d e (left / 6) (taken ||| 2 ^ (left % 6)) (upd (upd T e (-1)) e (nI (left % 6)))
set_option maxHeartbeats 8000000 in
theorem loop_X8_laysWay {G : hp_G} {K : hp_C} {P : hp_P} {n0 : Nat} {h0 : Nat → Option va_E} {y : Nat} {S : mo_T} {M : mk_T} {d way : Nat} {Z : Bool × (Nat → Int32)} (hg : Gr (S.1 0) M) (hbase : G.2.1 ≤ y) (hd : d < 6) (C : hp_Cx G K MX8_laysWay) (E : hp_End G K P) (hRm : hp_Rm K = hp_rm 2 0 0) (hl : K.2.1.stackTraces = false) (hp : ∀ h, Mo G h y (mo_sr S 6 Z.2) → (∀ a, (a < y ∨ y + 13 ≤ a) → h a = h0 a) → P (.inl (some (.int (hp_b (Z.1 = true))))) (n0, h)) : ∀ (c left taken : Nat) (T : Nat → Int32) (v : Int32) (h : Nat → Option va_E), v = nI c - nI 1 → c ≤ mk_hz M → left < 1296 → taken < 64 → mo_lw M d c left taken T = Z → Mo G h y (mo_sr S 6 T) → (∀ a, (a < y ∨ y + 13 ≤ a) → h a = h0 a) → V G K MX8_laysWay 0 0 (n0, h) 15 [some (.ref y), some (.int (nI d)), some (.int (nI way)), some (.int (nI left)), some (.int (nI taken)), some (.int v), none] [] := by
  have hhz := hg.hz
  have htr := hg.tr
  intro c
  induction c with
  | zero =>
    intro left taken T v h ev h1 hlf htk hZ H hO
    subst ev
    subst hZ
    refine v_iload C dX8_laysWay_15 rfl ?_
    refine v_if_lt (tgt := 119) C dX8_laysWay_17 (by decide) (fun c17 => ?_) (fun c17 => absurd hp_dec0 c17)
    refine v_iconst (v := nI 1) C dX8_laysWay_119 (by decide) ?_
    exact v_zret C E dX8_laysWay_120 rfl rfl (hp _ H hO)
  | succ j ih =>
    intro left taken T v h ev h1 hlf htk hZ H hO
    have ev : v = nI j := ev.trans (hp_decs j)
    subst ev
    obtain ⟨dv1, dv2⟩ := lw_dv left hlf
    have hm6 : left % 6 < 6 := Nat.mod_lt _ (by decide)
    unfold mo_lw at hZ
    refine v_iload C dX8_laysWay_15 rfl ?_
    refine v_if_lt (tgt := 119) C dX8_laysWay_17 (by decide) (fun c17 => absurd c17 (nI_pos (by omega))) (fun c17 => ?_)
    refine v_iload_n C dX8_laysWay_20 rfl ?_
    refine v_bipush (v := nI 6) C dX8_laysWay_21 (by decide) ?_
    refine v_irem C dX8_laysWay_23 (by decide) ?_
    rw [dv2]
    refine v_istore C dX8_laysWay_24 (by decide) ?_
    refine v_iload_n C dX8_laysWay_26 rfl ?_
    refine v_bipush (v := nI 6) C dX8_laysWay_27 (by decide) ?_
    refine v_idiv C dX8_laysWay_29 (by decide) ?_
    rw [dv1]
    refine v_istore_n C dX8_laysWay_30 (by decide) ?_
    refine v_aload_n C dX8_laysWay_31 rfl ?_
    refine v_get C 14 dX8_laysWay_32 wd7_11 H.o rfl (by decide) ⟨rfl, rfl, rfl⟩ rfl ?_
    refine v_iload C dX8_laysWay_35 rfl ?_
    refine v_iconst (v := (-1)) C dX8_laysWay_37 (by decide) ?_
    refine v_iastN C dX8_laysWay_38 (by omega) H.a6 (by omega) (by decide) (fun h38 e38 g38 => ?_)
    have Y38 := H.s6 e38 g38
    have W38 : ∀ a, (a < y ∨ y + 13 ≤ a) → h38 a = _ := fun a ha => (g38 a (by omega)).trans (hO a ha)
    have X38 := Y38.to mo_sr_sa
    refine v_aload_n C dX8_laysWay_39 rfl ?_
    refine v_iload_n C dX8_laysWay_40 rfl ?_
    refine v_iload C dX8_laysWay_41 rfl ?_
    refine v_callVi C (c_X8_position hl X38 hg (nI d) (nI j)) dX8_laysWay_43 mX8_position rfl X38.o rfl wd7_137 rfl rfl (Nat.le_of_ble_eq_true rfl) (hp_rmle hRm (by decide) (by decide)) (Nat.le_of_ble_eq_true rfl) (Nat.le_of_ble_eq_true rfl) ?_
    refine v_if_ne (tgt := 56) C dX8_laysWay_46 (by decide) (fun c46 => ?_) (fun c46 => ?_)
    · refine v_iload C dX8_laysWay_56 rfl ?_
      refine v_aload_n C dX8_laysWay_58 rfl ?_
      refine v_get C 0 dX8_laysWay_59 wd6_237 X38.o rfl (by decide) ⟨rfl, rfl, rfl⟩ rfl ?_
      refine v_iconst (v := nI 1) C dX8_laysWay_62 (by decide) ?_
      refine v_ialdN C dX8_laysWay_63 X38.a0 (by omega) (by decide) ?_
      rw [show (mo_sr S 6 (upd T j (-1))).1 0 = S.1 0 from rfl, hg.g1]
      refine v_icmp_geN (tgt := 93) C dX8_laysWay_64 (by decide) (by omega) (by omega) (fun c64 => ?_) (fun c64 => ?_)
      · have hbad : mk_tr M ≤ left % 6 ∨ left % 6 = d ∨ ¬ mk_ar M 4 (left % 6) = nI 0 ∨ taken / 2 ^ (left % 6) % 2 = 1 := Or.inl (by omega)
        have hZ2 := (if_pos hbad).symm.trans ((if_neg c46).symm.trans hZ)
        refine v_iconst (v := nI 0) C dX8_laysWay_93 (by decide) ?_
        exact v_zret C E dX8_laysWay_94 rfl rfl (by have hq := hp h38; rw [← hZ2] at hq; exact hq X38 W38)
      · refine v_iload C dX8_laysWay_67 rfl ?_
        refine v_iload_n C dX8_laysWay_69 rfl ?_
        refine v_icmp_eqN (tgt := 93) C dX8_laysWay_70 (by decide) (by omega) (by omega) (fun c70 => ?_) (fun c70 => ?_)
        · have hbad : mk_tr M ≤ left % 6 ∨ left % 6 = d ∨ ¬ mk_ar M 4 (left % 6) = nI 0 ∨ taken / 2 ^ (left % 6) % 2 = 1 := Or.inr (Or.inl (by omega))
          have hZ2 := (if_pos hbad).symm.trans ((if_neg c46).symm.trans hZ)
          refine v_iconst (v := nI 0) C dX8_laysWay_93 (by decide) ?_
          exact v_zret C E dX8_laysWay_94 rfl rfl (by have hq := hp h38; rw [← hZ2] at hq; exact hq X38 W38)
        · refine v_aload_n C dX8_laysWay_73 rfl ?_
          refine v_iload C dX8_laysWay_74 rfl ?_
          refine v_callVi C (c_X8_isSound hl X38 hg (t := left % 6) (by omega)) dX8_laysWay_76 mX8_isSound rfl X38.o rfl wd7_113 rfl rfl (Nat.le_of_ble_eq_true rfl) (hp_rmle hRm (by decide) (by decide)) (Nat.le_of_ble_eq_true rfl) (Nat.le_of_ble_eq_true rfl) ?_
          refine v_if_eqB (tgt := 93) C dX8_laysWay_79 (by decide) (fun c79 => ?_) (fun c79 => ?_)
          · have hbad : mk_tr M ≤ left % 6 ∨ left % 6 = d ∨ ¬ mk_ar M 4 (left % 6) = nI 0 ∨ taken / 2 ^ (left % 6) % 2 = 1 := Or.inr (Or.inr (Or.inl c79))
            have hZ2 := (if_pos hbad).symm.trans ((if_neg c46).symm.trans hZ)
            refine v_iconst (v := nI 0) C dX8_laysWay_93 (by decide) ?_
            exact v_zret C E dX8_laysWay_94 rfl rfl (by have hq := hp h38; rw [← hZ2] at hq; exact hq X38 W38)
          · refine v_iload C dX8_laysWay_82 rfl ?_
            refine v_iload C dX8_laysWay_84 rfl ?_
            refine v_ishr C dX8_laysWay_86 ?_
            refine v_iconst (v := nI 1) C dX8_laysWay_87 (by decide) ?_
            refine v_iand C dX8_laysWay_88 ?_
            refine v_iconst (v := nI 1) C dX8_laysWay_89 (by decide) ?_
            refine v_icmp_ne (tgt := 95) C dX8_laysWay_90 (by decide) (fun c90 => ?_) (fun c90 => ?_)
            · have hgood : ¬ (mk_tr M ≤ left % 6 ∨ left % 6 = d ∨ ¬ mk_ar M 4 (left % 6) = nI 0 ∨ taken / 2 ^ (left % 6) % 2 = 1) := fun z => z.elim (fun y => by omega) (fun z => z.elim (fun y => by omega) (fun z => z.elim (fun y => y c79) (fun y => c90 ((tb_1 taken htk _ hm6).mpr y))))
              have hZ2 := (if_neg hgood).symm.trans ((if_neg c46).symm.trans hZ)
              refine v_iload C dX8_laysWay_95 rfl ?_
              refine v_iconst (v := nI 1) C dX8_laysWay_97 (by decide) ?_
              refine v_iload C dX8_laysWay_98 rfl ?_
              refine v_ishl C dX8_laysWay_100 ?_
              refine v_ior C dX8_laysWay_101 ?_
              rw [hp_sh1 _ (by omega), hp_or]
              refine v_istore C dX8_laysWay_102 (by decide) ?_
              refine v_aload_n C dX8_laysWay_104 rfl ?_
              refine v_get C 14 dX8_laysWay_105 wd7_11 X38.o rfl (by decide) ⟨rfl, rfl, rfl⟩ rfl ?_
              refine v_iload C dX8_laysWay_108 rfl ?_
              refine v_iload C dX8_laysWay_110 rfl ?_
              refine v_iastN C dX8_laysWay_112 (by omega) X38.a6 (by omega) (by decide) (fun h112 e112 g112 => ?_)
              have Y112 := X38.s6 e112 g112
              have W112 : ∀ a, (a < y ∨ y + 13 ≤ a) → h112 a = _ := fun a ha => (g112 a (by omega)).trans (W38 a ha)
              have X112 := Y112.to mo_sr_sa
              refine v_iinc C dX8_laysWay_113 (by decide) rfl ?_
              refine v_goto (tgt := 15) C dX8_laysWay_116 (by decide) ?_
              refine v_drop 6 ?_
              exact ih _ _ _ _ _ (hp_dec _) (by omega) (by omega) (Nat.or_lt_two_pow (n := 6) htk (Nat.lt_of_lt_of_le (Nat.pow_lt_pow_right (by decide) hm6) (by decide))) hZ2 X112 W112
            · have hbad : mk_tr M ≤ left % 6 ∨ left % 6 = d ∨ ¬ mk_ar M 4 (left % 6) = nI 0 ∨ taken / 2 ^ (left % 6) % 2 = 1 := Or.inr (Or.inr (Or.inr ((tb_1 taken htk _ hm6).mp c90)))
              have hZ2 := (if_pos hbad).symm.trans ((if_neg c46).symm.trans hZ)
              refine v_iconst (v := nI 0) C dX8_laysWay_93 (by decide) ?_
              exact v_zret C E dX8_laysWay_94 rfl rfl (by have hq := hp h38; rw [← hZ2] at hq; exact hq X38 W38)
    · refine v_iload C dX8_laysWay_49 rfl ?_
      refine v_if_le (tgt := 113) C dX8_laysWay_51 (by decide) (fun c51 => ?_) (fun c51 => ?_)
      · have hq : ¬ 0 < left % 6 := fun z => nI_nle z (by omega) c51
        have hZ2 := (if_neg hq).symm.trans ((if_pos c46).symm.trans hZ)
        refine v_iinc C dX8_laysWay_113 (by decide) rfl ?_
        refine v_goto (tgt := 15) C dX8_laysWay_116 (by decide) ?_
        refine v_drop 6 ?_
        exact ih _ _ _ _ _ (hp_dec _) (by omega) (by omega) htk hZ2 X38 W38
      · have hq : 0 < left % 6 := by by_cases z : 0 < left % 6; (exact z); exact absurd (show nI (left % 6) ≤ 0 by rw [show left % 6 = 0 by omega]; decide) c51
        have hZ2 := (if_pos hq).symm.trans ((if_pos c46).symm.trans hZ)
        refine v_iconst (v := nI 0) C dX8_laysWay_54 (by decide) ?_
        exact v_zret C E dX8_laysWay_55 rfl rfl (by have hq := hp h38; rw [← hZ2] at hq; exact hq X38 W38)

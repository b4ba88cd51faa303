/-! ===== THE LAW: least margins, takers, ranks ===== -/
theorem lr_v {v code : Int32} {ex : List String} {Q : Int32 → Prop} (H : Lr (rI v) ex code Q) : code = nI 0 ∧ Q v := by
  rcases H with ⟨r, h1, h2, h3⟩ | ⟨i, E, h1, h2, h3⟩
  · cases h1
    exact ⟨h2, h3⟩
  · cases h2
theorem lr_i {s : String} {code : Int32} {ex : List String} {Q : Int32 → Prop} (H : Lr (.inr s) ex code Q) : ∃ i : Nat, ex[i]? = some s ∧ code = nI (i + 1) := by
  rcases H with ⟨r, h1, h2, h3⟩ | ⟨i, E, h1, h2, h3⟩
  · cases h1
  · cases h2
    exact ⟨i, h1, h3⟩
def pm (f : Int32) : Int32 := if f = nI 3 then nI 2 else if f = nI 4 then nI 3 else f
abbrev hf_e (f : Int32) : Prop := f = nI 0 ∨ f = nI 1 ∨ f = nI 3 ∨ f = nI 4
theorem pt_hf (M : mk_T) (i : Int32) : hf_e (pt_f M i) := by
  unfold pt_f
  split
  · exact Or.inr (Or.inl rfl)
  · split
    · exact Or.inr (Or.inr (Or.inl rfl))
    · split
      · exact Or.inl rfl
      · exact Or.inr (Or.inr (Or.inr rfl))
theorem qa_e {f v : Int32} (hf : hf_e f) : (∃ r, qa (f = nI 0) (ex_cl f) (rI v) = rI r) ∨ qa (f = nI 0) (ex_cl f) (rI v) = .inr "java/lang/IndexOutOfBoundsException" ∨ qa (f = nI 0) (ex_cl f) (rI v) = .inr "java/lang/IllegalStateException" ∨ qa (f = nI 0) (ex_cl f) (rI v) = .inr "java/lang/UnsupportedOperationException" := by
  rcases hf with rfl | rfl | rfl | rfl
  · exact Or.inl ⟨v, if_pos rfl⟩
  · exact Or.inr (Or.inl ((if_neg (by decide)).trans rfl))
  · exact Or.inr (Or.inr (Or.inl ((if_neg (by decide)).trans rfl)))
  · exact Or.inr (Or.inr (Or.inr ((if_neg (by decide)).trans rfl)))
theorem lr_e {f v code : Int32} {Q : Int32 → Prop} (hf : hf_e f) (H : Lr (qa (f = nI 0) (ex_cl f) (rI v)) ["java/lang/IndexOutOfBoundsException", "java/lang/IllegalStateException", "java/lang/UnsupportedOperationException"] code Q) : code = pm f ∧ (code = nI 0 → f = nI 0 ∧ Q v) := by
  unfold qa at H
  rcases hf with rfl | rfl | rfl | rfl
  · rw [if_pos rfl] at H
    obtain ⟨h1, h2⟩ := lr_v H
    exact ⟨h1, fun _ => ⟨rfl, h2⟩⟩
  · rw [if_neg (by decide)] at H
    obtain ⟨i, h1, h3⟩ := lr_i H
    match i, h1, h3 with
    | 0, _, h3 => exact ⟨h3, fun y => absurd (h3.symm.trans y) (by decide)⟩
    | 1, h1, _ => exact absurd h1 (by decide)
    | 2, h1, _ => exact absurd h1 (by decide)
    | i + 3, h1, _ => cases h1
  · rw [if_neg (by decide)] at H
    obtain ⟨i, h1, h3⟩ := lr_i H
    match i, h1, h3 with
    | 0, h1, _ => exact absurd h1 (by decide)
    | 1, _, h3 => exact ⟨h3, fun y => absurd (h3.symm.trans y) (by decide)⟩
    | 2, h1, _ => exact absurd h1 (by decide)
    | i + 3, h1, _ => cases h1
  · rw [if_neg (by decide)] at H
    obtain ⟨i, h1, h3⟩ := lr_i H
    match i, h1, h3 with
    | 0, h1, _ => exact absurd h1 (by decide)
    | 1, h1, _ => exact absurd h1 (by decide)
    | 2, _, h3 => exact ⟨h3, fun y => absurd (h3.symm.trans y) (by decide)⟩
    | i + 3, h1, _ => cases h1
theorem ta_e (S : mo_T) {M : mk_T} (H : Ic M) (i : Int32) : ta_c S M i = pm (pt_f M i) ∧ (pt_f M i = nI 0 → ls_v S M i.toNatClampNeg = (tk_res M i.toNatClampNeg).1 ∧ tk_can M i.toNatClampNeg) := by
  have h6 := H.1.2.1
  unfold ta_c pt_f
  by_cases a : hp_num i (mk_tr M)
  · obtain ⟨d, hd, rfl⟩ := hp_num_j a (by omega)
    rw [if_neg (c := ¬ hp_num (nI d) (mk_tr M)) (fun y => y a), if_neg (c := ¬ hp_num (nI d) (mk_tr M)) (fun y => y a), nI_clamp (by omega)]
    by_cases b : mk_ar M 4 d = nI 2
    · rw [if_pos (c := mk_ar M 4 d = nI 2) b, if_pos (c := mk_ar M 4 d = nI 2) b]
      exact ⟨by decide, fun y => absurd y (by decide)⟩
    · rw [if_neg (c := mk_ar M 4 d = nI 2) b, if_neg (c := mk_ar M 4 d = nI 2) b, ls_v_k H.1.1]
      obtain ⟨l1, l2⟩ := lk_v_can H hd
      by_cases c : tk_nd M d ≤ tk_bc (tk_sd M d)
      · rw [if_pos c, if_neg (l1 c).2]
        exact ⟨by decide, fun _ => ⟨(l1 c).1, c⟩⟩
      · rw [if_neg c, if_pos (l2 c).2]
        exact ⟨by decide, fun y => absurd y (by decide)⟩
  · rw [if_pos (c := ¬ hp_num i (mk_tr M)) a, if_pos (c := ¬ hp_num i (mk_tr M)) a]
    exact ⟨by decide, fun y => absurd y (by decide)⟩
theorem rk_m {M : mk_T} (H : Ic M) (a : Int32) : mo_rc (mo_rk M a (mk_tr M) 0) = mo_cd (¬ mk_rk M a (mk_tr M) 0 = -1) ∧ (¬ mk_rk M a (mk_tr M) 0 = -1 → mo_ra (mo_rk M a (mk_tr M) 0) = mk_rk M a (mk_tr M) 0) := by
  have h6 := H.1.2.1
  have e := rk_e M a (mk_tr M) 0
  have l := rk_lt M a (mk_tr M) 0
  cases R : mo_rk M a (mk_tr M) 0 with
  | none =>
    rw [R] at e
    have e : mk_rk M a (mk_tr M) 0 = -1 := e
    unfold mo_cd
    rw [e, if_neg (fun y => y rfl)]
    exact ⟨rfl, fun y => absurd rfl y⟩
  | some j =>
    rw [R] at e
    have e : mk_rk M a (mk_tr M) 0 = nI j := e
    have hj := l j R
    have hn : ¬ nI j = -1 := by
      have h9 : ∀ j, j < 6 → ¬ nI j = -1 := by decide
      exact h9 j (by omega)
    unfold mo_cd
    rw [e, if_pos hn]
    exact ⟨rfl, fun _ => rfl⟩
theorem to_x (S : mo_T) {M : mk_T} (H : Ic M) (i j : Int32) : (to_a M i j = .inr "java/lang/IndexOutOfBoundsException" ∧ to_c S M i j = nI 1) ∨ (to_a M i j = .inr "java/lang/IllegalStateException" ∧ to_c S M i j = nI 2) ∨ (to_a M i j = .inr "java/lang/UnsupportedOperationException" ∧ to_c S M i j = nI 3) ∨ (to_a M i j = .inr "java/util/NoSuchElementException" ∧ to_c S M i j = nI 4) ∨ ∃ v, to_a M i j = rI v ∧ to_c S M i j = nI 0 ∧ ls_k S M i.toNatClampNeg j.toNatClampNeg = v := by
  have h6 := H.1.2.1
  have h4 := H.1.1
  unfold to_a to_c pt_f
  by_cases b : hp_num j (mk_hz M)
  · obtain ⟨h, hh, rfl⟩ := hp_num_j b (by omega)
    rw [if_neg (fun y => y b)]
    by_cases a : hp_num i (mk_tr M)
    · obtain ⟨d, hd, rfl⟩ := hp_num_j a (by omega)
      rw [if_neg (c := ¬ hp_num (nI d) (mk_tr M)) (fun y => y a), if_neg (c := ¬ hp_num (nI d) (mk_tr M) ∨ ¬ hp_num (nI h) (mk_hz M)) (fun y => y.elim (fun z => z a) (fun z => z b)), nI_clamp (by omega), nI_clamp (by omega)]
      by_cases c : mk_ar M 4 d = nI 2
      · rw [if_pos c, if_pos c]
        exact Or.inr (Or.inl ⟨(if_pos (by decide)).trans rfl, rfl⟩)
      · rw [if_neg c, if_neg c, ls_v_k h4]
        obtain ⟨l1, l2⟩ := lk_v_can H hd
        by_cases e : tk_nd M d ≤ tk_bc (tk_sd M d)
        · rw [if_pos e, if_neg (l1 e).2, if_neg (by decide), ← po_e H]
          by_cases z : mk_po M (nI d) (nI h) = 0
          · rw [if_pos z, if_pos (by rw [on_e H hh]; exact if_pos z)]
            exact Or.inr (Or.inr (Or.inr (Or.inl ⟨rfl, rfl⟩)))
          · obtain ⟨x, g1, g2, g3⟩ := tkr H hd e hh z
            have hx : ¬ nI x = -1 := by
              have h9 : ∀ j, j < 6 → ¬ nI j = -1 := by decide
              have := g1.1
              exact h9 x (by omega)
            rw [if_neg z, g2, if_neg hx]
            refine Or.inr (Or.inr (Or.inr (Or.inr ⟨nI x, rfl, rfl, ?_⟩)))
            rw [ls_k_k h4 (l1 e).2 h hh]
            exact g3
        · rw [if_neg e, if_pos (l2 e).2]
          exact Or.inr (Or.inr (Or.inl ⟨(if_pos (by decide)).trans rfl, rfl⟩))
    · rw [if_pos (c := ¬ hp_num i (mk_tr M)) a, if_pos (c := ¬ hp_num i (mk_tr M) ∨ ¬ hp_num (nI h) (mk_hz M)) (Or.inl a)]
      exact Or.inl ⟨(if_pos (by decide)).trans rfl, rfl⟩
  · rw [if_pos b, if_pos (c := ¬ hp_num i (mk_tr M) ∨ ¬ hp_num j (mk_hz M)) (Or.inr b)]
    exact Or.inl ⟨rfl, rfl⟩
set_option maxHeartbeats 4000000 in
/-- case 29: leastMargins -/
theorem law_c29 {G : hp_G} {K : hp_C} {sc L : Nat} {xs : Nat → Int32} {x w i n bc bs : Nat} {h : Nat → Option va_E} (B : Lb G K sc L x w i n bc bs) (J : Jo G sc L xs x w h) (kk : Lk G K sc L xs x w i bc bs) : V G K (ML_law K) bc bs (n, h) 1764 [some (.ref sc), some (.ref x), some (.ref (x + 148)), some (.ref (x + 161)), some (.ref (x + 162)), some (.int (nI i)), none, none, none] [] := by
  obtain ⟨C, hl, hR, hx, hi, hL, hw, hn, hbc, hbs⟩ := B
  obtain ⟨M, B, Z, mk, nx, cnt, t, n0, lt, ln, hs, ma, fa, rk, S, KL, v, E, hS, D, P, Jm0, hv, hsc, ⟨f, hO⟩, ⟨f2, hD⟩⟩ := J
  have hbase := E.base
  have H := P.2.1.1
  refine v_aload_n C dL_law_1764 rfl ?_
  refine l_arg C (j := 1) (i := i) hsc (by omega) hL rfl rfl (by decide) dL_law_1765 dL_law_1766 dL_law_1768 dL_law_1769 dL_law_1770 ?_
  refine v_aload_n C dL_law_1771 rfl ?_
  refine l_call C (x := x) (L0 := x + 163) (bO := x + 161) (c_L_leastMargins hl (Nat.le_trans hbase (Nat.le_add_right _ _)) E.o (c_X7_leastMargins hl E hn (xs (i + 1))) (fun τ hF => (hF.2.2.2 _ (Or.inr ⟨by omega, by omega⟩)).trans hO) (qa_e (pt_hf M (xs (i + 1))))) (by omega) (by omega) hO (fun τ hF => ⟨_, hF⟩) dL_law_1772 mL_leastMargins wd4_196 rfl rfl (Nat.le_of_ble_eq_true rfl) (hR _ _ (by decide) (by decide)) (Nat.le_trans (by decide) hbc) (Nat.le_trans (by decide) hbs) (fun code f' n1 h1 E1 hn1 k1 k2 k3 k4 => ?_)
  obtain ⟨rk1, E1⟩ := E1
  refine v_istore C dL_law_1775 (Nat.le_of_ble_eq_true rfl) ?_
  show V G K _ _ _ (n1, h1) 1777 [some (.ref sc), some (.ref x), some (.ref (x + 148)), some (.ref (x + 161)), some (.ref (x + 162)), some (.int (nI i)), some (.int code), none, none] []
  have hS1 : Mo G h1 (x + 148) S := hS.same (fun a k5 k6 => k1 a (by omega) (by omega) (by omega))
  have hsc1 := (k2 sc hx).trans hsc
  have hD1 := (k1 (x + 162) (by omega) (by omega) (by omega)).trans hD
  refine v_aload_n C dL_law_1777 rfl ?_
  refine l_arg C (j := 1) (i := i) hsc1 (by omega) hL rfl rfl (by decide) dL_law_1778 dL_law_1779 dL_law_1781 dL_law_1782 dL_law_1783 ?_
  refine v_callVq C (c_X8_leastMargins hl hS1 D.1 (xs (i + 1))) dL_law_1784 mX8_leastMargins rfl hS1.o rfl wd8_72 rfl rfl (Nat.le_of_ble_eq_true rfl) (hR _ _ (by decide) (by decide)) (Nat.zero_le _) (Nat.zero_le _) (fun r n2 h2 q => ?_)
  obtain ⟨q1, q2, ⟨S2, q3, w6, t6⟩, q4⟩ := q
  obtain ⟨c1, c2⟩ := lr_e (pt_hf M (xs (i + 1))) k4
  obtain ⟨t1, t2⟩ := ta_e S H (xs (i + 1))
  have D2 := D.eq w6
  refine l_tailI C hl q3 ((q4 _ (by omega)).trans k3) ((t6.trans t1).trans c1.symm) (fun z => ?_) rfl rfl (hR 0 1 (by decide) (by decide)) dL_law_1787 dL_law_1789 dL_law_1790 dL_law_1793 dL_law_1795 dL_law_1800 dL_law_1802 dL_law_1805 dL_law_1806 dL_law_1807 dL_law_1808 dL_law_1810 dL_law_1811 dL_law_1812 dL_law_1817 (by decide) ?_
  · obtain ⟨z1, z2⟩ := c2 z
    rw [q1, if_pos (t1.trans (c1.symm.trans z)), (t2 z1).1]
    exact z2
  · exact v_widen (by omega) (by omega) (kk n2 h2 _ _ _ (by omega) (Jo.mk2 E1 q4 q3 D2 P Jm0 (by omega) hx hsc1 k3 hD1))
set_option maxHeartbeats 4000000 in
/-- case 30: leastMarginsBySets -/
theorem law_c30 {G : hp_G} {K : hp_C} {sc L : Nat} {xs : Nat → Int32} {x w i n bc bs : Nat} {h : Nat → Option va_E} (B : Lb G K sc L x w i n bc bs) (J : Jo G sc L xs x w h) (kk : Lk G K sc L xs x w i bc bs) : V G K (ML_law K) bc bs (n, h) 1820 [some (.ref sc), some (.ref x), some (.ref (x + 148)), some (.ref (x + 161)), some (.ref (x + 162)), some (.int (nI i)), none, none, none] [] := by
  obtain ⟨C, hl, hR, hx, hi, hL, hw, hn, hbc, hbs⟩ := B
  obtain ⟨M, B, Z, mk, nx, cnt, t, n0, lt, ln, hs, ma, fa, rk, S, KL, v, E, hS, D, P, Jm0, hv, hsc, ⟨f, hO⟩, ⟨f2, hD⟩⟩ := J
  have hbase := E.base
  have H := P.2.1.1
  refine v_aload_n C dL_law_1820 rfl ?_
  refine l_arg C (j := 1) (i := i) hsc (by omega) hL rfl rfl (by decide) dL_law_1821 dL_law_1822 dL_law_1824 dL_law_1825 dL_law_1826 ?_
  refine v_aload_n C dL_law_1827 rfl ?_
  refine l_call C (x := x) (L0 := x + 163) (bO := x + 161) (c_L_leastMarginsBySets hl (Nat.le_trans hbase (Nat.le_add_right _ _)) E.o (c_X7_leastMarginsBySets hl E hn (xs (i + 1))) (fun τ hF => (hF.2.2.2 _ (Or.inr ⟨by omega, by omega⟩)).trans hO) (qa_e (pt_hf M (xs (i + 1))))) (by omega) (by omega) hO (fun τ hF => ⟨_, hF⟩) dL_law_1828 mL_leastMarginsBySets wd4_203 rfl rfl (Nat.le_of_ble_eq_true rfl) (hR _ _ (by decide) (by decide)) (Nat.le_trans (by decide) hbc) (Nat.le_trans (by decide) hbs) (fun code f' n1 h1 E1 hn1 k1 k2 k3 k4 => ?_)
  obtain ⟨rk1, E1⟩ := E1
  refine v_istore C dL_law_1831 (Nat.le_of_ble_eq_true rfl) ?_
  show V G K _ _ _ (n1, h1) 1833 [some (.ref sc), some (.ref x), some (.ref (x + 148)), some (.ref (x + 161)), some (.ref (x + 162)), some (.int (nI i)), some (.int code), none, none] []
  have hS1 : Mo G h1 (x + 148) S := hS.same (fun a k5 k6 => k1 a (by omega) (by omega) (by omega))
  have hsc1 := (k2 sc hx).trans hsc
  have hD1 := (k1 (x + 162) (by omega) (by omega) (by omega)).trans hD
  refine v_aload_n C dL_law_1833 rfl ?_
  refine l_arg C (j := 1) (i := i) hsc1 (by omega) hL rfl rfl (by decide) dL_law_1834 dL_law_1835 dL_law_1837 dL_law_1838 dL_law_1839 ?_
  refine v_callVq C (c_X8_leastMarginsBySets hl hS1 D.1 (xs (i + 1))) dL_law_1840 mX8_leastMarginsBySets rfl hS1.o rfl wd8_80 rfl rfl (Nat.le_of_ble_eq_true rfl) (hR _ _ (by decide) (by decide)) (Nat.zero_le _) (Nat.zero_le _) (fun r n2 h2 q => ?_)
  obtain ⟨q1, q2, ⟨S2, q3, w6, t6⟩, q4⟩ := q
  obtain ⟨c1, c2⟩ := lr_e (pt_hf M (xs (i + 1))) k4
  obtain ⟨t1, t2⟩ := ta_e S H (xs (i + 1))
  have D2 := D.eq w6
  refine l_tailI C hl q3 ((q4 _ (by omega)).trans k3) ((t6.trans t1).trans c1.symm) (fun z => ?_) rfl rfl (hR 0 1 (by decide) (by decide)) dL_law_1843 dL_law_1845 dL_law_1846 dL_law_1849 dL_law_1851 dL_law_1856 dL_law_1858 dL_law_1861 dL_law_1862 dL_law_1863 dL_law_1864 dL_law_1866 dL_law_1867 dL_law_1868 dL_law_1873 (by decide) ?_
  · obtain ⟨z1, z2⟩ := c2 z
    rw [q1, if_pos (t1.trans (c1.symm.trans z)), (t2 z1).1, ← rs_res H (t2 z1).2]
    exact z2
  · exact v_widen (by omega) (by omega) (kk n2 h2 _ _ _ (by omega) (Jo.mk2 E1 q4 q3 D2 P Jm0 (by omega) hx hsc1 k3 hD1))
set_option maxHeartbeats 4000000 in
/-- case 32: traderByMoney -/
theorem law_c32 {G : hp_G} {K : hp_C} {sc L : Nat} {xs : Nat → Int32} {x w i n bc bs : Nat} {h : Nat → Option va_E} (B : Lb G K sc L x w i n bc bs) (J : Jo G sc L xs x w h) (kk : Lk G K sc L xs x w i bc bs) : V G K (ML_law K) bc bs (n, h) 1944 [some (.ref sc), some (.ref x), some (.ref (x + 148)), some (.ref (x + 161)), some (.ref (x + 162)), some (.int (nI i)), none, none, none] [] := by
  obtain ⟨C, hl, hR, hx, hi, hL, hw, hn, hbc, hbs⟩ := B
  obtain ⟨M, B, Z, mk, nx, cnt, t, n0, lt, ln, hs, ma, fa, rk, S, KL, v, E, hS, D, P, Jm0, hv, hsc, ⟨f, hO⟩, ⟨f2, hD⟩⟩ := J
  have hbase := E.base
  have H := P.2.1.1
  refine v_aload_n C dL_law_1944 rfl ?_
  refine l_arg C (j := 1) (i := i) hsc (by omega) hL rfl rfl (by decide) dL_law_1945 dL_law_1946 dL_law_1948 dL_law_1949 dL_law_1950 ?_
  refine v_aload_n C dL_law_1951 rfl ?_
  refine l_call C (x := x) (L0 := x + 163) (bO := x + 161) (c_L_traderByMoney hl (Nat.le_trans hbase (Nat.le_add_right _ _)) E.o (c_X7_traderByMoney hl E hn (xs (i + 1))) (fun τ hF => (hF.2.2.2 _ (Or.inr ⟨by omega, by omega⟩)).trans hO) qa_o) (by omega) (by omega) hO (fun τ hF => ⟨_, hF⟩) dL_law_1952 mL_traderByMoney wd4_234 rfl rfl (Nat.le_of_ble_eq_true rfl) (hR _ _ (by decide) (by decide)) (Nat.le_trans (by decide) hbc) (Nat.le_trans (by decide) hbs) (fun code f' n1 h1 E1 hn1 k1 k2 k3 k4 => ?_)
  obtain ⟨rk1, E1⟩ := E1
  refine v_istore C dL_law_1955 (Nat.le_of_ble_eq_true rfl) ?_
  show V G K _ _ _ (n1, h1) 1957 [some (.ref sc), some (.ref x), some (.ref (x + 148)), some (.ref (x + 161)), some (.ref (x + 162)), some (.int (nI i)), some (.int code), none, none] []
  have hS1 : Mo G h1 (x + 148) S := hS.same (fun a k5 k6 => k1 a (by omega) (by omega) (by omega))
  have hsc1 := (k2 sc hx).trans hsc
  have hD1 := (k1 (x + 162) (by omega) (by omega) (by omega)).trans hD
  refine v_aload_n C dL_law_1957 rfl ?_
  refine l_arg C (j := 1) (i := i) hsc1 (by omega) hL rfl rfl (by decide) dL_law_1958 dL_law_1959 dL_law_1961 dL_law_1962 dL_law_1963 ?_
  refine v_callVq C (c_X8_traderByMoney hl hS1 D.1 (xs (i + 1))) dL_law_1964 mX8_traderByMoney rfl hS1.o rfl wd8_88 rfl rfl (Nat.le_of_ble_eq_true rfl) (hR _ _ (by decide) (by decide)) (Nat.zero_le _) (Nat.zero_le _) (fun r n2 h2 q => ?_)
  obtain ⟨q1, q2, q3, q4⟩ := q
  obtain ⟨c1, c2⟩ := lr_g k4
  obtain ⟨t1, t2⟩ := rk_m H (xs (i + 1))
  obtain ⟨D2, e3⟩ := D.s3 (mo_rc (mo_rk M (xs (i + 1)) (mk_tr M) 0))
  refine l_tailI C hl q3 ((q4 _ (by omega)).trans k3) ((e3.trans t1).trans c1.symm) (fun z => ?_) rfl rfl (hR 0 1 (by decide) (by decide)) dL_law_1967 dL_law_1969 dL_law_1970 dL_law_1973 dL_law_1975 dL_law_1980 dL_law_1982 dL_law_1985 dL_law_1986 dL_law_1987 dL_law_1988 dL_law_1990 dL_law_1991 dL_law_1992 dL_law_1997 (by decide) ?_
  · obtain ⟨z1, z2⟩ := c2 z
    rw [q1, t2 z1]
    exact z2
  · exact v_widen (by omega) (by omega) (kk n2 h2 _ _ _ (by omega) (Jo.mk2 E1 q4 q3 D2 P Jm0 (by omega) hx hsc1 k3 hD1))
set_option maxHeartbeats 4000000 in
/-- case 31: takerOf -/
theorem law_c31 {G : hp_G} {K : hp_C} {sc L : Nat} {xs : Nat → Int32} {x w i n bc bs : Nat} {h : Nat → Option va_E} (B : Lb G K sc L x w i n bc bs) (J : Jo G sc L xs x w h) (kk : Lk G K sc L xs x w i bc bs) : V G K (ML_law K) bc bs (n, h) 1876 [some (.ref sc), some (.ref x), some (.ref (x + 148)), some (.ref (x + 161)), some (.ref (x + 162)), some (.int (nI i)), none, none, none] [] := by
  obtain ⟨C, hl, hR, hx, hi, hL, hw, hn, hbc, hbs⟩ := B
  obtain ⟨M, B, Z, mk, nx, cnt, t, n0, lt, ln, hs, ma, fa, rk, S, KL, v, E, hS, D, P, Jm0, hv, hsc, ⟨f, hO⟩, ⟨f2, hD⟩⟩ := J
  have hbase := E.base
  have H := P.2.1.1
  refine v_aload_n C dL_law_1876 rfl ?_
  refine l_arg C (j := 1) (i := i) hsc (by omega) hL rfl rfl (by decide) dL_law_1877 dL_law_1878 dL_law_1880 dL_law_1881 dL_law_1882 ?_
  refine l_arg C (j := 2) (i := i) hsc (by omega) hL rfl rfl (by decide) dL_law_1883 dL_law_1884 dL_law_1886 dL_law_1887 dL_law_1888 ?_
  refine v_aload_n C dL_law_1889 rfl ?_
  have hA : (∃ r, to_a M (xs (i + 1)) (xs (i + 2)) = rI r) ∨ to_a M (xs (i + 1)) (xs (i + 2)) = .inr "java/lang/IndexOutOfBoundsException" ∨ to_a M (xs (i + 1)) (xs (i + 2)) = .inr "java/lang/IllegalStateException" ∨ to_a M (xs (i + 1)) (xs (i + 2)) = .inr "java/lang/UnsupportedOperationException" ∨ to_a M (xs (i + 1)) (xs (i + 2)) = .inr "java/util/NoSuchElementException" := by
    rcases to_x S H (xs (i + 1)) (xs (i + 2)) with z | z | z | z | ⟨v, z, -⟩
    · exact Or.inr (Or.inl z.1)
    · exact Or.inr (Or.inr (Or.inl z.1))
    · exact Or.inr (Or.inr (Or.inr (Or.inl z.1)))
    · exact Or.inr (Or.inr (Or.inr (Or.inr z.1)))
    · exact Or.inl ⟨v, z⟩
  refine l_call C (x := x) (L0 := x + 163) (bO := x + 161) (c_L_takerOf hl (Nat.le_trans hbase (Nat.le_add_right _ _)) E.o (c_X7_takerOf hl E hn (fun d hd hc => good_all H hd hc) (xs (i + 1)) (xs (i + 2))) (fun τ hF => (hF.2.2.2 _ (Or.inr ⟨by omega, by omega⟩)).trans hO) hA) (by omega) (by omega) hO (fun τ hF => ⟨_, hF⟩) dL_law_1890 mL_takerOf wd4_210 rfl rfl (Nat.le_of_ble_eq_true rfl) (hR _ _ (by decide) (by decide)) (Nat.le_trans (by decide) hbc) (Nat.le_trans (by decide) hbs) (fun code f' n1 h1 E1 hn1 k1 k2 k3 k4 => ?_)
  obtain ⟨rk1, E1⟩ := E1
  refine v_istore C dL_law_1893 (Nat.le_of_ble_eq_true rfl) ?_
  show V G K _ _ _ (n1, h1) 1895 [some (.ref sc), some (.ref x), some (.ref (x + 148)), some (.ref (x + 161)), some (.ref (x + 162)), some (.int (nI i)), some (.int code), none, none] []
  have hS1 : Mo G h1 (x + 148) S := hS.same (fun a k5 k6 => k1 a (by omega) (by omega) (by omega))
  have hsc1 := (k2 sc hx).trans hsc
  have hD1 := (k1 (x + 162) (by omega) (by omega) (by omega)).trans hD
  refine v_aload_n C dL_law_1895 rfl ?_
  refine l_arg C (j := 1) (i := i) hsc1 (by omega) hL rfl rfl (by decide) dL_law_1896 dL_law_1897 dL_law_1899 dL_law_1900 dL_law_1901 ?_
  refine l_arg C (j := 2) (i := i) hsc1 (by omega) hL rfl rfl (by decide) dL_law_1902 dL_law_1903 dL_law_1905 dL_law_1906 dL_law_1907 ?_
  refine v_callVq C (c_X8_takerOf hl hS1 D.1 (xs (i + 1)) (xs (i + 2))) dL_law_1908 mX8_takerOf rfl hS1.o rfl wd8_84 rfl rfl (Nat.le_of_ble_eq_true rfl) (hR _ _ (by decide) (by decide)) (Nat.zero_le _) (Nat.zero_le _) (fun r n2 h2 q => ?_)
  obtain ⟨q1, q2, ⟨S2, q3, w6, t6⟩, q4⟩ := q
  have D2 := D.eq w6
  have cc : S2.2 3 = code ∧ (code = nI 0 → f' 0 = r.toInt64) := by
    rw [t6, q1]
    rcases to_x S H (xs (i + 1)) (xs (i + 2)) with z | z | z | z | ⟨v, z1, z2, z3⟩
    · rw [z.1] at k4
      obtain ⟨i9, h1, h3⟩ := lr_i k4
      rw [z.2]
      match i9, h1, h3 with
      | 0, _, h3 => exact ⟨h3.symm, fun y => absurd (h3.symm.trans y) (by decide)⟩
      | 1, h1, _ => exact absurd h1 (by decide)
      | 2, h1, _ => exact absurd h1 (by decide)
      | 3, h1, _ => exact absurd h1 (by decide)
      | i9 + 4, h1, _ => cases h1
    · rw [z.1] at k4
      obtain ⟨i9, h1, h3⟩ := lr_i k4
      rw [z.2]
      match i9, h1, h3 with
      | 0, h1, _ => exact absurd h1 (by decide)
      | 1, _, h3 => exact ⟨h3.symm, fun y => absurd (h3.symm.trans y) (by decide)⟩
      | 2, h1, _ => exact absurd h1 (by decide)
      | 3, h1, _ => exact absurd h1 (by decide)
      | i9 + 4, h1, _ => cases h1
    · rw [z.1] at k4
      obtain ⟨i9, h1, h3⟩ := lr_i k4
      rw [z.2]
      match i9, h1, h3 with
      | 0, h1, _ => exact absurd h1 (by decide)
      | 1, h1, _ => exact absurd h1 (by decide)
      | 2, _, h3 => exact ⟨h3.symm, fun y => absurd (h3.symm.trans y) (by decide)⟩
      | 3, h1, _ => exact absurd h1 (by decide)
      | i9 + 4, h1, _ => cases h1
    · rw [z.1] at k4
      obtain ⟨i9, h1, h3⟩ := lr_i k4
      rw [z.2]
      match i9, h1, h3 with
      | 0, h1, _ => exact absurd h1 (by decide)
      | 1, h1, _ => exact absurd h1 (by decide)
      | 2, h1, _ => exact absurd h1 (by decide)
      | 3, _, h3 => exact ⟨h3.symm, fun y => absurd (h3.symm.trans y) (by decide)⟩
      | i9 + 4, h1, _ => cases h1
    · rw [z1] at k4
      obtain ⟨h1, h2⟩ := lr_v k4
      rw [z2, if_pos rfl, z3]
      exact ⟨h1.symm, fun _ => h2⟩
  refine l_tailI C hl q3 ((q4 _ (by omega)).trans k3) cc.1 (fun z => ?_) rfl rfl (hR 0 1 (by decide) (by decide)) dL_law_1911 dL_law_1913 dL_law_1914 dL_law_1917 dL_law_1919 dL_law_1924 dL_law_1926 dL_law_1929 dL_law_1930 dL_law_1931 dL_law_1932 dL_law_1934 dL_law_1935 dL_law_1936 dL_law_1941 (by decide) ?_
  · exact cc.2 z
  · exact v_widen (by omega) (by omega) (kk n2 h2 _ _ _ (by omega) (Jo.mk2 E1 q4 q3 D2 P Jm0 (by omega) hx hsc1 k3 hD1))

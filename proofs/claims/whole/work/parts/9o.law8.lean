/-! ===== THE LAW: questions of one exception ===== -/
set_option maxHeartbeats 4000000 in
/-- case 9: priceOf -/
theorem law_c9 {G : hp_G} {K : hp_C} {sc L : Nat} {xs : Nat → Int32} {x w i n bc bs : Nat} {h : Nat → Option va_E} (B : Lb G K sc L x w i n bc bs) (J : Jo G sc L xs x w h) (kk : Lk G K sc L xs x w i bc bs) : V G K (ML_law K) bc bs (n, h) 790 [some (.ref sc), some (.ref x), some (.ref (x + 148)), some (.ref (x + 161)), some (.ref (x + 162)), some (.int (nI i)), none, none, none] [] := by
  obtain ⟨C, hl, hR, hx, hi, hL, hw, hn, hbc, hbs⟩ := B
  obtain ⟨M, B, Z, mk, nx, cnt, t, n0, lt, ln, hs, ma, fa, rk, S, KL, v, E, hS, D, P, Jm0, hv, hsc, ⟨f, hO⟩, ⟨f2, hD⟩⟩ := J
  have hbase := E.base
  have H := P.2.1.1
  refine v_aload_n C dL_law_790 rfl ?_
  refine l_arg C (j := 1) (i := i) hsc (by omega) hL rfl rfl (by decide) dL_law_791 dL_law_792 dL_law_794 dL_law_795 dL_law_796 ?_
  refine v_aload_n C dL_law_797 rfl ?_
  refine l_call C (x := x) (L0 := x + 163) (bO := x + 161) (c_L_priceOf hl (Nat.le_trans hbase (Nat.le_add_right _ _)) E.o (c_X7_priceOf hl E hn (xs (i + 1))) (fun τ hF => (hF.2.2.2 _ (Or.inr ⟨by omega, by omega⟩)).trans hO) qa_o) (by omega) (by omega) hO (fun τ hF => ⟨_, hF⟩) dL_law_798 mL_priceOf wd4_75 rfl rfl (Nat.le_of_ble_eq_true rfl) (hR _ _ (by decide) (by decide)) (Nat.le_trans (by decide) hbc) (Nat.le_trans (by decide) hbs) (fun code f' n1 h1 E1 hn1 k1 k2 k3 k4 => ?_)
  obtain ⟨rk1, E1⟩ := E1
  refine v_istore C dL_law_801 (Nat.le_of_ble_eq_true rfl) ?_
  show V G K _ _ _ (n1, h1) 803 [some (.ref sc), some (.ref x), some (.ref (x + 148)), some (.ref (x + 161)), some (.ref (x + 162)), some (.int (nI i)), some (.int code), none, none] []
  have hS1 : Mo G h1 (x + 148) S := hS.same (fun a k5 k6 => k1 a (by omega) (by omega) (by omega))
  have hsc1 := (k2 sc hx).trans hsc
  have hD1 := (k1 (x + 162) (by omega) (by omega) (by omega)).trans hD
  refine v_aload_n C dL_law_803 rfl ?_
  refine l_arg C (j := 1) (i := i) hsc1 (by omega) hL rfl rfl (by decide) dL_law_804 dL_law_805 dL_law_807 dL_law_808 dL_law_809 ?_
  refine v_callVq C (c_X8_priceOf hl hS1 D.1 (xs (i + 1))) dL_law_810 mX8_priceOf rfl hS1.o rfl wd7_212 rfl rfl (Nat.le_of_ble_eq_true rfl) (hR _ _ (by decide) (by decide)) (Nat.zero_le _) (Nat.zero_le _) (fun r n2 h2 q => ?_)
  obtain ⟨q1, q2, q3, q4⟩ := q
  obtain ⟨c1, c2⟩ := lr_g k4
  obtain ⟨D2, e3⟩ := D.s3 (mo_cd (hp_num (xs (i + 1)) (mk_hz M)))
  refine l_tailI C hl q3 ((q4 _ (by omega)).trans k3) (e3.trans c1.symm) (fun z => ?_) rfl rfl (hR 0 1 (by decide) (by decide)) dL_law_813 dL_law_815 dL_law_816 dL_law_819 dL_law_821 dL_law_826 dL_law_828 dL_law_831 dL_law_832 dL_law_833 dL_law_834 dL_law_836 dL_law_837 dL_law_838 dL_law_843 (by decide) ?_
  · obtain ⟨z1, z2⟩ := c2 z
    rw [q1, if_pos z1]
    exact z2
  · exact v_widen (by omega) (by omega) (kk n2 h2 _ _ _ (by omega) (Jo.mk2 E1 q4 q3 D2 P Jm0 (by omega) hx hsc1 k3 hD1))
set_option maxHeartbeats 4000000 in
/-- case 10: quoteOf -/
theorem law_c10 {G : hp_G} {K : hp_C} {sc L : Nat} {xs : Nat → Int32} {x w i n bc bs : Nat} {h : Nat → Option va_E} (B : Lb G K sc L x w i n bc bs) (J : Jo G sc L xs x w h) (kk : Lk G K sc L xs x w i bc bs) : V G K (ML_law K) bc bs (n, h) 846 [some (.ref sc), some (.ref x), some (.ref (x + 148)), some (.ref (x + 161)), some (.ref (x + 162)), some (.int (nI i)), none, none, none] [] := by
  obtain ⟨C, hl, hR, hx, hi, hL, hw, hn, hbc, hbs⟩ := B
  obtain ⟨M, B, Z, mk, nx, cnt, t, n0, lt, ln, hs, ma, fa, rk, S, KL, v, E, hS, D, P, Jm0, hv, hsc, ⟨f, hO⟩, ⟨f2, hD⟩⟩ := J
  have hbase := E.base
  have H := P.2.1.1
  refine v_aload_n C dL_law_846 rfl ?_
  refine l_arg C (j := 1) (i := i) hsc (by omega) hL rfl rfl (by decide) dL_law_847 dL_law_848 dL_law_850 dL_law_851 dL_law_852 ?_
  refine v_aload_n C dL_law_853 rfl ?_
  refine l_call C (x := x) (L0 := x + 163) (bO := x + 161) (c_L_quoteOf hl (Nat.le_trans hbase (Nat.le_add_right _ _)) E.o (c_X7_quoteOf hl E hn (xs (i + 1))) (fun τ hF => (hF.2.2.2 _ (Or.inr ⟨by omega, by omega⟩)).trans hO) qa_o) (by omega) (by omega) hO (fun τ hF => ⟨_, hF⟩) dL_law_854 mL_quoteOf wd4_85 rfl rfl (Nat.le_of_ble_eq_true rfl) (hR _ _ (by decide) (by decide)) (Nat.le_trans (by decide) hbc) (Nat.le_trans (by decide) hbs) (fun code f' n1 h1 E1 hn1 k1 k2 k3 k4 => ?_)
  obtain ⟨rk1, E1⟩ := E1
  refine v_istore C dL_law_857 (Nat.le_of_ble_eq_true rfl) ?_
  show V G K _ _ _ (n1, h1) 859 [some (.ref sc), some (.ref x), some (.ref (x + 148)), some (.ref (x + 161)), some (.ref (x + 162)), some (.int (nI i)), some (.int code), none, none] []
  have hS1 : Mo G h1 (x + 148) S := hS.same (fun a k5 k6 => k1 a (by omega) (by omega) (by omega))
  have hsc1 := (k2 sc hx).trans hsc
  have hD1 := (k1 (x + 162) (by omega) (by omega) (by omega)).trans hD
  refine v_aload_n C dL_law_859 rfl ?_
  refine l_arg C (j := 1) (i := i) hsc1 (by omega) hL rfl rfl (by decide) dL_law_860 dL_law_861 dL_law_863 dL_law_864 dL_law_865 ?_
  refine v_callVq C (c_X8_quoteOf hl hS1 D.1 (xs (i + 1))) dL_law_866 mX8_quoteOf rfl hS1.o rfl wd7_220 rfl rfl (Nat.le_of_ble_eq_true rfl) (hR _ _ (by decide) (by decide)) (Nat.zero_le _) (Nat.zero_le _) (fun r n2 h2 q => ?_)
  obtain ⟨q1, q2, q3, q4⟩ := q
  obtain ⟨c1, c2⟩ := lr_g k4
  obtain ⟨D2, e3⟩ := D.s3 (mo_cd (hp_num (xs (i + 1)) (mk_hz M)))
  refine l_tailI C hl q3 ((q4 _ (by omega)).trans k3) (e3.trans c1.symm) (fun z => ?_) rfl rfl (hR 0 1 (by decide) (by decide)) dL_law_869 dL_law_871 dL_law_872 dL_law_875 dL_law_877 dL_law_882 dL_law_884 dL_law_887 dL_law_888 dL_law_889 dL_law_890 dL_law_892 dL_law_893 dL_law_894 dL_law_899 (by decide) ?_
  · obtain ⟨z1, z2⟩ := c2 z
    rw [q1, if_pos z1]
    exact z2
  · exact v_widen (by omega) (by omega) (kk n2 h2 _ _ _ (by omega) (Jo.mk2 E1 q4 q3 D2 P Jm0 (by omega) hx hsc1 k3 hD1))
set_option maxHeartbeats 4000000 in
/-- case 11: rangeOf -/
theorem law_c11 {G : hp_G} {K : hp_C} {sc L : Nat} {xs : Nat → Int32} {x w i n bc bs : Nat} {h : Nat → Option va_E} (B : Lb G K sc L x w i n bc bs) (J : Jo G sc L xs x w h) (kk : Lk G K sc L xs x w i bc bs) : V G K (ML_law K) bc bs (n, h) 902 [some (.ref sc), some (.ref x), some (.ref (x + 148)), some (.ref (x + 161)), some (.ref (x + 162)), some (.int (nI i)), none, none, none] [] := by
  obtain ⟨C, hl, hR, hx, hi, hL, hw, hn, hbc, hbs⟩ := B
  obtain ⟨M, B, Z, mk, nx, cnt, t, n0, lt, ln, hs, ma, fa, rk, S, KL, v, E, hS, D, P, Jm0, hv, hsc, ⟨f, hO⟩, ⟨f2, hD⟩⟩ := J
  have hbase := E.base
  have H := P.2.1.1
  refine v_aload_n C dL_law_902 rfl ?_
  refine l_arg C (j := 1) (i := i) hsc (by omega) hL rfl rfl (by decide) dL_law_903 dL_law_904 dL_law_906 dL_law_907 dL_law_908 ?_
  refine v_aload_n C dL_law_909 rfl ?_
  refine l_call C (x := x) (L0 := x + 163) (bO := x + 161) (c_L_rangeOf hl (Nat.le_trans hbase (Nat.le_add_right _ _)) E.o (c_X7_rangeOf hl E hn (xs (i + 1))) (fun τ hF => (hF.2.2.2 _ (Or.inr ⟨by omega, by omega⟩)).trans hO) qa_o) (by omega) (by omega) hO (fun τ hF => ⟨_, hF⟩) dL_law_910 mL_rangeOf wd4_92 rfl rfl (Nat.le_of_ble_eq_true rfl) (hR _ _ (by decide) (by decide)) (Nat.le_trans (by decide) hbc) (Nat.le_trans (by decide) hbs) (fun code f' n1 h1 E1 hn1 k1 k2 k3 k4 => ?_)
  obtain ⟨rk1, E1⟩ := E1
  refine v_istore C dL_law_913 (Nat.le_of_ble_eq_true rfl) ?_
  show V G K _ _ _ (n1, h1) 915 [some (.ref sc), some (.ref x), some (.ref (x + 148)), some (.ref (x + 161)), some (.ref (x + 162)), some (.int (nI i)), some (.int code), none, none] []
  have hS1 : Mo G h1 (x + 148) S := hS.same (fun a k5 k6 => k1 a (by omega) (by omega) (by omega))
  have hsc1 := (k2 sc hx).trans hsc
  have hD1 := (k1 (x + 162) (by omega) (by omega) (by omega)).trans hD
  refine v_aload_n C dL_law_915 rfl ?_
  refine l_arg C (j := 1) (i := i) hsc1 (by omega) hL rfl rfl (by decide) dL_law_916 dL_law_917 dL_law_919 dL_law_920 dL_law_921 ?_
  refine v_callVq C (c_X8_rangeOf hl hS1 D.1 (xs (i + 1))) dL_law_922 mX8_rangeOf rfl hS1.o rfl wd7_224 rfl rfl (Nat.le_of_ble_eq_true rfl) (hR _ _ (by decide) (by decide)) (Nat.zero_le _) (Nat.zero_le _) (fun r n2 h2 q => ?_)
  obtain ⟨q1, q2, q3, q4⟩ := q
  obtain ⟨c1, c2⟩ := lr_g k4
  obtain ⟨D2, e3⟩ := D.s3 (mo_cd (hp_num (xs (i + 1)) (mk_hz M)))
  refine l_tailI C hl q3 ((q4 _ (by omega)).trans k3) (e3.trans c1.symm) (fun z => ?_) rfl rfl (hR 0 1 (by decide) (by decide)) dL_law_925 dL_law_927 dL_law_928 dL_law_931 dL_law_933 dL_law_938 dL_law_940 dL_law_943 dL_law_944 dL_law_945 dL_law_946 dL_law_948 dL_law_949 dL_law_950 dL_law_955 (by decide) ?_
  · obtain ⟨z1, z2⟩ := c2 z
    rw [q1, if_pos z1]
    exact z2
  · exact v_widen (by omega) (by omega) (kk n2 h2 _ _ _ (by omega) (Jo.mk2 E1 q4 q3 D2 P Jm0 (by omega) hx hsc1 k3 hD1))
set_option maxHeartbeats 4000000 in
/-- case 13: moneyOf -/
theorem law_c13 {G : hp_G} {K : hp_C} {sc L : Nat} {xs : Nat → Int32} {x w i n bc bs : Nat} {h : Nat → Option va_E} (B : Lb G K sc L x w i n bc bs) (J : Jo G sc L xs x w h) (kk : Lk G K sc L xs x w i bc bs) : V G K (ML_law K) bc bs (n, h) 971 [some (.ref sc), some (.ref x), some (.ref (x + 148)), some (.ref (x + 161)), some (.ref (x + 162)), some (.int (nI i)), none, none, none] [] := by
  obtain ⟨C, hl, hR, hx, hi, hL, hw, hn, hbc, hbs⟩ := B
  obtain ⟨M, B, Z, mk, nx, cnt, t, n0, lt, ln, hs, ma, fa, rk, S, KL, v, E, hS, D, P, Jm0, hv, hsc, ⟨f, hO⟩, ⟨f2, hD⟩⟩ := J
  have hbase := E.base
  have H := P.2.1.1
  refine v_aload_n C dL_law_971 rfl ?_
  refine l_arg C (j := 1) (i := i) hsc (by omega) hL rfl rfl (by decide) dL_law_972 dL_law_973 dL_law_975 dL_law_976 dL_law_977 ?_
  refine v_aload_n C dL_law_978 rfl ?_
  refine l_call C (x := x) (L0 := x + 163) (bO := x + 161) (c_L_moneyOf hl (Nat.le_trans hbase (Nat.le_add_right _ _)) E.o (c_X7_moneyOf hl E hn (xs (i + 1))) (fun τ hF => (hF.2.2.2 _ (Or.inr ⟨by omega, by omega⟩)).trans hO) qa_o) (by omega) (by omega) hO (fun τ hF => ⟨_, hF⟩) dL_law_979 mL_moneyOf wd4_99 rfl rfl (Nat.le_of_ble_eq_true rfl) (hR _ _ (by decide) (by decide)) (Nat.le_trans (by decide) hbc) (Nat.le_trans (by decide) hbs) (fun code f' n1 h1 E1 hn1 k1 k2 k3 k4 => ?_)
  obtain ⟨rk1, E1⟩ := E1
  refine v_istore C dL_law_982 (Nat.le_of_ble_eq_true rfl) ?_
  show V G K _ _ _ (n1, h1) 984 [some (.ref sc), some (.ref x), some (.ref (x + 148)), some (.ref (x + 161)), some (.ref (x + 162)), some (.int (nI i)), some (.int code), none, none] []
  have hS1 : Mo G h1 (x + 148) S := hS.same (fun a k5 k6 => k1 a (by omega) (by omega) (by omega))
  have hsc1 := (k2 sc hx).trans hsc
  have hD1 := (k1 (x + 162) (by omega) (by omega) (by omega)).trans hD
  refine v_aload_n C dL_law_984 rfl ?_
  refine l_arg C (j := 1) (i := i) hsc1 (by omega) hL rfl rfl (by decide) dL_law_985 dL_law_986 dL_law_988 dL_law_989 dL_law_990 ?_
  refine v_callVq C (c_X8_moneyOf hl hS1 D.1 (xs (i + 1))) dL_law_991 mX8_moneyOf rfl hS1.o rfl wd7_232 rfl rfl (Nat.le_of_ble_eq_true rfl) (hR _ _ (by decide) (by decide)) (Nat.zero_le _) (Nat.zero_le _) (fun r n2 h2 q => ?_)
  obtain ⟨q1, q2, q3, q4⟩ := q
  obtain ⟨c1, c2⟩ := lr_g k4
  obtain ⟨D2, e3⟩ := D.s3 (mo_cd (hp_num (xs (i + 1)) (mk_tr M)))
  refine l_tailI C hl q3 ((q4 _ (by omega)).trans k3) (e3.trans c1.symm) (fun z => ?_) rfl rfl (hR 0 1 (by decide) (by decide)) dL_law_994 dL_law_996 dL_law_997 dL_law_1000 dL_law_1002 dL_law_1007 dL_law_1009 dL_law_1012 dL_law_1013 dL_law_1014 dL_law_1015 dL_law_1017 dL_law_1018 dL_law_1019 dL_law_1024 (by decide) ?_
  · obtain ⟨z1, z2⟩ := c2 z
    rw [q1, if_pos z1]
    exact z2
  · exact v_widen (by omega) (by omega) (kk n2 h2 _ _ _ (by omega) (Jo.mk2 E1 q4 q3 D2 P Jm0 (by omega) hx hsc1 k3 hD1))
set_option maxHeartbeats 4000000 in
/-- case 17: openQuantity -/
theorem law_c17 {G : hp_G} {K : hp_C} {sc L : Nat} {xs : Nat → Int32} {x w i n bc bs : Nat} {h : Nat → Option va_E} (B : Lb G K sc L x w i n bc bs) (J : Jo G sc L xs x w h) (kk : Lk G K sc L xs x w i bc bs) : V G K (ML_law K) bc bs (n, h) 1221 [some (.ref sc), some (.ref x), some (.ref (x + 148)), some (.ref (x + 161)), some (.ref (x + 162)), some (.int (nI i)), none, none, none] [] := by
  obtain ⟨C, hl, hR, hx, hi, hL, hw, hn, hbc, hbs⟩ := B
  obtain ⟨M, B, Z, mk, nx, cnt, t, n0, lt, ln, hs, ma, fa, rk, S, KL, v, E, hS, D, P, Jm0, hv, hsc, ⟨f, hO⟩, ⟨f2, hD⟩⟩ := J
  have hbase := E.base
  have H := P.2.1.1
  refine v_aload_n C dL_law_1221 rfl ?_
  refine l_arg C (j := 1) (i := i) hsc (by omega) hL rfl rfl (by decide) dL_law_1222 dL_law_1223 dL_law_1225 dL_law_1226 dL_law_1227 ?_
  refine v_aload_n C dL_law_1228 rfl ?_
  refine l_call C (x := x) (L0 := x + 163) (bO := x + 161) (c_L_openQuantity hl (Nat.le_trans hbase (Nat.le_add_right _ _)) E.o (c_X7_openQuantity hl E hn (xs (i + 1))) (fun τ hF => (hF.2.2.2 _ (Or.inr ⟨by omega, by omega⟩)).trans hO) qa_o) (by omega) (by omega) hO (fun τ hF => ⟨_, hF⟩) dL_law_1229 mL_openQuantity wd4_128 rfl rfl (Nat.le_of_ble_eq_true rfl) (hR _ _ (by decide) (by decide)) (Nat.le_trans (by decide) hbc) (Nat.le_trans (by decide) hbs) (fun code f' n1 h1 E1 hn1 k1 k2 k3 k4 => ?_)
  obtain ⟨rk1, E1⟩ := E1
  refine v_istore C dL_law_1232 (Nat.le_of_ble_eq_true rfl) ?_
  show V G K _ _ _ (n1, h1) 1234 [some (.ref sc), some (.ref x), some (.ref (x + 148)), some (.ref (x + 161)), some (.ref (x + 162)), some (.int (nI i)), some (.int code), none, none] []
  have hS1 : Mo G h1 (x + 148) S := hS.same (fun a k5 k6 => k1 a (by omega) (by omega) (by omega))
  have hsc1 := (k2 sc hx).trans hsc
  have hD1 := (k1 (x + 162) (by omega) (by omega) (by omega)).trans hD
  refine v_aload_n C dL_law_1234 rfl ?_
  refine l_arg C (j := 1) (i := i) hsc1 (by omega) hL rfl rfl (by decide) dL_law_1235 dL_law_1236 dL_law_1238 dL_law_1239 dL_law_1240 ?_
  refine v_callVq C (c_X8_openQuantity hl hS1 D.1 (xs (i + 1))) dL_law_1241 mX8_openQuantity rfl hS1.o rfl wd8_12 rfl rfl (Nat.le_of_ble_eq_true rfl) (hR _ _ (by decide) (by decide)) (Nat.zero_le _) (Nat.zero_le _) (fun r n2 h2 q => ?_)
  obtain ⟨q1, q2, q3, q4⟩ := q
  obtain ⟨c1, c2⟩ := lr_g k4
  obtain ⟨D2, e3⟩ := D.s3 (mo_cd (hp_num (xs (i + 1)) (mk_hz M)))
  refine l_tailI C hl q3 ((q4 _ (by omega)).trans k3) (e3.trans c1.symm) (fun z => ?_) rfl rfl (hR 0 1 (by decide) (by decide)) dL_law_1244 dL_law_1246 dL_law_1247 dL_law_1250 dL_law_1252 dL_law_1257 dL_law_1259 dL_law_1262 dL_law_1263 dL_law_1264 dL_law_1265 dL_law_1267 dL_law_1268 dL_law_1269 dL_law_1274 (by decide) ?_
  · obtain ⟨z1, z2⟩ := c2 z
    rw [q1, if_pos z1, ← oq_e M]
    exact z2
  · exact v_widen (by omega) (by omega) (kk n2 h2 _ _ _ (by omega) (Jo.mk2 E1 q4 q3 D2 P Jm0 (by omega) hx hsc1 k3 hD1))
set_option maxHeartbeats 4000000 in
/-- case 19: buyerOf -/
theorem law_c19 {G : hp_G} {K : hp_C} {sc L : Nat} {xs : Nat → Int32} {x w i n bc bs : Nat} {h : Nat → Option va_E} (B : Lb G K sc L x w i n bc bs) (J : Jo G sc L xs x w h) (kk : Lk G K sc L xs x w i bc bs) : V G K (ML_law K) bc bs (n, h) 1290 [some (.ref sc), some (.ref x), some (.ref (x + 148)), some (.ref (x + 161)), some (.ref (x + 162)), some (.int (nI i)), none, none, none] [] := by
  obtain ⟨C, hl, hR, hx, hi, hL, hw, hn, hbc, hbs⟩ := B
  obtain ⟨M, B, Z, mk, nx, cnt, t, n0, lt, ln, hs, ma, fa, rk, S, KL, v, E, hS, D, P, Jm0, hv, hsc, ⟨f, hO⟩, ⟨f2, hD⟩⟩ := J
  have hbase := E.base
  have H := P.2.1.1
  refine v_aload_n C dL_law_1290 rfl ?_
  refine l_arg C (j := 1) (i := i) hsc (by omega) hL rfl rfl (by decide) dL_law_1291 dL_law_1292 dL_law_1294 dL_law_1295 dL_law_1296 ?_
  refine v_aload_n C dL_law_1297 rfl ?_
  refine l_call C (x := x) (L0 := x + 163) (bO := x + 161) (c_L_buyerOf hl (Nat.le_trans hbase (Nat.le_add_right _ _)) E.o (c_X7_buyerOf hl E hn (xs (i + 1))) (fun τ hF => (hF.2.2.2 _ (Or.inr ⟨by omega, by omega⟩)).trans hO) qa_o) (by omega) (by omega) hO (fun τ hF => ⟨_, hF⟩) dL_law_1298 mL_buyerOf wd4_139 rfl rfl (Nat.le_of_ble_eq_true rfl) (hR _ _ (by decide) (by decide)) (Nat.le_trans (by decide) hbc) (Nat.le_trans (by decide) hbs) (fun code f' n1 h1 E1 hn1 k1 k2 k3 k4 => ?_)
  obtain ⟨rk1, E1⟩ := E1
  refine v_istore C dL_law_1301 (Nat.le_of_ble_eq_true rfl) ?_
  show V G K _ _ _ (n1, h1) 1303 [some (.ref sc), some (.ref x), some (.ref (x + 148)), some (.ref (x + 161)), some (.ref (x + 162)), some (.int (nI i)), some (.int code), none, none] []
  have hS1 : Mo G h1 (x + 148) S := hS.same (fun a k5 k6 => k1 a (by omega) (by omega) (by omega))
  have hsc1 := (k2 sc hx).trans hsc
  have hD1 := (k1 (x + 162) (by omega) (by omega) (by omega)).trans hD
  refine v_aload_n C dL_law_1303 rfl ?_
  refine l_arg C (j := 1) (i := i) hsc1 (by omega) hL rfl rfl (by decide) dL_law_1304 dL_law_1305 dL_law_1307 dL_law_1308 dL_law_1309 ?_
  refine v_callVq C (c_X8_buyerOf hl hS1 D.1 (xs (i + 1))) dL_law_1310 mX8_buyerOf rfl hS1.o rfl wd8_20 rfl rfl (Nat.le_of_ble_eq_true rfl) (hR _ _ (by decide) (by decide)) (Nat.zero_le _) (Nat.zero_le _) (fun r n2 h2 q => ?_)
  obtain ⟨q1, q2, q3, q4⟩ := q
  obtain ⟨c1, c2⟩ := lr_g k4
  obtain ⟨D2, e3⟩ := D.s3 (mo_cd (hp_num (xs (i + 1)) (mk_ct M)))
  refine l_tailI C hl q3 ((q4 _ (by omega)).trans k3) (e3.trans c1.symm) (fun z => ?_) rfl rfl (hR 0 1 (by decide) (by decide)) dL_law_1313 dL_law_1315 dL_law_1316 dL_law_1319 dL_law_1321 dL_law_1326 dL_law_1328 dL_law_1331 dL_law_1332 dL_law_1333 dL_law_1334 dL_law_1336 dL_law_1337 dL_law_1338 dL_law_1343 (by decide) ?_
  · obtain ⟨z1, z2⟩ := c2 z
    rw [q1, if_pos z1]
    exact z2
  · exact v_widen (by omega) (by omega) (kk n2 h2 _ _ _ (by omega) (Jo.mk2 E1 q4 q3 D2 P Jm0 (by omega) hx hsc1 k3 hD1))
set_option maxHeartbeats 4000000 in
/-- case 20: sellerOf -/
theorem law_c20 {G : hp_G} {K : hp_C} {sc L : Nat} {xs : Nat → Int32} {x w i n bc bs : Nat} {h : Nat → Option va_E} (B : Lb G K sc L x w i n bc bs) (J : Jo G sc L xs x w h) (kk : Lk G K sc L xs x w i bc bs) : V G K (ML_law K) bc bs (n, h) 1346 [some (.ref sc), some (.ref x), some (.ref (x + 148)), some (.ref (x + 161)), some (.ref (x + 162)), some (.int (nI i)), none, none, none] [] := by
  obtain ⟨C, hl, hR, hx, hi, hL, hw, hn, hbc, hbs⟩ := B
  obtain ⟨M, B, Z, mk, nx, cnt, t, n0, lt, ln, hs, ma, fa, rk, S, KL, v, E, hS, D, P, Jm0, hv, hsc, ⟨f, hO⟩, ⟨f2, hD⟩⟩ := J
  have hbase := E.base
  have H := P.2.1.1
  refine v_aload_n C dL_law_1346 rfl ?_
  refine l_arg C (j := 1) (i := i) hsc (by omega) hL rfl rfl (by decide) dL_law_1347 dL_law_1348 dL_law_1350 dL_law_1351 dL_law_1352 ?_
  refine v_aload_n C dL_law_1353 rfl ?_
  refine l_call C (x := x) (L0 := x + 163) (bO := x + 161) (c_L_sellerOf hl (Nat.le_trans hbase (Nat.le_add_right _ _)) E.o (c_X7_sellerOf hl E hn (xs (i + 1))) (fun τ hF => (hF.2.2.2 _ (Or.inr ⟨by omega, by omega⟩)).trans hO) qa_o) (by omega) (by omega) hO (fun τ hF => ⟨_, hF⟩) dL_law_1354 mL_sellerOf wd4_146 rfl rfl (Nat.le_of_ble_eq_true rfl) (hR _ _ (by decide) (by decide)) (Nat.le_trans (by decide) hbc) (Nat.le_trans (by decide) hbs) (fun code f' n1 h1 E1 hn1 k1 k2 k3 k4 => ?_)
  obtain ⟨rk1, E1⟩ := E1
  refine v_istore C dL_law_1357 (Nat.le_of_ble_eq_true rfl) ?_
  show V G K _ _ _ (n1, h1) 1359 [some (.ref sc), some (.ref x), some (.ref (x + 148)), some (.ref (x + 161)), some (.ref (x + 162)), some (.int (nI i)), some (.int code), none, none] []
  have hS1 : Mo G h1 (x + 148) S := hS.same (fun a k5 k6 => k1 a (by omega) (by omega) (by omega))
  have hsc1 := (k2 sc hx).trans hsc
  have hD1 := (k1 (x + 162) (by omega) (by omega) (by omega)).trans hD
  refine v_aload_n C dL_law_1359 rfl ?_
  refine l_arg C (j := 1) (i := i) hsc1 (by omega) hL rfl rfl (by decide) dL_law_1360 dL_law_1361 dL_law_1363 dL_law_1364 dL_law_1365 ?_
  refine v_callVq C (c_X8_sellerOf hl hS1 D.1 (xs (i + 1))) dL_law_1366 mX8_sellerOf rfl hS1.o rfl wd8_32 rfl rfl (Nat.le_of_ble_eq_true rfl) (hR _ _ (by decide) (by decide)) (Nat.zero_le _) (Nat.zero_le _) (fun r n2 h2 q => ?_)
  obtain ⟨q1, q2, q3, q4⟩ := q
  obtain ⟨c1, c2⟩ := lr_g k4
  obtain ⟨D2, e3⟩ := D.s3 (mo_cd (hp_num (xs (i + 1)) (mk_ct M)))
  refine l_tailI C hl q3 ((q4 _ (by omega)).trans k3) (e3.trans c1.symm) (fun z => ?_) rfl rfl (hR 0 1 (by decide) (by decide)) dL_law_1369 dL_law_1371 dL_law_1372 dL_law_1375 dL_law_1377 dL_law_1382 dL_law_1384 dL_law_1387 dL_law_1388 dL_law_1389 dL_law_1390 dL_law_1392 dL_law_1393 dL_law_1394 dL_law_1399 (by decide) ?_
  · obtain ⟨z1, z2⟩ := c2 z
    rw [q1, if_pos z1]
    exact z2
  · exact v_widen (by omega) (by omega) (kk n2 h2 _ _ _ (by omega) (Jo.mk2 E1 q4 q3 D2 P Jm0 (by omega) hx hsc1 k3 hD1))
set_option maxHeartbeats 4000000 in
/-- case 21: horizonOf -/
theorem law_c21 {G : hp_G} {K : hp_C} {sc L : Nat} {xs : Nat → Int32} {x w i n bc bs : Nat} {h : Nat → Option va_E} (B : Lb G K sc L x w i n bc bs) (J : Jo G sc L xs x w h) (kk : Lk G K sc L xs x w i bc bs) : V G K (ML_law K) bc bs (n, h) 1402 [some (.ref sc), some (.ref x), some (.ref (x + 148)), some (.ref (x + 161)), some (.ref (x + 162)), some (.int (nI i)), none, none, none] [] := by
  obtain ⟨C, hl, hR, hx, hi, hL, hw, hn, hbc, hbs⟩ := B
  obtain ⟨M, B, Z, mk, nx, cnt, t, n0, lt, ln, hs, ma, fa, rk, S, KL, v, E, hS, D, P, Jm0, hv, hsc, ⟨f, hO⟩, ⟨f2, hD⟩⟩ := J
  have hbase := E.base
  have H := P.2.1.1
  refine v_aload_n C dL_law_1402 rfl ?_
  refine l_arg C (j := 1) (i := i) hsc (by omega) hL rfl rfl (by decide) dL_law_1403 dL_law_1404 dL_law_1406 dL_law_1407 dL_law_1408 ?_
  refine v_aload_n C dL_law_1409 rfl ?_
  refine l_call C (x := x) (L0 := x + 163) (bO := x + 161) (c_L_horizonOf hl (Nat.le_trans hbase (Nat.le_add_right _ _)) E.o (c_X7_horizonOf hl E hn (xs (i + 1))) (fun τ hF => (hF.2.2.2 _ (Or.inr ⟨by omega, by omega⟩)).trans hO) qa_o) (by omega) (by omega) hO (fun τ hF => ⟨_, hF⟩) dL_law_1410 mL_horizonOf wd4_153 rfl rfl (Nat.le_of_ble_eq_true rfl) (hR _ _ (by decide) (by decide)) (Nat.le_trans (by decide) hbc) (Nat.le_trans (by decide) hbs) (fun code f' n1 h1 E1 hn1 k1 k2 k3 k4 => ?_)
  obtain ⟨rk1, E1⟩ := E1
  refine v_istore C dL_law_1413 (Nat.le_of_ble_eq_true rfl) ?_
  show V G K _ _ _ (n1, h1) 1415 [some (.ref sc), some (.ref x), some (.ref (x + 148)), some (.ref (x + 161)), some (.ref (x + 162)), some (.int (nI i)), some (.int code), none, none] []
  have hS1 : Mo G h1 (x + 148) S := hS.same (fun a k5 k6 => k1 a (by omega) (by omega) (by omega))
  have hsc1 := (k2 sc hx).trans hsc
  have hD1 := (k1 (x + 162) (by omega) (by omega) (by omega)).trans hD
  refine v_aload_n C dL_law_1415 rfl ?_
  refine l_arg C (j := 1) (i := i) hsc1 (by omega) hL rfl rfl (by decide) dL_law_1416 dL_law_1417 dL_law_1419 dL_law_1420 dL_law_1421 ?_
  refine v_callVq C (c_X8_horizonOf hl hS1 D.1 (xs (i + 1))) dL_law_1422 mX8_horizonOf rfl hS1.o rfl wd8_36 rfl rfl (Nat.le_of_ble_eq_true rfl) (hR _ _ (by decide) (by decide)) (Nat.zero_le _) (Nat.zero_le _) (fun r n2 h2 q => ?_)
  obtain ⟨q1, q2, q3, q4⟩ := q
  obtain ⟨c1, c2⟩ := lr_g k4
  obtain ⟨D2, e3⟩ := D.s3 (mo_cd (hp_num (xs (i + 1)) (mk_ct M)))
  refine l_tailI C hl q3 ((q4 _ (by omega)).trans k3) (e3.trans c1.symm) (fun z => ?_) rfl rfl (hR 0 1 (by decide) (by decide)) dL_law_1425 dL_law_1427 dL_law_1428 dL_law_1431 dL_law_1433 dL_law_1438 dL_law_1440 dL_law_1443 dL_law_1444 dL_law_1445 dL_law_1446 dL_law_1448 dL_law_1449 dL_law_1450 dL_law_1455 (by decide) ?_
  · obtain ⟨z1, z2⟩ := c2 z
    rw [q1, if_pos z1]
    exact z2
  · exact v_widen (by omega) (by omega) (kk n2 h2 _ _ _ (by omega) (Jo.mk2 E1 q4 q3 D2 P Jm0 (by omega) hx hsc1 k3 hD1))
set_option maxHeartbeats 4000000 in
/-- case 22: quantityOf -/
theorem law_c22 {G : hp_G} {K : hp_C} {sc L : Nat} {xs : Nat → Int32} {x w i n bc bs : Nat} {h : Nat → Option va_E} (B : Lb G K sc L x w i n bc bs) (J : Jo G sc L xs x w h) (kk : Lk G K sc L xs x w i bc bs) : V G K (ML_law K) bc bs (n, h) 1458 [some (.ref sc), some (.ref x), some (.ref (x + 148)), some (.ref (x + 161)), some (.ref (x + 162)), some (.int (nI i)), none, none, none] [] := by
  obtain ⟨C, hl, hR, hx, hi, hL, hw, hn, hbc, hbs⟩ := B
  obtain ⟨M, B, Z, mk, nx, cnt, t, n0, lt, ln, hs, ma, fa, rk, S, KL, v, E, hS, D, P, Jm0, hv, hsc, ⟨f, hO⟩, ⟨f2, hD⟩⟩ := J
  have hbase := E.base
  have H := P.2.1.1
  refine v_aload_n C dL_law_1458 rfl ?_
  refine l_arg C (j := 1) (i := i) hsc (by omega) hL rfl rfl (by decide) dL_law_1459 dL_law_1460 dL_law_1462 dL_law_1463 dL_law_1464 ?_
  refine v_aload_n C dL_law_1465 rfl ?_
  refine l_call C (x := x) (L0 := x + 163) (bO := x + 161) (c_L_quantityOf hl (Nat.le_trans hbase (Nat.le_add_right _ _)) E.o (c_X7_quantityOf hl E hn (xs (i + 1))) (fun τ hF => (hF.2.2.2 _ (Or.inr ⟨by omega, by omega⟩)).trans hO) qa_o) (by omega) (by omega) hO (fun τ hF => ⟨_, hF⟩) dL_law_1466 mL_quantityOf wd4_160 rfl rfl (Nat.le_of_ble_eq_true rfl) (hR _ _ (by decide) (by decide)) (Nat.le_trans (by decide) hbc) (Nat.le_trans (by decide) hbs) (fun code f' n1 h1 E1 hn1 k1 k2 k3 k4 => ?_)
  obtain ⟨rk1, E1⟩ := E1
  refine v_istore C dL_law_1469 (Nat.le_of_ble_eq_true rfl) ?_
  show V G K _ _ _ (n1, h1) 1471 [some (.ref sc), some (.ref x), some (.ref (x + 148)), some (.ref (x + 161)), some (.ref (x + 162)), some (.int (nI i)), some (.int code), none, none] []
  have hS1 : Mo G h1 (x + 148) S := hS.same (fun a k5 k6 => k1 a (by omega) (by omega) (by omega))
  have hsc1 := (k2 sc hx).trans hsc
  have hD1 := (k1 (x + 162) (by omega) (by omega) (by omega)).trans hD
  refine v_aload_n C dL_law_1471 rfl ?_
  refine l_arg C (j := 1) (i := i) hsc1 (by omega) hL rfl rfl (by decide) dL_law_1472 dL_law_1473 dL_law_1475 dL_law_1476 dL_law_1477 ?_
  refine v_callVq C (c_X8_quantityOf hl hS1 D.1 (xs (i + 1))) dL_law_1478 mX8_quantityOf rfl hS1.o rfl wd8_40 rfl rfl (Nat.le_of_ble_eq_true rfl) (hR _ _ (by decide) (by decide)) (Nat.zero_le _) (Nat.zero_le _) (fun r n2 h2 q => ?_)
  obtain ⟨q1, q2, q3, q4⟩ := q
  obtain ⟨c1, c2⟩ := lr_g k4
  obtain ⟨D2, e3⟩ := D.s3 (mo_cd (hp_num (xs (i + 1)) (mk_ct M)))
  refine l_tailI C hl q3 ((q4 _ (by omega)).trans k3) (e3.trans c1.symm) (fun z => ?_) rfl rfl (hR 0 1 (by decide) (by decide)) dL_law_1481 dL_law_1483 dL_law_1484 dL_law_1487 dL_law_1489 dL_law_1494 dL_law_1496 dL_law_1499 dL_law_1500 dL_law_1501 dL_law_1502 dL_law_1504 dL_law_1505 dL_law_1506 dL_law_1511 (by decide) ?_
  · obtain ⟨z1, z2⟩ := c2 z
    rw [q1, if_pos z1]
    exact z2
  · exact v_widen (by omega) (by omega) (kk n2 h2 _ _ _ (by omega) (Jo.mk2 E1 q4 q3 D2 P Jm0 (by omega) hx hsc1 k3 hD1))
set_option maxHeartbeats 4000000 in
/-- case 23: daysLeft -/
theorem law_c23 {G : hp_G} {K : hp_C} {sc L : Nat} {xs : Nat → Int32} {x w i n bc bs : Nat} {h : Nat → Option va_E} (B : Lb G K sc L x w i n bc bs) (J : Jo G sc L xs x w h) (kk : Lk G K sc L xs x w i bc bs) : V G K (ML_law K) bc bs (n, h) 1514 [some (.ref sc), some (.ref x), some (.ref (x + 148)), some (.ref (x + 161)), some (.ref (x + 162)), some (.int (nI i)), none, none, none] [] := by
  obtain ⟨C, hl, hR, hx, hi, hL, hw, hn, hbc, hbs⟩ := B
  obtain ⟨M, B, Z, mk, nx, cnt, t, n0, lt, ln, hs, ma, fa, rk, S, KL, v, E, hS, D, P, Jm0, hv, hsc, ⟨f, hO⟩, ⟨f2, hD⟩⟩ := J
  have hbase := E.base
  have H := P.2.1.1
  refine v_aload_n C dL_law_1514 rfl ?_
  refine l_arg C (j := 1) (i := i) hsc (by omega) hL rfl rfl (by decide) dL_law_1515 dL_law_1516 dL_law_1518 dL_law_1519 dL_law_1520 ?_
  refine v_aload_n C dL_law_1521 rfl ?_
  refine l_call C (x := x) (L0 := x + 163) (bO := x + 161) (c_L_daysLeft hl (Nat.le_trans hbase (Nat.le_add_right _ _)) E.o (c_X7_daysLeft hl E hn (xs (i + 1))) (fun τ hF => (hF.2.2.2 _ (Or.inr ⟨by omega, by omega⟩)).trans hO) qa_o) (by omega) (by omega) hO (fun τ hF => ⟨_, hF⟩) dL_law_1522 mL_daysLeft wd4_167 rfl rfl (Nat.le_of_ble_eq_true rfl) (hR _ _ (by decide) (by decide)) (Nat.le_trans (by decide) hbc) (Nat.le_trans (by decide) hbs) (fun code f' n1 h1 E1 hn1 k1 k2 k3 k4 => ?_)
  obtain ⟨rk1, E1⟩ := E1
  refine v_istore C dL_law_1525 (Nat.le_of_ble_eq_true rfl) ?_
  show V G K _ _ _ (n1, h1) 1527 [some (.ref sc), some (.ref x), some (.ref (x + 148)), some (.ref (x + 161)), some (.ref (x + 162)), some (.int (nI i)), some (.int code), none, none] []
  have hS1 : Mo G h1 (x + 148) S := hS.same (fun a k5 k6 => k1 a (by omega) (by omega) (by omega))
  have hsc1 := (k2 sc hx).trans hsc
  have hD1 := (k1 (x + 162) (by omega) (by omega) (by omega)).trans hD
  refine v_aload_n C dL_law_1527 rfl ?_
  refine l_arg C (j := 1) (i := i) hsc1 (by omega) hL rfl rfl (by decide) dL_law_1528 dL_law_1529 dL_law_1531 dL_law_1532 dL_law_1533 ?_
  refine v_callVq C (c_X8_daysLeft hl hS1 D.1 (xs (i + 1))) dL_law_1534 mX8_daysLeft rfl hS1.o rfl wd8_44 rfl rfl (Nat.le_of_ble_eq_true rfl) (hR _ _ (by decide) (by decide)) (Nat.zero_le _) (Nat.zero_le _) (fun r n2 h2 q => ?_)
  obtain ⟨q1, q2, q3, q4⟩ := q
  obtain ⟨c1, c2⟩ := lr_g k4
  obtain ⟨D2, e3⟩ := D.s3 (mo_cd (hp_num (xs (i + 1)) (mk_ct M)))
  refine l_tailI C hl q3 ((q4 _ (by omega)).trans k3) (e3.trans c1.symm) (fun z => ?_) rfl rfl (hR 0 1 (by decide) (by decide)) dL_law_1537 dL_law_1539 dL_law_1540 dL_law_1543 dL_law_1545 dL_law_1550 dL_law_1552 dL_law_1555 dL_law_1556 dL_law_1557 dL_law_1558 dL_law_1560 dL_law_1561 dL_law_1562 dL_law_1567 (by decide) ?_
  · obtain ⟨z1, z2⟩ := c2 z
    rw [q1, if_pos z1]
    exact z2
  · exact v_widen (by omega) (by omega) (kk n2 h2 _ _ _ (by omega) (Jo.mk2 E1 q4 q3 D2 P Jm0 (by omega) hx hsc1 k3 hD1))
set_option maxHeartbeats 4000000 in
/-- case 24: marginOf -/
theorem law_c24 {G : hp_G} {K : hp_C} {sc L : Nat} {xs : Nat → Int32} {x w i n bc bs : Nat} {h : Nat → Option va_E} (B : Lb G K sc L x w i n bc bs) (J : Jo G sc L xs x w h) (kk : Lk G K sc L xs x w i bc bs) : V G K (ML_law K) bc bs (n, h) 1570 [some (.ref sc), some (.ref x), some (.ref (x + 148)), some (.ref (x + 161)), some (.ref (x + 162)), some (.int (nI i)), none, none, none] [] := by
  obtain ⟨C, hl, hR, hx, hi, hL, hw, hn, hbc, hbs⟩ := B
  obtain ⟨M, B, Z, mk, nx, cnt, t, n0, lt, ln, hs, ma, fa, rk, S, KL, v, E, hS, D, P, Jm0, hv, hsc, ⟨f, hO⟩, ⟨f2, hD⟩⟩ := J
  have hbase := E.base
  have H := P.2.1.1
  refine v_aload_n C dL_law_1570 rfl ?_
  refine l_arg C (j := 1) (i := i) hsc (by omega) hL rfl rfl (by decide) dL_law_1571 dL_law_1572 dL_law_1574 dL_law_1575 dL_law_1576 ?_
  refine v_aload_n C dL_law_1577 rfl ?_
  refine l_call C (x := x) (L0 := x + 163) (bO := x + 161) (c_L_marginOf hl (Nat.le_trans hbase (Nat.le_add_right _ _)) E.o (c_X7_marginOf hl E hn (xs (i + 1))) (fun τ hF => (hF.2.2.2 _ (Or.inr ⟨by omega, by omega⟩)).trans hO) qa_o) (by omega) (by omega) hO (fun τ hF => ⟨_, hF⟩) dL_law_1578 mL_marginOf wd4_174 rfl rfl (Nat.le_of_ble_eq_true rfl) (hR _ _ (by decide) (by decide)) (Nat.le_trans (by decide) hbc) (Nat.le_trans (by decide) hbs) (fun code f' n1 h1 E1 hn1 k1 k2 k3 k4 => ?_)
  obtain ⟨rk1, E1⟩ := E1
  refine v_istore C dL_law_1581 (Nat.le_of_ble_eq_true rfl) ?_
  show V G K _ _ _ (n1, h1) 1583 [some (.ref sc), some (.ref x), some (.ref (x + 148)), some (.ref (x + 161)), some (.ref (x + 162)), some (.int (nI i)), some (.int code), none, none] []
  have hS1 : Mo G h1 (x + 148) S := hS.same (fun a k5 k6 => k1 a (by omega) (by omega) (by omega))
  have hsc1 := (k2 sc hx).trans hsc
  have hD1 := (k1 (x + 162) (by omega) (by omega) (by omega)).trans hD
  refine v_aload_n C dL_law_1583 rfl ?_
  refine l_arg C (j := 1) (i := i) hsc1 (by omega) hL rfl rfl (by decide) dL_law_1584 dL_law_1585 dL_law_1587 dL_law_1588 dL_law_1589 ?_
  refine v_callVq C (c_X8_marginOf hl hS1 D.1 (xs (i + 1))) dL_law_1590 mX8_marginOf rfl hS1.o rfl wd8_48 rfl rfl (Nat.le_of_ble_eq_true rfl) (hR _ _ (by decide) (by decide)) (Nat.zero_le _) (Nat.zero_le _) (fun r n2 h2 q => ?_)
  obtain ⟨q1, q2, q3, q4⟩ := q
  obtain ⟨c1, c2⟩ := lr_g k4
  obtain ⟨D2, e3⟩ := D.s3 (mo_cd (hp_num (xs (i + 1)) (mk_tr M)))
  refine l_tailI C hl q3 ((q4 _ (by omega)).trans k3) (e3.trans c1.symm) (fun z => ?_) rfl rfl (hR 0 1 (by decide) (by decide)) dL_law_1593 dL_law_1595 dL_law_1596 dL_law_1599 dL_law_1601 dL_law_1606 dL_law_1608 dL_law_1611 dL_law_1612 dL_law_1613 dL_law_1614 dL_law_1616 dL_law_1617 dL_law_1618 dL_law_1623 (by decide) ?_
  · obtain ⟨z1, z2⟩ := c2 z
    rw [q1, if_pos z1, ← mg_e H, ← ms_mg H]
    exact z2
  · exact v_widen (by omega) (by omega) (kk n2 h2 _ _ _ (by omega) (Jo.mk2 E1 q4 q3 D2 P Jm0 (by omega) hx hsc1 k3 hD1))
set_option maxHeartbeats 4000000 in
/-- case 25: marginByPositions -/
theorem law_c25 {G : hp_G} {K : hp_C} {sc L : Nat} {xs : Nat → Int32} {x w i n bc bs : Nat} {h : Nat → Option va_E} (B : Lb G K sc L x w i n bc bs) (J : Jo G sc L xs x w h) (kk : Lk G K sc L xs x w i bc bs) : V G K (ML_law K) bc bs (n, h) 1626 [some (.ref sc), some (.ref x), some (.ref (x + 148)), some (.ref (x + 161)), some (.ref (x + 162)), some (.int (nI i)), none, none, none] [] := by
  obtain ⟨C, hl, hR, hx, hi, hL, hw, hn, hbc, hbs⟩ := B
  obtain ⟨M, B, Z, mk, nx, cnt, t, n0, lt, ln, hs, ma, fa, rk, S, KL, v, E, hS, D, P, Jm0, hv, hsc, ⟨f, hO⟩, ⟨f2, hD⟩⟩ := J
  have hbase := E.base
  have H := P.2.1.1
  refine v_aload_n C dL_law_1626 rfl ?_
  refine l_arg C (j := 1) (i := i) hsc (by omega) hL rfl rfl (by decide) dL_law_1627 dL_law_1628 dL_law_1630 dL_law_1631 dL_law_1632 ?_
  refine v_aload_n C dL_law_1633 rfl ?_
  refine l_call C (x := x) (L0 := x + 163) (bO := x + 161) (c_L_marginByPositions hl (Nat.le_trans hbase (Nat.le_add_right _ _)) E.o (c_X7_marginByPositions hl E hn (xs (i + 1))) (fun τ hF => (hF.2.2.2 _ (Or.inr ⟨by omega, by omega⟩)).trans hO) qa_o) (by omega) (by omega) hO (fun τ hF => ⟨_, hF⟩) dL_law_1634 mL_marginByPositions wd4_181 rfl rfl (Nat.le_of_ble_eq_true rfl) (hR _ _ (by decide) (by decide)) (Nat.le_trans (by decide) hbc) (Nat.le_trans (by decide) hbs) (fun code f' n1 h1 E1 hn1 k1 k2 k3 k4 => ?_)
  obtain ⟨rk1, E1⟩ := E1
  refine v_istore C dL_law_1637 (Nat.le_of_ble_eq_true rfl) ?_
  show V G K _ _ _ (n1, h1) 1639 [some (.ref sc), some (.ref x), some (.ref (x + 148)), some (.ref (x + 161)), some (.ref (x + 162)), some (.int (nI i)), some (.int code), none, none] []
  have hS1 : Mo G h1 (x + 148) S := hS.same (fun a k5 k6 => k1 a (by omega) (by omega) (by omega))
  have hsc1 := (k2 sc hx).trans hsc
  have hD1 := (k1 (x + 162) (by omega) (by omega) (by omega)).trans hD
  refine v_aload_n C dL_law_1639 rfl ?_
  refine l_arg C (j := 1) (i := i) hsc1 (by omega) hL rfl rfl (by decide) dL_law_1640 dL_law_1641 dL_law_1643 dL_law_1644 dL_law_1645 ?_
  refine v_callVq C (c_X8_marginByPositions hl hS1 D.1 (xs (i + 1))) dL_law_1646 mX8_marginByPositions rfl hS1.o rfl wd8_52 rfl rfl (Nat.le_of_ble_eq_true rfl) (hR _ _ (by decide) (by decide)) (Nat.zero_le _) (Nat.zero_le _) (fun r n2 h2 q => ?_)
  obtain ⟨q1, q2, q3, q4⟩ := q
  obtain ⟨c1, c2⟩ := lr_g k4
  obtain ⟨D2, e3⟩ := D.s3 (mo_cd (hp_num (xs (i + 1)) (mk_tr M)))
  refine l_tailI C hl q3 ((q4 _ (by omega)).trans k3) (e3.trans c1.symm) (fun z => ?_) rfl rfl (hR 0 1 (by decide) (by decide)) dL_law_1649 dL_law_1651 dL_law_1652 dL_law_1655 dL_law_1657 dL_law_1662 dL_law_1664 dL_law_1667 dL_law_1668 dL_law_1669 dL_law_1670 dL_law_1672 dL_law_1673 dL_law_1674 dL_law_1679 (by decide) ?_
  · obtain ⟨z1, z2⟩ := c2 z
    rw [q1, if_pos z1, ← mg_e H]
    exact z2
  · exact v_widen (by omega) (by omega) (kk n2 h2 _ _ _ (by omega) (Jo.mk2 E1 q4 q3 D2 P Jm0 (by omega) hx hsc1 k3 hD1))
set_option maxHeartbeats 4000000 in
/-- case 26: variationOf -/
theorem law_c26 {G : hp_G} {K : hp_C} {sc L : Nat} {xs : Nat → Int32} {x w i n bc bs : Nat} {h : Nat → Option va_E} (B : Lb G K sc L x w i n bc bs) (J : Jo G sc L xs x w h) (kk : Lk G K sc L xs x w i bc bs) : V G K (ML_law K) bc bs (n, h) 1682 [some (.ref sc), some (.ref x), some (.ref (x + 148)), some (.ref (x + 161)), some (.ref (x + 162)), some (.int (nI i)), none, none, none] [] := by
  obtain ⟨C, hl, hR, hx, hi, hL, hw, hn, hbc, hbs⟩ := B
  obtain ⟨M, B, Z, mk, nx, cnt, t, n0, lt, ln, hs, ma, fa, rk, S, KL, v, E, hS, D, P, Jm0, hv, hsc, ⟨f, hO⟩, ⟨f2, hD⟩⟩ := J
  have hbase := E.base
  have H := P.2.1.1
  refine v_aload_n C dL_law_1682 rfl ?_
  refine l_arg C (j := 1) (i := i) hsc (by omega) hL rfl rfl (by decide) dL_law_1683 dL_law_1684 dL_law_1686 dL_law_1687 dL_law_1688 ?_
  refine v_aload_n C dL_law_1689 rfl ?_
  refine l_call C (x := x) (L0 := x + 163) (bO := x + 161) (c_L_variationOf hl (Nat.le_trans hbase (Nat.le_add_right _ _)) E.o (c_X7_variationOf hl E hn (xs (i + 1))) (fun τ hF => (hF.2.2.2 _ (Or.inr ⟨by omega, by omega⟩)).trans hO) qa_o) (by omega) (by omega) hO (fun τ hF => ⟨_, hF⟩) dL_law_1690 mL_variationOf wd4_188 rfl rfl (Nat.le_of_ble_eq_true rfl) (hR _ _ (by decide) (by decide)) (Nat.le_trans (by decide) hbc) (Nat.le_trans (by decide) hbs) (fun code f' n1 h1 E1 hn1 k1 k2 k3 k4 => ?_)
  obtain ⟨rk1, E1⟩ := E1
  refine v_istore C dL_law_1693 (Nat.le_of_ble_eq_true rfl) ?_
  show V G K _ _ _ (n1, h1) 1695 [some (.ref sc), some (.ref x), some (.ref (x + 148)), some (.ref (x + 161)), some (.ref (x + 162)), some (.int (nI i)), some (.int code), none, none] []
  have hS1 : Mo G h1 (x + 148) S := hS.same (fun a k5 k6 => k1 a (by omega) (by omega) (by omega))
  have hsc1 := (k2 sc hx).trans hsc
  have hD1 := (k1 (x + 162) (by omega) (by omega) (by omega)).trans hD
  refine v_aload_n C dL_law_1695 rfl ?_
  refine l_arg C (j := 1) (i := i) hsc1 (by omega) hL rfl rfl (by decide) dL_law_1696 dL_law_1697 dL_law_1699 dL_law_1700 dL_law_1701 ?_
  refine v_callVq C (c_X8_variationOf hl hS1 D.1 (xs (i + 1))) dL_law_1702 mX8_variationOf rfl hS1.o rfl wd8_56 rfl rfl (Nat.le_of_ble_eq_true rfl) (hR _ _ (by decide) (by decide)) (Nat.zero_le _) (Nat.zero_le _) (fun r n2 h2 q => ?_)
  obtain ⟨q1, q2, q3, q4⟩ := q
  obtain ⟨c1, c2⟩ := lr_g k4
  obtain ⟨D2, e3⟩ := D.s3 (mo_cd (hp_num (xs (i + 1)) (mk_tr M)))
  refine l_tailI C hl q3 ((q4 _ (by omega)).trans k3) (e3.trans c1.symm) (fun z => ?_) rfl rfl (hR 0 1 (by decide) (by decide)) dL_law_1705 dL_law_1707 dL_law_1708 dL_law_1711 dL_law_1713 dL_law_1718 dL_law_1720 dL_law_1723 dL_law_1724 dL_law_1725 dL_law_1726 dL_law_1728 dL_law_1729 dL_law_1730 dL_law_1735 (by decide) ?_
  · obtain ⟨z1, z2⟩ := c2 z
    rw [q1, if_pos z1, ← va_e H]
    exact z2
  · exact v_widen (by omega) (by omega) (kk n2 h2 _ _ _ (by omega) (Jo.mk2 E1 q4 q3 D2 P Jm0 (by omega) hx hsc1 k3 hD1))
set_option maxHeartbeats 4000000 in
/-- case 16: positionOf -/
theorem law_c16 {G : hp_G} {K : hp_C} {sc L : Nat} {xs : Nat → Int32} {x w i n bc bs : Nat} {h : Nat → Option va_E} (B : Lb G K sc L x w i n bc bs) (J : Jo G sc L xs x w h) (kk : Lk G K sc L xs x w i bc bs) : V G K (ML_law K) bc bs (n, h) 1153 [some (.ref sc), some (.ref x), some (.ref (x + 148)), some (.ref (x + 161)), some (.ref (x + 162)), some (.int (nI i)), none, none, none] [] := by
  obtain ⟨C, hl, hR, hx, hi, hL, hw, hn, hbc, hbs⟩ := B
  obtain ⟨M, B, Z, mk, nx, cnt, t, n0, lt, ln, hs, ma, fa, rk, S, KL, v, E, hS, D, P, Jm0, hv, hsc, ⟨f, hO⟩, ⟨f2, hD⟩⟩ := J
  have hbase := E.base
  have H := P.2.1.1
  refine v_aload_n C dL_law_1153 rfl ?_
  refine l_arg C (j := 1) (i := i) hsc (by omega) hL rfl rfl (by decide) dL_law_1154 dL_law_1155 dL_law_1157 dL_law_1158 dL_law_1159 ?_
  refine l_arg C (j := 2) (i := i) hsc (by omega) hL rfl rfl (by decide) dL_law_1160 dL_law_1161 dL_law_1163 dL_law_1164 dL_law_1165 ?_
  refine v_aload_n C dL_law_1166 rfl ?_
  refine l_call C (x := x) (L0 := x + 163) (bO := x + 161) (c_L_positionOf hl (Nat.le_trans hbase (Nat.le_add_right _ _)) E.o (c_X7_positionOf hl E hn (xs (i + 1)) (xs (i + 2))) (fun τ hF => (hF.2.2.2 _ (Or.inr ⟨by omega, by omega⟩)).trans hO) qa_o) (by omega) (by omega) hO (fun τ hF => ⟨_, hF⟩) dL_law_1167 mL_positionOf wd4_120 rfl rfl (Nat.le_of_ble_eq_true rfl) (hR _ _ (by decide) (by decide)) (Nat.le_trans (by decide) hbc) (Nat.le_trans (by decide) hbs) (fun code f' n1 h1 E1 hn1 k1 k2 k3 k4 => ?_)
  obtain ⟨rk1, E1⟩ := E1
  refine v_istore C dL_law_1170 (Nat.le_of_ble_eq_true rfl) ?_
  show V G K _ _ _ (n1, h1) 1172 [some (.ref sc), some (.ref x), some (.ref (x + 148)), some (.ref (x + 161)), some (.ref (x + 162)), some (.int (nI i)), some (.int code), none, none] []
  have hS1 : Mo G h1 (x + 148) S := hS.same (fun a k5 k6 => k1 a (by omega) (by omega) (by omega))
  have hsc1 := (k2 sc hx).trans hsc
  have hD1 := (k1 (x + 162) (by omega) (by omega) (by omega)).trans hD
  refine v_aload_n C dL_law_1172 rfl ?_
  refine l_arg C (j := 1) (i := i) hsc1 (by omega) hL rfl rfl (by decide) dL_law_1173 dL_law_1174 dL_law_1176 dL_law_1177 dL_law_1178 ?_
  refine l_arg C (j := 2) (i := i) hsc1 (by omega) hL rfl rfl (by decide) dL_law_1179 dL_law_1180 dL_law_1182 dL_law_1183 dL_law_1184 ?_
  refine v_callVq C (c_X8_positionOf hl hS1 D.1 (xs (i + 1)) (xs (i + 2))) dL_law_1185 mX8_positionOf rfl hS1.o rfl wd8_8 rfl rfl (Nat.le_of_ble_eq_true rfl) (hR _ _ (by decide) (by decide)) (Nat.zero_le _) (Nat.zero_le _) (fun r n2 h2 q => ?_)
  obtain ⟨q1, q2, q3, q4⟩ := q
  obtain ⟨c1, c2⟩ := lr_g k4
  obtain ⟨D2, e3⟩ := D.s3 (mo_cd (hp_num (xs (i + 1)) (mk_tr M) ∧ hp_num (xs (i + 2)) (mk_hz M)))
  refine l_tailI C hl q3 ((q4 _ (by omega)).trans k3) (e3.trans c1.symm) (fun z => ?_) rfl rfl (hR 0 1 (by decide) (by decide)) dL_law_1188 dL_law_1190 dL_law_1191 dL_law_1194 dL_law_1196 dL_law_1201 dL_law_1203 dL_law_1206 dL_law_1207 dL_law_1208 dL_law_1209 dL_law_1211 dL_law_1212 dL_law_1213 dL_law_1218 (by decide) ?_
  · obtain ⟨z1, z2⟩ := c2 z
    rw [q1, if_pos z1, ← po_e H]
    exact z2
  · exact v_widen (by omega) (by omega) (kk n2 h2 _ _ _ (by omega) (Jo.mk2 E1 q4 q3 D2 P Jm0 (by omega) hx hsc1 k3 hD1))

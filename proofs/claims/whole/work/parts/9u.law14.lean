/-! ===== THE LAW: yes or no; what is written ===== -/
theorem nI_mn : ∀ k, k < 64 → nI k ≠ hp_mn := by decide
theorem mn_i {a : Int32} (h : -2000000000 ≤ a.toInt) : a ≠ hp_mn := fun y => by
  have e : hp_mn.toInt = -2147483648 := by decide
  rw [y, e] at h
  omega
theorem wc_all {v : Nat} {M : mk_T} (A : Ia v M) (hv : v ≤ 599) : wc_ok M := fun j hj => by
  have H := A.1
  obtain ⟨h4, h6, -⟩ := H.1
  obtain ⟨b, s, h, q, r1, r2, -, r4, r5, r6, e5, e6, e7, e8⟩ := H.2.2.1 j hj
  obtain ⟨e, x1, x2⟩ := A.2.2 j hj
  obtain ⟨-, -, -, -, -, -, -, -, dd, y1, y2⟩ := A.2.1
  have y2 : M.2.2.1.1 = nI dd := y2
  rw [e5, e6, e7, e8, x2, y2]
  have t1 : (nI e).toInt = (e : Int) := nI_toInt (by omega)
  have t2 : (nI dd).toInt = (dd : Int) := nI_toInt (by omega)
  refine ⟨nI_mn b (by omega), nI_mn s (by omega), nI_mn h (by omega), nI_mn q (by omega), mn_i ?_⟩
  rw [i_sub (m := 1000) (n := 1000) (by omega) (by omega) (by decide)]
  omega
theorem wt_all {v : Nat} {M : mk_T} (A : Ia v M) (hv : v ≤ 599) : wt_ok M := fun j hj => by
  have h1 := A.2.1.m (by omega) hj
  have h2 := (mg_i A.1 (nI j) _ (Nat.le_refl _)).2.1
  exact ⟨mn_i (by omega), mn_i (by omega)⟩
theorem mt_all {v : Nat} {M : mk_T} (A : Ia v M) (hv : v ≤ 599) : mt_ok M := fun j hj => by
  have h := wt_all A hv j hj
  rw [← mg_e A.1]
  exact h
section LWB
variable {G : hp_G} {K : hp_C} {M : hp_M} {bc bs : Nat} {n : Nat} {h : Nat → Option va_E} {pc : Nat}
/-- the comparison behind a call that answers yes or no -/
theorem l_tailB (C : hp_Cx G K M) (hl : K.2.1.stackTraces = false) {sc x y oo od : Nat} {i code r : Int32} {S : mo_T} {f' : Nat → Int64} {off : Int} (hS : Mo G h y S) (ho : h oo = some (.inl (G.2.2.1 3, 1, .inr (.inl f')))) (e1 : S.2 3 = code) (e2 : code = nI 0 → f' 0 = lw_zb r) (hM : M.2.2.1 = 9) (hMc : M.2.1 = "HorizonExchangeLaw") (hR : 0 + 1 ≤ (hp_Rm K).frames ∧ 8 + (1 + 11) + 64 * 0 ≤ (hp_Rm K).locals)
    (d0 : decode M.1 pc = .ok (.istore 7, 2)) (d2 : decode M.1 (pc + 2) = .ok (.aload_n 2, 1)) (d3 : decode M.1 (pc + 3) = .ok (.invokevirtual 154, 3)) (d6 : decode M.1 (pc + 6) = .ok (.iload 6, 2)) (d8 : decode M.1 (pc + 8) = .ok (.if_icmp .eq 5, 3)) (d13 : decode M.1 (pc + 13) = .ok (.iload 6, 2)) (d15 : decode M.1 (pc + 15) = .ok (.ifCond .ne 22, 3)) (d18 : decode M.1 (pc + 18) = .ok (.aload_n 3, 1)) (d19 : decode M.1 (pc + 19) = .ok (.iconst 0, 1)) (d20 : decode M.1 (pc + 20) = .ok (.laload, 1)) (d21 : decode M.1 (pc + 21) = .ok (.iload 7, 2)) (d23 : decode M.1 (pc + 23) = .ok (.ifCond .eq 7, 3)) (d26 : decode M.1 (pc + 26) = .ok (.lconst 1, 1)) (d27 : decode M.1 (pc + 27) = .ok (.goto 4, 3)) (d30 : decode M.1 (pc + 30) = .ok (.lconst 0, 1)) (d31 : decode M.1 (pc + 31) = .ok (.lcmp, 1)) (d32 : decode M.1 (pc + 32) = .ok (.ifCond .eq 5, 3)) (d37 : decode M.1 (pc + 37) = .ok (.goto off, 3)) (ht : ((pc + 37 : Nat) : Int) + off = ((2670 : Nat) : Int))
    (kk : V G K M bc bs (n, h) 2670 [some (.ref sc), some (.ref x), some (.ref y), some (.ref oo), some (.ref od), some (.int i), some (.int code), some (.int r), none] []) : V G K M bc bs (n, h) pc [some (.ref sc), some (.ref x), some (.ref y), some (.ref oo), some (.ref od), some (.int i), some (.int code), none, none] [.int r] := by
  refine v_istore C d0 (by rw [hM]; decide) ?_
  show V G K M bc bs (n, h) (pc + 2) [some (.ref sc), some (.ref x), some (.ref y), some (.ref oo), some (.ref od), some (.int i), some (.int code), some (.int r), none] []
  refine v_aload_n C d2 rfl ?_
  refine v_callVi C (c_X8_thrown hl hS) d3 mX8_thrown rfl hS.o rfl (by rw [hMc]; exact wd7_71) rfl rfl (Nat.le_of_ble_eq_true rfl) hR (Nat.zero_le _) (Nat.zero_le _) ?_
  refine v_iload C d6 rfl ?_
  refine v_icmp_eq (tgt := pc + 13) C d8 (by omega) (fun _ => ?_) (fun z => absurd e1 z)
  have out : V G K M bc bs (n, h) (pc + 37) [some (.ref sc), some (.ref x), some (.ref y), some (.ref oo), some (.ref od), some (.int i), some (.int code), some (.int r), none] [] := v_goto (tgt := 2670) C d37 ht kk
  refine v_iload C d13 rfl ?_
  refine v_if_ne (tgt := pc + 37) C d15 (by omega) (fun _ => out) (fun z => ?_)
  refine v_aload_n C d18 rfl ?_
  refine v_iconst (v := nI 0) C d19 (by decide) ?_
  refine v_lald C d20 ho (vp_in_nI (n := 0) (N := 1) (by decide) (by decide)) ?_
  refine v_iload C d21 rfl ?_
  refine v_if_eq (tgt := pc + 30) C d23 (by omega) (fun q => ?_) (fun q => ?_)
  · refine v_lconst (v := 0) C d30 rfl ?_
    refine v_lcmp C d31 ?_
    refine v_if_eq (tgt := pc + 37) C d32 (by omega) (fun _ => out) (fun y => absurd ((hp_lcmp0 _ _).mpr ?_) y)
    exact (e2 z).trans (if_pos q)
  · refine v_lconst (v := 1) C d26 rfl ?_
    refine v_goto (tgt := pc + 31) C d27 (by omega) ?_
    refine v_lcmp C d31 ?_
    refine v_if_eq (tgt := pc + 37) C d32 (by omega) (fun _ => out) (fun y => absurd ((hp_lcmp0 _ _).mpr ?_) y)
    exact (e2 z).trans (if_neg q)
end LWB
set_option maxHeartbeats 4000000 in
/-- case 14: isCalled -/
theorem law_c14 {G : hp_G} {K : hp_C} {sc L : Nat} {xs : Nat → Int32} {x w i n bc bs : Nat} {h : Nat → Option va_E} (B : Lb G K sc L x w i n bc bs) (J : Jo G sc L xs x w h) (kk : Lk G K sc L xs x w i bc bs) : V G K (ML_law K) bc bs (n, h) 1027 [some (.ref sc), some (.ref x), some (.ref (x + 148)), some (.ref (x + 161)), some (.ref (x + 162)), some (.int (nI i)), none, none, none] [] := by
  obtain ⟨C, hl, hR, hx, hi, hL, hw, hn, hbc, hbs⟩ := B
  obtain ⟨M, B, Z, mk, nx, cnt, t, n0, lt, ln, hs, ma, fa, rk, S, KL, v, E, hS, D, P, Jm0, hv, hsc, ⟨f, hO⟩, ⟨f2, hD⟩⟩ := J
  have hbase := E.base
  have H := P.2.1.1
  refine v_aload_n C dL_law_1027 rfl ?_
  refine l_arg C (j := 1) (i := i) hsc (by omega) hL rfl rfl (by decide) dL_law_1028 dL_law_1029 dL_law_1031 dL_law_1032 dL_law_1033 ?_
  refine v_aload_n C dL_law_1034 rfl ?_
  refine l_call C (x := x) (L0 := x + 163) (bO := x + 161) (c_L_isCalled hl (Nat.le_trans hbase (Nat.le_add_right _ _)) E.o (c_X7_isCalled hl E hn (xs (i + 1))) (fun τ hF => (hF.2.2.2 _ (Or.inr ⟨by omega, by omega⟩)).trans hO) qa_o) (by omega) (by omega) hO (fun τ hF => ⟨_, hF⟩) dL_law_1035 mL_isCalled wd4_106 rfl rfl (Nat.le_of_ble_eq_true rfl) (hR _ _ (by decide) (by decide)) (Nat.le_trans (by decide) hbc) (Nat.le_trans (by decide) hbs) (fun code f' n1 h1 E1 hn1 k1 k2 k3 k4 => ?_)
  obtain ⟨rk1, E1⟩ := E1
  refine v_istore C dL_law_1038 (Nat.le_of_ble_eq_true rfl) ?_
  show V G K _ _ _ (n1, h1) 1040 [some (.ref sc), some (.ref x), some (.ref (x + 148)), some (.ref (x + 161)), some (.ref (x + 162)), some (.int (nI i)), some (.int code), none, none] []
  have hS1 : Mo G h1 (x + 148) S := hS.same (fun a k5 k6 => k1 a (by omega) (by omega) (by omega))
  have hsc1 := (k2 sc hx).trans hsc
  have hD1 := (k1 (x + 162) (by omega) (by omega) (by omega)).trans hD
  refine v_aload_n C dL_law_1040 rfl ?_
  refine l_arg C (j := 1) (i := i) hsc1 (by omega) hL rfl rfl (by decide) dL_law_1041 dL_law_1042 dL_law_1044 dL_law_1045 dL_law_1046 ?_
  refine v_callVq C (c_X8_isCalled hl hS1 D.1 (xs (i + 1))) dL_law_1047 mX8_isCalled rfl hS1.o rfl wd8_0 rfl rfl (Nat.le_of_ble_eq_true rfl) (hR _ _ (by decide) (by decide)) (Nat.zero_le _) (Nat.zero_le _) (fun r n2 h2 q => ?_)
  obtain ⟨q1, q2, q3, q4⟩ := q
  obtain ⟨c1, c2⟩ := lr_g k4
  obtain ⟨D2, e3⟩ := D.s3 (mo_cd (hp_num (xs (i + 1)) (mk_tr M)))
  refine l_tailB C hl q3 ((q4 _ (by omega)).trans k3) (e3.trans c1.symm) (fun z => ?_) rfl rfl (hR 0 1 (by decide) (by decide)) dL_law_1050 dL_law_1052 dL_law_1053 dL_law_1056 dL_law_1058 dL_law_1063 dL_law_1065 dL_law_1068 dL_law_1069 dL_law_1070 dL_law_1071 dL_law_1073 dL_law_1076 dL_law_1077 dL_law_1080 dL_law_1081 dL_law_1082 dL_law_1087 (by decide) ?_
  · obtain ⟨z1, z2⟩ := c2 z
    rw [q1, hp_b_iff (and_iff_right z1)]
    exact z2
  · exact v_widen (by omega) (by omega) (kk n2 h2 _ _ _ (by omega) (Jo.mk2 E1 q4 q3 D2 P Jm0 (by omega) hx hsc1 k3 hD1))
set_option maxHeartbeats 4000000 in
/-- case 15: hasDefaulted -/
theorem law_c15 {G : hp_G} {K : hp_C} {sc L : Nat} {xs : Nat → Int32} {x w i n bc bs : Nat} {h : Nat → Option va_E} (B : Lb G K sc L x w i n bc bs) (J : Jo G sc L xs x w h) (kk : Lk G K sc L xs x w i bc bs) : V G K (ML_law K) bc bs (n, h) 1090 [some (.ref sc), some (.ref x), some (.ref (x + 148)), some (.ref (x + 161)), some (.ref (x + 162)), some (.int (nI i)), none, none, none] [] := by
  obtain ⟨C, hl, hR, hx, hi, hL, hw, hn, hbc, hbs⟩ := B
  obtain ⟨M, B, Z, mk, nx, cnt, t, n0, lt, ln, hs, ma, fa, rk, S, KL, v, E, hS, D, P, Jm0, hv, hsc, ⟨f, hO⟩, ⟨f2, hD⟩⟩ := J
  have hbase := E.base
  have H := P.2.1.1
  refine v_aload_n C dL_law_1090 rfl ?_
  refine l_arg C (j := 1) (i := i) hsc (by omega) hL rfl rfl (by decide) dL_law_1091 dL_law_1092 dL_law_1094 dL_law_1095 dL_law_1096 ?_
  refine v_aload_n C dL_law_1097 rfl ?_
  refine l_call C (x := x) (L0 := x + 163) (bO := x + 161) (c_L_hasDefaulted hl (Nat.le_trans hbase (Nat.le_add_right _ _)) E.o (c_X7_hasDefaulted hl E hn (xs (i + 1))) (fun τ hF => (hF.2.2.2 _ (Or.inr ⟨by omega, by omega⟩)).trans hO) qa_o) (by omega) (by omega) hO (fun τ hF => ⟨_, hF⟩) dL_law_1098 mL_hasDefaulted wd4_113 rfl rfl (Nat.le_of_ble_eq_true rfl) (hR _ _ (by decide) (by decide)) (Nat.le_trans (by decide) hbc) (Nat.le_trans (by decide) hbs) (fun code f' n1 h1 E1 hn1 k1 k2 k3 k4 => ?_)
  obtain ⟨rk1, E1⟩ := E1
  refine v_istore C dL_law_1101 (Nat.le_of_ble_eq_true rfl) ?_
  show V G K _ _ _ (n1, h1) 1103 [some (.ref sc), some (.ref x), some (.ref (x + 148)), some (.ref (x + 161)), some (.ref (x + 162)), some (.int (nI i)), some (.int code), none, none] []
  have hS1 : Mo G h1 (x + 148) S := hS.same (fun a k5 k6 => k1 a (by omega) (by omega) (by omega))
  have hsc1 := (k2 sc hx).trans hsc
  have hD1 := (k1 (x + 162) (by omega) (by omega) (by omega)).trans hD
  refine v_aload_n C dL_law_1103 rfl ?_
  refine l_arg C (j := 1) (i := i) hsc1 (by omega) hL rfl rfl (by decide) dL_law_1104 dL_law_1105 dL_law_1107 dL_law_1108 dL_law_1109 ?_
  refine v_callVq C (c_X8_hasDefaulted hl hS1 D.1 (xs (i + 1))) dL_law_1110 mX8_hasDefaulted rfl hS1.o rfl wd8_4 rfl rfl (Nat.le_of_ble_eq_true rfl) (hR _ _ (by decide) (by decide)) (Nat.zero_le _) (Nat.zero_le _) (fun r n2 h2 q => ?_)
  obtain ⟨q1, q2, q3, q4⟩ := q
  obtain ⟨c1, c2⟩ := lr_g k4
  obtain ⟨D2, e3⟩ := D.s3 (mo_cd (hp_num (xs (i + 1)) (mk_tr M)))
  refine l_tailB C hl q3 ((q4 _ (by omega)).trans k3) (e3.trans c1.symm) (fun z => ?_) rfl rfl (hR 0 1 (by decide) (by decide)) dL_law_1113 dL_law_1115 dL_law_1116 dL_law_1119 dL_law_1121 dL_law_1126 dL_law_1128 dL_law_1131 dL_law_1132 dL_law_1133 dL_law_1134 dL_law_1136 dL_law_1139 dL_law_1140 dL_law_1143 dL_law_1144 dL_law_1145 dL_law_1150 (by decide) ?_
  · obtain ⟨z1, z2⟩ := c2 z
    rw [q1, hp_b_iff (and_iff_right z1)]
    exact z2
  · exact v_widen (by omega) (by omega) (kk n2 h2 _ _ _ (by omega) (Jo.mk2 E1 q4 q3 D2 P Jm0 (by omega) hx hsc1 k3 hD1))
set_option maxHeartbeats 4000000 in
/-- case 40: writeContract -/
theorem law_c40 {G : hp_G} {K : hp_C} {sc L : Nat} {xs : Nat → Int32} {x w i n bc bs : Nat} {h : Nat → Option va_E} (B : Lb G K sc L x w i n bc bs) (J : Jo G sc L xs x w h) (kk : Lk G K sc L xs x w i bc bs) : V G K (ML_law K) bc bs (n, h) 2198 [some (.ref sc), some (.ref x), some (.ref (x + 148)), some (.ref (x + 161)), some (.ref (x + 162)), some (.int (nI i)), none, none, none] [] := by
  obtain ⟨C, hl, hR, hx, hi, hL, hw, hn, hbc, hbs⟩ := B
  obtain ⟨M, B, Z, mk, nx, cnt, t, n0, lt, ln, hs, ma, fa, rk, S, KL, v, E, hS, D, P, Jm0, hv, hsc, ⟨f, hO⟩, ⟨f2, hD⟩⟩ := J
  have hbase := E.base
  have H := P.2.1.1
  refine v_aload_n C dL_law_2198 rfl ?_
  refine l_arg C (j := 1) (i := i) hsc (by omega) hL rfl rfl (by decide) dL_law_2199 dL_law_2200 dL_law_2202 dL_law_2203 dL_law_2204 ?_
  refine v_aload_n C dL_law_2205 rfl ?_
  refine l_call C (x := x) (L0 := x + 163) (bO := x + 161) (c_L_writeContract hl (Nat.le_trans hbase (Nat.le_add_right _ _)) E.o (c_X7_writeContract hl E hn (xs (i + 1)) (wc_all P.2.1 (by omega))) (fun τ hF => (hF.2.2.2 _ (Or.inr ⟨by omega, by omega⟩)).trans hO) qa_o) (by omega) (by omega) hO (fun τ hF => ⟨_, hF⟩) dL_law_2206 mL_writeContract wd5_37 rfl rfl (Nat.le_of_ble_eq_true rfl) (hR _ _ (by decide) (by decide)) (Nat.le_trans (by decide) hbc) (Nat.le_trans (by decide) hbs) (fun code f' n1 h1 E1 hn1 k1 k2 k3 k4 => ?_)
  obtain ⟨rk1, E1⟩ := E1
  refine v_istore C dL_law_2209 (Nat.le_of_ble_eq_true rfl) ?_
  show V G K _ _ _ (n1, h1) 2211 [some (.ref sc), some (.ref x), some (.ref (x + 148)), some (.ref (x + 161)), some (.ref (x + 162)), some (.int (nI i)), some (.int code), none, none] []
  have hS1 : Mo G h1 (x + 148) S := hS.same (fun a k5 k6 => k1 a (by omega) (by omega) (by omega))
  have hsc1 := (k2 sc hx).trans hsc
  have hD1 := (k1 (x + 162) (by omega) (by omega) (by omega)).trans hD
  refine v_aload_n C dL_law_2211 rfl ?_
  refine l_arg C (j := 1) (i := i) hsc1 (by omega) hL rfl rfl (by decide) dL_law_2212 dL_law_2213 dL_law_2215 dL_law_2216 dL_law_2217 ?_
  refine v_callVq C (c_X8_writeContract hl hS1 D.1 (xs (i + 1)) D.2.2.2.2.2.2.1 (wc_all P.2.1 (by omega))) dL_law_2218 mX8_writeContract rfl hS1.o rfl wd8_120 rfl rfl (Nat.le_of_ble_eq_true rfl) (hR _ _ (by decide) (by decide)) (Nat.zero_le _) (Nat.zero_le _) (fun r n2 h2 q => ?_)
  obtain ⟨q1, q2, ⟨S2, q3, y6, w6, t6⟩, q4⟩ := q
  obtain ⟨c1, c2⟩ := lr_g k4
  have el : (if hp_num (xs (i + 1)) (mk_ct M) then wc_l M (xs (i + 1)).toNatClampNeg else (ln, lt)) = (wc_n M (xs (i + 1)) ln, wc_t M (xs (i + 1)) lt) := by
    unfold wc_n wc_t
    by_cases z : hp_num (xs (i + 1)) (mk_ct M)
    · rw [if_pos z, if_pos z, if_pos z]
    · rw [if_neg z, if_neg z, if_neg z]
  rw [el] at y6
  have D2 := D.lq w6 y6
  refine l_tailI C hl q3 ((q4 _ (by omega)).trans k3) (t6.trans c1.symm) (fun z => ?_) rfl rfl (hR 0 1 (by decide) (by decide)) dL_law_2221 dL_law_2223 dL_law_2224 dL_law_2227 dL_law_2229 dL_law_2234 dL_law_2236 dL_law_2239 dL_law_2240 dL_law_2241 dL_law_2242 dL_law_2244 dL_law_2245 dL_law_2246 dL_law_2251 (by decide) ?_
  · obtain ⟨z1, z2⟩ := c2 z
    rw [q1, if_pos z1]
    exact z2
  · exact v_widen (by omega) (by omega) (kk n2 h2 _ _ _ (by omega) (Jo.mk2 E1 q4 q3 D2 P Jm0 (by omega) hx hsc1 k3 hD1))
set_option maxHeartbeats 4000000 in
/-- case 41: writeTrader -/
theorem law_c41 {G : hp_G} {K : hp_C} {sc L : Nat} {xs : Nat → Int32} {x w i n bc bs : Nat} {h : Nat → Option va_E} (B : Lb G K sc L x w i n bc bs) (J : Jo G sc L xs x w h) (kk : Lk G K sc L xs x w i bc bs) : V G K (ML_law K) bc bs (n, h) 2254 [some (.ref sc), some (.ref x), some (.ref (x + 148)), some (.ref (x + 161)), some (.ref (x + 162)), some (.int (nI i)), none, none, none] [] := by
  obtain ⟨C, hl, hR, hx, hi, hL, hw, hn, hbc, hbs⟩ := B
  obtain ⟨M, B, Z, mk, nx, cnt, t, n0, lt, ln, hs, ma, fa, rk, S, KL, v, E, hS, D, P, Jm0, hv, hsc, ⟨f, hO⟩, ⟨f2, hD⟩⟩ := J
  have hbase := E.base
  have H := P.2.1.1
  refine v_aload_n C dL_law_2254 rfl ?_
  refine l_arg C (j := 1) (i := i) hsc (by omega) hL rfl rfl (by decide) dL_law_2255 dL_law_2256 dL_law_2258 dL_law_2259 dL_law_2260 ?_
  refine v_aload_n C dL_law_2261 rfl ?_
  refine l_call C (x := x) (L0 := x + 163) (bO := x + 161) (c_L_writeTrader hl (Nat.le_trans hbase (Nat.le_add_right _ _)) E.o (c_X7_writeTrader hl E hn (xs (i + 1)) (wt_all P.2.1 (by omega))) (fun τ hF => (hF.2.2.2 _ (Or.inr ⟨by omega, by omega⟩)).trans hO) qa_o) (by omega) (by omega) hO (fun τ hF => ⟨_, hF⟩) dL_law_2262 mL_writeTrader wd6_79 rfl rfl (Nat.le_of_ble_eq_true rfl) (hR _ _ (by decide) (by decide)) (Nat.le_trans (by decide) hbc) (Nat.le_trans (by decide) hbs) (fun code f' n1 h1 E1 hn1 k1 k2 k3 k4 => ?_)
  obtain ⟨rk1, E1⟩ := E1
  refine v_istore C dL_law_2265 (Nat.le_of_ble_eq_true rfl) ?_
  show V G K _ _ _ (n1, h1) 2267 [some (.ref sc), some (.ref x), some (.ref (x + 148)), some (.ref (x + 161)), some (.ref (x + 162)), some (.int (nI i)), some (.int code), none, none] []
  have hS1 : Mo G h1 (x + 148) S := hS.same (fun a k5 k6 => k1 a (by omega) (by omega) (by omega))
  have hsc1 := (k2 sc hx).trans hsc
  have hD1 := (k1 (x + 162) (by omega) (by omega) (by omega)).trans hD
  refine v_aload_n C dL_law_2267 rfl ?_
  refine l_arg C (j := 1) (i := i) hsc1 (by omega) hL rfl rfl (by decide) dL_law_2268 dL_law_2269 dL_law_2271 dL_law_2272 dL_law_2273 ?_
  refine v_callVq C (c_X8_writeTrader hl hS1 D.1 (xs (i + 1)) D.2.2.2.2.2.2.1 (mt_all P.2.1 (by omega))) dL_law_2274 mX8_writeTrader rfl hS1.o rfl wd8_136 rfl rfl (Nat.le_of_ble_eq_true rfl) (hR _ _ (by decide) (by decide)) (Nat.zero_le _) (Nat.zero_le _) (fun r n2 h2 q => ?_)
  obtain ⟨q1, q2, ⟨S2, q3, y6, w6, t6⟩, q4⟩ := q
  obtain ⟨c1, c2⟩ := lr_g k4
  have el : (if hp_num (xs (i + 1)) (mk_tr M) then mt_l M (xs (i + 1)).toNatClampNeg else (ln, lt)) = (wt_n M (xs (i + 1)) ln, wt_t M (xs (i + 1)) lt) := by
    unfold wt_n wt_t
    by_cases z : hp_num (xs (i + 1)) (mk_tr M)
    · rw [if_pos z, if_pos z, if_pos z, wt_e H]
    · rw [if_neg z, if_neg z, if_neg z]
  rw [el] at y6
  have D2 := D.lq w6 y6
  refine l_tailI C hl q3 ((q4 _ (by omega)).trans k3) (t6.trans c1.symm) (fun z => ?_) rfl rfl (hR 0 1 (by decide) (by decide)) dL_law_2277 dL_law_2279 dL_law_2280 dL_law_2283 dL_law_2285 dL_law_2290 dL_law_2292 dL_law_2295 dL_law_2296 dL_law_2297 dL_law_2298 dL_law_2300 dL_law_2301 dL_law_2302 dL_law_2307 (by decide) ?_
  · obtain ⟨z1, z2⟩ := c2 z
    rw [q1, if_pos z1, ← wt_e H]
    exact z2
  · exact v_widen (by omega) (by omega) (kk n2 h2 _ _ _ (by omega) (Jo.mk2 E1 q4 q3 D2 P Jm0 (by omega) hx hsc1 k3 hD1))

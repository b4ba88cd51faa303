/-! ===== THE LAW: the line, the errors, undo, restore, ranks ===== -/
theorem jm_cd {a : Int32} (h : a = -1 ∨ ¬ a < 0) : (if a < 0 then nI 1 else nI 0) = mo_cd (¬ a = -1) ∧ (¬ a = -1 → ¬ a < 0) := by
  unfold mo_cd
  rcases h with h | h
  · subst h
    exact ⟨by decide, fun y => absurd rfl y⟩
  · have q : ¬ a = -1 := fun y => h (by rw [y]; decide)
    rw [if_neg h, if_pos q]
    exact ⟨rfl, fun _ => h⟩
theorem un_q (cnt : Nat) : un_a cnt = qa (¬ cnt = 0) "java/lang/IllegalStateException" (rI (nI (cnt - 1))) := by
  unfold un_a qa
  by_cases z : cnt = 0
  · rw [if_pos z, if_neg (fun y => y z)]
  · rw [if_neg z, if_pos z]
theorem cd_n {p : Prop} [Decidable p] : (if p then nI 1 else nI 0) = mo_cd (¬ p) := by
  unfold mo_cd
  by_cases z : p
  · rw [if_pos z, if_neg (fun y => y z)]
  · rw [if_neg z, if_pos z]
set_option maxHeartbeats 4000000 in
/-- case 42: lineAt -/
theorem law_c42 {G : hp_G} {K : hp_C} {sc L : Nat} {xs : Nat → Int32} {x w i n bc bs : Nat} {h : Nat → Option va_E} (B : Lb G K sc L x w i n bc bs) (J : Jo G sc L xs x w h) (kk : Lk G K sc L xs x w i bc bs) : V G K (ML_law K) bc bs (n, h) 2310 [some (.ref sc), some (.ref x), some (.ref (x + 148)), some (.ref (x + 161)), some (.ref (x + 162)), some (.int (nI i)), none, none, none] [] := by
  obtain ⟨C, hl, hR, hx, hi, hL, hw, hn, hbc, hbs⟩ := B
  obtain ⟨M, B, Z, mk, nx, cnt, t, n0, lt, ln, hs, ma, fa, rk, S, KL, v, E, hS, D, P, Jm0, hv, hsc, ⟨f, hO⟩, ⟨f2, hD⟩⟩ := J
  have hbase := E.base
  have H := P.2.1.1
  refine v_aload_n C dL_law_2310 rfl ?_
  refine l_arg C (j := 1) (i := i) hsc (by omega) hL rfl rfl (by decide) dL_law_2311 dL_law_2312 dL_law_2314 dL_law_2315 dL_law_2316 ?_
  refine v_aload_n C dL_law_2317 rfl ?_
  refine l_call C (x := x) (L0 := x + 163) (bO := x + 161) (c_L_lineAt hl (Nat.le_trans hbase (Nat.le_add_right _ _)) E.o (c_X7_lineAt hl E hn (xs (i + 1))) (fun τ hF => (hF.2.2.2 _ (Or.inr ⟨by omega, by omega⟩)).trans hO) qa_o) (by omega) (by omega) hO (fun τ hF => ⟨_, hF⟩) dL_law_2318 mL_lineAt wd6_86 rfl rfl (Nat.le_of_ble_eq_true rfl) (hR _ _ (by decide) (by decide)) (Nat.le_trans (by decide) hbc) (Nat.le_trans (by decide) hbs) (fun code f' n1 h1 E1 hn1 k1 k2 k3 k4 => ?_)
  obtain ⟨rk1, E1⟩ := E1
  refine v_istore C dL_law_2321 (Nat.le_of_ble_eq_true rfl) ?_
  show V G K _ _ _ (n1, h1) 2323 [some (.ref sc), some (.ref x), some (.ref (x + 148)), some (.ref (x + 161)), some (.ref (x + 162)), some (.int (nI i)), some (.int code), none, none] []
  have hS1 : Mo G h1 (x + 148) S := hS.same (fun a k5 k6 => k1 a (by omega) (by omega) (by omega))
  have hsc1 := (k2 sc hx).trans hsc
  have hD1 := (k1 (x + 162) (by omega) (by omega) (by omega)).trans hD
  refine v_aload_n C dL_law_2323 rfl ?_
  refine l_arg C (j := 1) (i := i) hsc1 (by omega) hL rfl rfl (by decide) dL_law_2324 dL_law_2325 dL_law_2327 dL_law_2328 dL_law_2329 ?_
  refine v_callVq C (c_X8_lineAt hl hS1 D.2.2.2.2.2.2.1 (xs (i + 1))) dL_law_2330 mX8_lineAt rfl hS1.o rfl wd8_140 rfl rfl (Nat.le_of_ble_eq_true rfl) (hR _ _ (by decide) (by decide)) (Nat.zero_le _) (Nat.zero_le _) (fun r n2 h2 q => ?_)
  obtain ⟨q1, q2, q3, q4⟩ := q
  obtain ⟨c1, c2⟩ := lr_g k4
  obtain ⟨D2, e3⟩ := D.s3 (mo_cd (hp_num (xs (i + 1)) ln))
  refine l_tailI C hl q3 ((q4 _ (by omega)).trans k3) (e3.trans c1.symm) (fun z => ?_) rfl rfl (hR 0 1 (by decide) (by decide)) dL_law_2333 dL_law_2335 dL_law_2336 dL_law_2339 dL_law_2341 dL_law_2346 dL_law_2348 dL_law_2351 dL_law_2352 dL_law_2353 dL_law_2354 dL_law_2356 dL_law_2357 dL_law_2358 dL_law_2363 (by decide) ?_
  · obtain ⟨z1, z2⟩ := c2 z
    have q1 : r = (if hp_num (xs (i + 1)) ln then nI (lt (xs (i + 1)).toNatClampNeg) else nI 32) := q1
    rw [q1, if_pos z1]
    exact z2
  · exact v_widen (by omega) (by omega) (kk n2 h2 _ _ _ (by omega) (Jo.mk2 E1 q4 q3 D2 P Jm0 (by omega) hx hsc1 k3 hD1))
set_option maxHeartbeats 4000000 in
/-- case 46: errorPosition -/
theorem law_c46 {G : hp_G} {K : hp_C} {sc L : Nat} {xs : Nat → Int32} {x w i n bc bs : Nat} {h : Nat → Option va_E} (B : Lb G K sc L x w i n bc bs) (J : Jo G sc L xs x w h) (kk : Lk G K sc L xs x w i bc bs) : V G K (ML_law K) bc bs (n, h) 2481 [some (.ref sc), some (.ref x), some (.ref (x + 148)), some (.ref (x + 161)), some (.ref (x + 162)), some (.int (nI i)), none, none, none] [] := by
  obtain ⟨C, hl, hR, hx, hi, hL, hw, hn, hbc, hbs⟩ := B
  obtain ⟨M, B, Z, mk, nx, cnt, t, n0, lt, ln, hs, ma, fa, rk, S, KL, v, E, hS, D, P, Jm0, hv, hsc, ⟨f, hO⟩, ⟨f2, hD⟩⟩ := J
  have hbase := E.base
  have H := P.2.1.1
  refine v_aload_n C dL_law_2481 rfl ?_
  refine v_aload_n C dL_law_2482 rfl ?_
  refine l_call C (x := x) (L0 := x + 163) (bO := x + 161) (c_L_errorPosition hl (Nat.le_trans hbase (Nat.le_add_right _ _)) E.o (c_X7_errorPosition hl E hn ) (fun τ hF => (hF.2.2.2 _ (Or.inr ⟨by omega, by omega⟩)).trans hO) qa_o) (by omega) (by omega) hO (fun τ hF => ⟨_, hF⟩) dL_law_2483 mL_errorPosition wd6_195 rfl rfl (Nat.le_of_ble_eq_true rfl) (hR _ _ (by decide) (by decide)) (Nat.le_trans (by decide) hbc) (Nat.le_trans (by decide) hbs) (fun code f' n1 h1 E1 hn1 k1 k2 k3 k4 => ?_)
  obtain ⟨rk1, E1⟩ := E1
  refine v_istore C dL_law_2486 (Nat.le_of_ble_eq_true rfl) ?_
  show V G K _ _ _ (n1, h1) 2488 [some (.ref sc), some (.ref x), some (.ref (x + 148)), some (.ref (x + 161)), some (.ref (x + 162)), some (.int (nI i)), some (.int code), none, none] []
  have hS1 : Mo G h1 (x + 148) S := hS.same (fun a k5 k6 => k1 a (by omega) (by omega) (by omega))
  have hsc1 := (k2 sc hx).trans hsc
  have hD1 := (k1 (x + 162) (by omega) (by omega) (by omega)).trans hD
  refine v_aload_n C dL_law_2488 rfl ?_
  refine v_callVq C (c_X8_errorPosition hl hS1) dL_law_2489 mX8_errorPosition rfl hS1.o rfl wd8_210 rfl rfl (Nat.le_of_ble_eq_true rfl) (hR _ _ (by decide) (by decide)) (Nat.zero_le _) (Nat.zero_le _) (fun r n2 h2 q => ?_)
  obtain ⟨q1, q2, q3, q4⟩ := q
  obtain ⟨c1, c2⟩ := lr_g k4
  have e5 : S.2 5 = ma := D.2.2.2.2.2.2.2.1
  obtain ⟨j1, j2⟩ := jm_cd Jm0.1
  rw [e5] at q1 q3
  obtain ⟨D2, e3⟩ := D.s3 (if ma < 0 then nI 1 else nI 0)
  refine l_tailI C hl q3 ((q4 _ (by omega)).trans k3) ((e3.trans j1).trans c1.symm) (fun z => ?_) rfl rfl (hR 0 1 (by decide) (by decide)) dL_law_2492 dL_law_2494 dL_law_2495 dL_law_2498 dL_law_2500 dL_law_2505 dL_law_2507 dL_law_2510 dL_law_2511 dL_law_2512 dL_law_2513 dL_law_2515 dL_law_2516 dL_law_2517 dL_law_2522 (by decide) ?_
  · obtain ⟨z1, z2⟩ := c2 z
    rw [q1, if_neg (j2 z1)]
    exact z2
  · exact v_widen (by omega) (by omega) (kk n2 h2 _ _ _ (by omega) (Jo.mk2 E1 q4 q3 D2 P Jm0 (by omega) hx hsc1 k3 hD1))
set_option maxHeartbeats 4000000 in
/-- case 47: failedCommand -/
theorem law_c47 {G : hp_G} {K : hp_C} {sc L : Nat} {xs : Nat → Int32} {x w i n bc bs : Nat} {h : Nat → Option va_E} (B : Lb G K sc L x w i n bc bs) (J : Jo G sc L xs x w h) (kk : Lk G K sc L xs x w i bc bs) : V G K (ML_law K) bc bs (n, h) 2525 [some (.ref sc), some (.ref x), some (.ref (x + 148)), some (.ref (x + 161)), some (.ref (x + 162)), some (.int (nI i)), none, none, none] [] := by
  obtain ⟨C, hl, hR, hx, hi, hL, hw, hn, hbc, hbs⟩ := B
  obtain ⟨M, B, Z, mk, nx, cnt, t, n0, lt, ln, hs, ma, fa, rk, S, KL, v, E, hS, D, P, Jm0, hv, hsc, ⟨f, hO⟩, ⟨f2, hD⟩⟩ := J
  have hbase := E.base
  have H := P.2.1.1
  refine v_aload_n C dL_law_2525 rfl ?_
  refine v_aload_n C dL_law_2526 rfl ?_
  refine l_call C (x := x) (L0 := x + 163) (bO := x + 161) (c_L_failedCommand hl (Nat.le_trans hbase (Nat.le_add_right _ _)) E.o (c_X7_failedCommand hl E hn ) (fun τ hF => (hF.2.2.2 _ (Or.inr ⟨by omega, by omega⟩)).trans hO) qa_o) (by omega) (by omega) hO (fun τ hF => ⟨_, hF⟩) dL_law_2527 mL_failedCommand wd6_203 rfl rfl (Nat.le_of_ble_eq_true rfl) (hR _ _ (by decide) (by decide)) (Nat.le_trans (by decide) hbc) (Nat.le_trans (by decide) hbs) (fun code f' n1 h1 E1 hn1 k1 k2 k3 k4 => ?_)
  obtain ⟨rk1, E1⟩ := E1
  refine v_istore C dL_law_2530 (Nat.le_of_ble_eq_true rfl) ?_
  show V G K _ _ _ (n1, h1) 2532 [some (.ref sc), some (.ref x), some (.ref (x + 148)), some (.ref (x + 161)), some (.ref (x + 162)), some (.int (nI i)), some (.int code), none, none] []
  have hS1 : Mo G h1 (x + 148) S := hS.same (fun a k5 k6 => k1 a (by omega) (by omega) (by omega))
  have hsc1 := (k2 sc hx).trans hsc
  have hD1 := (k1 (x + 162) (by omega) (by omega) (by omega)).trans hD
  refine v_aload_n C dL_law_2532 rfl ?_
  refine v_callVq C (c_X8_failedCommand hl hS1) dL_law_2533 mX8_failedCommand rfl hS1.o rfl wd8_214 rfl rfl (Nat.le_of_ble_eq_true rfl) (hR _ _ (by decide) (by decide)) (Nat.zero_le _) (Nat.zero_le _) (fun r n2 h2 q => ?_)
  obtain ⟨q1, q2, q3, q4⟩ := q
  obtain ⟨c1, c2⟩ := lr_g k4
  have e5 : S.2 6 = fa := D.2.2.2.2.2.2.2.2
  obtain ⟨j1, j2⟩ := jm_cd Jm0.2
  rw [e5] at q1 q3
  obtain ⟨D2, e3⟩ := D.s3 (if fa < 0 then nI 1 else nI 0)
  refine l_tailI C hl q3 ((q4 _ (by omega)).trans k3) ((e3.trans j1).trans c1.symm) (fun z => ?_) rfl rfl (hR 0 1 (by decide) (by decide)) dL_law_2536 dL_law_2538 dL_law_2539 dL_law_2542 dL_law_2544 dL_law_2549 dL_law_2551 dL_law_2554 dL_law_2555 dL_law_2556 dL_law_2557 dL_law_2559 dL_law_2560 dL_law_2561 dL_law_2566 (by decide) ?_
  · obtain ⟨z1, z2⟩ := c2 z
    rw [q1, if_neg (j2 z1)]
    exact z2
  · exact v_widen (by omega) (by omega) (kk n2 h2 _ _ _ (by omega) (Jo.mk2 E1 q4 q3 D2 P Jm0 (by omega) hx hsc1 k3 hD1))
set_option maxHeartbeats 4000000 in
/-- case 48: undo -/
theorem law_c48 {G : hp_G} {K : hp_C} {sc L : Nat} {xs : Nat → Int32} {x w i n bc bs : Nat} {h : Nat → Option va_E} (B : Lb G K sc L x w i n bc bs) (J : Jo G sc L xs x w h) (kk : Lk G K sc L xs x w i bc bs) : V G K (ML_law K) bc bs (n, h) 2569 [some (.ref sc), some (.ref x), some (.ref (x + 148)), some (.ref (x + 161)), some (.ref (x + 162)), some (.int (nI i)), none, none, none] [] := by
  obtain ⟨C, hl, hR, hx, hi, hL, hw, hn, hbc, hbs⟩ := B
  obtain ⟨M, B, Z, mk, nx, cnt, t, n0, lt, ln, hs, ma, fa, rk, S, KL, v, E, hS, D, P, Jm0, hv, hsc, ⟨f, hO⟩, ⟨f2, hD⟩⟩ := J
  have hbase := E.base
  have H := P.2.1.1
  refine v_aload_n C dL_law_2569 rfl ?_
  refine v_aload_n C dL_law_2570 rfl ?_
  refine l_call C (x := x) (L0 := x + 163) (bO := x + 161) (c_L_undo hl (Nat.le_trans hbase (Nat.le_add_right _ _)) E.o (c_X7_undo hl E hn ) (fun τ hF => (hF.2.2.2 _ (Or.inr ⟨by omega, by omega⟩)).trans hO) (by rw [un_q]; exact qa_o)) (by omega) (by omega) hO (fun τ hF => ⟨_, hF⟩) dL_law_2571 mL_undo wd6_211 rfl rfl (Nat.le_of_ble_eq_true rfl) (hR _ _ (by decide) (by decide)) (Nat.le_trans (by decide) hbc) (Nat.le_trans (by decide) hbs) (fun code f' n1 h1 E1 hn1 k1 k2 k3 k4 => ?_)
  obtain ⟨rk1, E1⟩ := E1
  refine v_istore C dL_law_2574 (Nat.le_of_ble_eq_true rfl) ?_
  show V G K _ _ _ (n1, h1) 2576 [some (.ref sc), some (.ref x), some (.ref (x + 148)), some (.ref (x + 161)), some (.ref (x + 162)), some (.int (nI i)), some (.int code), none, none] []
  have hS1 : Mo G h1 (x + 148) S := hS.same (fun a k5 k6 => k1 a (by omega) (by omega) (by omega))
  have hsc1 := (k2 sc hx).trans hsc
  have hD1 := (k1 (x + 162) (by omega) (by omega) (by omega)).trans hD
  refine v_aload_n C dL_law_2576 rfl ?_
  refine v_callVq C (c_X8_undo hl hS1 D.2.1.1 D.2.1.2.1) dL_law_2577 mX8_undo rfl hS1.o rfl wd8_218 rfl rfl (Nat.le_of_ble_eq_true rfl) (hR _ _ (by decide) (by decide)) (Nat.zero_le _) (Nat.zero_le _) (fun r n2 h2 q => ?_)
  obtain ⟨q1, q2, q3, q4⟩ := q
  rw [un_q] at k4
  obtain ⟨c1, c2⟩ := lr_g k4
  obtain ⟨D2, e3⟩ := D.un
  obtain ⟨P2, e4⟩ := P.un
  rw [e4] at E1
  refine l_tailI C hl q3 ((q4 _ (by omega)).trans k3) ((e3.trans cd_n).trans c1.symm) (fun z => ?_) rfl rfl (hR 0 1 (by decide) (by decide)) dL_law_2580 dL_law_2582 dL_law_2583 dL_law_2586 dL_law_2588 dL_law_2593 dL_law_2595 dL_law_2598 dL_law_2599 dL_law_2600 dL_law_2601 dL_law_2603 dL_law_2604 dL_law_2605 dL_law_2610 (by decide) ?_
  · obtain ⟨z1, z2⟩ := c2 z
    rw [q1, if_neg z1]
    exact z2
  · exact v_widen (by omega) (by omega) (kk n2 h2 _ _ _ (by omega) (Jo.mk2 E1 q4 q3 D2 P2 Jm0 (by omega) hx hsc1 k3 hD1))
set_option maxHeartbeats 4000000 in
/-- case 50: restore -/
theorem law_c50 {G : hp_G} {K : hp_C} {sc L : Nat} {xs : Nat → Int32} {x w i n bc bs : Nat} {h : Nat → Option va_E} (B : Lb G K sc L x w i n bc bs) (J : Jo G sc L xs x w h) (kk : Lk G K sc L xs x w i bc bs) : V G K (ML_law K) bc bs (n, h) 2626 [some (.ref sc), some (.ref x), some (.ref (x + 148)), some (.ref (x + 161)), some (.ref (x + 162)), some (.int (nI i)), none, none, none] [] := by
  obtain ⟨C, hl, hR, hx, hi, hL, hw, hn, hbc, hbs⟩ := B
  obtain ⟨M, B, Z, mk, nx, cnt, t, n0, lt, ln, hs, ma, fa, rk, S, KL, v, E, hS, D, P, Jm0, hv, hsc, ⟨f, hO⟩, ⟨f2, hD⟩⟩ := J
  have hbase := E.base
  have H := P.2.1.1
  refine v_aload_n C dL_law_2626 rfl ?_
  refine v_aload_n C dL_law_2627 rfl ?_
  refine l_call C (x := x) (L0 := x + 163) (bO := x + 161) (c_L_restore hl (Nat.le_trans hbase (Nat.le_add_right _ _)) E.o (c_X7_restore hl E hn ) (fun τ hF => (hF.2.2.2 _ (Or.inr ⟨by omega, by omega⟩)).trans hO) qa_o) (by omega) (by omega) hO (fun τ hF => ⟨_, hF⟩) dL_law_2628 mL_restore wd6_223 rfl rfl (Nat.le_of_ble_eq_true rfl) (hR _ _ (by decide) (by decide)) (Nat.le_trans (by decide) hbc) (Nat.le_trans (by decide) hbs) (fun code f' n1 h1 E1 hn1 k1 k2 k3 k4 => ?_)
  obtain ⟨rk1, E1⟩ := E1
  refine v_istore C dL_law_2631 (Nat.le_of_ble_eq_true rfl) ?_
  show V G K _ _ _ (n1, h1) 2633 [some (.ref sc), some (.ref x), some (.ref (x + 148)), some (.ref (x + 161)), some (.ref (x + 162)), some (.int (nI i)), some (.int code), none, none] []
  have hS1 : Mo G h1 (x + 148) S := hS.same (fun a k5 k6 => k1 a (by omega) (by omega) (by omega))
  have hsc1 := (k2 sc hx).trans hsc
  have hD1 := (k1 (x + 162) (by omega) (by omega) (by omega)).trans hD
  refine v_aload_n C dL_law_2633 rfl ?_
  refine v_callVq C (c_X8_restore hl hS1) dL_law_2634 mX8_restore rfl hS1.o rfl wd8_226 rfl rfl (Nat.le_of_ble_eq_true rfl) (hR _ _ (by decide) (by decide)) (Nat.zero_le _) (Nat.zero_le _) (fun r n2 h2 q => ?_)
  obtain ⟨q1, q2, q3, q4⟩ := q
  obtain ⟨c1, c2⟩ := lr_g k4
  obtain ⟨D2, e3⟩ := D.re
  refine l_tailI C hl q3 ((q4 _ (by omega)).trans k3) ((e3.trans cd_n).trans c1.symm) (fun z => ?_) rfl rfl (hR 0 1 (by decide) (by decide)) dL_law_2637 dL_law_2639 dL_law_2640 dL_law_2643 dL_law_2645 dL_law_2650 dL_law_2652 dL_law_2655 dL_law_2656 dL_law_2657 dL_law_2658 dL_law_2660 dL_law_2661 dL_law_2662 dL_law_2667 (by decide) ?_
  · obtain ⟨z1, z2⟩ := c2 z
    rw [q1, D.2.2.1, if_neg z1, (D.2.2.2.1 z1).1.2.2.1]
    exact z2
  · exact v_widen (by omega) (by omega) (kk n2 h2 _ _ _ (by omega) (Jo.mk2 E1 q4 q3 D2 P.re Jm0 (by omega) hx hsc1 k3 hD1))

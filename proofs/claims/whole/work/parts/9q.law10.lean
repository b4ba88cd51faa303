/-! ===== THE LAW: what is compared at once ===== -/
set_option maxHeartbeats 4000000 in
/-- case 8: horizonCount -/
theorem law_c8 {G : hp_G} {K : hp_C} {sc L : Nat} {xs : Nat → Int32} {x w i n bc bs : Nat} {h : Nat → Option va_E} (B : Lb G K sc L x w i n bc bs) (J : Jo G sc L xs x w h) (kk : Lk G K sc L xs x w i bc bs) : V G K (ML_law K) bc bs (n, h) 777 [some (.ref sc), some (.ref x), some (.ref (x + 148)), some (.ref (x + 161)), some (.ref (x + 162)), some (.int (nI i)), none, none, none] [] := by
  obtain ⟨C, hl, hR, hx, hi, hL, hw, hn, hbc, hbs⟩ := B
  obtain ⟨M, B, Z, mk, nx, cnt, t, n0, lt, ln, hs, ma, fa, rk, S, KL, v, E, hS, D, P, Jm0, hv, hsc, ⟨f, hO⟩, ⟨f2, hD⟩⟩ := J
  have hbase := E.base
  have H := P.2.1.1
  refine v_aload_n C dL_law_777 rfl ?_
  refine v_callV C (rest := []) (c_X7_horizonCount hl E hn) (fun EE τ hp => by cases hp.1) dL_law_778 mX7_horizonCount rfl E.o rfl wd3_129 rfl rfl (Nat.le_of_ble_eq_true rfl) (hR _ _ (by decide) (by decide)) (Nat.le_trans (by decide) hbc) (Nat.le_trans (by decide) hbs) (fun v1 τ hp => ?_)
  obtain ⟨e, F1⟩ := hp
  cases e
  obtain ⟨n1, h1⟩ := τ
  show V G K _ _ _ (n1, h1) 781 [some (.ref sc), some (.ref x), some (.ref (x + 148)), some (.ref (x + 161)), some (.ref (x + 162)), some (.int (nI i)), none, none, none] [.int _]
  have k1 : ∀ a, x + 148 ≤ a → a < x + 163 → h1 a = h a := fun a k5 k6 => F1.2.2.2 a (Or.inr ⟨k5, k6⟩)
  have hn1 := F1.2.1
  have hS1 : Mo G h1 (x + 148) S := hS.same (fun a k5 k6 => k1 a (by omega) (by omega))
  have hsc1 := (F1.2.2.2 sc (Or.inl hx)).trans hsc
  have k3 := (k1 (x + 161) (by omega) (by omega)).trans hO
  have hD1 := (k1 (x + 162) (by omega) (by omega)).trans hD
  refine v_aload_n C dL_law_781 rfl ?_
  refine v_callVq C (rest := [.int _]) (c_X8_horizonCount hl hS1 D.1) dL_law_782 mX8_horizonCount rfl hS1.o rfl wd7_208 rfl rfl (Nat.le_of_ble_eq_true rfl) (hR _ _ (by decide) (by decide)) (Nat.zero_le _) (Nat.zero_le _) (fun r n2 h2 q => ?_)
  obtain ⟨q1, q2, q3, q4⟩ := q
  obtain ⟨D2, e3⟩ := D.s3 (nI 0)
  refine v_icmp_eq (tgt := 2670) C dL_law_785 (by decide) (fun _ => ?_) (fun y => absurd (q1.symm) y)
  exact v_widen (by omega) (by omega) (kk n2 h2 _ _ _ (by omega) (Jo.mk2 F1.1 q4 q3 D2 P Jm0 (by omega) hx hsc1 k3 hD1))
set_option maxHeartbeats 4000000 in
/-- case 12: traderCount -/
theorem law_c12 {G : hp_G} {K : hp_C} {sc L : Nat} {xs : Nat → Int32} {x w i n bc bs : Nat} {h : Nat → Option va_E} (B : Lb G K sc L x w i n bc bs) (J : Jo G sc L xs x w h) (kk : Lk G K sc L xs x w i bc bs) : V G K (ML_law K) bc bs (n, h) 958 [some (.ref sc), some (.ref x), some (.ref (x + 148)), some (.ref (x + 161)), some (.ref (x + 162)), some (.int (nI i)), none, none, none] [] := by
  obtain ⟨C, hl, hR, hx, hi, hL, hw, hn, hbc, hbs⟩ := B
  obtain ⟨M, B, Z, mk, nx, cnt, t, n0, lt, ln, hs, ma, fa, rk, S, KL, v, E, hS, D, P, Jm0, hv, hsc, ⟨f, hO⟩, ⟨f2, hD⟩⟩ := J
  have hbase := E.base
  have H := P.2.1.1
  refine v_aload_n C dL_law_958 rfl ?_
  refine v_callV C (rest := []) (c_X7_traderCount hl E hn) (fun EE τ hp => by cases hp.1) dL_law_959 mX7_traderCount rfl E.o rfl wd3_133 rfl rfl (Nat.le_of_ble_eq_true rfl) (hR _ _ (by decide) (by decide)) (Nat.le_trans (by decide) hbc) (Nat.le_trans (by decide) hbs) (fun v1 τ hp => ?_)
  obtain ⟨e, F1⟩ := hp
  cases e
  obtain ⟨n1, h1⟩ := τ
  show V G K _ _ _ (n1, h1) 962 [some (.ref sc), some (.ref x), some (.ref (x + 148)), some (.ref (x + 161)), some (.ref (x + 162)), some (.int (nI i)), none, none, none] [.int _]
  have k1 : ∀ a, x + 148 ≤ a → a < x + 163 → h1 a = h a := fun a k5 k6 => F1.2.2.2 a (Or.inr ⟨k5, k6⟩)
  have hn1 := F1.2.1
  have hS1 : Mo G h1 (x + 148) S := hS.same (fun a k5 k6 => k1 a (by omega) (by omega))
  have hsc1 := (F1.2.2.2 sc (Or.inl hx)).trans hsc
  have k3 := (k1 (x + 161) (by omega) (by omega)).trans hO
  have hD1 := (k1 (x + 162) (by omega) (by omega)).trans hD
  refine v_aload_n C dL_law_962 rfl ?_
  refine v_callVq C (rest := [.int _]) (c_X8_traderCount hl hS1 D.1) dL_law_963 mX8_traderCount rfl hS1.o rfl wd7_228 rfl rfl (Nat.le_of_ble_eq_true rfl) (hR _ _ (by decide) (by decide)) (Nat.zero_le _) (Nat.zero_le _) (fun r n2 h2 q => ?_)
  obtain ⟨q1, q2, q3, q4⟩ := q
  obtain ⟨D2, e3⟩ := D.s3 (nI 0)
  refine v_icmp_eq (tgt := 2670) C dL_law_966 (by decide) (fun _ => ?_) (fun y => absurd (q1.symm) y)
  exact v_widen (by omega) (by omega) (kk n2 h2 _ _ _ (by omega) (Jo.mk2 F1.1 q4 q3 D2 P Jm0 (by omega) hx hsc1 k3 hD1))
set_option maxHeartbeats 4000000 in
/-- case 18: contractCount -/
theorem law_c18 {G : hp_G} {K : hp_C} {sc L : Nat} {xs : Nat → Int32} {x w i n bc bs : Nat} {h : Nat → Option va_E} (B : Lb G K sc L x w i n bc bs) (J : Jo G sc L xs x w h) (kk : Lk G K sc L xs x w i bc bs) : V G K (ML_law K) bc bs (n, h) 1277 [some (.ref sc), some (.ref x), some (.ref (x + 148)), some (.ref (x + 161)), some (.ref (x + 162)), some (.int (nI i)), none, none, none] [] := by
  obtain ⟨C, hl, hR, hx, hi, hL, hw, hn, hbc, hbs⟩ := B
  obtain ⟨M, B, Z, mk, nx, cnt, t, n0, lt, ln, hs, ma, fa, rk, S, KL, v, E, hS, D, P, Jm0, hv, hsc, ⟨f, hO⟩, ⟨f2, hD⟩⟩ := J
  have hbase := E.base
  have H := P.2.1.1
  refine v_aload_n C dL_law_1277 rfl ?_
  refine v_callV C (rest := []) (c_X7_contractCount hl E hn) (fun EE τ hp => by cases hp.1) dL_law_1278 mX7_contractCount rfl E.o rfl wd3_137 rfl rfl (Nat.le_of_ble_eq_true rfl) (hR _ _ (by decide) (by decide)) (Nat.le_trans (by decide) hbc) (Nat.le_trans (by decide) hbs) (fun v1 τ hp => ?_)
  obtain ⟨e, F1⟩ := hp
  cases e
  obtain ⟨n1, h1⟩ := τ
  show V G K _ _ _ (n1, h1) 1281 [some (.ref sc), some (.ref x), some (.ref (x + 148)), some (.ref (x + 161)), some (.ref (x + 162)), some (.int (nI i)), none, none, none] [.int _]
  have k1 : ∀ a, x + 148 ≤ a → a < x + 163 → h1 a = h a := fun a k5 k6 => F1.2.2.2 a (Or.inr ⟨k5, k6⟩)
  have hn1 := F1.2.1
  have hS1 : Mo G h1 (x + 148) S := hS.same (fun a k5 k6 => k1 a (by omega) (by omega))
  have hsc1 := (F1.2.2.2 sc (Or.inl hx)).trans hsc
  have k3 := (k1 (x + 161) (by omega) (by omega)).trans hO
  have hD1 := (k1 (x + 162) (by omega) (by omega)).trans hD
  refine v_aload_n C dL_law_1281 rfl ?_
  refine v_callVq C (rest := [.int _]) (c_X8_contractCount hl hS1 D.1) dL_law_1282 mX8_contractCount rfl hS1.o rfl wd8_16 rfl rfl (Nat.le_of_ble_eq_true rfl) (hR _ _ (by decide) (by decide)) (Nat.zero_le _) (Nat.zero_le _) (fun r n2 h2 q => ?_)
  obtain ⟨q1, q2, q3, q4⟩ := q
  obtain ⟨D2, e3⟩ := D.s3 (nI 0)
  refine v_icmp_eq (tgt := 2670) C dL_law_1285 (by decide) (fun _ => ?_) (fun y => absurd (q1.symm) y)
  exact v_widen (by omega) (by omega) (kk n2 h2 _ _ _ (by omega) (Jo.mk2 F1.1 q4 q3 D2 P Jm0 (by omega) hx hsc1 k3 hD1))
set_option maxHeartbeats 4000000 in
/-- case 33: fund -/
theorem law_c33 {G : hp_G} {K : hp_C} {sc L : Nat} {xs : Nat → Int32} {x w i n bc bs : Nat} {h : Nat → Option va_E} (B : Lb G K sc L x w i n bc bs) (J : Jo G sc L xs x w h) (kk : Lk G K sc L xs x w i bc bs) : V G K (ML_law K) bc bs (n, h) 2000 [some (.ref sc), some (.ref x), some (.ref (x + 148)), some (.ref (x + 161)), some (.ref (x + 162)), some (.int (nI i)), none, none, none] [] := by
  obtain ⟨C, hl, hR, hx, hi, hL, hw, hn, hbc, hbs⟩ := B
  obtain ⟨M, B, Z, mk, nx, cnt, t, n0, lt, ln, hs, ma, fa, rk, S, KL, v, E, hS, D, P, Jm0, hv, hsc, ⟨f, hO⟩, ⟨f2, hD⟩⟩ := J
  have hbase := E.base
  have H := P.2.1.1
  refine v_aload_n C dL_law_2000 rfl ?_
  refine v_callV C (rest := []) (c_X7_fund hl E hn) (fun EE τ hp => by cases hp.1) dL_law_2001 mX7_fund rfl E.o rfl wd3_173 rfl rfl (Nat.le_of_ble_eq_true rfl) (hR _ _ (by decide) (by decide)) (Nat.le_trans (by decide) hbc) (Nat.le_trans (by decide) hbs) (fun v1 τ hp => ?_)
  obtain ⟨e, F1⟩ := hp
  cases e
  obtain ⟨n1, h1⟩ := τ
  show V G K _ _ _ (n1, h1) 2004 [some (.ref sc), some (.ref x), some (.ref (x + 148)), some (.ref (x + 161)), some (.ref (x + 162)), some (.int (nI i)), none, none, none] [.int _]
  have k1 : ∀ a, x + 148 ≤ a → a < x + 163 → h1 a = h a := fun a k5 k6 => F1.2.2.2 a (Or.inr ⟨k5, k6⟩)
  have hn1 := F1.2.1
  have hS1 : Mo G h1 (x + 148) S := hS.same (fun a k5 k6 => k1 a (by omega) (by omega))
  have hsc1 := (F1.2.2.2 sc (Or.inl hx)).trans hsc
  have k3 := (k1 (x + 161) (by omega) (by omega)).trans hO
  have hD1 := (k1 (x + 162) (by omega) (by omega)).trans hD
  refine v_aload_n C dL_law_2004 rfl ?_
  refine v_callVq C (rest := [.int _]) (c_X8_fund hl hS1 D.1) dL_law_2005 mX8_fund rfl hS1.o rfl wd8_92 rfl rfl (Nat.le_of_ble_eq_true rfl) (hR _ _ (by decide) (by decide)) (Nat.zero_le _) (Nat.zero_le _) (fun r n2 h2 q => ?_)
  obtain ⟨q1, q2, q3, q4⟩ := q
  obtain ⟨D2, e3⟩ := D.s3 (nI 0)
  refine v_icmp_eq (tgt := 2670) C dL_law_2008 (by decide) (fun _ => ?_) (fun y => absurd (q1.symm) y)
  exact v_widen (by omega) (by omega) (kk n2 h2 _ _ _ (by omega) (Jo.mk2 F1.1 q4 q3 D2 P Jm0 (by omega) hx hsc1 k3 hD1))
set_option maxHeartbeats 4000000 in
/-- case 34: writtenOff -/
theorem law_c34 {G : hp_G} {K : hp_C} {sc L : Nat} {xs : Nat → Int32} {x w i n bc bs : Nat} {h : Nat → Option va_E} (B : Lb G K sc L x w i n bc bs) (J : Jo G sc L xs x w h) (kk : Lk G K sc L xs x w i bc bs) : V G K (ML_law K) bc bs (n, h) 2013 [some (.ref sc), some (.ref x), some (.ref (x + 148)), some (.ref (x + 161)), some (.ref (x + 162)), some (.int (nI i)), none, none, none] [] := by
  obtain ⟨C, hl, hR, hx, hi, hL, hw, hn, hbc, hbs⟩ := B
  obtain ⟨M, B, Z, mk, nx, cnt, t, n0, lt, ln, hs, ma, fa, rk, S, KL, v, E, hS, D, P, Jm0, hv, hsc, ⟨f, hO⟩, ⟨f2, hD⟩⟩ := J
  have hbase := E.base
  have H := P.2.1.1
  refine v_aload_n C dL_law_2013 rfl ?_
  refine v_callV C (rest := []) (c_X7_writtenOff hl E hn) (fun EE τ hp => by cases hp.1) dL_law_2014 mX7_writtenOff rfl E.o rfl wd3_177 rfl rfl (Nat.le_of_ble_eq_true rfl) (hR _ _ (by decide) (by decide)) (Nat.le_trans (by decide) hbc) (Nat.le_trans (by decide) hbs) (fun v1 τ hp => ?_)
  obtain ⟨e, F1⟩ := hp
  cases e
  obtain ⟨n1, h1⟩ := τ
  show V G K _ _ _ (n1, h1) 2017 [some (.ref sc), some (.ref x), some (.ref (x + 148)), some (.ref (x + 161)), some (.ref (x + 162)), some (.int (nI i)), none, none, none] [.int _]
  have k1 : ∀ a, x + 148 ≤ a → a < x + 163 → h1 a = h a := fun a k5 k6 => F1.2.2.2 a (Or.inr ⟨k5, k6⟩)
  have hn1 := F1.2.1
  have hS1 : Mo G h1 (x + 148) S := hS.same (fun a k5 k6 => k1 a (by omega) (by omega))
  have hsc1 := (F1.2.2.2 sc (Or.inl hx)).trans hsc
  have k3 := (k1 (x + 161) (by omega) (by omega)).trans hO
  have hD1 := (k1 (x + 162) (by omega) (by omega)).trans hD
  refine v_aload_n C dL_law_2017 rfl ?_
  refine v_callVq C (rest := [.int _]) (c_X8_writtenOff hl hS1 D.1) dL_law_2018 mX8_writtenOff rfl hS1.o rfl wd8_96 rfl rfl (Nat.le_of_ble_eq_true rfl) (hR _ _ (by decide) (by decide)) (Nat.zero_le _) (Nat.zero_le _) (fun r n2 h2 q => ?_)
  obtain ⟨q1, q2, q3, q4⟩ := q
  obtain ⟨D2, e3⟩ := D.s3 (nI 0)
  refine v_icmp_eq (tgt := 2670) C dL_law_2021 (by decide) (fun _ => ?_) (fun y => absurd (q1.symm) y)
  exact v_widen (by omega) (by omega) (kk n2 h2 _ _ _ (by omega) (Jo.mk2 F1.1 q4 q3 D2 P Jm0 (by omega) hx hsc1 k3 hD1))
set_option maxHeartbeats 4000000 in
/-- case 37: dayCount -/
theorem law_c37 {G : hp_G} {K : hp_C} {sc L : Nat} {xs : Nat → Int32} {x w i n bc bs : Nat} {h : Nat → Option va_E} (B : Lb G K sc L x w i n bc bs) (J : Jo G sc L xs x w h) (kk : Lk G K sc L xs x w i bc bs) : V G K (ML_law K) bc bs (n, h) 2054 [some (.ref sc), some (.ref x), some (.ref (x + 148)), some (.ref (x + 161)), some (.ref (x + 162)), some (.int (nI i)), none, none, none] [] := by
  obtain ⟨C, hl, hR, hx, hi, hL, hw, hn, hbc, hbs⟩ := B
  obtain ⟨M, B, Z, mk, nx, cnt, t, n0, lt, ln, hs, ma, fa, rk, S, KL, v, E, hS, D, P, Jm0, hv, hsc, ⟨f, hO⟩, ⟨f2, hD⟩⟩ := J
  have hbase := E.base
  have H := P.2.1.1
  refine v_aload_n C dL_law_2054 rfl ?_
  refine v_callV C (rest := []) (c_X7_dayCount hl E hn) (fun EE τ hp => by cases hp.1) dL_law_2055 mX7_dayCount rfl E.o rfl wd3_189 rfl rfl (Nat.le_of_ble_eq_true rfl) (hR _ _ (by decide) (by decide)) (Nat.le_trans (by decide) hbc) (Nat.le_trans (by decide) hbs) (fun v1 τ hp => ?_)
  obtain ⟨e, F1⟩ := hp
  cases e
  obtain ⟨n1, h1⟩ := τ
  show V G K _ _ _ (n1, h1) 2058 [some (.ref sc), some (.ref x), some (.ref (x + 148)), some (.ref (x + 161)), some (.ref (x + 162)), some (.int (nI i)), none, none, none] [.int _]
  have k1 : ∀ a, x + 148 ≤ a → a < x + 163 → h1 a = h a := fun a k5 k6 => F1.2.2.2 a (Or.inr ⟨k5, k6⟩)
  have hn1 := F1.2.1
  have hS1 : Mo G h1 (x + 148) S := hS.same (fun a k5 k6 => k1 a (by omega) (by omega))
  have hsc1 := (F1.2.2.2 sc (Or.inl hx)).trans hsc
  have k3 := (k1 (x + 161) (by omega) (by omega)).trans hO
  have hD1 := (k1 (x + 162) (by omega) (by omega)).trans hD
  refine v_aload_n C dL_law_2058 rfl ?_
  refine v_callVq C (rest := [.int _]) (c_X8_dayCount hl hS1 D.1) dL_law_2059 mX8_dayCount rfl hS1.o rfl wd8_108 rfl rfl (Nat.le_of_ble_eq_true rfl) (hR _ _ (by decide) (by decide)) (Nat.zero_le _) (Nat.zero_le _) (fun r n2 h2 q => ?_)
  obtain ⟨q1, q2, q3, q4⟩ := q
  obtain ⟨D2, e3⟩ := D.s3 (nI 0)
  refine v_icmp_eq (tgt := 2670) C dL_law_2062 (by decide) (fun _ => ?_) (fun y => absurd (q1.symm) y)
  exact v_widen (by omega) (by omega) (kk n2 h2 _ _ _ (by omega) (Jo.mk2 F1.1 q4 q3 D2 P Jm0 (by omega) hx hsc1 k3 hD1))
set_option maxHeartbeats 4000000 in
/-- case 27: payments -/
theorem law_c27 {G : hp_G} {K : hp_C} {sc L : Nat} {xs : Nat → Int32} {x w i n bc bs : Nat} {h : Nat → Option va_E} (B : Lb G K sc L x w i n bc bs) (J : Jo G sc L xs x w h) (kk : Lk G K sc L xs x w i bc bs) : V G K (ML_law K) bc bs (n, h) 1738 [some (.ref sc), some (.ref x), some (.ref (x + 148)), some (.ref (x + 161)), some (.ref (x + 162)), some (.int (nI i)), none, none, none] [] := by
  obtain ⟨C, hl, hR, hx, hi, hL, hw, hn, hbc, hbs⟩ := B
  obtain ⟨M, B, Z, mk, nx, cnt, t, n0, lt, ln, hs, ma, fa, rk, S, KL, v, E, hS, D, P, Jm0, hv, hsc, ⟨f, hO⟩, ⟨f2, hD⟩⟩ := J
  have hbase := E.base
  have H := P.2.1.1
  refine v_aload_n C dL_law_1738 rfl ?_
  refine v_callV C (rest := []) (c_X7_payments hl E hn) (fun EE τ hp => by cases hp.1) dL_law_1739 mX7_payments rfl E.o rfl wd3_141 rfl rfl (Nat.le_of_ble_eq_true rfl) (hR _ _ (by decide) (by decide)) (Nat.le_trans (by decide) hbc) (Nat.le_trans (by decide) hbs) (fun v1 τ hp => ?_)
  obtain ⟨e, F1⟩ := hp
  cases e
  obtain ⟨n1, h1⟩ := τ
  show V G K _ _ _ (n1, h1) 1742 [some (.ref sc), some (.ref x), some (.ref (x + 148)), some (.ref (x + 161)), some (.ref (x + 162)), some (.int (nI i)), none, none, none] [.int _]
  have k1 : ∀ a, x + 148 ≤ a → a < x + 163 → h1 a = h a := fun a k5 k6 => F1.2.2.2 a (Or.inr ⟨k5, k6⟩)
  have hn1 := F1.2.1
  have hS1 : Mo G h1 (x + 148) S := hS.same (fun a k5 k6 => k1 a (by omega) (by omega))
  have hsc1 := (F1.2.2.2 sc (Or.inl hx)).trans hsc
  have k3 := (k1 (x + 161) (by omega) (by omega)).trans hO
  have hD1 := (k1 (x + 162) (by omega) (by omega)).trans hD
  refine v_aload_n C dL_law_1742 rfl ?_
  refine v_callVq C (rest := [.int _]) (c_X8_payments2 hl hS1 D.1) dL_law_1743 mX8_payments rfl hS1.o rfl wd8_60 rfl rfl (Nat.le_of_ble_eq_true rfl) (hR _ _ (by decide) (by decide)) (Nat.zero_le _) (Nat.zero_le _) (fun r n2 h2 q => ?_)
  obtain ⟨q1, q2, ⟨S2, q3, ⟨w6, z6⟩, t6⟩, q4⟩ := q
  have D2 := D.wk w6 (by rw [z6]; exact D.1)
  refine v_icmp_eq (tgt := 2670) C dL_law_1746 (by decide) (fun _ => ?_) (fun y => absurd (by rw [q1]; exact py_sp H) y)
  exact v_widen (by omega) (by omega) (kk n2 h2 _ _ _ (by omega) (Jo.mk2 F1.1 q4 q3 D2 P Jm0 (by omega) hx hsc1 k3 hD1))
set_option maxHeartbeats 4000000 in
/-- case 28: paymentsByGroups -/
theorem law_c28 {G : hp_G} {K : hp_C} {sc L : Nat} {xs : Nat → Int32} {x w i n bc bs : Nat} {h : Nat → Option va_E} (B : Lb G K sc L x w i n bc bs) (J : Jo G sc L xs x w h) (kk : Lk G K sc L xs x w i bc bs) : V G K (ML_law K) bc bs (n, h) 1751 [some (.ref sc), some (.ref x), some (.ref (x + 148)), some (.ref (x + 161)), some (.ref (x + 162)), some (.int (nI i)), none, none, none] [] := by
  obtain ⟨C, hl, hR, hx, hi, hL, hw, hn, hbc, hbs⟩ := B
  obtain ⟨M, B, Z, mk, nx, cnt, t, n0, lt, ln, hs, ma, fa, rk, S, KL, v, E, hS, D, P, Jm0, hv, hsc, ⟨f, hO⟩, ⟨f2, hD⟩⟩ := J
  have hbase := E.base
  have H := P.2.1.1
  refine v_aload_n C dL_law_1751 rfl ?_
  refine v_callV C (rest := []) (c_X7_paymentsByGroups hl E hn) (fun EE τ hp => by cases hp.1) dL_law_1752 mX7_paymentsByGroups rfl E.o rfl wd3_157 rfl rfl (Nat.le_of_ble_eq_true rfl) (hR _ _ (by decide) (by decide)) (Nat.le_trans (by decide) hbc) (Nat.le_trans (by decide) hbs) (fun v1 τ hp => ?_)
  obtain ⟨e, F1⟩ := hp
  cases e
  obtain ⟨n1, h1⟩ := τ
  show V G K _ _ _ (n1, h1) 1755 [some (.ref sc), some (.ref x), some (.ref (x + 148)), some (.ref (x + 161)), some (.ref (x + 162)), some (.int (nI i)), none, none, none] [.int _]
  have k1 : ∀ a, x + 148 ≤ a → a < x + 163 → h1 a = h a := fun a k5 k6 => F1.2.2.2 a (Or.inr ⟨k5, k6⟩)
  have hn1 := F1.2.1
  have hS1 : Mo G h1 (x + 148) S := hS.same (fun a k5 k6 => k1 a (by omega) (by omega))
  have hsc1 := (F1.2.2.2 sc (Or.inl hx)).trans hsc
  have k3 := (k1 (x + 161) (by omega) (by omega)).trans hO
  have hD1 := (k1 (x + 162) (by omega) (by omega)).trans hD
  refine v_aload_n C dL_law_1755 rfl ?_
  refine v_callVq C (rest := [.int _]) (c_X8_paymentsByGroups2 hl hS1 D.1) dL_law_1756 mX8_paymentsByGroups rfl hS1.o rfl wd8_68 rfl rfl (Nat.le_of_ble_eq_true rfl) (hR _ _ (by decide) (by decide)) (Nat.zero_le _) (Nat.zero_le _) (fun r n2 h2 q => ?_)
  obtain ⟨q1, q2, ⟨S2, q3, ⟨w6, z6⟩, t6⟩, q4⟩ := q
  have D2 := D.wk w6 (by rw [z6]; exact D.1)
  refine v_icmp_eq (tgt := 2670) C dL_law_1759 (by decide) (fun _ => ?_) (fun y => absurd (by rw [q1]; exact py_gp H) y)
  exact v_widen (by omega) (by omega) (kk n2 h2 _ _ _ (by omega) (Jo.mk2 F1.1 q4 q3 D2 P Jm0 (by omega) hx hsc1 k3 hD1))
set_option maxHeartbeats 4000000 in
/-- case 4: dawn -/
theorem law_c4 {G : hp_G} {K : hp_C} {sc L : Nat} {xs : Nat → Int32} {x w i n bc bs : Nat} {h : Nat → Option va_E} (B : Lb G K sc L x w i n bc bs) (J : Jo G sc L xs x w h) (kk : Lk G K sc L xs x w i bc bs) : V G K (ML_law K) bc bs (n, h) 560 [some (.ref sc), some (.ref x), some (.ref (x + 148)), some (.ref (x + 161)), some (.ref (x + 162)), some (.int (nI i)), none, none, none] [] := by
  obtain ⟨C, hl, hR, hx, hi, hL, hw, hn, hbc, hbs⟩ := B
  obtain ⟨M, B, Z, mk, nx, cnt, t, n0, lt, ln, hs, ma, fa, rk, S, KL, v, E, hS, D, P, Jm0, hv, hsc, ⟨f, hO⟩, ⟨f2, hD⟩⟩ := J
  have hbase := E.base
  have H := P.2.1.1
  refine v_aload_n C dL_law_560 rfl ?_
  refine v_callV C (rest := []) (c_X7_dawn hl E hn (P.2.1.ok (by omega))) (fun EE τ hp => by cases hp.1) dL_law_561 mX7_dawn rfl E.o rfl wd2_54 rfl rfl (Nat.le_of_ble_eq_true rfl) (hR _ _ (by decide) (by decide)) (Nat.le_trans (by decide) hbc) (Nat.le_trans (by decide) hbs) (fun v1 τ hp => ?_)
  obtain ⟨e, F1⟩ := hp
  cases e
  obtain ⟨n1, h1⟩ := τ
  show V G K _ _ _ (n1, h1) 564 [some (.ref sc), some (.ref x), some (.ref (x + 148)), some (.ref (x + 161)), some (.ref (x + 162)), some (.int (nI i)), none, none, none] [.int _]
  have k1 : ∀ a, x + 148 ≤ a → a < x + 163 → h1 a = h a := fun a k5 k6 => F1.2.2.2 a (Or.inr ⟨k5, k6⟩)
  have hn1 := F1.2.1
  have hS1 : Mo G h1 (x + 148) S := hS.same (fun a k5 k6 => k1 a (by omega) (by omega))
  have hsc1 := (F1.2.2.2 sc (Or.inl hx)).trans hsc
  have k3 := (k1 (x + 161) (by omega) (by omega)).trans hO
  have hD1 := (k1 (x + 162) (by omega) (by omega)).trans hD
  refine v_aload_n C dL_law_564 rfl ?_
  refine v_callVq C (rest := [.int _]) (c_X8_dawn hl hS1 D.1 D.2.1.1 D.2.1.2.1 (P.2.1.dw (by omega))) dL_law_565 mX8_dawn rfl hS1.o rfl wd7_160 rfl rfl (Nat.le_of_ble_eq_true rfl) (hR _ _ (by decide) (by decide)) (Nat.zero_le _) (Nat.zero_le _) (fun r n2 h2 q => ?_)
  obtain ⟨q1, q2, ⟨S2, q3, A⟩, q4⟩ := q
  obtain ⟨g1, K2, D2, P2⟩ := P.md (by omega) (c := 4) (by decide) (a := nI 0) (b := nI 0) (k := nI 0) (d := nI 0) (e := nI 0) D (by rw [(fo_4 M _ _ _ _ _).1, (fo_4 M _ _ _ _ _).2.1, fx_2 4 _ (by decide)]; exact A)
  refine v_icmp_eq (tgt := 2670) C dL_law_568 (by decide) (fun _ => ?_) (fun y => absurd (q1.symm) y)
  exact v_widen (by omega) (by omega) (kk n2 h2 _ _ _ (by omega) (Jo.mk2 F1.1 q4 q3 D2 P2 Jm0 (by omega) hx hsc1 k3 hD1))
set_option maxHeartbeats 4000000 in
/-- case 49: save -/
theorem law_c49 {G : hp_G} {K : hp_C} {sc L : Nat} {xs : Nat → Int32} {x w i n bc bs : Nat} {h : Nat → Option va_E} (B : Lb G K sc L x w i n bc bs) (J : Jo G sc L xs x w h) (kk : Lk G K sc L xs x w i bc bs) : V G K (ML_law K) bc bs (n, h) 2613 [some (.ref sc), some (.ref x), some (.ref (x + 148)), some (.ref (x + 161)), some (.ref (x + 162)), some (.int (nI i)), none, none, none] [] := by
  obtain ⟨C, hl, hR, hx, hi, hL, hw, hn, hbc, hbs⟩ := B
  obtain ⟨M, B, Z, mk, nx, cnt, t, n0, lt, ln, hs, ma, fa, rk, S, KL, v, E, hS, D, P, Jm0, hv, hsc, ⟨f, hO⟩, ⟨f2, hD⟩⟩ := J
  have hbase := E.base
  have H := P.2.1.1
  refine v_aload_n C dL_law_2613 rfl ?_
  refine v_callV C (rest := []) (c_X7_save hl E hn) (fun EE τ hp => by cases hp.1) dL_law_2614 mX7_save rfl E.o rfl wd3_237 rfl rfl (Nat.le_of_ble_eq_true rfl) (hR _ _ (by decide) (by decide)) (Nat.le_trans (by decide) hbc) (Nat.le_trans (by decide) hbs) (fun v1 τ hp => ?_)
  obtain ⟨e, F1⟩ := hp
  cases e
  obtain ⟨n1, h1⟩ := τ
  show V G K _ _ _ (n1, h1) 2617 [some (.ref sc), some (.ref x), some (.ref (x + 148)), some (.ref (x + 161)), some (.ref (x + 162)), some (.int (nI i)), none, none, none] [.int _]
  have k1 : ∀ a, x + 148 ≤ a → a < x + 163 → h1 a = h a := fun a k5 k6 => F1.2.2.2 a (Or.inr ⟨k5, k6⟩)
  have hn1 := F1.2.1
  have hS1 : Mo G h1 (x + 148) S := hS.same (fun a k5 k6 => k1 a (by omega) (by omega))
  have hsc1 := (F1.2.2.2 sc (Or.inl hx)).trans hsc
  have k3 := (k1 (x + 161) (by omega) (by omega)).trans hO
  have hD1 := (k1 (x + 162) (by omega) (by omega)).trans hD
  refine v_aload_n C dL_law_2617 rfl ?_
  refine v_callVq C (rest := [.int _]) (c_X8_save hl hS1 D.1) dL_law_2618 mX8_save rfl hS1.o rfl wd8_222 rfl rfl (Nat.le_of_ble_eq_true rfl) (hR _ _ (by decide) (by decide)) (Nat.zero_le _) (Nat.zero_le _) (fun r n2 h2 q => ?_)
  obtain ⟨q1, q2, q3, q4⟩ := q
  have D2 := D.sv
  have P2 := P.sv
  refine v_icmp_eq (tgt := 2670) C dL_law_2621 (by decide) (fun _ => ?_) (fun y => absurd (q1.symm) y)
  exact v_widen (by omega) (by omega) (kk n2 h2 _ _ _ (by omega) (Jo.mk2 F1.1 q4 q3 D2 P2 Jm0 (by omega) hx hsc1 k3 hD1))
set_option maxHeartbeats 4000000 in
/-- case 35: broughtIn -/
theorem law_c35 {G : hp_G} {K : hp_C} {sc L : Nat} {xs : Nat → Int32} {x w i n bc bs : Nat} {h : Nat → Option va_E} (B : Lb G K sc L x w i n bc bs) (J : Jo G sc L xs x w h) (kk : Lk G K sc L xs x w i bc bs) : V G K (ML_law K) bc bs (n, h) 2026 [some (.ref sc), some (.ref x), some (.ref (x + 148)), some (.ref (x + 161)), some (.ref (x + 162)), some (.int (nI i)), none, none, none] [] := by
  obtain ⟨C, hl, hR, hx, hi, hL, hw, hn, hbc, hbs⟩ := B
  obtain ⟨M, B, Z, mk, nx, cnt, t, n0, lt, ln, hs, ma, fa, rk, S, KL, v, E, hS, D, P, Jm0, hv, hsc, ⟨f, hO⟩, ⟨f2, hD⟩⟩ := J
  have hbase := E.base
  have H := P.2.1.1
  refine v_aload_n C dL_law_2026 rfl ?_
  refine v_callV C (rest := []) (c_X7_broughtIn hl E hn) (fun EE τ hp => by cases hp.1) dL_law_2027 mX7_broughtIn rfl E.o rfl wd3_181 rfl rfl (Nat.le_of_ble_eq_true rfl) (hR _ _ (by decide) (by decide)) (Nat.le_trans (by decide) hbc) (Nat.le_trans (by decide) hbs) (fun v1 τ hp => ?_)
  obtain ⟨e, F1⟩ := hp
  cases e
  obtain ⟨n1, h1⟩ := τ
  show V G K _ _ _ (n1, h1) 2030 [some (.ref sc), some (.ref x), some (.ref (x + 148)), some (.ref (x + 161)), some (.ref (x + 162)), some (.int (nI i)), none, none, none] [.long _]
  have k1 : ∀ a, x + 148 ≤ a → a < x + 163 → h1 a = h a := fun a k5 k6 => F1.2.2.2 a (Or.inr ⟨k5, k6⟩)
  have hn1 := F1.2.1
  have hS1 : Mo G h1 (x + 148) S := hS.same (fun a k5 k6 => k1 a (by omega) (by omega))
  have hsc1 := (F1.2.2.2 sc (Or.inl hx)).trans hsc
  have k3 := (k1 (x + 161) (by omega) (by omega)).trans hO
  have hD1 := (k1 (x + 162) (by omega) (by omega)).trans hD
  refine v_aload_n C dL_law_2030 rfl ?_
  refine v_callV C (rest := [.long _]) (c_X8_broughtIn hl hS1 D.1) (fun EE τ hp => by cases hp.1) dL_law_2031 mX8_broughtIn rfl hS1.o rfl wd8_100 rfl rfl (Nat.le_of_ble_eq_true rfl) (hR _ _ (by decide) (by decide)) (Nat.zero_le _) (Nat.zero_le _) (fun v1 τ q => ?_)
  obtain ⟨q1, q2, q3, q4⟩ := q
  cases q1
  obtain ⟨n2, h2⟩ := τ
  have q2 : n2 = n1 := q2
  obtain ⟨D2, e3⟩ := D.s3 (nI 0)
  show V G K _ _ _ (n2, h2) 2034 [some (.ref sc), some (.ref x), some (.ref (x + 148)), some (.ref (x + 161)), some (.ref (x + 162)), some (.int (nI i)), none, none, none] [.long _, .long _]
  refine v_lcmp C dL_law_2034 ?_
  refine v_if_eq (tgt := 2670) C dL_law_2035 (by decide) (fun _ => ?_) (fun y => absurd ((hp_lcmp0 _ _).mpr rfl) y)
  exact v_widen (by omega) (by omega) (kk n2 h2 _ _ _ (by omega) (Jo.mk2 F1.1 q4 q3 D2 P Jm0 (by omega) hx hsc1 k3 hD1))
set_option maxHeartbeats 4000000 in
/-- case 36: withdrawn -/
theorem law_c36 {G : hp_G} {K : hp_C} {sc L : Nat} {xs : Nat → Int32} {x w i n bc bs : Nat} {h : Nat → Option va_E} (B : Lb G K sc L x w i n bc bs) (J : Jo G sc L xs x w h) (kk : Lk G K sc L xs x w i bc bs) : V G K (ML_law K) bc bs (n, h) 2040 [some (.ref sc), some (.ref x), some (.ref (x + 148)), some (.ref (x + 161)), some (.ref (x + 162)), some (.int (nI i)), none, none, none] [] := by
  obtain ⟨C, hl, hR, hx, hi, hL, hw, hn, hbc, hbs⟩ := B
  obtain ⟨M, B, Z, mk, nx, cnt, t, n0, lt, ln, hs, ma, fa, rk, S, KL, v, E, hS, D, P, Jm0, hv, hsc, ⟨f, hO⟩, ⟨f2, hD⟩⟩ := J
  have hbase := E.base
  have H := P.2.1.1
  refine v_aload_n C dL_law_2040 rfl ?_
  refine v_callV C (rest := []) (c_X7_withdrawn hl E hn) (fun EE τ hp => by cases hp.1) dL_law_2041 mX7_withdrawn rfl E.o rfl wd3_185 rfl rfl (Nat.le_of_ble_eq_true rfl) (hR _ _ (by decide) (by decide)) (Nat.le_trans (by decide) hbc) (Nat.le_trans (by decide) hbs) (fun v1 τ hp => ?_)
  obtain ⟨e, F1⟩ := hp
  cases e
  obtain ⟨n1, h1⟩ := τ
  show V G K _ _ _ (n1, h1) 2044 [some (.ref sc), some (.ref x), some (.ref (x + 148)), some (.ref (x + 161)), some (.ref (x + 162)), some (.int (nI i)), none, none, none] [.long _]
  have k1 : ∀ a, x + 148 ≤ a → a < x + 163 → h1 a = h a := fun a k5 k6 => F1.2.2.2 a (Or.inr ⟨k5, k6⟩)
  have hn1 := F1.2.1
  have hS1 : Mo G h1 (x + 148) S := hS.same (fun a k5 k6 => k1 a (by omega) (by omega))
  have hsc1 := (F1.2.2.2 sc (Or.inl hx)).trans hsc
  have k3 := (k1 (x + 161) (by omega) (by omega)).trans hO
  have hD1 := (k1 (x + 162) (by omega) (by omega)).trans hD
  refine v_aload_n C dL_law_2044 rfl ?_
  refine v_callV C (rest := [.long _]) (c_X8_withdrawn hl hS1 D.1) (fun EE τ hp => by cases hp.1) dL_law_2045 mX8_withdrawn rfl hS1.o rfl wd8_104 rfl rfl (Nat.le_of_ble_eq_true rfl) (hR _ _ (by decide) (by decide)) (Nat.zero_le _) (Nat.zero_le _) (fun v1 τ q => ?_)
  obtain ⟨q1, q2, q3, q4⟩ := q
  cases q1
  obtain ⟨n2, h2⟩ := τ
  have q2 : n2 = n1 := q2
  obtain ⟨D2, e3⟩ := D.s3 (nI 0)
  show V G K _ _ _ (n2, h2) 2048 [some (.ref sc), some (.ref x), some (.ref (x + 148)), some (.ref (x + 161)), some (.ref (x + 162)), some (.int (nI i)), none, none, none] [.long _, .long _]
  refine v_lcmp C dL_law_2048 ?_
  refine v_if_eq (tgt := 2670) C dL_law_2049 (by decide) (fun _ => ?_) (fun y => absurd ((hp_lcmp0 _ _).mpr rfl) y)
  exact v_widen (by omega) (by omega) (kk n2 h2 _ _ _ (by omega) (Jo.mk2 F1.1 q4 q3 D2 P Jm0 (by omega) hx hsc1 k3 hD1))
set_option maxHeartbeats 4000000 in
/-- case 43: isConsistent -/
theorem law_c43 {G : hp_G} {K : hp_C} {sc L : Nat} {xs : Nat → Int32} {x w i n bc bs : Nat} {h : Nat → Option va_E} (B : Lb G K sc L x w i n bc bs) (J : Jo G sc L xs x w h) (kk : Lk G K sc L xs x w i bc bs) : V G K (ML_law K) bc bs (n, h) 2366 [some (.ref sc), some (.ref x), some (.ref (x + 148)), some (.ref (x + 161)), some (.ref (x + 162)), some (.int (nI i)), none, none, none] [] := by
  obtain ⟨C, hl, hR, hx, hi, hL, hw, hn, hbc, hbs⟩ := B
  obtain ⟨M, B, Z, mk, nx, cnt, t, n0, lt, ln, hs, ma, fa, rk, S, KL, v, E, hS, D, P, Jm0, hv, hsc, ⟨f, hO⟩, ⟨f2, hD⟩⟩ := J
  have hbase := E.base
  have H := P.2.1.1
  refine v_aload_n C dL_law_2366 rfl ?_
  refine v_callVq C (rest := []) (c_X7_isConsistent hl E hn) dL_law_2367 mX7_isConsistent rfl E.o rfl wd3_193 rfl rfl (Nat.le_of_ble_eq_true rfl) (hR _ _ (by decide) (by decide)) (Nat.le_trans (by decide) hbc) (Nat.le_trans (by decide) hbs) (fun r1 n1 h1 hp => ?_)
  obtain ⟨e, F1⟩ := hp
  have e5 : r1 = 1 := e.elim (fun z => z.2) (fun z => absurd (cs_all P.2.1 (by omega)) z.1)
  subst e5
  show V G K _ _ _ (n1, h1) 2370 [some (.ref sc), some (.ref x), some (.ref (x + 148)), some (.ref (x + 161)), some (.ref (x + 162)), some (.int (nI i)), none, none, none] [.int _]
  have k1 : ∀ a, x + 148 ≤ a → a < x + 163 → h1 a = h a := fun a k5 k6 => F1.2.2.2 a (Or.inr ⟨k5, k6⟩)
  have hn1 := F1.2.1
  have hS1 : Mo G h1 (x + 148) S := hS.same (fun a k5 k6 => k1 a (by omega) (by omega))
  have hsc1 := (F1.2.2.2 sc (Or.inl hx)).trans hsc
  have k3 := (k1 (x + 161) (by omega) (by omega)).trans hO
  have hD1 := (k1 (x + 162) (by omega) (by omega)).trans hD
  refine v_aload_n C dL_law_2370 rfl ?_
  refine v_callVq C (rest := [.int _]) (c_X8_isConsistent hl hS1 D.1) dL_law_2371 mX8_isConsistent rfl hS1.o rfl wd8_144 rfl rfl (Nat.le_of_ble_eq_true rfl) (hR _ _ (by decide) (by decide)) (Nat.zero_le _) (Nat.zero_le _) (fun r n2 h2 q => ?_)
  obtain ⟨q1, q2, q3, q4⟩ := q
  obtain ⟨D2, e3⟩ := D.s3 (nI 0)
  have e6 : r = 1 := q1.elim (fun z => z.2) (fun z => absurd (acc_m P.2.1.2.1 (by omega) H.1.2.1 D.1) z.1)
  refine v_icmp_eq (tgt := 2670) C dL_law_2374 (by decide) (fun _ => ?_) (fun y => absurd (e6.symm) y)
  exact v_widen (by omega) (by omega) (kk n2 h2 _ _ _ (by omega) (Jo.mk2 F1.1 q4 q3 D2 P Jm0 (by omega) hx hsc1 k3 hD1))

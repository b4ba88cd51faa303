/-! ===== THE LAW: its loop ===== -/
theorem Jo.up {G : hp_G} {sc L : Nat} {xs : Nat → Int32} {x w w' : Nat} {h : Nat → Option va_E} (J : Jo G sc L xs x w h) (hw : w ≤ w') : Jo G sc L xs x w' h := by
  obtain ⟨M, B, Z, mk, nx, cnt, t, n0, lt, ln, hs, ma, fa, rk, S, KL, v, E, hS, D, P, Jm0, hv, hsc, hO, hD⟩ := J
  exact ⟨M, B, Z, mk, nx, cnt, t, n0, lt, ln, hs, ma, fa, rk, S, KL, v, E, hS, D, P, Jm0, by omega, hsc, hO, hD⟩
theorem Jo.sc {G : hp_G} {sc L : Nat} {xs : Nat → Int32} {x w : Nat} {h : Nat → Option va_E} (J : Jo G sc L xs x w h) : h sc = some (.inl (G.2.2.1 7, L, .inl xs)) := by
  obtain ⟨M, B, Z, mk, nx, cnt, t, n0, lt, ln, hs, ma, fa, rk, S, KL, v, E, hS, D, P, Jm0, hv, hsc, hO, hD⟩ := J
  exact hsc
theorem v_sldN {G : hp_G} {K : hp_C} {M : hp_M} {bc bs n : Nat} {h : Nat → Option va_E} {pc : Nat} {lo : List (Option Value)} {st : List Value} (C : hp_Cx G K M) {a z j : Nat} {f : Nat → Int32} (hd : decode M.1 pc = .ok (.iaload, 1)) (hh : h a = some (.inl (G.2.2.1 7, z, .inl f))) (hj : j < z) (hz : z ≤ 65536) (k : V G K M bc bs (n, h) (pc + 1) lo (.int (f j) :: st)) : V G K M bc bs (n, h) pc lo (.int (nI j) :: .ref a :: st) := by
  refine v_sld C hd hh (vp_in_nI hj (by omega)) ?_
  rw [nI_clamp (by omega)]
  exact k
theorem and63 (a : Int32) : ∃ q, q < 64 ∧ a &&& 63 = nI q := by
  refine ⟨(a &&& 63).toBitVec.toNat, ?_, ?_⟩
  · show (a.toBitVec &&& (63 : Int32).toBitVec).toNat < 64
    rw [BitVec.toNat_and]
    have := Nat.and_le_right (n := a.toBitVec.toNat) (m := (63 : Int32).toBitVec.toNat)
    have e : (63 : Int32).toBitVec.toNat = 63 := by decide
    omega
  · apply Int32.toBitVec_inj.mp
    show (a &&& 63).toBitVec = BitVec.ofNat 32 (a &&& 63).toBitVec.toNat
    rw [BitVec.ofNat_toNat, BitVec.setWidth_eq]
set_option maxHeartbeats 4000000 in
theorem law_sw {G : hp_G} {K : hp_C} {sc L : Nat} {xs : Nat → Int32} {x w i n bc bs : Nat} {h : Nat → Option va_E} (B : Lb G K sc L x w i n bc bs) (J : Jo G sc L xs x w h) (kk : Lk G K sc L xs x w i bc bs) {q : Nat} (hq : q < 64) : V G K (ML_law K) bc bs (n, h) 45 [some (.ref sc), some (.ref x), some (.ref (x + 148)), some (.ref (x + 161)), some (.ref (x + 162)), some (.int (nI i)), none, none, none] [.int (nI q)] := by
  have C := B.1
  have hn := B.2.2.2.2.2.2.2.1
  match q, hq with
  | 0, _ => exact v_tableIn (tgt := 264) C dL_law_45 (by decide) (by decide) rfl (by decide) (law_c0 B J kk)
  | 1, _ => exact v_tableIn (tgt := 332) C dL_law_45 (by decide) (by decide) rfl (by decide) (law_c1 B J kk)
  | 2, _ => exact v_tableIn (tgt := 388) C dL_law_45 (by decide) (by decide) rfl (by decide) (law_c2 B J kk)
  | 3, _ => exact v_tableIn (tgt := 492) C dL_law_45 (by decide) (by decide) rfl (by decide) (law_c3 B J kk)
  | 4, _ => exact v_tableIn (tgt := 560) C dL_law_45 (by decide) (by decide) rfl (by decide) (law_c4 B J kk)
  | 5, _ => exact v_tableIn (tgt := 573) C dL_law_45 (by decide) (by decide) rfl (by decide) (law_c5 B J kk)
  | 6, _ => exact v_tableIn (tgt := 641) C dL_law_45 (by decide) (by decide) rfl (by decide) (law_c6 B J kk)
  | 7, _ => exact v_tableIn (tgt := 709) C dL_law_45 (by decide) (by decide) rfl (by decide) (law_c7 B J kk)
  | 8, _ => exact v_tableIn (tgt := 777) C dL_law_45 (by decide) (by decide) rfl (by decide) (law_c8 B J kk)
  | 9, _ => exact v_tableIn (tgt := 790) C dL_law_45 (by decide) (by decide) rfl (by decide) (law_c9 B J kk)
  | 10, _ => exact v_tableIn (tgt := 846) C dL_law_45 (by decide) (by decide) rfl (by decide) (law_c10 B J kk)
  | 11, _ => exact v_tableIn (tgt := 902) C dL_law_45 (by decide) (by decide) rfl (by decide) (law_c11 B J kk)
  | 12, _ => exact v_tableIn (tgt := 958) C dL_law_45 (by decide) (by decide) rfl (by decide) (law_c12 B J kk)
  | 13, _ => exact v_tableIn (tgt := 971) C dL_law_45 (by decide) (by decide) rfl (by decide) (law_c13 B J kk)
  | 14, _ => exact v_tableIn (tgt := 1027) C dL_law_45 (by decide) (by decide) rfl (by decide) (law_c14 B J kk)
  | 15, _ => exact v_tableIn (tgt := 1090) C dL_law_45 (by decide) (by decide) rfl (by decide) (law_c15 B J kk)
  | 16, _ => exact v_tableIn (tgt := 1153) C dL_law_45 (by decide) (by decide) rfl (by decide) (law_c16 B J kk)
  | 17, _ => exact v_tableIn (tgt := 1221) C dL_law_45 (by decide) (by decide) rfl (by decide) (law_c17 B J kk)
  | 18, _ => exact v_tableIn (tgt := 1277) C dL_law_45 (by decide) (by decide) rfl (by decide) (law_c18 B J kk)
  | 19, _ => exact v_tableIn (tgt := 1290) C dL_law_45 (by decide) (by decide) rfl (by decide) (law_c19 B J kk)
  | 20, _ => exact v_tableIn (tgt := 1346) C dL_law_45 (by decide) (by decide) rfl (by decide) (law_c20 B J kk)
  | 21, _ => exact v_tableIn (tgt := 1402) C dL_law_45 (by decide) (by decide) rfl (by decide) (law_c21 B J kk)
  | 22, _ => exact v_tableIn (tgt := 1458) C dL_law_45 (by decide) (by decide) rfl (by decide) (law_c22 B J kk)
  | 23, _ => exact v_tableIn (tgt := 1514) C dL_law_45 (by decide) (by decide) rfl (by decide) (law_c23 B J kk)
  | 24, _ => exact v_tableIn (tgt := 1570) C dL_law_45 (by decide) (by decide) rfl (by decide) (law_c24 B J kk)
  | 25, _ => exact v_tableIn (tgt := 1626) C dL_law_45 (by decide) (by decide) rfl (by decide) (law_c25 B J kk)
  | 26, _ => exact v_tableIn (tgt := 1682) C dL_law_45 (by decide) (by decide) rfl (by decide) (law_c26 B J kk)
  | 27, _ => exact v_tableIn (tgt := 1738) C dL_law_45 (by decide) (by decide) rfl (by decide) (law_c27 B J kk)
  | 28, _ => exact v_tableIn (tgt := 1751) C dL_law_45 (by decide) (by decide) rfl (by decide) (law_c28 B J kk)
  | 29, _ => exact v_tableIn (tgt := 1764) C dL_law_45 (by decide) (by decide) rfl (by decide) (law_c29 B J kk)
  | 30, _ => exact v_tableIn (tgt := 1820) C dL_law_45 (by decide) (by decide) rfl (by decide) (law_c30 B J kk)
  | 31, _ => exact v_tableIn (tgt := 1876) C dL_law_45 (by decide) (by decide) rfl (by decide) (law_c31 B J kk)
  | 32, _ => exact v_tableIn (tgt := 1944) C dL_law_45 (by decide) (by decide) rfl (by decide) (law_c32 B J kk)
  | 33, _ => exact v_tableIn (tgt := 2000) C dL_law_45 (by decide) (by decide) rfl (by decide) (law_c33 B J kk)
  | 34, _ => exact v_tableIn (tgt := 2013) C dL_law_45 (by decide) (by decide) rfl (by decide) (law_c34 B J kk)
  | 35, _ => exact v_tableIn (tgt := 2026) C dL_law_45 (by decide) (by decide) rfl (by decide) (law_c35 B J kk)
  | 36, _ => exact v_tableIn (tgt := 2040) C dL_law_45 (by decide) (by decide) rfl (by decide) (law_c36 B J kk)
  | 37, _ => exact v_tableIn (tgt := 2054) C dL_law_45 (by decide) (by decide) rfl (by decide) (law_c37 B J kk)
  | 38, _ => exact v_tableIn (tgt := 2067) C dL_law_45 (by decide) (by decide) rfl (by decide) (law_c38 B J kk)
  | 39, _ => exact v_tableIn (tgt := 2132) C dL_law_45 (by decide) (by decide) rfl (by decide) (law_c39 B J kk)
  | 40, _ => exact v_tableIn (tgt := 2198) C dL_law_45 (by decide) (by decide) rfl (by decide) (law_c40 B J kk)
  | 41, _ => exact v_tableIn (tgt := 2254) C dL_law_45 (by decide) (by decide) rfl (by decide) (law_c41 B J kk)
  | 42, _ => exact v_tableIn (tgt := 2310) C dL_law_45 (by decide) (by decide) rfl (by decide) (law_c42 B J kk)
  | 43, _ => exact v_tableIn (tgt := 2366) C dL_law_45 (by decide) (by decide) rfl (by decide) (law_c43 B J kk)
  | 44, _ => exact v_tableIn (tgt := 2379) C dL_law_45 (by decide) (by decide) rfl (by decide) (law_c44 B J kk)
  | 45, _ => exact v_tableIn (tgt := 2437) C dL_law_45 (by decide) (by decide) rfl (by decide) (law_c45 B J kk)
  | 46, _ => exact v_tableIn (tgt := 2481) C dL_law_45 (by decide) (by decide) rfl (by decide) (law_c46 B J kk)
  | 47, _ => exact v_tableIn (tgt := 2525) C dL_law_45 (by decide) (by decide) rfl (by decide) (law_c47 B J kk)
  | 48, _ => exact v_tableIn (tgt := 2569) C dL_law_45 (by decide) (by decide) rfl (by decide) (law_c48 B J kk)
  | 49, _ => exact v_tableIn (tgt := 2613) C dL_law_45 (by decide) (by decide) rfl (by decide) (law_c49 B J kk)
  | 50, _ => exact v_tableIn (tgt := 2626) C dL_law_45 (by decide) (by decide) rfl (by decide) (law_c50 B J kk)
  | q + 51, hq =>
    refine v_tableOut (tgt := 2670) C dL_law_45 (Or.inr ?_) (by decide) (v_widen (Nat.sub_le _ _) (Nat.sub_le _ _) (kk n h none none none hn (J.up (Nat.le_succ w))))
    rw [nI_toInt (by omega)]
    omega
set_option maxHeartbeats 4000000 in
/-- the loop -/
theorem law_loop {G : hp_G} {K : hp_C} {sc L : Nat} {xs : Nat → Int32} {x : Nat} (C : hp_Cx G K (ML_law K)) (hl : K.2.1.stackTraces = false) (hR : ∀ d nn, d ≤ 13 → nn ≤ 45 → d + 1 ≤ (hp_Rm K).frames ∧ 8 + (nn + 11) + 64 * d ≤ (hp_Rm K).locals) (hx : sc < x) (hL : L ≤ 3072) (hend : ∀ bc bs n h lo, V G K (ML_law K) bc bs (n, h) 2677 lo [.int 1]) : ∀ c k n h, 6 * (k + c) ≤ L → L < 6 * (k + c) + 6 → x + 163 ≤ n → Jo G sc L xs x k h → V G K (ML_law K) (10 * c) (5424 * c) (n, h) 28 [some (.ref sc), some (.ref x), some (.ref (x + 148)), some (.ref (x + 161)), some (.ref (x + 162)), some (.int (nI (6 * k))), none, none, none] [] := by
  intro c
  induction c with
  | zero =>
    intro k n h h1 h2 hn J
    refine v_iload C dL_law_28 rfl ?_
    refine v_aload_n C dL_law_30 rfl ?_
    refine v_slen C dL_law_31 J.sc ?_
    refine v_bipush (v := nI 6) C dL_law_32 (by decide) ?_
    refine v_isub C dL_law_34 ?_
    have e1 : (nI L).toInt = (L : Int) := nI_toInt (by omega)
    have e2 : (nI 6).toInt = 6 := by decide
    have e3 : (nI (6 * k)).toInt = ((6 * k : Nat) : Int) := nI_toInt (by omega)
    have e4 : (nI L - nI 6).toInt = (L : Int) - 6 := by rw [i_sub (m := 3072) (n := 6) (by omega) (by omega) (by decide), e1, e2]
    refine v_icmp_gt (tgt := 2676) C dL_law_35 (by decide) (fun _ => ?_) (fun z => absurd (Int32.lt_iff_toInt_lt.mpr (by rw [e4, e3]; omega)) z)
    refine v_iconst (v := 1) C dL_law_2676 (by decide) ?_
    exact hend _ _ _ _ _
  | succ c ih =>
    intro k n h h1 h2 hn J
    refine v_iload C dL_law_28 rfl ?_
    refine v_aload_n C dL_law_30 rfl ?_
    refine v_slen C dL_law_31 J.sc ?_
    refine v_bipush (v := nI 6) C dL_law_32 (by decide) ?_
    refine v_isub C dL_law_34 ?_
    have e1 : (nI L).toInt = (L : Int) := nI_toInt (by omega)
    have e2 : (nI 6).toInt = 6 := by decide
    have e3 : (nI (6 * k)).toInt = ((6 * k : Nat) : Int) := nI_toInt (by omega)
    have e4 : (nI L - nI 6).toInt = (L : Int) - 6 := by rw [i_sub (m := 3072) (n := 6) (by omega) (by omega) (by decide), e1, e2]
    refine v_icmp_gt (tgt := 2676) C dL_law_35 (by decide) (fun z => absurd (Int32.lt_iff_toInt_lt.mp z) (by rw [e4, e3]; omega)) (fun _ => ?_)
    refine v_aload_n C dL_law_38 rfl ?_
    refine v_iload C dL_law_39 rfl ?_
    refine v_sldN C dL_law_41 J.sc (show 6 * k < L by omega) (by omega) ?_
    refine v_bipush (v := 63) C dL_law_42 (by decide) ?_
    refine v_iand C dL_law_44 ?_
    obtain ⟨q, hq, eq⟩ := and63 (xs (6 * k))
    rw [eq]
    refine law_sw (w := k) (i := 6 * k) ⟨C, hl, hR, hx, by omega, hL, by omega, hn, by omega, by omega⟩ J (fun n' h' v6 v7 v8 hn' J' => ?_) hq
    refine v_lo (lo' := [some (.ref sc), some (.ref x), some (.ref (x + 148)), some (.ref (x + 161)), some (.ref (x + 162)), some (.int (nI (6 * k))), none, none, none]) (fun i v hv => ?_) ?_
    · match i, hv with
      | 0, hv => exact hv
      | 1, hv => exact hv
      | 2, hv => exact hv
      | 3, hv => exact hv
      | 4, hv => exact hv
      | 5, hv => exact hv
      | 6, hv => cases hv
      | 7, hv => cases hv
      | 8, hv => cases hv
      | i + 9, hv => cases hv
    refine v_iinc C dL_law_2670 (Nat.le_of_ble_eq_true rfl) rfl ?_
    refine v_goto (tgt := 28) C dL_law_2673 (by decide) ?_
    have e6 : nI (6 * k) + Int32.ofInt 6 = nI (6 * (k + 1)) := by
      apply Int32.toInt.inj
      rw [i_add (m := 3072) (n := 6) (by omega) (by rw [show (Int32.ofInt 6).toInt = 6 by decide]; omega) (by decide), e3, show (Int32.ofInt 6).toInt = 6 by decide, nI_toInt (by omega)]
      omega
    have r := ih (k + 1) n' h' (by omega) (by omega) hn' J'
    rw [← e6] at r
    exact v_widen (by omega) (by omega) r

/-! ===== THE MODEL: over all ways ===== -/
set_option maxHeartbeats 8000000 in
theorem loop3_X8_least {G : hp_G} {K : hp_C} {P : hp_P} {n0 : Nat} {h0 : Nat → Option va_E} {y : Nat} {S : mo_T} {M : mk_T} {d ways : Nat} {Z : ls_T} (hg : Gr (S.1 0) M) (hbase : G.2.1 ≤ y) (hd : d < 6) (hw : ways ≤ 1296) (C : hp_Cx G K MX8_least) (E : hp_End G K P) (hRm : hp_Rm K = hp_rm 3 0 0) (hl : K.2.1.stackTraces = false) (hp : ∀ h, Mo G h y (mo_s67 S Z.2.1 Z.2.2) → (∀ a, (a < y ∨ y + 13 ≤ a) → h a = h0 a) → P (.inl (some (.int Z.1))) (n0, h)) : ∀ (e way : Nat) (R : ls_T) (h : Nat → Option va_E), way + e = ways → ls_r M d e way R = Z → Mo G h y (mo_s67 S R.2.1 R.2.2) → (∀ a, (a < y ∨ y + 13 ≤ a) → h a = h0 a) → V G K MX8_least 0 0 (n0, h) 139 [some (.ref y), some (.int (nI d)), some (.int (nI ways)), some (.int R.1), some (.int (nI way)), none, none] [] := by
  intro e
  induction e with
  | zero =>
    intro way R h hc hZ H hO
    have e : way = ways := by omega
    subst e
    have hZ : R = Z := hZ
    subst hZ
    refine v_iload C dX8_least_139 rfl ?_
    refine v_iload_n C dX8_least_141 rfl ?_
    refine v_icmp_geN (tgt := 216) C dX8_least_142 (by decide) (by omega) (by omega) (fun c142 => ?_) (fun c142 => absurd c142 (by omega))
    refine v_iload_n C dX8_least_216 rfl ?_
    exact v_iret C E dX8_least_217 rfl (hp _ H hO)
  | succ e ih =>
    intro way R h hc hZ H hO
    have hZ : ls_r M d e (way + 1) (ls_1 M d way R) = Z := hZ
    generalize hQ : mo_lw M d (mk_hz M) way 0 R.2.1 = Q at *
    have e1 : ls_1 M d way R = (if Q.1 = true then (if 0 ≤ R.1 ∧ R.1 ≤ mo_mt M Q.2 d (mk_tr M) then (R.1, Q.2, R.2.2) else (mo_mt M Q.2 d (mk_tr M), Q.2, ls_b Q.2 R.2.2 4)) else (R.1, Q.2, R.2.2)) := by unfold ls_1; rw [hQ]
    refine v_iload C dX8_least_139 rfl ?_
    refine v_iload_n C dX8_least_141 rfl ?_
    refine v_icmp_geN (tgt := 216) C dX8_least_142 (by decide) (by omega) (by omega) (fun c142 => absurd c142 (by omega)) (fun c142 => ?_)
    refine v_aload_n C dX8_least_145 rfl ?_
    refine v_iload_n C dX8_least_146 rfl ?_
    refine v_iload C dX8_least_147 rfl ?_
    refine v_callVq C (c_X8_laysWay hl H hg hd (show way < 1296 by omega)) dX8_least_149 mX8_laysWay rfl H.o rfl wd7_176 rfl rfl (Nat.le_of_ble_eq_true rfl) (hp_rmle hRm (by decide) (by decide)) (Nat.le_of_ble_eq_true rfl) (Nat.le_of_ble_eq_true rfl) (fun r149 n149 h149 q149 => ?_)
    rw [show (mo_s67 S R.2.1 R.2.2).1 6 = R.2.1 from rfl, hQ] at q149
    obtain ⟨e149, k149, Y149, W149⟩ := q149
    have z149 := Eq.symm k149
    have z149 : n0 = n149 := z149
    subst z149
    subst e149
    have X149 := Y149.to mo_s67_t
    have W149 : ∀ a, (a < y ∨ y + 13 ≤ a) → h149 a = h0 a := fun a ha => (W149 a ha).trans (hO a ha)
    refine v_if_neB (tgt := 158) C dX8_least_152 (by decide) (fun c152 => ?_) (fun c152 => ?_)
    · refine v_aload_n C dX8_least_158 rfl ?_
      refine v_iload_n C dX8_least_159 rfl ?_
      refine v_callVi C (c_X8_marginsAfter hl X149 hg hd) dX8_least_160 mX8_marginsAfter rfl X149.o rfl wd7_180 rfl rfl (Nat.le_of_ble_eq_true rfl) (hp_rmle hRm (by decide) (by decide)) (Nat.le_of_ble_eq_true rfl) (Nat.le_of_ble_eq_true rfl) ?_
      rw [show (mo_s67 S Q.2 R.2.2).1 6 = Q.2 from rfl]
      refine v_istore C dX8_least_163 (by decide) ?_
      refine v_iload_n C dX8_least_165 rfl ?_
      refine v_if_lt (tgt := 178) C dX8_least_166 (by decide) (fun c166 => ?_) (fun c166 => ?_)
      · have e2 : ls_1 M d way R = (mo_mt M Q.2 d (mk_tr M), Q.2, ls_b Q.2 R.2.2 4) := e1.trans ((if_pos c152).trans (if_neg (fun z => absurd c166 (Int32.not_lt.mpr z.1))))
        refine v_iload C dX8_least_178 rfl ?_
        refine v_istore_n C dX8_least_180 (by decide) ?_
        refine v_iconst (v := nI 0) C dX8_least_181 (by decide) ?_
        refine v_istore C dX8_least_182 (by decide) ?_
        refine loop4_X8_least (S := S) (T := Q.2) (B := R.2.2) hbase C (fun h9 Y9 W9 => ?_) 4 0 _ rfl (X149.to (congrArg (mo_s67 S Q.2) (ls_b0 Q.2 R.2.2).symm)) W149
        refine v_iincN C dX8_least_210 (by decide) rfl ?_
        refine v_goto (tgt := 139) C dX8_least_213 (by decide) ?_
        refine v_drop 5 ?_
        refine v_drop 6 ?_
        exact ih (way + 1) ((mo_mt M Q.2 d (mk_tr M), Q.2, ls_b Q.2 R.2.2 4)) _ (by omega) (by rw [← e2]; exact hZ) Y9 W9
      · refine v_iload C dX8_least_169 rfl ?_
        refine v_iload_n C dX8_least_171 rfl ?_
        refine v_icmp_lt (tgt := 178) C dX8_least_172 (by decide) (fun c172 => ?_) (fun c172 => ?_)
        · have e2 : ls_1 M d way R = (mo_mt M Q.2 d (mk_tr M), Q.2, ls_b Q.2 R.2.2 4) := e1.trans ((if_pos c152).trans (if_neg (fun z => absurd c172 (Int32.not_lt.mpr z.2))))
          refine v_iload C dX8_least_178 rfl ?_
          refine v_istore_n C dX8_least_180 (by decide) ?_
          refine v_iconst (v := nI 0) C dX8_least_181 (by decide) ?_
          refine v_istore C dX8_least_182 (by decide) ?_
          refine loop4_X8_least (S := S) (T := Q.2) (B := R.2.2) hbase C (fun h9 Y9 W9 => ?_) 4 0 _ rfl (X149.to (congrArg (mo_s67 S Q.2) (ls_b0 Q.2 R.2.2).symm)) W149
          refine v_iincN C dX8_least_210 (by decide) rfl ?_
          refine v_goto (tgt := 139) C dX8_least_213 (by decide) ?_
          refine v_drop 5 ?_
          refine v_drop 6 ?_
          exact ih (way + 1) ((mo_mt M Q.2 d (mk_tr M), Q.2, ls_b Q.2 R.2.2 4)) _ (by omega) (by rw [← e2]; exact hZ) Y9 W9
        · have e2 : ls_1 M d way R = (R.1, Q.2, R.2.2) := e1.trans ((if_pos c152).trans (if_pos ⟨Int32.not_lt.mp c166, Int32.not_lt.mp c172⟩))
          refine v_goto (tgt := 210) C dX8_least_175 (by decide) ?_
          refine v_iincN C dX8_least_210 (by decide) rfl ?_
          refine v_goto (tgt := 139) C dX8_least_213 (by decide) ?_
          refine v_drop 5 ?_
          refine v_drop 6 ?_
          exact ih (way + 1) ((R.1, Q.2, R.2.2)) _ (by omega) (by rw [← e2]; exact hZ) X149 W149
    · have e2 : ls_1 M d way R = (R.1, Q.2, R.2.2) := e1.trans (if_neg c152)
      refine v_goto (tgt := 210) C dX8_least_155 (by decide) ?_
      refine v_iincN C dX8_least_210 (by decide) rfl ?_
      refine v_goto (tgt := 139) C dX8_least_213 (by decide) ?_
      refine v_drop 5 ?_
      refine v_drop 6 ?_
      exact ih (way + 1) ((R.1, Q.2, R.2.2)) _ (by omega) (by rw [← e2]; exact hZ) X149 W149

/-! ===== THE LAW: shares ===== -/
theorem fl_d2 (a b : Int32) (hb : b ≠ 0) : FP.dcmp (FP.ddiv (FP.i2d a) (FP.i2d b)) (FP.ddiv (FP.i2d a) (FP.i2d b)) = some .eq := by
  have h := Jvm.FP.Core.ddiv_out (Jvm.FP.Core.i2d_fin a).notNaN (Jvm.FP.Core.i2d_fin b) (fun z => Jvm.FP.Core.i2d_ne_zero hb ((Jvm.FP.Core.zero_bits2 _).mp z))
  exact Jvm.FP.Core.dcmp_self ((Jvm.FP.Core.notNaN_iff _).mp h)
theorem fl_f2 (a b : Int32) (hb : b ≠ 0) : vf_n64 (FP.f2d (FP.fdiv (FP.i2f a) (FP.i2f b))) ∧ FP.dcmp (FP.f2d (FP.fdiv (FP.i2f a) (FP.i2f b))) (FP.f2d (FP.fdiv (FP.i2f a) (FP.i2f b))) = some .eq := by
  have h := Jvm.FP.Core.fdiv_out (Jvm.FP.Core.i2f_fin a).notNaN (Jvm.FP.Core.i2f_fin b) (fun z => Jvm.FP.Core.i2f_ne_zero hb ((Jvm.FP.Core.zero_bits232 _).mp z))
  have g := Jvm.FP.Core.f2d_out h
  have g2 := (Jvm.FP.Core.notNaN_iff _).mp g
  have e : FP.f2d (FP.fdiv (FP.i2f a) (FP.i2f b)) = Jvm.FP.Core.f2d (FP.fdiv (FP.i2f a) (FP.i2f b)) := Jvm.FP.f2d_core h
  rw [e]
  refine ⟨?_, Jvm.FP.Core.dcmp_self g2⟩
  have h2 := (Jvm.FP.Core.ne_nan _).mp g2
  unfold vf_n64
  rw [UInt64.le_iff_toNat_le, Jvm.FP.Core.mask_toNat]
  exact h2
theorem LwD_u {G : hp_G} {b : Nat} {f : Nat → UInt64} {T : Type} {g : T → UInt64} {c : T → hp_O} {ans : hp_O} {ex : List String} {F : hp_T → Prop} {n0 : Nat} {h0 : Nat → Option va_E} {x L0 : Nat} {M : mk_T} {B : mk_T} {Z : mk_T} {mk : Nat → mk_T} {nx : Nat} {cnt : Nat} {t : Nat → Nat} {n : Nat} {lt : Nat → Nat} {ln : Nat} {hs : Int32} {ma : Int32} {fa : Int32} {rk : Nat → Option va_E} (hb1 : x + 148 ≤ b) (hb2 : b < L0) (hb0 : h0 b = some (.inl (G.2.2.1 4, 1, .inr (.inr (.inr (.inl f)))))) (hF : ∀ τ, F τ → Fx G n0 h0 x L0 M B Z mk nx cnt t n lt ln hs ma fa rk τ.1 τ.2) {o : hp_O} {τ : hp_T} (H : LwD G b f g c ans ex F o τ) : ∃ code f', o = rI code ∧ Ex G τ.2 x L0 M B Z mk nx cnt t n lt ln hs ma fa rk ∧ n0 ≤ τ.1 ∧ (∀ a, x + 148 ≤ a → a < L0 → a ≠ b → τ.2 a = h0 a) ∧ (∀ a, a < x → τ.2 a = h0 a) ∧ τ.2 b = some (.inl (G.2.2.1 4, 1, .inr (.inr (.inr (.inl f'))))) ∧ ((∃ r, ans = c r ∧ code = nI 0 ∧ f' 0 = g r) ∨ (∃ i E, ex[i]? = some E ∧ ans = .inr E ∧ code = nI (i + 1))) := by
  rcases H with ⟨r, τ1, h1, h2, h3, h4, h5, h6⟩ | ⟨i, E, h1, h2, h3, h4⟩
  · have F1 := hF τ1 h3
    refine ⟨_, _, h2, F1.1.same (fun a ha => h6 a (by omega)), by rw [h4]; exact F1.2.1, fun a k1 k2 k3 => (h6 a k3).trans (F1.2.2.2 a (Or.inr ⟨k1, k2⟩)), fun a k1 => (h6 a (by omega)).trans (F1.2.2.2 a (Or.inl k1)), h5, Or.inl ⟨r, h1, rfl, ?_⟩⟩
    show (if (0 : Nat) = 0 then g r else f 0) = g r
    exact if_pos rfl
  · have F1 := hF τ h3
    exact ⟨_, f, h4, F1.1, F1.2.1, fun a k1 k2 _ => F1.2.2.2 a (Or.inr ⟨k1, k2⟩), fun a k1 => F1.2.2.2 a (Or.inl k1), (F1.2.2.2 b (Or.inr ⟨hb1, hb2⟩)).trans hb0, Or.inr ⟨i, E, h1, h2, rfl⟩⟩
theorem i_nz {k : Nat} (h : k ≤ 6) (hk : ¬ k = 0) : nI k ≠ 0 := by
  have h9 : ∀ k, k < 7 → ¬ k = 0 → nI k ≠ 0 := by decide
  exact h9 k (by omega) hk
set_option maxHeartbeats 4000000 in
/-- case 38: meanMargin -/
theorem law_c38 {G : hp_G} {K : hp_C} {sc L : Nat} {xs : Nat → Int32} {x w i n bc bs : Nat} {h : Nat → Option va_E} (B : Lb G K sc L x w i n bc bs) (J : Jo G sc L xs x w h) (kk : Lk G K sc L xs x w i bc bs) : V G K (ML_law K) bc bs (n, h) 2067 [some (.ref sc), some (.ref x), some (.ref (x + 148)), some (.ref (x + 161)), some (.ref (x + 162)), some (.int (nI i)), none, none, none] [] := by
  obtain ⟨C, hl, hR, hx, hi, hL, hw, hn, hbc, hbs⟩ := B
  obtain ⟨M, B, Z, mk, nx, cnt, t, n0, lt, ln, hs, ma, fa, rk, S, KL, v, E, hS, D, P, Jm0, hv, hsc, ⟨f, hO⟩, ⟨f2, hD⟩⟩ := J
  have hbase := E.base
  have H := P.2.1.1
  have h6 := H.1.2.1
  have an : (mm_a M = .inr "java/lang/ArithmeticException" ∧ mk_tr M = 0) ∨ (mm_a M = .inl (some (.double (FP.ddiv (FP.i2d (mm_s M (mk_tr M))) (FP.i2d (nI (mk_tr M)))))) ∧ ¬ mk_tr M = 0) := by
    unfold mm_a qa
    by_cases z : mk_tr M = 0
    · rw [if_neg (fun y => y z)]
      exact Or.inl ⟨rfl, z⟩
    · rw [if_pos z]
      exact Or.inr ⟨rfl, z⟩
  refine v_aload_n C dL_law_2067 rfl ?_
  refine v_aload C dL_law_2068 rfl ?_
  refine w_callS C (c_L_meanMargin hl (b := x + 162) (Nat.le_trans hbase (Nat.le_add_right _ _)) E.o (c_X7_meanMargin hl E hn) (fun τ hF => (hF.2.2.2 _ (Or.inr ⟨by omega, by omega⟩)).trans hD) (an.elim (fun z => Or.inr z.1) (fun z => Or.inl ⟨_, z.1⟩))) LwD_n dL_law_2070 mL_meanMargin wd5_6 rfl rfl (Nat.le_of_ble_eq_true rfl) (hR _ _ (by decide) (by decide)) (Nat.le_trans (by decide) hbc) (Nat.le_trans (by decide) hbs) (fun v9 τ hp => ?_)
  obtain ⟨code, f', e9, E1, hn1, k1, k2, k3, k4⟩ := LwD_u (L0 := x + 163) (by omega) (by omega) hD (fun τ hF => hF) hp
  cases e9
  obtain ⟨n1, h1⟩ := τ
  show V G K _ _ _ (n1, h1) 2073 [some (.ref sc), some (.ref x), some (.ref (x + 148)), some (.ref (x + 161)), some (.ref (x + 162)), some (.int (nI i)), none, none, none] [.int code]
  refine v_istore C dL_law_2073 (Nat.le_of_ble_eq_true rfl) ?_
  show V G K _ _ _ (n1, h1) 2075 [some (.ref sc), some (.ref x), some (.ref (x + 148)), some (.ref (x + 161)), some (.ref (x + 162)), some (.int (nI i)), some (.int code), none, none] []
  have hS1 : Mo G h1 (x + 148) S := hS.same (fun a k5 k6 => k1 a (by omega) (by omega) (by omega))
  have hsc1 := (k2 sc hx).trans hsc
  have hO1 := (k1 (x + 161) (by omega) (by omega) (by omega)).trans hO
  refine v_aload_n C dL_law_2075 rfl ?_
  refine v_callV C (rest := []) (c_X8_meanMargin hl hS1 D.1) (fun EE τ hp => by have q := hp.1; split at q <;> cases q) dL_law_2076 mX8_meanMargin rfl hS1.o rfl wd8_112 rfl rfl (Nat.le_of_ble_eq_true rfl) (hR _ _ (by decide) (by decide)) (Nat.zero_le _) (Nat.zero_le _) (fun v8 τ q => ?_)
  obtain ⟨q1, q2, q3, q4⟩ := q
  obtain ⟨n2, h2⟩ := τ
  have q2 : n2 = n1 := q2
  obtain ⟨D2, e3⟩ := D.s3 (if mk_tr M = 0 then nI 1 else nI 0)
  have hD2 := (q4 (x + 162) (by omega)).trans k3
  have cc : ∃ u, v8 = some (.double u) ∧ (mo_si S 3 (if mk_tr M = 0 then nI 1 else nI 0)).2 3 = code ∧ (code = nI 0 → f' 0 = u ∧ FP.dcmp u u = some .eq) := by
    rw [e3]
    rcases an with ⟨y1, y2⟩ | ⟨y1, y2⟩
    · rw [if_pos y2] at q1
      rw [if_pos y2]
      cases q1
      rcases k4 with ⟨r9, j1, -⟩ | ⟨i9, E9, j1, j2, j3⟩
      · rw [y1] at j1
        cases j1
      · match i9, j1, j3 with
        | 0, _, j3 => exact ⟨_, rfl, j3.symm, fun y => absurd (j3.symm.trans y) (by decide)⟩
        | i9 + 1, j1, _ => cases j1
    · rw [if_neg y2] at q1
      rw [if_neg y2]
      cases q1
      rcases k4 with ⟨r9, j1, j2, j3⟩ | ⟨i9, E9, j1, j2, j3⟩
      · rw [y1] at j1
        cases j1
        rw [← mm_e H]
        exact ⟨_, rfl, j2.symm, fun _ => ⟨j3, fl_d2 _ _ (i_nz h6 y2)⟩⟩
      · rw [y1] at j2
        cases j2
  obtain ⟨u, e8, cc1, cc2⟩ := cc
  subst e8
  show V G K _ _ _ (n2, h2) 2079 [some (.ref sc), some (.ref x), some (.ref (x + 148)), some (.ref (x + 161)), some (.ref (x + 162)), some (.int (nI i)), some (.int code), none, none] [.double u]
  refine v_dstore C dL_law_2079 (Nat.le_of_ble_eq_true rfl) ?_
  show V G K _ _ _ (n2, h2) 2081 [some (.ref sc), some (.ref x), some (.ref (x + 148)), some (.ref (x + 161)), some (.ref (x + 162)), some (.int (nI i)), some (.int code), some (.double u), none] []
  refine v_aload_n C dL_law_2081 rfl ?_
  refine v_callVi C (c_X8_thrown hl q3) dL_law_2082 mX8_thrown rfl q3.o rfl wd7_71 rfl rfl (Nat.le_of_ble_eq_true rfl) (hR 0 1 (by decide) (by decide)) (Nat.zero_le _) (Nat.zero_le _) ?_
  refine v_iload C dL_law_2085 rfl ?_
  refine v_icmp_eq (tgt := 2092) C dL_law_2087 (by decide) (fun _ => ?_) (fun z => absurd cc1 z)
  have out : V G K (ML_law K) (bc - 1 - 0 - 0) (bs - 6 - 0 - 0) (n2, h2) 2129 [some (.ref sc), some (.ref x), some (.ref (x + 148)), some (.ref (x + 161)), some (.ref (x + 162)), some (.int (nI i)), some (.int code), some (.double u), none] [] := v_goto (tgt := 2670) C dL_law_2129 (by decide) (v_widen (by omega) (by omega) (kk n2 h2 _ _ _ (by omega) ⟨M, B, Z, mk, nx, cnt, t, n0, lt, ln, hs, ma, fa, rk, _, KL, v, E1.same (fun a ha => q4 a (by omega)), q3, D2, P, Jm0, by omega, (q4 _ (by omega)).trans hsc1, ⟨_, (q4 _ (by omega)).trans hO1⟩, ⟨_, hD2⟩⟩))
  refine v_iload C dL_law_2092 rfl ?_
  refine v_if_ne (tgt := 2129) C dL_law_2094 (by decide) (fun _ => out) (fun z => ?_)
  obtain ⟨cc3, cc4⟩ := cc2 z
  refine v_aload C dL_law_2097 rfl ?_
  refine v_iconst (v := nI 0) C dL_law_2099 (by decide) ?_
  refine v_dald C dL_law_2100 hD2 (vp_in_nI (n := 0) (N := 1) (by decide) (by decide)) ?_
  refine v_dload C dL_law_2101 rfl ?_
  refine v_dcmp C dL_law_2103 ?_
  refine v_if_eq (tgt := 2129) C dL_law_2104 (by decide) (fun _ => out) (fun y => absurd ?_ y)
  show Op.cmpValue (FP.dcmp (f' 0) _) _ = 0
  rw [cc3, cc4]
  rfl
set_option maxHeartbeats 4000000 in
/-- case 39: soundShare -/
theorem law_c39 {G : hp_G} {K : hp_C} {sc L : Nat} {xs : Nat → Int32} {x w i n bc bs : Nat} {h : Nat → Option va_E} (B : Lb G K sc L x w i n bc bs) (J : Jo G sc L xs x w h) (kk : Lk G K sc L xs x w i bc bs) : V G K (ML_law K) bc bs (n, h) 2132 [some (.ref sc), some (.ref x), some (.ref (x + 148)), some (.ref (x + 161)), some (.ref (x + 162)), some (.int (nI i)), none, none, none] [] := by
  obtain ⟨C, hl, hR, hx, hi, hL, hw, hn, hbc, hbs⟩ := B
  obtain ⟨M, B, Z, mk, nx, cnt, t, n0, lt, ln, hs, ma, fa, rk, S, KL, v, E, hS, D, P, Jm0, hv, hsc, ⟨f, hO⟩, ⟨f2, hD⟩⟩ := J
  have hbase := E.base
  have H := P.2.1.1
  have h6 := H.1.2.1
  have an : (ss_a M = .inr "java/lang/ArithmeticException" ∧ mk_tr M = 0) ∨ (ss_a M = .inl (some (.float (FP.fdiv (FP.i2f (nI (ss_n M (mk_tr M)))) (FP.i2f (nI (mk_tr M)))))) ∧ ¬ mk_tr M = 0) := by
    unfold ss_a qa
    by_cases z : mk_tr M = 0
    · rw [if_neg (fun y => y z)]
      exact Or.inl ⟨rfl, z⟩
    · rw [if_pos z]
      exact Or.inr ⟨rfl, z⟩
  refine v_aload_n C dL_law_2132 rfl ?_
  refine v_aload C dL_law_2133 rfl ?_
  refine w_callS C (c_L_soundShare hl (b := x + 162) (Nat.le_trans hbase (Nat.le_add_right _ _)) E.o (c_X7_soundShare hl E hn) (fun τ hF => (hF.2.2.2 _ (Or.inr ⟨by omega, by omega⟩)).trans hD) (an.elim (fun z => Or.inr z.1) (fun z => Or.inl ⟨_, z.1⟩)) (fun r hr => by
    rcases an with ⟨y, -⟩ | ⟨y, z⟩
    · rw [y] at hr
      cases hr
    · rw [y] at hr
      cases hr
      exact (fl_f2 _ _ (i_nz h6 z)).1)) LwD_n dL_law_2135 mL_soundShare wd5_30 rfl rfl (Nat.le_of_ble_eq_true rfl) (hR _ _ (by decide) (by decide)) (Nat.le_trans (by decide) hbc) (Nat.le_trans (by decide) hbs) (fun v9 τ hp => ?_)
  obtain ⟨code, f', e9, E1, hn1, k1, k2, k3, k4⟩ := LwD_u (L0 := x + 163) (by omega) (by omega) hD (fun τ hF => hF) hp
  cases e9
  obtain ⟨n1, h1⟩ := τ
  show V G K _ _ _ (n1, h1) 2138 [some (.ref sc), some (.ref x), some (.ref (x + 148)), some (.ref (x + 161)), some (.ref (x + 162)), some (.int (nI i)), none, none, none] [.int code]
  refine v_istore C dL_law_2138 (Nat.le_of_ble_eq_true rfl) ?_
  show V G K _ _ _ (n1, h1) 2140 [some (.ref sc), some (.ref x), some (.ref (x + 148)), some (.ref (x + 161)), some (.ref (x + 162)), some (.int (nI i)), some (.int code), none, none] []
  have hS1 : Mo G h1 (x + 148) S := hS.same (fun a k5 k6 => k1 a (by omega) (by omega) (by omega))
  have hsc1 := (k2 sc hx).trans hsc
  have hO1 := (k1 (x + 161) (by omega) (by omega) (by omega)).trans hO
  refine v_aload_n C dL_law_2140 rfl ?_
  refine v_callV C (rest := []) (c_X8_soundShare hl hS1 D.1) (fun EE τ hp => by have q := hp.1; split at q <;> cases q) dL_law_2141 mX8_soundShare rfl hS1.o rfl wd8_116 rfl rfl (Nat.le_of_ble_eq_true rfl) (hR _ _ (by decide) (by decide)) (Nat.zero_le _) (Nat.zero_le _) (fun v8 τ q => ?_)
  obtain ⟨q1, q2, q3, q4⟩ := q
  obtain ⟨n2, h2⟩ := τ
  have q2 : n2 = n1 := q2
  obtain ⟨D2, e3⟩ := D.s3 (if mk_tr M = 0 then nI 1 else nI 0)
  have hD2 := (q4 (x + 162) (by omega)).trans k3
  have cc : ∃ u, v8 = some (.float u) ∧ (mo_si S 3 (if mk_tr M = 0 then nI 1 else nI 0)).2 3 = code ∧ (code = nI 0 → f' 0 = FP.f2d u ∧ FP.dcmp (FP.f2d u) (FP.f2d u) = some .eq ∧ vf_n64 (FP.f2d u)) := by
    rw [e3]
    rcases an with ⟨y1, y2⟩ | ⟨y1, y2⟩
    · rw [if_pos y2] at q1
      rw [if_pos y2]
      cases q1
      rcases k4 with ⟨r9, j1, -⟩ | ⟨i9, E9, j1, j2, j3⟩
      · rw [y1] at j1
        cases j1
      · match i9, j1, j3 with
        | 0, _, j3 => exact ⟨_, rfl, j3.symm, fun y => absurd (j3.symm.trans y) (by decide)⟩
        | i9 + 1, j1, _ => cases j1
    · rw [if_neg y2] at q1
      rw [if_neg y2]
      cases q1
      rcases k4 with ⟨r9, j1, j2, j3⟩ | ⟨i9, E9, j1, j2, j3⟩
      · rw [y1] at j1
        cases j1
        exact ⟨_, rfl, j2.symm, fun _ => ⟨j3, (fl_f2 _ _ (i_nz h6 y2)).2, (fl_f2 _ _ (i_nz h6 y2)).1⟩⟩
      · rw [y1] at j2
        cases j2
  obtain ⟨u, e8, cc1, cc2⟩ := cc
  subst e8
  show V G K _ _ _ (n2, h2) 2144 [some (.ref sc), some (.ref x), some (.ref (x + 148)), some (.ref (x + 161)), some (.ref (x + 162)), some (.int (nI i)), some (.int code), none, none] [.float u]
  refine v_fstore C dL_law_2144 (Nat.le_of_ble_eq_true rfl) ?_
  show V G K _ _ _ (n2, h2) 2146 [some (.ref sc), some (.ref x), some (.ref (x + 148)), some (.ref (x + 161)), some (.ref (x + 162)), some (.int (nI i)), some (.int code), some (.float u), none] []
  refine v_aload_n C dL_law_2146 rfl ?_
  refine v_callVi C (c_X8_thrown hl q3) dL_law_2147 mX8_thrown rfl q3.o rfl wd7_71 rfl rfl (Nat.le_of_ble_eq_true rfl) (hR 0 1 (by decide) (by decide)) (Nat.zero_le _) (Nat.zero_le _) ?_
  refine v_iload C dL_law_2150 rfl ?_
  refine v_icmp_eq (tgt := 2157) C dL_law_2152 (by decide) (fun _ => ?_) (fun z => absurd cc1 z)
  have out : V G K (ML_law K) (bc - 1 - 0 - 0) (bs - 6 - 0 - 0) (n2, h2) 2195 [some (.ref sc), some (.ref x), some (.ref (x + 148)), some (.ref (x + 161)), some (.ref (x + 162)), some (.int (nI i)), some (.int code), some (.float u), none] [] := v_goto (tgt := 2670) C dL_law_2195 (by decide) (v_widen (by omega) (by omega) (kk n2 h2 _ _ _ (by omega) ⟨M, B, Z, mk, nx, cnt, t, n0, lt, ln, hs, ma, fa, rk, _, KL, v, E1.same (fun a ha => q4 a (by omega)), q3, D2, P, Jm0, by omega, (q4 _ (by omega)).trans hsc1, ⟨_, (q4 _ (by omega)).trans hO1⟩, ⟨_, hD2⟩⟩))
  refine v_iload C dL_law_2157 rfl ?_
  refine v_if_ne (tgt := 2195) C dL_law_2159 (by decide) (fun _ => out) (fun z => ?_)
  obtain ⟨cc3, cc4, cc5⟩ := cc2 z
  refine v_aload C dL_law_2162 rfl ?_
  refine v_iconst (v := nI 0) C dL_law_2164 (by decide) ?_
  refine v_dald C dL_law_2165 hD2 (vp_in_nI (n := 0) (N := 1) (by decide) (by decide)) ?_
  refine v_fload C dL_law_2166 rfl ?_
  refine v_f2d C dL_law_2168 cc5 ?_
  refine v_dcmp C dL_law_2169 ?_
  refine v_if_eq (tgt := 2195) C dL_law_2170 (by decide) (fun _ => out) (fun y => absurd ?_ y)
  show Op.cmpValue (FP.dcmp (f' 0) _) _ = 0
  rw [cc3, cc4]
  rfl

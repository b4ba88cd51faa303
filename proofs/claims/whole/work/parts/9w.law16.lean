/-! ===== THE LAW: a text is carried out ===== -/
theorem rd_tx_q {t : Nat → Nat} {n : Nat} : ∀ f cnt p (cm ar : Nat → Int32), p ≤ n → (rd_tx t n f cnt cm ar p).2.2.2.2 ≤ n
  | 0, cnt, p, cm, ar, h => h
  | f + 1, cnt, p, cm, ar, h => by
    have hc := rd_co_n (t := t) (n := n) (cnt := cnt) (cm := cm) (ar := ar) h
    unfold rd_tx
    generalize rd_co t n cnt cm ar p = C at hc
    show (ite _ _ _ : rd_T).2.2.2.2 ≤ n
    by_cases z : C.1 = true
    · simp only [if_pos z]
      by_cases z2 : C.2.2.2 = n
      · simp only [if_pos z2]
        omega
      · simp only [if_neg z2]
        by_cases z3 : sg t n C.2.2.2 = 59
        · simp only [if_pos z3]
          exact rd_tx_q f (cnt + 1) _ _ _ (by omega)
        · simp only [if_neg z3]
          exact hc
    · simp only [if_neg z]
      exact hc
theorem tx_q (t : Nat → Nat) (n : Nat) : (tx_p t n).2.2.2.2 ≤ n := rd_tx_q 12 0 0 _ _ (Nat.zero_le n)
theorem Ia.any {w : Nat} {M : mk_T} (H : Ia w M) (hw : w ≤ 598) {c : Nat} {a b k d e : Int32} (h : fo M c a b k d e = nI 0) : Ia (w + 1) (po_M M c a b k d e) := by
  by_cases z : c < 8
  · exact H.po hw z h
  · obtain ⟨q, rfl⟩ : ∃ q, c = q + 8 := ⟨c - 8, by omega⟩
    have e1 : fo M (q + 8) a b k d e = mk_fK M a b := rfl
    have e2 : po_M M (q + 8) a b k d e = mk_giv M a.toNatClampNeg b := rfl
    have g := H.po hw (c := 7) (by decide) (a := a) (b := b) (k := k) (d := d) (e := e) ((fo_7 M a b k d e).1.trans (e1.symm.trans h))
    rw [(fo_7 M a b k d e).2.1] at g
    rw [e2]
    exact g
theorem x_any {T : rd_T} {M : mk_T} {w : Nat} (A : Ia w M) : ∀ i, w + i ≤ 598 → (∀ j, j < i → xe_o T M j = nI 0) → Ia (w + i) (xe_M T M i)
  | 0, _, _ => A
  | i + 1, hi, h => (x_any A i (by omega) (fun j hj => h j (by omega))).any (by omega) (h i (Nat.lt_succ_self i))
theorem nI_nn : ∀ k, k < 64 → ¬ nI k < 0 := by decide
theorem xf_lt {T : rd_T} {M : mk_T} : ∀ e i k, xe_f T M e i = some k → k < i + e
  | 0, i, k, h => by cases h
  | e + 1, i, k, h => by
    unfold xe_f at h
    split at h
    · have := xf_lt e (i + 1) k h
      omega
    · cases h
      omega
/-- what execute answers, and what the model says -/
theorem ex_x {t : Nat → Nat} {n : Nat} (hn : n ≤ 60) {S S2 : mo_T} {M Z : mk_T} {K mk : Nat → mk_T} {nx cnt : Nat} {hs : Int32} {P : wl_T} {ma fa r : Int32} {v w : Nat} (hv : v + n ≤ w) (hw : w ≤ 511) (J : Jp v M Z K mk nx cnt n hs) (Jm0 : Jm ma fa) (X : Xq (tm_r (sg t n) n 31 0 0 (S.1 11)) M K cnt hs Z t P ma fa r S2) : ∃ (K' : Nat → mk_T) (v' : Nat), Md S2 (ex_M (tx_p t n) M) K' (ex_C (tx_p t n) M cnt) hs Z t 0 P (ex_ma (tx_p t n) ma) (ex_fa (tx_p t n) M fa) ∧ Jp v' (ex_M (tx_p t n) M) Z K' (ex_K (tx_p t n) M mk nx) (ex_X (tx_p t n) M nx) (ex_C (tx_p t n) M cnt) 0 hs ∧ Jm (ex_ma (tx_p t n) ma) (ex_fa (tx_p t n) M fa) ∧ v' + 0 ≤ w ∧ ((ex_a (tx_p t n) M = .inr "java/lang/IllegalArgumentException" ∧ S2.2 3 = nI 1) ∨ (ex_a (tx_p t n) M = .inr "java/lang/IllegalStateException" ∧ S2.2 3 = nI 2) ∨ (∃ u, ex_a (tx_p t n) M = rI u ∧ S2.2 3 = nI 0 ∧ r = u)) := by
  obtain ⟨e1, e2, e3⟩ := tx_e hn (S.1 11)
  obtain ⟨R, hR⟩ : ∃ R, R = tm_r (sg t n) n 31 0 0 (S.1 11) := ⟨_, rfl⟩
  rw [← hR] at e1 e2 e3 X
  have q := tx_q t n
  have c12 := tx_c12 t n
  have J0 : ∀ v', v ≤ v' → Jp v' M Z K mk nx cnt 0 hs := fun v' h => by
    obtain ⟨a, b, c, d, e, f⟩ := J.up h
    exact ⟨a, b, c, d, e, Nat.zero_le _⟩
  unfold ex_M ex_C ex_K ex_X ex_ma ex_fa ex_a ex_ok
  rcases X with ⟨x1, x2, x3, x4⟩ | ⟨x1, x2⟩
  · have z : ¬ (tx_p t n).1 = true := fun y => x1 (e1.symm.trans y)
    have zo : ¬ ((tx_p t n).1 = true ∧ xe_f (tx_p t n) M (tx_p t n).2.1 0 = none) := fun y => z y.1
    rw [if_neg zo, if_neg zo, if_neg zo, if_neg zo, if_neg z, if_neg z, if_neg z]
    rw [← e2] at x4
    exact ⟨K, v, x4, J0 v (Nat.le_refl _), ⟨Or.inr (nI_nn _ (by omega)), Jm0.2⟩, by omega, Or.inl ⟨rfl, x3⟩⟩
  · have z : (tx_p t n).1 = true := e1.trans x1
    obtain ⟨e4, e5⟩ := e3 z
    have cn := tx_n z
    have ef := x_f e5 J.2.1 (by omega) (tx_p t n).2.1 0 (Nat.zero_add _) (fun j hj => absurd hj (Nat.not_lt_zero j))
    rw [← e4, ef] at x2
    rw [if_pos z, if_pos z, if_pos z]
    rcases x2 with ⟨k, y1, y2, y3, y4⟩ | ⟨y1, y2, y3, y4⟩
    · have zo : ¬ ((tx_p t n).1 = true ∧ xe_f (tx_p t n) M (tx_p t n).2.1 0 = none) := fun y => by
        have := y.2
        rw [y1] at this
        cases this
      rw [if_neg zo, if_neg zo, if_neg zo, if_neg zo, y1]
      have hk := xf_lt _ _ _ y1
      exact ⟨K, v, y4, J0 v (Nat.le_refl _), ⟨Jm0.1, Or.inr (nI_nn _ (by omega))⟩, by omega, Or.inr (Or.inl ⟨rfl, y3⟩)⟩
    · have zo : (tx_p t n).1 = true ∧ xe_f (tx_p t n) M (tx_p t n).2.1 0 = none := ⟨z, y1⟩
      rw [if_pos zo, if_pos zo, if_pos zo, if_pos zo, y1]
      have all := xf_none _ _ y1
      obtain ⟨r1, r2⟩ := x_run e5 J.2.1 (by omega) (tx_p t n).2.1 (Nat.le_refl _) (fun j hj => all j (Nat.zero_le _) (by omega))
      rw [r1] at y4
      obtain ⟨j1, j2⟩ := J.kp (Nat.le_add_right v (tx_p t n).2.1) r2 (Nat.zero_le 60)
      rw [j2] at y4
      exact ⟨_, v + (tx_p t n).2.1, y4, j1, Jm0, by omega, Or.inr (Or.inr ⟨_, rfl, y3, y2⟩)⟩
set_option maxHeartbeats 4000000 in
/-- case 45: execute -/
theorem law_c45 {G : hp_G} {K : hp_C} {sc L : Nat} {xs : Nat → Int32} {x w i n bc bs : Nat} {h : Nat → Option va_E} (B : Lb G K sc L x w i n bc bs) (J : Jo G sc L xs x w h) (kk : Lk G K sc L xs x w i bc bs) : V G K (ML_law K) bc bs (n, h) 2437 [some (.ref sc), some (.ref x), some (.ref (x + 148)), some (.ref (x + 161)), some (.ref (x + 162)), some (.int (nI i)), none, none, none] [] := by
  obtain ⟨C, hl, hR, hx, hi, hL, hw, hn, hbc, hbs⟩ := B
  obtain ⟨M, B, Z, mk, nx, cnt, t, n0, lt, ln, hs, ma, fa, rk, S, KL, v, E, hS, D, P, Jm0, hv, hsc, ⟨f, hO⟩, ⟨f2, hD⟩⟩ := J
  have hbase := E.base
  have H := P.2.1.1
  have n60 := D.2.2.2.2.2.1.2.1
  obtain ⟨e1, e2, e3⟩ := tx_e n60 (S.1 11)
  have hA : (∃ r, ex_a (tx_p t n0) M = rI r) ∨ ex_a (tx_p t n0) M = .inr "java/lang/IllegalArgumentException" ∨ ex_a (tx_p t n0) M = .inr "java/lang/IllegalStateException" := by
    unfold ex_a
    split
    · split
      · exact Or.inl ⟨_, rfl⟩
      · exact Or.inr (Or.inr rfl)
    · exact Or.inr (Or.inl rfl)
  have hok : ex_hok (tx_p t n0) M := by
    have c12 := tx_c12 t n0
    exact fun i hi _ hz => (x_any P.2.1 i (by omega) hz).ok (by omega)
  refine v_aload_n C dL_law_2437 rfl ?_
  refine v_aload_n C dL_law_2438 rfl ?_
  refine l_call C (x := x) (L0 := x + 163) (bO := x + 161) (c_L_execute hl (Nat.le_trans hbase (Nat.le_add_right _ _)) E.o ((c_X7_execute hl E hn n60 rfl hok).imp (P' := fun o τ => o = ex_a (tx_p t n0) M ∧ ∃ rk1, Fx G n h x (x + 163) (ex_M (tx_p t n0) M) (ex_B (tx_p t n0) M B) Z (ex_K (tx_p t n0) M mk nx) (ex_X (tx_p t n0) M nx) (ex_C (tx_p t n0) M cnt) t 0 lt ln hs (ex_ma (tx_p t n0) ma) (ex_fa (tx_p t n0) M fa) rk1 τ.1 τ.2) (fun o τ hp => by obtain ⟨rk1, a1, a2⟩ := hp; exact ⟨a1, rk1, a2⟩)) (fun τ hF => by obtain ⟨rk1, hF⟩ := hF; exact (hF.2.2.2 _ (Or.inr ⟨by omega, by omega⟩)).trans hO) hA) (by omega) (by omega) hO (fun τ hF => hF) dL_law_2439 mL_execute wd6_112 rfl rfl (Nat.le_of_ble_eq_true rfl) (hR _ _ (by decide) (by decide)) (Nat.le_trans (by decide) hbc) (Nat.le_trans (by decide) hbs) (fun code f' n1 h1 E1 hn1 k1 k2 k3 k4 => ?_)
  obtain ⟨rk1, E1⟩ := E1
  refine v_istore C dL_law_2442 (Nat.le_of_ble_eq_true rfl) ?_
  show V G K _ _ _ (n1, h1) 2444 [some (.ref sc), some (.ref x), some (.ref (x + 148)), some (.ref (x + 161)), some (.ref (x + 162)), some (.int (nI i)), some (.int code), none, none] []
  have hS1 : Mo G h1 (x + 148) S := hS.same (fun a k5 k6 => k1 a (by omega) (by omega) (by omega))
  have hsc1 := (k2 sc hx).trans hsc
  have hD1 := (k1 (x + 162) (by omega) (by omega) (by omega)).trans hD
  refine v_aload_n C dL_law_2444 rfl ?_
  refine v_callVq C (c_X8_execute hl hS1 D E1.kc (fun z => by
    have z2 := e1.trans z
    obtain ⟨e4, e5⟩ := e3 z2
    have c12 := tx_c12 t n0
    exact ⟨by omega, fun i hi => by obtain ⟨c, c8, -, c9, -⟩ := e5 i (by omega); exact ⟨c, c8, c9⟩⟩) (fun z => by
    have z2 := e1.trans z
    obtain ⟨e4, e5⟩ := e3 z2
    have cn := tx_n z2
    rw [← e4]
    exact x_all e5 P.2.1 (by omega))) dL_law_2445 mX8_execute rfl hS1.o rfl wd8_152 rfl rfl (Nat.le_of_ble_eq_true rfl) (hR _ _ (by decide) (by decide)) (Nat.zero_le _) (Nat.zero_le _) (fun r n2 h2 q => ?_)
  obtain ⟨q2, ⟨S2, q3, q5⟩, q4⟩ := q
  obtain ⟨K2, v2, D2, P2, J2, hv2, Y⟩ := ex_x n60 hv hw P Jm0 q5
  have cc : S2.2 3 = code ∧ (code = nI 0 → f' 0 = r.toInt64) := by
    rcases Y with ⟨z1, z2⟩ | ⟨z1, z2⟩ | ⟨u, z1, z2, z3⟩
    · rw [z1] at k4
      obtain ⟨i9, h1, h3⟩ := lr_i k4
      rw [z2]
      match i9, h1, h3 with
      | 0, _, h3 => exact ⟨h3.symm, fun y => absurd (h3.symm.trans y) (by decide)⟩
      | 1, h1, _ => exact absurd h1 (by decide)
      | i9 + 2, h1, _ => cases h1
    · rw [z1] at k4
      obtain ⟨i9, h1, h3⟩ := lr_i k4
      rw [z2]
      match i9, h1, h3 with
      | 0, h1, _ => exact absurd h1 (by decide)
      | 1, _, h3 => exact ⟨h3.symm, fun y => absurd (h3.symm.trans y) (by decide)⟩
      | i9 + 2, h1, _ => cases h1
    · rw [z1] at k4
      obtain ⟨h1, h2⟩ := lr_v k4
      rw [z2, z3]
      exact ⟨h1.symm, fun _ => h2⟩
  refine l_tailI C hl q3 ((q4 _ (by omega)).trans k3) cc.1 (fun z => ?_) rfl rfl (hR 0 1 (by decide) (by decide)) dL_law_2448 dL_law_2450 dL_law_2451 dL_law_2454 dL_law_2456 dL_law_2461 dL_law_2463 dL_law_2466 dL_law_2467 dL_law_2468 dL_law_2469 dL_law_2471 dL_law_2472 dL_law_2473 dL_law_2478 (by decide) ?_
  · exact cc.2 z
  · exact v_widen (by omega) (by omega) (kk n2 h2 _ _ _ (by omega) (Jo.mk2 E1 q4 q3 D2 P2 J2 (by omega) hx hsc1 k3 hD1))

/-! ===== THE LAW: modifications ===== -/
abbrev hf_a (f : Int32) : Prop := f = nI 0 ∨ f = nI 2 ∨ f = nI 3
theorem qa_a {f v : Int32} (hf : hf_a f) : (∃ r, qa (f = nI 0) (ex_cl f) (rI v) = rI r) ∨ qa (f = nI 0) (ex_cl f) (rI v) = .inr "java/lang/IllegalArgumentException" ∨ qa (f = nI 0) (ex_cl f) (rI v) = .inr "java/lang/IllegalStateException" := by
  rcases hf with rfl | rfl | rfl
  · exact Or.inl ⟨v, if_pos rfl⟩
  · have hq : qa (nI 2 = nI 0) (ex_cl (nI 2)) (rI v) = .inr "java/lang/IllegalArgumentException" := (if_neg (by decide)).trans rfl
    exact Or.inr (Or.inl hq)
  · have hq : qa (nI 3 = nI 0) (ex_cl (nI 3)) (rI v) = .inr "java/lang/IllegalStateException" := (if_neg (by decide)).trans rfl
    exact Or.inr (Or.inr hq)
theorem lr_a {c : Nat} (hc : c < 2) {f v code : Int32} {Q : Int32 → Prop} (hf : hf_a f) (H : Lr (qa (f = nI 0) (ex_cl f) (rI v)) ["java/lang/IllegalArgumentException", "java/lang/IllegalStateException"] code Q) : code = fx c f ∧ (code = nI 0 → f = nI 0 ∧ Q v) := by
  unfold qa at H
  rcases hf with rfl | rfl | rfl
  · rw [if_pos rfl] at H
    rcases H with ⟨r, h1, h2, h3⟩ | ⟨i, E, h1, h2, h3⟩
    · cases h1
      exact ⟨by unfold fx; rw [if_pos hc]; exact h2, fun _ => ⟨rfl, h3⟩⟩
    · cases h2
  · rw [if_neg (by decide)] at H
    rcases H with ⟨r, h1, h2, h3⟩ | ⟨i, E, h1, h2, h3⟩
    · cases h1
    · cases h2
      match i, h1, h3 with
      | 0, _, h3 => exact ⟨by unfold fx; rw [if_pos hc]; exact h3, fun y => absurd (h3.symm.trans y) (by decide)⟩
      | 1, h1, _ => exact absurd h1 (by decide)
      | i + 2, h1, _ => cases h1
  · rw [if_neg (by decide)] at H
    rcases H with ⟨r, h1, h2, h3⟩ | ⟨i, E, h1, h2, h3⟩
    · cases h1
    · cases h2
      match i, h1, h3 with
      | 0, h1, _ => exact absurd h1 (by decide)
      | 1, _, h3 => exact ⟨by unfold fx; rw [if_pos hc]; exact h3, fun y => absurd (h3.symm.trans y) (by decide)⟩
      | i + 2, h1, _ => cases h1
abbrev hf_b (f : Int32) : Prop := f = nI 0 ∨ f = nI 1 ∨ f = nI 2
theorem qa_b {f v : Int32} (hf : hf_b f) : (∃ r, qa (f = nI 0) (ex_cl f) (rI v) = rI r) ∨ qa (f = nI 0) (ex_cl f) (rI v) = .inr "java/lang/IndexOutOfBoundsException" ∨ qa (f = nI 0) (ex_cl f) (rI v) = .inr "java/lang/IllegalArgumentException" := by
  rcases hf with rfl | rfl | rfl
  · exact Or.inl ⟨v, if_pos rfl⟩
  · have hq : qa (nI 1 = nI 0) (ex_cl (nI 1)) (rI v) = .inr "java/lang/IndexOutOfBoundsException" := (if_neg (by decide)).trans rfl
    exact Or.inr (Or.inl hq)
  · have hq : qa (nI 2 = nI 0) (ex_cl (nI 2)) (rI v) = .inr "java/lang/IllegalArgumentException" := (if_neg (by decide)).trans rfl
    exact Or.inr (Or.inr hq)
theorem lr_b {f v code : Int32} {Q : Int32 → Prop} (hf : hf_b f) (H : Lr (qa (f = nI 0) (ex_cl f) (rI v)) ["java/lang/IndexOutOfBoundsException", "java/lang/IllegalArgumentException"] code Q) : code = f ∧ (code = nI 0 → f = nI 0 ∧ Q v) := by
  unfold qa at H
  rcases hf with rfl | rfl | rfl
  · rw [if_pos rfl] at H
    rcases H with ⟨r, h1, h2, h3⟩ | ⟨i, E, h1, h2, h3⟩
    · cases h1
      exact ⟨h2, fun _ => ⟨rfl, h3⟩⟩
    · cases h2
  · rw [if_neg (by decide)] at H
    rcases H with ⟨r, h1, h2, h3⟩ | ⟨i, E, h1, h2, h3⟩
    · cases h1
    · cases h2
      match i, h1, h3 with
      | 0, _, h3 => exact ⟨h3, fun y => absurd (h3.symm.trans y) (by decide)⟩
      | 1, h1, _ => exact absurd h1 (by decide)
      | i + 2, h1, _ => cases h1
  · rw [if_neg (by decide)] at H
    rcases H with ⟨r, h1, h2, h3⟩ | ⟨i, E, h1, h2, h3⟩
    · cases h1
    · cases h2
      match i, h1, h3 with
      | 0, h1, _ => exact absurd h1 (by decide)
      | 1, _, h3 => exact ⟨h3, fun y => absurd (h3.symm.trans y) (by decide)⟩
      | i + 2, h1, _ => cases h1
abbrev hf_c (f : Int32) : Prop := f = nI 0 ∨ f = nI 1 ∨ f = nI 2 ∨ f = nI 3
theorem qa_c {f v : Int32} (hf : hf_c f) : (∃ r, qa (f = nI 0) (ex_cl f) (rI v) = rI r) ∨ qa (f = nI 0) (ex_cl f) (rI v) = .inr "java/lang/IndexOutOfBoundsException" ∨ qa (f = nI 0) (ex_cl f) (rI v) = .inr "java/lang/IllegalArgumentException" ∨ qa (f = nI 0) (ex_cl f) (rI v) = .inr "java/lang/IllegalStateException" := by
  rcases hf with rfl | rfl | rfl | rfl
  · exact Or.inl ⟨v, if_pos rfl⟩
  · have hq : qa (nI 1 = nI 0) (ex_cl (nI 1)) (rI v) = .inr "java/lang/IndexOutOfBoundsException" := (if_neg (by decide)).trans rfl
    exact Or.inr (Or.inl hq)
  · have hq : qa (nI 2 = nI 0) (ex_cl (nI 2)) (rI v) = .inr "java/lang/IllegalArgumentException" := (if_neg (by decide)).trans rfl
    exact Or.inr (Or.inr (Or.inl hq))
  · have hq : qa (nI 3 = nI 0) (ex_cl (nI 3)) (rI v) = .inr "java/lang/IllegalStateException" := (if_neg (by decide)).trans rfl
    exact Or.inr (Or.inr (Or.inr hq))
theorem lr_c {f v code : Int32} {Q : Int32 → Prop} (hf : hf_c f) (H : Lr (qa (f = nI 0) (ex_cl f) (rI v)) ["java/lang/IndexOutOfBoundsException", "java/lang/IllegalArgumentException", "java/lang/IllegalStateException"] code Q) : code = f ∧ (code = nI 0 → f = nI 0 ∧ Q v) := by
  unfold qa at H
  rcases hf with rfl | rfl | rfl | rfl
  · rw [if_pos rfl] at H
    rcases H with ⟨r, h1, h2, h3⟩ | ⟨i, E, h1, h2, h3⟩
    · cases h1
      exact ⟨h2, fun _ => ⟨rfl, h3⟩⟩
    · cases h2
  · rw [if_neg (by decide)] at H
    rcases H with ⟨r, h1, h2, h3⟩ | ⟨i, E, h1, h2, h3⟩
    · cases h1
    · cases h2
      match i, h1, h3 with
      | 0, _, h3 => exact ⟨h3, fun y => absurd (h3.symm.trans y) (by decide)⟩
      | 1, h1, _ => exact absurd h1 (by decide)
      | 2, h1, _ => exact absurd h1 (by decide)
      | i + 3, h1, _ => cases h1
  · rw [if_neg (by decide)] at H
    rcases H with ⟨r, h1, h2, h3⟩ | ⟨i, E, h1, h2, h3⟩
    · cases h1
    · cases h2
      match i, h1, h3 with
      | 0, h1, _ => exact absurd h1 (by decide)
      | 1, _, h3 => exact ⟨h3, fun y => absurd (h3.symm.trans y) (by decide)⟩
      | 2, h1, _ => exact absurd h1 (by decide)
      | i + 3, h1, _ => cases h1
  · rw [if_neg (by decide)] at H
    rcases H with ⟨r, h1, h2, h3⟩ | ⟨i, E, h1, h2, h3⟩
    · cases h1
    · cases h2
      match i, h1, h3 with
      | 0, h1, _ => exact absurd h1 (by decide)
      | 1, h1, _ => exact absurd h1 (by decide)
      | 2, _, h3 => exact ⟨h3, fun y => absurd (h3.symm.trans y) (by decide)⟩
      | i + 3, h1, _ => cases h1
abbrev hf_d (f : Int32) : Prop := f = nI 0 ∨ f = nI 1 ∨ f = nI 2 ∨ f = nI 3 ∨ f = nI 4
theorem qa_d {f v : Int32} (hf : hf_d f) : (∃ r, qa (f = nI 0) (ex_cl f) (rI v) = rI r) ∨ qa (f = nI 0) (ex_cl f) (rI v) = .inr "java/lang/IndexOutOfBoundsException" ∨ qa (f = nI 0) (ex_cl f) (rI v) = .inr "java/lang/IllegalArgumentException" ∨ qa (f = nI 0) (ex_cl f) (rI v) = .inr "java/lang/IllegalStateException" ∨ qa (f = nI 0) (ex_cl f) (rI v) = .inr "java/lang/UnsupportedOperationException" := by
  rcases hf with rfl | rfl | rfl | rfl | rfl
  · exact Or.inl ⟨v, if_pos rfl⟩
  · have hq : qa (nI 1 = nI 0) (ex_cl (nI 1)) (rI v) = .inr "java/lang/IndexOutOfBoundsException" := (if_neg (by decide)).trans rfl
    exact Or.inr (Or.inl hq)
  · have hq : qa (nI 2 = nI 0) (ex_cl (nI 2)) (rI v) = .inr "java/lang/IllegalArgumentException" := (if_neg (by decide)).trans rfl
    exact Or.inr (Or.inr (Or.inl hq))
  · have hq : qa (nI 3 = nI 0) (ex_cl (nI 3)) (rI v) = .inr "java/lang/IllegalStateException" := (if_neg (by decide)).trans rfl
    exact Or.inr (Or.inr (Or.inr (Or.inl hq)))
  · have hq : qa (nI 4 = nI 0) (ex_cl (nI 4)) (rI v) = .inr "java/lang/UnsupportedOperationException" := (if_neg (by decide)).trans rfl
    exact Or.inr (Or.inr (Or.inr (Or.inr hq)))
theorem lr_d {f v code : Int32} {Q : Int32 → Prop} (hf : hf_d f) (H : Lr (qa (f = nI 0) (ex_cl f) (rI v)) ["java/lang/IndexOutOfBoundsException", "java/lang/IllegalArgumentException", "java/lang/IllegalStateException", "java/lang/UnsupportedOperationException"] code Q) : code = f ∧ (code = nI 0 → f = nI 0 ∧ Q v) := by
  unfold qa at H
  rcases hf with rfl | rfl | rfl | rfl | rfl
  · rw [if_pos rfl] at H
    rcases H with ⟨r, h1, h2, h3⟩ | ⟨i, E, h1, h2, h3⟩
    · cases h1
      exact ⟨h2, fun _ => ⟨rfl, h3⟩⟩
    · cases h2
  · rw [if_neg (by decide)] at H
    rcases H with ⟨r, h1, h2, h3⟩ | ⟨i, E, h1, h2, h3⟩
    · cases h1
    · cases h2
      match i, h1, h3 with
      | 0, _, h3 => exact ⟨h3, fun y => absurd (h3.symm.trans y) (by decide)⟩
      | 1, h1, _ => exact absurd h1 (by decide)
      | 2, h1, _ => exact absurd h1 (by decide)
      | 3, h1, _ => exact absurd h1 (by decide)
      | i + 4, h1, _ => cases h1
  · rw [if_neg (by decide)] at H
    rcases H with ⟨r, h1, h2, h3⟩ | ⟨i, E, h1, h2, h3⟩
    · cases h1
    · cases h2
      match i, h1, h3 with
      | 0, h1, _ => exact absurd h1 (by decide)
      | 1, _, h3 => exact ⟨h3, fun y => absurd (h3.symm.trans y) (by decide)⟩
      | 2, h1, _ => exact absurd h1 (by decide)
      | 3, h1, _ => exact absurd h1 (by decide)
      | i + 4, h1, _ => cases h1
  · rw [if_neg (by decide)] at H
    rcases H with ⟨r, h1, h2, h3⟩ | ⟨i, E, h1, h2, h3⟩
    · cases h1
    · cases h2
      match i, h1, h3 with
      | 0, h1, _ => exact absurd h1 (by decide)
      | 1, h1, _ => exact absurd h1 (by decide)
      | 2, _, h3 => exact ⟨h3, fun y => absurd (h3.symm.trans y) (by decide)⟩
      | 3, h1, _ => exact absurd h1 (by decide)
      | i + 4, h1, _ => cases h1
  · rw [if_neg (by decide)] at H
    rcases H with ⟨r, h1, h2, h3⟩ | ⟨i, E, h1, h2, h3⟩
    · cases h1
    · cases h2
      match i, h1, h3 with
      | 0, h1, _ => exact absurd h1 (by decide)
      | 1, h1, _ => exact absurd h1 (by decide)
      | 2, h1, _ => exact absurd h1 (by decide)
      | 3, _, h3 => exact ⟨h3, fun y => absurd (h3.symm.trans y) (by decide)⟩
      | i + 4, h1, _ => cases h1
theorem hfH (M : mk_T) (p u : Int32) : hf_a (mk_fH M p u) := by
  unfold mk_fH
  split
  · exact Or.inr (Or.inl rfl)
  · split
    · exact Or.inr (Or.inr rfl)
    · exact Or.inl rfl
theorem hfR (M : mk_T) (p : Int32) : hf_a (mk_fR M p) := by
  unfold mk_fR
  split
  · exact Or.inr (Or.inl rfl)
  · split
    · exact Or.inr (Or.inr rfl)
    · exact Or.inl rfl
theorem hfT (M : mk_T) (b s on q d : Int32) : hf_d (mk_fT M b s on q d) := by
  unfold mk_fT
  split
  · exact Or.inr (Or.inl rfl)
  · split
    · exact Or.inr (Or.inr (Or.inl rfl))
    · split
      · exact Or.inr (Or.inr (Or.inr (Or.inl rfl)))
      · split
        · exact Or.inr (Or.inr (Or.inr (Or.inr rfl)))
        · exact Or.inl rfl
theorem hfQ (M : mk_T) (p u : Int32) : hf_b (mk_fQ M p u) := by
  unfold mk_fQ
  split
  · exact Or.inr (Or.inl rfl)
  · split
    · exact Or.inl rfl
    · exact Or.inr (Or.inr rfl)
theorem hfB (M : mk_T) (p u : Int32) : hf_c (mk_fB M p u) := by
  unfold mk_fB
  split
  · exact Or.inr (Or.inl rfl)
  · split
    · exact Or.inr (Or.inr (Or.inl rfl))
    · split
      · exact Or.inr (Or.inr (Or.inr rfl))
      · exact Or.inl rfl
theorem hfK (M : mk_T) (p u : Int32) : hf_d (mk_fK M p u) := by
  have h := hfB M p u
  unfold mk_fK
  split
  · rcases h with h | h | h | h <;> rw [h]
    · exact Or.inl rfl
    · exact Or.inr (Or.inl rfl)
    · exact Or.inr (Or.inr (Or.inl rfl))
    · exact Or.inr (Or.inr (Or.inr (Or.inl rfl)))
  · split
    · exact Or.inr (Or.inr (Or.inr (Or.inr rfl)))
    · exact Or.inl rfl
set_option maxHeartbeats 4000000 in
/-- case 0: addHorizon -/
theorem law_c0 {G : hp_G} {K : hp_C} {sc L : Nat} {xs : Nat → Int32} {x w i n bc bs : Nat} {h : Nat → Option va_E} (B : Lb G K sc L x w i n bc bs) (J : Jo G sc L xs x w h) (kk : Lk G K sc L xs x w i bc bs) : V G K (ML_law K) bc bs (n, h) 264 [some (.ref sc), some (.ref x), some (.ref (x + 148)), some (.ref (x + 161)), some (.ref (x + 162)), some (.int (nI i)), none, none, none] [] := by
  obtain ⟨C, hl, hR, hx, hi, hL, hw, hn, hbc, hbs⟩ := B
  obtain ⟨M, B, Z, mk, nx, cnt, t, n0, lt, ln, hs, ma, fa, rk, S, KL, v, E, hS, D, P, Jm0, hv, hsc, ⟨f, hO⟩, ⟨f2, hD⟩⟩ := J
  have hbase := E.base
  have H := P.2.1.1
  refine v_aload_n C dL_law_264 rfl ?_
  refine l_arg C (j := 1) (i := i) hsc (by omega) hL rfl rfl (by decide) dL_law_265 dL_law_266 dL_law_268 dL_law_269 dL_law_270 ?_
  refine l_arg C (j := 2) (i := i) hsc (by omega) hL rfl rfl (by decide) dL_law_271 dL_law_272 dL_law_274 dL_law_275 dL_law_276 ?_
  refine v_aload_n C dL_law_277 rfl ?_
  have hf : hf_a (fo M 0 (xs (i + 1)) (xs (i + 2)) (nI 0) (nI 0) (nI 0)) := by
    rw [(fo_0 M (xs (i + 1)) (xs (i + 2)) (nI 0) (nI 0) (nI 0)).1]
    exact hfH M _ _
  have hbd := P.2.1.bd (by omega)
  refine l_call C (x := x) (L0 := x + 163) (bO := x + 161) (c_L_addHorizon hl (Nat.le_trans hbase (Nat.le_add_right _ _)) E.o (c_X7_addHorizon hl E hn (xs (i + 1)) (xs (i + 2))) (fun τ hF => (hF.2.2.2 _ (Or.inr ⟨by omega, by omega⟩)).trans hO) (qa_a hf)) (by omega) (by omega) hO (fun τ hF => ⟨_, hF⟩) dL_law_278 mL_addHorizon wd4_2 rfl rfl (Nat.le_of_ble_eq_true rfl) (hR _ _ (by decide) (by decide)) (Nat.le_trans (by decide) hbc) (Nat.le_trans (by decide) hbs) (fun code f' n1 h1 E1 hn1 k1 k2 k3 k4 => ?_)
  obtain ⟨rk1, E1⟩ := E1
  refine v_istore C dL_law_281 (Nat.le_of_ble_eq_true rfl) ?_
  show V G K _ _ _ (n1, h1) 283 [some (.ref sc), some (.ref x), some (.ref (x + 148)), some (.ref (x + 161)), some (.ref (x + 162)), some (.int (nI i)), some (.int code), none, none] []
  have hS1 : Mo G h1 (x + 148) S := hS.same (fun a k5 k6 => k1 a (by omega) (by omega) (by omega))
  have hsc1 := (k2 sc hx).trans hsc
  have hD1 := (k1 (x + 162) (by omega) (by omega) (by omega)).trans hD
  refine v_aload_n C dL_law_283 rfl ?_
  refine l_arg C (j := 1) (i := i) hsc1 (by omega) hL rfl rfl (by decide) dL_law_284 dL_law_285 dL_law_287 dL_law_288 dL_law_289 ?_
  refine l_arg C (j := 2) (i := i) hsc1 (by omega) hL rfl rfl (by decide) dL_law_290 dL_law_291 dL_law_293 dL_law_294 dL_law_295 ?_
  refine v_callVq C (c_X8_addHorizon hl hS1 D.1 D.2.1.1 D.2.1.2.1 (xs (i + 1)) (xs (i + 2))) dL_law_296 mX8_addHorizon rfl hS1.o rfl wd7_75 rfl rfl (Nat.le_of_ble_eq_true rfl) (hR _ _ (by decide) (by decide)) (Nat.zero_le _) (Nat.zero_le _) (fun r n2 h2 q => ?_)
  obtain ⟨q1, q2, ⟨S2, q3, A⟩, q4⟩ := q
  have AA := A.up D.1
  obtain ⟨g1, K2, D2, P2⟩ := P.md (by omega) (c := 0) (by decide) (a := (xs (i + 1))) (b := (xs (i + 2))) (k := (nI 0)) (d := (nI 0)) (e := (nI 0)) D (by rw [(fo_0 M (xs (i + 1)) (xs (i + 2)) (nI 0) (nI 0) (nI 0)).1, (fo_0 M (xs (i + 1)) (xs (i + 2)) (nI 0) (nI 0) (nI 0)).2.1, ← fH_e H]; exact AA)
  obtain ⟨c1, c2⟩ := lr_a (c := 0) (by decide) hf k4
  refine l_tailI C hl q3 ((q4 _ (by omega)).trans k3) (g1.trans c1.symm) (fun z => ?_) rfl rfl (hR 0 1 (by decide) (by decide)) dL_law_299 dL_law_301 dL_law_302 dL_law_305 dL_law_307 dL_law_312 dL_law_314 dL_law_317 dL_law_318 dL_law_319 dL_law_320 dL_law_322 dL_law_323 dL_law_324 dL_law_329 (by decide) ?_
  · obtain ⟨z1, z2⟩ := c2 z
    rw [(fo_0 M (xs (i + 1)) (xs (i + 2)) (nI 0) (nI 0) (nI 0)).2.2] at z2
    have zz := AA.1.symm.trans (g1.trans (c1.symm.trans z))
    rw [q1, if_pos zz, Nat.add_sub_cancel]
    exact z2
  · exact v_widen (by omega) (by omega) (kk n2 h2 _ _ _ (by omega) (Jo.mk2 E1 q4 q3 D2 P2 Jm0 (by omega) hx hsc1 k3 hD1))
set_option maxHeartbeats 4000000 in
/-- case 1: addTrader -/
theorem law_c1 {G : hp_G} {K : hp_C} {sc L : Nat} {xs : Nat → Int32} {x w i n bc bs : Nat} {h : Nat → Option va_E} (B : Lb G K sc L x w i n bc bs) (J : Jo G sc L xs x w h) (kk : Lk G K sc L xs x w i bc bs) : V G K (ML_law K) bc bs (n, h) 332 [some (.ref sc), some (.ref x), some (.ref (x + 148)), some (.ref (x + 161)), some (.ref (x + 162)), some (.int (nI i)), none, none, none] [] := by
  obtain ⟨C, hl, hR, hx, hi, hL, hw, hn, hbc, hbs⟩ := B
  obtain ⟨M, B, Z, mk, nx, cnt, t, n0, lt, ln, hs, ma, fa, rk, S, KL, v, E, hS, D, P, Jm0, hv, hsc, ⟨f, hO⟩, ⟨f2, hD⟩⟩ := J
  have hbase := E.base
  have H := P.2.1.1
  refine v_aload_n C dL_law_332 rfl ?_
  refine l_arg C (j := 1) (i := i) hsc (by omega) hL rfl rfl (by decide) dL_law_333 dL_law_334 dL_law_336 dL_law_337 dL_law_338 ?_
  refine v_aload_n C dL_law_339 rfl ?_
  have hf : hf_a (fo M 1 (xs (i + 1)) (nI 0) (nI 0) (nI 0) (nI 0)) := by
    rw [(fo_1 M (xs (i + 1)) (nI 0) (nI 0) (nI 0) (nI 0)).1]
    exact hfR M _
  have hbd := P.2.1.bd (by omega)
  refine l_call C (x := x) (L0 := x + 163) (bO := x + 161) (c_L_addTrader hl (Nat.le_trans hbase (Nat.le_add_right _ _)) E.o (c_X7_addTrader hl E hn (xs (i + 1))) (fun τ hF => (hF.2.2.2 _ (Or.inr ⟨by omega, by omega⟩)).trans hO) (qa_a hf)) (by omega) (by omega) hO (fun τ hF => ⟨_, hF⟩) dL_law_340 mL_addTrader wd4_11 rfl rfl (Nat.le_of_ble_eq_true rfl) (hR _ _ (by decide) (by decide)) (Nat.le_trans (by decide) hbc) (Nat.le_trans (by decide) hbs) (fun code f' n1 h1 E1 hn1 k1 k2 k3 k4 => ?_)
  obtain ⟨rk1, E1⟩ := E1
  refine v_istore C dL_law_343 (Nat.le_of_ble_eq_true rfl) ?_
  show V G K _ _ _ (n1, h1) 345 [some (.ref sc), some (.ref x), some (.ref (x + 148)), some (.ref (x + 161)), some (.ref (x + 162)), some (.int (nI i)), some (.int code), none, none] []
  have hS1 : Mo G h1 (x + 148) S := hS.same (fun a k5 k6 => k1 a (by omega) (by omega) (by omega))
  have hsc1 := (k2 sc hx).trans hsc
  have hD1 := (k1 (x + 162) (by omega) (by omega) (by omega)).trans hD
  refine v_aload_n C dL_law_345 rfl ?_
  refine l_arg C (j := 1) (i := i) hsc1 (by omega) hL rfl rfl (by decide) dL_law_346 dL_law_347 dL_law_349 dL_law_350 dL_law_351 ?_
  refine v_callVq C (c_X8_addTrader hl hS1 D.1 D.2.1.1 D.2.1.2.1 (xs (i + 1)) (fun z => bd_add D.1.g6 hbd.1 hbd.2.1 (fR_wi z))) dL_law_352 mX8_addTrader rfl hS1.o rfl wd7_93 rfl rfl (Nat.le_of_ble_eq_true rfl) (hR _ _ (by decide) (by decide)) (Nat.zero_le _) (Nat.zero_le _) (fun r n2 h2 q => ?_)
  obtain ⟨q1, q2, ⟨S2, q3, A⟩, q4⟩ := q
  have AA := A.up D.1
  obtain ⟨g1, K2, D2, P2⟩ := P.md (by omega) (c := 1) (by decide) (a := (xs (i + 1))) (b := (nI 0)) (k := (nI 0)) (d := (nI 0)) (e := (nI 0)) D (by rw [(fo_1 M (xs (i + 1)) (nI 0) (nI 0) (nI 0) (nI 0)).1, (fo_1 M (xs (i + 1)) (nI 0) (nI 0) (nI 0) (nI 0)).2.1, ← fR_e H]; exact AA)
  obtain ⟨c1, c2⟩ := lr_a (c := 1) (by decide) hf k4
  refine l_tailI C hl q3 ((q4 _ (by omega)).trans k3) (g1.trans c1.symm) (fun z => ?_) rfl rfl (hR 0 1 (by decide) (by decide)) dL_law_355 dL_law_357 dL_law_358 dL_law_361 dL_law_363 dL_law_368 dL_law_370 dL_law_373 dL_law_374 dL_law_375 dL_law_376 dL_law_378 dL_law_379 dL_law_380 dL_law_385 (by decide) ?_
  · obtain ⟨z1, z2⟩ := c2 z
    rw [(fo_1 M (xs (i + 1)) (nI 0) (nI 0) (nI 0) (nI 0)).2.2] at z2
    have zz := AA.1.symm.trans (g1.trans (c1.symm.trans z))
    rw [q1, if_pos zz]
    exact z2
  · exact v_widen (by omega) (by omega) (kk n2 h2 _ _ _ (by omega) (Jo.mk2 E1 q4 q3 D2 P2 Jm0 (by omega) hx hsc1 k3 hD1))
set_option maxHeartbeats 4000000 in
/-- case 2: trade -/
theorem law_c2 {G : hp_G} {K : hp_C} {sc L : Nat} {xs : Nat → Int32} {x w i n bc bs : Nat} {h : Nat → Option va_E} (B : Lb G K sc L x w i n bc bs) (J : Jo G sc L xs x w h) (kk : Lk G K sc L xs x w i bc bs) : V G K (ML_law K) bc bs (n, h) 388 [some (.ref sc), some (.ref x), some (.ref (x + 148)), some (.ref (x + 161)), some (.ref (x + 162)), some (.int (nI i)), none, none, none] [] := by
  obtain ⟨C, hl, hR, hx, hi, hL, hw, hn, hbc, hbs⟩ := B
  obtain ⟨M, B, Z, mk, nx, cnt, t, n0, lt, ln, hs, ma, fa, rk, S, KL, v, E, hS, D, P, Jm0, hv, hsc, ⟨f, hO⟩, ⟨f2, hD⟩⟩ := J
  have hbase := E.base
  have H := P.2.1.1
  refine v_aload_n C dL_law_388 rfl ?_
  refine l_arg C (j := 1) (i := i) hsc (by omega) hL rfl rfl (by decide) dL_law_389 dL_law_390 dL_law_392 dL_law_393 dL_law_394 ?_
  refine l_arg C (j := 2) (i := i) hsc (by omega) hL rfl rfl (by decide) dL_law_395 dL_law_396 dL_law_398 dL_law_399 dL_law_400 ?_
  refine l_arg C (j := 3) (i := i) hsc (by omega) hL rfl rfl (by decide) dL_law_401 dL_law_402 dL_law_404 dL_law_405 dL_law_406 ?_
  refine l_arg C (j := 4) (i := i) hsc (by omega) hL rfl rfl (by decide) dL_law_407 dL_law_408 dL_law_410 dL_law_411 dL_law_412 ?_
  refine l_arg C (j := 5) (i := i) hsc (by omega) hL rfl rfl (by decide) dL_law_413 dL_law_414 dL_law_416 dL_law_417 dL_law_418 ?_
  refine v_aload_n C dL_law_419 rfl ?_
  have hf : hf_d (fo M 2 (xs (i + 1)) (xs (i + 2)) (xs (i + 3)) (xs (i + 4)) (xs (i + 5))) := by
    rw [(fo_2 M (xs (i + 1)) (xs (i + 2)) (xs (i + 3)) (xs (i + 4)) (xs (i + 5))).1]
    exact hfT M _ _ _ _ _
  have hbd := P.2.1.bd (by omega)
  refine l_call C (x := x) (L0 := x + 163) (bO := x + 161) (c_L_trade hl (Nat.le_trans hbase (Nat.le_add_right _ _)) E.o (c_X7_trade hl E hn (xs (i + 1)) (xs (i + 2)) (xs (i + 3)) (xs (i + 4)) (xs (i + 5))) (fun τ hF => (hF.2.2.2 _ (Or.inr ⟨by omega, by omega⟩)).trans hO) (qa_d hf)) (by omega) (by omega) hO (fun τ hF => ⟨_, hF⟩) dL_law_420 mL_trade wd4_18 rfl rfl (Nat.le_of_ble_eq_true rfl) (hR _ _ (by decide) (by decide)) (Nat.le_trans (by decide) hbc) (Nat.le_trans (by decide) hbs) (fun code f' n1 h1 E1 hn1 k1 k2 k3 k4 => ?_)
  obtain ⟨rk1, E1⟩ := E1
  refine v_istore C dL_law_423 (Nat.le_of_ble_eq_true rfl) ?_
  show V G K _ _ _ (n1, h1) 425 [some (.ref sc), some (.ref x), some (.ref (x + 148)), some (.ref (x + 161)), some (.ref (x + 162)), some (.int (nI i)), some (.int code), none, none] []
  have hS1 : Mo G h1 (x + 148) S := hS.same (fun a k5 k6 => k1 a (by omega) (by omega) (by omega))
  have hsc1 := (k2 sc hx).trans hsc
  have hD1 := (k1 (x + 162) (by omega) (by omega) (by omega)).trans hD
  refine v_aload_n C dL_law_425 rfl ?_
  refine l_arg C (j := 1) (i := i) hsc1 (by omega) hL rfl rfl (by decide) dL_law_426 dL_law_427 dL_law_429 dL_law_430 dL_law_431 ?_
  refine l_arg C (j := 2) (i := i) hsc1 (by omega) hL rfl rfl (by decide) dL_law_432 dL_law_433 dL_law_435 dL_law_436 dL_law_437 ?_
  refine l_arg C (j := 3) (i := i) hsc1 (by omega) hL rfl rfl (by decide) dL_law_438 dL_law_439 dL_law_441 dL_law_442 dL_law_443 ?_
  refine l_arg C (j := 4) (i := i) hsc1 (by omega) hL rfl rfl (by decide) dL_law_444 dL_law_445 dL_law_447 dL_law_448 dL_law_449 ?_
  refine l_arg C (j := 5) (i := i) hsc1 (by omega) hL rfl rfl (by decide) dL_law_450 dL_law_451 dL_law_453 dL_law_454 dL_law_455 ?_
  refine v_callVq C (c_X8_trade hl hS1 D.1 D.2.1.1 D.2.1.2.1 (xs (i + 1)) (xs (i + 2)) (xs (i + 3)) (xs (i + 4)) (xs (i + 5))) dL_law_456 mX8_trade rfl hS1.o rfl wd7_101 rfl rfl (Nat.le_of_ble_eq_true rfl) (hR _ _ (by decide) (by decide)) (Nat.zero_le _) (Nat.zero_le _) (fun r n2 h2 q => ?_)
  obtain ⟨q1, q2, ⟨S2, q3, A⟩, q4⟩ := q
  have AA := A
  obtain ⟨g1, K2, D2, P2⟩ := P.md (by omega) (c := 2) (by decide) (a := (xs (i + 1))) (b := (xs (i + 2))) (k := (xs (i + 3))) (d := (xs (i + 4))) (e := (xs (i + 5))) D (by rw [(fo_2 M (xs (i + 1)) (xs (i + 2)) (xs (i + 3)) (xs (i + 4)) (xs (i + 5))).1, (fo_2 M (xs (i + 1)) (xs (i + 2)) (xs (i + 3)) (xs (i + 4)) (xs (i + 5))).2.1, fx_2 2 _ (by decide), ← fT_e H]; exact AA)
  obtain ⟨c1, c2⟩ := lr_d hf k4
  have c1 := c1.trans (fx_2 2 _ (by decide)).symm
  refine l_tailI C hl q3 ((q4 _ (by omega)).trans k3) (g1.trans c1.symm) (fun z => ?_) rfl rfl (hR 0 1 (by decide) (by decide)) dL_law_459 dL_law_461 dL_law_462 dL_law_465 dL_law_467 dL_law_472 dL_law_474 dL_law_477 dL_law_478 dL_law_479 dL_law_480 dL_law_482 dL_law_483 dL_law_484 dL_law_489 (by decide) ?_
  · obtain ⟨z1, z2⟩ := c2 z
    rw [(fo_2 M (xs (i + 1)) (xs (i + 2)) (xs (i + 3)) (xs (i + 4)) (xs (i + 5))).2.2] at z2
    have zz := AA.1.symm.trans (g1.trans (c1.symm.trans z))
    rw [q1, if_pos zz]
    exact z2
  · exact v_widen (by omega) (by omega) (kk n2 h2 _ _ _ (by omega) (Jo.mk2 E1 q4 q3 D2 P2 Jm0 (by omega) hx hsc1 k3 hD1))
set_option maxHeartbeats 4000000 in
/-- case 3: setQuote -/
theorem law_c3 {G : hp_G} {K : hp_C} {sc L : Nat} {xs : Nat → Int32} {x w i n bc bs : Nat} {h : Nat → Option va_E} (B : Lb G K sc L x w i n bc bs) (J : Jo G sc L xs x w h) (kk : Lk G K sc L xs x w i bc bs) : V G K (ML_law K) bc bs (n, h) 492 [some (.ref sc), some (.ref x), some (.ref (x + 148)), some (.ref (x + 161)), some (.ref (x + 162)), some (.int (nI i)), none, none, none] [] := by
  obtain ⟨C, hl, hR, hx, hi, hL, hw, hn, hbc, hbs⟩ := B
  obtain ⟨M, B, Z, mk, nx, cnt, t, n0, lt, ln, hs, ma, fa, rk, S, KL, v, E, hS, D, P, Jm0, hv, hsc, ⟨f, hO⟩, ⟨f2, hD⟩⟩ := J
  have hbase := E.base
  have H := P.2.1.1
  refine v_aload_n C dL_law_492 rfl ?_
  refine l_arg C (j := 1) (i := i) hsc (by omega) hL rfl rfl (by decide) dL_law_493 dL_law_494 dL_law_496 dL_law_497 dL_law_498 ?_
  refine l_arg C (j := 2) (i := i) hsc (by omega) hL rfl rfl (by decide) dL_law_499 dL_law_500 dL_law_502 dL_law_503 dL_law_504 ?_
  refine v_aload_n C dL_law_505 rfl ?_
  have hf : hf_b (fo M 3 (xs (i + 1)) (xs (i + 2)) (nI 0) (nI 0) (nI 0)) := by
    rw [(fo_3 M (xs (i + 1)) (xs (i + 2)) (nI 0) (nI 0) (nI 0)).1]
    exact hfQ M _ _
  have hbd := P.2.1.bd (by omega)
  refine l_call C (x := x) (L0 := x + 163) (bO := x + 161) (c_L_setQuote hl (Nat.le_trans hbase (Nat.le_add_right _ _)) E.o (c_X7_setQuote hl E hn (xs (i + 1)) (xs (i + 2))) (fun τ hF => (hF.2.2.2 _ (Or.inr ⟨by omega, by omega⟩)).trans hO) (qa_b hf)) (by omega) (by omega) hO (fun τ hF => ⟨_, hF⟩) dL_law_506 mL_setQuote wd4_47 rfl rfl (Nat.le_of_ble_eq_true rfl) (hR _ _ (by decide) (by decide)) (Nat.le_trans (by decide) hbc) (Nat.le_trans (by decide) hbs) (fun code f' n1 h1 E1 hn1 k1 k2 k3 k4 => ?_)
  obtain ⟨rk1, E1⟩ := E1
  refine v_istore C dL_law_509 (Nat.le_of_ble_eq_true rfl) ?_
  show V G K _ _ _ (n1, h1) 511 [some (.ref sc), some (.ref x), some (.ref (x + 148)), some (.ref (x + 161)), some (.ref (x + 162)), some (.int (nI i)), some (.int code), none, none] []
  have hS1 : Mo G h1 (x + 148) S := hS.same (fun a k5 k6 => k1 a (by omega) (by omega) (by omega))
  have hsc1 := (k2 sc hx).trans hsc
  have hD1 := (k1 (x + 162) (by omega) (by omega) (by omega)).trans hD
  refine v_aload_n C dL_law_511 rfl ?_
  refine l_arg C (j := 1) (i := i) hsc1 (by omega) hL rfl rfl (by decide) dL_law_512 dL_law_513 dL_law_515 dL_law_516 dL_law_517 ?_
  refine l_arg C (j := 2) (i := i) hsc1 (by omega) hL rfl rfl (by decide) dL_law_518 dL_law_519 dL_law_521 dL_law_522 dL_law_523 ?_
  refine v_callVq C (c_X8_setQuote hl hS1 D.1 D.2.1.1 D.2.1.2.1 (xs (i + 1)) (xs (i + 2))) dL_law_524 mX8_setQuote rfl hS1.o rfl wd7_156 rfl rfl (Nat.le_of_ble_eq_true rfl) (hR _ _ (by decide) (by decide)) (Nat.zero_le _) (Nat.zero_le _) (fun r n2 h2 q => ?_)
  obtain ⟨q1, q2, ⟨S2, q3, A⟩, q4⟩ := q
  have AA := A.up D.1
  obtain ⟨g1, K2, D2, P2⟩ := P.md (by omega) (c := 3) (by decide) (a := (xs (i + 1))) (b := (xs (i + 2))) (k := (nI 0)) (d := (nI 0)) (e := (nI 0)) D (by rw [(fo_3 M (xs (i + 1)) (xs (i + 2)) (nI 0) (nI 0) (nI 0)).1, (fo_3 M (xs (i + 1)) (xs (i + 2)) (nI 0) (nI 0) (nI 0)).2.1, fx_2 3 _ (by decide)]; exact AA)
  obtain ⟨c1, c2⟩ := lr_b hf k4
  have c1 := c1.trans (fx_2 3 _ (by decide)).symm
  refine l_tailI C hl q3 ((q4 _ (by omega)).trans k3) (g1.trans c1.symm) (fun z => ?_) rfl rfl (hR 0 1 (by decide) (by decide)) dL_law_527 dL_law_529 dL_law_530 dL_law_533 dL_law_535 dL_law_540 dL_law_542 dL_law_545 dL_law_546 dL_law_547 dL_law_548 dL_law_550 dL_law_551 dL_law_552 dL_law_557 (by decide) ?_
  · obtain ⟨z1, z2⟩ := c2 z
    rw [(fo_3 M (xs (i + 1)) (xs (i + 2)) (nI 0) (nI 0) (nI 0)).2.2] at z2
    have zz := AA.1.symm.trans (g1.trans (c1.symm.trans z))
    rw [q1, if_pos zz]
    exact z2
  · exact v_widen (by omega) (by omega) (kk n2 h2 _ _ _ (by omega) (Jo.mk2 E1 q4 q3 D2 P2 Jm0 (by omega) hx hsc1 k3 hD1))
set_option maxHeartbeats 4000000 in
/-- case 5: deposit -/
theorem law_c5 {G : hp_G} {K : hp_C} {sc L : Nat} {xs : Nat → Int32} {x w i n bc bs : Nat} {h : Nat → Option va_E} (B : Lb G K sc L x w i n bc bs) (J : Jo G sc L xs x w h) (kk : Lk G K sc L xs x w i bc bs) : V G K (ML_law K) bc bs (n, h) 573 [some (.ref sc), some (.ref x), some (.ref (x + 148)), some (.ref (x + 161)), some (.ref (x + 162)), some (.int (nI i)), none, none, none] [] := by
  obtain ⟨C, hl, hR, hx, hi, hL, hw, hn, hbc, hbs⟩ := B
  obtain ⟨M, B, Z, mk, nx, cnt, t, n0, lt, ln, hs, ma, fa, rk, S, KL, v, E, hS, D, P, Jm0, hv, hsc, ⟨f, hO⟩, ⟨f2, hD⟩⟩ := J
  have hbase := E.base
  have H := P.2.1.1
  refine v_aload_n C dL_law_573 rfl ?_
  refine l_arg C (j := 1) (i := i) hsc (by omega) hL rfl rfl (by decide) dL_law_574 dL_law_575 dL_law_577 dL_law_578 dL_law_579 ?_
  refine l_arg C (j := 2) (i := i) hsc (by omega) hL rfl rfl (by decide) dL_law_580 dL_law_581 dL_law_583 dL_law_584 dL_law_585 ?_
  refine v_aload_n C dL_law_586 rfl ?_
  have hf : hf_c (fo M 5 (xs (i + 1)) (xs (i + 2)) (nI 0) (nI 0) (nI 0)) := by
    rw [(fo_5 M (xs (i + 1)) (xs (i + 2)) (nI 0) (nI 0) (nI 0)).1]
    exact hfB M _ _
  have hbd := P.2.1.bd (by omega)
  refine l_call C (x := x) (L0 := x + 163) (bO := x + 161) (c_L_deposit hl (Nat.le_trans hbase (Nat.le_add_right _ _)) E.o (c_X7_deposit hl E hn (xs (i + 1)) (xs (i + 2))) (fun τ hF => (hF.2.2.2 _ (Or.inr ⟨by omega, by omega⟩)).trans hO) (qa_c hf)) (by omega) (by omega) hO (fun τ hF => ⟨_, hF⟩) dL_law_587 mL_deposit wd4_54 rfl rfl (Nat.le_of_ble_eq_true rfl) (hR _ _ (by decide) (by decide)) (Nat.le_trans (by decide) hbc) (Nat.le_trans (by decide) hbs) (fun code f' n1 h1 E1 hn1 k1 k2 k3 k4 => ?_)
  obtain ⟨rk1, E1⟩ := E1
  refine v_istore C dL_law_590 (Nat.le_of_ble_eq_true rfl) ?_
  show V G K _ _ _ (n1, h1) 592 [some (.ref sc), some (.ref x), some (.ref (x + 148)), some (.ref (x + 161)), some (.ref (x + 162)), some (.int (nI i)), some (.int code), none, none] []
  have hS1 : Mo G h1 (x + 148) S := hS.same (fun a k5 k6 => k1 a (by omega) (by omega) (by omega))
  have hsc1 := (k2 sc hx).trans hsc
  have hD1 := (k1 (x + 162) (by omega) (by omega) (by omega)).trans hD
  refine v_aload_n C dL_law_592 rfl ?_
  refine l_arg C (j := 1) (i := i) hsc1 (by omega) hL rfl rfl (by decide) dL_law_593 dL_law_594 dL_law_596 dL_law_597 dL_law_598 ?_
  refine l_arg C (j := 2) (i := i) hsc1 (by omega) hL rfl rfl (by decide) dL_law_599 dL_law_600 dL_law_602 dL_law_603 dL_law_604 ?_
  refine v_callVq C (c_X8_deposit hl hS1 D.1 D.2.1.1 D.2.1.2.1 (xs (i + 1)) (xs (i + 2)) (fun z => bd_add D.1.g6 hbd.1 hbd.2.1 (wi_1_0 (fB_wi z)))) dL_law_605 mX8_deposit rfl hS1.o rfl wd7_192 rfl rfl (Nat.le_of_ble_eq_true rfl) (hR _ _ (by decide) (by decide)) (Nat.zero_le _) (Nat.zero_le _) (fun r n2 h2 q => ?_)
  obtain ⟨q1, q2, ⟨S2, q3, A⟩, q4⟩ := q
  have AA := A.up D.1
  obtain ⟨g1, K2, D2, P2⟩ := P.md (by omega) (c := 5) (by decide) (a := (xs (i + 1))) (b := (xs (i + 2))) (k := (nI 0)) (d := (nI 0)) (e := (nI 0)) D (by rw [(fo_5 M (xs (i + 1)) (xs (i + 2)) (nI 0) (nI 0) (nI 0)).1, (fo_5 M (xs (i + 1)) (xs (i + 2)) (nI 0) (nI 0) (nI 0)).2.1, fx_2 5 _ (by decide)]; exact AA)
  obtain ⟨c1, c2⟩ := lr_c hf k4
  have c1 := c1.trans (fx_2 5 _ (by decide)).symm
  refine l_tailI C hl q3 ((q4 _ (by omega)).trans k3) (g1.trans c1.symm) (fun z => ?_) rfl rfl (hR 0 1 (by decide) (by decide)) dL_law_608 dL_law_610 dL_law_611 dL_law_614 dL_law_616 dL_law_621 dL_law_623 dL_law_626 dL_law_627 dL_law_628 dL_law_629 dL_law_631 dL_law_632 dL_law_633 dL_law_638 (by decide) ?_
  · obtain ⟨z1, z2⟩ := c2 z
    rw [(fo_5 M (xs (i + 1)) (xs (i + 2)) (nI 0) (nI 0) (nI 0)).2.2] at z2
    have zz := AA.1.symm.trans (g1.trans (c1.symm.trans z))
    rw [q1, if_pos zz]
    exact z2
  · exact v_widen (by omega) (by omega) (kk n2 h2 _ _ _ (by omega) (Jo.mk2 E1 q4 q3 D2 P2 Jm0 (by omega) hx hsc1 k3 hD1))
set_option maxHeartbeats 4000000 in
/-- case 6: withdraw -/
theorem law_c6 {G : hp_G} {K : hp_C} {sc L : Nat} {xs : Nat → Int32} {x w i n bc bs : Nat} {h : Nat → Option va_E} (B : Lb G K sc L x w i n bc bs) (J : Jo G sc L xs x w h) (kk : Lk G K sc L xs x w i bc bs) : V G K (ML_law K) bc bs (n, h) 641 [some (.ref sc), some (.ref x), some (.ref (x + 148)), some (.ref (x + 161)), some (.ref (x + 162)), some (.int (nI i)), none, none, none] [] := by
  obtain ⟨C, hl, hR, hx, hi, hL, hw, hn, hbc, hbs⟩ := B
  obtain ⟨M, B, Z, mk, nx, cnt, t, n0, lt, ln, hs, ma, fa, rk, S, KL, v, E, hS, D, P, Jm0, hv, hsc, ⟨f, hO⟩, ⟨f2, hD⟩⟩ := J
  have hbase := E.base
  have H := P.2.1.1
  refine v_aload_n C dL_law_641 rfl ?_
  refine l_arg C (j := 1) (i := i) hsc (by omega) hL rfl rfl (by decide) dL_law_642 dL_law_643 dL_law_645 dL_law_646 dL_law_647 ?_
  refine l_arg C (j := 2) (i := i) hsc (by omega) hL rfl rfl (by decide) dL_law_648 dL_law_649 dL_law_651 dL_law_652 dL_law_653 ?_
  refine v_aload_n C dL_law_654 rfl ?_
  have hf : hf_d (fo M 6 (xs (i + 1)) (xs (i + 2)) (nI 0) (nI 0) (nI 0)) := by
    rw [(fo_6 M (xs (i + 1)) (xs (i + 2)) (nI 0) (nI 0) (nI 0)).1]
    exact hfK M _ _
  have hbd := P.2.1.bd (by omega)
  refine l_call C (x := x) (L0 := x + 163) (bO := x + 161) (c_L_withdraw hl (Nat.le_trans hbase (Nat.le_add_right _ _)) E.o (c_X7_withdraw hl E hn (xs (i + 1)) (xs (i + 2))) (fun τ hF => (hF.2.2.2 _ (Or.inr ⟨by omega, by omega⟩)).trans hO) (qa_d hf)) (by omega) (by omega) hO (fun τ hF => ⟨_, hF⟩) dL_law_655 mL_withdraw wd4_61 rfl rfl (Nat.le_of_ble_eq_true rfl) (hR _ _ (by decide) (by decide)) (Nat.le_trans (by decide) hbc) (Nat.le_trans (by decide) hbs) (fun code f' n1 h1 E1 hn1 k1 k2 k3 k4 => ?_)
  obtain ⟨rk1, E1⟩ := E1
  refine v_istore C dL_law_658 (Nat.le_of_ble_eq_true rfl) ?_
  show V G K _ _ _ (n1, h1) 660 [some (.ref sc), some (.ref x), some (.ref (x + 148)), some (.ref (x + 161)), some (.ref (x + 162)), some (.int (nI i)), some (.int code), none, none] []
  have hS1 : Mo G h1 (x + 148) S := hS.same (fun a k5 k6 => k1 a (by omega) (by omega) (by omega))
  have hsc1 := (k2 sc hx).trans hsc
  have hD1 := (k1 (x + 162) (by omega) (by omega) (by omega)).trans hD
  refine v_aload_n C dL_law_660 rfl ?_
  refine l_arg C (j := 1) (i := i) hsc1 (by omega) hL rfl rfl (by decide) dL_law_661 dL_law_662 dL_law_664 dL_law_665 dL_law_666 ?_
  refine l_arg C (j := 2) (i := i) hsc1 (by omega) hL rfl rfl (by decide) dL_law_667 dL_law_668 dL_law_670 dL_law_671 dL_law_672 ?_
  refine v_callVq C (c_X8_withdraw hl hS1 D.1 D.2.1.1 D.2.1.2.1 (xs (i + 1)) (xs (i + 2)) (fun z => bd_add D.1.g7 hbd.2.2.1 hbd.2.2.2 (wi_1_0 (fB_wi (fK_z z))))) dL_law_673 mX8_withdraw rfl hS1.o rfl wd7_200 rfl rfl (Nat.le_of_ble_eq_true rfl) (hR _ _ (by decide) (by decide)) (Nat.zero_le _) (Nat.zero_le _) (fun r n2 h2 q => ?_)
  obtain ⟨q1, q2, ⟨S2, q3, A⟩, q4⟩ := q
  have AA := A.up D.1
  obtain ⟨g1, K2, D2, P2⟩ := P.md (by omega) (c := 6) (by decide) (a := (xs (i + 1))) (b := (xs (i + 2))) (k := (nI 0)) (d := (nI 0)) (e := (nI 0)) D (by rw [(fo_6 M (xs (i + 1)) (xs (i + 2)) (nI 0) (nI 0) (nI 0)).1, (fo_6 M (xs (i + 1)) (xs (i + 2)) (nI 0) (nI 0) (nI 0)).2.1, fx_2 6 _ (by decide), ← fK_e H]; exact AA)
  obtain ⟨c1, c2⟩ := lr_d hf k4
  have c1 := c1.trans (fx_2 6 _ (by decide)).symm
  refine l_tailI C hl q3 ((q4 _ (by omega)).trans k3) (g1.trans c1.symm) (fun z => ?_) rfl rfl (hR 0 1 (by decide) (by decide)) dL_law_676 dL_law_678 dL_law_679 dL_law_682 dL_law_684 dL_law_689 dL_law_691 dL_law_694 dL_law_695 dL_law_696 dL_law_697 dL_law_699 dL_law_700 dL_law_701 dL_law_706 (by decide) ?_
  · obtain ⟨z1, z2⟩ := c2 z
    rw [(fo_6 M (xs (i + 1)) (xs (i + 2)) (nI 0) (nI 0) (nI 0)).2.2] at z2
    have zz := AA.1.symm.trans (g1.trans (c1.symm.trans z))
    rw [q1, if_pos zz]
    exact z2
  · exact v_widen (by omega) (by omega) (kk n2 h2 _ _ _ (by omega) (Jo.mk2 E1 q4 q3 D2 P2 Jm0 (by omega) hx hsc1 k3 hD1))
set_option maxHeartbeats 4000000 in
/-- case 7: contribute -/
theorem law_c7 {G : hp_G} {K : hp_C} {sc L : Nat} {xs : Nat → Int32} {x w i n bc bs : Nat} {h : Nat → Option va_E} (B : Lb G K sc L x w i n bc bs) (J : Jo G sc L xs x w h) (kk : Lk G K sc L xs x w i bc bs) : V G K (ML_law K) bc bs (n, h) 709 [some (.ref sc), some (.ref x), some (.ref (x + 148)), some (.ref (x + 161)), some (.ref (x + 162)), some (.int (nI i)), none, none, none] [] := by
  obtain ⟨C, hl, hR, hx, hi, hL, hw, hn, hbc, hbs⟩ := B
  obtain ⟨M, B, Z, mk, nx, cnt, t, n0, lt, ln, hs, ma, fa, rk, S, KL, v, E, hS, D, P, Jm0, hv, hsc, ⟨f, hO⟩, ⟨f2, hD⟩⟩ := J
  have hbase := E.base
  have H := P.2.1.1
  refine v_aload_n C dL_law_709 rfl ?_
  refine l_arg C (j := 1) (i := i) hsc (by omega) hL rfl rfl (by decide) dL_law_710 dL_law_711 dL_law_713 dL_law_714 dL_law_715 ?_
  refine l_arg C (j := 2) (i := i) hsc (by omega) hL rfl rfl (by decide) dL_law_716 dL_law_717 dL_law_719 dL_law_720 dL_law_721 ?_
  refine v_aload_n C dL_law_722 rfl ?_
  have hf : hf_d (fo M 7 (xs (i + 1)) (xs (i + 2)) (nI 0) (nI 0) (nI 0)) := by
    rw [(fo_7 M (xs (i + 1)) (xs (i + 2)) (nI 0) (nI 0) (nI 0)).1]
    exact hfK M _ _
  have hbd := P.2.1.bd (by omega)
  refine l_call C (x := x) (L0 := x + 163) (bO := x + 161) (c_L_contribute hl (Nat.le_trans hbase (Nat.le_add_right _ _)) E.o (c_X7_contribute hl E hn (xs (i + 1)) (xs (i + 2))) (fun τ hF => (hF.2.2.2 _ (Or.inr ⟨by omega, by omega⟩)).trans hO) (qa_d hf)) (by omega) (by omega) hO (fun τ hF => ⟨_, hF⟩) dL_law_723 mL_contribute wd4_68 rfl rfl (Nat.le_of_ble_eq_true rfl) (hR _ _ (by decide) (by decide)) (Nat.le_trans (by decide) hbc) (Nat.le_trans (by decide) hbs) (fun code f' n1 h1 E1 hn1 k1 k2 k3 k4 => ?_)
  obtain ⟨rk1, E1⟩ := E1
  refine v_istore C dL_law_726 (Nat.le_of_ble_eq_true rfl) ?_
  show V G K _ _ _ (n1, h1) 728 [some (.ref sc), some (.ref x), some (.ref (x + 148)), some (.ref (x + 161)), some (.ref (x + 162)), some (.int (nI i)), some (.int code), none, none] []
  have hS1 : Mo G h1 (x + 148) S := hS.same (fun a k5 k6 => k1 a (by omega) (by omega) (by omega))
  have hsc1 := (k2 sc hx).trans hsc
  have hD1 := (k1 (x + 162) (by omega) (by omega) (by omega)).trans hD
  refine v_aload_n C dL_law_728 rfl ?_
  refine l_arg C (j := 1) (i := i) hsc1 (by omega) hL rfl rfl (by decide) dL_law_729 dL_law_730 dL_law_732 dL_law_733 dL_law_734 ?_
  refine l_arg C (j := 2) (i := i) hsc1 (by omega) hL rfl rfl (by decide) dL_law_735 dL_law_736 dL_law_738 dL_law_739 dL_law_740 ?_
  refine v_callVq C (c_X8_contribute hl hS1 D.1 D.2.1.1 D.2.1.2.1 (xs (i + 1)) (xs (i + 2))) dL_law_741 mX8_contribute rfl hS1.o rfl wd7_204 rfl rfl (Nat.le_of_ble_eq_true rfl) (hR _ _ (by decide) (by decide)) (Nat.zero_le _) (Nat.zero_le _) (fun r n2 h2 q => ?_)
  obtain ⟨q1, q2, ⟨S2, q3, A⟩, q4⟩ := q
  have AA := A.up D.1
  obtain ⟨g1, K2, D2, P2⟩ := P.md (by omega) (c := 7) (by decide) (a := (xs (i + 1))) (b := (xs (i + 2))) (k := (nI 0)) (d := (nI 0)) (e := (nI 0)) D (by rw [(fo_7 M (xs (i + 1)) (xs (i + 2)) (nI 0) (nI 0) (nI 0)).1, (fo_7 M (xs (i + 1)) (xs (i + 2)) (nI 0) (nI 0) (nI 0)).2.1, fx_2 7 _ (by decide), ← fK_e H]; exact AA)
  obtain ⟨c1, c2⟩ := lr_d hf k4
  have c1 := c1.trans (fx_2 7 _ (by decide)).symm
  refine l_tailI C hl q3 ((q4 _ (by omega)).trans k3) (g1.trans c1.symm) (fun z => ?_) rfl rfl (hR 0 1 (by decide) (by decide)) dL_law_744 dL_law_746 dL_law_747 dL_law_750 dL_law_752 dL_law_757 dL_law_759 dL_law_762 dL_law_763 dL_law_764 dL_law_765 dL_law_767 dL_law_768 dL_law_769 dL_law_774 (by decide) ?_
  · obtain ⟨z1, z2⟩ := c2 z
    rw [(fo_7 M (xs (i + 1)) (xs (i + 2)) (nI 0) (nI 0) (nI 0)).2.2] at z2
    have zz := AA.1.symm.trans (g1.trans (c1.symm.trans z))
    rw [q1, if_pos zz]
    exact z2
  · exact v_widen (by omega) (by omega) (kk n2 h2 _ _ _ (by omega) (Jo.mk2 E1 q4 q3 D2 P2 Jm0 (by omega) hx hsc1 k3 hD1))

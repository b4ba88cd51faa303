/-! ===== THE LAW: its entry ===== -/
theorem v_ltall {G : hp_G} {K : hp_C} {M : hp_M} {bc bs : Nat} {n : Nat} {h : Nat → Option va_E} {pc : Nat} {lo : List (Option Value)} {st : List Value} (k : (∀ a e, h a = some e → a < n) → V G K M bc bs (n, h) pc lo st) : V G K M bc bs (n, h) pc lo st := by
  obtain ⟨p, l, e, R, s, m, args, below, meth, c, Qf⟩ := K
  intro H locs cells slots ls hR hS hl hc hs
  exact k (fun a e ha => hR.lt ha) H locs cells slots ls hR hS hl hc hs
theorem Ex.mv {G : hp_G} {h h' : Nat → Option va_E} {x : Nat} {M : mk_T} {B : mk_T} {Z : mk_T} {mk : Nat → mk_T} {nx : Nat} {cnt : Nat} {t : Nat → Nat} {n : Nat} {lt : Nat → Nat} {ln : Nat} {hs : Int32} {ma : Int32} {fa : Int32} {rk : Nat → Option va_E} (E : Ex G h x (x + 148) M B Z mk nx cnt t n lt ln hs ma fa rk) (hv : ∀ v e, h v = some e → v < x + 148) (fr : ∀ a, a < x + 148 → h' a = h a) {L1 : Nat} (h1 : x + 148 ≤ L1) : Ex G h' x L1 M B Z mk nx cnt t n lt ln hs ma fa rk := by
  have hb := E.base
  obtain ⟨v, ml, m, v2, ml2, m2, z1, z2, z3, z4, z5⟩ := E.sb
  have ev : v = x + 145 := z3.resolve_right (fun y => by
    obtain ⟨_, ha, -⟩ := z1.2.1
    have := hv v _ ha
    omega)
  have ev2 : v2 = x + 147 := z4.resolve_right (fun y => by
    obtain ⟨_, ha, -⟩ := z2.2.1
    have := hv v2 _ ha
    omega)
  subst ev ev2
  exact ⟨(fr _ (by omega)).trans E.o, E.m.same (fun a k1 k2 => fr a (by omega)), E.b.same (fun a k1 k2 => fr a (by omega)), E.z.same (fun a k1 k2 => fr a (by omega)), E.hh.same (fun a k1 k2 => fr a (by omega)), (by obtain ⟨v, c, gi, su, mg, z⟩ := E.st; exact ⟨v, c, gi, su, mg, z.same (fun a k1 k2 => fr a (by omega))⟩), (by obtain ⟨sd, nd, af, hs, ps, tk, bt, lf, ls, z⟩ := E.tk; exact ⟨sd, nd, af, hs, ps, tk, bt, lf, ls, z.same (fun a k1 k2 => fr a (by omega))⟩), ⟨(by obtain ⟨cm, ar, c, p, z⟩ := E.cr.1; exact ⟨cm, ar, c, p, z.same (fun a k1 k2 => fr a (by omega))⟩), (fun a k1 k2 => (fr a (by omega)).trans (E.cr.2 a k1 k2))⟩, ⟨_, ml, m, _, ml2, m2, z1.same (fr _ (by omega)) (fr _ (by omega)), z2.same (fr _ (by omega)) (fr _ (by omega)), Or.inl rfl, Or.inl rfl, z5⟩, E.kc.same (fun a k => fr a (by omega)), E.base, h1⟩
set_option maxHeartbeats 4000000 in
/-- the law's body, when its end is right -/
theorem law_body {G : hp_G} {K : hp_C} {sc L : Nat} {xs : Nat → Int32} {x : Nat} {h : Nat → Option va_E} (C : hp_Cx G K (ML_law K)) (hl : K.2.1.stackTraces = false) (hR : ∀ d nn, d ≤ 13 → nn ≤ 45 → d + 1 ≤ (hp_Rm K).frames ∧ 8 + (nn + 11) + 64 * d ≤ (hp_Rm K).locals) (hx : sc < G.2.1) (hxb : G.2.1 ≤ x) (hL : L ≤ 3072) (hK : Kc G h) (hsc : h sc = some (.inl (G.2.2.1 7, L, .inl xs))) (hend : ∀ bc bs n h lo, V G K (ML_law K) bc bs (n, h) 2677 lo [.int 1]) {bc bs : Nat} (hbc : 5400 ≤ bc) (hbs : 2800000 ≤ bs) : V G K (ML_law K) bc bs (x, h) 0 [some (.ref sc), none, none, none, none, none, none, none, none] [] := by
  refine v_new (fs := [.null, .null, .null, .null, .null, .null, .null, .null, .null, .int 0, .int 0, .int 0]) C dL_law_0 wd1_32 wd1_33 wd1_1 (ci := 9) rfl hp_fsX7 (by omega) (by omega) (fun h1 e1 g1 => ?_)
  refine v_dup C dL_law_3 rfl ?_
  refine v_callIv C (As := []) (rest := [.ref x]) (c_X7_init hl hxb e1 (hK.same (fun a ha => g1 a (by omega)))) dL_law_4 mX7_init rfl wd1_34 rfl rfl (Nat.le_of_ble_eq_true rfl) (hR _ _ (by decide) (by decide)) (by omega) (by omega) (fun n2 h2 q => ?_)
  obtain ⟨q1, rk, -, E, q3⟩ := q
  have q1 : n2 = x + 148 := q1
  subst q1
  refine v_ltall (fun hlt => ?_)
  refine v_astore_n C dL_law_7 (Nat.le_of_ble_eq_true rfl) ?_
  show V G K _ _ _ (x + 148, h2) 8 [some (.ref sc), some (.ref x), none, none, none, none, none, none, none] []
  refine v_new (fs := [.null, .null, .null, .null, .int 0, .int 0, .int 0, .int 0, .null, .int 0, .int 0, .int 0, .null, .int 0, .null, .null, .int 0, .int 0, .null, .null, .null, .int 0, .null, .int 0]) C dL_law_8 wd6_231 wd6_232 wd1_11 (ci := 10) rfl hp_fsX8 (by omega) (by omega) (fun h3 e3 g3 => ?_)
  refine v_dup C dL_law_11 rfl ?_
  refine v_callIv C (As := []) (rest := [.ref (x + 148)]) (c_X8_init hl (by omega) e3) dL_law_12 mX8_init rfl wd6_233 rfl rfl (Nat.le_of_ble_eq_true rfl) (hR _ _ (by decide) (by decide)) (by omega) (by omega) (fun n4 h4 q => ?_)
  obtain ⟨q4, S4, q5⟩ := q
  have q4 : n4 = x + 161 := q4
  subst q4
  refine v_astore_n C dL_law_15 (Nat.le_of_ble_eq_true rfl) ?_
  show V G K _ _ _ (x + 161, h4) 16 [some (.ref sc), some (.ref x), some (.ref (x + 148)), none, none, none, none, none, none] []
  refine v_iconst (v := nI 1) C dL_law_16 (by decide) ?_
  refine v_newa (atype := .long) (N := 1) C 3 (.inr (.inl (fun _ => 0))) dL_law_17 wd8_230 (by decide) rfl (fun _ => rfl) (by decide) (by decide) (by decide) (by omega) (by omega) (fun h5 e5 g5 => ?_)
  refine v_astore_n C dL_law_19 (Nat.le_of_ble_eq_true rfl) ?_
  show V G K _ _ _ (x + 162, h5) 20 [some (.ref sc), some (.ref x), some (.ref (x + 148)), some (.ref (x + 161)), none, none, none, none, none] []
  refine v_iconst (v := nI 1) C dL_law_20 (by decide) ?_
  refine v_newa (atype := .double) (N := 1) C 4 (.inr (.inr (.inr (.inl (fun _ => 0))))) dL_law_21 wd8_231 (by decide) rfl (fun _ => rfl) (by decide) (by decide) (by decide) (by omega) (by omega) (fun h6 e6 g6 => ?_)
  refine v_astore C dL_law_23 (Nat.le_of_ble_eq_true rfl) ?_
  show V G K _ _ _ (x + 163, h6) 25 [some (.ref sc), some (.ref x), some (.ref (x + 148)), some (.ref (x + 161)), some (.ref (x + 162)), none, none, none, none] []
  refine v_iconst (v := nI 0) C dL_law_25 (by decide) ?_
  refine v_istore C dL_law_26 (Nat.le_of_ble_eq_true rfl) ?_
  show V G K _ _ _ (x + 163, h6) 28 [some (.ref sc), some (.ref x), some (.ref (x + 148)), some (.ref (x + 161)), some (.ref (x + 162)), some (.int (nI (6 * 0))), none, none, none] []
  refine v_widen (bc' := 10 * (L / 6)) (bs' := 5424 * (L / 6)) (by omega) (by omega) ?_
  have fr : ∀ a, a < x + 148 → h6 a = h2 a := fun a ha => (g6 a (by omega)).trans ((g5 a (by omega)).trans ((q5 a (by omega)).trans (g3 a (by omega))))
  have J : Jo G sc L xs x 0 h6 := ⟨mk_0, mk_0, mk_0, fun _ => mk_0, 0, 0, fun _ => 0, 0, fun _ => 0, 0, 0, -1, -1, rk, mo_0, fun _ => mk_0, 0, E.mv hlt fr (by omega), S4.same (fun a k1 k2 => (g6 a (by omega)).trans (g5 a (by omega))), Md.z, ⟨⟨by decide, by decide, fun i hi => absurd hi (Nat.not_lt_zero i)⟩, Ia.z, fun i hi => absurd hi (Nat.not_lt_zero i), fun z => absurd rfl z, Or.inl rfl, by decide⟩, ⟨Or.inl rfl, Or.inl rfl⟩, Nat.le_refl _, (fr sc (by omega)).trans ((q3 sc (by omega)).trans ((g1 sc (by omega)).trans hsc)), ⟨_, (g6 _ (by omega)).trans e5⟩, ⟨_, e6⟩⟩
  exact law_loop C hl hR (by omega) hL hend (L / 6) 0 (x + 163) h6 (by omega) (by omega) (Nat.le_refl _) J

/-! ===== PURE: markets as they can be; positions, margins, variations ===== -/
/-- the horizons and the contracts of a market as they can be -/
def Ic (M : mk_T) : Prop := (mk_hz M ≤ 4 ∧ mk_tr M ≤ 6 ∧ mk_ct M ≤ 20) ∧ (∀ i, i < mk_hz M → ∃ p u r, 1 ≤ p ∧ p ≤ 99 ∧ 1 ≤ u ∧ u ≤ 99 ∧ 1 ≤ r ∧ r ≤ 20 ∧ mk_ar M 0 i = nI p ∧ mk_ar M 1 i = nI u ∧ mk_ar M 2 i = nI r) ∧ (∀ c, c < mk_ct M → ∃ b s h q, b < mk_tr M ∧ s < mk_tr M ∧ b ≠ s ∧ h < mk_hz M ∧ 1 ≤ q ∧ q ≤ 20 ∧ mk_ar M 5 c = nI b ∧ mk_ar M 6 c = nI s ∧ mk_ar M 7 c = nI h ∧ mk_ar M 8 c = nI q) ∧ ∀ t, t < mk_tr M → mk_ar M 4 t = nI 0 ∨ mk_ar M 4 t = nI 1 ∨ mk_ar M 4 t = nI 2
theorem Ic.hk {M : mk_T} (H : Ic M) : mo_hk M := fun c hc => by
  obtain ⟨b, s, h, q, -, -, -, h4, -, -, -, -, h7, -⟩ := H.2.2.1 c hc
  exact ⟨h, h4, h7⟩
theorem nI_m1 {b : Nat} (h : b < 2 ^ 31) : ¬ nI b = -1 := fun z => nI_neg1 h z.symm
theorem po_eq {M : mk_T} (H : Ic M) (t on : Int32) : ∀ c, c ≤ mk_ct M → mk_pw M t on (-1) c = mo_pw M t on c
  | 0, _ => rfl
  | c + 1, hc => by
    have ih := po_eq H t on c (by omega)
    obtain ⟨b, s, h, q, hb, hs, hbs, hh, hq1, hq2, e5, e6, e7, e8⟩ := H.2.2.1 c (by omega)
    obtain ⟨h1, h2, h3⟩ := H.1
    unfold mk_pw mo_pw
    rw [ih]
    have n5 : ¬ (mk_ar M 5 c = -1 ∨ mk_ar M 6 c = -1) := fun z => z.elim (fun z => nI_m1 (by omega) (e5.symm.trans z)) (fun z => nI_m1 (by omega) (e6.symm.trans z))
    by_cases z : mk_ar M 7 c = on
    · rw [if_pos ⟨z, n5⟩, if_pos z]
      by_cases y : mk_ar M 5 c = t
      · rw [if_pos y, if_pos y]
      · rw [if_neg y, if_neg y]
        by_cases x : mk_ar M 6 c = t
        · rw [if_pos x, if_pos x]
          exact Int32.sub_eq_add_neg _ _
        · rw [if_neg x, if_neg x]
          exact (Int32.add_zero _).symm
    · rw [if_neg (fun y => z y.1), if_neg z]
theorem po_e {M : mk_T} (H : Ic M) (t on : Int32) : mk_po M t on = mo_po M t on := po_eq H t on _ (Nat.le_refl _)
theorem mg_e {M : mk_T} (H : Ic M) (t : Int32) : ∀ c, mk_mg M t c = mo_mg M t c
  | 0 => rfl
  | c + 1 => by
    unfold mk_mg mo_mg
    rw [mg_e H t c, po_e H]
theorem va_e {M : mk_T} (H : Ic M) (t : Int32) : ∀ c, mk_va M t c = mo_va M t c
  | 0 => rfl
  | c + 1 => by
    unfold mk_va mo_va
    rw [va_e H t c, po_e H]
theorem oq_e (M : mk_T) (on : Int32) : ∀ c, mk_oq M on c = mo_oq M on c
  | 0 => rfl
  | c + 1 => by
    unfold mk_oq mo_oq
    rw [oq_e M on c]
    split
    · rfl
    · exact (Int32.add_zero _).symm
theorem bf_e (M : mk_T) (k : Nat) : ∀ c, mk_bf M k c = mo_rn M k c
  | 0 => rfl
  | c + 1 => by
    unfold mk_bf mo_rn
    rw [bf_e M k c]
    split
    · rfl
    · rfl
theorem rk_e (M : mk_T) (rank : Int32) : ∀ e k, mk_rk M rank e k = match mo_rk M rank e k with
    | none => -1
    | some j => nI j
  | 0, k => rfl
  | e + 1, k => by
    unfold mk_rk mo_rk
    rw [bf_e]
    split
    · rfl
    · exact rk_e M rank e (k + 1)
theorem rk_lt (M : mk_T) (rank : Int32) : ∀ e k j, mo_rk M rank e k = some j → j < k + e
  | 0, k, j, h => by cases h
  | e + 1, k, j, h => by
    unfold mo_rk at h
    split at h
    · cases h
      omega
    · have := rk_lt M rank e (k + 1) j h
      omega
theorem mm_e {M : mk_T} (H : Ic M) : ∀ c, mm_s M c = mo_ms M c
  | 0 => rfl
  | c + 1 => by
    unfold mm_s mo_ms
    rw [mm_e H c, mg_e H]
theorem wt_e {M : mk_T} (H : Ic M) (j : Nat) : wt_l M j = mt_l M j := by
  unfold wt_l mt_l
  rw [mg_e H]
/-- a night's first steps -/
theorem sv_e {M : mk_T} (H : Ic M) (c : Nat) : mo_sv M c = mk_sv M c := by
  refine mk_ext rfl (fun k i => ?_) rfl
  show (if k = 3 then _ else M.2.1 k) i = (if k = 3 then _ else M.2.1 k) i
  by_cases q : k = 3
  · rw [if_pos q, if_pos q]
    show (if i < c then _ else _) = (if i < c then _ else _)
    rw [va_e H]
  · rw [if_neg q, if_neg q]
theorem cw_e {M : mk_T} (H : Ic M) (c : Nat) : mo_cw M c = mk_cw M c := by
  have es : ∀ i, mo_cs M i = mk_cs M i := fun i => by
    unfold mo_cs mk_cs
    rw [mg_e H, show mk_ar M 3 i - nI 0 = mk_ar M 3 i from Int32.sub_zero _]
  refine mk_ext rfl (fun k i => ?_) rfl
  show (if k = 4 then _ else M.2.1 k) i = (if k = 4 then _ else M.2.1 k) i
  by_cases q : k = 4
  · rw [if_pos q, if_pos q]
    show (if i < c then _ else _) = (if i < c then _ else _)
    rw [es]
  · rw [if_neg q, if_neg q]
theorem cb_e {M : mk_T} (H : Ic M) : ∀ c, mo_cb M c = mk_cn M c
  | 0 => rfl
  | c + 1 => by
    unfold mo_cb mk_cn
    rw [cb_e H c, mg_e H, show mk_ar M 3 c - nI 0 = mk_ar M 3 c from Int32.sub_zero _]
/-! a contract more -/
theorem pw_con {M : mk_T} (b s on q d t h : Int32) : mo_po (mk_con M b s on q d) t h = if on = h then mo_po M t h + (if b = t then q else if s = t then -q else nI 0) else mo_po M t h := by
  have lo : ∀ k i, i < mk_ct M → mk_ar (mk_con M b s on q d) k i = mk_ar M k i := fun k i hi => by
    show mk_ar (mk_st (mk_st (mk_st (mk_st (mk_st M 5 (mk_ct M) b) 6 (mk_ct M) s) 7 (mk_ct M) on) 8 (mk_ct M) q) 9 (mk_ct M) (mk_dy M + d)) k i = _
    rw [mk_st_ar, mk_st_ar, mk_st_ar, mk_st_ar, mk_st_ar, if_neg (by omega), if_neg (by omega), if_neg (by omega), if_neg (by omega), if_neg (by omega)]
  have lw : ∀ c, c ≤ mk_ct M → mo_pw (mk_con M b s on q d) t h c = mo_pw M t h c := by
    intro c
    induction c with
    | zero => exact fun _ => rfl
    | succ c ih =>
      intro hc
      unfold mo_pw
      rw [ih (by omega), lo 7 c (by omega), lo 5 c (by omega), lo 6 c (by omega), lo 8 c (by omega)]
  have e5 : mk_ar (mk_con M b s on q d) 5 (mk_ct M) = b := show upd (M.2.1 5) (mk_ct M) b (mk_ct M) = b from pk_us
  have e6 : mk_ar (mk_con M b s on q d) 6 (mk_ct M) = s := show upd (M.2.1 6) (mk_ct M) s (mk_ct M) = s from pk_us
  have e7 : mk_ar (mk_con M b s on q d) 7 (mk_ct M) = on := show upd (M.2.1 7) (mk_ct M) on (mk_ct M) = on from pk_us
  have e8 : mk_ar (mk_con M b s on q d) 8 (mk_ct M) = q := show upd (M.2.1 8) (mk_ct M) q (mk_ct M) = q from pk_us
  show mo_pw (mk_con M b s on q d) t h (mk_ct M + 1) = _
  unfold mo_pw
  rw [lw _ (Nat.le_refl _), e5, e6, e7, e8]
  rfl
theorem ring_1 (A P Q R : Int32) : A + P * R + (Q - P) * R = A + Q * R := by grind
theorem ring_2 (A B P R : Int32) : A + P + (B + R - B) = A + P + R := by grind
theorem ring_3 (A X P : Int32) : A + X + P = A + P + X := by grind
theorem mg_con {M : mk_T} {b s q d t x : Int32} {on : Nat} (h31 : mk_hz M < 2 ^ 31) (hon : on < mk_hz M) (hx : (if b = t then q else if s = t then -q else nI 0) = x) : ∀ c, c ≤ mk_hz M → mo_mg (mk_con M b s (nI on) q d) t c = if on < c then mo_mg M t c + (hp_abs (mo_po M t (nI on) + x) - hp_abs (mo_po M t (nI on))) * mk_ar M 2 on else mo_mg M t c
  | 0, _ => (if_neg (Nat.not_lt_zero on)).symm
  | c + 1, hc => by
    have ih := mg_con (d := d) h31 hon hx c (by omega)
    have e2 : mk_ar (mk_con M b s (nI on) q d) 2 = mk_ar M 2 := rfl
    unfold mo_mg
    rw [ih, e2, pw_con, hx]
    by_cases z : on = c
    · subst z
      rw [if_neg (Nat.lt_irrefl on), if_pos rfl, if_pos (Nat.lt_succ_self on)]
      exact (ring_1 _ _ _ _).symm
    · rw [if_neg (fun y => z ((nI_eq (by omega) (by omega)).mp y))]
      by_cases y : on < c
      · rw [if_pos y, if_pos (by omega)]
        exact ring_3 _ _ _
      · rw [if_neg y, if_neg (by omega)]
theorem mw_e {M : mk_T} (H : Ic M) {b s q d t x : Int32} {on : Nat} (hon : on < mk_hz M) (hx : (if b = t then q else if s = t then -q else nI 0) = x) : mo_mg (mk_con M b s (nI on) q d) t (mk_hz M) = mk_mw M t (nI on) x := by
  obtain ⟨h1, h2, h3⟩ := H.1
  rw [mg_con (by omega) hon hx _ (Nat.le_refl _), if_pos hon]
  unfold mk_mw
  rw [mg_e H, po_e H, nI_clamp (by omega)]
/-! ===== what is wrong with a command, in the class and in the model ===== -/
/-- the class's number for a fault as the law counts it -/
def fx (c : Nat) (f : Int32) : Int32 := if c < 2 then (if f = nI 2 then nI 1 else if f = nI 3 then nI 2 else nI 0) else f
theorem fT_e {M : mk_T} (H : Ic M) (b s on q d : Int32) : mo_fT M b s on q d = mk_fT M b s on q d := by
  obtain ⟨h1, h2, h3⟩ := H.1
  unfold mo_fT mk_fT
  by_cases z1 : ¬ hp_num b (mk_tr M) ∨ ¬ hp_num s (mk_tr M) ∨ ¬ hp_num on (mk_hz M)
  · rw [if_pos z1, if_pos z1]
  · rw [if_neg z1, if_neg z1]
    by_cases z2 : b = s ∨ ¬ hp_wi q (nI 1) (nI 20) ∨ ¬ hp_wi d (nI 1) (nI 9)
    · rw [if_pos z2, if_pos z2]
    · rw [if_neg z2, if_neg z2]
      have e3 : (mk_ct M = 20 ∨ ¬ mk_ar M 4 b.toNatClampNeg = nI 0 ∨ ¬ mk_ar M 4 s.toNatClampNeg = nI 0) ↔ (20 ≤ mk_ct M ∨ ¬ mk_ar M 4 b.toNatClampNeg = 0 ∨ ¬ mk_ar M 4 s.toNatClampNeg = 0) := ⟨fun z => z.imp (fun y => by omega) id, fun z => z.imp (fun y => by omega) id⟩
      by_cases z3 : mk_ct M = 20 ∨ ¬ mk_ar M 4 b.toNatClampNeg = nI 0 ∨ ¬ mk_ar M 4 s.toNatClampNeg = nI 0
      · rw [if_pos z3, if_pos (e3.mp z3)]
      · rw [if_neg z3, if_neg (fun y => z3 (e3.mpr y))]
        have hb : hp_num b (mk_tr M) := Decidable.not_not.mp (fun y => z1 (Or.inl y))
        have hs : hp_num s (mk_tr M) := Decidable.not_not.mp (fun y => z1 (Or.inr (Or.inl y)))
        have ho : hp_num on (mk_hz M) := Decidable.not_not.mp (fun y => z1 (Or.inr (Or.inr y)))
        have hbs : ¬ b = s := fun y => z2 (Or.inl y)
        obtain ⟨jo, hjo, rfl⟩ := hp_num_j ho (by omega)
        rw [mw_e H hjo (t := b) (x := q) (if_pos rfl), mw_e H hjo (t := s) (x := -q) ((if_neg hbs).trans (if_pos rfl)), show mk_ar M 3 b.toNatClampNeg - nI 0 = mk_ar M 3 b.toNatClampNeg from Int32.sub_zero _, show mk_ar M 3 s.toNatClampNeg - nI 0 = mk_ar M 3 s.toNatClampNeg from Int32.sub_zero _]
theorem fK_e {M : mk_T} (H : Ic M) (t a : Int32) : mo_fK M t a = mk_fK M t a := by
  unfold mo_fK mk_fK
  rw [mg_e H]
  rfl
theorem cv_0 (M : mk_T) (a b k d e : Int32) : cv M 0 a b k d e = (mo_fH M a b, mk_plH M a b, nI (mk_hz M + 1 - 1)) := rfl
theorem cv_1 (M : mk_T) (a b k d e : Int32) : cv M 1 a b k d e = (mo_fR M a, mk_plT M a, nI (mk_tr M)) := rfl
theorem cv_2 (M : mk_T) (a b k d e : Int32) : cv M 2 a b k d e = (mo_fT M a b k d e, mk_con M a b k d e, nI (mk_ct M)) := rfl
theorem cv_3 (M : mk_T) (a b k d e : Int32) : cv M 3 a b k d e = (mo_fQ M a b, mk_st M 1 a.toNatClampNeg b, mk_ar M 1 a.toNatClampNeg) := rfl
theorem cv_4 (M : mk_T) (a b k d e : Int32) : cv M 4 a b k d e = (nI 0, pn_M M, nI (tk_bc (pn_s M))) := rfl
theorem cv_5 (M : mk_T) (a b k d e : Int32) : cv M 5 a b k d e = (mk_fB M a b, mk_bri M a.toNatClampNeg b, mk_ar (mk_bri M a.toNatClampNeg b) 3 a.toNatClampNeg) := rfl
theorem cv_6 (M : mk_T) (a b k d e : Int32) : cv M 6 a b k d e = (mo_fK M a b, mk_tak M a.toNatClampNeg b, mk_ar (mk_tak M a.toNatClampNeg b) 3 a.toNatClampNeg) := rfl
theorem cv_7 (M : mk_T) (a b k d e : Int32) : cv M 7 a b k d e = (mo_fK M a b, mk_giv M a.toNatClampNeg b, mk_fu (mk_giv M a.toNatClampNeg b)) := rfl
theorem fx_2 (c : Nat) (f : Int32) (h : ¬ c < 2) : fx c f = f := if_neg h
theorem fH_e {M : mk_T} (H : Ic M) (a b : Int32) : mo_fH M a b = fx 0 (mk_fH M a b) := by
  obtain ⟨h1, h2, h3⟩ := H.1
  unfold mo_fH mk_fH
  by_cases z : ¬ hp_wi a (nI 1) (nI 99) ∨ ¬ hp_wi b (nI 1) (nI 20)
  · rw [if_pos z, if_pos z]
    rfl
  · rw [if_neg z, if_neg z]
    by_cases y : mk_hz M = 4
    · rw [if_pos y, if_pos (by omega)]
      rfl
    · rw [if_neg y, if_neg (by omega)]
      rfl
theorem fR_e {M : mk_T} (H : Ic M) (a : Int32) : mo_fR M a = fx 1 (mk_fR M a) := by
  obtain ⟨h1, h2, h3⟩ := H.1
  unfold mo_fR mk_fR
  by_cases z : ¬ hp_wi a (nI 0) (nI 9999)
  · rw [if_pos z, if_pos z]
    rfl
  · rw [if_neg z, if_neg z]
    by_cases y : mk_tr M = 6
    · rw [if_pos y, if_pos (by omega)]
      rfl
    · rw [if_neg y, if_neg (by omega)]
      rfl
theorem cv_e {M : mk_T} (H : Ic M) {c : Nat} (hc : c < 8) (a b k d e : Int32) : cv M c a b k d e = (fx c (fo M c a b k d e), po_M M c a b k d e, po_v M c a b k d e) := by
  match c, hc with
  | 0, _ => rw [cv_0, (fo_0 M a b k d e).1, (fo_0 M a b k d e).2.1, (fo_0 M a b k d e).2.2, fH_e H, Nat.add_sub_cancel]
  | 1, _ => rw [cv_1, (fo_1 M a b k d e).1, (fo_1 M a b k d e).2.1, (fo_1 M a b k d e).2.2, fR_e H]
  | 2, _ => rw [cv_2, (fo_2 M a b k d e).1, (fo_2 M a b k d e).2.1, (fo_2 M a b k d e).2.2, fx_2 2 _ (by decide), fT_e H]
  | 3, _ => rw [cv_3, (fo_3 M a b k d e).1, (fo_3 M a b k d e).2.1, (fo_3 M a b k d e).2.2, fx_2 3 _ (by decide)]; rfl
  | 4, _ => rw [cv_4, (fo_4 M a b k d e).1, (fo_4 M a b k d e).2.1, (fo_4 M a b k d e).2.2, fx_2 4 _ (by decide)]
  | 5, _ => rw [cv_5, (fo_5 M a b k d e).1, (fo_5 M a b k d e).2.1, (fo_5 M a b k d e).2.2, fx_2 5 _ (by decide)]
  | 6, _ => rw [cv_6, (fo_6 M a b k d e).1, (fo_6 M a b k d e).2.1, (fo_6 M a b k d e).2.2, fx_2 6 _ (by decide), fK_e H]
  | 7, _ => rw [cv_7, (fo_7 M a b k d e).1, (fo_7 M a b k d e).2.1, (fo_7 M a b k d e).2.2, fx_2 7 _ (by decide), fK_e H]


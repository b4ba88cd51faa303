/-! ===== THE MODEL: dawn ===== -/
def mo_mv (M : mk_T) (f : Nat → Int32) (c : Nat) : Nat → Int32 := fun i => if i < c then mo_va M (nI i) (mk_hz M) else f i
theorem mo_mv_0 (M : mk_T) (f : Nat → Int32) : mo_mv M f 0 = f := funext fun i => if_neg (Nat.not_lt_zero i)
theorem mo_mv_s (M : mk_T) (f : Nat → Int32) (c : Nat) : upd (mo_mv M f c) c (mo_va M (nI c) (mk_hz M)) = mo_mv M f (c + 1) := by
  refine funext fun i => ?_
  by_cases q : i = c
  · rw [q, pk_us]
    exact (if_pos (Nat.lt_succ_self c)).symm
  · rw [pk_un q]
    show (if i < c then _ else _) = (if i < c + 1 then _ else _)
    by_cases z : i < c
    · rw [if_pos z, if_pos (by omega)]
    · rw [if_neg z, if_neg (by omega)]
theorem mo_sr_s8 {S : mo_T} {T : Nat → Int32} {i : Nat} {v : Int32} : mo_sa (mo_sr S 8 T) 8 i v = mo_sr S 8 (upd T i v) := by
  refine Prod.ext (funext fun j => ?_) rfl
  show (if j = 8 then upd ((mo_sr S 8 T).1 8) i v else (mo_sr S 8 T).1 j) = (if j = 8 then upd T i v else S.1 j)
  by_cases q : j = 8
  · rw [if_pos q, if_pos q]
    rfl
  · rw [if_neg q, if_neg q]
    exact if_neg q
abbrev mo_sv (M : mk_T) (c : Nat) : mk_T := mk_wa M 3 (fun i => if i < c then mk_ar M 3 i + mo_va M (nI i) (mk_hz M) else mk_ar M 3 i)
theorem mo_sv_3 (M : mk_T) (c : Nat) : mk_ar (mo_sv M c) 3 c = mk_ar M 3 c := if_neg (Nat.lt_irrefl c)
theorem mo_sv_s (M : mk_T) (c : Nat) : mk_st (mo_sv M c) 3 c (mk_ar M 3 c + mo_va M (nI c) (mk_hz M)) = mo_sv M (c + 1) := by
  refine mk_wa_st fun i => ?_
  by_cases q : i = c
  · subst q
    rw [if_pos rfl, if_pos (Nat.lt_succ_self i)]
  · rw [if_neg q]
    by_cases q2 : i < c
    · rw [if_pos q2, if_pos (by omega)]
    · rw [if_neg q2, if_neg (by omega)]
theorem mo_wa_id (M : mk_T) (k : Nat) (f : Nat → Int32) (h : ∀ i, f i = mk_ar M k i) : mk_wa M k f = M := by
  refine mk_ext rfl (fun j i => ?_) rfl
  show (if j = k then f else M.2.1 j) i = _
  by_cases q : j = k
  · rw [if_pos q, q]
    exact h i
  · rw [if_neg q]
theorem Gr.u0 {g : Nat → Int32} {M : mk_T} (H : Gr g M) {t : Nat} (ht : t < mk_hz M) (v : Int32) : Gr (upd g (6 + 3 * t + 0) v) (mk_st M 0 t v) := by
  obtain ⟨⟨a0, a1, a2, a3, a4, a5, a6, a7⟩, b, c, d, e1, e2, e3⟩ := H
  refine ⟨⟨(pk_un (by omega)).trans a0, (pk_un (by omega)).trans a1, (pk_un (by omega)).trans a2, (pk_un (by omega)).trans a3, (pk_un (by omega)).trans a4, (pk_un (by omega)).trans a5, (by rw [pk_un (by omega)]; exact a6), (by rw [pk_un (by omega)]; exact a7)⟩, fun i (hi : i < mk_hz M) k hk => ?_, fun s (hs : s < mk_tr M) => ?_, fun c2 (hc : c2 < mk_ct M) k hk => ?_, e1, e2, e3⟩
  · rw [mk_st_ar]
    by_cases q : k = 0 ∧ i = t
    · obtain ⟨q1, q2⟩ := q
      subst q1 q2
      rw [if_pos ⟨rfl, rfl⟩]
      exact pk_us
    · rw [if_neg q, pk_un (by omega)]
      exact b i hi k hk
  · rw [pk_un (by omega), pk_un (by omega), pk_un (by omega), mk_st_ar, mk_st_ar, if_neg (by omega), if_neg (by omega)]
    exact c s hs
  · rw [pk_un (by omega), mk_st_ar, if_neg (by omega)]
    exact d c2 hc k hk
theorem mk_ed_p : ∀ c (M : mk_T), (mk_ed M c).1.1 = M.1.1 ∧ (mk_ed M c).1.2.1 = M.1.2.1 ∧ (mo_hk M → mo_hk (mk_ed M c))
  | 0, M => ⟨rfl, rfl, id⟩
  | c + 1, M => by
    unfold mk_ed
    split
    · obtain ⟨a, b, k⟩ := mk_ed_p c (mk_rm M c)
      exact ⟨a, b, fun h => k (h.rm c)⟩
    · exact mk_ed_p c M
theorem mo_pw_c {M M' : mk_T} (h5 : mk_ar M' 5 = mk_ar M 5) (h6 : mk_ar M' 6 = mk_ar M 6) (h7 : mk_ar M' 7 = mk_ar M 7) (h8 : mk_ar M' 8 = mk_ar M 8) (t on : Int32) : ∀ c, mo_pw M' t on c = mo_pw M t on c
  | 0 => rfl
  | c + 1 => by
    unfold mo_pw
    rw [mo_pw_c h5 h6 h7 h8 t on c, h5, h6, h7, h8]
theorem mo_mg_c {M M' : mk_T} (hp : ∀ t on, mo_po M' t on = mo_po M t on) (h2 : mk_ar M' 2 = mk_ar M 2) (t : Int32) : ∀ c, mo_mg M' t c = mo_mg M t c
  | 0 => rfl
  | c + 1 => by
    unfold mo_mg
    rw [mo_mg_c hp h2 t c, hp, h2]
def mo_cs (M : mk_T) (i : Nat) : Int32 := if mk_ar M 4 i = nI 2 then mk_ar M 4 i else if mk_ar M 3 i - nI 0 < mo_mg M (nI i) (mk_hz M) then nI 1 else nI 0
def mo_cb (M : mk_T) (c : Nat) : Nat := match c with
  | 0 => 0
  | c + 1 => if ¬ mk_ar M 4 c = nI 2 ∧ mk_ar M 3 c - nI 0 < mo_mg M (nI c) (mk_hz M) ∧ mk_ar M 4 c = nI 1 then mo_cb M c ||| 2 ^ c else mo_cb M c
abbrev mo_cw (M : mk_T) (c : Nat) : mk_T := mk_wa M 4 (fun i => if i < c then mo_cs M i else mk_ar M 4 i)
theorem mo_cw_4 (M : mk_T) (c : Nat) : mk_ar (mo_cw M c) 4 c = mk_ar M 4 c := if_neg (Nat.lt_irrefl c)
theorem mo_cw_mg (M : mk_T) (c : Nat) (t : Int32) (k : Nat) : mo_mg (mo_cw M c) t k = mo_mg M t k := mo_mg_c (M := M) (M' := mo_cw M c) (fun t on => mo_pw_c (M := M) (M' := mo_cw M c) rfl rfl rfl rfl t on _) rfl t k
theorem mo_cw_s {M : mk_T} {c : Nat} {x : Int32} (h : x = mo_cs M c) : mk_st (mo_cw M c) 4 c x = mo_cw M (c + 1) := by
  refine mk_wa_st fun i => ?_
  subst h
  by_cases q : i = c
  · subst q
    rw [if_pos (Nat.lt_succ_self i), if_pos rfl]
  · rw [if_neg q]
    by_cases q2 : i < c
    · rw [if_pos q2, if_pos (by omega)]
    · rw [if_neg q2, if_neg (by omega)]
theorem mo_cw_i {M : mk_T} {c : Nat} (h : mk_ar M 4 c = mo_cs M c) : mo_cw M c = mo_cw M (c + 1) := by
  rw [← mo_cw_s h]
  refine mk_ext rfl (fun k i => ?_) rfl
  rw [mk_st_ar]
  by_cases q : k = 4 ∧ i = c
  · obtain ⟨rfl, rfl⟩ := q
    rw [if_pos ⟨rfl, rfl⟩]
    exact mo_cw_4 M i
  · rw [if_neg q]
theorem mo_kp_s3 (S : mo_T) (kf ch : Nat) : mo_kp (mo_si S 3 (nI 0)) kf ch = mo_kp S kf ch := by
  have e : mo_si (mo_si S 3 (nI 0)) 3 (nI 0) = mo_si S 3 (nI 0) := Prod.ext rfl (mo_uu _ _ _ _)
  unfold mo_kp
  rw [e]
  rfl
/-- how many bits stand below c -/
def dw_n (f c : Nat) : Nat := match c with
  | 0 => 0
  | c + 1 => if f / 2 ^ c % 2 = 0 then dw_n f c else dw_n f c + 1
theorem dw_n_bc : ∀ tr, tr < 7 → ∀ f, f < 64 → f < 2 ^ tr → dw_n f tr = tk_bc f := by decide +kernel
theorem dw_n_le (f : Nat) : ∀ c, dw_n f c ≤ c
  | 0 => Nat.le_refl _
  | c + 1 => by
    have := dw_n_le f c
    unfold dw_n
    split <;> omega
/-- the market behind the day's end -/
abbrev dw_1 (M : mk_T) : mk_T := mk_sp (mo_sv M (mk_tr M)) (mk_hz M)
def dw_0 (M : mk_T) : mk_T := mk_ed (mk_pdy (dw_1 M) (mk_dy M + nI 1)) (mk_ct M)
theorem dw_0_p (M : mk_T) : mk_hz (dw_0 M) = mk_hz M ∧ mk_tr (dw_0 M) = mk_tr M ∧ (mo_hk M → mo_hk (dw_0 M)) := mk_ed_p (mk_ct M) (mk_pdy (dw_1 M) (mk_dy M + nI 1))
/-- a night goes in the model as it goes in the class -/
def dw_ok (M : mk_T) : Prop := mo_hk M ∧ dw_0 M = pn_e M ∧ mo_cw (pn_e M) (mk_tr M) = pn_0 M ∧ mo_cb (pn_e M) (mk_tr M) = pn_s M ∧ (∀ c, c ≤ mk_tr M → mo_hk (pn_l M c)) ∧ ∀ c, c < mk_tr M → ¬ pn_s M / 2 ^ c % 2 = 0 → mk_q (df_M (pn_l M c) c) (co_d (pn_l M c) c)
set_option maxHeartbeats 8000000 in
theorem loop1_X8_dawn {G : hp_G} {K : hp_C} {n0 : Nat} {h0 : Nat → Option va_E} {y : Nat} {S : mo_T} {M : mk_T} (hbase : G.2.1 ≤ y) (C : hp_Cx G K MX8_dawn) (hRm : hp_Rm K = hp_rm 5 0 0) (hl : K.2.1.stackTraces = false)  (hg : Gr (S.1 0) M) (hk : ∀ h, Mo G h y (mo_sr S 8 (mo_mv M (S.1 8) (mk_tr M))) → (∀ a, (a < y ∨ y + 13 ≤ a) → h a = h0 a) → V G K MX8_dawn 0 0 (n0, h) 37 [some (.ref y), none, none, none] []) : ∀ (e c : Nat) (h : Nat → Option va_E), c + e = mk_tr M → Mo G h y (mo_sr S 8 (mo_mv M (S.1 8) c)) → (∀ a, (a < y ∨ y + 13 ≤ a) → h a = h0 a) → V G K MX8_dawn 0 0 (n0, h) 10 [some (.ref y), some (.int (nI c)), none, none] [] := by
  have htr := hg.tr
  intro e
  induction e with
  | zero =>
    intro c h hc H hO
    have e : c = mk_tr M := by omega
    subst e
    refine v_iload_n C dX8_dawn_10 rfl ?_
    refine v_aload_n C dX8_dawn_11 rfl ?_
    refine v_get C 0 dX8_dawn_12 wd6_237 H.o rfl (by decide) ⟨rfl, rfl, rfl⟩ rfl ?_
    refine v_iconst (v := nI 1) C dX8_dawn_15 (by decide) ?_
    refine v_ialdN C dX8_dawn_16 H.a0 (by omega) (by decide) ?_
    rw [show (mo_sr S 8 (mo_mv M (S.1 8) _)).1 0 = S.1 0 from rfl, hg.g1]
    refine v_icmp_geN (tgt := 37) C dX8_dawn_17 (by decide) (by omega) (by omega) (fun c17 => ?_) (fun c17 => absurd c17 (by omega))
    refine v_drop 1 ?_
    exact hk _ H hO
  | succ e ih =>
    intro c h hc H hO
    refine v_iload_n C dX8_dawn_10 rfl ?_
    refine v_aload_n C dX8_dawn_11 rfl ?_
    refine v_get C 0 dX8_dawn_12 wd6_237 H.o rfl (by decide) ⟨rfl, rfl, rfl⟩ rfl ?_
    refine v_iconst (v := nI 1) C dX8_dawn_15 (by decide) ?_
    refine v_ialdN C dX8_dawn_16 H.a0 (by omega) (by decide) ?_
    rw [show (mo_sr S 8 (mo_mv M (S.1 8) _)).1 0 = S.1 0 from rfl, hg.g1]
    refine v_icmp_geN (tgt := 37) C dX8_dawn_17 (by decide) (by omega) (by omega) (fun c17 => absurd c17 (by omega)) (fun c17 => ?_)
    refine v_aload_n C dX8_dawn_20 rfl ?_
    refine v_get C 18 dX8_dawn_21 wd7_15 H.o rfl (by decide) ⟨rfl, rfl, rfl⟩ rfl ?_
    refine v_iload_n C dX8_dawn_24 rfl ?_
    refine v_aload_n C dX8_dawn_25 rfl ?_
    refine v_iload_n C dX8_dawn_26 rfl ?_
    refine v_callVi C (c_X8_variation hl H (M := M) hg (nI c)) dX8_dawn_27 mX8_variation rfl H.o rfl wd7_164 rfl rfl (Nat.le_of_ble_eq_true rfl) (hp_rmle hRm (by decide) (by decide)) (Nat.le_of_ble_eq_true rfl) (Nat.le_of_ble_eq_true rfl) ?_
    refine v_iastN C dX8_dawn_30 (by omega) H.a8 (by omega) (by decide) (fun h30 e30 g30 => ?_)
    have Y30 := H.s8 e30 g30
    have W30 : ∀ a, (a < y ∨ y + 13 ≤ a) → h30 a = _ := fun a ha => (g30 a (by omega)).trans (hO a ha)
    refine v_iincN C dX8_dawn_31 (by decide) rfl ?_
    refine v_goto (tgt := 10) C dX8_dawn_34 (by decide) ?_
    exact ih (c + 1) _ (by omega) ((Y30.to mo_sr_s8).to (congrArg (mo_sr S 8) (mo_mv_s M _ c))) W30
set_option maxHeartbeats 8000000 in
theorem loop2_X8_dawn {G : hp_G} {K : hp_C} {n0 : Nat} {h0 : Nat → Option va_E} {y : Nat} {S : mo_T} {M : mk_T} (hbase : G.2.1 ≤ y) (C : hp_Cx G K MX8_dawn) (hRm : hp_Rm K = hp_rm 5 0 0) (hl : K.2.1.stackTraces = false)  (htr : mk_tr M ≤ 6) (hmv : ∀ i, i < mk_tr M → S.1 8 i = mo_va M (nI i) (mk_hz M)) (hk : ∀ h g, Gr g (mo_sv M (mk_tr M)) → Mo G h y (mo_sg S g) → (∀ a, (a < y ∨ y + 13 ≤ a) → h a = h0 a) → V G K MX8_dawn 0 0 (n0, h) 74 [some (.ref y), none, none, none] []) : ∀ (e c : Nat) (h : Nat → Option va_E) (g : Nat → Int32), c + e = mk_tr M → Gr g (mo_sv M c) → Mo G h y (mo_sg S g) → (∀ a, (a < y ∨ y + 13 ≤ a) → h a = h0 a) → V G K MX8_dawn 0 0 (n0, h) 39 [some (.ref y), some (.int (nI c)), none, none] [] := by
  intro e
  induction e with
  | zero =>
    intro c h g hc hg H hO
    have e : c = mk_tr M := by omega
    subst e
    refine v_iload_n C dX8_dawn_39 rfl ?_
    refine v_aload_n C dX8_dawn_40 rfl ?_
    refine v_get C 0 dX8_dawn_41 wd6_237 H.o rfl (by decide) ⟨rfl, rfl, rfl⟩ rfl ?_
    refine v_iconst (v := nI 1) C dX8_dawn_44 (by decide) ?_
    refine v_ialdN C dX8_dawn_45 H.a0 (by omega) (by decide) ?_
    rw [mo_sg_0, hg.g1, show mk_tr (mo_sv M _) = mk_tr M from rfl]
    refine v_icmp_geN (tgt := 74) C dX8_dawn_46 (by decide) (by omega) (by omega) (fun c46 => ?_) (fun c46 => absurd c46 (by omega))
    refine v_drop 1 ?_
    exact hk _ _ hg H hO
  | succ e ih =>
    intro c h g hc hg H hO
    have hcc : c < mk_tr (mo_sv M c) := show c < mk_tr M by omega
    refine v_iload_n C dX8_dawn_39 rfl ?_
    refine v_aload_n C dX8_dawn_40 rfl ?_
    refine v_get C 0 dX8_dawn_41 wd6_237 H.o rfl (by decide) ⟨rfl, rfl, rfl⟩ rfl ?_
    refine v_iconst (v := nI 1) C dX8_dawn_44 (by decide) ?_
    refine v_ialdN C dX8_dawn_45 H.a0 (by omega) (by decide) ?_
    rw [mo_sg_0, hg.g1, show mk_tr (mo_sv M _) = mk_tr M from rfl]
    refine v_icmp_geN (tgt := 74) C dX8_dawn_46 (by decide) (by omega) (by omega) (fun c46 => absurd c46 (by omega)) (fun c46 => ?_)
    refine v_aload_n C dX8_dawn_49 rfl ?_
    refine v_iload_n C dX8_dawn_50 rfl ?_
    refine v_iconst (v := nI 0) C dX8_dawn_51 (by decide) ?_
    refine v_aload_n C dX8_dawn_52 rfl ?_
    refine v_iload_n C dX8_dawn_53 rfl ?_
    refine v_iconst (v := nI 0) C dX8_dawn_54 (by decide) ?_
    refine v_callVi C (c_X8_of hl H (i := c) (k := 0) (by omega) (by decide)) dX8_dawn_55 mX8_of rfl H.o rfl wd7_117 rfl rfl (Nat.le_of_ble_eq_true rfl) (hp_rmle hRm (by decide) (by decide)) (Nat.le_of_ble_eq_true rfl) (Nat.le_of_ble_eq_true rfl) ?_
    rw [mo_sg_0, hg.of0 hcc, mo_sv_3]
    refine v_aload_n C dX8_dawn_58 rfl ?_
    refine v_get C 18 dX8_dawn_59 wd7_15 H.o rfl (by decide) ⟨rfl, rfl, rfl⟩ rfl ?_
    refine v_iload_n C dX8_dawn_62 rfl ?_
    refine v_ialdN C dX8_dawn_63 H.a8 (by omega) (by decide) ?_
    rw [show (mo_sg S g).1 8 = S.1 8 from rfl, hmv c (by omega)]
    refine v_iadd C dX8_dawn_64 ?_
    refine v_callVv C (c_X8_lays hl H (i := c) (k := 0) (by omega) (by decide) _) dX8_dawn_65 mX8_lays rfl H.o rfl wd7_97 rfl rfl (Nat.le_of_ble_eq_true rfl) (hp_rmle hRm (by decide) (by decide)) (Nat.le_of_ble_eq_true rfl) (Nat.le_of_ble_eq_true rfl) (fun n65 h65 q65 => ?_)
    obtain ⟨k65, Y65, W65⟩ := q65
    have z65 := Eq.symm k65
    have z65 : n0 = n65 := z65
    subst z65
    have W65 : ∀ a, (a < y ∨ y + 13 ≤ a) → h65 a = h0 a := fun a ha => (W65 a ha).trans (hO a ha)
    have X65 := Y65.to mo_sg_sa
    have G65 := hg.u3 hcc (mk_ar M 3 c + mo_va M (nI c) (mk_hz M))
    refine v_iincN C dX8_dawn_68 (by decide) rfl ?_
    refine v_goto (tgt := 39) C dX8_dawn_71 (by decide) ?_
    exact ih (c + 1) _ _ (by omega) (by rw [← mo_sv_s]; exact G65) X65 W65
set_option maxHeartbeats 8000000 in
theorem loop3_X8_dawn {G : hp_G} {K : hp_C} {n0 : Nat} {h0 : Nat → Option va_E} {y : Nat} {S : mo_T} {M : mk_T} (hbase : G.2.1 ≤ y) (C : hp_Cx G K MX8_dawn) (hRm : hp_Rm K = hp_rm 5 0 0) (hl : K.2.1.stackTraces = false)  (hhz : mk_hz M ≤ 4) (hk : ∀ h g, Gr g (mk_sp M (mk_hz M)) → Mo G h y (mo_sg S g) → (∀ a, (a < y ∨ y + 13 ≤ a) → h a = h0 a) → V G K MX8_dawn 0 0 (n0, h) 111 [some (.ref y), none, none, none] []) : ∀ (e c : Nat) (h : Nat → Option va_E) (g : Nat → Int32), c + e = mk_hz M → Gr g (mk_sp M c) → Mo G h y (mo_sg S g) → (∀ a, (a < y ∨ y + 13 ≤ a) → h a = h0 a) → V G K MX8_dawn 0 0 (n0, h) 76 [some (.ref y), some (.int (nI c)), none, none] [] := by
  intro e
  induction e with
  | zero =>
    intro c h g hc hg H hO
    have e : c = mk_hz M := by omega
    subst e
    refine v_iload_n C dX8_dawn_76 rfl ?_
    refine v_aload_n C dX8_dawn_77 rfl ?_
    refine v_get C 0 dX8_dawn_78 wd6_237 H.o rfl (by decide) ⟨rfl, rfl, rfl⟩ rfl ?_
    refine v_iconst (v := nI 0) C dX8_dawn_81 (by decide) ?_
    refine v_ialdN C dX8_dawn_82 H.a0 (by omega) (by decide) ?_
    rw [mo_sg_0, hg.g0, show mk_hz (mk_sp M _) = mk_hz M from rfl]
    refine v_icmp_geN (tgt := 111) C dX8_dawn_83 (by decide) (by omega) (by omega) (fun c83 => ?_) (fun c83 => absurd c83 (by omega))
    refine v_drop 1 ?_
    exact hk _ _ hg H hO
  | succ e ih =>
    intro c h g hc hg H hO
    have hcc : c < mk_hz (mk_sp M c) := show c < mk_hz M by omega
    refine v_iload_n C dX8_dawn_76 rfl ?_
    refine v_aload_n C dX8_dawn_77 rfl ?_
    refine v_get C 0 dX8_dawn_78 wd6_237 H.o rfl (by decide) ⟨rfl, rfl, rfl⟩ rfl ?_
    refine v_iconst (v := nI 0) C dX8_dawn_81 (by decide) ?_
    refine v_ialdN C dX8_dawn_82 H.a0 (by omega) (by decide) ?_
    rw [mo_sg_0, hg.g0, show mk_hz (mk_sp M _) = mk_hz M from rfl]
    refine v_icmp_geN (tgt := 111) C dX8_dawn_83 (by decide) (by omega) (by omega) (fun c83 => absurd c83 (by omega)) (fun c83 => ?_)
    refine v_aload_n C dX8_dawn_86 rfl ?_
    refine v_get C 0 dX8_dawn_87 wd6_237 H.o rfl (by decide) ⟨rfl, rfl, rfl⟩ rfl ?_
    refine v_bipush (v := nI 6) C dX8_dawn_90 (by decide) ?_
    refine v_iconst (v := nI 3) C dX8_dawn_92 (by decide) ?_
    refine v_iload_n C dX8_dawn_93 rfl ?_
    refine v_imulN C dX8_dawn_94 ?_
    refine v_iaddN C dX8_dawn_95 ?_
    refine v_iconst (v := nI 0) C dX8_dawn_96 (by decide) ?_
    refine v_iaddN C dX8_dawn_97 ?_
    refine v_aload_n C dX8_dawn_98 rfl ?_
    refine v_iload_n C dX8_dawn_99 rfl ?_
    refine v_iconst (v := nI 1) C dX8_dawn_100 (by decide) ?_
    refine v_callVi C (c_X8_on hl H (i := c) (k := 1) (by omega) (by decide)) dX8_dawn_101 mX8_on rfl H.o rfl wd7_148 rfl rfl (Nat.le_of_ble_eq_true rfl) (hp_rmle hRm (by decide) (by decide)) (Nat.le_of_ble_eq_true rfl) (Nat.le_of_ble_eq_true rfl) ?_
    rw [mo_sg_0, hg.on1 hcc]
    refine v_iastN C dX8_dawn_104 (by omega) H.a0 (by omega) (by decide) (fun h104 e104 g104 => ?_)
    have Y104 := H.s0 e104 g104
    have W104 : ∀ a, (a < y ∨ y + 13 ≤ a) → h104 a = h0 a := fun a ha => (g104 a (by omega)).trans (hO a ha)
    have X104 := Y104.to mo_sg_sa
    have G104 := hg.u0 hcc (mk_ar (mk_sp M c) 1 c)
    refine v_iincN C dX8_dawn_105 (by decide) rfl ?_
    refine v_goto (tgt := 76) C dX8_dawn_108 (by decide) ?_
    exact ih (c + 1) _ _ (by omega) (by rw [← mk_sp_st]; exact G104) X104 W104
set_option maxHeartbeats 8000000 in
theorem loop4_X8_dawn {G : hp_G} {K : hp_C} {n0 : Nat} {h0 : Nat → Option va_E} {y : Nat} {S : mo_T} {Z : mk_T} (hbase : G.2.1 ≤ y) (C : hp_Cx G K MX8_dawn) (hRm : hp_Rm K = hp_rm 5 0 0) (hl : K.2.1.stackTraces = false) (hk : ∀ h g, Gr g Z → Mo G h y (mo_sg S g) → (∀ a, (a < y ∨ y + 13 ≤ a) → h a = h0 a) → V G K MX8_dawn 0 0 (n0, h) 160 [some (.ref y), none, none, none] []) : ∀ (c : Nat) (M : mk_T) (g : Nat → Int32) (v : Int32) (h : Nat → Option va_E), v = nI c - nI 1 → c ≤ mk_ct M → mk_ed M c = Z → Gr g M → Mo G h y (mo_sg S g) → (∀ a, (a < y ∨ y + 13 ≤ a) → h a = h0 a) → V G K MX8_dawn 0 0 (n0, h) 130 [some (.ref y), some (.int v), none, none] [] := by
  intro c
  induction c with
  | zero =>
    intro M g v h ev hc hZ hg H hO
    subst ev
    have hZ : M = Z := hZ
    subst hZ
    refine v_iload_n C dX8_dawn_130 rfl ?_
    refine v_if_lt (tgt := 160) C dX8_dawn_131 (by decide) (fun c131 => ?_) (fun c131 => absurd hp_dec0 c131)
    refine v_drop 1 ?_
    exact hk _ _ hg H hO
  | succ j ih =>
    intro M g v h ev hc hZ hg H hO
    have ev : v = nI j := ev.trans (hp_decs j)
    subst ev
    have hct := hg.ct
    have hj : j < mk_ct M := by omega
    unfold mk_ed at hZ
    refine v_iload_n C dX8_dawn_130 rfl ?_
    refine v_if_lt (tgt := 160) C dX8_dawn_131 (by decide) (fun c131 => absurd c131 (nI_pos (by omega))) (fun c131 => ?_)
    refine v_aload_n C dX8_dawn_134 rfl ?_
    refine v_iload_n C dX8_dawn_135 rfl ?_
    refine v_iconst (v := nI 4) C dX8_dawn_136 (by decide) ?_
    refine v_callVi C (c_X8_by hl H (i := j) (k := 4) (by omega) (by decide)) dX8_dawn_137 mX8_by rfl H.o rfl wd7_141 rfl rfl (Nat.le_of_ble_eq_true rfl) (hp_rmle hRm (by decide) (by decide)) (Nat.le_of_ble_eq_true rfl) (Nat.le_of_ble_eq_true rfl) ?_
    rw [mo_sg_0, hg.by4 hj]
    refine v_aload_n C dX8_dawn_140 rfl ?_
    refine v_get C 0 dX8_dawn_141 wd6_237 H.o rfl (by decide) ⟨rfl, rfl, rfl⟩ rfl ?_
    refine v_iconst (v := nI 3) C dX8_dawn_144 (by decide) ?_
    refine v_ialdN C dX8_dawn_145 H.a0 (by omega) (by decide) ?_
    rw [mo_sg_0, hg.g3]
    refine v_icmp_ne (tgt := 154) C dX8_dawn_146 (by decide) (fun c146 => ?_) (fun c146 => ?_)
    · rw [if_neg c146] at hZ
      have hZ2 := hZ
      refine v_iinc C dX8_dawn_154 (by decide) rfl ?_
      refine v_goto (tgt := 130) C dX8_dawn_157 (by decide) ?_
      exact ih _ _ _ _ (hp_dec _) (by omega) hZ2 hg H hO
    · rw [if_pos c146] at hZ
      have hZ2 := hZ
      refine v_aload_n C dX8_dawn_149 rfl ?_
      refine v_iload_n C dX8_dawn_150 rfl ?_
      refine v_callVv C (c_X8_ends hl H hg hj) dX8_dawn_151 mX8_ends rfl H.o rfl wd7_152 rfl rfl (Nat.le_of_ble_eq_true rfl) (hp_rmle hRm (by decide) (by decide)) (Nat.le_of_ble_eq_true rfl) (Nat.le_of_ble_eq_true rfl) (fun n151 h151 q151 => ?_)
      obtain ⟨k151, ⟨g151, G151, Y151⟩, W151⟩ := q151
      have z151 := Eq.symm k151
      have z151 : n0 = n151 := z151
      subst z151
      have W151 : ∀ a, (a < y ∨ y + 13 ≤ a) → h151 a = h0 a := fun a ha => (W151 a ha).trans (hO a ha)
      refine v_iinc C dX8_dawn_154 (by decide) rfl ?_
      refine v_goto (tgt := 130) C dX8_dawn_157 (by decide) ?_
      exact ih _ _ _ _ (hp_dec _) (show j ≤ mk_ct M - 1 by omega) hZ2 G151 Y151 W151
set_option maxHeartbeats 8000000 in
theorem loop5_X8_dawn {G : hp_G} {K : hp_C} {n0 : Nat} {h0 : Nat → Option va_E} {y : Nat} {S : mo_T} {M : mk_T} (hbase : G.2.1 ≤ y) (C : hp_Cx G K MX8_dawn) (hRm : hp_Rm K = hp_rm 5 0 0) (hl : K.2.1.stackTraces = false)  (htr : mk_tr M ≤ 6) (hk : ∀ h g, Gr g (mo_cw M (mk_tr M)) → Mo G h y (mo_sg S g) → (∀ a, (a < y ∨ y + 13 ≤ a) → h a = h0 a) → V G K MX8_dawn 0 0 (n0, h) 235 [some (.ref y), some (.int (nI (mo_cb M (mk_tr M)))), none, none] []) : ∀ (e c : Nat) (h : Nat → Option va_E) (g : Nat → Int32), c + e = mk_tr M → Gr g (mo_cw M c) → Mo G h y (mo_sg S g) → (∀ a, (a < y ∨ y + 13 ≤ a) → h a = h0 a) → V G K MX8_dawn 0 0 (n0, h) 164 [some (.ref y), some (.int (nI (mo_cb M c))), some (.int (nI c)), none] [] := by
  intro e
  induction e with
  | zero =>
    intro c h g hc hg H hO
    have e : c = mk_tr M := by omega
    subst e
    refine v_iload_n C dX8_dawn_164 rfl ?_
    refine v_aload_n C dX8_dawn_165 rfl ?_
    refine v_get C 0 dX8_dawn_166 wd6_237 H.o rfl (by decide) ⟨rfl, rfl, rfl⟩ rfl ?_
    refine v_iconst (v := nI 1) C dX8_dawn_169 (by decide) ?_
    refine v_ialdN C dX8_dawn_170 H.a0 (by omega) (by decide) ?_
    rw [mo_sg_0, hg.g1, show mk_tr (mo_cw M _) = mk_tr M from rfl]
    refine v_icmp_geN (tgt := 235) C dX8_dawn_171 (by decide) (by omega) (by omega) (fun c171 => ?_) (fun c171 => absurd c171 (by omega))
    refine v_drop 2 ?_
    exact hk _ _ hg H hO
  | succ e ih =>
    intro c h g hc hg H hO
    have hcc : c < mk_tr (mo_cw M c) := show c < mk_tr M by omega
    have hin : mo_cb M (c + 1) = if ¬ mk_ar M 4 c = nI 2 ∧ mk_ar M 3 c - nI 0 < mo_mg M (nI c) (mk_hz M) ∧ mk_ar M 4 c = nI 1 then mo_cb M c ||| 2 ^ c else mo_cb M c := rfl
    have hcs : mo_cs M c = if mk_ar M 4 c = nI 2 then mk_ar M 4 c else if mk_ar M 3 c - nI 0 < mo_mg M (nI c) (mk_hz M) then nI 1 else nI 0 := rfl
    have o2 := hg.of2 hcc
    have o1 := hg.of1 hcc
    rw [mo_cw_4] at o1 o2
    refine v_iload_n C dX8_dawn_164 rfl ?_
    refine v_aload_n C dX8_dawn_165 rfl ?_
    refine v_get C 0 dX8_dawn_166 wd6_237 H.o rfl (by decide) ⟨rfl, rfl, rfl⟩ rfl ?_
    refine v_iconst (v := nI 1) C dX8_dawn_169 (by decide) ?_
    refine v_ialdN C dX8_dawn_170 H.a0 (by omega) (by decide) ?_
    rw [mo_sg_0, hg.g1, show mk_tr (mo_cw M _) = mk_tr M from rfl]
    refine v_icmp_geN (tgt := 235) C dX8_dawn_171 (by decide) (by omega) (by omega) (fun c171 => absurd c171 (by omega)) (fun c171 => ?_)
    refine v_aload_n C dX8_dawn_174 rfl ?_
    refine v_iload_n C dX8_dawn_175 rfl ?_
    refine v_iconst (v := nI 2) C dX8_dawn_176 (by decide) ?_
    refine v_callVi C (c_X8_of hl H (i := c) (k := 2) (by omega) (by decide)) dX8_dawn_177 mX8_of rfl H.o rfl wd7_117 rfl rfl (Nat.le_of_ble_eq_true rfl) (hp_rmle hRm (by decide) (by decide)) (Nat.le_of_ble_eq_true rfl) (Nat.le_of_ble_eq_true rfl) ?_
    rw [mo_sg_0, o2]
    refine v_iconst (v := nI 1) C dX8_dawn_180 (by decide) ?_
    refine v_icmp_ne (tgt := 187) C dX8_dawn_181 (by decide) (fun c181 => ?_) (fun c181 => ?_)
    · have hd : ¬ mk_ar M 4 c = nI 2 := fun z => c181 (hp_b_t z)
      refine v_aload_n C dX8_dawn_187 rfl ?_
      refine v_iload_n C dX8_dawn_188 rfl ?_
      refine v_iconst (v := nI 0) C dX8_dawn_189 (by decide) ?_
      have cS := c_X8_isShort (n0 := n0) hl H (M := mo_cw M c) hg (t := c) hcc (nI 0)
      rw [mo_cw_mg, show mk_ar (mo_cw M c) 3 c = mk_ar M 3 c from rfl] at cS
      refine v_callVi C cS dX8_dawn_190 mX8_isShort rfl H.o rfl wd7_129 rfl rfl (Nat.le_of_ble_eq_true rfl) (hp_rmle hRm (by decide) (by decide)) (Nat.le_of_ble_eq_true rfl) (Nat.le_of_ble_eq_true rfl) ?_
      refine v_istore_n C dX8_dawn_193 (by decide) ?_
      refine v_iload_n C dX8_dawn_194 rfl ?_
      refine v_if_eqB (tgt := 214) C dX8_dawn_195 (by decide) (fun c195 => ?_) (fun c195 => ?_)
      · refine v_aload_n C dX8_dawn_214 rfl ?_
        refine v_iload_n C dX8_dawn_215 rfl ?_
        refine v_iconst (v := nI 1) C dX8_dawn_216 (by decide) ?_
        refine v_iload_n C dX8_dawn_217 rfl ?_
        refine v_if_eqB (tgt := 225) C dX8_dawn_218 (by decide) (fun c218 => ?_) (fun c218 => absurd c218 c195)
        refine v_iconst (v := nI 0) C dX8_dawn_225 (by decide) ?_
        refine v_callVv C (c_X8_lays hl H (i := c) (k := 1) (by omega) (by decide) (nI 0)) dX8_dawn_226 mX8_lays rfl H.o rfl wd7_97 rfl rfl (Nat.le_of_ble_eq_true rfl) (hp_rmle hRm (by decide) (by decide)) (Nat.le_of_ble_eq_true rfl) (Nat.le_of_ble_eq_true rfl) (fun n226 h226 q226 => ?_)
        obtain ⟨k226, Y226, W226⟩ := q226
        have z226 := Eq.symm k226
        have z226 : n0 = n226 := z226
        subst z226
        have W226 : ∀ a, (a < y ∨ y + 13 ≤ a) → h226 a = h0 a := fun a ha => (W226 a ha).trans (hO a ha)
        have X226 := Y226.to mo_sg_sa
        have G226 : Gr (upd g (18 + 3 * c + 1) (nI 0)) (mk_st (mo_cw M c) 4 c (nI 0)) := hg.u4 hcc (Or.inl rfl) (by rw [pk_us]; rfl) (by rw [pk_un (by omega), o2, hp_b_f hd]; rfl) (fun i i1 i2 => pk_un i1)
        refine v_iincN C dX8_dawn_229 (by decide) rfl ?_
        refine v_goto (tgt := 164) C dX8_dawn_232 (by decide) ?_
        have en : mo_cb M (c + 1) = mo_cb M c := hin.trans (if_neg (fun z => c195 z.2.1))
        have hi := ih (c + 1) _ _ (by omega) (by rw [← mo_cw_s (show nI 0 = mo_cs M c from (hcs.trans ((if_neg hd).trans (if_neg c195))).symm)]; exact G226) X226 W226
        refine v_drop 3 ?_
        rw [en] at hi
        exact hi
      · refine v_aload_n C dX8_dawn_198 rfl ?_
        refine v_iload_n C dX8_dawn_199 rfl ?_
        refine v_iconst (v := nI 1) C dX8_dawn_200 (by decide) ?_
        refine v_callVi C (c_X8_of hl H (i := c) (k := 1) (by omega) (by decide)) dX8_dawn_201 mX8_of rfl H.o rfl wd7_117 rfl rfl (Nat.le_of_ble_eq_true rfl) (hp_rmle hRm (by decide) (by decide)) (Nat.le_of_ble_eq_true rfl) (Nat.le_of_ble_eq_true rfl) ?_
        rw [mo_sg_0, o1]
        refine v_iconst (v := nI 1) C dX8_dawn_204 (by decide) ?_
        refine v_icmp_ne (tgt := 214) C dX8_dawn_205 (by decide) (fun c205 => ?_) (fun c205 => ?_)
        · refine v_aload_n C dX8_dawn_214 rfl ?_
          refine v_iload_n C dX8_dawn_215 rfl ?_
          refine v_iconst (v := nI 1) C dX8_dawn_216 (by decide) ?_
          refine v_iload_n C dX8_dawn_217 rfl ?_
          refine v_if_eqB (tgt := 225) C dX8_dawn_218 (by decide) (fun c218 => absurd c218 (fun z => z c195)) (fun c218 => ?_)
          refine v_iconst (v := nI 1) C dX8_dawn_221 (by decide) ?_
          refine v_goto (tgt := 226) C dX8_dawn_222 (by decide) ?_
          refine v_callVv C (c_X8_lays hl H (i := c) (k := 1) (by omega) (by decide) (nI 1)) dX8_dawn_226 mX8_lays rfl H.o rfl wd7_97 rfl rfl (Nat.le_of_ble_eq_true rfl) (hp_rmle hRm (by decide) (by decide)) (Nat.le_of_ble_eq_true rfl) (Nat.le_of_ble_eq_true rfl) (fun n226 h226 q226 => ?_)
          obtain ⟨k226, Y226, W226⟩ := q226
          have z226 := Eq.symm k226
          have z226 : n0 = n226 := z226
          subst z226
          have W226 : ∀ a, (a < y ∨ y + 13 ≤ a) → h226 a = h0 a := fun a ha => (W226 a ha).trans (hO a ha)
          have X226 := Y226.to mo_sg_sa
          have G226 : Gr (upd g (18 + 3 * c + 1) (nI 1)) (mk_st (mo_cw M c) 4 c (nI 1)) := hg.u4 hcc (Or.inr (Or.inl rfl)) (by rw [pk_us]; rfl) (by rw [pk_un (by omega), o2, hp_b_f hd]; rfl) (fun i i1 i2 => pk_un i1)
          refine v_iincN C dX8_dawn_229 (by decide) rfl ?_
          refine v_goto (tgt := 164) C dX8_dawn_232 (by decide) ?_
          have en : mo_cb M (c + 1) = mo_cb M c := hin.trans (if_neg (fun z => c205 (hp_b_t z.2.2)))
          have hi := ih (c + 1) _ _ (by omega) (by rw [← mo_cw_s (show nI 1 = mo_cs M c from (hcs.trans ((if_neg hd).trans (if_pos c195))).symm)]; exact G226) X226 W226
          refine v_drop 3 ?_
          rw [en] at hi
          exact hi
        · refine v_iload_n C dX8_dawn_208 rfl ?_
          refine v_iconst (v := nI 1) C dX8_dawn_209 (by decide) ?_
          refine v_iload_n C dX8_dawn_210 rfl ?_
          refine v_ishl C dX8_dawn_211 ?_
          rw [hp_sh1 _ (by omega)]
          refine v_ior C dX8_dawn_212 ?_
          rw [hp_or]
          refine v_istore_n C dX8_dawn_213 (by decide) ?_
          refine v_aload_n C dX8_dawn_214 rfl ?_
          refine v_iload_n C dX8_dawn_215 rfl ?_
          refine v_iconst (v := nI 1) C dX8_dawn_216 (by decide) ?_
          refine v_iload_n C dX8_dawn_217 rfl ?_
          refine v_if_eqB (tgt := 225) C dX8_dawn_218 (by decide) (fun c218 => absurd c218 (fun z => z c195)) (fun c218 => ?_)
          refine v_iconst (v := nI 1) C dX8_dawn_221 (by decide) ?_
          refine v_goto (tgt := 226) C dX8_dawn_222 (by decide) ?_
          refine v_callVv C (c_X8_lays hl H (i := c) (k := 1) (by omega) (by decide) (nI 1)) dX8_dawn_226 mX8_lays rfl H.o rfl wd7_97 rfl rfl (Nat.le_of_ble_eq_true rfl) (hp_rmle hRm (by decide) (by decide)) (Nat.le_of_ble_eq_true rfl) (Nat.le_of_ble_eq_true rfl) (fun n226 h226 q226 => ?_)
          obtain ⟨k226, Y226, W226⟩ := q226
          have z226 := Eq.symm k226
          have z226 : n0 = n226 := z226
          subst z226
          have W226 : ∀ a, (a < y ∨ y + 13 ≤ a) → h226 a = h0 a := fun a ha => (W226 a ha).trans (hO a ha)
          have X226 := Y226.to mo_sg_sa
          have G226 : Gr (upd g (18 + 3 * c + 1) (nI 1)) (mk_st (mo_cw M c) 4 c (nI 1)) := hg.u4 hcc (Or.inr (Or.inl rfl)) (by rw [pk_us]; rfl) (by rw [pk_un (by omega), o2, hp_b_f hd]; rfl) (fun i i1 i2 => pk_un i1)
          refine v_iincN C dX8_dawn_229 (by decide) rfl ?_
          refine v_goto (tgt := 164) C dX8_dawn_232 (by decide) ?_
          have en : mo_cb M (c + 1) = mo_cb M c ||| 2 ^ c := hin.trans (if_pos ⟨hd, c195, hp_b_1.mp c205⟩)
          have hi := ih (c + 1) _ _ (by omega) (by rw [← mo_cw_s (show nI 1 = mo_cs M c from (hcs.trans ((if_neg hd).trans (if_pos c195))).symm)]; exact G226) X226 W226
          refine v_drop 3 ?_
          rw [en] at hi
          exact hi
    · have hd : mk_ar M 4 c = nI 2 := hp_b_1.mp c181
      refine v_goto (tgt := 229) C dX8_dawn_184 (by decide) ?_
      refine v_iincN C dX8_dawn_229 (by decide) rfl ?_
      refine v_goto (tgt := 164) C dX8_dawn_232 (by decide) ?_
      have en : mo_cb M (c + 1) = mo_cb M c := hin.trans (if_neg (fun z => z.1 hd))
      have hi := ih (c + 1) _ _ (by omega) (by rw [← mo_cw_i (show mk_ar M 4 c = mo_cs M c from (hcs.trans (if_pos hd)).symm)]; exact hg) H hO
      refine v_drop 3 ?_
      rw [en] at hi
      exact hi
set_option maxHeartbeats 8000000 in
theorem loop6_X8_dawn {G : hp_G} {K : hp_C} {P : hp_P} {n0 : Nat} {h0 : Nat → Option va_E} {y : Nat} {S : mo_T} {M : mk_T} (hok : dw_ok M) (htr : mk_tr M ≤ 6) (hf64 : pn_s M < 64) (C : hp_Cx G K MX8_dawn) (E : hp_End G K P) (hRm : hp_Rm K = hp_rm 5 0 0) (hl : K.2.1.stackTraces = false) (hp : ∀ h S2, Mo G h y S2 → Gr (S2.1 0) (pn_l M (mk_tr M)) → mo_wk S S2 → S2.2 3 = S.2 3 → (∀ a, (a < y ∨ y + 13 ≤ a) → h a = h0 a) → P (.inl (some (.int (nI (dw_n (pn_s M) (mk_tr M)))))) (n0, h)) : ∀ (e c : Nat) (h : Nat → Option va_E) (S1 : mo_T), c + e = mk_tr M → Gr (S1.1 0) (pn_l M c) → mo_wk S S1 → S1.2 3 = S.2 3 → Mo G h y S1 → (∀ a, (a < y ∨ y + 13 ≤ a) → h a = h0 a) → V G K MX8_dawn 0 0 (n0, h) 239 [some (.ref y), some (.int (nI (pn_s M))), some (.int (nI (dw_n (pn_s M) c))), some (.int (nI c))] [] := by
  intro e
  induction e with
  | zero =>
    intro c h S1 hc hg hw h3 H hO
    have e : c = mk_tr M := by omega
    subst e
    refine v_iload_n C dX8_dawn_239 rfl ?_
    refine v_aload_n C dX8_dawn_240 rfl ?_
    refine v_get C 0 dX8_dawn_241 wd6_237 H.o rfl (by decide) ⟨rfl, rfl, rfl⟩ rfl ?_
    refine v_iconst (v := nI 1) C dX8_dawn_244 (by decide) ?_
    refine v_ialdN C dX8_dawn_245 H.a0 (by omega) (by decide) ?_
    rw [hg.g1, (pn_l_hz M _).2]
    refine v_icmp_geN (tgt := 274) C dX8_dawn_246 (by decide) (by omega) (by omega) (fun c246 => ?_) (fun c246 => absurd c246 (by omega))
    refine v_iload_n C dX8_dawn_274 rfl ?_
    exact v_iret C E dX8_dawn_275 rfl (hp _ _ H hg hw h3 hO)
  | succ e ih =>
    intro c h S1 hc hg hw h3 H hO
    have hle := dw_n_le (pn_s M) c
    have hb := tb_i (pn_s M) hf64 c (by omega)
    refine v_iload_n C dX8_dawn_239 rfl ?_
    refine v_aload_n C dX8_dawn_240 rfl ?_
    refine v_get C 0 dX8_dawn_241 wd6_237 H.o rfl (by decide) ⟨rfl, rfl, rfl⟩ rfl ?_
    refine v_iconst (v := nI 1) C dX8_dawn_244 (by decide) ?_
    refine v_ialdN C dX8_dawn_245 H.a0 (by omega) (by decide) ?_
    rw [hg.g1, (pn_l_hz M _).2]
    refine v_icmp_geN (tgt := 274) C dX8_dawn_246 (by decide) (by omega) (by omega) (fun c246 => absurd c246 (by omega)) (fun c246 => ?_)
    refine v_iload_n C dX8_dawn_249 rfl ?_
    refine v_iload_n C dX8_dawn_250 rfl ?_
    refine v_ishr C dX8_dawn_251 ?_
    refine v_iconst (v := nI 1) C dX8_dawn_252 (by decide) ?_
    refine v_iand C dX8_dawn_253 ?_
    refine v_if_ne (tgt := 260) C dX8_dawn_254 (by decide) (fun c254 => ?_) (fun c254 => ?_)
    · have hbit : ¬ pn_s M / 2 ^ c % 2 = 0 := fun z => c254 (hb.mpr z)
      refine v_aload_n C dX8_dawn_260 rfl ?_
      refine v_iload_n C dX8_dawn_261 rfl ?_
      refine v_callVv C (c_X8_defaults hl H hg (hok.2.2.2.2.1 c (by omega)) (d := c) (show c < mk_tr (pn_l M c) by rw [(pn_l_hz M c).2]; omega)) dX8_dawn_262 mX8_defaults rfl H.o rfl wd7_168 rfl rfl (Nat.le_of_ble_eq_true rfl) (hp_rmle hRm (by decide) (by decide)) (Nat.le_of_ble_eq_true rfl) (Nat.le_of_ble_eq_true rfl) (fun n262 h262 q262 => ?_)
      obtain ⟨k262, ⟨S2, Y262, G262, w262, t262⟩, W262⟩ := q262
      have z262 := Eq.symm k262
      have z262 : n0 = n262 := z262
      subst z262
      have W262 : ∀ a, (a < y ∨ y + 13 ≤ a) → h262 a = h0 a := fun a ha => (W262 a ha).trans (hO a ha)
      refine v_iincN C dX8_dawn_265 (by decide) rfl ?_
      refine v_iincN C dX8_dawn_268 (by decide) rfl ?_
      refine v_goto (tgt := 239) C dX8_dawn_271 (by decide) ?_
      have en : dw_n (pn_s M) (c + 1) = dw_n (pn_s M) c + 1 := if_neg hbit
      have el : pn_l M (c + 1) = co_d (pn_l M c) c := if_neg hbit
      have hi := ih (c + 1) _ S2 (by omega) (by rw [el]; exact G262.q (hok.2.2.2.2.2 c (by omega) hbit)) (hw.tr w262) (t262.trans h3) Y262 W262
      rw [en] at hi
      exact hi
    · have hbit : pn_s M / 2 ^ c % 2 = 0 := hb.mp c254
      refine v_goto (tgt := 268) C dX8_dawn_257 (by decide) ?_
      refine v_iincN C dX8_dawn_268 (by decide) rfl ?_
      refine v_goto (tgt := 239) C dX8_dawn_271 (by decide) ?_
      have en : dw_n (pn_s M) (c + 1) = dw_n (pn_s M) c := if_pos hbit
      have el : pn_l M (c + 1) = pn_l M c := if_pos hbit
      have hi := ih (c + 1) _ S1 (by omega) (by rw [el]; exact hg) hw h3 H hO
      rw [en] at hi
      exact hi
set_option maxHeartbeats 8000000 in
/-- dawn -/
theorem c_X8_dawn {G : hp_G} {l : Launch} (hl : l.stackTraces = false) {n0 : Nat} {h0 : Nat → Option va_E} {y : Nat} {S : mo_T} (hS : Mo G h0 y S) {M : mk_T} (hg : Gr (S.1 0) M) {ch : Nat} (hch : S.2 1 = nI ch) (h8 : ch ≤ 8) (hok : dw_ok M) : Ct G l yX8_dawn cX8_dawn 4 (some .int) 5 0 0 [.ref y] (n0, h0) (hp_iq (fun r τ => r = nI (tk_bc (pn_s M)) ∧ τ.1 = n0 ∧ (∃ S2, Mo G τ.2 y S2 ∧ mo_af S (nI 0) ch M (pn_M M) S2) ∧ ∀ a, (a < y ∨ y + 13 ≤ a) → τ.2 a = h0 a)) := by
  have hbase := hS.base
  have hhz := hg.hz
  have htr := hg.tr
  have hct := hg.ct
  obtain ⟨hK, e0, e1, e2, -, -⟩ := id hok
  have hf2 : pn_s M < 2 ^ mk_tr M := by have := mk_cn_lt (pn_e M) (mk_tr (pn_e M)); rw [(pn_e_hz M).2] at this; unfold pn_s; rw [(pn_e_hz M).2]; exact this
  have hf64 : pn_s M < 64 := Nat.lt_of_lt_of_le hf2 (hp_p6 htr)
  have hkp : mo_wk (mo_kp (mo_si S 3 (nI 0)) 0 ch) (mo_kp S 0 ch) := by rw [mo_kp_s3]; exact mo_wk.rf _
  refine Ct.of rfl hl (by simp [Value.category]) (Nat.le_of_ble_eq_true rfl) (fun K C E hRm hKl => ?_)
  subst hKl
  refine v_aload_n C dX8_dawn_0 rfl ?_
  refine v_aload_n C dX8_dawn_1 rfl ?_
  refine v_get C 0 dX8_dawn_2 wd6_237 hS.o rfl (by decide) ⟨rfl, rfl, rfl⟩ rfl ?_
  refine v_callVv C (c_X8_keeps0 hl hS (ch := ch) hch h8) dX8_dawn_5 mX8_keeps rfl hS.o rfl wd7_86 rfl rfl (Nat.le_of_ble_eq_true rfl) (hp_rmle hRm (by decide) (by decide)) (Nat.le_of_ble_eq_true rfl) (Nat.le_of_ble_eq_true rfl) (fun n5 h5 q5 => ?_)
  obtain ⟨k5, Y5, W5⟩ := q5
  have z5 := Eq.symm k5
  have z5 : n0 = n5 := z5
  subst z5
  have G5 : Gr ((mo_kp S 0 ch).1 0) M := by rw [mo_kp_g]; exact hg
  refine v_iconst (v := nI 0) C dX8_dawn_8 (by decide) ?_
  refine v_istore_n C dX8_dawn_9 (by decide) ?_
  refine loop1_X8_dawn (S := (mo_kp S 0 ch)) (M := M) hbase C hRm hl G5 (fun h1 Y1 W1 => ?_) (mk_tr M) 0 _ (Nat.zero_add _) ((Y5.to (mo_sr_eq _ 8)).to (congrArg (mo_sr (mo_kp S 0 ch) 8) (mo_mv_0 M _).symm)) W5
  generalize hS8 : mo_sr (mo_kp S 0 ch) 8 (mo_mv M ((mo_kp S 0 ch).1 8) (mk_tr M)) = S8 at *
  have w8 : mo_wk (mo_kp S 0 ch) S8 := by rw [← hS8]; exact (mo_wk.rf _).sr (by decide)
  have t8 : S8.2 3 = nI 0 := by rw [← hS8]; exact mo_kp_3 _ _ _
  have g8 : Gr (S8.1 0) M := by rw [← hS8]; exact G5
  have m8 : ∀ i, i < mk_tr M → S8.1 8 i = mo_va M (nI i) (mk_hz M) := by rw [← hS8]; exact fun i hi => if_pos hi
  refine v_iconst (v := nI 0) C dX8_dawn_37 (by decide) ?_
  refine v_istore_n C dX8_dawn_38 (by decide) ?_
  refine loop2_X8_dawn (S := S8) (M := M) hbase C hRm hl htr m8 (fun h2 g2 G2 Y2 W2 => ?_) (mk_tr M) 0 _ _ (Nat.zero_add _) (by rw [show mo_sv M 0 = M from mo_wa_id M 3 _ (fun i => if_neg (Nat.not_lt_zero i))]; exact g8) (Y1.to (mo_sg_eq rfl)) W1
  refine v_iconst (v := nI 0) C dX8_dawn_74 (by decide) ?_
  refine v_istore_n C dX8_dawn_75 (by decide) ?_
  refine loop3_X8_dawn (S := S8) (M := mo_sv M (mk_tr M)) hbase C hRm hl hhz (fun h3 g3 G3 Y3 W3 => ?_) (mk_hz M) 0 _ g2 (Nat.zero_add _) (by rw [show mk_sp (mo_sv M (mk_tr M)) 0 = mo_sv M (mk_tr M) from mo_wa_id (mo_sv M (mk_tr M)) 0 _ (fun i => if_neg (Nat.not_lt_zero i))]; exact G2) Y2 W2
  refine v_aload_n C dX8_dawn_111 rfl ?_
  refine v_get C 0 dX8_dawn_112 wd6_237 Y3.o rfl (by decide) ⟨rfl, rfl, rfl⟩ rfl ?_
  refine v_iconst (v := nI 3) C dX8_dawn_115 (by decide) ?_
  refine v_dup2 C dX8_dawn_116 rfl rfl ?_
  refine v_ialdN C dX8_dawn_117 Y3.a0 (by omega) (by decide) ?_
  rw [mo_sg_0, G3.g3]
  refine v_iconst (v := nI 1) C dX8_dawn_118 (by decide) ?_
  refine v_iadd C dX8_dawn_119 ?_
  refine v_iastN C dX8_dawn_120 (by omega) Y3.a0 (by omega) (by decide) (fun h120 e120 g120 => ?_)
  have Y120 := Y3.s0 e120 g120
  have W120 : ∀ a, (a < y ∨ y + 13 ≤ a) → h120 a = h0 a := fun a ha => (g120 a (by omega)).trans (W3 a ha)
  have X120 := Y120.to mo_sg_sa
  have G120 := G3.udy (mk_dy M + nI 1)
  refine v_aload_n C dX8_dawn_121 rfl ?_
  refine v_get C 0 dX8_dawn_122 wd6_237 X120.o rfl (by decide) ⟨rfl, rfl, rfl⟩ rfl ?_
  refine v_iconst (v := nI 2) C dX8_dawn_125 (by decide) ?_
  refine v_ialdN C dX8_dawn_126 X120.a0 (by omega) (by decide) ?_
  rw [mo_sg_0, G120.g2]
  refine v_iconst (v := nI 1) C dX8_dawn_127 (by decide) ?_
  refine v_isub C dX8_dawn_128 ?_
  refine v_istore_n C dX8_dawn_129 (by decide) ?_
  refine loop4_X8_dawn (S := S8) (Z := dw_0 M) hbase C hRm hl (fun h4 g4 G4 Y4 W4 => ?_) (mk_ct M) (mk_pdy (dw_1 M) (mk_dy M + nI 1)) _ _ _ rfl (Nat.le_refl _) rfl G120 X120 W120
  obtain ⟨p1, p2, p3⟩ := dw_0_p M
  refine v_iconst (v := nI 0) C dX8_dawn_160 (by decide) ?_
  refine v_istore_n C dX8_dawn_161 (by decide) ?_
  refine v_iconst (v := nI 0) C dX8_dawn_162 (by decide) ?_
  refine v_istore_n C dX8_dawn_163 (by decide) ?_
  refine loop5_X8_dawn (S := S8) (M := dw_0 M) hbase C hRm hl (by omega) (fun h5 g5 G5 Y5 W5 => ?_) (mk_tr (dw_0 M)) 0 _ g4 (Nat.zero_add _) (by rw [show mo_cw (dw_0 M) 0 = dw_0 M from mo_wa_id (dw_0 M) 4 _ (fun i => if_neg (Nat.not_lt_zero i))]; exact G4) Y4 W4
  rw [p2] at G5
  rw [p2]
  refine v_iconst (v := nI 0) C dX8_dawn_235 (by decide) ?_
  refine v_istore_n C dX8_dawn_236 (by decide) ?_
  refine v_iconst (v := nI 0) C dX8_dawn_237 (by decide) ?_
  refine v_istore_n C dX8_dawn_238 (by decide) ?_
  rw [e0] at G5
  rw [e0, e2] 
  rw [e1] at G5
  exact loop6_X8_dawn (S := S8) (M := M) hok htr hf64 C E hRm hl (fun h6 S6 Y6 G6 w6 t6 W6 => ⟨_, rfl, congrArg nI (dw_n_bc _ (by omega) _ hf64 hf2), rfl, ⟨S6, Y6, t6.trans t8, Or.inl ⟨rfl, G6, S.1 0, hg, by rw [mo_sg_self]; exact hkp.tr (w8.tr w6)⟩⟩, W6⟩) (mk_tr M) 0 _ (mo_sg S8 g5) (Nat.zero_add _) G5 (mo_wk.rf S8).sg rfl Y5 W5

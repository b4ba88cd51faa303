/-! ===== THE MARKET: what its cells hold ===== -/
/-- counts (horizons, traders, contracts); the rows by their number (price, quote, range, money, standing, buyer, seller, horizon, quantity, expiry); days, fund, lost; money in, money out -/
abbrev mk_T : Type := (Nat × Nat × Nat) × (Nat → Nat → Int32) × (Int32 × Int32 × Int32) × (Int64 × Int64)
abbrev mk_hz (M : mk_T) : Nat := M.1.1
abbrev mk_tr (M : mk_T) : Nat := M.1.2.1
abbrev mk_ct (M : mk_T) : Nat := M.1.2.2
abbrev mk_ar (M : mk_T) : Nat → Nat → Int32 := M.2.1
def mk_len (k : Nat) : Nat := if k < 3 then 4 else if k < 5 then 6 else 20
def mk_fs (o : Nat) (M : mk_T) : List Value := [.int (nI (mk_hz M)), .ref (o + 1), .ref (o + 2), .ref (o + 3), .int (nI (mk_tr M)), .ref (o + 4), .ref (o + 5), .int (nI (mk_ct M)), .ref (o + 6), .ref (o + 7), .ref (o + 8), .ref (o + 9), .ref (o + 10), .int M.2.2.1.1, .int M.2.2.1.2.1, .int M.2.2.1.2.2, .long M.2.2.2.1, .long M.2.2.2.2]
def Mk (G : hp_G) (h : Nat → Option va_E) (o : Nat) (M : mk_T) : Prop := h o = some (.inr (6, mk_fs o M)) ∧ (∀ k, k < 10 → h (o + (k + 1)) = some (.inl (G.2.2.1 2, mk_len k, .inl (mk_ar M k)))) ∧ mk_hz M ≤ 4 ∧ mk_tr M ≤ 6 ∧ mk_ct M ≤ 20 ∧ G.2.1 ≤ o
theorem Mk.o {G : hp_G} {h : Nat → Option va_E} {o : Nat} {M : mk_T} (H : Mk G h o M) : h o = some (.inr (6, [.int (nI (mk_hz M)), .ref (o + 1), .ref (o + 2), .ref (o + 3), .int (nI (mk_tr M)), .ref (o + 4), .ref (o + 5), .int (nI (mk_ct M)), .ref (o + 6), .ref (o + 7), .ref (o + 8), .ref (o + 9), .ref (o + 10), .int M.2.2.1.1, .int M.2.2.1.2.1, .int M.2.2.1.2.2, .long M.2.2.2.1, .long M.2.2.2.2])) := H.1
theorem Mk.a0 {G : hp_G} {h : Nat → Option va_E} {o : Nat} {M : mk_T} (H : Mk G h o M) : h (o + 1) = some (.inl (G.2.2.1 2, 4, .inl (mk_ar M 0))) := H.2.1 0 (by decide)
theorem Mk.a1 {G : hp_G} {h : Nat → Option va_E} {o : Nat} {M : mk_T} (H : Mk G h o M) : h (o + 2) = some (.inl (G.2.2.1 2, 4, .inl (mk_ar M 1))) := H.2.1 1 (by decide)
theorem Mk.a2 {G : hp_G} {h : Nat → Option va_E} {o : Nat} {M : mk_T} (H : Mk G h o M) : h (o + 3) = some (.inl (G.2.2.1 2, 4, .inl (mk_ar M 2))) := H.2.1 2 (by decide)
theorem Mk.a3 {G : hp_G} {h : Nat → Option va_E} {o : Nat} {M : mk_T} (H : Mk G h o M) : h (o + 4) = some (.inl (G.2.2.1 2, 6, .inl (mk_ar M 3))) := H.2.1 3 (by decide)
theorem Mk.a4 {G : hp_G} {h : Nat → Option va_E} {o : Nat} {M : mk_T} (H : Mk G h o M) : h (o + 5) = some (.inl (G.2.2.1 2, 6, .inl (mk_ar M 4))) := H.2.1 4 (by decide)
theorem Mk.a5 {G : hp_G} {h : Nat → Option va_E} {o : Nat} {M : mk_T} (H : Mk G h o M) : h (o + 6) = some (.inl (G.2.2.1 2, 20, .inl (mk_ar M 5))) := H.2.1 5 (by decide)
theorem Mk.a6 {G : hp_G} {h : Nat → Option va_E} {o : Nat} {M : mk_T} (H : Mk G h o M) : h (o + 7) = some (.inl (G.2.2.1 2, 20, .inl (mk_ar M 6))) := H.2.1 6 (by decide)
theorem Mk.a7 {G : hp_G} {h : Nat → Option va_E} {o : Nat} {M : mk_T} (H : Mk G h o M) : h (o + 8) = some (.inl (G.2.2.1 2, 20, .inl (mk_ar M 7))) := H.2.1 7 (by decide)
theorem Mk.a8 {G : hp_G} {h : Nat → Option va_E} {o : Nat} {M : mk_T} (H : Mk G h o M) : h (o + 9) = some (.inl (G.2.2.1 2, 20, .inl (mk_ar M 8))) := H.2.1 8 (by decide)
theorem Mk.a9 {G : hp_G} {h : Nat → Option va_E} {o : Nat} {M : mk_T} (H : Mk G h o M) : h (o + 10) = some (.inl (G.2.2.1 2, 20, .inl (mk_ar M 9))) := H.2.1 9 (by decide)
theorem Mk.hz {G : hp_G} {h : Nat → Option va_E} {o : Nat} {M : mk_T} (H : Mk G h o M) : mk_hz M ≤ 4 := H.2.2.1
theorem Mk.tr {G : hp_G} {h : Nat → Option va_E} {o : Nat} {M : mk_T} (H : Mk G h o M) : mk_tr M ≤ 6 := H.2.2.2.1
theorem Mk.ct {G : hp_G} {h : Nat → Option va_E} {o : Nat} {M : mk_T} (H : Mk G h o M) : mk_ct M ≤ 20 := H.2.2.2.2.1
theorem Mk.base {G : hp_G} {h : Nat → Option va_E} {o : Nat} {M : mk_T} (H : Mk G h o M) : G.2.1 ≤ o := H.2.2.2.2.2
theorem Mk.same {G : hp_G} {h h' : Nat → Option va_E} {o : Nat} {M : mk_T} (H : Mk G h o M) (hs : ∀ a, o ≤ a → a < o + 11 → h' a = h a) : Mk G h' o M := by
  refine ⟨(hs o (by omega) (by omega)).trans H.1, fun k hk => (hs _ (by omega) (by omega)).trans (H.2.1 k hk), H.2.2⟩
/-- one place of one row -/
abbrev mk_st (M : mk_T) (k i : Nat) (x : Int32) : mk_T := (M.1, fun j => if j = k then upd (M.2.1 k) i x else M.2.1 j, M.2.2)
theorem Mk.st {G : hp_G} {h h' : Nat → Option va_E} {o : Nat} {M : mk_T} (H : Mk G h o M) {k i z : Nat} {x : Int32} (hk : k < 10) (hz : z = mk_len k) (h1 : h' (o + (k + 1)) = some (.inl (G.2.2.1 2, z, .inl (upd (mk_ar M k) i x)))) (h2 : ∀ b, b ≠ o + (k + 1) → h' b = h b) : Mk G h' o (mk_st M k i x) := by
  refine ⟨(h2 o (by omega)).trans H.1, fun j hj => ?_, H.2.2⟩
  by_cases e : j = k
  · subst e
    have e : (mk_ar (mk_st M j i x)) j = upd (mk_ar M j) i x := if_pos rfl
    rw [h1, hz, e]
  · have e2 : (mk_ar (mk_st M k i x)) j = mk_ar M j := if_neg e
    rw [h2 _ (by omega), H.2.1 j hj, e2]
/-- a position, but for the contracts of another; the first c contracts -/
def mk_pw (M : mk_T) (t on ot : Int32) (c : Nat) : Int32 := match c with
  | 0 => 0
  | c + 1 => if mk_ar M 7 c = on ∧ ¬ (mk_ar M 5 c = ot ∨ mk_ar M 6 c = ot) then (if mk_ar M 5 c = t then mk_pw M t on ot c + mk_ar M 8 c else if mk_ar M 6 c = t then mk_pw M t on ot c - mk_ar M 8 c else mk_pw M t on ot c) else mk_pw M t on ot c
def hp_b (p : Prop) [Decidable p] : Int32 := if p then 1 else 0
theorem hp_b_t {p : Prop} [Decidable p] (h : p) : hp_b p = 1 := if_pos h
theorem hp_b_f {p : Prop} [Decidable p] (h : ¬ p) : hp_b p = 0 := if_neg h
theorem v_if_eqB {G : hp_G} {K : hp_C} {M : hp_M} {bc bs : Nat} {σ : hp_T} {pc : Nat} {lo : List (Option Value)} {st : List Value} (C : hp_Cx G K M) {p : Prop} [Decidable p] {off : Int} {tgt : Nat} (hd : decode M.1 pc = .ok (.ifCond .eq off, 3)) (ht : (pc : Int) + off = (tgt : Int)) (kt : ¬ p → V G K M bc bs σ tgt lo st) (kf : p → V G K M bc bs σ (pc + 3) lo st) : V G K M bc bs σ pc lo (.int (hp_b p) :: st) := by
  refine v_if_eq C hd ht (fun q => kt (fun z => ?_)) (fun q => kf ?_)
  · rw [hp_b_t z] at q
    exact absurd q (by decide)
  · by_cases z : p
    · exact z
    · exact absurd (hp_b_f z) q
theorem v_if_neB {G : hp_G} {K : hp_C} {M : hp_M} {bc bs : Nat} {σ : hp_T} {pc : Nat} {lo : List (Option Value)} {st : List Value} (C : hp_Cx G K M) {p : Prop} [Decidable p] {off : Int} {tgt : Nat} (hd : decode M.1 pc = .ok (.ifCond .ne off, 3)) (ht : (pc : Int) + off = (tgt : Int)) (kt : p → V G K M bc bs σ tgt lo st) (kf : ¬ p → V G K M bc bs σ (pc + 3) lo st) : V G K M bc bs σ pc lo (.int (hp_b p) :: st) := by
  refine v_if_ne C hd ht (fun q => kt ?_) (fun q => kf (fun z => ?_))
  · by_cases z : p
    · exact z
    · exact absurd (hp_b_f z) q
  · rw [hp_b_t z] at q
    exact absurd q (by decide)
set_option maxHeartbeats 4000000 in
/-- whether a contract is of a trader -/
theorem c_X4_concerns {G : hp_G} {l : Launch} (hl : l.stackTraces = false) {n : Nat} {h : Nat → Option va_E} {o : Nat} {M : mk_T} (hM : Mk G h o M) {c : Nat} (hc : c < 20) (t : Int32) : Ct G l yX4_concerns cX4_concerns 3 (some .boolean) 0 0 0 [.ref o, .int (nI c), .int t] (n, h) (hp_ri (hp_b (mk_ar M 5 c = t ∨ mk_ar M 6 c = t)) (n, h)) := by
  refine Ct.of rfl hl (by simp [Value.category]) (Nat.le_of_ble_eq_true rfl) (fun K C E hRm hKl => ?_)
  subst hKl
  refine v_aload_n C dX4_concerns_0 rfl ?_
  refine v_get C 8 dX4_concerns_1 wd1_67 hM.o rfl (by decide) ⟨rfl, rfl, rfl⟩ rfl ?_
  refine v_iload_n C dX4_concerns_4 rfl ?_
  refine v_ialdN C dX4_concerns_5 hM.a5 (by omega) (by decide) ?_
  refine v_iload_n C dX4_concerns_6 rfl ?_
  refine v_icmp_eq (tgt := 20) C dX4_concerns_7 (by decide) (fun c7 => ?_) (fun c7 => ?_)
  · refine v_iconst (v := nI 1) C dX4_concerns_20 (by decide) ?_
    refine v_goto (tgt := 25) C dX4_concerns_21 (by decide) ?_
    exact v_zret C E dX4_concerns_25 rfl rfl ⟨by simp [*, hp_b, nI], rfl⟩
  · refine v_aload_n C dX4_concerns_10 rfl ?_
    refine v_get C 9 dX4_concerns_11 wd1_69 hM.o rfl (by decide) ⟨rfl, rfl, rfl⟩ rfl ?_
    refine v_iload_n C dX4_concerns_14 rfl ?_
    refine v_ialdN C dX4_concerns_15 hM.a6 (by omega) (by decide) ?_
    refine v_iload_n C dX4_concerns_16 rfl ?_
    refine v_icmp_ne (tgt := 24) C dX4_concerns_17 (by decide) (fun c17 => ?_) (fun c17 => ?_)
    · refine v_iconst (v := nI 0) C dX4_concerns_24 (by decide) ?_
      exact v_zret C E dX4_concerns_25 rfl rfl ⟨by simp [*, hp_b, nI], rfl⟩
    · refine v_iconst (v := nI 1) C dX4_concerns_20 (by decide) ?_
      refine v_goto (tgt := 25) C dX4_concerns_21 (by decide) ?_
      exact v_zret C E dX4_concerns_25 rfl rfl ⟨by simp [*, hp_b, nI], rfl⟩
set_option maxHeartbeats 4000000 in
theorem loop_X4_positionWithout {G : hp_G} {K : hp_C} {P : hp_P} {n : Nat} {h : Nat → Option va_E} {o : Nat} {M : mk_T} (C : hp_Cx G K MX4_positionWithout) (E : hp_End G K P) (hRm : hp_Rm K = hp_rm 1 0 0) (hl : K.2.1.stackTraces = false) (hM : Mk G h o M) {t on ot : Int32} (hp : P (.inl (some (.int (mk_pw M t on ot (mk_ct M))))) (n, h)) : ∀ (f c : Nat) (x : Int32), c ≤ mk_ct M → mk_ct M ≤ c + f → x = mk_pw M t on ot c → V G K MX4_positionWithout 0 0 (n, h) 6 [some (.ref o), some (.int t), some (.int on), some (.int ot), some (.int x), some (.int (nI c))] [] := by
  have hct := hM.ct
  have htr := hM.tr
  have hhz := hM.hz
  intro f
  induction f with
  | zero =>
    intro c x h1 h2 ex
    have e : c = mk_ct M := by omega
    subst e
    subst ex
    refine v_iload C dX4_positionWithout_6 rfl ?_
    refine v_aload_n C dX4_positionWithout_8 rfl ?_
    refine v_get (v := .int (nI (mk_ct M))) C 7 dX4_positionWithout_9 wd1_65 hM.o rfl (by decide) ⟨rfl, rfl, rfl⟩ rfl ?_
    refine v_icmp_geN (tgt := 106) C dX4_positionWithout_12 (by decide) (by omega) (by omega) (fun c12 => ?_) (fun c12 => absurd c12 (by omega))
    refine v_iload C dX4_positionWithout_106 rfl ?_
    exact v_iret C E dX4_positionWithout_108 rfl hp
  | succ f ih =>
    intro c x h1 h2 ex
    refine v_iload C dX4_positionWithout_6 rfl ?_
    refine v_aload_n C dX4_positionWithout_8 rfl ?_
    refine v_get (v := .int (nI (mk_ct M))) C 7 dX4_positionWithout_9 wd1_65 hM.o rfl (by decide) ⟨rfl, rfl, rfl⟩ rfl ?_
    refine v_icmp_geN (tgt := 106) C dX4_positionWithout_12 (by decide) (by omega) (by omega) (fun c12 => ?_) (fun c12 => ?_)
    · have e : c = mk_ct M := by omega
      subst e
      subst ex
      refine v_iload C dX4_positionWithout_106 rfl ?_
      exact v_iret C E dX4_positionWithout_108 rfl hp
    · refine v_aload_n C dX4_positionWithout_15 rfl ?_
      refine v_get C 10 dX4_positionWithout_16 wd1_71 hM.o rfl (by decide) ⟨rfl, rfl, rfl⟩ rfl ?_
      refine v_iload C dX4_positionWithout_19 rfl ?_
      refine v_ialdN C dX4_positionWithout_21 hM.a7 (by omega) (by decide) ?_
      refine v_iload_n C dX4_positionWithout_22 rfl ?_
      refine v_icmp_ne (tgt := 100) C dX4_positionWithout_23 (by decide) (fun c23 => ?_) (fun c23 => ?_)
      · refine v_iincN C dX4_positionWithout_100 (by decide) rfl ?_
        refine v_goto (tgt := 6) C dX4_positionWithout_103 (by decide) ?_
        exact ih (c + 1) _ (by omega) (by omega) (by first | (simp [mk_pw, *]; done) | (rw [ex]; simp only [mk_pw]; grind))
      · refine v_aload_n C dX4_positionWithout_26 rfl ?_
        refine v_get C 8 dX4_positionWithout_27 wd1_67 hM.o rfl (by decide) ⟨rfl, rfl, rfl⟩ rfl ?_
        refine v_iload C dX4_positionWithout_30 rfl ?_
        refine v_ialdN C dX4_positionWithout_32 hM.a5 (by omega) (by decide) ?_
        refine v_iload_n C dX4_positionWithout_33 rfl ?_
        refine v_icmp_eq (tgt := 100) C dX4_positionWithout_34 (by decide) (fun c34 => ?_) (fun c34 => ?_)
        · refine v_iincN C dX4_positionWithout_100 (by decide) rfl ?_
          refine v_goto (tgt := 6) C dX4_positionWithout_103 (by decide) ?_
          exact ih (c + 1) _ (by omega) (by omega) (by first | (simp [mk_pw, *]; done) | (rw [ex]; simp only [mk_pw]; grind))
        · refine v_aload_n C dX4_positionWithout_37 rfl ?_
          refine v_get C 9 dX4_positionWithout_38 wd1_69 hM.o rfl (by decide) ⟨rfl, rfl, rfl⟩ rfl ?_
          refine v_iload C dX4_positionWithout_41 rfl ?_
          refine v_ialdN C dX4_positionWithout_43 hM.a6 (by omega) (by decide) ?_
          refine v_iload_n C dX4_positionWithout_44 rfl ?_
          refine v_icmp_ne (tgt := 51) C dX4_positionWithout_45 (by decide) (fun c45 => ?_) (fun c45 => ?_)
          · refine v_aload_n C dX4_positionWithout_51 rfl ?_
            refine v_get C 8 dX4_positionWithout_52 wd1_67 hM.o rfl (by decide) ⟨rfl, rfl, rfl⟩ rfl ?_
            refine v_iload C dX4_positionWithout_55 rfl ?_
            refine v_ialdN C dX4_positionWithout_57 hM.a5 (by omega) (by decide) ?_
            refine v_iload_n C dX4_positionWithout_58 rfl ?_
            refine v_icmp_ne (tgt := 77) C dX4_positionWithout_59 (by decide) (fun c59 => ?_) (fun c59 => ?_)
            · refine v_aload_n C dX4_positionWithout_77 rfl ?_
              refine v_get C 9 dX4_positionWithout_78 wd1_69 hM.o rfl (by decide) ⟨rfl, rfl, rfl⟩ rfl ?_
              refine v_iload C dX4_positionWithout_81 rfl ?_
              refine v_ialdN C dX4_positionWithout_83 hM.a6 (by omega) (by decide) ?_
              refine v_iload_n C dX4_positionWithout_84 rfl ?_
              refine v_icmp_ne (tgt := 100) C dX4_positionWithout_85 (by decide) (fun c85 => ?_) (fun c85 => ?_)
              · refine v_iincN C dX4_positionWithout_100 (by decide) rfl ?_
                refine v_goto (tgt := 6) C dX4_positionWithout_103 (by decide) ?_
                exact ih (c + 1) _ (by omega) (by omega) (by first | (simp [mk_pw, *]; done) | (rw [ex]; simp only [mk_pw]; grind))
              · refine v_iload C dX4_positionWithout_88 rfl ?_
                refine v_aload_n C dX4_positionWithout_90 rfl ?_
                refine v_get C 11 dX4_positionWithout_91 wd1_73 hM.o rfl (by decide) ⟨rfl, rfl, rfl⟩ rfl ?_
                refine v_iload C dX4_positionWithout_94 rfl ?_
                refine v_ialdN C dX4_positionWithout_96 hM.a8 (by omega) (by decide) ?_
                refine v_isub C dX4_positionWithout_97 ?_
                refine v_istore C dX4_positionWithout_98 (by decide) ?_
                refine v_iincN C dX4_positionWithout_100 (by decide) rfl ?_
                refine v_goto (tgt := 6) C dX4_positionWithout_103 (by decide) ?_
                exact ih (c + 1) _ (by omega) (by omega) (by first | (simp [mk_pw, *]; done) | (rw [ex]; simp only [mk_pw]; grind))
            · refine v_iload C dX4_positionWithout_62 rfl ?_
              refine v_aload_n C dX4_positionWithout_64 rfl ?_
              refine v_get C 11 dX4_positionWithout_65 wd1_73 hM.o rfl (by decide) ⟨rfl, rfl, rfl⟩ rfl ?_
              refine v_iload C dX4_positionWithout_68 rfl ?_
              refine v_ialdN C dX4_positionWithout_70 hM.a8 (by omega) (by decide) ?_
              refine v_iadd C dX4_positionWithout_71 ?_
              refine v_istore C dX4_positionWithout_72 (by decide) ?_
              refine v_goto (tgt := 100) C dX4_positionWithout_74 (by decide) ?_
              refine v_iincN C dX4_positionWithout_100 (by decide) rfl ?_
              refine v_goto (tgt := 6) C dX4_positionWithout_103 (by decide) ?_
              exact ih (c + 1) _ (by omega) (by omega) (by first | (simp [mk_pw, *]; done) | (rw [ex]; simp only [mk_pw]; grind))
          · refine v_goto (tgt := 100) C dX4_positionWithout_48 (by decide) ?_
            refine v_iincN C dX4_positionWithout_100 (by decide) rfl ?_
            refine v_goto (tgt := 6) C dX4_positionWithout_103 (by decide) ?_
            exact ih (c + 1) _ (by omega) (by omega) (by first | (simp [mk_pw, *]; done) | (rw [ex]; simp only [mk_pw]; grind))
set_option maxHeartbeats 4000000 in
/-- a position without the contracts of another -/
theorem c_X4_positionWithout {G : hp_G} {l : Launch} (hl : l.stackTraces = false) {n : Nat} {h : Nat → Option va_E} {o : Nat} {M : mk_T} (hM : Mk G h o M) (t on ot : Int32) : Ct G l yX4_positionWithout cX4_positionWithout 6 (some .int) 1 0 0 [.ref o, .int t, .int on, .int ot] (n, h) (hp_ri (mk_pw M t on ot (mk_ct M)) (n, h)) := by
  refine Ct.of rfl hl (by simp [Value.category]) (Nat.le_of_ble_eq_true rfl) (fun K C E hRm hKl => ?_)
  subst hKl
  refine v_iconst (v := nI 0) C dX4_positionWithout_0 (by decide) ?_
  refine v_istore C dX4_positionWithout_1 (by decide) ?_
  refine v_iconst (v := nI 0) C dX4_positionWithout_3 (by decide) ?_
  refine v_istore C dX4_positionWithout_4 (by decide) ?_
  exact loop_X4_positionWithout C E hRm hl hM ⟨rfl, rfl⟩ (mk_ct M) 0 0 (Nat.zero_le _) (by omega) rfl
def mk_po (M : mk_T) (t on : Int32) : Int32 := mk_pw M t on (-1) (mk_ct M)
def hp_abs (x : Int32) : Int32 := if 0 ≤ x then x else 0 - x
def mk_mg (M : mk_T) (t : Int32) (c : Nat) : Int32 := match c with
  | 0 => 0
  | c + 1 => mk_mg M t c + hp_abs (mk_po M t (nI c)) * mk_ar M 2 c
def mk_va (M : mk_T) (t : Int32) (c : Nat) : Int32 := match c with
  | 0 => 0
  | c + 1 => mk_va M t c + mk_po M t (nI c) * (mk_ar M 1 c - mk_ar M 0 c)
def mk_oq (M : mk_T) (on : Int32) (c : Nat) : Int32 := match c with
  | 0 => 0
  | c + 1 => if mk_ar M 7 c = on then mk_oq M on c + mk_ar M 8 c else mk_oq M on c
def mk_vs (M : mk_T) (c : Nat) : Int32 := match c with
  | 0 => 0
  | c + 1 => mk_vs M c + mk_va M (nI c) (mk_hz M)
def mk_as (M : mk_T) (c : Nat) : Int64 := match c with
  | 0 => M.2.2.1.2.1.toInt64
  | c + 1 => mk_as M c + (mk_ar M 3 c).toInt64
set_option maxHeartbeats 4000000 in
/-- a position -/
theorem c_X4_position {G : hp_G} {l : Launch} (hl : l.stackTraces = false) {n : Nat} {h : Nat → Option va_E} {o : Nat} {M : mk_T} (hM : Mk G h o M) (t on : Int32) : Ct G l yX4_position cX4_position 3 (some .int) 2 0 0 [.ref o, .int t, .int on] (n, h) (hp_ri (mk_po M t on) (n, h)) := by
  refine Ct.of rfl hl (by simp [Value.category]) (Nat.le_of_ble_eq_true rfl) (fun K C E hRm hKl => ?_)
  subst hKl
  refine v_aload_n C dX4_position_0 rfl ?_
  refine v_iload_n C dX4_position_1 rfl ?_
  refine v_iload_n C dX4_position_2 rfl ?_
  refine v_iconst (v := (-1)) C dX4_position_3 (by decide) ?_
  refine v_callVi C (c_X4_positionWithout hl hM t on (-1)) dX4_position_4 mX4_positionWithout rfl hM.o rfl wd2_92 rfl rfl (Nat.le_of_ble_eq_true rfl) (hp_rmle hRm (by decide) (by decide)) (Nat.le_of_ble_eq_true rfl) (Nat.le_of_ble_eq_true rfl) ?_
  exact v_iret C E dX4_position_7 rfl ⟨rfl, rfl⟩
set_option maxHeartbeats 4000000 in
theorem loop_X4_margin {G : hp_G} {K : hp_C} {P : hp_P} {n : Nat} {h : Nat → Option va_E} {o : Nat} {M : mk_T} (C : hp_Cx G K MX4_margin) (E : hp_End G K P) (hRm : hp_Rm K = hp_rm 3 0 0) (hl : K.2.1.stackTraces = false) (hM : Mk G h o M) {t : Int32} (hp : P (.inl (some (.int (mk_mg M t (mk_hz M))))) (n, h)) : ∀ (f c : Nat) (x : Int32), c ≤ mk_hz M → mk_hz M ≤ c + f → x = mk_mg M t c → V G K MX4_margin 0 0 (n, h) 4 [some (.ref o), some (.int t), some (.int x), some (.int (nI c))] [] := by
  have hct := hM.ct
  have htr := hM.tr
  have hhz := hM.hz
  intro f
  induction f with
  | zero =>
    intro c x h1 h2 ex
    have e : c = mk_hz M := by omega
    subst e
    subst ex
    refine v_iload_n C dX4_margin_4 rfl ?_
    refine v_aload_n C dX4_margin_5 rfl ?_
    refine v_get (v := .int (nI (mk_hz M))) C 0 dX4_margin_6 wd1_46 hM.o rfl (by decide) ⟨rfl, rfl, rfl⟩ rfl ?_
    refine v_icmp_geN (tgt := 37) C dX4_margin_9 (by decide) (by omega) (by omega) (fun c9 => ?_) (fun c9 => absurd c9 (by omega))
    refine v_iload_n C dX4_margin_37 rfl ?_
    exact v_iret C E dX4_margin_38 rfl hp
  | succ f ih =>
    intro c x h1 h2 ex
    refine v_iload_n C dX4_margin_4 rfl ?_
    refine v_aload_n C dX4_margin_5 rfl ?_
    refine v_get (v := .int (nI (mk_hz M))) C 0 dX4_margin_6 wd1_46 hM.o rfl (by decide) ⟨rfl, rfl, rfl⟩ rfl ?_
    refine v_icmp_geN (tgt := 37) C dX4_margin_9 (by decide) (by omega) (by omega) (fun c9 => ?_) (fun c9 => ?_)
    · have e : c = mk_hz M := by omega
      subst e
      subst ex
      refine v_iload_n C dX4_margin_37 rfl ?_
      exact v_iret C E dX4_margin_38 rfl hp
    · refine v_iload_n C dX4_margin_12 rfl ?_
      refine v_aload_n C dX4_margin_13 rfl ?_
      refine v_iload_n C dX4_margin_14 rfl ?_
      refine v_iload_n C dX4_margin_15 rfl ?_
      refine v_callVi C (c_X4_position hl hM _ _) dX4_margin_16 mX4_position rfl hM.o rfl wd2_88 rfl rfl (Nat.le_of_ble_eq_true rfl) (hp_rmle hRm (by decide) (by decide)) (Nat.le_of_ble_eq_true rfl) (Nat.le_of_ble_eq_true rfl) ?_
      refine v_mabs C dX4_margin_19 wd2_104 (Nat.le_of_ble_eq_true rfl) (hp_rmm hRm) ?_
      refine v_aload_n C dX4_margin_22 rfl ?_
      refine v_get C 3 dX4_margin_23 wd1_53 hM.o rfl (by decide) ⟨rfl, rfl, rfl⟩ rfl ?_
      refine v_iload_n C dX4_margin_26 rfl ?_
      refine v_ialdN C dX4_margin_27 hM.a2 (by omega) (by decide) ?_
      refine v_imul C dX4_margin_28 ?_
      refine v_iadd C dX4_margin_29 ?_
      refine v_istore_n C dX4_margin_30 (by decide) ?_
      refine v_iincN C dX4_margin_31 (by decide) rfl ?_
      refine v_goto (tgt := 4) C dX4_margin_34 (by decide) ?_
      exact ih (c + 1) _ (by omega) (by omega) (by rw [ex]; rfl)
set_option maxHeartbeats 4000000 in
/-- a margin -/
theorem c_X4_margin {G : hp_G} {l : Launch} (hl : l.stackTraces = false) {n : Nat} {h : Nat → Option va_E} {o : Nat} {M : mk_T} (hM : Mk G h o M) (t : Int32) : Ct G l yX4_margin cX4_margin 4 (some .int) 3 0 0 [.ref o, .int t] (n, h) (hp_ri (mk_mg M t (mk_hz M)) (n, h)) := by
  refine Ct.of rfl hl (by simp [Value.category]) (Nat.le_of_ble_eq_true rfl) (fun K C E hRm hKl => ?_)
  subst hKl
  refine v_iconst (v := nI 0) C dX4_margin_0 (by decide) ?_
  refine v_istore_n C dX4_margin_1 (by decide) ?_
  refine v_iconst (v := nI 0) C dX4_margin_2 (by decide) ?_
  refine v_istore_n C dX4_margin_3 (by decide) ?_
  exact loop_X4_margin C E hRm hl hM ⟨rfl, rfl⟩ (mk_hz M) 0 0 (Nat.zero_le _) (by omega) rfl
set_option maxHeartbeats 4000000 in
/-- the margin with a greater position -/
theorem c_X4_marginWith {G : hp_G} {l : Launch} (hl : l.stackTraces = false) {n : Nat} {h : Nat → Option va_E} {o : Nat} {M : mk_T} (hM : Mk G h o M) (t : Int32) {j : Nat} (hj : j < mk_hz M) (more : Int32) : Ct G l yX4_marginWith cX4_marginWith 5 (some .int) 4 0 0 [.ref o, .int t, .int (nI j), .int more] (n, h) (hp_ri (mk_mg M t (mk_hz M) + (hp_abs (mk_po M t (nI j) + more) - hp_abs (mk_po M t (nI j))) * mk_ar M 2 j) (n, h)) := by
  refine Ct.of rfl hl (by simp [Value.category]) (Nat.le_of_ble_eq_true rfl) (fun K C E hRm hKl => ?_)
  subst hKl
  have hhz := hM.hz
  refine v_aload_n C dX4_marginWith_0 rfl ?_
  refine v_iload_n C dX4_marginWith_1 rfl ?_
  refine v_iload_n C dX4_marginWith_2 rfl ?_
  refine v_callVi C (c_X4_position hl hM _ _) dX4_marginWith_3 mX4_position rfl hM.o rfl wd2_88 rfl rfl (Nat.le_of_ble_eq_true rfl) (hp_rmle hRm (by decide) (by decide)) (Nat.le_of_ble_eq_true rfl) (Nat.le_of_ble_eq_true rfl) ?_
  refine v_istore C dX4_marginWith_6 (by decide) ?_
  refine v_aload_n C dX4_marginWith_8 rfl ?_
  refine v_iload_n C dX4_marginWith_9 rfl ?_
  refine v_callVi C (c_X4_margin hl hM _) dX4_marginWith_10 mX4_margin rfl hM.o rfl wd2_100 rfl rfl (Nat.le_of_ble_eq_true rfl) (hp_rmle hRm (by decide) (by decide)) (Nat.le_of_ble_eq_true rfl) (Nat.le_of_ble_eq_true rfl) ?_
  refine v_iload C dX4_marginWith_13 rfl ?_
  refine v_iload_n C dX4_marginWith_15 rfl ?_
  refine v_iadd C dX4_marginWith_16 ?_
  refine v_mabs C dX4_marginWith_17 wd2_104 (Nat.le_of_ble_eq_true rfl) (hp_rmm hRm) ?_
  refine v_iload C dX4_marginWith_20 rfl ?_
  refine v_mabs C dX4_marginWith_22 wd2_104 (Nat.le_of_ble_eq_true rfl) (hp_rmm hRm) ?_
  refine v_isub C dX4_marginWith_25 ?_
  refine v_aload_n C dX4_marginWith_26 rfl ?_
  refine v_get C 3 dX4_marginWith_27 wd1_53 hM.o rfl (by decide) ⟨rfl, rfl, rfl⟩ rfl ?_
  refine v_iload_n C dX4_marginWith_30 rfl ?_
  refine v_ialdN C dX4_marginWith_31 hM.a2 (by omega) (by decide) ?_
  refine v_imul C dX4_marginWith_32 ?_
  refine v_iadd C dX4_marginWith_33 ?_
  exact v_iret C E dX4_marginWith_34 rfl ⟨rfl, rfl⟩
set_option maxHeartbeats 4000000 in
theorem loop_X4_variation {G : hp_G} {K : hp_C} {P : hp_P} {n : Nat} {h : Nat → Option va_E} {o : Nat} {M : mk_T} (C : hp_Cx G K MX4_variation) (E : hp_End G K P) (hRm : hp_Rm K = hp_rm 3 0 0) (hl : K.2.1.stackTraces = false) (hM : Mk G h o M) {t : Int32} (hp : P (.inl (some (.int (mk_va M t (mk_hz M))))) (n, h)) : ∀ (f c : Nat) (x : Int32), c ≤ mk_hz M → mk_hz M ≤ c + f → x = mk_va M t c → V G K MX4_variation 0 0 (n, h) 4 [some (.ref o), some (.int t), some (.int x), some (.int (nI c))] [] := by
  have hct := hM.ct
  have htr := hM.tr
  have hhz := hM.hz
  intro f
  induction f with
  | zero =>
    intro c x h1 h2 ex
    have e : c = mk_hz M := by omega
    subst e
    subst ex
    refine v_iload_n C dX4_variation_4 rfl ?_
    refine v_aload_n C dX4_variation_5 rfl ?_
    refine v_get (v := .int (nI (mk_hz M))) C 0 dX4_variation_6 wd1_46 hM.o rfl (by decide) ⟨rfl, rfl, rfl⟩ rfl ?_
    refine v_icmp_geN (tgt := 41) C dX4_variation_9 (by decide) (by omega) (by omega) (fun c9 => ?_) (fun c9 => absurd c9 (by omega))
    refine v_iload_n C dX4_variation_41 rfl ?_
    exact v_iret C E dX4_variation_42 rfl hp
  | succ f ih =>
    intro c x h1 h2 ex
    refine v_iload_n C dX4_variation_4 rfl ?_
    refine v_aload_n C dX4_variation_5 rfl ?_
    refine v_get (v := .int (nI (mk_hz M))) C 0 dX4_variation_6 wd1_46 hM.o rfl (by decide) ⟨rfl, rfl, rfl⟩ rfl ?_
    refine v_icmp_geN (tgt := 41) C dX4_variation_9 (by decide) (by omega) (by omega) (fun c9 => ?_) (fun c9 => ?_)
    · have e : c = mk_hz M := by omega
      subst e
      subst ex
      refine v_iload_n C dX4_variation_41 rfl ?_
      exact v_iret C E dX4_variation_42 rfl hp
    · refine v_iload_n C dX4_variation_12 rfl ?_
      refine v_aload_n C dX4_variation_13 rfl ?_
      refine v_iload_n C dX4_variation_14 rfl ?_
      refine v_iload_n C dX4_variation_15 rfl ?_
      refine v_callVi C (c_X4_position hl hM _ _) dX4_variation_16 mX4_position rfl hM.o rfl wd2_88 rfl rfl (Nat.le_of_ble_eq_true rfl) (hp_rmle hRm (by decide) (by decide)) (Nat.le_of_ble_eq_true rfl) (Nat.le_of_ble_eq_true rfl) ?_
      refine v_aload_n C dX4_variation_19 rfl ?_
      refine v_get C 2 dX4_variation_20 wd1_51 hM.o rfl (by decide) ⟨rfl, rfl, rfl⟩ rfl ?_
      refine v_iload_n C dX4_variation_23 rfl ?_
      refine v_ialdN C dX4_variation_24 hM.a1 (by omega) (by decide) ?_
      refine v_aload_n C dX4_variation_25 rfl ?_
      refine v_get C 1 dX4_variation_26 wd1_49 hM.o rfl (by decide) ⟨rfl, rfl, rfl⟩ rfl ?_
      refine v_iload_n C dX4_variation_29 rfl ?_
      refine v_ialdN C dX4_variation_30 hM.a0 (by omega) (by decide) ?_
      refine v_isub C dX4_variation_31 ?_
      refine v_imul C dX4_variation_32 ?_
      refine v_iadd C dX4_variation_33 ?_
      refine v_istore_n C dX4_variation_34 (by decide) ?_
      refine v_iincN C dX4_variation_35 (by decide) rfl ?_
      refine v_goto (tgt := 4) C dX4_variation_38 (by decide) ?_
      exact ih (c + 1) _ (by omega) (by omega) (by rw [ex]; rfl)
set_option maxHeartbeats 4000000 in
/-- a variation -/
theorem c_X4_variation {G : hp_G} {l : Launch} (hl : l.stackTraces = false) {n : Nat} {h : Nat → Option va_E} {o : Nat} {M : mk_T} (hM : Mk G h o M) (t : Int32) : Ct G l yX4_variation cX4_variation 4 (some .int) 3 0 0 [.ref o, .int t] (n, h) (hp_ri (mk_va M t (mk_hz M)) (n, h)) := by
  refine Ct.of rfl hl (by simp [Value.category]) (Nat.le_of_ble_eq_true rfl) (fun K C E hRm hKl => ?_)
  subst hKl
  refine v_iconst (v := nI 0) C dX4_variation_0 (by decide) ?_
  refine v_istore_n C dX4_variation_1 (by decide) ?_
  refine v_iconst (v := nI 0) C dX4_variation_2 (by decide) ?_
  refine v_istore_n C dX4_variation_3 (by decide) ?_
  exact loop_X4_variation C E hRm hl hM ⟨rfl, rfl⟩ (mk_hz M) 0 0 (Nat.zero_le _) (by omega) rfl
set_option maxHeartbeats 4000000 in
theorem loop_X4_quantityOpenOn {G : hp_G} {K : hp_C} {P : hp_P} {n : Nat} {h : Nat → Option va_E} {o : Nat} {M : mk_T} (C : hp_Cx G K MX4_quantityOpenOn) (E : hp_End G K P) (hRm : hp_Rm K = hp_rm 1 0 0) (hl : K.2.1.stackTraces = false) (hM : Mk G h o M) {on : Int32} (hp : P (.inl (some (.int (mk_oq M on (mk_ct M))))) (n, h)) : ∀ (f c : Nat) (x : Int32), c ≤ mk_ct M → mk_ct M ≤ c + f → x = mk_oq M on c → V G K MX4_quantityOpenOn 0 0 (n, h) 4 [some (.ref o), some (.int on), some (.int x), some (.int (nI c))] [] := by
  have hct := hM.ct
  have htr := hM.tr
  have hhz := hM.hz
  intro f
  induction f with
  | zero =>
    intro c x h1 h2 ex
    have e : c = mk_ct M := by omega
    subst e
    subst ex
    refine v_iload_n C dX4_quantityOpenOn_4 rfl ?_
    refine v_aload_n C dX4_quantityOpenOn_5 rfl ?_
    refine v_get (v := .int (nI (mk_ct M))) C 7 dX4_quantityOpenOn_6 wd1_65 hM.o rfl (by decide) ⟨rfl, rfl, rfl⟩ rfl ?_
    refine v_icmp_geN (tgt := 37) C dX4_quantityOpenOn_9 (by decide) (by omega) (by omega) (fun c9 => ?_) (fun c9 => absurd c9 (by omega))
    refine v_iload_n C dX4_quantityOpenOn_37 rfl ?_
    exact v_iret C E dX4_quantityOpenOn_38 rfl hp
  | succ f ih =>
    intro c x h1 h2 ex
    refine v_iload_n C dX4_quantityOpenOn_4 rfl ?_
    refine v_aload_n C dX4_quantityOpenOn_5 rfl ?_
    refine v_get (v := .int (nI (mk_ct M))) C 7 dX4_quantityOpenOn_6 wd1_65 hM.o rfl (by decide) ⟨rfl, rfl, rfl⟩ rfl ?_
    refine v_icmp_geN (tgt := 37) C dX4_quantityOpenOn_9 (by decide) (by omega) (by omega) (fun c9 => ?_) (fun c9 => ?_)
    · have e : c = mk_ct M := by omega
      subst e
      subst ex
      refine v_iload_n C dX4_quantityOpenOn_37 rfl ?_
      exact v_iret C E dX4_quantityOpenOn_38 rfl hp
    · refine v_aload_n C dX4_quantityOpenOn_12 rfl ?_
      refine v_get C 10 dX4_quantityOpenOn_13 wd1_71 hM.o rfl (by decide) ⟨rfl, rfl, rfl⟩ rfl ?_
      refine v_iload_n C dX4_quantityOpenOn_16 rfl ?_
      refine v_ialdN C dX4_quantityOpenOn_17 hM.a7 (by omega) (by decide) ?_
      refine v_iload_n C dX4_quantityOpenOn_18 rfl ?_
      refine v_icmp_ne (tgt := 31) C dX4_quantityOpenOn_19 (by decide) (fun c19 => ?_) (fun c19 => ?_)
      · refine v_iincN C dX4_quantityOpenOn_31 (by decide) rfl ?_
        refine v_goto (tgt := 4) C dX4_quantityOpenOn_34 (by decide) ?_
        exact ih (c + 1) _ (by omega) (by omega) (by first | (simp [mk_oq, *]; done) | (rw [ex]; simp only [mk_oq]; grind))
      · refine v_iload_n C dX4_quantityOpenOn_22 rfl ?_
        refine v_aload_n C dX4_quantityOpenOn_23 rfl ?_
        refine v_get C 11 dX4_quantityOpenOn_24 wd1_73 hM.o rfl (by decide) ⟨rfl, rfl, rfl⟩ rfl ?_
        refine v_iload_n C dX4_quantityOpenOn_27 rfl ?_
        refine v_ialdN C dX4_quantityOpenOn_28 hM.a8 (by omega) (by decide) ?_
        refine v_iadd C dX4_quantityOpenOn_29 ?_
        refine v_istore_n C dX4_quantityOpenOn_30 (by decide) ?_
        refine v_iincN C dX4_quantityOpenOn_31 (by decide) rfl ?_
        refine v_goto (tgt := 4) C dX4_quantityOpenOn_34 (by decide) ?_
        exact ih (c + 1) _ (by omega) (by omega) (by first | (simp [mk_oq, *]; done) | (rw [ex]; simp only [mk_oq]; grind))
set_option maxHeartbeats 4000000 in
/-- the quantity open on a horizon -/
theorem c_X4_quantityOpenOn {G : hp_G} {l : Launch} (hl : l.stackTraces = false) {n : Nat} {h : Nat → Option va_E} {o : Nat} {M : mk_T} (hM : Mk G h o M) (on : Int32) : Ct G l yX4_quantityOpenOn cX4_quantityOpenOn 4 (some .int) 1 0 0 [.ref o, .int on] (n, h) (hp_ri (mk_oq M on (mk_ct M)) (n, h)) := by
  refine Ct.of rfl hl (by simp [Value.category]) (Nat.le_of_ble_eq_true rfl) (fun K C E hRm hKl => ?_)
  subst hKl
  refine v_iconst (v := nI 0) C dX4_quantityOpenOn_0 (by decide) ?_
  refine v_istore_n C dX4_quantityOpenOn_1 (by decide) ?_
  refine v_iconst (v := nI 0) C dX4_quantityOpenOn_2 (by decide) ?_
  refine v_istore_n C dX4_quantityOpenOn_3 (by decide) ?_
  exact loop_X4_quantityOpenOn C E hRm hl hM ⟨rfl, rfl⟩ (mk_ct M) 0 0 (Nat.zero_le _) (by omega) rfl
set_option maxHeartbeats 4000000 in
theorem loop_X4_variationsAddUp {G : hp_G} {K : hp_C} {P : hp_P} {n : Nat} {h : Nat → Option va_E} {o : Nat} {M : mk_T} (C : hp_Cx G K MX4_variationsAddUp) (E : hp_End G K P) (hRm : hp_Rm K = hp_rm 4 0 0) (hl : K.2.1.stackTraces = false) (hM : Mk G h o M)  (hp : P (.inl (some (.int (hp_b (mk_vs M (mk_tr M) = 0))))) (n, h)) : ∀ (f c : Nat) (x : Int32), c ≤ mk_tr M → mk_tr M ≤ c + f → x = mk_vs M c → V G K MX4_variationsAddUp 0 0 (n, h) 4 [some (.ref o), some (.int x), some (.int (nI c))] [] := by
  have hct := hM.ct
  have htr := hM.tr
  have hhz := hM.hz
  intro f
  induction f with
  | zero =>
    intro c x h1 h2 ex
    have e : c = mk_tr M := by omega
    subst e
    subst ex
    refine v_iload_n C dX4_variationsAddUp_4 rfl ?_
    refine v_aload_n C dX4_variationsAddUp_5 rfl ?_
    refine v_get (v := .int (nI (mk_tr M))) C 4 dX4_variationsAddUp_6 wd1_58 hM.o rfl (by decide) ⟨rfl, rfl, rfl⟩ rfl ?_
    refine v_icmp_geN (tgt := 26) C dX4_variationsAddUp_9 (by decide) (by omega) (by omega) (fun c9 => ?_) (fun c9 => absurd c9 (by omega))
    refine v_iload_n C dX4_variationsAddUp_26 rfl ?_
    refine v_if_ne (tgt := 34) C dX4_variationsAddUp_27 (by decide) (fun c27 => ?_) (fun c27 => ?_)
    · rw [hp_b_f c27] at hp
      refine v_iconst (v := nI 0) C dX4_variationsAddUp_34 (by decide) ?_
      exact v_zret C E dX4_variationsAddUp_35 rfl rfl hp
    · rw [hp_b_t c27] at hp
      refine v_iconst (v := nI 1) C dX4_variationsAddUp_30 (by decide) ?_
      refine v_goto (tgt := 35) C dX4_variationsAddUp_31 (by decide) ?_
      exact v_zret C E dX4_variationsAddUp_35 rfl rfl hp
  | succ f ih =>
    intro c x h1 h2 ex
    refine v_iload_n C dX4_variationsAddUp_4 rfl ?_
    refine v_aload_n C dX4_variationsAddUp_5 rfl ?_
    refine v_get (v := .int (nI (mk_tr M))) C 4 dX4_variationsAddUp_6 wd1_58 hM.o rfl (by decide) ⟨rfl, rfl, rfl⟩ rfl ?_
    refine v_icmp_geN (tgt := 26) C dX4_variationsAddUp_9 (by decide) (by omega) (by omega) (fun c9 => ?_) (fun c9 => ?_)
    · have e : c = mk_tr M := by omega
      subst e
      subst ex
      refine v_iload_n C dX4_variationsAddUp_26 rfl ?_
      refine v_if_ne (tgt := 34) C dX4_variationsAddUp_27 (by decide) (fun c27 => ?_) (fun c27 => ?_)
      · rw [hp_b_f c27] at hp
        refine v_iconst (v := nI 0) C dX4_variationsAddUp_34 (by decide) ?_
        exact v_zret C E dX4_variationsAddUp_35 rfl rfl hp
      · rw [hp_b_t c27] at hp
        refine v_iconst (v := nI 1) C dX4_variationsAddUp_30 (by decide) ?_
        refine v_goto (tgt := 35) C dX4_variationsAddUp_31 (by decide) ?_
        exact v_zret C E dX4_variationsAddUp_35 rfl rfl hp
    · refine v_iload_n C dX4_variationsAddUp_12 rfl ?_
      refine v_aload_n C dX4_variationsAddUp_13 rfl ?_
      refine v_iload_n C dX4_variationsAddUp_14 rfl ?_
      refine v_callVi C (c_X4_variation hl hM _) dX4_variationsAddUp_15 mX4_variation rfl hM.o rfl wd3_48 rfl rfl (Nat.le_of_ble_eq_true rfl) (hp_rmle hRm (by decide) (by decide)) (Nat.le_of_ble_eq_true rfl) (Nat.le_of_ble_eq_true rfl) ?_
      refine v_iadd C dX4_variationsAddUp_18 ?_
      refine v_istore_n C dX4_variationsAddUp_19 (by decide) ?_
      refine v_iincN C dX4_variationsAddUp_20 (by decide) rfl ?_
      refine v_goto (tgt := 4) C dX4_variationsAddUp_23 (by decide) ?_
      exact ih (c + 1) _ (by omega) (by omega) (by rw [ex]; rfl)
set_option maxHeartbeats 4000000 in
/-- whether the variations add up to 0 -/
theorem c_X4_variationsAddUp {G : hp_G} {l : Launch} (hl : l.stackTraces = false) {n : Nat} {h : Nat → Option va_E} {o : Nat} {M : mk_T} (hM : Mk G h o M)  : Ct G l yX4_variationsAddUp cX4_variationsAddUp 3 (some .boolean) 4 0 0 [.ref o] (n, h) (hp_ri (hp_b (mk_vs M (mk_tr M) = 0)) (n, h)) := by
  refine Ct.of rfl hl (by simp [Value.category]) (Nat.le_of_ble_eq_true rfl) (fun K C E hRm hKl => ?_)
  subst hKl
  refine v_iconst (v := nI 0) C dX4_variationsAddUp_0 (by decide) ?_
  refine v_istore_n C dX4_variationsAddUp_1 (by decide) ?_
  refine v_iconst (v := nI 0) C dX4_variationsAddUp_2 (by decide) ?_
  refine v_istore_n C dX4_variationsAddUp_3 (by decide) ?_
  exact loop_X4_variationsAddUp C E hRm hl hM ⟨rfl, rfl⟩ (mk_tr M) 0 0 (Nat.zero_le _) (by omega) rfl
abbrev hp_num (x : Int32) (N : Nat) : Prop := 0 ≤ x ∧ x < nI N
abbrev hp_wi (v a b : Int32) : Prop := a ≤ v ∧ v ≤ b
theorem hp_num_j {x : Int32} {N : Nat} (h : hp_num x N) (hN : N < 2 ^ 31) : ∃ j, j < N ∧ x = nI j := by
  rcases pk_ix x hN with q | q | q
  · exact absurd h.1 (Int32.not_le.mpr q)
  · exact absurd h.2 (Int32.not_lt.mpr q)
  · exact q
theorem hp_rib {r v : Int32} {σ : hp_T} (h : r = v) : hp_ri r σ (.inl (some (.int v))) σ := ⟨by rw [h], rfl⟩
theorem hp_num_nI {j N : Nat} (h : j < N) (hN : N < 2 ^ 31) : hp_num (nI j) N := ⟨nI_pos' (by omega), nI_lt h hN⟩
set_option maxHeartbeats 4000000 in
/-- is it a number of something -/
theorem c_X7_isNumber {G : hp_G} {l : Launch} (hl : l.stackTraces = false) {n : Nat} {h : Nat → Option va_E} (x : Int32) (N : Nat) : Ct G l yX7_isNumber cX7_isNumber 2 (some .boolean) 0 0 0 [.int x, .int (nI N)] (n, h) (hp_ri (hp_b (hp_num x N)) (n, h)) := by
  refine Ct.of rfl hl (by simp [Value.category]) (Nat.le_of_ble_eq_true rfl) (fun K C E hRm hKl => ?_)
  subst hKl
  refine v_iload_n C dX7_isNumber_0 rfl ?_
  refine v_if_lt (tgt := 13) C dX7_isNumber_1 (by decide) (fun c1 => ?_) (fun c1 => ?_)
  · refine v_iconst (v := nI 0) C dX7_isNumber_13 (by decide) ?_
    exact v_zret C E dX7_isNumber_14 rfl rfl (hp_rib (by first | exact hp_b_t ⟨Int32.not_lt.mp c1, Int32.not_le.mp c6⟩ | exact hp_b_f (fun q => Int32.not_lt.mpr q.1 c1) | exact hp_b_f (fun q => Int32.not_lt.mpr c6 q.2)))
  · refine v_iload_n C dX7_isNumber_4 rfl ?_
    refine v_iload_n C dX7_isNumber_5 rfl ?_
    refine v_icmp_ge (tgt := 13) C dX7_isNumber_6 (by decide) (fun c6 => ?_) (fun c6 => ?_)
    · refine v_iconst (v := nI 0) C dX7_isNumber_13 (by decide) ?_
      exact v_zret C E dX7_isNumber_14 rfl rfl (hp_rib (by first | exact hp_b_t ⟨Int32.not_lt.mp c1, Int32.not_le.mp c6⟩ | exact hp_b_f (fun q => Int32.not_lt.mpr q.1 c1) | exact hp_b_f (fun q => Int32.not_lt.mpr c6 q.2)))
    · refine v_iconst (v := nI 1) C dX7_isNumber_9 (by decide) ?_
      refine v_goto (tgt := 14) C dX7_isNumber_10 (by decide) ?_
      exact v_zret C E dX7_isNumber_14 rfl rfl (hp_rib (by first | exact hp_b_t ⟨Int32.not_lt.mp c1, Int32.not_le.mp c6⟩ | exact hp_b_f (fun q => Int32.not_lt.mpr q.1 c1) | exact hp_b_f (fun q => Int32.not_lt.mpr c6 q.2)))
set_option maxHeartbeats 4000000 in
/-- is it within -/
theorem c_X7_isWithin {G : hp_G} {l : Launch} (hl : l.stackTraces = false) {n : Nat} {h : Nat → Option va_E} (v a b : Int32) : Ct G l yX7_isWithin cX7_isWithin 3 (some .boolean) 0 0 0 [.int v, .int a, .int b] (n, h) (hp_ri (hp_b (hp_wi v a b)) (n, h)) := by
  refine Ct.of rfl hl (by simp [Value.category]) (Nat.le_of_ble_eq_true rfl) (fun K C E hRm hKl => ?_)
  subst hKl
  refine v_iload_n C dX7_isWithin_0 rfl ?_
  refine v_iload_n C dX7_isWithin_1 rfl ?_
  refine v_icmp_lt (tgt := 14) C dX7_isWithin_2 (by decide) (fun c2 => ?_) (fun c2 => ?_)
  · refine v_iconst (v := nI 0) C dX7_isWithin_14 (by decide) ?_
    exact v_zret C E dX7_isWithin_15 rfl rfl (hp_rib (by first | exact hp_b_t ⟨Int32.not_lt.mp c2, Int32.not_lt.mp c7⟩ | exact hp_b_f (fun q => Int32.not_lt.mpr q.1 c2) | exact hp_b_f (fun q => Int32.not_lt.mpr q.2 c7)))
  · refine v_iload_n C dX7_isWithin_5 rfl ?_
    refine v_iload_n C dX7_isWithin_6 rfl ?_
    refine v_icmp_gt (tgt := 14) C dX7_isWithin_7 (by decide) (fun c7 => ?_) (fun c7 => ?_)
    · refine v_iconst (v := nI 0) C dX7_isWithin_14 (by decide) ?_
      exact v_zret C E dX7_isWithin_15 rfl rfl (hp_rib (by first | exact hp_b_t ⟨Int32.not_lt.mp c2, Int32.not_lt.mp c7⟩ | exact hp_b_f (fun q => Int32.not_lt.mpr q.1 c2) | exact hp_b_f (fun q => Int32.not_lt.mpr q.2 c7)))
    · refine v_iconst (v := nI 1) C dX7_isWithin_10 (by decide) ?_
      refine v_goto (tgt := 15) C dX7_isWithin_11 (by decide) ?_
      exact v_zret C E dX7_isWithin_15 rfl rfl (hp_rib (by first | exact hp_b_t ⟨Int32.not_lt.mp c2, Int32.not_lt.mp c7⟩ | exact hp_b_f (fun q => Int32.not_lt.mpr q.1 c2) | exact hp_b_f (fun q => Int32.not_lt.mpr q.2 c7)))

/-! ===== THE MARKET: scenarios, ranks, accounts, copies, a new one ===== -/
theorem v_drop {G : hp_G} {K : hp_C} {M : hp_M} {bc bs : Nat} {σ : hp_T} {pc : Nat} {lo : List (Option Value)} {st : List Value} (j : Nat) (kk : V G K M bc bs σ pc (lo.set j none) st) : V G K M bc bs σ pc lo st := by
  refine v_lo (fun i v hi => ?_) kk
  by_cases q : i = j
  · subst q
    rw [List.getElem?_set] at hi
    split at hi
    · split at hi <;> cases hi
    · exact hi
  · rw [List.getElem?_set_ne (fun e => q e.symm)] at hi
    exact hi
def mk_sl (M : mk_T) (t : Int32) (s c : Nat) : Int32 := match c with
  | 0 => nI 0
  | c + 1 => mk_sl M t s c + (if ((nI s >>> (nI c &&& 31)) &&& nI 1) = 0 then mk_po M t (nI c) * mk_ar M 2 c else -(mk_po M t (nI c) * mk_ar M 2 c))
def mk_ms (M : mk_T) (t : Int32) (s : Nat) : Int32 := match s with
  | 0 => nI 0
  | s + 1 => if mk_ms M t s < mk_sl M t s (mk_hz M) then mk_sl M t s (mk_hz M) else mk_ms M t s
def mk_bf (M : mk_T) (t : Nat) (c : Nat) : Nat := match c with
  | 0 => 0
  | c + 1 => if mk_ar M 3 t < mk_ar M 3 c ∨ (mk_ar M 3 c = mk_ar M 3 t ∧ c < t) then mk_bf M t c + 1 else mk_bf M t c
theorem mk_bf_le (M : mk_T) (t : Nat) : ∀ c, mk_bf M t c ≤ c
  | 0 => Nat.le_refl 0
  | c + 1 => by
    have h := mk_bf_le M t c
    unfold mk_bf
    split <;> omega
def mk_rk (M : mk_T) (rank : Int32) (f t : Nat) : Int32 := match f with
  | 0 => -1
  | f + 1 => if nI (mk_bf M t (mk_tr M)) = rank then nI t else mk_rk M rank f (t + 1)
theorem hp_p2 {k : Nat} (h : k ≤ 4) : 2 ^ k ≤ 16 := by
  match k, h with
  | 0, _ => decide
  | 1, _ => decide
  | 2, _ => decide
  | 3, _ => decide
  | 4, _ => decide
set_option maxHeartbeats 4000000 in
theorem loop_X4_marginOverScenarios1 {G : hp_G} {K : hp_C} {n : Nat} {h : Nat → Option va_E} {o : Nat} {M : mk_T} (C : hp_Cx G K MX4_marginOverScenarios) (hRm : hp_Rm K = hp_rm 3 0 0) (hl : K.2.1.stackTraces = false) (hM : Mk G h o M) {t x2 : Int32} {s : Nat} (hk : V G K MX4_marginOverScenarios 0 0 (n, h) 74 [some (.ref o), some (.int t), some (.int x2), some (.int (nI s)), some (.int (mk_sl M t s (mk_hz M))), some (.int (nI (mk_hz M))), none] []) : ∀ (f c : Nat) (x : Int32), c ≤ (mk_hz M) → (mk_hz M) ≤ c + f → x = mk_sl M t s c → V G K MX4_marginOverScenarios 0 0 (n, h) 20 [some (.ref o), some (.int t), some (.int x2), some (.int (nI s)), some (.int (x)), some (.int (nI c)), none] [] := by
  have hct := hM.ct
  have htr := hM.tr
  have hhz := hM.hz
  intro f
  induction f with
  | zero =>
    intro c x h1 h2 ex
    have e : c = (mk_hz M) := by omega
    subst e
    subst ex
    refine v_iload C dX4_marginOverScenarios_20 rfl ?_
    refine v_aload_n C dX4_marginOverScenarios_22 rfl ?_
    refine v_get (v := .int (nI (mk_hz M))) C 0 dX4_marginOverScenarios_23 wd1_46 hM.o rfl (by decide) ⟨rfl, rfl, rfl⟩ rfl ?_
    refine v_icmp_geN (tgt := 74) C dX4_marginOverScenarios_26 (by decide) (by omega) (by omega) (fun c26 => ?_) (fun c26 => absurd c26 (by omega))
    exact hk
  | succ f ih =>
    intro c x h1 h2 ex
    refine v_iload C dX4_marginOverScenarios_20 rfl ?_
    refine v_aload_n C dX4_marginOverScenarios_22 rfl ?_
    refine v_get (v := .int (nI (mk_hz M))) C 0 dX4_marginOverScenarios_23 wd1_46 hM.o rfl (by decide) ⟨rfl, rfl, rfl⟩ rfl ?_
    refine v_icmp_geN (tgt := 74) C dX4_marginOverScenarios_26 (by decide) (by omega) (by omega) (fun c26 => ?_) (fun c26 => ?_)
    · have e : c = (mk_hz M) := by omega
      subst e
      subst ex
      exact hk
    · refine v_aload_n C dX4_marginOverScenarios_29 rfl ?_
      refine v_iload_n C dX4_marginOverScenarios_30 rfl ?_
      refine v_iload C dX4_marginOverScenarios_31 rfl ?_
      refine v_callVi C (c_X4_position hl hM _ _) dX4_marginOverScenarios_33 mX4_position rfl hM.o rfl wd2_88 rfl rfl (Nat.le_of_ble_eq_true rfl) (hp_rmle hRm (by decide) (by decide)) (Nat.le_of_ble_eq_true rfl) (Nat.le_of_ble_eq_true rfl) ?_
      refine v_aload_n C dX4_marginOverScenarios_36 rfl ?_
      refine v_get C 3 dX4_marginOverScenarios_37 wd1_53 hM.o rfl (by decide) ⟨rfl, rfl, rfl⟩ rfl ?_
      refine v_iload C dX4_marginOverScenarios_40 rfl ?_
      refine v_ialdN C dX4_marginOverScenarios_42 hM.a2 (by omega) (by decide) ?_
      refine v_imul C dX4_marginOverScenarios_43 ?_
      refine v_istore C dX4_marginOverScenarios_44 (by decide) ?_
      refine v_iload C dX4_marginOverScenarios_46 rfl ?_
      refine v_iload_n C dX4_marginOverScenarios_48 rfl ?_
      refine v_iload C dX4_marginOverScenarios_49 rfl ?_
      refine v_ishr C dX4_marginOverScenarios_51 ?_
      refine v_iconst (v := nI 1) C dX4_marginOverScenarios_52 (by decide) ?_
      refine v_iand C dX4_marginOverScenarios_53 ?_
      refine v_if_eq (tgt := 63) C dX4_marginOverScenarios_54 (by decide) (fun c54 => ?_) (fun c54 => ?_)
      · refine v_iload C dX4_marginOverScenarios_63 rfl ?_
        refine v_iadd C dX4_marginOverScenarios_65 ?_
        refine v_istore C dX4_marginOverScenarios_66 (by decide) ?_
        refine v_iincN C dX4_marginOverScenarios_68 (by decide) rfl ?_
        refine v_goto (tgt := 20) C dX4_marginOverScenarios_71 (by decide) ?_
        refine v_drop 6 ?_
        exact ih (c + 1) _ (by omega) (by omega) (by rw [ex]; simp only [mk_sl]; first | rw [if_pos c54] | rw [if_neg c54])
      · refine v_iload C dX4_marginOverScenarios_57 rfl ?_
        refine v_ineg C dX4_marginOverScenarios_59 ?_
        refine v_goto (tgt := 65) C dX4_marginOverScenarios_60 (by decide) ?_
        refine v_iadd C dX4_marginOverScenarios_65 ?_
        refine v_istore C dX4_marginOverScenarios_66 (by decide) ?_
        refine v_iincN C dX4_marginOverScenarios_68 (by decide) rfl ?_
        refine v_goto (tgt := 20) C dX4_marginOverScenarios_71 (by decide) ?_
        refine v_drop 6 ?_
        exact ih (c + 1) _ (by omega) (by omega) (by rw [ex]; simp only [mk_sl]; first | rw [if_pos c54] | rw [if_neg c54])
set_option maxHeartbeats 4000000 in
theorem loop_X4_marginOverScenarios2 {G : hp_G} {K : hp_C} {n : Nat} {h : Nat → Option va_E} {o : Nat} {M : mk_T} (C : hp_Cx G K MX4_marginOverScenarios) (hRm : hp_Rm K = hp_rm 3 0 0) (hl : K.2.1.stackTraces = false) (hM : Mk G h o M) {t : Int32} (hk : V G K MX4_marginOverScenarios 0 0 (n, h) 87 [some (.ref o), some (.int t), some (.int (mk_ms M t (2 ^ mk_hz M))), some (.int (nI (2 ^ mk_hz M))), none, none, none] []) : ∀ (f c : Nat) (x : Int32), c ≤ (2 ^ mk_hz M) → (2 ^ mk_hz M) ≤ c + f → x = mk_ms M t c → V G K MX4_marginOverScenarios 0 0 (n, h) 4 [some (.ref o), some (.int t), some (.int (x)), some (.int (nI c)), none, none, none] [] := by
  have hct := hM.ct
  have htr := hM.tr
  have hhz := hM.hz
  have p2 := hp_p2 hhz
  intro f
  induction f with
  | zero =>
    intro c x h1 h2 ex
    have e : c = (2 ^ mk_hz M) := by omega
    subst e
    subst ex
    refine v_iload_n C dX4_marginOverScenarios_4 rfl ?_
    refine v_iconst (v := nI 1) C dX4_marginOverScenarios_5 (by decide) ?_
    refine v_aload_n C dX4_marginOverScenarios_6 rfl ?_
    refine v_get (v := .int (nI (mk_hz M))) C 0 dX4_marginOverScenarios_7 wd1_46 hM.o rfl (by decide) ⟨rfl, rfl, rfl⟩ rfl ?_
    refine v_ishl C dX4_marginOverScenarios_10 ?_
    rw [hp_sh1 _ (by omega)]
    refine v_icmp_geN (tgt := 87) C dX4_marginOverScenarios_11 (by decide) (by omega) (by omega) (fun c11 => ?_) (fun c11 => absurd c11 (by omega))
    exact hk
  | succ f ih =>
    intro c x h1 h2 ex
    refine v_iload_n C dX4_marginOverScenarios_4 rfl ?_
    refine v_iconst (v := nI 1) C dX4_marginOverScenarios_5 (by decide) ?_
    refine v_aload_n C dX4_marginOverScenarios_6 rfl ?_
    refine v_get (v := .int (nI (mk_hz M))) C 0 dX4_marginOverScenarios_7 wd1_46 hM.o rfl (by decide) ⟨rfl, rfl, rfl⟩ rfl ?_
    refine v_ishl C dX4_marginOverScenarios_10 ?_
    rw [hp_sh1 _ (by omega)]
    refine v_icmp_geN (tgt := 87) C dX4_marginOverScenarios_11 (by decide) (by omega) (by omega) (fun c11 => ?_) (fun c11 => ?_)
    · have e : c = (2 ^ mk_hz M) := by omega
      subst e
      subst ex
      exact hk
    · refine v_iconst (v := nI 0) C dX4_marginOverScenarios_14 (by decide) ?_
      refine v_istore C dX4_marginOverScenarios_15 (by decide) ?_
      refine v_iconst (v := nI 0) C dX4_marginOverScenarios_17 (by decide) ?_
      refine v_istore C dX4_marginOverScenarios_18 (by decide) ?_
      refine loop_X4_marginOverScenarios1 C hRm hl hM ?_ (mk_hz M) 0 _ (Nat.zero_le _) (Nat.le_of_eq (Nat.zero_add _).symm) rfl
      refine v_iload_n C dX4_marginOverScenarios_74 rfl ?_
      refine v_iload C dX4_marginOverScenarios_75 rfl ?_
      refine v_mmax C dX4_marginOverScenarios_77 wd3_205 (Nat.le_of_ble_eq_true rfl) (hp_rmm hRm) ?_
      refine v_istore_n C dX4_marginOverScenarios_80 (by decide) ?_
      refine v_iincN C dX4_marginOverScenarios_81 (by decide) rfl ?_
      refine v_goto (tgt := 4) C dX4_marginOverScenarios_84 (by decide) ?_
      refine v_drop 4 (v_drop 5 ?_)
      exact ih (c + 1) _ (by omega) (by omega) (by rw [ex]; rfl)
set_option maxHeartbeats 4000000 in
/-- the greatest loss in all scenarios -/
theorem c_X4_marginOverScenarios {G : hp_G} {l : Launch} (hl : l.stackTraces = false) {n : Nat} {h : Nat → Option va_E} {o : Nat} {M : mk_T} (hM : Mk G h o M) (t : Int32) : Ct G l yX4_marginOverScenarios cX4_marginOverScenarios 7 (some .int) 3 0 0 [.ref o, .int t] (n, h) (hp_ri (mk_ms M t (2 ^ mk_hz M)) (n, h)) := by
  refine Ct.of rfl hl (by simp [Value.category]) (Nat.le_of_ble_eq_true rfl) (fun K C E hRm hKl => ?_)
  subst hKl
  refine v_iconst (v := nI 0) C dX4_marginOverScenarios_0 (by decide) ?_
  refine v_istore_n C dX4_marginOverScenarios_1 (by decide) ?_
  refine v_iconst (v := nI 0) C dX4_marginOverScenarios_2 (by decide) ?_
  refine v_istore_n C dX4_marginOverScenarios_3 (by decide) ?_
  exact loop_X4_marginOverScenarios2 C hRm hl hM (v_iload_n C dX4_marginOverScenarios_87 rfl (v_iret C E dX4_marginOverScenarios_88 rfl ⟨rfl, rfl⟩)) (2 ^ mk_hz M) 0 _ (Nat.zero_le _) (Nat.le_of_eq (Nat.zero_add _).symm) rfl
set_option maxHeartbeats 4000000 in
theorem loop_X4_traderAtRank1 {G : hp_G} {K : hp_C} {n : Nat} {h : Nat → Option va_E} {o : Nat} {M : mk_T} (C : hp_Cx G K MX4_traderAtRank) (hRm : hp_Rm K = hp_rm 0 0 0) (hl : K.2.1.stackTraces = false) (hM : Mk G h o M) {rank : Int32} {t : Nat} (ht : t < mk_tr M) (hk : V G K MX4_traderAtRank 0 0 (n, h) 71 [some (.ref o), some (.int rank), some (.int (nI t)), some (.int (nI (mk_bf M t (mk_tr M)))), some (.int (nI (mk_tr M)))] []) : ∀ (f c : Nat) (x : Nat), c ≤ (mk_tr M) → (mk_tr M) ≤ c + f → x = mk_bf M t c → V G K MX4_traderAtRank 0 0 (n, h) 15 [some (.ref o), some (.int rank), some (.int (nI t)), some (.int (nI (x))), some (.int (nI c))] [] := by
  have hct := hM.ct
  have htr := hM.tr
  have hhz := hM.hz
  intro f
  induction f with
  | zero =>
    intro c x h1 h2 ex
    have e : c = (mk_tr M) := by omega
    subst e
    subst ex
    refine v_iload C dX4_traderAtRank_15 rfl ?_
    refine v_aload_n C dX4_traderAtRank_17 rfl ?_
    refine v_get (v := .int (nI (mk_tr M))) C 4 dX4_traderAtRank_18 wd1_58 hM.o rfl (by decide) ⟨rfl, rfl, rfl⟩ rfl ?_
    refine v_icmp_geN (tgt := 71) C dX4_traderAtRank_21 (by decide) (by omega) (by omega) (fun c21 => ?_) (fun c21 => absurd c21 (by omega))
    exact hk
  | succ f ih =>
    intro c x h1 h2 ex
    refine v_iload C dX4_traderAtRank_15 rfl ?_
    refine v_aload_n C dX4_traderAtRank_17 rfl ?_
    refine v_get (v := .int (nI (mk_tr M))) C 4 dX4_traderAtRank_18 wd1_58 hM.o rfl (by decide) ⟨rfl, rfl, rfl⟩ rfl ?_
    refine v_icmp_geN (tgt := 71) C dX4_traderAtRank_21 (by decide) (by omega) (by omega) (fun c21 => ?_) (fun c21 => ?_)
    · have e : c = (mk_tr M) := by omega
      subst e
      subst ex
      exact hk
    · refine v_aload_n C dX4_traderAtRank_24 rfl ?_
      refine v_get C 5 dX4_traderAtRank_25 wd1_60 hM.o rfl (by decide) ⟨rfl, rfl, rfl⟩ rfl ?_
      refine v_iload C dX4_traderAtRank_28 rfl ?_
      refine v_ialdN C dX4_traderAtRank_30 hM.a3 (by omega) (by decide) ?_
      refine v_aload_n C dX4_traderAtRank_31 rfl ?_
      refine v_get C 5 dX4_traderAtRank_32 wd1_60 hM.o rfl (by decide) ⟨rfl, rfl, rfl⟩ rfl ?_
      refine v_iload_n C dX4_traderAtRank_35 rfl ?_
      refine v_ialdN C dX4_traderAtRank_36 hM.a3 (by omega) (by decide) ?_
      refine v_icmp_gt (tgt := 62) C dX4_traderAtRank_37 (by decide) (fun c37 => ?_) (fun c37 => ?_)
      · refine v_iincN C dX4_traderAtRank_62 (by decide) rfl ?_
        refine v_iincN C dX4_traderAtRank_65 (by decide) rfl ?_
        refine v_goto (tgt := 15) C dX4_traderAtRank_68 (by decide) ?_
        exact ih (c + 1) _ (by omega) (by omega) (by subst ex; simp only [mk_bf]; grind)
      · refine v_aload_n C dX4_traderAtRank_40 rfl ?_
        refine v_get C 5 dX4_traderAtRank_41 wd1_60 hM.o rfl (by decide) ⟨rfl, rfl, rfl⟩ rfl ?_
        refine v_iload C dX4_traderAtRank_44 rfl ?_
        refine v_ialdN C dX4_traderAtRank_46 hM.a3 (by omega) (by decide) ?_
        refine v_aload_n C dX4_traderAtRank_47 rfl ?_
        refine v_get C 5 dX4_traderAtRank_48 wd1_60 hM.o rfl (by decide) ⟨rfl, rfl, rfl⟩ rfl ?_
        refine v_iload_n C dX4_traderAtRank_51 rfl ?_
        refine v_ialdN C dX4_traderAtRank_52 hM.a3 (by omega) (by decide) ?_
        refine v_icmp_ne (tgt := 65) C dX4_traderAtRank_53 (by decide) (fun c53 => ?_) (fun c53 => ?_)
        · refine v_iincN C dX4_traderAtRank_65 (by decide) rfl ?_
          refine v_goto (tgt := 15) C dX4_traderAtRank_68 (by decide) ?_
          exact ih (c + 1) _ (by omega) (by omega) (by subst ex; simp only [mk_bf]; grind)
        · refine v_iload C dX4_traderAtRank_56 rfl ?_
          refine v_iload_n C dX4_traderAtRank_58 rfl ?_
          refine v_icmp_geN (tgt := 65) C dX4_traderAtRank_59 (by decide) (by omega) (by omega) (fun c59 => ?_) (fun c59 => ?_)
          · refine v_iincN C dX4_traderAtRank_65 (by decide) rfl ?_
            refine v_goto (tgt := 15) C dX4_traderAtRank_68 (by decide) ?_
            exact ih (c + 1) _ (by omega) (by omega) (by subst ex; simp only [mk_bf]; grind)
          · refine v_iincN C dX4_traderAtRank_62 (by decide) rfl ?_
            refine v_iincN C dX4_traderAtRank_65 (by decide) rfl ?_
            refine v_goto (tgt := 15) C dX4_traderAtRank_68 (by decide) ?_
            exact ih (c + 1) _ (by omega) (by omega) (by subst ex; simp only [mk_bf]; grind)
set_option maxHeartbeats 4000000 in
theorem loop_X4_traderAtRank2 {G : hp_G} {K : hp_C} {n : Nat} {h : Nat → Option va_E} {o : Nat} {M : mk_T} {P : hp_P} (C : hp_Cx G K MX4_traderAtRank) (E : hp_End G K P) (hRm : hp_Rm K = hp_rm 0 0 0) (hl : K.2.1.stackTraces = false) (hM : Mk G h o M) {rank : Int32} : ∀ (f t : Nat), t + f = mk_tr M → P (.inl (some (.int (mk_rk M rank f t)))) (n, h) → V G K MX4_traderAtRank 0 0 (n, h) 2 [some (.ref o), some (.int rank), some (.int (nI t)), none, none] [] := by
  have htr := hM.tr
  intro f
  induction f with
  | zero =>
    intro t h1 hp
    refine v_iload_n C dX4_traderAtRank_2 rfl ?_
    refine v_aload_n C dX4_traderAtRank_3 rfl ?_
    refine v_get (v := .int (nI (mk_tr M))) C 4 dX4_traderAtRank_4 wd1_58 hM.o rfl (by decide) ⟨rfl, rfl, rfl⟩ rfl ?_
    refine v_icmp_geN (tgt := 84) C dX4_traderAtRank_7 (by decide) (by omega) (by omega) (fun c7 => ?_) (fun c7 => absurd c7 (by omega))
    refine v_iconst (v := (-1)) C dX4_traderAtRank_84 (by decide) ?_
    exact v_iret C E dX4_traderAtRank_85 rfl hp
  | succ f ih =>
    intro t h1 hp
    refine v_iload_n C dX4_traderAtRank_2 rfl ?_
    refine v_aload_n C dX4_traderAtRank_3 rfl ?_
    refine v_get (v := .int (nI (mk_tr M))) C 4 dX4_traderAtRank_4 wd1_58 hM.o rfl (by decide) ⟨rfl, rfl, rfl⟩ rfl ?_
    refine v_icmp_geN (tgt := 84) C dX4_traderAtRank_7 (by decide) (by omega) (by omega) (fun c7 => absurd c7 (by omega)) (fun c7 => ?_)
    refine v_iconst (v := nI 0) C dX4_traderAtRank_10 (by decide) ?_
    refine v_istore_n C dX4_traderAtRank_11 (by decide) ?_
    refine v_iconst (v := nI 0) C dX4_traderAtRank_12 (by decide) ?_
    refine v_istore C dX4_traderAtRank_13 (by decide) ?_
    refine loop_X4_traderAtRank1 C hRm hl hM (by omega) ?_ (mk_tr M) 0 _ (Nat.zero_le _) (Nat.le_of_eq (Nat.zero_add _).symm) rfl
    refine v_iload_n C dX4_traderAtRank_71 rfl ?_
    refine v_iload_n C dX4_traderAtRank_72 rfl ?_
    refine v_icmp_ne (tgt := 78) C dX4_traderAtRank_73 (by decide) (fun c73 => ?_) (fun c73 => ?_)
    · refine v_iincN C dX4_traderAtRank_78 (by decide) rfl ?_
      refine v_goto (tgt := 2) C dX4_traderAtRank_81 (by decide) ?_
      refine v_drop 3 (v_drop 4 ?_)
      exact ih (t + 1) (by omega) (by simp only [mk_rk] at hp; rw [if_neg c73] at hp; exact hp)
    · simp only [mk_rk] at hp; rw [if_pos c73] at hp
      refine v_iload_n C dX4_traderAtRank_76 rfl ?_
      exact v_iret C E dX4_traderAtRank_77 rfl hp
set_option maxHeartbeats 4000000 in
/-- the trader at a rank -/
theorem c_X4_traderAtRank {G : hp_G} {l : Launch} (hl : l.stackTraces = false) {n : Nat} {h : Nat → Option va_E} {o : Nat} {M : mk_T} (hM : Mk G h o M) (rank : Int32) : Ct G l yX4_traderAtRank cX4_traderAtRank 5 (some .int) 0 0 0 [.ref o, .int rank] (n, h) (hp_ri (mk_rk M rank (mk_tr M) 0) (n, h)) := by
  refine Ct.of rfl hl (by simp [Value.category]) (Nat.le_of_ble_eq_true rfl) (fun K C E hRm hKl => ?_)
  subst hKl
  refine v_iconst (v := nI 0) C dX4_traderAtRank_0 (by decide) ?_
  refine v_istore_n C dX4_traderAtRank_1 (by decide) ?_
  exact loop_X4_traderAtRank2 C E hRm hl hM (mk_tr M) 0 (Nat.zero_add _) ⟨rfl, rfl⟩
set_option maxHeartbeats 4000000 in
theorem loop_X4_accountsAddUp {G : hp_G} {K : hp_C} {n : Nat} {h : Nat → Option va_E} {o : Nat} {M : mk_T} (C : hp_Cx G K MX4_accountsAddUp) (hRm : hp_Rm K = hp_rm 0 0 0) (hl : K.2.1.stackTraces = false) (hM : Mk G h o M)  (hk : V G K MX4_accountsAddUp 0 0 (n, h) 32 [some (.ref o), some (.long (mk_as M (mk_tr M))), none, some (.int (nI (mk_tr M)))] []) : ∀ (f c : Nat) (x : Int64), c ≤ (mk_tr M) → (mk_tr M) ≤ c + f → x = mk_as M c → V G K MX4_accountsAddUp 0 0 (n, h) 8 [some (.ref o), some (.long (x)), none, some (.int (nI c))] [] := by
  have hct := hM.ct
  have htr := hM.tr
  have hhz := hM.hz
  intro f
  induction f with
  | zero =>
    intro c x h1 h2 ex
    have e : c = (mk_tr M) := by omega
    subst e
    subst ex
    refine v_iload_n C dX4_accountsAddUp_8 rfl ?_
    refine v_aload_n C dX4_accountsAddUp_9 rfl ?_
    refine v_get (v := .int (nI (mk_tr M))) C 4 dX4_accountsAddUp_10 wd1_58 hM.o rfl (by decide) ⟨rfl, rfl, rfl⟩ rfl ?_
    refine v_icmp_geN (tgt := 32) C dX4_accountsAddUp_13 (by decide) (by omega) (by omega) (fun c13 => ?_) (fun c13 => absurd c13 (by omega))
    exact hk
  | succ f ih =>
    intro c x h1 h2 ex
    refine v_iload_n C dX4_accountsAddUp_8 rfl ?_
    refine v_aload_n C dX4_accountsAddUp_9 rfl ?_
    refine v_get (v := .int (nI (mk_tr M))) C 4 dX4_accountsAddUp_10 wd1_58 hM.o rfl (by decide) ⟨rfl, rfl, rfl⟩ rfl ?_
    refine v_icmp_geN (tgt := 32) C dX4_accountsAddUp_13 (by decide) (by omega) (by omega) (fun c13 => ?_) (fun c13 => ?_)
    · have e : c = (mk_tr M) := by omega
      subst e
      subst ex
      exact hk
    · refine v_lload_n C dX4_accountsAddUp_16 rfl ?_
      refine v_aload_n C dX4_accountsAddUp_17 rfl ?_
      refine v_get C 5 dX4_accountsAddUp_18 wd1_60 hM.o rfl (by decide) ⟨rfl, rfl, rfl⟩ rfl ?_
      refine v_iload_n C dX4_accountsAddUp_21 rfl ?_
      refine v_ialdN C dX4_accountsAddUp_22 hM.a3 (by omega) (by decide) ?_
      refine v_i2l C dX4_accountsAddUp_23 ?_
      refine v_ladd C dX4_accountsAddUp_24 ?_
      refine v_lstore_n C dX4_accountsAddUp_25 (by decide) ?_
      refine v_iincN C dX4_accountsAddUp_26 (by decide) rfl ?_
      refine v_goto (tgt := 8) C dX4_accountsAddUp_29 (by decide) ?_
      exact ih (c + 1) _ (by omega) (by omega) (by rw [ex]; rfl)
set_option maxHeartbeats 4000000 in
/-- whether the accounts add up -/
theorem c_X4_accountsAddUp {G : hp_G} {l : Launch} (hl : l.stackTraces = false) {n : Nat} {h : Nat → Option va_E} {o : Nat} {M : mk_T} (hM : Mk G h o M) : Ct G l yX4_accountsAddUp cX4_accountsAddUp 4 (some .boolean) 0 0 0 [.ref o] (n, h) (hp_ri (hp_b (mk_as M (mk_tr M) = M.2.2.2.1 - M.2.2.2.2 + M.2.2.1.2.2.toInt64)) (n, h)) := by
  refine Ct.of rfl hl (by simp [Value.category]) (Nat.le_of_ble_eq_true rfl) (fun K C E hRm hKl => ?_)
  subst hKl
  refine v_aload_n C dX4_accountsAddUp_0 rfl ?_
  refine v_get C 14 dX4_accountsAddUp_1 wd1_79 hM.o rfl (by decide) ⟨rfl, rfl, rfl⟩ rfl ?_
  refine v_i2l C dX4_accountsAddUp_4 ?_
  refine v_lstore_n C dX4_accountsAddUp_5 (by decide) ?_
  refine v_iconst (v := nI 0) C dX4_accountsAddUp_6 (by decide) ?_
  refine v_istore_n C dX4_accountsAddUp_7 (by decide) ?_
  refine loop_X4_accountsAddUp C hRm hl hM ?_ (mk_tr M) 0 _ (Nat.zero_le _) (Nat.le_of_eq (Nat.zero_add _).symm) rfl
  refine v_lload_n C dX4_accountsAddUp_32 rfl ?_
  refine v_aload_n C dX4_accountsAddUp_33 rfl ?_
  refine v_get C 16 dX4_accountsAddUp_34 wd1_83 hM.o rfl (by decide) ⟨rfl, rfl, rfl⟩ rfl ?_
  refine v_aload_n C dX4_accountsAddUp_37 rfl ?_
  refine v_get C 17 dX4_accountsAddUp_38 wd1_85 hM.o rfl (by decide) ⟨rfl, rfl, rfl⟩ rfl ?_
  refine v_lsub C dX4_accountsAddUp_41 ?_
  refine v_aload_n C dX4_accountsAddUp_42 rfl ?_
  refine v_get C 15 dX4_accountsAddUp_43 wd1_81 hM.o rfl (by decide) ⟨rfl, rfl, rfl⟩ rfl ?_
  refine v_i2l C dX4_accountsAddUp_46 ?_
  refine v_ladd C dX4_accountsAddUp_47 ?_
  refine v_lcmp C dX4_accountsAddUp_48 ?_
  refine v_if_ne (tgt := 56) C dX4_accountsAddUp_49 (by decide) (fun c49 => ?_) (fun c49 => ?_)
  · have z49 := hp_b_f (fun q => c49 ((hp_lcmp0 _ _).mpr q))
    refine v_iconst (v := nI 0) C dX4_accountsAddUp_56 (by decide) ?_
    exact v_zret C E dX4_accountsAddUp_57 rfl rfl (hp_rib z49)
  · have z49 := hp_b_t ((hp_lcmp0 _ _).mp c49)
    refine v_iconst (v := nI 1) C dX4_accountsAddUp_52 (by decide) ?_
    refine v_goto (tgt := 57) C dX4_accountsAddUp_53 (by decide) ?_
    exact v_zret C E dX4_accountsAddUp_57 rfl rfl (hp_rib z49)
theorem hp_cpy0 {f g : Nat → Int32} {i z : Nat} (h : i < z) : f i = va_cpy f g 0 0 z i := by
  rw [pk_cpy_in (Nat.zero_le _) (by omega), Nat.sub_zero, Nat.zero_add]
theorem Mk.wa {G : hp_G} {h h' : Nat → Option va_E} {o : Nat} {M : mk_T} (H : Mk G h o M) {k z : Nat} {f : Nat → Int32} (hk : k < 10) (hz : z = mk_len k) (h1 : h' (o + (k + 1)) = some (.inl (G.2.2.1 2, z, .inl f))) (h2 : ∀ b, b ≠ o + (k + 1) → h' b = h b) : Mk G h' o (mk_wa M k f) := by
  refine ⟨(h2 o (by omega)).trans H.1, fun j hj => ?_, H.2.2⟩
  by_cases e : j = k
  · subst e
    have e2 : (mk_ar (mk_wa M j f)) j = f := if_pos rfl
    rw [h1, hz, e2]
  · have e2 : (mk_ar (mk_wa M k f)) j = mk_ar M j := if_neg e
    rw [h2 _ (by omega), H.2.1 j hj, e2]
theorem Mk.to10 {G : hp_G} {h : Nat → Option va_E} {o : Nat} {M M' : mk_T} (H : Mk G h o M) (h1 : M.1 = M'.1) (h2 : ∀ k, k < 10 → mk_ar M k = mk_ar M' k) (h3 : M.2.2 = M'.2.2) : Mk G h o M' := by
  obtain ⟨a, b, c⟩ := M
  obtain ⟨a', b', c'⟩ := M'
  have e1 : a = a' := h1
  have e3 : c = c' := h3
  subst e1; subst e3
  refine ⟨H.1, fun k hk => ?_, H.2.2⟩
  rw [H.2.1 k hk, h2 k hk]
set_option maxHeartbeats 4000000 in
/-- one market becomes a copy of another -/
theorem c_X4_copyFrom {G : hp_G} {l : Launch} (hl : l.stackTraces = false) {n : Nat} {h0 : Nat → Option va_E} {o : Nat} {M : mk_T} (hM : Mk G h0 o M) {o2 : Nat} {B : mk_T} (hB : Mk G h0 o2 B) (hd : o2 + 11 ≤ o ∨ o + 11 ≤ o2) : Ct G l yX4_copyFrom cX4_copyFrom 2 none 1 0 0 [.ref o, .ref o2] (n, h0) (hp_vq (mk_Q G n h0 o (B))) := by
  have hhz := hM.hz
  have htr := hM.tr
  have hct := hM.ct
  have hbase := hM.base
  have hO : ∀ a, (a < o ∨ o + 11 ≤ a) → h0 a = h0 a := fun _ _ => rfl
  refine Ct.of rfl hl (by simp [Value.category]) (Nat.le_of_ble_eq_true rfl) (fun K C E hRm hKl => ?_)
  subst hKl
  refine v_aload_n C dX4_copyFrom_0 rfl ?_
  refine v_aload_n C dX4_copyFrom_1 rfl ?_
  refine v_get (v := .int (nI (mk_hz B))) C 0 dX4_copyFrom_2 wd1_46 hB.o rfl (by decide) ⟨rfl, rfl, rfl⟩ rfl ?_
  refine v_put C 0 dX4_copyFrom_5 wd1_46 hbase hM.o rfl (by decide) ⟨rfl, rfl, rfl, rfl⟩ rfl rfl rfl (Nat.le_of_ble_eq_true rfl) (fun h5 e5 g5 => ?_)
  have hM5 := hM.phz e5 g5 hB.hz
  have hB5 := hB.same (h' := h5) (fun a h1 h2 => g5 a (by omega))
  have hO5 : ∀ a, (a < o ∨ o + 11 ≤ a) → h5 a = h0 a := fun a ha => (g5 a (by omega)).trans (hO a ha)
  refine v_aload_n C dX4_copyFrom_8 rfl ?_
  refine v_get C 1 dX4_copyFrom_9 wd1_49 hB5.o rfl (by decide) ⟨rfl, rfl, rfl⟩ rfl ?_
  refine v_iconst (v := nI 0) C dX4_copyFrom_12 (by decide) ?_
  refine v_aload_n C dX4_copyFrom_13 rfl ?_
  refine v_get C 1 dX4_copyFrom_14 wd1_49 hM5.o rfl (by decide) ⟨rfl, rfl, rfl⟩ rfl ?_
  refine v_iconst (v := nI 0) C dX4_copyFrom_17 (by decide) ?_
  refine v_iconst (v := nI 4) C dX4_copyFrom_18 (by decide) ?_
  refine v_copy (f' := mk_ar B 0) C 2 dX4_copyFrom_19 wd3_14 (by decide) hB5.a0 hM5.a0 (by omega) (by decide) (by decide) (by decide) (by decide) (fun _ _ => rfl) (Nat.le_of_ble_eq_true rfl) (by rw [hRm]; decide) (by rw [hRm]; decide) (fun i hi => hp_cpy0 hi) (fun h19 e19 g19 => ?_)
  have hM19 := hM5.wa (k := 0) (by decide) rfl e19 g19
  have hB19 := hB5.same (h' := h19) (fun a h1 h2 => g19 a (by omega))
  have hO19 : ∀ a, (a < o ∨ o + 11 ≤ a) → h19 a = h0 a := fun a ha => (g19 a (by omega)).trans (hO5 a ha)
  refine v_aload_n C dX4_copyFrom_22 rfl ?_
  refine v_get C 2 dX4_copyFrom_23 wd1_51 hB19.o rfl (by decide) ⟨rfl, rfl, rfl⟩ rfl ?_
  refine v_iconst (v := nI 0) C dX4_copyFrom_26 (by decide) ?_
  refine v_aload_n C dX4_copyFrom_27 rfl ?_
  refine v_get C 2 dX4_copyFrom_28 wd1_51 hM19.o rfl (by decide) ⟨rfl, rfl, rfl⟩ rfl ?_
  refine v_iconst (v := nI 0) C dX4_copyFrom_31 (by decide) ?_
  refine v_iconst (v := nI 4) C dX4_copyFrom_32 (by decide) ?_
  refine v_copy (f' := mk_ar B 1) C 2 dX4_copyFrom_33 wd3_14 (by decide) hB19.a1 hM19.a1 (by omega) (by decide) (by decide) (by decide) (by decide) (fun _ _ => rfl) (Nat.le_of_ble_eq_true rfl) (by rw [hRm]; decide) (by rw [hRm]; decide) (fun i hi => hp_cpy0 hi) (fun h33 e33 g33 => ?_)
  have hM33 := hM19.wa (k := 1) (by decide) rfl e33 g33
  have hB33 := hB19.same (h' := h33) (fun a h1 h2 => g33 a (by omega))
  have hO33 : ∀ a, (a < o ∨ o + 11 ≤ a) → h33 a = h0 a := fun a ha => (g33 a (by omega)).trans (hO19 a ha)
  refine v_aload_n C dX4_copyFrom_36 rfl ?_
  refine v_get C 3 dX4_copyFrom_37 wd1_53 hB33.o rfl (by decide) ⟨rfl, rfl, rfl⟩ rfl ?_
  refine v_iconst (v := nI 0) C dX4_copyFrom_40 (by decide) ?_
  refine v_aload_n C dX4_copyFrom_41 rfl ?_
  refine v_get C 3 dX4_copyFrom_42 wd1_53 hM33.o rfl (by decide) ⟨rfl, rfl, rfl⟩ rfl ?_
  refine v_iconst (v := nI 0) C dX4_copyFrom_45 (by decide) ?_
  refine v_iconst (v := nI 4) C dX4_copyFrom_46 (by decide) ?_
  refine v_copy (f' := mk_ar B 2) C 2 dX4_copyFrom_47 wd3_14 (by decide) hB33.a2 hM33.a2 (by omega) (by decide) (by decide) (by decide) (by decide) (fun _ _ => rfl) (Nat.le_of_ble_eq_true rfl) (by rw [hRm]; decide) (by rw [hRm]; decide) (fun i hi => hp_cpy0 hi) (fun h47 e47 g47 => ?_)
  have hM47 := hM33.wa (k := 2) (by decide) rfl e47 g47
  have hB47 := hB33.same (h' := h47) (fun a h1 h2 => g47 a (by omega))
  have hO47 : ∀ a, (a < o ∨ o + 11 ≤ a) → h47 a = h0 a := fun a ha => (g47 a (by omega)).trans (hO33 a ha)
  refine v_aload_n C dX4_copyFrom_50 rfl ?_
  refine v_aload_n C dX4_copyFrom_51 rfl ?_
  refine v_get (v := .int (nI (mk_tr B))) C 4 dX4_copyFrom_52 wd1_58 hB47.o rfl (by decide) ⟨rfl, rfl, rfl⟩ rfl ?_
  refine v_put C 4 dX4_copyFrom_55 wd1_58 hbase hM47.o rfl (by decide) ⟨rfl, rfl, rfl, rfl⟩ rfl rfl rfl (Nat.le_of_ble_eq_true rfl) (fun h55 e55 g55 => ?_)
  have hM55 := hM47.ptr e55 g55 hB.tr
  have hB55 := hB47.same (h' := h55) (fun a h1 h2 => g55 a (by omega))
  have hO55 : ∀ a, (a < o ∨ o + 11 ≤ a) → h55 a = h0 a := fun a ha => (g55 a (by omega)).trans (hO47 a ha)
  refine v_aload_n C dX4_copyFrom_58 rfl ?_
  refine v_get C 5 dX4_copyFrom_59 wd1_60 hB55.o rfl (by decide) ⟨rfl, rfl, rfl⟩ rfl ?_
  refine v_iconst (v := nI 0) C dX4_copyFrom_62 (by decide) ?_
  refine v_aload_n C dX4_copyFrom_63 rfl ?_
  refine v_get C 5 dX4_copyFrom_64 wd1_60 hM55.o rfl (by decide) ⟨rfl, rfl, rfl⟩ rfl ?_
  refine v_iconst (v := nI 0) C dX4_copyFrom_67 (by decide) ?_
  refine v_bipush (v := nI 6) C dX4_copyFrom_68 (by decide) ?_
  refine v_copy (f' := mk_ar B 3) C 2 dX4_copyFrom_70 wd3_14 (by decide) hB55.a3 hM55.a3 (by omega) (by decide) (by decide) (by decide) (by decide) (fun _ _ => rfl) (Nat.le_of_ble_eq_true rfl) (by rw [hRm]; decide) (by rw [hRm]; decide) (fun i hi => hp_cpy0 hi) (fun h70 e70 g70 => ?_)
  have hM70 := hM55.wa (k := 3) (by decide) rfl e70 g70
  have hB70 := hB55.same (h' := h70) (fun a h1 h2 => g70 a (by omega))
  have hO70 : ∀ a, (a < o ∨ o + 11 ≤ a) → h70 a = h0 a := fun a ha => (g70 a (by omega)).trans (hO55 a ha)
  refine v_aload_n C dX4_copyFrom_73 rfl ?_
  refine v_get C 6 dX4_copyFrom_74 wd1_62 hB70.o rfl (by decide) ⟨rfl, rfl, rfl⟩ rfl ?_
  refine v_iconst (v := nI 0) C dX4_copyFrom_77 (by decide) ?_
  refine v_aload_n C dX4_copyFrom_78 rfl ?_
  refine v_get C 6 dX4_copyFrom_79 wd1_62 hM70.o rfl (by decide) ⟨rfl, rfl, rfl⟩ rfl ?_
  refine v_iconst (v := nI 0) C dX4_copyFrom_82 (by decide) ?_
  refine v_bipush (v := nI 6) C dX4_copyFrom_83 (by decide) ?_
  refine v_copy (f' := mk_ar B 4) C 2 dX4_copyFrom_85 wd3_14 (by decide) hB70.a4 hM70.a4 (by omega) (by decide) (by decide) (by decide) (by decide) (fun _ _ => rfl) (Nat.le_of_ble_eq_true rfl) (by rw [hRm]; decide) (by rw [hRm]; decide) (fun i hi => hp_cpy0 hi) (fun h85 e85 g85 => ?_)
  have hM85 := hM70.wa (k := 4) (by decide) rfl e85 g85
  have hB85 := hB70.same (h' := h85) (fun a h1 h2 => g85 a (by omega))
  have hO85 : ∀ a, (a < o ∨ o + 11 ≤ a) → h85 a = h0 a := fun a ha => (g85 a (by omega)).trans (hO70 a ha)
  refine v_aload_n C dX4_copyFrom_88 rfl ?_
  refine v_aload_n C dX4_copyFrom_89 rfl ?_
  refine v_get (v := .int (nI (mk_ct B))) C 7 dX4_copyFrom_90 wd1_65 hB85.o rfl (by decide) ⟨rfl, rfl, rfl⟩ rfl ?_
  refine v_put C 7 dX4_copyFrom_93 wd1_65 hbase hM85.o rfl (by decide) ⟨rfl, rfl, rfl, rfl⟩ rfl rfl rfl (Nat.le_of_ble_eq_true rfl) (fun h93 e93 g93 => ?_)
  have hM93 := hM85.pct e93 g93 hB.ct
  have hB93 := hB85.same (h' := h93) (fun a h1 h2 => g93 a (by omega))
  have hO93 : ∀ a, (a < o ∨ o + 11 ≤ a) → h93 a = h0 a := fun a ha => (g93 a (by omega)).trans (hO85 a ha)
  refine v_aload_n C dX4_copyFrom_96 rfl ?_
  refine v_get C 8 dX4_copyFrom_97 wd1_67 hB93.o rfl (by decide) ⟨rfl, rfl, rfl⟩ rfl ?_
  refine v_iconst (v := nI 0) C dX4_copyFrom_100 (by decide) ?_
  refine v_aload_n C dX4_copyFrom_101 rfl ?_
  refine v_get C 8 dX4_copyFrom_102 wd1_67 hM93.o rfl (by decide) ⟨rfl, rfl, rfl⟩ rfl ?_
  refine v_iconst (v := nI 0) C dX4_copyFrom_105 (by decide) ?_
  refine v_bipush (v := nI 20) C dX4_copyFrom_106 (by decide) ?_
  refine v_copy (f' := mk_ar B 5) C 2 dX4_copyFrom_108 wd3_14 (by decide) hB93.a5 hM93.a5 (by omega) (by decide) (by decide) (by decide) (by decide) (fun _ _ => rfl) (Nat.le_of_ble_eq_true rfl) (by rw [hRm]; decide) (by rw [hRm]; decide) (fun i hi => hp_cpy0 hi) (fun h108 e108 g108 => ?_)
  have hM108 := hM93.wa (k := 5) (by decide) rfl e108 g108
  have hB108 := hB93.same (h' := h108) (fun a h1 h2 => g108 a (by omega))
  have hO108 : ∀ a, (a < o ∨ o + 11 ≤ a) → h108 a = h0 a := fun a ha => (g108 a (by omega)).trans (hO93 a ha)
  refine v_aload_n C dX4_copyFrom_111 rfl ?_
  refine v_get C 9 dX4_copyFrom_112 wd1_69 hB108.o rfl (by decide) ⟨rfl, rfl, rfl⟩ rfl ?_
  refine v_iconst (v := nI 0) C dX4_copyFrom_115 (by decide) ?_
  refine v_aload_n C dX4_copyFrom_116 rfl ?_
  refine v_get C 9 dX4_copyFrom_117 wd1_69 hM108.o rfl (by decide) ⟨rfl, rfl, rfl⟩ rfl ?_
  refine v_iconst (v := nI 0) C dX4_copyFrom_120 (by decide) ?_
  refine v_bipush (v := nI 20) C dX4_copyFrom_121 (by decide) ?_
  refine v_copy (f' := mk_ar B 6) C 2 dX4_copyFrom_123 wd3_14 (by decide) hB108.a6 hM108.a6 (by omega) (by decide) (by decide) (by decide) (by decide) (fun _ _ => rfl) (Nat.le_of_ble_eq_true rfl) (by rw [hRm]; decide) (by rw [hRm]; decide) (fun i hi => hp_cpy0 hi) (fun h123 e123 g123 => ?_)
  have hM123 := hM108.wa (k := 6) (by decide) rfl e123 g123
  have hB123 := hB108.same (h' := h123) (fun a h1 h2 => g123 a (by omega))
  have hO123 : ∀ a, (a < o ∨ o + 11 ≤ a) → h123 a = h0 a := fun a ha => (g123 a (by omega)).trans (hO108 a ha)
  refine v_aload_n C dX4_copyFrom_126 rfl ?_
  refine v_get C 10 dX4_copyFrom_127 wd1_71 hB123.o rfl (by decide) ⟨rfl, rfl, rfl⟩ rfl ?_
  refine v_iconst (v := nI 0) C dX4_copyFrom_130 (by decide) ?_
  refine v_aload_n C dX4_copyFrom_131 rfl ?_
  refine v_get C 10 dX4_copyFrom_132 wd1_71 hM123.o rfl (by decide) ⟨rfl, rfl, rfl⟩ rfl ?_
  refine v_iconst (v := nI 0) C dX4_copyFrom_135 (by decide) ?_
  refine v_bipush (v := nI 20) C dX4_copyFrom_136 (by decide) ?_
  refine v_copy (f' := mk_ar B 7) C 2 dX4_copyFrom_138 wd3_14 (by decide) hB123.a7 hM123.a7 (by omega) (by decide) (by decide) (by decide) (by decide) (fun _ _ => rfl) (Nat.le_of_ble_eq_true rfl) (by rw [hRm]; decide) (by rw [hRm]; decide) (fun i hi => hp_cpy0 hi) (fun h138 e138 g138 => ?_)
  have hM138 := hM123.wa (k := 7) (by decide) rfl e138 g138
  have hB138 := hB123.same (h' := h138) (fun a h1 h2 => g138 a (by omega))
  have hO138 : ∀ a, (a < o ∨ o + 11 ≤ a) → h138 a = h0 a := fun a ha => (g138 a (by omega)).trans (hO123 a ha)
  refine v_aload_n C dX4_copyFrom_141 rfl ?_
  refine v_get C 11 dX4_copyFrom_142 wd1_73 hB138.o rfl (by decide) ⟨rfl, rfl, rfl⟩ rfl ?_
  refine v_iconst (v := nI 0) C dX4_copyFrom_145 (by decide) ?_
  refine v_aload_n C dX4_copyFrom_146 rfl ?_
  refine v_get C 11 dX4_copyFrom_147 wd1_73 hM138.o rfl (by decide) ⟨rfl, rfl, rfl⟩ rfl ?_
  refine v_iconst (v := nI 0) C dX4_copyFrom_150 (by decide) ?_
  refine v_bipush (v := nI 20) C dX4_copyFrom_151 (by decide) ?_
  refine v_copy (f' := mk_ar B 8) C 2 dX4_copyFrom_153 wd3_14 (by decide) hB138.a8 hM138.a8 (by omega) (by decide) (by decide) (by decide) (by decide) (fun _ _ => rfl) (Nat.le_of_ble_eq_true rfl) (by rw [hRm]; decide) (by rw [hRm]; decide) (fun i hi => hp_cpy0 hi) (fun h153 e153 g153 => ?_)
  have hM153 := hM138.wa (k := 8) (by decide) rfl e153 g153
  have hB153 := hB138.same (h' := h153) (fun a h1 h2 => g153 a (by omega))
  have hO153 : ∀ a, (a < o ∨ o + 11 ≤ a) → h153 a = h0 a := fun a ha => (g153 a (by omega)).trans (hO138 a ha)
  refine v_aload_n C dX4_copyFrom_156 rfl ?_
  refine v_get C 12 dX4_copyFrom_157 wd1_75 hB153.o rfl (by decide) ⟨rfl, rfl, rfl⟩ rfl ?_
  refine v_iconst (v := nI 0) C dX4_copyFrom_160 (by decide) ?_
  refine v_aload_n C dX4_copyFrom_161 rfl ?_
  refine v_get C 12 dX4_copyFrom_162 wd1_75 hM153.o rfl (by decide) ⟨rfl, rfl, rfl⟩ rfl ?_
  refine v_iconst (v := nI 0) C dX4_copyFrom_165 (by decide) ?_
  refine v_bipush (v := nI 20) C dX4_copyFrom_166 (by decide) ?_
  refine v_copy (f' := mk_ar B 9) C 2 dX4_copyFrom_168 wd3_14 (by decide) hB153.a9 hM153.a9 (by omega) (by decide) (by decide) (by decide) (by decide) (fun _ _ => rfl) (Nat.le_of_ble_eq_true rfl) (by rw [hRm]; decide) (by rw [hRm]; decide) (fun i hi => hp_cpy0 hi) (fun h168 e168 g168 => ?_)
  have hM168 := hM153.wa (k := 9) (by decide) rfl e168 g168
  have hB168 := hB153.same (h' := h168) (fun a h1 h2 => g168 a (by omega))
  have hO168 : ∀ a, (a < o ∨ o + 11 ≤ a) → h168 a = h0 a := fun a ha => (g168 a (by omega)).trans (hO153 a ha)
  refine v_aload_n C dX4_copyFrom_171 rfl ?_
  refine v_aload_n C dX4_copyFrom_172 rfl ?_
  refine v_get C 13 dX4_copyFrom_173 wd1_77 hB168.o rfl (by decide) ⟨rfl, rfl, rfl⟩ rfl ?_
  refine v_put C 13 dX4_copyFrom_176 wd1_77 hbase hM168.o rfl (by decide) ⟨rfl, rfl, rfl, rfl⟩ rfl rfl rfl (Nat.le_of_ble_eq_true rfl) (fun h176 e176 g176 => ?_)
  have hM176 := hM168.pdy e176 g176
  have hB176 := hB168.same (h' := h176) (fun a h1 h2 => g176 a (by omega))
  have hO176 : ∀ a, (a < o ∨ o + 11 ≤ a) → h176 a = h0 a := fun a ha => (g176 a (by omega)).trans (hO168 a ha)
  refine v_aload_n C dX4_copyFrom_179 rfl ?_
  refine v_aload_n C dX4_copyFrom_180 rfl ?_
  refine v_get C 14 dX4_copyFrom_181 wd1_79 hB176.o rfl (by decide) ⟨rfl, rfl, rfl⟩ rfl ?_
  refine v_put C 14 dX4_copyFrom_184 wd1_79 hbase hM176.o rfl (by decide) ⟨rfl, rfl, rfl, rfl⟩ rfl rfl rfl (Nat.le_of_ble_eq_true rfl) (fun h184 e184 g184 => ?_)
  have hM184 := hM176.pfu e184 g184
  have hB184 := hB176.same (h' := h184) (fun a h1 h2 => g184 a (by omega))
  have hO184 : ∀ a, (a < o ∨ o + 11 ≤ a) → h184 a = h0 a := fun a ha => (g184 a (by omega)).trans (hO176 a ha)
  refine v_aload_n C dX4_copyFrom_187 rfl ?_
  refine v_aload_n C dX4_copyFrom_188 rfl ?_
  refine v_get C 15 dX4_copyFrom_189 wd1_81 hB184.o rfl (by decide) ⟨rfl, rfl, rfl⟩ rfl ?_
  refine v_put C 15 dX4_copyFrom_192 wd1_81 hbase hM184.o rfl (by decide) ⟨rfl, rfl, rfl, rfl⟩ rfl rfl rfl (Nat.le_of_ble_eq_true rfl) (fun h192 e192 g192 => ?_)
  have hM192 := hM184.plo e192 g192
  have hB192 := hB184.same (h' := h192) (fun a h1 h2 => g192 a (by omega))
  have hO192 : ∀ a, (a < o ∨ o + 11 ≤ a) → h192 a = h0 a := fun a ha => (g192 a (by omega)).trans (hO184 a ha)
  refine v_aload_n C dX4_copyFrom_195 rfl ?_
  refine v_aload_n C dX4_copyFrom_196 rfl ?_
  refine v_get C 16 dX4_copyFrom_197 wd1_83 hB192.o rfl (by decide) ⟨rfl, rfl, rfl⟩ rfl ?_
  refine v_put C 16 dX4_copyFrom_200 wd1_83 hbase hM192.o rfl (by decide) ⟨rfl, rfl, rfl, rfl⟩ rfl rfl rfl (Nat.le_of_ble_eq_true rfl) (fun h200 e200 g200 => ?_)
  have hM200 := hM192.pin e200 g200
  have hB200 := hB192.same (h' := h200) (fun a h1 h2 => g200 a (by omega))
  have hO200 : ∀ a, (a < o ∨ o + 11 ≤ a) → h200 a = h0 a := fun a ha => (g200 a (by omega)).trans (hO192 a ha)
  refine v_aload_n C dX4_copyFrom_203 rfl ?_
  refine v_aload_n C dX4_copyFrom_204 rfl ?_
  refine v_get C 17 dX4_copyFrom_205 wd1_85 hB200.o rfl (by decide) ⟨rfl, rfl, rfl⟩ rfl ?_
  refine v_put C 17 dX4_copyFrom_208 wd1_85 hbase hM200.o rfl (by decide) ⟨rfl, rfl, rfl, rfl⟩ rfl rfl rfl (Nat.le_of_ble_eq_true rfl) (fun h208 e208 g208 => ?_)
  have hM208 := hM200.pou e208 g208
  have hB208 := hB200.same (h' := h208) (fun a h1 h2 => g208 a (by omega))
  have hO208 : ∀ a, (a < o ∨ o + 11 ≤ a) → h208 a = h0 a := fun a ha => (g208 a (by omega)).trans (hO200 a ha)
  refine v_vret C E dX4_copyFrom_211 rfl ⟨rfl, rfl, hM208.to10 rfl (fun k hk => ?_) rfl, hO208⟩
  match k, hk with
  | 0, _ => rfl
  | 1, _ => rfl
  | 2, _ => rfl
  | 3, _ => rfl
  | 4, _ => rfl
  | 5, _ => rfl
  | 6, _ => rfl
  | 7, _ => rfl
  | 8, _ => rfl
  | 9, _ => rfl
abbrev mk_0 : mk_T := ((0, 0, 0), fun _ _ => 0, (0, 0, 0), (0, 0))
set_option maxHeartbeats 8000000 in
/-- a new market -/
theorem c_X4_init {G : hp_G} {l : Launch} (hl : l.stackTraces = false) {h0 : Nat → Option va_E} {o : Nat} (hbase : G.2.1 ≤ o) (hob : h0 o = some (.inr (6, [.int 0, .null, .null, .null, .int 0, .null, .null, .int 0, .null, .null, .null, .null, .null, .int 0, .int 0, .int 0, .long 0, .long 0]))) : Ct G l yX4_init cX4_init 1 none 1 10 124 [.ref o] (o + 1, h0) (hp_vq (fun τ => τ.1 = o + 11 ∧ Mk G τ.2 o mk_0 ∧ ∀ a, a < o → τ.2 a = h0 a)) := by
  refine Ct.of rfl hl (by simp [Value.category]) (Nat.le_of_ble_eq_true rfl) (fun K C E hRm hKl => ?_)
  subst hKl
  refine v_aload_n C dX4_init_0 rfl ?_
  refine v_objInit C dX4_init_1 wd1_45 wd1_38 hp_objcode (Nat.le_of_ble_eq_true rfl) (by rw [hRm]; exact ⟨by decide, by decide⟩) ?_
  refine v_aload_n C dX4_init_4 rfl ?_
  refine v_iconst (v := nI 4) C dX4_init_5 (by decide) ?_
  refine v_newa (atype := .int) (N := 4) C 2 (.inl (fun _ => 0)) dX4_init_6 wd1_124 (by decide) rfl (fun _ => rfl) (by decide) (by decide) (by decide) (Nat.le_of_ble_eq_true rfl) (Nat.le_of_ble_eq_true rfl) (fun h6 e6 g6 => ?_)
  refine v_putF C 1 dX4_init_8 wd1_49 hbase ((g6 _ (by omega)).trans hob) rfl (by decide) ⟨rfl, rfl, rfl, rfl⟩ rfl rfl rfl rfl rfl (Nat.le_of_ble_eq_true rfl) (fun h8 e8 g8 => ?_)
  refine v_aload_n C dX4_init_11 rfl ?_
  refine v_iconst (v := nI 4) C dX4_init_12 (by decide) ?_
  refine v_newa (atype := .int) (N := 4) C 2 (.inl (fun _ => 0)) dX4_init_13 wd1_124 (by decide) rfl (fun _ => rfl) (by decide) (by decide) (by decide) (Nat.le_of_ble_eq_true rfl) (Nat.le_of_ble_eq_true rfl) (fun h13 e13 g13 => ?_)
  refine v_putF C 2 dX4_init_15 wd1_51 hbase ((g13 _ (by omega)).trans e8) rfl (by decide) ⟨rfl, rfl, rfl, rfl⟩ rfl rfl rfl rfl rfl (Nat.le_of_ble_eq_true rfl) (fun h15 e15 g15 => ?_)
  refine v_aload_n C dX4_init_18 rfl ?_
  refine v_iconst (v := nI 4) C dX4_init_19 (by decide) ?_
  refine v_newa (atype := .int) (N := 4) C 2 (.inl (fun _ => 0)) dX4_init_20 wd1_124 (by decide) rfl (fun _ => rfl) (by decide) (by decide) (by decide) (Nat.le_of_ble_eq_true rfl) (Nat.le_of_ble_eq_true rfl) (fun h20 e20 g20 => ?_)
  refine v_putF C 3 dX4_init_22 wd1_53 hbase ((g20 _ (by omega)).trans e15) rfl (by decide) ⟨rfl, rfl, rfl, rfl⟩ rfl rfl rfl rfl rfl (Nat.le_of_ble_eq_true rfl) (fun h22 e22 g22 => ?_)
  refine v_aload_n C dX4_init_25 rfl ?_
  refine v_bipush (v := nI 6) C dX4_init_26 (by decide) ?_
  refine v_newa (atype := .int) (N := 6) C 2 (.inl (fun _ => 0)) dX4_init_28 wd1_124 (by decide) rfl (fun _ => rfl) (by decide) (by decide) (by decide) (Nat.le_of_ble_eq_true rfl) (Nat.le_of_ble_eq_true rfl) (fun h28 e28 g28 => ?_)
  refine v_putF C 5 dX4_init_30 wd1_60 hbase ((g28 _ (by omega)).trans e22) rfl (by decide) ⟨rfl, rfl, rfl, rfl⟩ rfl rfl rfl rfl rfl (Nat.le_of_ble_eq_true rfl) (fun h30 e30 g30 => ?_)
  refine v_aload_n C dX4_init_33 rfl ?_
  refine v_bipush (v := nI 6) C dX4_init_34 (by decide) ?_
  refine v_newa (atype := .int) (N := 6) C 2 (.inl (fun _ => 0)) dX4_init_36 wd1_124 (by decide) rfl (fun _ => rfl) (by decide) (by decide) (by decide) (Nat.le_of_ble_eq_true rfl) (Nat.le_of_ble_eq_true rfl) (fun h36 e36 g36 => ?_)
  refine v_putF C 6 dX4_init_38 wd1_62 hbase ((g36 _ (by omega)).trans e30) rfl (by decide) ⟨rfl, rfl, rfl, rfl⟩ rfl rfl rfl rfl rfl (Nat.le_of_ble_eq_true rfl) (fun h38 e38 g38 => ?_)
  refine v_aload_n C dX4_init_41 rfl ?_
  refine v_bipush (v := nI 20) C dX4_init_42 (by decide) ?_
  refine v_newa (atype := .int) (N := 20) C 2 (.inl (fun _ => 0)) dX4_init_44 wd1_124 (by decide) rfl (fun _ => rfl) (by decide) (by decide) (by decide) (Nat.le_of_ble_eq_true rfl) (Nat.le_of_ble_eq_true rfl) (fun h44 e44 g44 => ?_)
  refine v_putF C 8 dX4_init_46 wd1_67 hbase ((g44 _ (by omega)).trans e38) rfl (by decide) ⟨rfl, rfl, rfl, rfl⟩ rfl rfl rfl rfl rfl (Nat.le_of_ble_eq_true rfl) (fun h46 e46 g46 => ?_)
  refine v_aload_n C dX4_init_49 rfl ?_
  refine v_bipush (v := nI 20) C dX4_init_50 (by decide) ?_
  refine v_newa (atype := .int) (N := 20) C 2 (.inl (fun _ => 0)) dX4_init_52 wd1_124 (by decide) rfl (fun _ => rfl) (by decide) (by decide) (by decide) (Nat.le_of_ble_eq_true rfl) (Nat.le_of_ble_eq_true rfl) (fun h52 e52 g52 => ?_)
  refine v_putF C 9 dX4_init_54 wd1_69 hbase ((g52 _ (by omega)).trans e46) rfl (by decide) ⟨rfl, rfl, rfl, rfl⟩ rfl rfl rfl rfl rfl (Nat.le_of_ble_eq_true rfl) (fun h54 e54 g54 => ?_)
  refine v_aload_n C dX4_init_57 rfl ?_
  refine v_bipush (v := nI 20) C dX4_init_58 (by decide) ?_
  refine v_newa (atype := .int) (N := 20) C 2 (.inl (fun _ => 0)) dX4_init_60 wd1_124 (by decide) rfl (fun _ => rfl) (by decide) (by decide) (by decide) (Nat.le_of_ble_eq_true rfl) (Nat.le_of_ble_eq_true rfl) (fun h60 e60 g60 => ?_)
  refine v_putF C 10 dX4_init_62 wd1_71 hbase ((g60 _ (by omega)).trans e54) rfl (by decide) ⟨rfl, rfl, rfl, rfl⟩ rfl rfl rfl rfl rfl (Nat.le_of_ble_eq_true rfl) (fun h62 e62 g62 => ?_)
  refine v_aload_n C dX4_init_65 rfl ?_
  refine v_bipush (v := nI 20) C dX4_init_66 (by decide) ?_
  refine v_newa (atype := .int) (N := 20) C 2 (.inl (fun _ => 0)) dX4_init_68 wd1_124 (by decide) rfl (fun _ => rfl) (by decide) (by decide) (by decide) (Nat.le_of_ble_eq_true rfl) (Nat.le_of_ble_eq_true rfl) (fun h68 e68 g68 => ?_)
  refine v_putF C 11 dX4_init_70 wd1_73 hbase ((g68 _ (by omega)).trans e62) rfl (by decide) ⟨rfl, rfl, rfl, rfl⟩ rfl rfl rfl rfl rfl (Nat.le_of_ble_eq_true rfl) (fun h70 e70 g70 => ?_)
  refine v_aload_n C dX4_init_73 rfl ?_
  refine v_bipush (v := nI 20) C dX4_init_74 (by decide) ?_
  refine v_newa (atype := .int) (N := 20) C 2 (.inl (fun _ => 0)) dX4_init_76 wd1_124 (by decide) rfl (fun _ => rfl) (by decide) (by decide) (by decide) (Nat.le_of_ble_eq_true rfl) (Nat.le_of_ble_eq_true rfl) (fun h76 e76 g76 => ?_)
  refine v_putF C 12 dX4_init_78 wd1_75 hbase ((g76 _ (by omega)).trans e70) rfl (by decide) ⟨rfl, rfl, rfl, rfl⟩ rfl rfl rfl rfl rfl (Nat.le_of_ble_eq_true rfl) (fun h78 e78 g78 => ?_)
  refine v_vret C E dX4_init_81 rfl ⟨rfl, rfl, ⟨e78, fun k hk => ?_, by decide, by decide, by decide, hbase⟩, fun a ha => ?_⟩
  · match k, hk with
    | 0, _ => exact ((g78 _ (by omega)).trans ((g76 _ (by omega)).trans ((g70 _ (by omega)).trans ((g68 _ (by omega)).trans ((g62 _ (by omega)).trans ((g60 _ (by omega)).trans ((g54 _ (by omega)).trans ((g52 _ (by omega)).trans ((g46 _ (by omega)).trans ((g44 _ (by omega)).trans ((g38 _ (by omega)).trans ((g36 _ (by omega)).trans ((g30 _ (by omega)).trans ((g28 _ (by omega)).trans ((g22 _ (by omega)).trans ((g20 _ (by omega)).trans ((g15 _ (by omega)).trans ((g13 _ (by omega)).trans ((g8 _ (by omega)).trans e6)))))))))))))))))))
    | 1, _ => exact ((g78 _ (by omega)).trans ((g76 _ (by omega)).trans ((g70 _ (by omega)).trans ((g68 _ (by omega)).trans ((g62 _ (by omega)).trans ((g60 _ (by omega)).trans ((g54 _ (by omega)).trans ((g52 _ (by omega)).trans ((g46 _ (by omega)).trans ((g44 _ (by omega)).trans ((g38 _ (by omega)).trans ((g36 _ (by omega)).trans ((g30 _ (by omega)).trans ((g28 _ (by omega)).trans ((g22 _ (by omega)).trans ((g20 _ (by omega)).trans ((g15 _ (by omega)).trans e13)))))))))))))))))
    | 2, _ => exact ((g78 _ (by omega)).trans ((g76 _ (by omega)).trans ((g70 _ (by omega)).trans ((g68 _ (by omega)).trans ((g62 _ (by omega)).trans ((g60 _ (by omega)).trans ((g54 _ (by omega)).trans ((g52 _ (by omega)).trans ((g46 _ (by omega)).trans ((g44 _ (by omega)).trans ((g38 _ (by omega)).trans ((g36 _ (by omega)).trans ((g30 _ (by omega)).trans ((g28 _ (by omega)).trans ((g22 _ (by omega)).trans e20)))))))))))))))
    | 3, _ => exact ((g78 _ (by omega)).trans ((g76 _ (by omega)).trans ((g70 _ (by omega)).trans ((g68 _ (by omega)).trans ((g62 _ (by omega)).trans ((g60 _ (by omega)).trans ((g54 _ (by omega)).trans ((g52 _ (by omega)).trans ((g46 _ (by omega)).trans ((g44 _ (by omega)).trans ((g38 _ (by omega)).trans ((g36 _ (by omega)).trans ((g30 _ (by omega)).trans e28)))))))))))))
    | 4, _ => exact ((g78 _ (by omega)).trans ((g76 _ (by omega)).trans ((g70 _ (by omega)).trans ((g68 _ (by omega)).trans ((g62 _ (by omega)).trans ((g60 _ (by omega)).trans ((g54 _ (by omega)).trans ((g52 _ (by omega)).trans ((g46 _ (by omega)).trans ((g44 _ (by omega)).trans ((g38 _ (by omega)).trans e36)))))))))))
    | 5, _ => exact ((g78 _ (by omega)).trans ((g76 _ (by omega)).trans ((g70 _ (by omega)).trans ((g68 _ (by omega)).trans ((g62 _ (by omega)).trans ((g60 _ (by omega)).trans ((g54 _ (by omega)).trans ((g52 _ (by omega)).trans ((g46 _ (by omega)).trans e44)))))))))
    | 6, _ => exact ((g78 _ (by omega)).trans ((g76 _ (by omega)).trans ((g70 _ (by omega)).trans ((g68 _ (by omega)).trans ((g62 _ (by omega)).trans ((g60 _ (by omega)).trans ((g54 _ (by omega)).trans e52)))))))
    | 7, _ => exact ((g78 _ (by omega)).trans ((g76 _ (by omega)).trans ((g70 _ (by omega)).trans ((g68 _ (by omega)).trans ((g62 _ (by omega)).trans e60)))))
    | 8, _ => exact ((g78 _ (by omega)).trans ((g76 _ (by omega)).trans ((g70 _ (by omega)).trans e68)))
    | 9, _ => exact ((g78 _ (by omega)).trans e76)
  · exact ((g78 a (by omega)).trans ((g76 a (by omega)).trans ((g70 a (by omega)).trans ((g68 a (by omega)).trans ((g62 a (by omega)).trans ((g60 a (by omega)).trans ((g54 a (by omega)).trans ((g52 a (by omega)).trans ((g46 a (by omega)).trans ((g44 a (by omega)).trans ((g38 a (by omega)).trans ((g36 a (by omega)).trans ((g30 a (by omega)).trans ((g28 a (by omega)).trans ((g22 a (by omega)).trans ((g20 a (by omega)).trans ((g15 a (by omega)).trans ((g13 a (by omega)).trans ((g8 a (by omega)).trans (g6 a (by omega)))))))))))))))))))))

/-! ===== THE MODEL: ranks ===== -/
/-- how many have more money than k, or as much and come before, of the first c -/
def mo_rn (M : mk_T) (k c : Nat) : Nat := match c with
  | 0 => 0
  | c + 1 => if mk_ar M 3 k < mk_ar M 3 c ∨ (mk_ar M 3 c = mk_ar M 3 k ∧ c < k) then mo_rn M k c + 1 else mo_rn M k c + 0
theorem mo_rn_le (M : mk_T) (k : Nat) : ∀ c, mo_rn M k c ≤ c
  | 0 => Nat.le_refl _
  | c + 1 => by
    have h := mo_rn_le M k c
    unfold mo_rn
    split <;> omega
def mo_rk (M : mk_T) (rank : Int32) (e k : Nat) : Option Nat := match e with
  | 0 => none
  | e + 1 => if nI (mo_rn M k (mk_tr M)) = rank then some k else mo_rk M rank e (k + 1)
def mo_ra (R : Option Nat) : Int32 := match R with
  | none => nI 0
  | some k => nI k
def mo_rc (R : Option Nat) : Int32 := match R with
  | none => nI 1
  | some _ => nI 0
set_option maxHeartbeats 4000000 in
theorem loop1_X8_traderByMoney {G : hp_G} {K : hp_C} {n0 : Nat} {h0 : Nat → Option va_E} {y : Nat} {S : mo_T} (hS : Mo G h0 y S) {M : mk_T} (hg : Gr (S.1 0) M) {rank : Int32} {k : Nat} (hk6 : k < mk_tr M) (C : hp_Cx G K MX8_traderByMoney) (hRm : hp_Rm K = hp_rm 1 0 0) (hl : K.2.1.stackTraces = false) (hk : V G K MX8_traderByMoney 0 0 (n0, h0) 80 [some (.ref y), some (.int rank), some (.int (nI k)), some (.int (nI (mo_rn M k (mk_tr M)))), none] []) : ∀ (e c : Nat), c + e = mk_tr M → V G K MX8_traderByMoney 0 0 (n0, h0) 17 [some (.ref y), some (.int rank), some (.int (nI k)), some (.int (nI (mo_rn M k c))), some (.int (nI c))] [] := by
  have htr := hg.tr
  have hbase := hS.base
  intro e
  induction e with
  | zero =>
    intro c hc
    have e : c = mk_tr M := by omega
    subst e
    refine v_iload C dX8_traderByMoney_17 rfl ?_
    refine v_aload_n C dX8_traderByMoney_19 rfl ?_
    refine v_get C 0 dX8_traderByMoney_20 wd6_237 hS.o rfl (by decide) ⟨rfl, rfl, rfl⟩ rfl ?_
    refine v_iconst (v := nI 1) C dX8_traderByMoney_23 (by decide) ?_
    refine v_ialdN C dX8_traderByMoney_24 hS.a0 (by omega) (by decide) ?_
    rw [hg.g1]
    refine v_icmp_geN (tgt := 80) C dX8_traderByMoney_25 (by decide) (by omega) (by omega) (fun c25 => ?_) (fun c25 => absurd c25 (by omega))
    refine v_drop 4 ?_
    exact hk
  | succ e ih =>
    intro c hc
    have hcc : c < mk_tr M := by omega
    have hle := mo_rn_le M k c
    refine v_iload C dX8_traderByMoney_17 rfl ?_
    refine v_aload_n C dX8_traderByMoney_19 rfl ?_
    refine v_get C 0 dX8_traderByMoney_20 wd6_237 hS.o rfl (by decide) ⟨rfl, rfl, rfl⟩ rfl ?_
    refine v_iconst (v := nI 1) C dX8_traderByMoney_23 (by decide) ?_
    refine v_ialdN C dX8_traderByMoney_24 hS.a0 (by omega) (by decide) ?_
    rw [hg.g1]
    refine v_icmp_geN (tgt := 80) C dX8_traderByMoney_25 (by decide) (by omega) (by omega) (fun c25 => absurd c25 (by omega)) (fun c25 => ?_)
    refine v_iload_n C dX8_traderByMoney_28 rfl ?_
    refine v_aload_n C dX8_traderByMoney_29 rfl ?_
    refine v_iload C dX8_traderByMoney_30 rfl ?_
    refine v_iconst (v := nI 0) C dX8_traderByMoney_32 (by decide) ?_
    refine v_callVi C (c_X8_of hl hS (i := c) (k := 0) (by omega) (by decide)) dX8_traderByMoney_33 mX8_of rfl hS.o rfl wd7_117 rfl rfl (Nat.le_of_ble_eq_true rfl) (hp_rmle hRm (by decide) (by decide)) (Nat.le_of_ble_eq_true rfl) (Nat.le_of_ble_eq_true rfl) ?_
    rw [hg.of0 hcc]
    refine v_aload_n C dX8_traderByMoney_36 rfl ?_
    refine v_iload_n C dX8_traderByMoney_37 rfl ?_
    refine v_iconst (v := nI 0) C dX8_traderByMoney_38 (by decide) ?_
    refine v_callVi C (c_X8_of hl hS (i := k) (k := 0) (by omega) (by decide)) dX8_traderByMoney_39 mX8_of rfl hS.o rfl wd7_117 rfl rfl (Nat.le_of_ble_eq_true rfl) (hp_rmle hRm (by decide) (by decide)) (Nat.le_of_ble_eq_true rfl) (Nat.le_of_ble_eq_true rfl) ?_
    rw [hg.of0 hk6]
    refine v_icmp_gt (tgt := 67) C dX8_traderByMoney_42 (by decide) (fun c42 => ?_) (fun c42 => ?_)
    · have en : mo_rn M k (c + 1) = mo_rn M k c + 1 := if_pos (Or.inl c42)
      refine v_iconst (v := nI 1) C dX8_traderByMoney_67 (by decide) ?_
      refine v_goto (tgt := 72) C dX8_traderByMoney_68 (by decide) ?_
      refine v_iaddN C dX8_traderByMoney_72 ?_
      refine v_istore_n C dX8_traderByMoney_73 (by decide) ?_
      refine v_iincN C dX8_traderByMoney_74 (by decide) rfl ?_
      refine v_goto (tgt := 17) C dX8_traderByMoney_77 (by decide) ?_
      have hi := ih (c + 1) (by omega)
      rw [en] at hi
      exact hi
    · refine v_aload_n C dX8_traderByMoney_45 rfl ?_
      refine v_iload C dX8_traderByMoney_46 rfl ?_
      refine v_iconst (v := nI 0) C dX8_traderByMoney_48 (by decide) ?_
      refine v_callVi C (c_X8_of hl hS (i := c) (k := 0) (by omega) (by decide)) dX8_traderByMoney_49 mX8_of rfl hS.o rfl wd7_117 rfl rfl (Nat.le_of_ble_eq_true rfl) (hp_rmle hRm (by decide) (by decide)) (Nat.le_of_ble_eq_true rfl) (Nat.le_of_ble_eq_true rfl) ?_
      rw [hg.of0 hcc]
      refine v_aload_n C dX8_traderByMoney_52 rfl ?_
      refine v_iload_n C dX8_traderByMoney_53 rfl ?_
      refine v_iconst (v := nI 0) C dX8_traderByMoney_54 (by decide) ?_
      refine v_callVi C (c_X8_of hl hS (i := k) (k := 0) (by omega) (by decide)) dX8_traderByMoney_55 mX8_of rfl hS.o rfl wd7_117 rfl rfl (Nat.le_of_ble_eq_true rfl) (hp_rmle hRm (by decide) (by decide)) (Nat.le_of_ble_eq_true rfl) (Nat.le_of_ble_eq_true rfl) ?_
      rw [hg.of0 hk6]
      refine v_icmp_ne (tgt := 71) C dX8_traderByMoney_58 (by decide) (fun c58 => ?_) (fun c58 => ?_)
      · have en : mo_rn M k (c + 1) = mo_rn M k c + 0 := if_neg (fun z => z.elim c42 (fun y => c58 y.1))
        refine v_iconst (v := nI 0) C dX8_traderByMoney_71 (by decide) ?_
        refine v_iaddN C dX8_traderByMoney_72 ?_
        refine v_istore_n C dX8_traderByMoney_73 (by decide) ?_
        refine v_iincN C dX8_traderByMoney_74 (by decide) rfl ?_
        refine v_goto (tgt := 17) C dX8_traderByMoney_77 (by decide) ?_
        have hi := ih (c + 1) (by omega)
        rw [en] at hi
        exact hi
      · refine v_iload C dX8_traderByMoney_61 rfl ?_
        refine v_iload_n C dX8_traderByMoney_63 rfl ?_
        refine v_icmp_geN (tgt := 71) C dX8_traderByMoney_64 (by decide) (by omega) (by omega) (fun c64 => ?_) (fun c64 => ?_)
        · have en : mo_rn M k (c + 1) = mo_rn M k c + 0 := if_neg (fun z => z.elim c42 (fun y => absurd y.2 (by omega)))
          refine v_iconst (v := nI 0) C dX8_traderByMoney_71 (by decide) ?_
          refine v_iaddN C dX8_traderByMoney_72 ?_
          refine v_istore_n C dX8_traderByMoney_73 (by decide) ?_
          refine v_iincN C dX8_traderByMoney_74 (by decide) rfl ?_
          refine v_goto (tgt := 17) C dX8_traderByMoney_77 (by decide) ?_
          have hi := ih (c + 1) (by omega)
          rw [en] at hi
          exact hi
        · have en : mo_rn M k (c + 1) = mo_rn M k c + 1 := if_pos (Or.inr ⟨c58, by omega⟩)
          refine v_iconst (v := nI 1) C dX8_traderByMoney_67 (by decide) ?_
          refine v_goto (tgt := 72) C dX8_traderByMoney_68 (by decide) ?_
          refine v_iaddN C dX8_traderByMoney_72 ?_
          refine v_istore_n C dX8_traderByMoney_73 (by decide) ?_
          refine v_iincN C dX8_traderByMoney_74 (by decide) rfl ?_
          refine v_goto (tgt := 17) C dX8_traderByMoney_77 (by decide) ?_
          have hi := ih (c + 1) (by omega)
          rw [en] at hi
          exact hi
set_option maxHeartbeats 4000000 in
theorem loop_X8_traderByMoney {G : hp_G} {K : hp_C} {P : hp_P} {n0 : Nat} {h0 : Nat → Option va_E} {y : Nat} {S : mo_T} (hS : Mo G h0 y S) {M : mk_T} (hg : Gr (S.1 0) M) {rank : Int32} {Z : Option Nat} (C : hp_Cx G K MX8_traderByMoney) (E : hp_End G K P) (hRm : hp_Rm K = hp_rm 1 0 0) (hl : K.2.1.stackTraces = false) (hp : ∀ h, Mo G h y (mo_si S 3 (mo_rc Z)) → (∀ a, (a < y ∨ y + 13 ≤ a) → h a = h0 a) → P (.inl (some (.int (mo_ra Z)))) (n0, h)) : ∀ (e k : Nat), k + e = mk_tr M → mo_rk M rank e k = Z → V G K MX8_traderByMoney 0 0 (n0, h0) 2 [some (.ref y), some (.int rank), some (.int (nI k)), none, none] [] := by
  have htr := hg.tr
  have hbase := hS.base
  intro e
  induction e with
  | zero =>
    intro k hc hZ
    have e : k = mk_tr M := by omega
    subst e
    subst hZ
    refine v_iload_n C dX8_traderByMoney_2 rfl ?_
    refine v_aload_n C dX8_traderByMoney_3 rfl ?_
    refine v_get C 0 dX8_traderByMoney_4 wd6_237 hS.o rfl (by decide) ⟨rfl, rfl, rfl⟩ rfl ?_
    refine v_iconst (v := nI 1) C dX8_traderByMoney_7 (by decide) ?_
    refine v_ialdN C dX8_traderByMoney_8 hS.a0 (by omega) (by decide) ?_
    rw [hg.g1]
    refine v_icmp_geN (tgt := 101) C dX8_traderByMoney_9 (by decide) (by omega) (by omega) (fun c9 => ?_) (fun c9 => absurd c9 (by omega))
    refine v_aload_n C dX8_traderByMoney_101 rfl ?_
    refine v_iconst (v := nI 1) C dX8_traderByMoney_102 (by decide) ?_
    refine v_put C 7 dX8_traderByMoney_103 wd7_4 hbase hS.o rfl (by decide) ⟨rfl, rfl, rfl, rfl⟩ rfl rfl rfl (Nat.le_of_ble_eq_true rfl) (fun h103 e103 g103 => ?_)
    have Y103 := hS.i3 e103 g103
    have W103 : ∀ a, (a < y ∨ y + 13 ≤ a) → h103 a = _ := fun a ha => g103 a (by omega)
    refine v_iconst (v := nI 0) C dX8_traderByMoney_106 (by decide) ?_
    exact v_iret C E dX8_traderByMoney_107 rfl (hp _ Y103 W103)
  | succ e ih =>
    intro k hc hZ
    unfold mo_rk at hZ
    refine v_iload_n C dX8_traderByMoney_2 rfl ?_
    refine v_aload_n C dX8_traderByMoney_3 rfl ?_
    refine v_get C 0 dX8_traderByMoney_4 wd6_237 hS.o rfl (by decide) ⟨rfl, rfl, rfl⟩ rfl ?_
    refine v_iconst (v := nI 1) C dX8_traderByMoney_7 (by decide) ?_
    refine v_ialdN C dX8_traderByMoney_8 hS.a0 (by omega) (by decide) ?_
    rw [hg.g1]
    refine v_icmp_geN (tgt := 101) C dX8_traderByMoney_9 (by decide) (by omega) (by omega) (fun c9 => absurd c9 (by omega)) (fun c9 => ?_)
    refine v_iconst (v := nI 0) C dX8_traderByMoney_12 (by decide) ?_
    refine v_istore_n C dX8_traderByMoney_13 (by decide) ?_
    refine v_iconst (v := nI 0) C dX8_traderByMoney_14 (by decide) ?_
    refine v_istore C dX8_traderByMoney_15 (by decide) ?_
    refine loop1_X8_traderByMoney (rank := rank) (k := k) hS hg (by omega) C hRm hl ?_ (mk_tr M) 0 (Nat.zero_add _)
    refine v_iload_n C dX8_traderByMoney_80 rfl ?_
    refine v_iload_n C dX8_traderByMoney_81 rfl ?_
    refine v_icmp_eq (tgt := 88) C dX8_traderByMoney_82 (by decide) (fun c82 => ?_) (fun c82 => ?_)
    · have hZ2 := (if_pos c82).symm.trans hZ
      subst hZ2
      refine v_aload_n C dX8_traderByMoney_88 rfl ?_
      refine v_iconst (v := nI 0) C dX8_traderByMoney_89 (by decide) ?_
      refine v_put C 7 dX8_traderByMoney_90 wd7_4 hbase hS.o rfl (by decide) ⟨rfl, rfl, rfl, rfl⟩ rfl rfl rfl (Nat.le_of_ble_eq_true rfl) (fun h90 e90 g90 => ?_)
      have Y90 := hS.i3 e90 g90
      have W90 : ∀ a, (a < y ∨ y + 13 ≤ a) → h90 a = _ := fun a ha => g90 a (by omega)
      refine v_iload_n C dX8_traderByMoney_93 rfl ?_
      exact v_iret C E dX8_traderByMoney_94 rfl (hp _ Y90 W90)
    · refine v_goto (tgt := 95) C dX8_traderByMoney_85 (by decide) ?_
      refine v_iincN C dX8_traderByMoney_95 (by decide) rfl ?_
      refine v_goto (tgt := 2) C dX8_traderByMoney_98 (by decide) ?_
      refine v_drop 3 ?_
      exact ih (k + 1) (by omega) ((if_neg c82).symm.trans hZ)
set_option maxHeartbeats 8000000 in
/-- a trader by its rank -/
theorem c_X8_traderByMoney {G : hp_G} {l : Launch} (hl : l.stackTraces = false) {n0 : Nat} {h0 : Nat → Option va_E} {y : Nat} {S : mo_T} (hS : Mo G h0 y S) {M : mk_T} (hg : Gr (S.1 0) M) (rank : Int32) : Ct G l yX8_traderByMoney cX8_traderByMoney 5 (some .int) 1 0 0 [.ref y, .int rank] (n0, h0) (hp_iq (fun r τ => r = mo_ra (mo_rk M rank (mk_tr M) 0) ∧ τ.1 = n0 ∧ Mo G τ.2 y (mo_si S 3 (mo_rc (mo_rk M rank (mk_tr M) 0))) ∧ ∀ a, (a < y ∨ y + 13 ≤ a) → τ.2 a = h0 a)) := by
  have hbase := hS.base
  have hhz := hg.hz
  have htr := hg.tr
  have hct := hg.ct
  refine Ct.of rfl hl (by simp [Value.category]) (Nat.le_of_ble_eq_true rfl) (fun K C E hRm hKl => ?_)
  subst hKl
  refine v_iconst (v := nI 0) C dX8_traderByMoney_0 (by decide) ?_
  refine v_istore_n C dX8_traderByMoney_1 (by decide) ?_
  exact loop_X8_traderByMoney hS hg C E hRm hl (fun h H hO => ⟨_, rfl, rfl, rfl, H, hO⟩) (mk_tr M) 0 (Nat.zero_add _) rfl

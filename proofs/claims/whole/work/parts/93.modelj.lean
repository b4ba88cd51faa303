/-! ===== THE MODEL: how many are needed, how many can ===== -/
def ld_n (M : mk_T) (d c : Nat) : Nat := match c with
  | 0 => 0
  | c + 1 => if mo_po M (nI d) (nI c) = 0 then ld_n M d c + 0 else ld_n M d c + 1
def ld_a (M : mk_T) (d c : Nat) : Nat := match c with
  | 0 => 0
  | c + 1 => if ¬ c = d ∧ mk_ar M 4 c = nI 0 then ld_a M d c + 1 else ld_a M d c + 0
theorem ld_n_le (M : mk_T) (d : Nat) : ∀ c, ld_n M d c ≤ c
  | 0 => Nat.le_refl _
  | c + 1 => by
    have h := ld_n_le M d c
    unfold ld_n
    split <;> omega
theorem ld_a_le (M : mk_T) (d : Nat) : ∀ c, ld_a M d c ≤ c
  | 0 => Nat.le_refl _
  | c + 1 => by
    have h := ld_a_le M d c
    unfold ld_a
    split <;> omega
set_option maxHeartbeats 4000000 in
theorem loop1_X8_least {G : hp_G} {K : hp_C} {n0 : Nat} {h0 : Nat → Option va_E} {y : Nat} {S : mo_T} {M : mk_T} {d : Nat} (hg : Gr (S.1 0) M) (hbase : G.2.1 ≤ y) (hd : d < 6) (C : hp_Cx G K MX8_least) (hRm : hp_Rm K = hp_rm 3 0 0) (hl : K.2.1.stackTraces = false) (hk : ∀ h, Mo G h y (mo_si S 8 (nI (ld_n M d (mk_hz M)))) → (∀ a, (a < y ∨ y + 13 ≤ a) → h a = h0 a) → V G K MX8_least 0 0 (n0, h) 51 [some (.ref y), some (.int (nI d)), none, none, none, none, none] []) : ∀ (e c : Nat) (h : Nat → Option va_E), c + e = mk_hz M → Mo G h y (mo_si S 8 (nI (ld_n M d c))) → (∀ a, (a < y ∨ y + 13 ≤ a) → h a = h0 a) → V G K MX8_least 0 0 (n0, h) 12 [some (.ref y), some (.int (nI d)), some (.int (nI c)), none, none, none, none] [] := by
  have hhz := hg.hz
  have htr := hg.tr
  intro e
  induction e with
  | zero =>
    intro c h hc H hO
    have e : c = mk_hz M := by omega
    subst e
    refine v_iload_n C dX8_least_12 rfl ?_
    refine v_aload_n C dX8_least_13 rfl ?_
    refine v_get C 0 dX8_least_14 wd6_237 H.o rfl (by decide) ⟨rfl, rfl, rfl⟩ rfl ?_
    refine v_iconst (v := nI 0) C dX8_least_17 (by decide) ?_
    refine v_ialdN C dX8_least_18 H.a0 (by omega) (by decide) ?_
    rw [show (mo_si S 8 (nI (ld_n M d _))).1 0 = S.1 0 from rfl, hg.g0]
    refine v_icmp_geN (tgt := 51) C dX8_least_19 (by decide) (by omega) (by omega) (fun c19 => ?_) (fun c19 => absurd c19 (by omega))
    refine v_drop 2 ?_
    exact hk _ H hO
  | succ e ih =>
    intro c h hc H hO
    have hle := ld_n_le M d c
    refine v_iload_n C dX8_least_12 rfl ?_
    refine v_aload_n C dX8_least_13 rfl ?_
    refine v_get C 0 dX8_least_14 wd6_237 H.o rfl (by decide) ⟨rfl, rfl, rfl⟩ rfl ?_
    refine v_iconst (v := nI 0) C dX8_least_17 (by decide) ?_
    refine v_ialdN C dX8_least_18 H.a0 (by omega) (by decide) ?_
    rw [show (mo_si S 8 (nI (ld_n M d _))).1 0 = S.1 0 from rfl, hg.g0]
    refine v_icmp_geN (tgt := 51) C dX8_least_19 (by decide) (by omega) (by omega) (fun c19 => absurd c19 (by omega)) (fun c19 => ?_)
    refine v_aload_n C dX8_least_22 rfl ?_
    refine v_dup C dX8_least_23 rfl ?_
    refine v_get (v := .int (nI (ld_n M d c))) C 16 dX8_least_24 wd7_13 H.o rfl (by decide) ⟨rfl, rfl, rfl⟩ rfl ?_
    refine v_aload_n C dX8_least_27 rfl ?_
    refine v_iload_n C dX8_least_28 rfl ?_
    refine v_iload_n C dX8_least_29 rfl ?_
    refine v_callVi C (c_X8_position hl H hg (nI d) (nI c)) dX8_least_30 mX8_position rfl H.o rfl wd7_137 rfl rfl (Nat.le_of_ble_eq_true rfl) (hp_rmle hRm (by decide) (by decide)) (Nat.le_of_ble_eq_true rfl) (Nat.le_of_ble_eq_true rfl) ?_
    refine v_if_ne (tgt := 40) C dX8_least_33 (by decide) (fun c33 => ?_) (fun c33 => ?_)
    · have en : ld_n M d (c + 1) = ld_n M d c + 1 := if_neg c33
      refine v_iconst (v := nI 1) C dX8_least_40 (by decide) ?_
      refine v_iaddN C dX8_least_41 ?_
      refine v_put C 16 dX8_least_42 wd7_13 hbase H.o rfl (by decide) ⟨rfl, rfl, rfl, rfl⟩ rfl rfl rfl (Nat.le_of_ble_eq_true rfl) (fun h42 e42 g42 => ?_)
      have Y42 := H.i8 e42 g42
      have W42 : ∀ a, (a < y ∨ y + 13 ≤ a) → h42 a = _ := fun a ha => (g42 a (by omega)).trans (hO a ha)
      refine v_iincN C dX8_least_45 (by decide) rfl ?_
      refine v_goto (tgt := 12) C dX8_least_48 (by decide) ?_
      exact ih (c + 1) _ (by omega) (by rw [en]; exact Y42.to (Prod.ext rfl (mo_uu S.2 8 _ _))) W42
    · have en : ld_n M d (c + 1) = ld_n M d c + 0 := if_pos c33
      refine v_iconst (v := nI 0) C dX8_least_36 (by decide) ?_
      refine v_goto (tgt := 41) C dX8_least_37 (by decide) ?_
      refine v_iaddN C dX8_least_41 ?_
      refine v_put C 16 dX8_least_42 wd7_13 hbase H.o rfl (by decide) ⟨rfl, rfl, rfl, rfl⟩ rfl rfl rfl (Nat.le_of_ble_eq_true rfl) (fun h42 e42 g42 => ?_)
      have Y42 := H.i8 e42 g42
      have W42 : ∀ a, (a < y ∨ y + 13 ≤ a) → h42 a = _ := fun a ha => (g42 a (by omega)).trans (hO a ha)
      refine v_iincN C dX8_least_45 (by decide) rfl ?_
      refine v_goto (tgt := 12) C dX8_least_48 (by decide) ?_
      exact ih (c + 1) _ (by omega) (by rw [en]; exact Y42.to (Prod.ext rfl (mo_uu S.2 8 _ _))) W42
set_option maxHeartbeats 4000000 in
theorem loop2_X8_least {G : hp_G} {K : hp_C} {n0 : Nat} {h0 : Nat → Option va_E} {y : Nat} {S : mo_T} {M : mk_T} {d : Nat} (hg : Gr (S.1 0) M) (hbase : G.2.1 ≤ y) (hd : d < 6) (C : hp_Cx G K MX8_least) (hRm : hp_Rm K = hp_rm 3 0 0) (hl : K.2.1.stackTraces = false) (hk : ∀ h, Mo G h y (mo_si S 9 (nI (ld_a M d (mk_tr M)))) → (∀ a, (a < y ∨ y + 13 ≤ a) → h a = h0 a) → V G K MX8_least 0 0 (n0, h) 96 [some (.ref y), some (.int (nI d)), none, none, none, none, none] []) : ∀ (e c : Nat) (h : Nat → Option va_E), c + e = mk_tr M → Mo G h y (mo_si S 9 (nI (ld_a M d c))) → (∀ a, (a < y ∨ y + 13 ≤ a) → h a = h0 a) → V G K MX8_least 0 0 (n0, h) 53 [some (.ref y), some (.int (nI d)), some (.int (nI c)), none, none, none, none] [] := by
  have hhz := hg.hz
  have htr := hg.tr
  intro e
  induction e with
  | zero =>
    intro c h hc H hO
    have e : c = mk_tr M := by omega
    subst e
    refine v_iload_n C dX8_least_53 rfl ?_
    refine v_aload_n C dX8_least_54 rfl ?_
    refine v_get C 0 dX8_least_55 wd6_237 H.o rfl (by decide) ⟨rfl, rfl, rfl⟩ rfl ?_
    refine v_iconst (v := nI 1) C dX8_least_58 (by decide) ?_
    refine v_ialdN C dX8_least_59 H.a0 (by omega) (by decide) ?_
    rw [show (mo_si S 9 (nI (ld_a M d _))).1 0 = S.1 0 from rfl, hg.g1]
    refine v_icmp_geN (tgt := 96) C dX8_least_60 (by decide) (by omega) (by omega) (fun c60 => ?_) (fun c60 => absurd c60 (by omega))
    refine v_drop 2 ?_
    exact hk _ H hO
  | succ e ih =>
    intro c h hc H hO
    have hle := ld_a_le M d c
    refine v_iload_n C dX8_least_53 rfl ?_
    refine v_aload_n C dX8_least_54 rfl ?_
    refine v_get C 0 dX8_least_55 wd6_237 H.o rfl (by decide) ⟨rfl, rfl, rfl⟩ rfl ?_
    refine v_iconst (v := nI 1) C dX8_least_58 (by decide) ?_
    refine v_ialdN C dX8_least_59 H.a0 (by omega) (by decide) ?_
    rw [show (mo_si S 9 (nI (ld_a M d _))).1 0 = S.1 0 from rfl, hg.g1]
    refine v_icmp_geN (tgt := 96) C dX8_least_60 (by decide) (by omega) (by omega) (fun c60 => absurd c60 (by omega)) (fun c60 => ?_)
    refine v_aload_n C dX8_least_63 rfl ?_
    refine v_dup C dX8_least_64 rfl ?_
    refine v_get (v := .int (nI (ld_a M d c))) C 17 dX8_least_65 wd7_14 H.o rfl (by decide) ⟨rfl, rfl, rfl⟩ rfl ?_
    refine v_iload_n C dX8_least_68 rfl ?_
    refine v_iload_n C dX8_least_69 rfl ?_
    refine v_icmp_eqN (tgt := 85) C dX8_least_70 (by decide) (by omega) (by omega) (fun c70 => ?_) (fun c70 => ?_)
    · have en : ld_a M d (c + 1) = ld_a M d c + 0 := if_neg (fun z => z.1 (by omega))
      refine v_iconst (v := nI 0) C dX8_least_85 (by decide) ?_
      refine v_iaddN C dX8_least_86 ?_
      refine v_put C 17 dX8_least_87 wd7_14 hbase H.o rfl (by decide) ⟨rfl, rfl, rfl, rfl⟩ rfl rfl rfl (Nat.le_of_ble_eq_true rfl) (fun h87 e87 g87 => ?_)
      have Y87 := H.i9 e87 g87
      have W87 : ∀ a, (a < y ∨ y + 13 ≤ a) → h87 a = _ := fun a ha => (g87 a (by omega)).trans (hO a ha)
      refine v_iincN C dX8_least_90 (by decide) rfl ?_
      refine v_goto (tgt := 53) C dX8_least_93 (by decide) ?_
      exact ih (c + 1) _ (by omega) (by rw [en]; exact Y87.to (Prod.ext rfl (mo_uu S.2 9 _ _))) W87
    · refine v_aload_n C dX8_least_73 rfl ?_
      refine v_iload_n C dX8_least_74 rfl ?_
      refine v_callVi C (c_X8_isSound hl H hg (t := c) (by omega)) dX8_least_75 mX8_isSound rfl H.o rfl wd7_113 rfl rfl (Nat.le_of_ble_eq_true rfl) (hp_rmle hRm (by decide) (by decide)) (Nat.le_of_ble_eq_true rfl) (Nat.le_of_ble_eq_true rfl) ?_
      refine v_if_eqB (tgt := 85) C dX8_least_78 (by decide) (fun c78 => ?_) (fun c78 => ?_)
      · have en : ld_a M d (c + 1) = ld_a M d c + 0 := if_neg (fun z => c78 z.2)
        refine v_iconst (v := nI 0) C dX8_least_85 (by decide) ?_
        refine v_iaddN C dX8_least_86 ?_
        refine v_put C 17 dX8_least_87 wd7_14 hbase H.o rfl (by decide) ⟨rfl, rfl, rfl, rfl⟩ rfl rfl rfl (Nat.le_of_ble_eq_true rfl) (fun h87 e87 g87 => ?_)
        have Y87 := H.i9 e87 g87
        have W87 : ∀ a, (a < y ∨ y + 13 ≤ a) → h87 a = _ := fun a ha => (g87 a (by omega)).trans (hO a ha)
        refine v_iincN C dX8_least_90 (by decide) rfl ?_
        refine v_goto (tgt := 53) C dX8_least_93 (by decide) ?_
        exact ih (c + 1) _ (by omega) (by rw [en]; exact Y87.to (Prod.ext rfl (mo_uu S.2 9 _ _))) W87
      · have en : ld_a M d (c + 1) = ld_a M d c + 1 := if_pos ⟨by omega, c78⟩
        refine v_iconst (v := nI 1) C dX8_least_81 (by decide) ?_
        refine v_goto (tgt := 86) C dX8_least_82 (by decide) ?_
        refine v_iaddN C dX8_least_86 ?_
        refine v_put C 17 dX8_least_87 wd7_14 hbase H.o rfl (by decide) ⟨rfl, rfl, rfl, rfl⟩ rfl rfl rfl (Nat.le_of_ble_eq_true rfl) (fun h87 e87 g87 => ?_)
        have Y87 := H.i9 e87 g87
        have W87 : ∀ a, (a < y ∨ y + 13 ≤ a) → h87 a = _ := fun a ha => (g87 a (by omega)).trans (hO a ha)
        refine v_iincN C dX8_least_90 (by decide) rfl ?_
        refine v_goto (tgt := 53) C dX8_least_93 (by decide) ?_
        exact ih (c + 1) _ (by omega) (by rw [en]; exact Y87.to (Prod.ext rfl (mo_uu S.2 9 _ _))) W87

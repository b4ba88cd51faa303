/-! ===== THE MODEL: positions, margins ===== -/
def mo_pw (M : mk_T) (t on : Int32) (c : Nat) : Int32 := match c with
  | 0 => nI 0
  | c + 1 => if mk_ar M 7 c = on then mo_pw M t on c + (if mk_ar M 5 c = t then mk_ar M 8 c else if mk_ar M 6 c = t then -mk_ar M 8 c else nI 0) else mo_pw M t on c
def mo_po (M : mk_T) (t on : Int32) : Int32 := mo_pw M t on (mk_ct M)
def mo_mg (M : mk_T) (t : Int32) (c : Nat) : Int32 := match c with
  | 0 => nI 0
  | c + 1 => mo_mg M t c + hp_abs (mo_po M t (nI c)) * mk_ar M 2 c
def mo_va (M : mk_T) (t : Int32) (c : Nat) : Int32 := match c with
  | 0 => nI 0
  | c + 1 => mo_va M t c + mo_po M t (nI c) * (mk_ar M 1 c - mk_ar M 0 c)
theorem hp_b_z {p : Prop} [Decidable p] : ¬ hp_b p = 0 ↔ p := by
  by_cases z : p
  · rw [hp_b_t z]
    exact ⟨fun _ => z, fun _ => by decide⟩
  · rw [hp_b_f z]
    exact ⟨fun y => absurd rfl y, fun y => absurd y z⟩
set_option maxHeartbeats 8000000 in
/-- is it sound -/
theorem c_X8_isSound {G : hp_G} {l : Launch} (hl : l.stackTraces = false) {n0 : Nat} {h0 : Nat → Option va_E} {y : Nat} {S : mo_T} (hS : Mo G h0 y S) {M : mk_T} (hg : Gr (S.1 0) M) {t : Nat} (ht : t < mk_tr M) : Ct G l yX8_isSound cX8_isSound 2 (some .boolean) 1 0 0 [.ref y, .int (nI t)] (n0, h0) (hp_ri (hp_b (mk_ar M 4 t = nI 0)) (n0, h0)) := by
  have hbase := hS.base
  have hhz := hg.hz
  have htr := hg.tr
  have hct := hg.ct
  refine Ct.of rfl hl (by simp [Value.category]) (Nat.le_of_ble_eq_true rfl) (fun K C E hRm hKl => ?_)
  subst hKl
  refine v_aload_n C dX8_isSound_0 rfl ?_
  refine v_iload_n C dX8_isSound_1 rfl ?_
  refine v_iconst (v := nI 1) C dX8_isSound_2 (by decide) ?_
  refine v_callVi C (c_X8_of hl hS (i := t) (k := 1) (by omega) (by decide)) dX8_isSound_3 mX8_of rfl hS.o rfl wd7_117 rfl rfl (Nat.le_of_ble_eq_true rfl) (hp_rmle hRm (by decide) (by decide)) (Nat.le_of_ble_eq_true rfl) (Nat.le_of_ble_eq_true rfl) ?_
  rw [hg.of1 ht]
  refine v_if_neB (tgt := 22) C dX8_isSound_6 (by decide) (fun c6 => ?_) (fun c6 => ?_)
  · have hs : ¬ mk_ar M 4 t = nI 0 := fun z => absurd (z.symm.trans c6) (by decide)
    refine v_iconst (v := nI 0) C dX8_isSound_22 (by decide) ?_
    exact v_zret C E dX8_isSound_23 rfl rfl (hp_rib (by first | exact hp_b_t hs | exact hp_b_f hs))
  · refine v_aload_n C dX8_isSound_9 rfl ?_
    refine v_iload_n C dX8_isSound_10 rfl ?_
    refine v_iconst (v := nI 2) C dX8_isSound_11 (by decide) ?_
    refine v_callVi C (c_X8_of hl hS (i := t) (k := 2) (by omega) (by decide)) dX8_isSound_12 mX8_of rfl hS.o rfl wd7_117 rfl rfl (Nat.le_of_ble_eq_true rfl) (hp_rmle hRm (by decide) (by decide)) (Nat.le_of_ble_eq_true rfl) (Nat.le_of_ble_eq_true rfl) ?_
    rw [hg.of2 ht]
    refine v_if_neB (tgt := 22) C dX8_isSound_15 (by decide) (fun c15 => ?_) (fun c15 => ?_)
    · have hs : ¬ mk_ar M 4 t = nI 0 := fun z => absurd (z.symm.trans c15) (by decide)
      refine v_iconst (v := nI 0) C dX8_isSound_22 (by decide) ?_
      exact v_zret C E dX8_isSound_23 rfl rfl (hp_rib (by first | exact hp_b_t hs | exact hp_b_f hs))
    · have hs : mk_ar M 4 t = nI 0 := (hg.st ht).resolve_right (fun z => z.elim c6 c15)
      refine v_iconst (v := nI 1) C dX8_isSound_18 (by decide) ?_
      refine v_goto (tgt := 23) C dX8_isSound_19 (by decide) ?_
      exact v_zret C E dX8_isSound_23 rfl rfl (hp_rib (by first | exact hp_b_t hs | exact hp_b_f hs))
set_option maxHeartbeats 4000000 in
theorem loop_X8_position {G : hp_G} {K : hp_C} {P : hp_P} {n0 : Nat} {h0 : Nat → Option va_E} {y : Nat} {S : mo_T} (hS : Mo G h0 y S) {M : mk_T} (hg : Gr (S.1 0) M) {t on : Int32} (C : hp_Cx G K MX8_position) (E : hp_End G K P) (hRm : hp_Rm K = hp_rm 1 0 0) (hl : K.2.1.stackTraces = false) (hp : P (.inl (some (.int (mo_po M t on)))) (n0, h0)) : ∀ (e c : Nat), c + e = mk_ct M → V G K MX8_position 0 0 (n0, h0) 5 [some (.ref y), some (.int t), some (.int on), some (.int (mo_pw M t on c)), some (.int (nI c))] [] := by
  have hhz := hg.hz
  have htr := hg.tr
  have hct := hg.ct
  have hbase := hS.base
  intro e
  induction e with
  | zero =>
    intro c hc
    have e : c = mk_ct M := by omega
    subst e
    refine v_iload C dX8_position_5 rfl ?_
    refine v_aload_n C dX8_position_7 rfl ?_
    refine v_get C 0 dX8_position_8 wd6_237 hS.o rfl (by decide) ⟨rfl, rfl, rfl⟩ rfl ?_
    refine v_iconst (v := nI 2) C dX8_position_11 (by decide) ?_
    refine v_ialdN C dX8_position_12 hS.a0 (by omega) (by decide) ?_
    rw [hg.g2]
    refine v_icmp_geN (tgt := 83) C dX8_position_13 (by decide) (by omega) (by omega) (fun c13 => ?_) (fun c13 => absurd c13 (by omega))
    refine v_iload_n C dX8_position_83 rfl ?_
    exact v_iret C E dX8_position_84 rfl hp
  | succ e ih =>
    intro c hc
    have hcc : c < mk_ct M := by omega
    refine v_iload C dX8_position_5 rfl ?_
    refine v_aload_n C dX8_position_7 rfl ?_
    refine v_get C 0 dX8_position_8 wd6_237 hS.o rfl (by decide) ⟨rfl, rfl, rfl⟩ rfl ?_
    refine v_iconst (v := nI 2) C dX8_position_11 (by decide) ?_
    refine v_ialdN C dX8_position_12 hS.a0 (by omega) (by decide) ?_
    rw [hg.g2]
    refine v_icmp_geN (tgt := 83) C dX8_position_13 (by decide) (by omega) (by omega) (fun c13 => absurd c13 (by omega)) (fun c13 => ?_)
    refine v_aload_n C dX8_position_16 rfl ?_
    refine v_iload C dX8_position_17 rfl ?_
    refine v_iconst (v := nI 2) C dX8_position_19 (by decide) ?_
    refine v_callVi C (c_X8_by hl hS (i := c) (k := 2) (by omega) (by decide)) dX8_position_20 mX8_by rfl hS.o rfl wd7_141 rfl rfl (Nat.le_of_ble_eq_true rfl) (hp_rmle hRm (by decide) (by decide)) (Nat.le_of_ble_eq_true rfl) (Nat.le_of_ble_eq_true rfl) ?_
    rw [hg.by2 hcc]
    refine v_iload_n C dX8_position_23 rfl ?_
    refine v_icmp_eq (tgt := 30) C dX8_position_24 (by decide) (fun c24 => ?_) (fun c24 => ?_)
    · refine v_iload_n C dX8_position_30 rfl ?_
      refine v_aload_n C dX8_position_31 rfl ?_
      refine v_iload C dX8_position_32 rfl ?_
      refine v_iconst (v := nI 0) C dX8_position_34 (by decide) ?_
      refine v_callVi C (c_X8_by hl hS (i := c) (k := 0) (by omega) (by decide)) dX8_position_35 mX8_by rfl hS.o rfl wd7_141 rfl rfl (Nat.le_of_ble_eq_true rfl) (hp_rmle hRm (by decide) (by decide)) (Nat.le_of_ble_eq_true rfl) (Nat.le_of_ble_eq_true rfl) ?_
      rw [hg.by0 hcc]
      refine v_iload_n C dX8_position_38 rfl ?_
      refine v_icmp_ne (tgt := 52) C dX8_position_39 (by decide) (fun c39 => ?_) (fun c39 => ?_)
      · refine v_aload_n C dX8_position_52 rfl ?_
        refine v_iload C dX8_position_53 rfl ?_
        refine v_iconst (v := nI 1) C dX8_position_55 (by decide) ?_
        refine v_callVi C (c_X8_by hl hS (i := c) (k := 1) (by omega) (by decide)) dX8_position_56 mX8_by rfl hS.o rfl wd7_141 rfl rfl (Nat.le_of_ble_eq_true rfl) (hp_rmle hRm (by decide) (by decide)) (Nat.le_of_ble_eq_true rfl) (Nat.le_of_ble_eq_true rfl) ?_
        rw [hg.by1 hcc]
        refine v_iload_n C dX8_position_59 rfl ?_
        refine v_icmp_ne (tgt := 74) C dX8_position_60 (by decide) (fun c60 => ?_) (fun c60 => ?_)
        · have en : mo_pw M t on (c + 1) = mo_pw M t on c + nI 0 := (if_pos c24).trans (by rw [if_neg c39, if_neg c60])
          refine v_iconst (v := nI 0) C dX8_position_74 (by decide) ?_
          refine v_iadd C dX8_position_75 ?_
          refine v_istore_n C dX8_position_76 (by decide) ?_
          refine v_iincN C dX8_position_77 (by decide) rfl ?_
          refine v_goto (tgt := 5) C dX8_position_80 (by decide) ?_
          have hi := ih (c + 1) (by omega)
          rw [en] at hi
          exact hi
        · have en : mo_pw M t on (c + 1) = mo_pw M t on c + -mk_ar M 8 c := (if_pos c24).trans (by rw [if_neg c39, if_pos c60])
          refine v_aload_n C dX8_position_63 rfl ?_
          refine v_iload C dX8_position_64 rfl ?_
          refine v_iconst (v := nI 3) C dX8_position_66 (by decide) ?_
          refine v_callVi C (c_X8_by hl hS (i := c) (k := 3) (by omega) (by decide)) dX8_position_67 mX8_by rfl hS.o rfl wd7_141 rfl rfl (Nat.le_of_ble_eq_true rfl) (hp_rmle hRm (by decide) (by decide)) (Nat.le_of_ble_eq_true rfl) (Nat.le_of_ble_eq_true rfl) ?_
          rw [hg.by3 hcc]
          refine v_ineg C dX8_position_70 ?_
          refine v_goto (tgt := 75) C dX8_position_71 (by decide) ?_
          refine v_iadd C dX8_position_75 ?_
          refine v_istore_n C dX8_position_76 (by decide) ?_
          refine v_iincN C dX8_position_77 (by decide) rfl ?_
          refine v_goto (tgt := 5) C dX8_position_80 (by decide) ?_
          have hi := ih (c + 1) (by omega)
          rw [en] at hi
          exact hi
      · have en : mo_pw M t on (c + 1) = mo_pw M t on c + mk_ar M 8 c := (if_pos c24).trans (by rw [if_pos c39])
        refine v_aload_n C dX8_position_42 rfl ?_
        refine v_iload C dX8_position_43 rfl ?_
        refine v_iconst (v := nI 3) C dX8_position_45 (by decide) ?_
        refine v_callVi C (c_X8_by hl hS (i := c) (k := 3) (by omega) (by decide)) dX8_position_46 mX8_by rfl hS.o rfl wd7_141 rfl rfl (Nat.le_of_ble_eq_true rfl) (hp_rmle hRm (by decide) (by decide)) (Nat.le_of_ble_eq_true rfl) (Nat.le_of_ble_eq_true rfl) ?_
        rw [hg.by3 hcc]
        refine v_goto (tgt := 75) C dX8_position_49 (by decide) ?_
        refine v_iadd C dX8_position_75 ?_
        refine v_istore_n C dX8_position_76 (by decide) ?_
        refine v_iincN C dX8_position_77 (by decide) rfl ?_
        refine v_goto (tgt := 5) C dX8_position_80 (by decide) ?_
        have hi := ih (c + 1) (by omega)
        rw [en] at hi
        exact hi
    · have en : mo_pw M t on (c + 1) = mo_pw M t on c := if_neg c24
      refine v_goto (tgt := 77) C dX8_position_27 (by decide) ?_
      refine v_iincN C dX8_position_77 (by decide) rfl ?_
      refine v_goto (tgt := 5) C dX8_position_80 (by decide) ?_
      have hi := ih (c + 1) (by omega)
      rw [en] at hi
      exact hi
set_option maxHeartbeats 8000000 in
/-- a position -/
theorem c_X8_position {G : hp_G} {l : Launch} (hl : l.stackTraces = false) {n0 : Nat} {h0 : Nat → Option va_E} {y : Nat} {S : mo_T} (hS : Mo G h0 y S) {M : mk_T} (hg : Gr (S.1 0) M) (t on : Int32) : Ct G l yX8_position cX8_position 5 (some .int) 1 0 0 [.ref y, .int t, .int on] (n0, h0) (hp_ri (mo_po M t on) (n0, h0)) := by
  have hbase := hS.base
  have hhz := hg.hz
  have htr := hg.tr
  have hct := hg.ct
  refine Ct.of rfl hl (by simp [Value.category]) (Nat.le_of_ble_eq_true rfl) (fun K C E hRm hKl => ?_)
  subst hKl
  refine v_iconst (v := nI 0) C dX8_position_0 (by decide) ?_
  refine v_istore_n C dX8_position_1 (by decide) ?_
  refine v_iconst (v := nI 0) C dX8_position_2 (by decide) ?_
  refine v_istore C dX8_position_3 (by decide) ?_
  exact loop_X8_position hS hg C E hRm hl ⟨rfl, rfl⟩ (mk_ct M) 0 (Nat.zero_add _)
set_option maxHeartbeats 4000000 in
theorem loop_X8_margin {G : hp_G} {K : hp_C} {P : hp_P} {n0 : Nat} {h0 : Nat → Option va_E} {y : Nat} {S : mo_T} (hS : Mo G h0 y S) {M : mk_T} (hg : Gr (S.1 0) M) {t : Int32} (C : hp_Cx G K MX8_margin) (E : hp_End G K P) (hRm : hp_Rm K = hp_rm 2 0 0) (hl : K.2.1.stackTraces = false) (hp : P (.inl (some (.int (mo_mg M t (mk_hz M))))) (n0, h0)) : ∀ (e c : Nat), c + e = mk_hz M → V G K MX8_margin 0 0 (n0, h0) 4 [some (.ref y), some (.int t), some (.int (mo_mg M t c)), some (.int (nI c))] [] := by
  have hhz := hg.hz
  have htr := hg.tr
  have hct := hg.ct
  have hbase := hS.base
  intro e
  induction e with
  | zero =>
    intro c hc
    have e : c = mk_hz M := by omega
    subst e
    refine v_iload_n C dX8_margin_4 rfl ?_
    refine v_aload_n C dX8_margin_5 rfl ?_
    refine v_get C 0 dX8_margin_6 wd6_237 hS.o rfl (by decide) ⟨rfl, rfl, rfl⟩ rfl ?_
    refine v_iconst (v := nI 0) C dX8_margin_9 (by decide) ?_
    refine v_ialdN C dX8_margin_10 hS.a0 (by omega) (by decide) ?_
    rw [hg.g0]
    refine v_icmp_geN (tgt := 39) C dX8_margin_11 (by decide) (by omega) (by omega) (fun c11 => ?_) (fun c11 => absurd c11 (by omega))
    refine v_iload_n C dX8_margin_39 rfl ?_
    exact v_iret C E dX8_margin_40 rfl hp
  | succ e ih =>
    intro c hc
    have hcc : c < mk_hz M := by omega
    refine v_iload_n C dX8_margin_4 rfl ?_
    refine v_aload_n C dX8_margin_5 rfl ?_
    refine v_get C 0 dX8_margin_6 wd6_237 hS.o rfl (by decide) ⟨rfl, rfl, rfl⟩ rfl ?_
    refine v_iconst (v := nI 0) C dX8_margin_9 (by decide) ?_
    refine v_ialdN C dX8_margin_10 hS.a0 (by omega) (by decide) ?_
    rw [hg.g0]
    refine v_icmp_geN (tgt := 39) C dX8_margin_11 (by decide) (by omega) (by omega) (fun c11 => absurd c11 (by omega)) (fun c11 => ?_)
    refine v_iload_n C dX8_margin_14 rfl ?_
    refine v_aload_n C dX8_margin_15 rfl ?_
    refine v_iload_n C dX8_margin_16 rfl ?_
    refine v_iload_n C dX8_margin_17 rfl ?_
    refine v_callVi C (c_X8_position hl hS hg t (nI c)) dX8_margin_18 mX8_position rfl hS.o rfl wd7_137 rfl rfl (Nat.le_of_ble_eq_true rfl) (hp_rmle hRm (by decide) (by decide)) (Nat.le_of_ble_eq_true rfl) (Nat.le_of_ble_eq_true rfl) ?_
    refine v_callSi C (c_X8_size hl _) dX8_margin_21 mX8_size wd7_145 rfl rfl (Nat.le_of_ble_eq_true rfl) (hp_rmle hRm (by decide) (by decide)) (Nat.le_of_ble_eq_true rfl) (Nat.le_of_ble_eq_true rfl) ?_
    refine v_aload_n C dX8_margin_24 rfl ?_
    refine v_iload_n C dX8_margin_25 rfl ?_
    refine v_iconst (v := nI 2) C dX8_margin_26 (by decide) ?_
    refine v_callVi C (c_X8_on hl hS (i := c) (k := 2) (by omega) (by decide)) dX8_margin_27 mX8_on rfl hS.o rfl wd7_148 rfl rfl (Nat.le_of_ble_eq_true rfl) (hp_rmle hRm (by decide) (by decide)) (Nat.le_of_ble_eq_true rfl) (Nat.le_of_ble_eq_true rfl) ?_
    rw [hg.on2 hcc]
    refine v_imul C dX8_margin_30 ?_
    refine v_iadd C dX8_margin_31 ?_
    refine v_istore_n C dX8_margin_32 (by decide) ?_
    refine v_iincN C dX8_margin_33 (by decide) rfl ?_
    refine v_goto (tgt := 4) C dX8_margin_36 (by decide) ?_
    exact ih (c + 1) (by omega)
set_option maxHeartbeats 8000000 in
/-- X8_margin -/
theorem c_X8_margin {G : hp_G} {l : Launch} (hl : l.stackTraces = false) {n0 : Nat} {h0 : Nat → Option va_E} {y : Nat} {S : mo_T} (hS : Mo G h0 y S) {M : mk_T} (hg : Gr (S.1 0) M) (t : Int32) : Ct G l yX8_margin cX8_margin 4 (some .int) 2 0 0 [.ref y, .int t] (n0, h0) (hp_ri (mo_mg M t (mk_hz M)) (n0, h0)) := by
  have hbase := hS.base
  have hhz := hg.hz
  have htr := hg.tr
  have hct := hg.ct
  refine Ct.of rfl hl (by simp [Value.category]) (Nat.le_of_ble_eq_true rfl) (fun K C E hRm hKl => ?_)
  subst hKl
  refine v_iconst (v := nI 0) C dX8_margin_0 (by decide) ?_
  refine v_istore_n C dX8_margin_1 (by decide) ?_
  refine v_iconst (v := nI 0) C dX8_margin_2 (by decide) ?_
  refine v_istore_n C dX8_margin_3 (by decide) ?_
  exact loop_X8_margin hS hg C E hRm hl ⟨rfl, rfl⟩ (mk_hz M) 0 (Nat.zero_add _)
set_option maxHeartbeats 4000000 in
theorem loop_X8_variation {G : hp_G} {K : hp_C} {P : hp_P} {n0 : Nat} {h0 : Nat → Option va_E} {y : Nat} {S : mo_T} (hS : Mo G h0 y S) {M : mk_T} (hg : Gr (S.1 0) M) {t : Int32} (C : hp_Cx G K MX8_variation) (E : hp_End G K P) (hRm : hp_Rm K = hp_rm 2 0 0) (hl : K.2.1.stackTraces = false) (hp : P (.inl (some (.int (mo_va M t (mk_hz M))))) (n0, h0)) : ∀ (e c : Nat), c + e = mk_hz M → V G K MX8_variation 0 0 (n0, h0) 4 [some (.ref y), some (.int t), some (.int (mo_va M t c)), some (.int (nI c))] [] := by
  have hhz := hg.hz
  have htr := hg.tr
  have hct := hg.ct
  have hbase := hS.base
  intro e
  induction e with
  | zero =>
    intro c hc
    have e : c = mk_hz M := by omega
    subst e
    refine v_iload_n C dX8_variation_4 rfl ?_
    refine v_aload_n C dX8_variation_5 rfl ?_
    refine v_get C 0 dX8_variation_6 wd6_237 hS.o rfl (by decide) ⟨rfl, rfl, rfl⟩ rfl ?_
    refine v_iconst (v := nI 0) C dX8_variation_9 (by decide) ?_
    refine v_ialdN C dX8_variation_10 hS.a0 (by omega) (by decide) ?_
    rw [hg.g0]
    refine v_icmp_geN (tgt := 43) C dX8_variation_11 (by decide) (by omega) (by omega) (fun c11 => ?_) (fun c11 => absurd c11 (by omega))
    refine v_iload_n C dX8_variation_43 rfl ?_
    exact v_iret C E dX8_variation_44 rfl hp
  | succ e ih =>
    intro c hc
    have hcc : c < mk_hz M := by omega
    refine v_iload_n C dX8_variation_4 rfl ?_
    refine v_aload_n C dX8_variation_5 rfl ?_
    refine v_get C 0 dX8_variation_6 wd6_237 hS.o rfl (by decide) ⟨rfl, rfl, rfl⟩ rfl ?_
    refine v_iconst (v := nI 0) C dX8_variation_9 (by decide) ?_
    refine v_ialdN C dX8_variation_10 hS.a0 (by omega) (by decide) ?_
    rw [hg.g0]
    refine v_icmp_geN (tgt := 43) C dX8_variation_11 (by decide) (by omega) (by omega) (fun c11 => absurd c11 (by omega)) (fun c11 => ?_)
    refine v_iload_n C dX8_variation_14 rfl ?_
    refine v_aload_n C dX8_variation_15 rfl ?_
    refine v_iload_n C dX8_variation_16 rfl ?_
    refine v_iload_n C dX8_variation_17 rfl ?_
    refine v_callVi C (c_X8_position hl hS hg t (nI c)) dX8_variation_18 mX8_position rfl hS.o rfl wd7_137 rfl rfl (Nat.le_of_ble_eq_true rfl) (hp_rmle hRm (by decide) (by decide)) (Nat.le_of_ble_eq_true rfl) (Nat.le_of_ble_eq_true rfl) ?_
    refine v_aload_n C dX8_variation_21 rfl ?_
    refine v_iload_n C dX8_variation_22 rfl ?_
    refine v_iconst (v := nI 1) C dX8_variation_23 (by decide) ?_
    refine v_callVi C (c_X8_on hl hS (i := c) (k := 1) (by omega) (by decide)) dX8_variation_24 mX8_on rfl hS.o rfl wd7_148 rfl rfl (Nat.le_of_ble_eq_true rfl) (hp_rmle hRm (by decide) (by decide)) (Nat.le_of_ble_eq_true rfl) (Nat.le_of_ble_eq_true rfl) ?_
    rw [hg.on1 hcc]
    refine v_aload_n C dX8_variation_27 rfl ?_
    refine v_iload_n C dX8_variation_28 rfl ?_
    refine v_iconst (v := nI 0) C dX8_variation_29 (by decide) ?_
    refine v_callVi C (c_X8_on hl hS (i := c) (k := 0) (by omega) (by decide)) dX8_variation_30 mX8_on rfl hS.o rfl wd7_148 rfl rfl (Nat.le_of_ble_eq_true rfl) (hp_rmle hRm (by decide) (by decide)) (Nat.le_of_ble_eq_true rfl) (Nat.le_of_ble_eq_true rfl) ?_
    rw [hg.on0 hcc]
    refine v_isub C dX8_variation_33 ?_
    refine v_imul C dX8_variation_34 ?_
    refine v_iadd C dX8_variation_35 ?_
    refine v_istore_n C dX8_variation_36 (by decide) ?_
    refine v_iincN C dX8_variation_37 (by decide) rfl ?_
    refine v_goto (tgt := 4) C dX8_variation_40 (by decide) ?_
    exact ih (c + 1) (by omega)
set_option maxHeartbeats 8000000 in
/-- X8_variation -/
theorem c_X8_variation {G : hp_G} {l : Launch} (hl : l.stackTraces = false) {n0 : Nat} {h0 : Nat → Option va_E} {y : Nat} {S : mo_T} (hS : Mo G h0 y S) {M : mk_T} (hg : Gr (S.1 0) M) (t : Int32) : Ct G l yX8_variation cX8_variation 4 (some .int) 2 0 0 [.ref y, .int t] (n0, h0) (hp_ri (mo_va M t (mk_hz M)) (n0, h0)) := by
  have hbase := hS.base
  have hhz := hg.hz
  have htr := hg.tr
  have hct := hg.ct
  refine Ct.of rfl hl (by simp [Value.category]) (Nat.le_of_ble_eq_true rfl) (fun K C E hRm hKl => ?_)
  subst hKl
  refine v_iconst (v := nI 0) C dX8_variation_0 (by decide) ?_
  refine v_istore_n C dX8_variation_1 (by decide) ?_
  refine v_iconst (v := nI 0) C dX8_variation_2 (by decide) ?_
  refine v_istore_n C dX8_variation_3 (by decide) ?_
  exact loop_X8_variation hS hg C E hRm hl ⟨rfl, rfl⟩ (mk_hz M) 0 (Nat.zero_add _)
set_option maxHeartbeats 8000000 in
/-- is it short -/
theorem c_X8_isShort {G : hp_G} {l : Launch} (hl : l.stackTraces = false) {n0 : Nat} {h0 : Nat → Option va_E} {y : Nat} {S : mo_T} (hS : Mo G h0 y S) {M : mk_T} (hg : Gr (S.1 0) M) {t : Nat} (ht : t < mk_tr M) (less : Int32) : Ct G l yX8_isShort cX8_isShort 3 (some .boolean) 3 0 0 [.ref y, .int (nI t), .int less] (n0, h0) (hp_ri (hp_b (mk_ar M 3 t - less < mo_mg M (nI t) (mk_hz M))) (n0, h0)) := by
  have hbase := hS.base
  have hhz := hg.hz
  have htr := hg.tr
  have hct := hg.ct
  refine Ct.of rfl hl (by simp [Value.category]) (Nat.le_of_ble_eq_true rfl) (fun K C E hRm hKl => ?_)
  subst hKl
  refine v_aload_n C dX8_isShort_0 rfl ?_
  refine v_iload_n C dX8_isShort_1 rfl ?_
  refine v_iconst (v := nI 0) C dX8_isShort_2 (by decide) ?_
  refine v_callVi C (c_X8_of hl hS (i := t) (k := 0) (by omega) (by decide)) dX8_isShort_3 mX8_of rfl hS.o rfl wd7_117 rfl rfl (Nat.le_of_ble_eq_true rfl) (hp_rmle hRm (by decide) (by decide)) (Nat.le_of_ble_eq_true rfl) (Nat.le_of_ble_eq_true rfl) ?_
  rw [hg.of0 ht]
  refine v_iload_n C dX8_isShort_6 rfl ?_
  refine v_isub C dX8_isShort_7 ?_
  refine v_aload_n C dX8_isShort_8 rfl ?_
  refine v_iload_n C dX8_isShort_9 rfl ?_
  refine v_callVi C (c_X8_margin hl hS hg (nI t)) dX8_isShort_10 mX8_margin rfl hS.o rfl wd7_133 rfl rfl (Nat.le_of_ble_eq_true rfl) (hp_rmle hRm (by decide) (by decide)) (Nat.le_of_ble_eq_true rfl) (Nat.le_of_ble_eq_true rfl) ?_
  refine v_icmp_ge (tgt := 20) C dX8_isShort_13 (by decide) (fun c13 => ?_) (fun c13 => ?_)
  · refine v_iconst (v := nI 0) C dX8_isShort_20 (by decide) ?_
    exact v_zret C E dX8_isShort_21 rfl rfl (hp_rib (by first | exact hp_b_t (Int32.not_le.mp c13) | exact hp_b_f (Int32.not_lt.mpr c13)))
  · refine v_iconst (v := nI 1) C dX8_isShort_16 (by decide) ?_
    refine v_goto (tgt := 21) C dX8_isShort_17 (by decide) ?_
    exact v_zret C E dX8_isShort_21 rfl rfl (hp_rib (by first | exact hp_b_t (Int32.not_le.mp c13) | exact hp_b_f (Int32.not_lt.mpr c13)))

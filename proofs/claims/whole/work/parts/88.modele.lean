/-! ===== THE MODEL: what goes with a default ===== -/
set_option maxHeartbeats 4000000 in
theorem loop_X8_goesWith {G : hp_G} {K : hp_C} {P : hp_P} {n0 : Nat} {h0 : Nat → Option va_E} {y : Nat} {S : mo_T} (hS : Mo G h0 y S) {M : mk_T} (hg : Gr (S.1 0) M) {t ot on : Int32} (C : hp_Cx G K MX8_goesWith) (E : hp_End G K P) (hRm : hp_Rm K = hp_rm 1 0 0) (hl : K.2.1.stackTraces = false) (hp : P (.inl (some (.int (mo_gw M t ot on (mk_ct M))))) (n0, h0)) : ∀ (e c : Nat), c + e = mk_ct M → V G K MX8_goesWith 0 0 (n0, h0) 6 [some (.ref y), some (.int t), some (.int ot), some (.int on), some (.int (mo_gw M t ot on c)), some (.int (nI c))] [] := by
  have hhz := hg.hz
  have htr := hg.tr
  have hct := hg.ct
  have hbase := hS.base
  intro e
  induction e with
  | zero =>
    intro c hc
    have e : c = mk_ct M := by omega
    subst e
    refine v_iload C dX8_goesWith_6 rfl ?_
    refine v_aload_n C dX8_goesWith_8 rfl ?_
    refine v_get C 0 dX8_goesWith_9 wd6_237 hS.o rfl (by decide) ⟨rfl, rfl, rfl⟩ rfl ?_
    refine v_iconst (v := nI 2) C dX8_goesWith_12 (by decide) ?_
    refine v_ialdN C dX8_goesWith_13 hS.a0 (by omega) (by decide) ?_
    rw [hg.g2]
    refine v_icmp_geN (tgt := 108) C dX8_goesWith_14 (by decide) (by omega) (by omega) (fun c14 => ?_) (fun c14 => absurd c14 (by omega))
    refine v_iload C dX8_goesWith_108 rfl ?_
    exact v_iret C E dX8_goesWith_110 rfl hp
  | succ e ih =>
    intro c hc
    have hcc : c < mk_ct M := by omega
    refine v_iload C dX8_goesWith_6 rfl ?_
    refine v_aload_n C dX8_goesWith_8 rfl ?_
    refine v_get C 0 dX8_goesWith_9 wd6_237 hS.o rfl (by decide) ⟨rfl, rfl, rfl⟩ rfl ?_
    refine v_iconst (v := nI 2) C dX8_goesWith_12 (by decide) ?_
    refine v_ialdN C dX8_goesWith_13 hS.a0 (by omega) (by decide) ?_
    rw [hg.g2]
    refine v_icmp_geN (tgt := 108) C dX8_goesWith_14 (by decide) (by omega) (by omega) (fun c14 => absurd c14 (by omega)) (fun c14 => ?_)
    refine v_aload_n C dX8_goesWith_17 rfl ?_
    refine v_iload C dX8_goesWith_18 rfl ?_
    refine v_iconst (v := nI 2) C dX8_goesWith_20 (by decide) ?_
    refine v_callVi C (c_X8_by hl hS (i := c) (k := 2) (by omega) (by decide)) dX8_goesWith_21 mX8_by rfl hS.o rfl wd7_141 rfl rfl (Nat.le_of_ble_eq_true rfl) (hp_rmle hRm (by decide) (by decide)) (Nat.le_of_ble_eq_true rfl) (Nat.le_of_ble_eq_true rfl) ?_
    rw [hg.by2 hcc]
    refine v_iload_n C dX8_goesWith_24 rfl ?_
    refine v_icmp_eq (tgt := 31) C dX8_goesWith_25 (by decide) (fun c25 => ?_) (fun c25 => ?_)
    · refine v_iload C dX8_goesWith_31 rfl ?_
      refine v_aload_n C dX8_goesWith_33 rfl ?_
      refine v_iload C dX8_goesWith_34 rfl ?_
      refine v_iconst (v := nI 0) C dX8_goesWith_36 (by decide) ?_
      refine v_callVi C (c_X8_by hl hS (i := c) (k := 0) (by omega) (by decide)) dX8_goesWith_37 mX8_by rfl hS.o rfl wd7_141 rfl rfl (Nat.le_of_ble_eq_true rfl) (hp_rmle hRm (by decide) (by decide)) (Nat.le_of_ble_eq_true rfl) (Nat.le_of_ble_eq_true rfl) ?_
      rw [hg.by0 hcc]
      refine v_iload_n C dX8_goesWith_40 rfl ?_
      refine v_icmp_ne (tgt := 65) C dX8_goesWith_41 (by decide) (fun c41 => ?_) (fun c41 => ?_)
      · have nA : ¬ (mk_ar M 5 c = ot ∧ mk_ar M 6 c = t) := fun z => c41 z.1
        refine v_aload_n C dX8_goesWith_65 rfl ?_
        refine v_iload C dX8_goesWith_66 rfl ?_
        refine v_iconst (v := nI 1) C dX8_goesWith_68 (by decide) ?_
        refine v_callVi C (c_X8_by hl hS (i := c) (k := 1) (by omega) (by decide)) dX8_goesWith_69 mX8_by rfl hS.o rfl wd7_141 rfl rfl (Nat.le_of_ble_eq_true rfl) (hp_rmle hRm (by decide) (by decide)) (Nat.le_of_ble_eq_true rfl) (Nat.le_of_ble_eq_true rfl) ?_
        rw [hg.by1 hcc]
        refine v_iload_n C dX8_goesWith_72 rfl ?_
        refine v_icmp_ne (tgt := 98) C dX8_goesWith_73 (by decide) (fun c73 => ?_) (fun c73 => ?_)
        · have en : mo_gw M t ot on (c + 1) = mo_gw M t ot on c + nI 0 := (if_pos c25).trans (by rw [if_neg nA, if_neg (fun z => c73 z.1)])
          refine v_iconst (v := nI 0) C dX8_goesWith_98 (by decide) ?_
          refine v_iadd C dX8_goesWith_99 ?_
          refine v_istore C dX8_goesWith_100 (by decide) ?_
          refine v_iincN C dX8_goesWith_102 (by decide) rfl ?_
          refine v_goto (tgt := 6) C dX8_goesWith_105 (by decide) ?_
          have hi := ih (c + 1) (by omega)
          rw [en] at hi
          exact hi
        · refine v_aload_n C dX8_goesWith_76 rfl ?_
          refine v_iload C dX8_goesWith_77 rfl ?_
          refine v_iconst (v := nI 0) C dX8_goesWith_79 (by decide) ?_
          refine v_callVi C (c_X8_by hl hS (i := c) (k := 0) (by omega) (by decide)) dX8_goesWith_80 mX8_by rfl hS.o rfl wd7_141 rfl rfl (Nat.le_of_ble_eq_true rfl) (hp_rmle hRm (by decide) (by decide)) (Nat.le_of_ble_eq_true rfl) (Nat.le_of_ble_eq_true rfl) ?_
          rw [hg.by0 hcc]
          refine v_iload_n C dX8_goesWith_83 rfl ?_
          refine v_icmp_ne (tgt := 98) C dX8_goesWith_84 (by decide) (fun c84 => ?_) (fun c84 => ?_)
          · have en : mo_gw M t ot on (c + 1) = mo_gw M t ot on c + nI 0 := (if_pos c25).trans (by rw [if_neg nA, if_neg (fun z => c84 z.2)])
            refine v_iconst (v := nI 0) C dX8_goesWith_98 (by decide) ?_
            refine v_iadd C dX8_goesWith_99 ?_
            refine v_istore C dX8_goesWith_100 (by decide) ?_
            refine v_iincN C dX8_goesWith_102 (by decide) rfl ?_
            refine v_goto (tgt := 6) C dX8_goesWith_105 (by decide) ?_
            have hi := ih (c + 1) (by omega)
            rw [en] at hi
            exact hi
          · have en : mo_gw M t ot on (c + 1) = mo_gw M t ot on c + -mk_ar M 8 c := (if_pos c25).trans (by rw [if_neg nA, if_pos ⟨c73, c84⟩])
            refine v_aload_n C dX8_goesWith_87 rfl ?_
            refine v_iload C dX8_goesWith_88 rfl ?_
            refine v_iconst (v := nI 3) C dX8_goesWith_90 (by decide) ?_
            refine v_callVi C (c_X8_by hl hS (i := c) (k := 3) (by omega) (by decide)) dX8_goesWith_91 mX8_by rfl hS.o rfl wd7_141 rfl rfl (Nat.le_of_ble_eq_true rfl) (hp_rmle hRm (by decide) (by decide)) (Nat.le_of_ble_eq_true rfl) (Nat.le_of_ble_eq_true rfl) ?_
            rw [hg.by3 hcc]
            refine v_ineg C dX8_goesWith_94 ?_
            refine v_goto (tgt := 99) C dX8_goesWith_95 (by decide) ?_
            refine v_iadd C dX8_goesWith_99 ?_
            refine v_istore C dX8_goesWith_100 (by decide) ?_
            refine v_iincN C dX8_goesWith_102 (by decide) rfl ?_
            refine v_goto (tgt := 6) C dX8_goesWith_105 (by decide) ?_
            have hi := ih (c + 1) (by omega)
            rw [en] at hi
            exact hi
      · refine v_aload_n C dX8_goesWith_44 rfl ?_
        refine v_iload C dX8_goesWith_45 rfl ?_
        refine v_iconst (v := nI 1) C dX8_goesWith_47 (by decide) ?_
        refine v_callVi C (c_X8_by hl hS (i := c) (k := 1) (by omega) (by decide)) dX8_goesWith_48 mX8_by rfl hS.o rfl wd7_141 rfl rfl (Nat.le_of_ble_eq_true rfl) (hp_rmle hRm (by decide) (by decide)) (Nat.le_of_ble_eq_true rfl) (Nat.le_of_ble_eq_true rfl) ?_
        rw [hg.by1 hcc]
        refine v_iload_n C dX8_goesWith_51 rfl ?_
        refine v_icmp_ne (tgt := 65) C dX8_goesWith_52 (by decide) (fun c52 => ?_) (fun c52 => ?_)
        · have nA : ¬ (mk_ar M 5 c = ot ∧ mk_ar M 6 c = t) := fun z => c52 z.2
          refine v_aload_n C dX8_goesWith_65 rfl ?_
          refine v_iload C dX8_goesWith_66 rfl ?_
          refine v_iconst (v := nI 1) C dX8_goesWith_68 (by decide) ?_
          refine v_callVi C (c_X8_by hl hS (i := c) (k := 1) (by omega) (by decide)) dX8_goesWith_69 mX8_by rfl hS.o rfl wd7_141 rfl rfl (Nat.le_of_ble_eq_true rfl) (hp_rmle hRm (by decide) (by decide)) (Nat.le_of_ble_eq_true rfl) (Nat.le_of_ble_eq_true rfl) ?_
          rw [hg.by1 hcc]
          refine v_iload_n C dX8_goesWith_72 rfl ?_
          refine v_icmp_ne (tgt := 98) C dX8_goesWith_73 (by decide) (fun c73 => ?_) (fun c73 => ?_)
          · have en : mo_gw M t ot on (c + 1) = mo_gw M t ot on c + nI 0 := (if_pos c25).trans (by rw [if_neg nA, if_neg (fun z => c73 z.1)])
            refine v_iconst (v := nI 0) C dX8_goesWith_98 (by decide) ?_
            refine v_iadd C dX8_goesWith_99 ?_
            refine v_istore C dX8_goesWith_100 (by decide) ?_
            refine v_iincN C dX8_goesWith_102 (by decide) rfl ?_
            refine v_goto (tgt := 6) C dX8_goesWith_105 (by decide) ?_
            have hi := ih (c + 1) (by omega)
            rw [en] at hi
            exact hi
          · refine v_aload_n C dX8_goesWith_76 rfl ?_
            refine v_iload C dX8_goesWith_77 rfl ?_
            refine v_iconst (v := nI 0) C dX8_goesWith_79 (by decide) ?_
            refine v_callVi C (c_X8_by hl hS (i := c) (k := 0) (by omega) (by decide)) dX8_goesWith_80 mX8_by rfl hS.o rfl wd7_141 rfl rfl (Nat.le_of_ble_eq_true rfl) (hp_rmle hRm (by decide) (by decide)) (Nat.le_of_ble_eq_true rfl) (Nat.le_of_ble_eq_true rfl) ?_
            rw [hg.by0 hcc]
            refine v_iload_n C dX8_goesWith_83 rfl ?_
            refine v_icmp_ne (tgt := 98) C dX8_goesWith_84 (by decide) (fun c84 => ?_) (fun c84 => ?_)
            · have en : mo_gw M t ot on (c + 1) = mo_gw M t ot on c + nI 0 := (if_pos c25).trans (by rw [if_neg nA, if_neg (fun z => c84 z.2)])
              refine v_iconst (v := nI 0) C dX8_goesWith_98 (by decide) ?_
              refine v_iadd C dX8_goesWith_99 ?_
              refine v_istore C dX8_goesWith_100 (by decide) ?_
              refine v_iincN C dX8_goesWith_102 (by decide) rfl ?_
              refine v_goto (tgt := 6) C dX8_goesWith_105 (by decide) ?_
              have hi := ih (c + 1) (by omega)
              rw [en] at hi
              exact hi
            · have en : mo_gw M t ot on (c + 1) = mo_gw M t ot on c + -mk_ar M 8 c := (if_pos c25).trans (by rw [if_neg nA, if_pos ⟨c73, c84⟩])
              refine v_aload_n C dX8_goesWith_87 rfl ?_
              refine v_iload C dX8_goesWith_88 rfl ?_
              refine v_iconst (v := nI 3) C dX8_goesWith_90 (by decide) ?_
              refine v_callVi C (c_X8_by hl hS (i := c) (k := 3) (by omega) (by decide)) dX8_goesWith_91 mX8_by rfl hS.o rfl wd7_141 rfl rfl (Nat.le_of_ble_eq_true rfl) (hp_rmle hRm (by decide) (by decide)) (Nat.le_of_ble_eq_true rfl) (Nat.le_of_ble_eq_true rfl) ?_
              rw [hg.by3 hcc]
              refine v_ineg C dX8_goesWith_94 ?_
              refine v_goto (tgt := 99) C dX8_goesWith_95 (by decide) ?_
              refine v_iadd C dX8_goesWith_99 ?_
              refine v_istore C dX8_goesWith_100 (by decide) ?_
              refine v_iincN C dX8_goesWith_102 (by decide) rfl ?_
              refine v_goto (tgt := 6) C dX8_goesWith_105 (by decide) ?_
              have hi := ih (c + 1) (by omega)
              rw [en] at hi
              exact hi
        · have en : mo_gw M t ot on (c + 1) = mo_gw M t ot on c + mk_ar M 8 c := (if_pos c25).trans (by rw [if_pos ⟨c41, c52⟩])
          refine v_aload_n C dX8_goesWith_55 rfl ?_
          refine v_iload C dX8_goesWith_56 rfl ?_
          refine v_iconst (v := nI 3) C dX8_goesWith_58 (by decide) ?_
          refine v_callVi C (c_X8_by hl hS (i := c) (k := 3) (by omega) (by decide)) dX8_goesWith_59 mX8_by rfl hS.o rfl wd7_141 rfl rfl (Nat.le_of_ble_eq_true rfl) (hp_rmle hRm (by decide) (by decide)) (Nat.le_of_ble_eq_true rfl) (Nat.le_of_ble_eq_true rfl) ?_
          rw [hg.by3 hcc]
          refine v_goto (tgt := 99) C dX8_goesWith_62 (by decide) ?_
          refine v_iadd C dX8_goesWith_99 ?_
          refine v_istore C dX8_goesWith_100 (by decide) ?_
          refine v_iincN C dX8_goesWith_102 (by decide) rfl ?_
          refine v_goto (tgt := 6) C dX8_goesWith_105 (by decide) ?_
          have hi := ih (c + 1) (by omega)
          rw [en] at hi
          exact hi
    · have en : mo_gw M t ot on (c + 1) = mo_gw M t ot on c := if_neg c25
      refine v_goto (tgt := 102) C dX8_goesWith_28 (by decide) ?_
      refine v_iincN C dX8_goesWith_102 (by decide) rfl ?_
      refine v_goto (tgt := 6) C dX8_goesWith_105 (by decide) ?_
      have hi := ih (c + 1) (by omega)
      rw [en] at hi
      exact hi
set_option maxHeartbeats 8000000 in
/-- what goes with a default -/
theorem c_X8_goesWith {G : hp_G} {l : Launch} (hl : l.stackTraces = false) {n0 : Nat} {h0 : Nat → Option va_E} {y : Nat} {S : mo_T} (hS : Mo G h0 y S) {M : mk_T} (hg : Gr (S.1 0) M) (t ot on : Int32) : Ct G l yX8_goesWith cX8_goesWith 6 (some .int) 1 0 0 [.ref y, .int t, .int ot, .int on] (n0, h0) (hp_ri (mo_gw M t ot on (mk_ct M)) (n0, h0)) := by
  have hbase := hS.base
  have hhz := hg.hz
  have htr := hg.tr
  have hct := hg.ct
  refine Ct.of rfl hl (by simp [Value.category]) (Nat.le_of_ble_eq_true rfl) (fun K C E hRm hKl => ?_)
  subst hKl
  refine v_iconst (v := nI 0) C dX8_goesWith_0 (by decide) ?_
  refine v_istore C dX8_goesWith_1 (by decide) ?_
  refine v_iconst (v := nI 0) C dX8_goesWith_3 (by decide) ?_
  refine v_istore C dX8_goesWith_4 (by decide) ?_
  exact loop_X8_goesWith hS hg C E hRm hl ⟨rfl, rfl⟩ (mk_ct M) 0 (Nat.zero_add _)

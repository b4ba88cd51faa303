/-! ===== THE MODEL: margins after a default ===== -/
def mo_mi (M : mk_T) (T : Nat → Int32) (d t : Nat) (acc : Int32) (c : Nat) : Int32 := match c with
  | 0 => acc
  | c + 1 => mo_mi M T d t acc c + hp_abs (mo_po M (nI t) (nI c) + (if T c = nI t then mo_po M (nI d) (nI c) else nI 0) - (if mo_po M (nI d) (nI c) = 0 then mo_gw M (nI d) (nI t) (nI c) (mk_ct M) else nI 0)) * mk_ar M 2 c
def mo_mt (M : mk_T) (T : Nat → Int32) (d c : Nat) : Int32 := match c with
  | 0 => nI 0
  | c + 1 => if c = d ∨ ¬ mk_ar M 4 c = nI 0 then mo_mt M T d c else mo_mi M T d c (mo_mt M T d c) (mk_hz M)
set_option maxHeartbeats 4000000 in
theorem loop1_X8_marginsAfter {G : hp_G} {K : hp_C} {n0 : Nat} {h0 : Nat → Option va_E} {y : Nat} {S : mo_T} (hS : Mo G h0 y S) {M : mk_T} (hg : Gr (S.1 0) M) {d t : Nat} {acc : Int32} (C : hp_Cx G K MX8_marginsAfter) (hRm : hp_Rm K = hp_rm 2 0 0) (hl : K.2.1.stackTraces = false) (hk : V G K MX8_marginsAfter 0 0 (n0, h0) 120 [some (.ref y), some (.int (nI d)), some (.int (mo_mi M (S.1 6) d t acc (mk_hz M))), some (.int (nI t)), none, none, none] []) : ∀ (e c : Nat), c + e = mk_hz M → V G K MX8_marginsAfter 0 0 (n0, h0) 33 [some (.ref y), some (.int (nI d)), some (.int (mo_mi M (S.1 6) d t acc c)), some (.int (nI t)), some (.int (nI c)), none, none] [] := by
  have hhz := hg.hz
  have htr := hg.tr
  have hct := hg.ct
  have hbase := hS.base
  intro e
  induction e with
  | zero =>
    intro c hc
    have e : c = mk_hz M := by omega
    subst e
    refine v_iload C dX8_marginsAfter_33 rfl ?_
    refine v_aload_n C dX8_marginsAfter_35 rfl ?_
    refine v_get C 0 dX8_marginsAfter_36 wd6_237 hS.o rfl (by decide) ⟨rfl, rfl, rfl⟩ rfl ?_
    refine v_iconst (v := nI 0) C dX8_marginsAfter_39 (by decide) ?_
    refine v_ialdN C dX8_marginsAfter_40 hS.a0 (by omega) (by decide) ?_
    rw [hg.g0]
    refine v_icmp_geN (tgt := 120) C dX8_marginsAfter_41 (by decide) (by omega) (by omega) (fun c41 => ?_) (fun c41 => absurd c41 (by omega))
    refine v_drop 4 ?_
    exact hk
  | succ e ih =>
    intro c hc
    have hcc : c < mk_hz M := by omega
    refine v_iload C dX8_marginsAfter_33 rfl ?_
    refine v_aload_n C dX8_marginsAfter_35 rfl ?_
    refine v_get C 0 dX8_marginsAfter_36 wd6_237 hS.o rfl (by decide) ⟨rfl, rfl, rfl⟩ rfl ?_
    refine v_iconst (v := nI 0) C dX8_marginsAfter_39 (by decide) ?_
    refine v_ialdN C dX8_marginsAfter_40 hS.a0 (by omega) (by decide) ?_
    rw [hg.g0]
    refine v_icmp_geN (tgt := 120) C dX8_marginsAfter_41 (by decide) (by omega) (by omega) (fun c41 => absurd c41 (by omega)) (fun c41 => ?_)
    refine v_aload_n C dX8_marginsAfter_44 rfl ?_
    refine v_iload_n C dX8_marginsAfter_45 rfl ?_
    refine v_iload C dX8_marginsAfter_46 rfl ?_
    refine v_callVi C (c_X8_position hl hS hg (nI d) (nI c)) dX8_marginsAfter_48 mX8_position rfl hS.o rfl wd7_137 rfl rfl (Nat.le_of_ble_eq_true rfl) (hp_rmle hRm (by decide) (by decide)) (Nat.le_of_ble_eq_true rfl) (Nat.le_of_ble_eq_true rfl) ?_
    refine v_istore C dX8_marginsAfter_51 (by decide) ?_
    refine v_aload_n C dX8_marginsAfter_53 rfl ?_
    refine v_iload_n C dX8_marginsAfter_54 rfl ?_
    refine v_iload C dX8_marginsAfter_55 rfl ?_
    refine v_callVi C (c_X8_position hl hS hg (nI t) (nI c)) dX8_marginsAfter_57 mX8_position rfl hS.o rfl wd7_137 rfl rfl (Nat.le_of_ble_eq_true rfl) (hp_rmle hRm (by decide) (by decide)) (Nat.le_of_ble_eq_true rfl) (Nat.le_of_ble_eq_true rfl) ?_
    refine v_aload_n C dX8_marginsAfter_60 rfl ?_
    refine v_get C 14 dX8_marginsAfter_61 wd7_11 hS.o rfl (by decide) ⟨rfl, rfl, rfl⟩ rfl ?_
    refine v_iload C dX8_marginsAfter_64 rfl ?_
    refine v_ialdN C dX8_marginsAfter_66 hS.a6 (by omega) (by decide) ?_
    refine v_iload_n C dX8_marginsAfter_67 rfl ?_
    refine v_icmp_ne (tgt := 76) C dX8_marginsAfter_68 (by decide) (fun c68 => ?_) (fun c68 => ?_)
    · refine v_iconst (v := nI 0) C dX8_marginsAfter_76 (by decide) ?_
      refine v_iadd C dX8_marginsAfter_77 ?_
      refine v_iload C dX8_marginsAfter_78 rfl ?_
      refine v_if_ne (tgt := 94) C dX8_marginsAfter_80 (by decide) (fun c80 => ?_) (fun c80 => ?_)
      · refine v_iconst (v := nI 0) C dX8_marginsAfter_94 (by decide) ?_
        refine v_isub C dX8_marginsAfter_95 ?_
        refine v_istore C dX8_marginsAfter_96 (by decide) ?_
        refine v_iload_n C dX8_marginsAfter_98 rfl ?_
        refine v_iload C dX8_marginsAfter_99 rfl ?_
        refine v_callSi C (c_X8_size hl _) dX8_marginsAfter_101 mX8_size wd7_145 rfl rfl (Nat.le_of_ble_eq_true rfl) (hp_rmle hRm (by decide) (by decide)) (Nat.le_of_ble_eq_true rfl) (Nat.le_of_ble_eq_true rfl) ?_
        refine v_aload_n C dX8_marginsAfter_104 rfl ?_
        refine v_iload C dX8_marginsAfter_105 rfl ?_
        refine v_iconst (v := nI 2) C dX8_marginsAfter_107 (by decide) ?_
        refine v_callVi C (c_X8_on hl hS (i := c) (k := 2) (by omega) (by decide)) dX8_marginsAfter_108 mX8_on rfl hS.o rfl wd7_148 rfl rfl (Nat.le_of_ble_eq_true rfl) (hp_rmle hRm (by decide) (by decide)) (Nat.le_of_ble_eq_true rfl) (Nat.le_of_ble_eq_true rfl) ?_
        rw [hg.on2 hcc]
        refine v_imul C dX8_marginsAfter_111 ?_
        refine v_iadd C dX8_marginsAfter_112 ?_
        refine v_istore_n C dX8_marginsAfter_113 (by decide) ?_
        refine v_iincN C dX8_marginsAfter_114 (by decide) rfl ?_
        refine v_goto (tgt := 33) C dX8_marginsAfter_117 (by decide) ?_
        refine v_drop 5 ?_
        refine v_drop 6 ?_
        have hi := ih (c + 1) (by omega)
        rw [show mo_mi M (S.1 6) d t acc (c + 1) = mo_mi M (S.1 6) d t acc c + hp_abs (mo_po M (nI t) (nI c) + (if S.1 6 c = nI t then mo_po M (nI d) (nI c) else nI 0) - (if mo_po M (nI d) (nI c) = 0 then mo_gw M (nI d) (nI t) (nI c) (mk_ct M) else nI 0)) * mk_ar M 2 c from rfl, if_neg c68, if_neg c80] at hi
        exact hi
      · refine v_aload_n C dX8_marginsAfter_83 rfl ?_
        refine v_iload_n C dX8_marginsAfter_84 rfl ?_
        refine v_iload_n C dX8_marginsAfter_85 rfl ?_
        refine v_iload C dX8_marginsAfter_86 rfl ?_
        refine v_callVi C (c_X8_goesWith hl hS hg (nI d) (nI t) (nI c)) dX8_marginsAfter_88 mX8_goesWith rfl hS.o rfl wd7_184 rfl rfl (Nat.le_of_ble_eq_true rfl) (hp_rmle hRm (by decide) (by decide)) (Nat.le_of_ble_eq_true rfl) (Nat.le_of_ble_eq_true rfl) ?_
        refine v_goto (tgt := 95) C dX8_marginsAfter_91 (by decide) ?_
        refine v_isub C dX8_marginsAfter_95 ?_
        refine v_istore C dX8_marginsAfter_96 (by decide) ?_
        refine v_iload_n C dX8_marginsAfter_98 rfl ?_
        refine v_iload C dX8_marginsAfter_99 rfl ?_
        refine v_callSi C (c_X8_size hl _) dX8_marginsAfter_101 mX8_size wd7_145 rfl rfl (Nat.le_of_ble_eq_true rfl) (hp_rmle hRm (by decide) (by decide)) (Nat.le_of_ble_eq_true rfl) (Nat.le_of_ble_eq_true rfl) ?_
        refine v_aload_n C dX8_marginsAfter_104 rfl ?_
        refine v_iload C dX8_marginsAfter_105 rfl ?_
        refine v_iconst (v := nI 2) C dX8_marginsAfter_107 (by decide) ?_
        refine v_callVi C (c_X8_on hl hS (i := c) (k := 2) (by omega) (by decide)) dX8_marginsAfter_108 mX8_on rfl hS.o rfl wd7_148 rfl rfl (Nat.le_of_ble_eq_true rfl) (hp_rmle hRm (by decide) (by decide)) (Nat.le_of_ble_eq_true rfl) (Nat.le_of_ble_eq_true rfl) ?_
        rw [hg.on2 hcc]
        refine v_imul C dX8_marginsAfter_111 ?_
        refine v_iadd C dX8_marginsAfter_112 ?_
        refine v_istore_n C dX8_marginsAfter_113 (by decide) ?_
        refine v_iincN C dX8_marginsAfter_114 (by decide) rfl ?_
        refine v_goto (tgt := 33) C dX8_marginsAfter_117 (by decide) ?_
        refine v_drop 5 ?_
        refine v_drop 6 ?_
        have hi := ih (c + 1) (by omega)
        rw [show mo_mi M (S.1 6) d t acc (c + 1) = mo_mi M (S.1 6) d t acc c + hp_abs (mo_po M (nI t) (nI c) + (if S.1 6 c = nI t then mo_po M (nI d) (nI c) else nI 0) - (if mo_po M (nI d) (nI c) = 0 then mo_gw M (nI d) (nI t) (nI c) (mk_ct M) else nI 0)) * mk_ar M 2 c from rfl, if_neg c68, if_pos c80] at hi
        exact hi
    · refine v_iload C dX8_marginsAfter_71 rfl ?_
      refine v_goto (tgt := 77) C dX8_marginsAfter_73 (by decide) ?_
      refine v_iadd C dX8_marginsAfter_77 ?_
      refine v_iload C dX8_marginsAfter_78 rfl ?_
      refine v_if_ne (tgt := 94) C dX8_marginsAfter_80 (by decide) (fun c80 => ?_) (fun c80 => ?_)
      · refine v_iconst (v := nI 0) C dX8_marginsAfter_94 (by decide) ?_
        refine v_isub C dX8_marginsAfter_95 ?_
        refine v_istore C dX8_marginsAfter_96 (by decide) ?_
        refine v_iload_n C dX8_marginsAfter_98 rfl ?_
        refine v_iload C dX8_marginsAfter_99 rfl ?_
        refine v_callSi C (c_X8_size hl _) dX8_marginsAfter_101 mX8_size wd7_145 rfl rfl (Nat.le_of_ble_eq_true rfl) (hp_rmle hRm (by decide) (by decide)) (Nat.le_of_ble_eq_true rfl) (Nat.le_of_ble_eq_true rfl) ?_
        refine v_aload_n C dX8_marginsAfter_104 rfl ?_
        refine v_iload C dX8_marginsAfter_105 rfl ?_
        refine v_iconst (v := nI 2) C dX8_marginsAfter_107 (by decide) ?_
        refine v_callVi C (c_X8_on hl hS (i := c) (k := 2) (by omega) (by decide)) dX8_marginsAfter_108 mX8_on rfl hS.o rfl wd7_148 rfl rfl (Nat.le_of_ble_eq_true rfl) (hp_rmle hRm (by decide) (by decide)) (Nat.le_of_ble_eq_true rfl) (Nat.le_of_ble_eq_true rfl) ?_
        rw [hg.on2 hcc]
        refine v_imul C dX8_marginsAfter_111 ?_
        refine v_iadd C dX8_marginsAfter_112 ?_
        refine v_istore_n C dX8_marginsAfter_113 (by decide) ?_
        refine v_iincN C dX8_marginsAfter_114 (by decide) rfl ?_
        refine v_goto (tgt := 33) C dX8_marginsAfter_117 (by decide) ?_
        refine v_drop 5 ?_
        refine v_drop 6 ?_
        have hi := ih (c + 1) (by omega)
        rw [show mo_mi M (S.1 6) d t acc (c + 1) = mo_mi M (S.1 6) d t acc c + hp_abs (mo_po M (nI t) (nI c) + (if S.1 6 c = nI t then mo_po M (nI d) (nI c) else nI 0) - (if mo_po M (nI d) (nI c) = 0 then mo_gw M (nI d) (nI t) (nI c) (mk_ct M) else nI 0)) * mk_ar M 2 c from rfl, if_pos c68, if_neg c80] at hi
        exact hi
      · refine v_aload_n C dX8_marginsAfter_83 rfl ?_
        refine v_iload_n C dX8_marginsAfter_84 rfl ?_
        refine v_iload_n C dX8_marginsAfter_85 rfl ?_
        refine v_iload C dX8_marginsAfter_86 rfl ?_
        refine v_callVi C (c_X8_goesWith hl hS hg (nI d) (nI t) (nI c)) dX8_marginsAfter_88 mX8_goesWith rfl hS.o rfl wd7_184 rfl rfl (Nat.le_of_ble_eq_true rfl) (hp_rmle hRm (by decide) (by decide)) (Nat.le_of_ble_eq_true rfl) (Nat.le_of_ble_eq_true rfl) ?_
        refine v_goto (tgt := 95) C dX8_marginsAfter_91 (by decide) ?_
        refine v_isub C dX8_marginsAfter_95 ?_
        refine v_istore C dX8_marginsAfter_96 (by decide) ?_
        refine v_iload_n C dX8_marginsAfter_98 rfl ?_
        refine v_iload C dX8_marginsAfter_99 rfl ?_
        refine v_callSi C (c_X8_size hl _) dX8_marginsAfter_101 mX8_size wd7_145 rfl rfl (Nat.le_of_ble_eq_true rfl) (hp_rmle hRm (by decide) (by decide)) (Nat.le_of_ble_eq_true rfl) (Nat.le_of_ble_eq_true rfl) ?_
        refine v_aload_n C dX8_marginsAfter_104 rfl ?_
        refine v_iload C dX8_marginsAfter_105 rfl ?_
        refine v_iconst (v := nI 2) C dX8_marginsAfter_107 (by decide) ?_
        refine v_callVi C (c_X8_on hl hS (i := c) (k := 2) (by omega) (by decide)) dX8_marginsAfter_108 mX8_on rfl hS.o rfl wd7_148 rfl rfl (Nat.le_of_ble_eq_true rfl) (hp_rmle hRm (by decide) (by decide)) (Nat.le_of_ble_eq_true rfl) (Nat.le_of_ble_eq_true rfl) ?_
        rw [hg.on2 hcc]
        refine v_imul C dX8_marginsAfter_111 ?_
        refine v_iadd C dX8_marginsAfter_112 ?_
        refine v_istore_n C dX8_marginsAfter_113 (by decide) ?_
        refine v_iincN C dX8_marginsAfter_114 (by decide) rfl ?_
        refine v_goto (tgt := 33) C dX8_marginsAfter_117 (by decide) ?_
        refine v_drop 5 ?_
        refine v_drop 6 ?_
        have hi := ih (c + 1) (by omega)
        rw [show mo_mi M (S.1 6) d t acc (c + 1) = mo_mi M (S.1 6) d t acc c + hp_abs (mo_po M (nI t) (nI c) + (if S.1 6 c = nI t then mo_po M (nI d) (nI c) else nI 0) - (if mo_po M (nI d) (nI c) = 0 then mo_gw M (nI d) (nI t) (nI c) (mk_ct M) else nI 0)) * mk_ar M 2 c from rfl, if_pos c68, if_pos c80] at hi
        exact hi
set_option maxHeartbeats 4000000 in
theorem loop_X8_marginsAfter {G : hp_G} {K : hp_C} {P : hp_P} {n0 : Nat} {h0 : Nat → Option va_E} {y : Nat} {S : mo_T} (hS : Mo G h0 y S) {M : mk_T} (hg : Gr (S.1 0) M) {d : Nat} (hd : d < 6) (C : hp_Cx G K MX8_marginsAfter) (E : hp_End G K P) (hRm : hp_Rm K = hp_rm 2 0 0) (hl : K.2.1.stackTraces = false) (hp : P (.inl (some (.int (mo_mt M (S.1 6) d (mk_tr M))))) (n0, h0)) : ∀ (e c : Nat), c + e = mk_tr M → V G K MX8_marginsAfter 0 0 (n0, h0) 4 [some (.ref y), some (.int (nI d)), some (.int (mo_mt M (S.1 6) d c)), some (.int (nI c)), none, none, none] [] := by
  have hhz := hg.hz
  have htr := hg.tr
  have hct := hg.ct
  have hbase := hS.base
  intro e
  induction e with
  | zero =>
    intro c hc
    have e : c = mk_tr M := by omega
    subst e
    refine v_iload_n C dX8_marginsAfter_4 rfl ?_
    refine v_aload_n C dX8_marginsAfter_5 rfl ?_
    refine v_get C 0 dX8_marginsAfter_6 wd6_237 hS.o rfl (by decide) ⟨rfl, rfl, rfl⟩ rfl ?_
    refine v_iconst (v := nI 1) C dX8_marginsAfter_9 (by decide) ?_
    refine v_ialdN C dX8_marginsAfter_10 hS.a0 (by omega) (by decide) ?_
    rw [hg.g1]
    refine v_icmp_geN (tgt := 126) C dX8_marginsAfter_11 (by decide) (by omega) (by omega) (fun c11 => ?_) (fun c11 => absurd c11 (by omega))
    refine v_iload_n C dX8_marginsAfter_126 rfl ?_
    exact v_iret C E dX8_marginsAfter_127 rfl hp
  | succ e ih =>
    intro c hc
    refine v_iload_n C dX8_marginsAfter_4 rfl ?_
    refine v_aload_n C dX8_marginsAfter_5 rfl ?_
    refine v_get C 0 dX8_marginsAfter_6 wd6_237 hS.o rfl (by decide) ⟨rfl, rfl, rfl⟩ rfl ?_
    refine v_iconst (v := nI 1) C dX8_marginsAfter_9 (by decide) ?_
    refine v_ialdN C dX8_marginsAfter_10 hS.a0 (by omega) (by decide) ?_
    rw [hg.g1]
    refine v_icmp_geN (tgt := 126) C dX8_marginsAfter_11 (by decide) (by omega) (by omega) (fun c11 => absurd c11 (by omega)) (fun c11 => ?_)
    refine v_iload_n C dX8_marginsAfter_14 rfl ?_
    refine v_iload_n C dX8_marginsAfter_15 rfl ?_
    refine v_icmp_eqN (tgt := 120) C dX8_marginsAfter_16 (by decide) (by omega) (by omega) (fun c16 => ?_) (fun c16 => ?_)
    · have hs : c = d ∨ ¬ mk_ar M 4 c = nI 0 := Or.inl c16
      refine v_iincN C dX8_marginsAfter_120 (by decide) rfl ?_
      refine v_goto (tgt := 4) C dX8_marginsAfter_123 (by decide) ?_
      have hi := ih (c + 1) (by omega)
      rw [show mo_mt M (S.1 6) d (c + 1) = mo_mt M (S.1 6) d c from if_pos hs] at hi
      exact hi
    · refine v_aload_n C dX8_marginsAfter_19 rfl ?_
      refine v_iload_n C dX8_marginsAfter_20 rfl ?_
      refine v_callVi C (c_X8_isSound hl hS hg (t := c) (by omega)) dX8_marginsAfter_21 mX8_isSound rfl hS.o rfl wd7_113 rfl rfl (Nat.le_of_ble_eq_true rfl) (hp_rmle hRm (by decide) (by decide)) (Nat.le_of_ble_eq_true rfl) (Nat.le_of_ble_eq_true rfl) ?_
      refine v_if_neB (tgt := 30) C dX8_marginsAfter_24 (by decide) (fun c24 => ?_) (fun c24 => ?_)
      · have hs : ¬ (c = d ∨ ¬ mk_ar M 4 c = nI 0) := fun z => z.elim c16 (fun y => y c24)
        refine v_iconst (v := nI 0) C dX8_marginsAfter_30 (by decide) ?_
        refine v_istore C dX8_marginsAfter_31 (by decide) ?_
        refine loop1_X8_marginsAfter (acc := mo_mt M (S.1 6) d c) hS hg C hRm hl ?_ (mk_hz M) 0 (Nat.zero_add _)
        have hi := ih (c + 1) (by omega)
        rw [show mo_mt M (S.1 6) d (c + 1) = mo_mi M (S.1 6) d c (mo_mt M (S.1 6) d c) (mk_hz M) from if_neg hs] at hi
        refine v_iincN C dX8_marginsAfter_120 (by decide) rfl ?_
        refine v_goto (tgt := 4) C dX8_marginsAfter_123 (by decide) ?_
        exact hi
      · have hs : c = d ∨ ¬ mk_ar M 4 c = nI 0 := Or.inr c24
        refine v_goto (tgt := 120) C dX8_marginsAfter_27 (by decide) ?_
        refine v_iincN C dX8_marginsAfter_120 (by decide) rfl ?_
        refine v_goto (tgt := 4) C dX8_marginsAfter_123 (by decide) ?_
        have hi := ih (c + 1) (by omega)
        rw [show mo_mt M (S.1 6) d (c + 1) = mo_mt M (S.1 6) d c from if_pos hs] at hi
        exact hi
set_option maxHeartbeats 8000000 in
/-- margins after a default -/
theorem c_X8_marginsAfter {G : hp_G} {l : Launch} (hl : l.stackTraces = false) {n0 : Nat} {h0 : Nat → Option va_E} {y : Nat} {S : mo_T} (hS : Mo G h0 y S) {M : mk_T} (hg : Gr (S.1 0) M) {d : Nat} (hd : d < 6) : Ct G l yX8_marginsAfter cX8_marginsAfter 7 (some .int) 2 0 0 [.ref y, .int (nI d)] (n0, h0) (hp_ri (mo_mt M (S.1 6) d (mk_tr M)) (n0, h0)) := by
  have hbase := hS.base
  have hhz := hg.hz
  have htr := hg.tr
  have hct := hg.ct
  refine Ct.of rfl hl (by simp [Value.category]) (Nat.le_of_ble_eq_true rfl) (fun K C E hRm hKl => ?_)
  subst hKl
  refine v_iconst (v := nI 0) C dX8_marginsAfter_0 (by decide) ?_
  refine v_istore_n C dX8_marginsAfter_1 (by decide) ?_
  refine v_iconst (v := nI 0) C dX8_marginsAfter_2 (by decide) ?_
  refine v_istore_n C dX8_marginsAfter_3 (by decide) ?_
  exact loop_X8_marginsAfter hS hg hd C E hRm hl ⟨rfl, rfl⟩ (mk_tr M) 0 (Nat.zero_add _)

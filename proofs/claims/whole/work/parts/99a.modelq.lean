/-! ===== THE MODEL: contracts are handed over ===== -/
/-- every contract's horizon is one that there is -/
def mo_hk (M : mk_T) : Prop := ∀ c, c < mk_ct M → ∃ o, o < mk_hz M ∧ mk_ar M 7 c = nI o
theorem mo_hk.rm {M : mk_T} (H : mo_hk M) (c : Nat) : mo_hk (mk_rm M c) := by
  intro i hi
  have hi : i < mk_ct M - 1 := hi
  show ∃ o, o < mk_hz M ∧ mk_ar (mk_sh M c (mk_ct M - 1)) 7 i = nI o
  rw [mk_sh_ar]
  split
  · exact H (i + 1) (by omega)
  · exact H i (by omega)
theorem mo_hk.st {M : mk_T} (H : mo_hk M) {k i : Nat} {v : Int32} (hk : k ≠ 7) : mo_hk (mk_st M k i v) := by
  intro c hc
  rw [mk_st_ar, if_neg (fun z => hk z.1.symm)]
  exact H c hc
theorem Gr.us {g : Nat → Int32} {M : mk_T} (H : Gr g M) {j : Nat} (hj : j < 2) {t : Nat} (ht : t < mk_ct M) (v : Int32) : Gr (upd g (36 + 5 * t + j) v) (mk_st M (5 + j) t v) := by
  obtain ⟨⟨a0, a1, a2, a3, a4, a5, a6, a7⟩, b, c, d, e1, e2, e3⟩ := H
  have un : ∀ i, (i < 36 ∨ 136 ≤ i) → upd g (36 + 5 * t + j) v i = g i := fun i hi => pk_un (by omega)
  refine ⟨⟨(un _ (by omega)).trans a0, (un _ (by omega)).trans a1, (un _ (by omega)).trans a2, (un _ (by omega)).trans a3, (un _ (by omega)).trans a4, (un _ (by omega)).trans a5, (by rw [un _ (by omega)]; exact a6), (by rw [un _ (by omega)]; exact a7)⟩, fun i (hi : i < mk_hz M) k hk => ?_, fun s (hs : s < mk_tr M) => ?_, fun c2 (hc : c2 < mk_ct M) k hk => ?_, e1, e2, e3⟩
  · rw [un _ (by omega), mk_st_ar, if_neg (by omega)]
    exact b i hi k hk
  · rw [un _ (by omega), un _ (by omega), un _ (by omega), mk_st_ar, mk_st_ar, if_neg (by omega), if_neg (by omega)]
    exact c s hs
  · rw [mk_st_ar]
    by_cases q : c2 = t ∧ k = j
    · obtain ⟨q1, q2⟩ := q
      subst q1 q2
      rw [if_pos ⟨rfl, rfl⟩]
      exact pk_us
    · rw [if_neg (by omega), pk_un (by omega)]
      exact d c2 hc k hk
def hd_z (M : mk_T) (d c : Nat) : Nat := match c with
  | 0 => 0
  | c + 1 => hd_z M d c ||| (if mo_po M (nI d) (nI c) = 0 then 0 else 2 ^ c)
def hd_1 (B : Nat → Int32) (d τ z : Int32) (M : mk_T) (c : Nat) : mk_T :=
  if mk_ar M 5 c = d ∨ mk_ar M 6 c = d then (if τ = 0 ∨ (z >>> (mk_ar M 7 c &&& 31)) &&& nI 1 = 0 then mk_rm M c else if mk_ar (mk_st M (if mk_ar M 5 c = d then 5 else 6) c (B (mk_ar M 7 c).toNatClampNeg)) 5 c = mk_ar (mk_st M (if mk_ar M 5 c = d then 5 else 6) c (B (mk_ar M 7 c).toNatClampNeg)) 6 c then mk_rm (mk_st M (if mk_ar M 5 c = d then 5 else 6) c (B (mk_ar M 7 c).toNatClampNeg)) c else mk_st M (if mk_ar M 5 c = d then 5 else 6) c (B (mk_ar M 7 c).toNatClampNeg)) else M
def hd_r (B : Nat → Int32) (d τ z : Int32) (M : mk_T) (c : Nat) : mk_T := match c with
  | 0 => M
  | c + 1 => hd_r B d τ z (hd_1 B d τ z M c) c
abbrev hd_M (B : Nat → Int32) (d : Nat) (τ : Int32) (M : mk_T) : mk_T := hd_r B (nI d) τ (nI (hd_z M d (mk_hz M))) M (mk_ct M)
set_option maxHeartbeats 4000000 in
theorem loop1_X8_hands {G : hp_G} {K : hp_C} {n0 : Nat} {h0 : Nat → Option va_E} {y : Nat} {S : mo_T} (hS : Mo G h0 y S) {M : mk_T} (hg : Gr (S.1 0) M) {d : Nat} {τ : Int32} (C : hp_Cx G K MX8_hands) (hRm : hp_Rm K = hp_rm 2 0 0) (hl : K.2.1.stackTraces = false) (hk : V G K MX8_hands 0 0 (n0, h0) 43 [some (.ref y), some (.int (nI d)), some (.int τ), some (.int (nI (hd_z M d (mk_hz M)))), none] []) : ∀ (e c : Nat), c + e = mk_hz M → V G K MX8_hands 0 0 (n0, h0) 5 [some (.ref y), some (.int (nI d)), some (.int τ), some (.int (nI (hd_z M d c))), some (.int (nI c))] [] := by
  have hhz := hg.hz
  intro e
  induction e with
  | zero =>
    intro c hc
    have e : c = mk_hz M := by omega
    subst e
    refine v_iload C dX8_hands_5 rfl ?_
    refine v_aload_n C dX8_hands_7 rfl ?_
    refine v_get C 0 dX8_hands_8 wd6_237 hS.o rfl (by decide) ⟨rfl, rfl, rfl⟩ rfl ?_
    refine v_iconst (v := nI 0) C dX8_hands_11 (by decide) ?_
    refine v_ialdN C dX8_hands_12 hS.a0 (by omega) (by decide) ?_
    rw [hg.g0]
    refine v_icmp_geN (tgt := 43) C dX8_hands_13 (by decide) (by omega) (by omega) (fun c13 => ?_) (fun c13 => absurd c13 (by omega))
    refine v_drop 4 ?_
    exact hk
  | succ e ih =>
    intro c hc
    refine v_iload C dX8_hands_5 rfl ?_
    refine v_aload_n C dX8_hands_7 rfl ?_
    refine v_get C 0 dX8_hands_8 wd6_237 hS.o rfl (by decide) ⟨rfl, rfl, rfl⟩ rfl ?_
    refine v_iconst (v := nI 0) C dX8_hands_11 (by decide) ?_
    refine v_ialdN C dX8_hands_12 hS.a0 (by omega) (by decide) ?_
    rw [hg.g0]
    refine v_icmp_geN (tgt := 43) C dX8_hands_13 (by decide) (by omega) (by omega) (fun c13 => absurd c13 (by omega)) (fun c13 => ?_)
    refine v_iload_n C dX8_hands_16 rfl ?_
    refine v_aload_n C dX8_hands_17 rfl ?_
    refine v_iload_n C dX8_hands_18 rfl ?_
    refine v_iload C dX8_hands_19 rfl ?_
    refine v_callVi C (c_X8_position hl hS hg (nI d) (nI c)) dX8_hands_21 mX8_position rfl hS.o rfl wd7_137 rfl rfl (Nat.le_of_ble_eq_true rfl) (hp_rmle hRm (by decide) (by decide)) (Nat.le_of_ble_eq_true rfl) (Nat.le_of_ble_eq_true rfl) ?_
    refine v_if_ne (tgt := 31) C dX8_hands_24 (by decide) (fun c24 => ?_) (fun c24 => ?_)
    · have en : hd_z M d (c + 1) = hd_z M d c ||| 2 ^ c := congrArg (fun x => hd_z M d c ||| x) (if_neg c24)
      refine v_iconst (v := nI 1) C dX8_hands_31 (by decide) ?_
      refine v_iload C dX8_hands_32 rfl ?_
      refine v_ishl C dX8_hands_34 ?_
      rw [hp_sh1 _ (by omega)]
      refine v_ior C dX8_hands_35 ?_
      rw [hp_or]
      refine v_istore_n C dX8_hands_36 (by decide) ?_
      refine v_iincN C dX8_hands_37 (by decide) rfl ?_
      refine v_goto (tgt := 5) C dX8_hands_40 (by decide) ?_
      have hi := ih (c + 1) (by omega)
      rw [en] at hi
      exact hi
    · have en : hd_z M d (c + 1) = hd_z M d c ||| 0 := congrArg (fun x => hd_z M d c ||| x) (if_pos c24)
      refine v_iconst (v := nI 0) C dX8_hands_27 (by decide) ?_
      refine v_goto (tgt := 35) C dX8_hands_28 (by decide) ?_
      refine v_ior C dX8_hands_35 ?_
      rw [hp_or]
      refine v_istore_n C dX8_hands_36 (by decide) ?_
      refine v_iincN C dX8_hands_37 (by decide) rfl ?_
      refine v_goto (tgt := 5) C dX8_hands_40 (by decide) ?_
      have hi := ih (c + 1) (by omega)
      rw [en] at hi
      exact hi
set_option maxHeartbeats 8000000 in
theorem loop_X8_hands {G : hp_G} {K : hp_C} {P : hp_P} {n0 : Nat} {h0 : Nat → Option va_E} {y : Nat} {S : mo_T} {d : Nat} {z : Nat} {τ : Int32} {Z : mk_T} (hbase : G.2.1 ≤ y) (C : hp_Cx G K MX8_hands) (E : hp_End G K P) (hRm : hp_Rm K = hp_rm 2 0 0) (hl : K.2.1.stackTraces = false) (hp : ∀ h g, Gr g Z → mo_hk Z → Mo G h y (mo_sg S g) → (∀ a, (a < y ∨ y + 13 ≤ a) → h a = h0 a) → P (.inl none) (n0, h)) : ∀ (c : Nat) (M : mk_T) (g : Nat → Int32) (v : Int32) (h : Nat → Option va_E), v = nI c - nI 1 → c ≤ mk_ct M → hd_r (S.1 7) (nI d) τ (nI z) M c = Z → Gr g M → mo_hk M → Mo G h y (mo_sg S g) → (∀ a, (a < y ∨ y + 13 ≤ a) → h a = h0 a) → V G K MX8_hands 0 0 (n0, h) 53 [some (.ref y), some (.int (nI d)), some (.int τ), some (.int (nI z)), some (.int v)] [] := by
  intro c
  induction c with
  | zero =>
    intro M g v h ev hc hZ hg hK H hO
    subst ev
    have hZ : M = Z := hZ
    subst hZ
    refine v_iload C dX8_hands_53 rfl ?_
    refine v_if_lt (tgt := 173) C dX8_hands_55 (by decide) (fun c55 => ?_) (fun c55 => absurd hp_dec0 c55)
    exact v_vret C E dX8_hands_173 rfl (hp _ _ hg hK H hO)
  | succ j ih =>
    intro M g v h ev hc hZ hg hK H hO
    have ev : v = nI j := ev.trans (hp_decs j)
    subst ev
    have hct := hg.ct
    have hj : j < mk_ct M := by omega
    obtain ⟨o, ho4, ho⟩ := hK j hj
    have hhz := hg.hz
    have do_ : (mk_ar M 7 j).toNatClampNeg = o := by rw [ho]; exact nI_clamp (by omega)
    have hZ : hd_r (S.1 7) (nI d) τ (nI z) (hd_1 (S.1 7) (nI d) τ (nI z) M j) j = Z := hZ
    refine v_iload C dX8_hands_53 rfl ?_
    refine v_if_lt (tgt := 173) C dX8_hands_55 (by decide) (fun c55 => absurd c55 (nI_pos (by omega))) (fun c55 => ?_)
    refine v_aload_n C dX8_hands_58 rfl ?_
    refine v_iload C dX8_hands_59 rfl ?_
    refine v_iconst (v := nI 0) C dX8_hands_61 (by decide) ?_
    refine v_callVi C (c_X8_by hl H (i := j) (k := 0) (by omega) (by decide)) dX8_hands_62 mX8_by rfl H.o rfl wd7_141 rfl rfl (Nat.le_of_ble_eq_true rfl) (hp_rmle hRm (by decide) (by decide)) (Nat.le_of_ble_eq_true rfl) (Nat.le_of_ble_eq_true rfl) ?_
    rw [mo_sg_0, hg.by0 hj]
    refine v_iload_n C dX8_hands_65 rfl ?_
    refine v_icmp_eq (tgt := 83) C dX8_hands_66 (by decide) (fun c66 => ?_) (fun c66 => ?_)
    · have hin : mk_ar M 5 j = nI d ∨ mk_ar M 6 j = nI d := Or.inl c66
      refine v_iload_n C dX8_hands_83 rfl ?_
      refine v_if_eq (tgt := 101) C dX8_hands_84 (by decide) (fun c84 => ?_) (fun c84 => ?_)
      · have e1 : hd_1 (S.1 7) (nI d) τ (nI z) M j = mk_rm M j := (if_pos hin).trans (if_pos (Or.inl c84))
        refine v_aload_n C dX8_hands_101 rfl ?_
        refine v_iload C dX8_hands_102 rfl ?_
        refine v_callVv C (c_X8_ends hl H hg hj) dX8_hands_104 mX8_ends rfl H.o rfl wd7_152 rfl rfl (Nat.le_of_ble_eq_true rfl) (hp_rmle hRm (by decide) (by decide)) (Nat.le_of_ble_eq_true rfl) (Nat.le_of_ble_eq_true rfl) (fun n104 h104 q104 => ?_)
        obtain ⟨k104, ⟨g104, G104, Y104⟩, W104⟩ := q104
        have z104 := Eq.symm k104
        have z104 : n0 = n104 := z104
        subst z104
        have W104 : ∀ a, (a < y ∨ y + 13 ≤ a) → h104 a = h0 a := fun a ha => (W104 a ha).trans (hO a ha)
        have K104 := hK.rm j
        refine v_goto (tgt := 167) C dX8_hands_107 (by decide) ?_
        refine v_iinc C dX8_hands_167 (by decide) rfl ?_
        refine v_goto (tgt := 53) C dX8_hands_170 (by decide) ?_
        exact ih (mk_rm M j) _ _ _ (hp_dec _) (show j ≤ mk_ct M - 1 by omega) (by rw [← e1]; exact hZ) G104 K104 Y104 W104
      · refine v_iload_n C dX8_hands_87 rfl ?_
        refine v_aload_n C dX8_hands_88 rfl ?_
        refine v_iload C dX8_hands_89 rfl ?_
        refine v_iconst (v := nI 2) C dX8_hands_91 (by decide) ?_
        refine v_callVi C (c_X8_by hl H (i := j) (k := 2) (by omega) (by decide)) dX8_hands_92 mX8_by rfl H.o rfl wd7_141 rfl rfl (Nat.le_of_ble_eq_true rfl) (hp_rmle hRm (by decide) (by decide)) (Nat.le_of_ble_eq_true rfl) (Nat.le_of_ble_eq_true rfl) ?_
        rw [mo_sg_0, hg.by2 hj]
        refine v_ishr C dX8_hands_95 ?_
        refine v_iconst (v := nI 1) C dX8_hands_96 (by decide) ?_
        refine v_iand C dX8_hands_97 ?_
        refine v_if_ne (tgt := 110) C dX8_hands_98 (by decide) (fun c98 => ?_) (fun c98 => ?_)
        · have hgo : ¬ (τ = 0 ∨ (nI z >>> (mk_ar M 7 j &&& 31)) &&& nI 1 = 0) := fun q => q.elim c84 c98
          refine v_aload_n C dX8_hands_110 rfl ?_
          refine v_iload C dX8_hands_111 rfl ?_
          refine v_aload_n C dX8_hands_113 rfl ?_
          refine v_iload C dX8_hands_114 rfl ?_
          refine v_iconst (v := nI 0) C dX8_hands_116 (by decide) ?_
          refine v_callVi C (c_X8_by hl H (i := j) (k := 0) (by omega) (by decide)) dX8_hands_117 mX8_by rfl H.o rfl wd7_141 rfl rfl (Nat.le_of_ble_eq_true rfl) (hp_rmle hRm (by decide) (by decide)) (Nat.le_of_ble_eq_true rfl) (Nat.le_of_ble_eq_true rfl) ?_
          rw [mo_sg_0, hg.by0 hj]
          refine v_iload_n C dX8_hands_120 rfl ?_
          refine v_icmp_ne (tgt := 128) C dX8_hands_121 (by decide) (fun c121 => ?_) (fun c121 => ?_)
          · refine v_iconst (v := nI 1) C dX8_hands_128 (by decide) ?_
            refine v_aload_n C dX8_hands_129 rfl ?_
            refine v_get C 15 dX8_hands_130 wd7_12 H.o rfl (by decide) ⟨rfl, rfl, rfl⟩ rfl ?_
            refine v_aload_n C dX8_hands_133 rfl ?_
            refine v_iload C dX8_hands_134 rfl ?_
            refine v_iconst (v := nI 2) C dX8_hands_136 (by decide) ?_
            refine v_callVi C (c_X8_by hl H (i := j) (k := 2) (by omega) (by decide)) dX8_hands_137 mX8_by rfl H.o rfl wd7_141 rfl rfl (Nat.le_of_ble_eq_true rfl) (hp_rmle hRm (by decide) (by decide)) (Nat.le_of_ble_eq_true rfl) (Nat.le_of_ble_eq_true rfl) ?_
            rw [mo_sg_0, hg.by2 hj]
            rw [ho]
            refine v_ialdN C dX8_hands_140 H.a7 (by omega) (by decide) ?_
            refine v_callVv C (c_X8_puts hl H (i := j) (k := 1) (by omega) (by decide) (S.1 7 o)) dX8_hands_141 mX8_puts rfl H.o rfl wd7_125 rfl rfl (Nat.le_of_ble_eq_true rfl) (hp_rmle hRm (by decide) (by decide)) (Nat.le_of_ble_eq_true rfl) (Nat.le_of_ble_eq_true rfl) (fun n141 h141 q141 => ?_)
            obtain ⟨k141, Y141, W141⟩ := q141
            have z141 := Eq.symm k141
            have z141 : n0 = n141 := z141
            subst z141
            have W141 : ∀ a, (a < y ∨ y + 13 ≤ a) → h141 a = h0 a := fun a ha => (W141 a ha).trans (hO a ha)
            have X141 := Y141.to mo_sg_sa
            have GA : Gr _ (mk_st M (5 + 1) j (S.1 7 o)) := hg.us (j := 1) (by decide) hj (S.1 7 o)
            have KA := hK.st (k := 5 + 1) (i := j) (v := S.1 7 o) (by decide)
            have e0 : (if mk_ar M 5 j = nI d then (5 : Nat) else 6) = 5 + 1 := if_neg c121
            refine v_aload_n C dX8_hands_144 rfl ?_
            refine v_iload C dX8_hands_145 rfl ?_
            refine v_iconst (v := nI 0) C dX8_hands_147 (by decide) ?_
            have cB148 := c_X8_by (n0 := n0) hl X141 (i := j) (k := 0) (by omega) (by decide)
            rw [mo_sg_0, GA.by0 hj] at cB148
            refine v_callVi C cB148 dX8_hands_148 mX8_by rfl X141.o rfl wd7_141 rfl rfl (Nat.le_of_ble_eq_true rfl) (hp_rmle hRm (by decide) (by decide)) (Nat.le_of_ble_eq_true rfl) (Nat.le_of_ble_eq_true rfl) ?_
            refine v_aload_n C dX8_hands_151 rfl ?_
            refine v_iload C dX8_hands_152 rfl ?_
            refine v_iconst (v := nI 1) C dX8_hands_154 (by decide) ?_
            have cB155 := c_X8_by (n0 := n0) hl X141 (i := j) (k := 1) (by omega) (by decide)
            rw [mo_sg_0, GA.by1 hj] at cB155
            refine v_callVi C cB155 dX8_hands_155 mX8_by rfl X141.o rfl wd7_141 rfl rfl (Nat.le_of_ble_eq_true rfl) (hp_rmle hRm (by decide) (by decide)) (Nat.le_of_ble_eq_true rfl) (Nat.le_of_ble_eq_true rfl) ?_
            refine v_icmp_ne (tgt := 167) C dX8_hands_158 (by decide) (fun c158 => ?_) (fun c158 => ?_)
            · have e2 : hd_1 (S.1 7) (nI d) τ (nI z) M j = mk_st M (5 + 1) j (S.1 7 o) := by unfold hd_1; rw [if_pos hin, if_neg hgo, do_, e0]; exact if_neg c158
              refine v_iinc C dX8_hands_167 (by decide) rfl ?_
              refine v_goto (tgt := 53) C dX8_hands_170 (by decide) ?_
              exact ih (mk_st M (5 + 1) j (S.1 7 o)) _ _ _ (hp_dec _) (show j ≤ mk_ct M by omega) (by rw [← e2]; exact hZ) GA KA X141 W141
            · have e2 : hd_1 (S.1 7) (nI d) τ (nI z) M j = mk_rm (mk_st M (5 + 1) j (S.1 7 o)) j := by unfold hd_1; rw [if_pos hin, if_neg hgo, do_, e0]; exact if_pos c158
              refine v_aload_n C dX8_hands_161 rfl ?_
              refine v_iload C dX8_hands_162 rfl ?_
              refine v_callVv C (c_X8_ends hl X141 GA hj) dX8_hands_164 mX8_ends rfl X141.o rfl wd7_152 rfl rfl (Nat.le_of_ble_eq_true rfl) (hp_rmle hRm (by decide) (by decide)) (Nat.le_of_ble_eq_true rfl) (Nat.le_of_ble_eq_true rfl) (fun n164 h164 q164 => ?_)
              obtain ⟨k164, ⟨g164, G164, Y164⟩, W164⟩ := q164
              have z164 := Eq.symm k164
              have z164 : n0 = n164 := z164
              subst z164
              have W164 : ∀ a, (a < y ∨ y + 13 ≤ a) → h164 a = h0 a := fun a ha => (W164 a ha).trans (W141 a ha)
              have K164 := KA.rm j
              refine v_iinc C dX8_hands_167 (by decide) rfl ?_
              refine v_goto (tgt := 53) C dX8_hands_170 (by decide) ?_
              exact ih (mk_rm (mk_st M (5 + 1) j (S.1 7 o)) j) _ _ _ (hp_dec _) (show j ≤ mk_ct M - 1 by omega) (by rw [← e2]; exact hZ) G164 K164 Y164 W164
          · refine v_iconst (v := nI 0) C dX8_hands_124 (by decide) ?_
            refine v_goto (tgt := 129) C dX8_hands_125 (by decide) ?_
            refine v_aload_n C dX8_hands_129 rfl ?_
            refine v_get C 15 dX8_hands_130 wd7_12 H.o rfl (by decide) ⟨rfl, rfl, rfl⟩ rfl ?_
            refine v_aload_n C dX8_hands_133 rfl ?_
            refine v_iload C dX8_hands_134 rfl ?_
            refine v_iconst (v := nI 2) C dX8_hands_136 (by decide) ?_
            refine v_callVi C (c_X8_by hl H (i := j) (k := 2) (by omega) (by decide)) dX8_hands_137 mX8_by rfl H.o rfl wd7_141 rfl rfl (Nat.le_of_ble_eq_true rfl) (hp_rmle hRm (by decide) (by decide)) (Nat.le_of_ble_eq_true rfl) (Nat.le_of_ble_eq_true rfl) ?_
            rw [mo_sg_0, hg.by2 hj]
            rw [ho]
            refine v_ialdN C dX8_hands_140 H.a7 (by omega) (by decide) ?_
            refine v_callVv C (c_X8_puts hl H (i := j) (k := 0) (by omega) (by decide) (S.1 7 o)) dX8_hands_141 mX8_puts rfl H.o rfl wd7_125 rfl rfl (Nat.le_of_ble_eq_true rfl) (hp_rmle hRm (by decide) (by decide)) (Nat.le_of_ble_eq_true rfl) (Nat.le_of_ble_eq_true rfl) (fun n141 h141 q141 => ?_)
            obtain ⟨k141, Y141, W141⟩ := q141
            have z141 := Eq.symm k141
            have z141 : n0 = n141 := z141
            subst z141
            have W141 : ∀ a, (a < y ∨ y + 13 ≤ a) → h141 a = h0 a := fun a ha => (W141 a ha).trans (hO a ha)
            have X141 := Y141.to mo_sg_sa
            have GA : Gr _ (mk_st M (5 + 0) j (S.1 7 o)) := hg.us (j := 0) (by decide) hj (S.1 7 o)
            have KA := hK.st (k := 5 + 0) (i := j) (v := S.1 7 o) (by decide)
            have e0 : (if mk_ar M 5 j = nI d then (5 : Nat) else 6) = 5 + 0 := if_pos c121
            refine v_aload_n C dX8_hands_144 rfl ?_
            refine v_iload C dX8_hands_145 rfl ?_
            refine v_iconst (v := nI 0) C dX8_hands_147 (by decide) ?_
            have cB148 := c_X8_by (n0 := n0) hl X141 (i := j) (k := 0) (by omega) (by decide)
            rw [mo_sg_0, GA.by0 hj] at cB148
            refine v_callVi C cB148 dX8_hands_148 mX8_by rfl X141.o rfl wd7_141 rfl rfl (Nat.le_of_ble_eq_true rfl) (hp_rmle hRm (by decide) (by decide)) (Nat.le_of_ble_eq_true rfl) (Nat.le_of_ble_eq_true rfl) ?_
            refine v_aload_n C dX8_hands_151 rfl ?_
            refine v_iload C dX8_hands_152 rfl ?_
            refine v_iconst (v := nI 1) C dX8_hands_154 (by decide) ?_
            have cB155 := c_X8_by (n0 := n0) hl X141 (i := j) (k := 1) (by omega) (by decide)
            rw [mo_sg_0, GA.by1 hj] at cB155
            refine v_callVi C cB155 dX8_hands_155 mX8_by rfl X141.o rfl wd7_141 rfl rfl (Nat.le_of_ble_eq_true rfl) (hp_rmle hRm (by decide) (by decide)) (Nat.le_of_ble_eq_true rfl) (Nat.le_of_ble_eq_true rfl) ?_
            refine v_icmp_ne (tgt := 167) C dX8_hands_158 (by decide) (fun c158 => ?_) (fun c158 => ?_)
            · have e2 : hd_1 (S.1 7) (nI d) τ (nI z) M j = mk_st M (5 + 0) j (S.1 7 o) := by unfold hd_1; rw [if_pos hin, if_neg hgo, do_, e0]; exact if_neg c158
              refine v_iinc C dX8_hands_167 (by decide) rfl ?_
              refine v_goto (tgt := 53) C dX8_hands_170 (by decide) ?_
              exact ih (mk_st M (5 + 0) j (S.1 7 o)) _ _ _ (hp_dec _) (show j ≤ mk_ct M by omega) (by rw [← e2]; exact hZ) GA KA X141 W141
            · have e2 : hd_1 (S.1 7) (nI d) τ (nI z) M j = mk_rm (mk_st M (5 + 0) j (S.1 7 o)) j := by unfold hd_1; rw [if_pos hin, if_neg hgo, do_, e0]; exact if_pos c158
              refine v_aload_n C dX8_hands_161 rfl ?_
              refine v_iload C dX8_hands_162 rfl ?_
              refine v_callVv C (c_X8_ends hl X141 GA hj) dX8_hands_164 mX8_ends rfl X141.o rfl wd7_152 rfl rfl (Nat.le_of_ble_eq_true rfl) (hp_rmle hRm (by decide) (by decide)) (Nat.le_of_ble_eq_true rfl) (Nat.le_of_ble_eq_true rfl) (fun n164 h164 q164 => ?_)
              obtain ⟨k164, ⟨g164, G164, Y164⟩, W164⟩ := q164
              have z164 := Eq.symm k164
              have z164 : n0 = n164 := z164
              subst z164
              have W164 : ∀ a, (a < y ∨ y + 13 ≤ a) → h164 a = h0 a := fun a ha => (W164 a ha).trans (W141 a ha)
              have K164 := KA.rm j
              refine v_iinc C dX8_hands_167 (by decide) rfl ?_
              refine v_goto (tgt := 53) C dX8_hands_170 (by decide) ?_
              exact ih (mk_rm (mk_st M (5 + 0) j (S.1 7 o)) j) _ _ _ (hp_dec _) (show j ≤ mk_ct M - 1 by omega) (by rw [← e2]; exact hZ) G164 K164 Y164 W164
        · have e1 : hd_1 (S.1 7) (nI d) τ (nI z) M j = mk_rm M j := (if_pos hin).trans (if_pos (Or.inr c98))
          refine v_aload_n C dX8_hands_101 rfl ?_
          refine v_iload C dX8_hands_102 rfl ?_
          refine v_callVv C (c_X8_ends hl H hg hj) dX8_hands_104 mX8_ends rfl H.o rfl wd7_152 rfl rfl (Nat.le_of_ble_eq_true rfl) (hp_rmle hRm (by decide) (by decide)) (Nat.le_of_ble_eq_true rfl) (Nat.le_of_ble_eq_true rfl) (fun n104 h104 q104 => ?_)
          obtain ⟨k104, ⟨g104, G104, Y104⟩, W104⟩ := q104
          have z104 := Eq.symm k104
          have z104 : n0 = n104 := z104
          subst z104
          have W104 : ∀ a, (a < y ∨ y + 13 ≤ a) → h104 a = h0 a := fun a ha => (W104 a ha).trans (hO a ha)
          have K104 := hK.rm j
          refine v_goto (tgt := 167) C dX8_hands_107 (by decide) ?_
          refine v_iinc C dX8_hands_167 (by decide) rfl ?_
          refine v_goto (tgt := 53) C dX8_hands_170 (by decide) ?_
          exact ih (mk_rm M j) _ _ _ (hp_dec _) (show j ≤ mk_ct M - 1 by omega) (by rw [← e1]; exact hZ) G104 K104 Y104 W104
    · refine v_aload_n C dX8_hands_69 rfl ?_
      refine v_iload C dX8_hands_70 rfl ?_
      refine v_iconst (v := nI 1) C dX8_hands_72 (by decide) ?_
      refine v_callVi C (c_X8_by hl H (i := j) (k := 1) (by omega) (by decide)) dX8_hands_73 mX8_by rfl H.o rfl wd7_141 rfl rfl (Nat.le_of_ble_eq_true rfl) (hp_rmle hRm (by decide) (by decide)) (Nat.le_of_ble_eq_true rfl) (Nat.le_of_ble_eq_true rfl) ?_
      rw [mo_sg_0, hg.by1 hj]
      refine v_iload_n C dX8_hands_76 rfl ?_
      refine v_icmp_eq (tgt := 83) C dX8_hands_77 (by decide) (fun c77 => ?_) (fun c77 => ?_)
      · have hin : mk_ar M 5 j = nI d ∨ mk_ar M 6 j = nI d := Or.inr c77
        refine v_iload_n C dX8_hands_83 rfl ?_
        refine v_if_eq (tgt := 101) C dX8_hands_84 (by decide) (fun c84 => ?_) (fun c84 => ?_)
        · have e1 : hd_1 (S.1 7) (nI d) τ (nI z) M j = mk_rm M j := (if_pos hin).trans (if_pos (Or.inl c84))
          refine v_aload_n C dX8_hands_101 rfl ?_
          refine v_iload C dX8_hands_102 rfl ?_
          refine v_callVv C (c_X8_ends hl H hg hj) dX8_hands_104 mX8_ends rfl H.o rfl wd7_152 rfl rfl (Nat.le_of_ble_eq_true rfl) (hp_rmle hRm (by decide) (by decide)) (Nat.le_of_ble_eq_true rfl) (Nat.le_of_ble_eq_true rfl) (fun n104 h104 q104 => ?_)
          obtain ⟨k104, ⟨g104, G104, Y104⟩, W104⟩ := q104
          have z104 := Eq.symm k104
          have z104 : n0 = n104 := z104
          subst z104
          have W104 : ∀ a, (a < y ∨ y + 13 ≤ a) → h104 a = h0 a := fun a ha => (W104 a ha).trans (hO a ha)
          have K104 := hK.rm j
          refine v_goto (tgt := 167) C dX8_hands_107 (by decide) ?_
          refine v_iinc C dX8_hands_167 (by decide) rfl ?_
          refine v_goto (tgt := 53) C dX8_hands_170 (by decide) ?_
          exact ih (mk_rm M j) _ _ _ (hp_dec _) (show j ≤ mk_ct M - 1 by omega) (by rw [← e1]; exact hZ) G104 K104 Y104 W104
        · refine v_iload_n C dX8_hands_87 rfl ?_
          refine v_aload_n C dX8_hands_88 rfl ?_
          refine v_iload C dX8_hands_89 rfl ?_
          refine v_iconst (v := nI 2) C dX8_hands_91 (by decide) ?_
          refine v_callVi C (c_X8_by hl H (i := j) (k := 2) (by omega) (by decide)) dX8_hands_92 mX8_by rfl H.o rfl wd7_141 rfl rfl (Nat.le_of_ble_eq_true rfl) (hp_rmle hRm (by decide) (by decide)) (Nat.le_of_ble_eq_true rfl) (Nat.le_of_ble_eq_true rfl) ?_
          rw [mo_sg_0, hg.by2 hj]
          refine v_ishr C dX8_hands_95 ?_
          refine v_iconst (v := nI 1) C dX8_hands_96 (by decide) ?_
          refine v_iand C dX8_hands_97 ?_
          refine v_if_ne (tgt := 110) C dX8_hands_98 (by decide) (fun c98 => ?_) (fun c98 => ?_)
          · have hgo : ¬ (τ = 0 ∨ (nI z >>> (mk_ar M 7 j &&& 31)) &&& nI 1 = 0) := fun q => q.elim c84 c98
            refine v_aload_n C dX8_hands_110 rfl ?_
            refine v_iload C dX8_hands_111 rfl ?_
            refine v_aload_n C dX8_hands_113 rfl ?_
            refine v_iload C dX8_hands_114 rfl ?_
            refine v_iconst (v := nI 0) C dX8_hands_116 (by decide) ?_
            refine v_callVi C (c_X8_by hl H (i := j) (k := 0) (by omega) (by decide)) dX8_hands_117 mX8_by rfl H.o rfl wd7_141 rfl rfl (Nat.le_of_ble_eq_true rfl) (hp_rmle hRm (by decide) (by decide)) (Nat.le_of_ble_eq_true rfl) (Nat.le_of_ble_eq_true rfl) ?_
            rw [mo_sg_0, hg.by0 hj]
            refine v_iload_n C dX8_hands_120 rfl ?_
            refine v_icmp_ne (tgt := 128) C dX8_hands_121 (by decide) (fun c121 => ?_) (fun c121 => ?_)
            · refine v_iconst (v := nI 1) C dX8_hands_128 (by decide) ?_
              refine v_aload_n C dX8_hands_129 rfl ?_
              refine v_get C 15 dX8_hands_130 wd7_12 H.o rfl (by decide) ⟨rfl, rfl, rfl⟩ rfl ?_
              refine v_aload_n C dX8_hands_133 rfl ?_
              refine v_iload C dX8_hands_134 rfl ?_
              refine v_iconst (v := nI 2) C dX8_hands_136 (by decide) ?_
              refine v_callVi C (c_X8_by hl H (i := j) (k := 2) (by omega) (by decide)) dX8_hands_137 mX8_by rfl H.o rfl wd7_141 rfl rfl (Nat.le_of_ble_eq_true rfl) (hp_rmle hRm (by decide) (by decide)) (Nat.le_of_ble_eq_true rfl) (Nat.le_of_ble_eq_true rfl) ?_
              rw [mo_sg_0, hg.by2 hj]
              rw [ho]
              refine v_ialdN C dX8_hands_140 H.a7 (by omega) (by decide) ?_
              refine v_callVv C (c_X8_puts hl H (i := j) (k := 1) (by omega) (by decide) (S.1 7 o)) dX8_hands_141 mX8_puts rfl H.o rfl wd7_125 rfl rfl (Nat.le_of_ble_eq_true rfl) (hp_rmle hRm (by decide) (by decide)) (Nat.le_of_ble_eq_true rfl) (Nat.le_of_ble_eq_true rfl) (fun n141 h141 q141 => ?_)
              obtain ⟨k141, Y141, W141⟩ := q141
              have z141 := Eq.symm k141
              have z141 : n0 = n141 := z141
              subst z141
              have W141 : ∀ a, (a < y ∨ y + 13 ≤ a) → h141 a = h0 a := fun a ha => (W141 a ha).trans (hO a ha)
              have X141 := Y141.to mo_sg_sa
              have GA : Gr _ (mk_st M (5 + 1) j (S.1 7 o)) := hg.us (j := 1) (by decide) hj (S.1 7 o)
              have KA := hK.st (k := 5 + 1) (i := j) (v := S.1 7 o) (by decide)
              have e0 : (if mk_ar M 5 j = nI d then (5 : Nat) else 6) = 5 + 1 := if_neg c121
              refine v_aload_n C dX8_hands_144 rfl ?_
              refine v_iload C dX8_hands_145 rfl ?_
              refine v_iconst (v := nI 0) C dX8_hands_147 (by decide) ?_
              have cB148 := c_X8_by (n0 := n0) hl X141 (i := j) (k := 0) (by omega) (by decide)
              rw [mo_sg_0, GA.by0 hj] at cB148
              refine v_callVi C cB148 dX8_hands_148 mX8_by rfl X141.o rfl wd7_141 rfl rfl (Nat.le_of_ble_eq_true rfl) (hp_rmle hRm (by decide) (by decide)) (Nat.le_of_ble_eq_true rfl) (Nat.le_of_ble_eq_true rfl) ?_
              refine v_aload_n C dX8_hands_151 rfl ?_
              refine v_iload C dX8_hands_152 rfl ?_
              refine v_iconst (v := nI 1) C dX8_hands_154 (by decide) ?_
              have cB155 := c_X8_by (n0 := n0) hl X141 (i := j) (k := 1) (by omega) (by decide)
              rw [mo_sg_0, GA.by1 hj] at cB155
              refine v_callVi C cB155 dX8_hands_155 mX8_by rfl X141.o rfl wd7_141 rfl rfl (Nat.le_of_ble_eq_true rfl) (hp_rmle hRm (by decide) (by decide)) (Nat.le_of_ble_eq_true rfl) (Nat.le_of_ble_eq_true rfl) ?_
              refine v_icmp_ne (tgt := 167) C dX8_hands_158 (by decide) (fun c158 => ?_) (fun c158 => ?_)
              · have e2 : hd_1 (S.1 7) (nI d) τ (nI z) M j = mk_st M (5 + 1) j (S.1 7 o) := by unfold hd_1; rw [if_pos hin, if_neg hgo, do_, e0]; exact if_neg c158
                refine v_iinc C dX8_hands_167 (by decide) rfl ?_
                refine v_goto (tgt := 53) C dX8_hands_170 (by decide) ?_
                exact ih (mk_st M (5 + 1) j (S.1 7 o)) _ _ _ (hp_dec _) (show j ≤ mk_ct M by omega) (by rw [← e2]; exact hZ) GA KA X141 W141
              · have e2 : hd_1 (S.1 7) (nI d) τ (nI z) M j = mk_rm (mk_st M (5 + 1) j (S.1 7 o)) j := by unfold hd_1; rw [if_pos hin, if_neg hgo, do_, e0]; exact if_pos c158
                refine v_aload_n C dX8_hands_161 rfl ?_
                refine v_iload C dX8_hands_162 rfl ?_
                refine v_callVv C (c_X8_ends hl X141 GA hj) dX8_hands_164 mX8_ends rfl X141.o rfl wd7_152 rfl rfl (Nat.le_of_ble_eq_true rfl) (hp_rmle hRm (by decide) (by decide)) (Nat.le_of_ble_eq_true rfl) (Nat.le_of_ble_eq_true rfl) (fun n164 h164 q164 => ?_)
                obtain ⟨k164, ⟨g164, G164, Y164⟩, W164⟩ := q164
                have z164 := Eq.symm k164
                have z164 : n0 = n164 := z164
                subst z164
                have W164 : ∀ a, (a < y ∨ y + 13 ≤ a) → h164 a = h0 a := fun a ha => (W164 a ha).trans (W141 a ha)
                have K164 := KA.rm j
                refine v_iinc C dX8_hands_167 (by decide) rfl ?_
                refine v_goto (tgt := 53) C dX8_hands_170 (by decide) ?_
                exact ih (mk_rm (mk_st M (5 + 1) j (S.1 7 o)) j) _ _ _ (hp_dec _) (show j ≤ mk_ct M - 1 by omega) (by rw [← e2]; exact hZ) G164 K164 Y164 W164
            · refine v_iconst (v := nI 0) C dX8_hands_124 (by decide) ?_
              refine v_goto (tgt := 129) C dX8_hands_125 (by decide) ?_
              refine v_aload_n C dX8_hands_129 rfl ?_
              refine v_get C 15 dX8_hands_130 wd7_12 H.o rfl (by decide) ⟨rfl, rfl, rfl⟩ rfl ?_
              refine v_aload_n C dX8_hands_133 rfl ?_
              refine v_iload C dX8_hands_134 rfl ?_
              refine v_iconst (v := nI 2) C dX8_hands_136 (by decide) ?_
              refine v_callVi C (c_X8_by hl H (i := j) (k := 2) (by omega) (by decide)) dX8_hands_137 mX8_by rfl H.o rfl wd7_141 rfl rfl (Nat.le_of_ble_eq_true rfl) (hp_rmle hRm (by decide) (by decide)) (Nat.le_of_ble_eq_true rfl) (Nat.le_of_ble_eq_true rfl) ?_
              rw [mo_sg_0, hg.by2 hj]
              rw [ho]
              refine v_ialdN C dX8_hands_140 H.a7 (by omega) (by decide) ?_
              refine v_callVv C (c_X8_puts hl H (i := j) (k := 0) (by omega) (by decide) (S.1 7 o)) dX8_hands_141 mX8_puts rfl H.o rfl wd7_125 rfl rfl (Nat.le_of_ble_eq_true rfl) (hp_rmle hRm (by decide) (by decide)) (Nat.le_of_ble_eq_true rfl) (Nat.le_of_ble_eq_true rfl) (fun n141 h141 q141 => ?_)
              obtain ⟨k141, Y141, W141⟩ := q141
              have z141 := Eq.symm k141
              have z141 : n0 = n141 := z141
              subst z141
              have W141 : ∀ a, (a < y ∨ y + 13 ≤ a) → h141 a = h0 a := fun a ha => (W141 a ha).trans (hO a ha)
              have X141 := Y141.to mo_sg_sa
              have GA : Gr _ (mk_st M (5 + 0) j (S.1 7 o)) := hg.us (j := 0) (by decide) hj (S.1 7 o)
              have KA := hK.st (k := 5 + 0) (i := j) (v := S.1 7 o) (by decide)
              have e0 : (if mk_ar M 5 j = nI d then (5 : Nat) else 6) = 5 + 0 := if_pos c121
              refine v_aload_n C dX8_hands_144 rfl ?_
              refine v_iload C dX8_hands_145 rfl ?_
              refine v_iconst (v := nI 0) C dX8_hands_147 (by decide) ?_
              have cB148 := c_X8_by (n0 := n0) hl X141 (i := j) (k := 0) (by omega) (by decide)
              rw [mo_sg_0, GA.by0 hj] at cB148
              refine v_callVi C cB148 dX8_hands_148 mX8_by rfl X141.o rfl wd7_141 rfl rfl (Nat.le_of_ble_eq_true rfl) (hp_rmle hRm (by decide) (by decide)) (Nat.le_of_ble_eq_true rfl) (Nat.le_of_ble_eq_true rfl) ?_
              refine v_aload_n C dX8_hands_151 rfl ?_
              refine v_iload C dX8_hands_152 rfl ?_
              refine v_iconst (v := nI 1) C dX8_hands_154 (by decide) ?_
              have cB155 := c_X8_by (n0 := n0) hl X141 (i := j) (k := 1) (by omega) (by decide)
              rw [mo_sg_0, GA.by1 hj] at cB155
              refine v_callVi C cB155 dX8_hands_155 mX8_by rfl X141.o rfl wd7_141 rfl rfl (Nat.le_of_ble_eq_true rfl) (hp_rmle hRm (by decide) (by decide)) (Nat.le_of_ble_eq_true rfl) (Nat.le_of_ble_eq_true rfl) ?_
              refine v_icmp_ne (tgt := 167) C dX8_hands_158 (by decide) (fun c158 => ?_) (fun c158 => ?_)
              · have e2 : hd_1 (S.1 7) (nI d) τ (nI z) M j = mk_st M (5 + 0) j (S.1 7 o) := by unfold hd_1; rw [if_pos hin, if_neg hgo, do_, e0]; exact if_neg c158
                refine v_iinc C dX8_hands_167 (by decide) rfl ?_
                refine v_goto (tgt := 53) C dX8_hands_170 (by decide) ?_
                exact ih (mk_st M (5 + 0) j (S.1 7 o)) _ _ _ (hp_dec _) (show j ≤ mk_ct M by omega) (by rw [← e2]; exact hZ) GA KA X141 W141
              · have e2 : hd_1 (S.1 7) (nI d) τ (nI z) M j = mk_rm (mk_st M (5 + 0) j (S.1 7 o)) j := by unfold hd_1; rw [if_pos hin, if_neg hgo, do_, e0]; exact if_pos c158
                refine v_aload_n C dX8_hands_161 rfl ?_
                refine v_iload C dX8_hands_162 rfl ?_
                refine v_callVv C (c_X8_ends hl X141 GA hj) dX8_hands_164 mX8_ends rfl X141.o rfl wd7_152 rfl rfl (Nat.le_of_ble_eq_true rfl) (hp_rmle hRm (by decide) (by decide)) (Nat.le_of_ble_eq_true rfl) (Nat.le_of_ble_eq_true rfl) (fun n164 h164 q164 => ?_)
                obtain ⟨k164, ⟨g164, G164, Y164⟩, W164⟩ := q164
                have z164 := Eq.symm k164
                have z164 : n0 = n164 := z164
                subst z164
                have W164 : ∀ a, (a < y ∨ y + 13 ≤ a) → h164 a = h0 a := fun a ha => (W164 a ha).trans (W141 a ha)
                have K164 := KA.rm j
                refine v_iinc C dX8_hands_167 (by decide) rfl ?_
                refine v_goto (tgt := 53) C dX8_hands_170 (by decide) ?_
                exact ih (mk_rm (mk_st M (5 + 0) j (S.1 7 o)) j) _ _ _ (hp_dec _) (show j ≤ mk_ct M - 1 by omega) (by rw [← e2]; exact hZ) G164 K164 Y164 W164
          · have e1 : hd_1 (S.1 7) (nI d) τ (nI z) M j = mk_rm M j := (if_pos hin).trans (if_pos (Or.inr c98))
            refine v_aload_n C dX8_hands_101 rfl ?_
            refine v_iload C dX8_hands_102 rfl ?_
            refine v_callVv C (c_X8_ends hl H hg hj) dX8_hands_104 mX8_ends rfl H.o rfl wd7_152 rfl rfl (Nat.le_of_ble_eq_true rfl) (hp_rmle hRm (by decide) (by decide)) (Nat.le_of_ble_eq_true rfl) (Nat.le_of_ble_eq_true rfl) (fun n104 h104 q104 => ?_)
            obtain ⟨k104, ⟨g104, G104, Y104⟩, W104⟩ := q104
            have z104 := Eq.symm k104
            have z104 : n0 = n104 := z104
            subst z104
            have W104 : ∀ a, (a < y ∨ y + 13 ≤ a) → h104 a = h0 a := fun a ha => (W104 a ha).trans (hO a ha)
            have K104 := hK.rm j
            refine v_goto (tgt := 167) C dX8_hands_107 (by decide) ?_
            refine v_iinc C dX8_hands_167 (by decide) rfl ?_
            refine v_goto (tgt := 53) C dX8_hands_170 (by decide) ?_
            exact ih (mk_rm M j) _ _ _ (hp_dec _) (show j ≤ mk_ct M - 1 by omega) (by rw [← e1]; exact hZ) G104 K104 Y104 W104
      · have e1 : hd_1 (S.1 7) (nI d) τ (nI z) M j = M := if_neg (fun z => z.elim c66 c77)
        refine v_goto (tgt := 167) C dX8_hands_80 (by decide) ?_
        refine v_iinc C dX8_hands_167 (by decide) rfl ?_
        refine v_goto (tgt := 53) C dX8_hands_170 (by decide) ?_
        exact ih (M) _ _ _ (hp_dec _) (show j ≤ mk_ct M by omega) (by rw [← e1]; exact hZ) hg hK H hO
set_option maxHeartbeats 8000000 in
/-- contracts are handed over -/
theorem c_X8_hands {G : hp_G} {l : Launch} (hl : l.stackTraces = false) {n0 : Nat} {h0 : Nat → Option va_E} {y : Nat} {S : mo_T} {g : Nat → Int32} (hS : Mo G h0 y (mo_sg S g)) {M : mk_T} (hg : Gr g M) (hK : mo_hk M) {d : Nat} (τ : Int32) : Ct G l yX8_hands cX8_hands 5 none 2 0 0 [.ref y, .int (nI d), .int τ] (n0, h0) (hp_vq (fun t => t.1 = n0 ∧ (∃ g1, Gr g1 (hd_M (S.1 7) d τ M) ∧ mo_hk (hd_M (S.1 7) d τ M) ∧ Mo G t.2 y (mo_sg S g1)) ∧ ∀ a, (a < y ∨ y + 13 ≤ a) → t.2 a = h0 a)) := by
  have hbase := hS.base
  have hbase := hS.base
  have hct := hg.ct
  refine Ct.of rfl hl (by simp [Value.category]) (Nat.le_of_ble_eq_true rfl) (fun K C E hRm hKl => ?_)
  subst hKl
  refine v_iconst (v := nI 0) C dX8_hands_0 (by decide) ?_
  refine v_istore_n C dX8_hands_1 (by decide) ?_
  refine v_iconst (v := nI 0) C dX8_hands_2 (by decide) ?_
  refine v_istore C dX8_hands_3 (by decide) ?_
  refine loop1_X8_hands (S := mo_sg S g) (M := M) (d := d) (τ := τ) hS hg C hRm hl ?_ (mk_hz M) 0 (Nat.zero_add _)
  refine v_aload_n C dX8_hands_43 rfl ?_
  refine v_get C 0 dX8_hands_44 wd6_237 hS.o rfl (by decide) ⟨rfl, rfl, rfl⟩ rfl ?_
  refine v_iconst (v := nI 2) C dX8_hands_47 (by decide) ?_
  refine v_ialdN C dX8_hands_48 hS.a0 (by omega) (by decide) ?_
  rw [mo_sg_0, hg.g2]
  refine v_iconst (v := nI 1) C dX8_hands_49 (by decide) ?_
  refine v_isub C dX8_hands_50 ?_
  refine v_istore C dX8_hands_51 (by decide) ?_
  exact loop_X8_hands (S := S) hbase C E hRm hl (fun h g9 G9 K9 H9 O9 => ⟨rfl, rfl, ⟨g9, G9, K9, H9⟩, O9⟩) (mk_ct M) M g _ _ rfl (Nat.le_refl _) rfl hg hK hS (fun _ _ => rfl)

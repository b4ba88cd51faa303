/-! ===== THE TAKE-OVER: prepare; the least sum by sets ===== -/
def tk_so (M : mk_T) (d c : Nat) : Nat := match c with
  | 0 => 0
  | c + 1 => if c ≠ d ∧ mk_ar M 4 c = 0 then tk_so M d c ||| 2 ^ c else tk_so M d c
theorem tk_so_lt (M : mk_T) (d : Nat) : ∀ c, tk_so M d c < 2 ^ c
  | 0 => by show 0 < 2 ^ 0; decide
  | c + 1 => by
    have h := tk_so_lt M d c
    have e : 2 ^ (c + 1) = 2 ^ c + 2 ^ c := by rw [Nat.pow_succ]; omega
    unfold tk_so
    split
    · exact Nat.or_lt_two_pow (by omega) (by have := Nat.one_le_two_pow (n := c); omega)
    · omega
def tk_pz (M : mk_T) (d c : Nat) : List (Nat × Int32) := match c with
  | 0 => []
  | c + 1 => if mk_po M (nI d) (nI c) = 0 then tk_pz M d c else tk_pz M d c ++ [(c, mk_po M (nI d) (nI c))]
theorem tk_pz_len (M : mk_T) (d : Nat) : ∀ c, (tk_pz M d c).length ≤ c
  | 0 => Nat.le_refl 0
  | c + 1 => by
    have h := tk_pz_len M d c
    unfold tk_pz
    split
    · omega
    · rw [List.length_append]
      show _ + 1 ≤ c + 1
      omega
/-- two rows hold a list of pairs -/
def tk_ho (hs ps : Nat → Int32) (l : List (Nat × Int32)) : Prop := ∀ i, i < l.length → hs i = nI (l.getD i (0, 0)).1 ∧ ps i = (l.getD i (0, 0)).2
theorem tk_ho_app {hs ps : Nat → Int32} {l : List (Nat × Int32)} {a : Nat} {x : Int32} (h : tk_ho hs ps l) : tk_ho (upd hs l.length (nI a)) (upd ps l.length x) (l ++ [(a, x)]) := by
  intro i hi
  rw [List.length_append] at hi
  have hi : i < l.length + 1 := hi
  by_cases q : i = l.length
  · subst q
    rw [pk_us, pk_us]
    simp
  · rw [pk_un q, pk_un q, (h i (by omega)).1, (h i (by omega)).2]
    simp only [List.getD_eq_getElem?_getD]
    rw [List.getElem?_append_left (by omega)]
    exact ⟨rfl, rfl⟩
def tk_en (M : mk_T) (d c : Nat) : Int32 := if mk_po M (nI d) (nI c) = 0 then nI d else -1
/-- what a trader keeps on a horizon -/
def tk_ag (M : mk_T) (d t c : Nat) : Int32 := mk_pw M (nI t) (nI c) (tk_en M d c) (mk_ct M)
theorem hp_or (a b : Nat) : nI a ||| nI b = nI (a ||| b) := by
  apply Int32.toBitVec_inj.mp
  show BitVec.ofNat 32 a ||| BitVec.ofNat 32 b = BitVec.ofNat 32 (a ||| b)
  exact (BitVec.ofNat_or ..).symm
set_option maxHeartbeats 8000000 in
theorem loop_X6_prepare1 {G : hp_G} {K : hp_C} {n : Nat} {h0 : Nat → Option va_E} {q o : Nat} {M : mk_T} {d : Nat} {nd : Nat} {af : Nat → Nat → Int32} {hs ps : Nat → Int32} {tk bt lf : Nat → Int32} {ls : Int32} (C : hp_Cx G K MX6_prepare) (hd6 : d < 6) (hd : o + 11 ≤ q ∨ q + 13 ≤ o) (hk : ∀ h : Nat → Option va_E, Tk G h q (tk_so M d (mk_tr M)) nd af hs ps tk bt lf ls → Mk G h o M → (∀ a, (a < q ∨ q + 13 ≤ a) → h a = h0 a) → V G K MX6_prepare 0 0 (n, h) 47 [some (.ref q), some (.ref o), some (.int (nI d)), some (.int (nI (mk_tr M))), none, none, none] []) : ∀ (e c : Nat) (h : Nat → Option va_E), c ≤ mk_tr M → mk_tr M ≤ c + e → Mk G h o M → Tk G h q (tk_so M d c) nd af hs ps tk bt lf ls → (∀ a, (a < q ∨ q + 13 ≤ a) → h a = h0 a) → V G K MX6_prepare 0 0 (n, h) 7 [some (.ref q), some (.ref o), some (.int (nI d)), some (.int (nI c)), none, none, none] [] := by
  intro e
  induction e with
  | zero =>
    intro c h h1 h2 hM hT hO
    have htr := hM.tr
    have e : c = mk_tr M := by omega
    subst e
    refine v_iload_n C dX6_prepare_7 rfl ?_
    refine v_aload_n C dX6_prepare_8 rfl ?_
    refine v_getN (v := .int (nI (mk_tr M))) C 4 dX6_prepare_9 wd1_56 hM.o rfl (by decide) ⟨rfl, rfl, rfl⟩ rfl ?_
    refine v_icmp_geN (tgt := 47) C dX6_prepare_12 (by decide) (by omega) (by omega) (fun c12 => ?_) (fun c12 => absurd c12 (by omega))
    exact hk _ hT hM hO
  | succ e ih =>
    intro c h h1 h2 hM hT hO
    have htr := hM.tr
    have hbase := hT.base
    refine v_iload_n C dX6_prepare_7 rfl ?_
    refine v_aload_n C dX6_prepare_8 rfl ?_
    refine v_getN (v := .int (nI (mk_tr M))) C 4 dX6_prepare_9 wd1_56 hM.o rfl (by decide) ⟨rfl, rfl, rfl⟩ rfl ?_
    refine v_icmp_geN (tgt := 47) C dX6_prepare_12 (by decide) (by omega) (by omega) (fun c12 => ?_) (fun c12 => ?_)
    · have e : c = mk_tr M := by omega
      subst e
      exact hk _ hT hM hO
    · have xl := tk_so_lt M d (c + 1)
      have x6 := hp_p6 (k := c + 1) (by omega)
      refine v_iload_n C dX6_prepare_15 rfl ?_
      refine v_iload_n C dX6_prepare_16 rfl ?_
      refine v_icmp_eqN (tgt := 41) C dX6_prepare_17 (by decide) (by omega) (by omega) (fun c17 => ?_) (fun c17 => ?_)
      · refine v_iincN C dX6_prepare_41 (by decide) rfl ?_
        refine v_goto (tgt := 7) C dX6_prepare_44 (by decide) ?_
        have en : tk_so M d (c + 1) = tk_so M d c := if_neg (fun z => by first | exact z.1 c17 | exact c26 z.2)
        exact ih (c + 1) _ (by omega) (by omega) hM (by rw [en]; exact hT) hO
      · refine v_aload_n C dX6_prepare_20 rfl ?_
        refine v_getN C 6 dX6_prepare_21 wd1_63 hM.o rfl (by decide) ⟨rfl, rfl, rfl⟩ rfl ?_
        refine v_iload_n C dX6_prepare_24 rfl ?_
        refine v_ialdN C dX6_prepare_25 hM.a4 (by omega) (by decide) ?_
        refine v_if_ne (tgt := 41) C dX6_prepare_26 (by decide) (fun c26 => ?_) (fun c26 => ?_)
        · refine v_iincN C dX6_prepare_41 (by decide) rfl ?_
          refine v_goto (tgt := 7) C dX6_prepare_44 (by decide) ?_
          have en : tk_so M d (c + 1) = tk_so M d c := if_neg (fun z => by first | exact z.1 c17 | exact c26 z.2)
          exact ih (c + 1) _ (by omega) (by omega) hM (by rw [en]; exact hT) hO
        · refine v_aload_n C dX6_prepare_29 rfl ?_
          refine v_dup C dX6_prepare_30 rfl ?_
          refine v_get C 0 dX6_prepare_31 wd1_175 hT.o rfl (by decide) ⟨rfl, rfl, rfl⟩ rfl ?_
          refine v_iconst (v := nI 1) C dX6_prepare_34 (by decide) ?_
          refine v_iload_n C dX6_prepare_35 rfl ?_
          refine v_ishl C dX6_prepare_36 ?_
          rw [hp_sh1 _ (by omega)]
          refine v_ior C dX6_prepare_37 ?_
          rw [hp_or]
          have en1 : tk_so M d c ||| 2 ^ c < 64 := by
            have h9 : tk_so M d (c + 1) = tk_so M d c ||| 2 ^ c := if_pos ⟨c17, c26⟩
            rw [← h9]; omega
          refine v_put C 0 dX6_prepare_38 wd1_175 hbase hT.o rfl (by decide) ⟨rfl, rfl, rfl, rfl⟩ rfl rfl rfl (Nat.le_of_ble_eq_true rfl) (fun h38 e38 g38 => ?_)
          have T38 := hT.p_sd e38 g38 (by omega)
          have M38 := hM.same (h' := h38) (fun a k1 k2 => g38 a (by omega))
          have hO38 : ∀ a, (a < q ∨ q + 13 ≤ a) → h38 a = h0 a := fun a ha => (g38 a (by omega)).trans (hO a ha)
          refine v_iincN C dX6_prepare_41 (by decide) rfl ?_
          refine v_goto (tgt := 7) C dX6_prepare_44 (by decide) ?_
          have en : tk_so M d (c + 1) = tk_so M d c ||| 2 ^ c := if_pos ⟨c17, c26⟩
          exact ih (c + 1) _ (by omega) (by omega) M38 (by rw [en]; exact T38) hO38
set_option maxHeartbeats 8000000 in
theorem loop_X6_prepare2 {G : hp_G} {K : hp_C} {n : Nat} {h0 : Nat → Option va_E} {q o : Nat} {M : mk_T} {d : Nat} {sd nd : Nat} {hs ps : Nat → Int32} {tk bt lf : Nat → Int32} {ls : Int32} {on : Nat} {pos en : Int32} (hen : en = tk_en M d on) (C : hp_Cx G K MX6_prepare) (hRm : hp_Rm K = hp_rm 4 0 0) (hl : K.2.1.stackTraces = false) (hon : on < mk_hz M) (hd : o + 11 ≤ q ∨ q + 13 ≤ o) (hk : ∀ (h : Nat → Option va_E) (af : Nat → Nat → Int32), Tk G h q sd nd af hs ps tk bt lf ls → Mk G h o M → (∀ i, i < mk_tr M → af i on = tk_ag M d i on) → (∀ i, i < mk_tr M → ∀ k, k < on → af i k = tk_ag M d i k) → (∀ a, (a < q ∨ q + 13 ≤ a) → h a = h0 a) → V G K MX6_prepare 0 0 (n, h) 154 [some (.ref q), some (.ref o), some (.int (nI d)), some (.int (nI on)), some (.int pos), some (.int en), some (.int (nI (mk_tr M)))] []) : ∀ (e c : Nat) (h : Nat → Option va_E) (af : Nat → Nat → Int32), c ≤ mk_tr M → mk_tr M ≤ c + e → Mk G h o M → Tk G h q sd nd af hs ps tk bt lf ls → (∀ i, i < mk_tr M → ∀ k, k < on → af i k = tk_ag M d i k) → (∀ i, i < c → af i on = tk_ag M d i on) → (∀ a, (a < q ∨ q + 13 ≤ a) → h a = h0 a) → V G K MX6_prepare 0 0 (n, h) 121 [some (.ref q), some (.ref o), some (.int (nI d)), some (.int (nI on)), some (.int pos), some (.int en), some (.int (nI c))] [] := by
  intro e
  induction e with
  | zero =>
    intro c h af h1 h2 hM hT ha hb hO
    have htr := hM.tr
    have e : c = mk_tr M := by omega
    subst e
    refine v_iload C dX6_prepare_121 rfl ?_
    refine v_aload_n C dX6_prepare_123 rfl ?_
    refine v_getN (v := .int (nI (mk_tr M))) C 4 dX6_prepare_124 wd1_56 hM.o rfl (by decide) ⟨rfl, rfl, rfl⟩ rfl ?_
    refine v_icmp_geN (tgt := 154) C dX6_prepare_127 (by decide) (by omega) (by omega) (fun c127 => ?_) (fun c127 => absurd c127 (by omega))
    exact hk _ _ hT hM hb ha hO
  | succ e ih =>
    intro c h af h1 h2 hM hT ha hb hO
    have htr := hM.tr
    have hhz := hM.hz
    have hbase := hT.base
    refine v_iload C dX6_prepare_121 rfl ?_
    refine v_aload_n C dX6_prepare_123 rfl ?_
    refine v_getN (v := .int (nI (mk_tr M))) C 4 dX6_prepare_124 wd1_56 hM.o rfl (by decide) ⟨rfl, rfl, rfl⟩ rfl ?_
    refine v_icmp_geN (tgt := 154) C dX6_prepare_127 (by decide) (by omega) (by omega) (fun c127 => ?_) (fun c127 => ?_)
    · have e : c = mk_tr M := by omega
      subst e
      exact hk _ _ hT hM hb ha hO
    · refine v_aload_n C dX6_prepare_130 rfl ?_
      refine v_get C 1 dX6_prepare_131 wd1_176 hT.o rfl (by decide) ⟨rfl, rfl, rfl⟩ rfl ?_
      refine v_iload C dX6_prepare_134 rfl ?_
      refine v_aaldN C 6 dX6_prepare_136 (by decide) hT.a_after (by omega) (by decide) (if_pos (by omega)) ?_
      refine v_iload_n C dX6_prepare_137 rfl ?_
      refine v_aload_n C dX6_prepare_138 rfl ?_
      refine v_iload C dX6_prepare_139 rfl ?_
      refine v_iload_n C dX6_prepare_141 rfl ?_
      refine v_iload C dX6_prepare_142 rfl ?_
      refine v_callVi C (c_X4_positionWithout hl hM _ _ _) dX6_prepare_144 mX4_positionWithout rfl hM.o rfl wd3_73 rfl rfl (Nat.le_of_ble_eq_true rfl) (hp_rmle hRm (by decide) (by decide)) (Nat.le_of_ble_eq_true rfl) (Nat.le_of_ble_eq_true rfl) ?_
      refine v_iastN C dX6_prepare_147 (by omega) (hT.row (by omega)) (by omega) (by decide) (fun h147 e147 g147 => ?_)
      have T147 := hT.s_row (by omega) e147 g147
      have M147 := hM.same (h' := h147) (fun a k1 k2 => g147 a (by omega))
      have hO147 : ∀ a, (a < q ∨ q + 13 ≤ a) → h147 a = h0 a := fun a ha => (g147 a (by omega)).trans (hO a ha)
      refine v_iincN C dX6_prepare_148 (by decide) rfl ?_
      refine v_goto (tgt := 121) C dX6_prepare_151 (by decide) ?_
      refine ih (c + 1) _ _ (by omega) (by omega) M147 T147 (fun i hi k hk2 => ?_) (fun i hi => ?_) hO147
      · by_cases z : i = c
        · subst z
          simp only [va_up, if_pos]
          rw [pk_un (by omega)]
          exact ha i hi k hk2
        · simp only [va_up, if_neg z]
          exact ha i hi k hk2
      · by_cases z : i = c
        · subst z
          simp only [va_up, if_pos]
          rw [pk_us, hen]
          rfl
        · simp only [va_up, if_neg z]
          exact hb i (by omega)
set_option maxHeartbeats 8000000 in
theorem loop_X6_prepare3 {G : hp_G} {K : hp_C} {n : Nat} {h0 : Nat → Option va_E} {q o : Nat} {M : mk_T} {d : Nat} {sd : Nat} {tk bt lf : Nat → Int32} {ls : Int32} (C : hp_Cx G K MX6_prepare) (hRm : hp_Rm K = hp_rm 4 0 0) (hl : K.2.1.stackTraces = false) (hd : o + 11 ≤ q ∨ q + 13 ≤ o) (hk : ∀ (h : Nat → Option va_E) (af : Nat → Nat → Int32) (hs ps : Nat → Int32), Tk G h q sd (tk_pz M d (mk_hz M)).length af hs ps tk bt lf ls → tk_ho hs ps (tk_pz M d (mk_hz M)) → (∀ i, i < mk_tr M → ∀ k, k < (mk_hz M) → af i k = tk_ag M d i k) → (∀ a, (a < q ∨ q + 13 ≤ a) → h a = h0 a) → V G K MX6_prepare 0 0 (n, h) 160 [some (.ref q), some (.ref o), some (.int (nI d)), some (.int (nI (mk_hz M))), none, none, none] []) : ∀ (e on : Nat) (h : Nat → Option va_E) (af : Nat → Nat → Int32) (hs ps : Nat → Int32), on ≤ mk_hz M → mk_hz M ≤ on + e → Mk G h o M → Tk G h q sd (tk_pz M d on).length af hs ps tk bt lf ls → tk_ho hs ps (tk_pz M d on) → (∀ i, i < mk_tr M → ∀ k, k < on → af i k = tk_ag M d i k) → (∀ a, (a < q ∨ q + 13 ≤ a) → h a = h0 a) → V G K MX6_prepare 0 0 (n, h) 54 [some (.ref q), some (.ref o), some (.int (nI d)), some (.int (nI on)), none, none, none] [] := by
  intro e
  induction e with
  | zero =>
    intro on h af hs ps h1 h2 hM hT hho ha hO
    have hhz := hM.hz
    have e : on = mk_hz M := by omega
    subst e
    refine v_iload_n C dX6_prepare_54 rfl ?_
    refine v_aload_n C dX6_prepare_55 rfl ?_
    refine v_getN (v := .int (nI (mk_hz M))) C 0 dX6_prepare_56 wd1_47 hM.o rfl (by decide) ⟨rfl, rfl, rfl⟩ rfl ?_
    refine v_icmp_geN (tgt := 160) C dX6_prepare_59 (by decide) (by omega) (by omega) (fun c59 => ?_) (fun c59 => absurd c59 (by omega))
    exact hk _ _ _ _ hT hho ha hO
  | succ e ih =>
    intro on h af hs ps h1 h2 hM hT hho ha hO
    have htr := hM.tr
    have hhz := hM.hz
    have hln := tk_pz_len M d on
    have hbase := hT.base
    refine v_iload_n C dX6_prepare_54 rfl ?_
    refine v_aload_n C dX6_prepare_55 rfl ?_
    refine v_getN (v := .int (nI (mk_hz M))) C 0 dX6_prepare_56 wd1_47 hM.o rfl (by decide) ⟨rfl, rfl, rfl⟩ rfl ?_
    refine v_icmp_geN (tgt := 160) C dX6_prepare_59 (by decide) (by omega) (by omega) (fun c59 => ?_) (fun c59 => ?_)
    · have e : on = mk_hz M := by omega
      subst e
      exact hk _ _ _ _ hT hho ha hO
    · refine v_aload_n C dX6_prepare_62 rfl ?_
      refine v_iload_n C dX6_prepare_63 rfl ?_
      refine v_iload_n C dX6_prepare_64 rfl ?_
      refine v_callVi C (c_X4_position hl hM _ _) dX6_prepare_65 mX4_position rfl hM.o rfl wd3_72 rfl rfl (Nat.le_of_ble_eq_true rfl) (hp_rmle hRm (by decide) (by decide)) (Nat.le_of_ble_eq_true rfl) (Nat.le_of_ble_eq_true rfl) ?_
      refine v_istore C dX6_prepare_68 (by decide) ?_
      refine v_iload C dX6_prepare_70 rfl ?_
      refine v_if_eq (tgt := 106) C dX6_prepare_72 (by decide) (fun c72 => ?_) (fun c72 => ?_)
      · refine v_iload C dX6_prepare_106 rfl ?_
        refine v_if_ne (tgt := 115) C dX6_prepare_108 (by decide) (fun c108 => absurd c108 (fun q => q c72)) (fun c108 => ?_)
        refine v_iload_n C dX6_prepare_111 rfl ?_
        refine v_goto (tgt := 116) C dX6_prepare_112 (by decide) ?_
        refine v_istore C dX6_prepare_116 (by decide) ?_
        refine v_iconst (v := nI 0) C dX6_prepare_118 (by decide) ?_
        refine v_istore C dX6_prepare_119 (by decide) ?_
        have en : tk_pz M d (on + 1) = tk_pz M d on := if_pos c72
        have ee : tk_en M d on = nI d := if_pos c72
        refine loop_X6_prepare2 ee.symm C hRm hl c59 hd (fun h1 af1 hT1 hM1 hb1 ha1 hO1 => ?_) (mk_tr M) 0 _ _ (Nat.zero_le _) (by omega) hM hT ha (fun i hi => absurd hi (Nat.not_lt_zero i)) hO
        refine v_iincN C dX6_prepare_154 (by decide) rfl ?_
        refine v_goto (tgt := 54) C dX6_prepare_157 (by decide) ?_
        refine v_drop 4 (v_drop 5 (v_drop 6 ?_))
        have ha2 : ∀ i, i < mk_tr M → ∀ k, k < on + 1 → af1 i k = tk_ag M d i k := fun i hi k hk2 => by
          by_cases z : k = on
          · subst z
            exact hb1 i hi
          · exact ha1 i hi k (by omega)
        exact ih (on + 1) _ _ _ _ (by omega) (by omega) hM1 (by rw [en]; exact hT1) (by rw [en]; exact hho) ha2 hO1
      · refine v_aload_n C dX6_prepare_75 rfl ?_
        refine v_get C 3 dX6_prepare_76 wd1_178 hT.o rfl (by decide) ⟨rfl, rfl, rfl⟩ rfl ?_
        refine v_aload_n C dX6_prepare_79 rfl ?_
        refine v_get C 2 dX6_prepare_80 wd1_177 hT.o rfl (by decide) ⟨rfl, rfl, rfl⟩ rfl ?_
        refine v_iload_n C dX6_prepare_83 rfl ?_
        refine v_iastN C dX6_prepare_84 (by omega) hT.a_hs (by omega) (by decide) (fun h84 e84 g84 => ?_)
        have T84 := hT.s_hs e84 g84
        have M84 := hM.same (h' := h84) (fun a k1 k2 => g84 a (by omega))
        have hO84 : ∀ a, (a < q ∨ q + 13 ≤ a) → h84 a = h0 a := fun a ha => (g84 a (by omega)).trans (hO a ha)
        refine v_aload_n C dX6_prepare_85 rfl ?_
        refine v_get C 4 dX6_prepare_86 wd1_179 T84.o rfl (by decide) ⟨rfl, rfl, rfl⟩ rfl ?_
        refine v_aload_n C dX6_prepare_89 rfl ?_
        refine v_get C 2 dX6_prepare_90 wd1_177 T84.o rfl (by decide) ⟨rfl, rfl, rfl⟩ rfl ?_
        refine v_iload C dX6_prepare_93 rfl ?_
        refine v_iastN C dX6_prepare_95 (by omega) T84.a_ps (by omega) (by decide) (fun h95 e95 g95 => ?_)
        have T95 := T84.s_ps e95 g95
        have M95 := M84.same (h' := h95) (fun a k1 k2 => g95 a (by omega))
        have hO95 : ∀ a, (a < q ∨ q + 13 ≤ a) → h95 a = h0 a := fun a ha => (g95 a (by omega)).trans (hO84 a ha)
        refine v_aload_n C dX6_prepare_96 rfl ?_
        refine v_dup C dX6_prepare_97 rfl ?_
        refine v_get C 2 dX6_prepare_98 wd1_177 T95.o rfl (by decide) ⟨rfl, rfl, rfl⟩ rfl ?_
        refine v_iconst (v := nI 1) C dX6_prepare_101 (by decide) ?_
        refine v_iaddN C dX6_prepare_102 ?_
        refine v_put C 2 dX6_prepare_103 wd1_177 hbase T95.o rfl (by decide) ⟨rfl, rfl, rfl, rfl⟩ rfl rfl rfl (Nat.le_of_ble_eq_true rfl) (fun h103 e103 g103 => ?_)
        have T103 := T95.p_nd e103 g103 (by omega)
        have M103 := M95.same (h' := h103) (fun a k1 k2 => g103 a (by omega))
        have hO103 : ∀ a, (a < q ∨ q + 13 ≤ a) → h103 a = h0 a := fun a ha => (g103 a (by omega)).trans (hO95 a ha)
        refine v_iload C dX6_prepare_106 rfl ?_
        refine v_if_ne (tgt := 115) C dX6_prepare_108 (by decide) (fun c108 => ?_) (fun c108 => absurd c108 c72)
        refine v_iconst (v := (-1)) C dX6_prepare_115 (by decide) ?_
        refine v_istore C dX6_prepare_116 (by decide) ?_
        refine v_iconst (v := nI 0) C dX6_prepare_118 (by decide) ?_
        refine v_istore C dX6_prepare_119 (by decide) ?_
        have en : tk_pz M d (on + 1) = tk_pz M d on ++ [(on, mk_po M (nI d) (nI on))] := if_neg c72
        have el : (tk_pz M d (on + 1)).length = (tk_pz M d on).length + 1 := by rw [en, List.length_append]; rfl
        have ee : tk_en M d on = -1 := if_neg c72
        refine loop_X6_prepare2 ee.symm C hRm hl c59 hd (fun h1 af1 hT1 hM1 hb1 ha1 hO1 => ?_) (mk_tr M) 0 _ _ (Nat.zero_le _) (by omega) M103 T103 ha (fun i hi => absurd hi (Nat.not_lt_zero i)) hO103
        refine v_iincN C dX6_prepare_154 (by decide) rfl ?_
        refine v_goto (tgt := 54) C dX6_prepare_157 (by decide) ?_
        refine v_drop 4 (v_drop 5 (v_drop 6 ?_))
        have ha2 : ∀ i, i < mk_tr M → ∀ k, k < on + 1 → af1 i k = tk_ag M d i k := fun i hi k hk2 => by
          by_cases z : k = on
          · subst z
            exact hb1 i hi
          · exact ha1 i hi k (by omega)
        exact ih (on + 1) _ _ _ _ (by omega) (by omega) hM1 (by rw [el]; exact hT1) (by rw [en]; exact tk_ho_app hho) ha2 hO1
set_option maxHeartbeats 8000000 in
/-- the rows for a default -/
theorem c_X6_prepare {G : hp_G} {l : Launch} (hl : l.stackTraces = false) {n : Nat} {h0 : Nat → Option va_E} {q : Nat} {sd nd : Nat} {af : Nat → Nat → Int32} {hs ps tk bt lf : Nat → Int32} {ls : Int32} (hT : Tk G h0 q sd nd af hs ps tk bt lf ls) {o : Nat} {M : mk_T} (hM : Mk G h0 o M) {d : Nat} (hd6 : d < 6) (hd : o + 11 ≤ q ∨ q + 13 ≤ o) : Ct G l yX6_prepare cX6_prepare 7 none 4 0 0 [.ref q, .ref o, .int (nI d)] (n, h0) (hp_vq (fun τ => τ.1 = n ∧ ∃ af1 hs1 ps1, Tk G τ.2 q (tk_so M d (mk_tr M)) (tk_pz M d (mk_hz M)).length af1 hs1 ps1 tk bt lf ls ∧ tk_ho hs1 ps1 (tk_pz M d (mk_hz M)) ∧ (∀ i, i < mk_tr M → ∀ k, k < mk_hz M → af1 i k = tk_ag M d i k) ∧ ∀ a, (a < q ∨ q + 13 ≤ a) → τ.2 a = h0 a)) := by
  have hbase := hT.base
  have hO : ∀ a, (a < q ∨ q + 13 ≤ a) → h0 a = h0 a := fun _ _ => rfl
  have htr := hM.tr
  refine Ct.of rfl hl (by simp [Value.category]) (Nat.le_of_ble_eq_true rfl) (fun K C E hRm hKl => ?_)
  subst hKl
  refine v_aload_n C dX6_prepare_0 rfl ?_
  refine v_iconst (v := nI 0) C dX6_prepare_1 (by decide) ?_
  refine v_put C 0 dX6_prepare_2 wd1_175 hbase hT.o rfl (by decide) ⟨rfl, rfl, rfl, rfl⟩ rfl rfl rfl (Nat.le_of_ble_eq_true rfl) (fun h2 e2 g2 => ?_)
  have T2 := hT.p_sd e2 g2 (by omega)
  have M2 := hM.same (h' := h2) (fun a k1 k2 => g2 a (by omega))
  have hO2 : ∀ a, (a < q ∨ q + 13 ≤ a) → h2 a = h0 a := fun a ha => (g2 a (by omega)).trans (hO a ha)
  refine v_iconst (v := nI 0) C dX6_prepare_5 (by decide) ?_
  refine v_istore_n C dX6_prepare_6 (by decide) ?_
  refine loop_X6_prepare1 C hd6 hd (fun h1 hT1 hM1 hO1 => ?_) (mk_tr M) 0 _ (Nat.zero_le _) (Nat.le_of_eq (Nat.zero_add _).symm) M2 T2 hO2
  refine v_aload_n C dX6_prepare_47 rfl ?_
  refine v_iconst (v := nI 0) C dX6_prepare_48 (by decide) ?_
  refine v_put C 2 dX6_prepare_49 wd1_177 hbase hT1.o rfl (by decide) ⟨rfl, rfl, rfl, rfl⟩ rfl rfl rfl (Nat.le_of_ble_eq_true rfl) (fun h49 e49 g49 => ?_)
  have T49 := hT1.p_nd e49 g49 (by omega)
  have M49 := hM1.same (h' := h49) (fun a k1 k2 => g49 a (by omega))
  have hO49 : ∀ a, (a < q ∨ q + 13 ≤ a) → h49 a = h0 a := fun a ha => (g49 a (by omega)).trans (hO1 a ha)
  refine v_iconst (v := nI 0) C dX6_prepare_52 (by decide) ?_
  refine v_istore_n C dX6_prepare_53 (by decide) ?_
  refine loop_X6_prepare3 C hRm hl hd (fun h2 af2 hs2 ps2 hT2 hho2 ha2 hO2 => ?_) (mk_hz M) 0 _ _ hs ps (Nat.zero_le _) (Nat.le_of_eq (Nat.zero_add _).symm) M49 T49 (fun i hi => absurd hi (Nat.not_lt_zero i)) (fun _ _ k hk => absurd hk (Nat.not_lt_zero k)) hO49
  exact v_vret C E dX6_prepare_160 rfl ⟨rfl, rfl, af2, hs2, ps2, hT2, hho2, ha2, hO2⟩
/-- one set: the least sum so far, the row of the least sums -/
def tk_ss (sd tr hz nd : Nat) (rg hs ps : Nat → Int32) (af : Nat → Nat → Int32) (s : Nat) (b : tk_B) : tk_B :=
  if (nI s &&& (nI sd ^^^ -1)) = 0 ∧ tk_bc s ≤ nd then
    (fun v : Int32 => (if tk_bc s = nd then (if v < b.1 then v else b.1) else b.1, upd b.2 s v)) (if tk_bc s = 0 then tk_sm sd af rg hz tr else tk_wl af rg (hs (tk_bc s - 1)).toNatClampNeg (ps (tk_bc s - 1)) b.2 s tr)
  else b
abbrev tk_sl (sd tr hz nd : Nat) (rg hs ps : Nat → Int32) (af : Nat → Nat → Int32) (c : Nat) (b : tk_B) : tk_B := tk_lp (tk_ss sd tr hz nd rg hs ps af) c b
section TKSS
variable {sd tr hz nd : Nat} {rg hs ps : Nat → Int32} {af : Nat → Nat → Int32} {s : Nat} {b : tk_B}
theorem tk_ss_n (h : ¬ ((nI s &&& (nI sd ^^^ -1)) = 0 ∧ tk_bc s ≤ nd)) : tk_ss sd tr hz nd rg hs ps af s b = b := if_neg h
theorem tk_ss_0 (h1 : (nI s &&& (nI sd ^^^ -1)) = 0) (h2 : tk_bc s ≤ nd) (h3 : tk_bc s = 0) : tk_ss sd tr hz nd rg hs ps af s b = (if tk_bc s = nd then (if tk_sm sd af rg hz tr < b.1 then tk_sm sd af rg hz tr else b.1) else b.1, upd b.2 s (tk_sm sd af rg hz tr)) := by
  unfold tk_ss
  rw [if_pos ⟨h1, h2⟩, if_pos h3]
theorem tk_ss_w (h1 : (nI s &&& (nI sd ^^^ -1)) = 0) (h2 : tk_bc s ≤ nd) (h3 : ¬ tk_bc s = 0) {hj : Nat} (hj4 : hj < 4) (hje : hs (tk_bc s - 1) = nI hj) : tk_ss sd tr hz nd rg hs ps af s b = (if tk_bc s = nd then (if tk_wl af rg hj (ps (tk_bc s - 1)) b.2 s tr < b.1 then tk_wl af rg hj (ps (tk_bc s - 1)) b.2 s tr else b.1) else b.1, upd b.2 s (tk_wl af rg hj (ps (tk_bc s - 1)) b.2 s tr)) := by
  have e : (hs (tk_bc s - 1)).toNatClampNeg = hj := by rw [hje, nI_clamp (by omega)]
  unfold tk_ss
  rw [if_pos ⟨h1, h2⟩, if_neg h3, e]
end TKSS
set_option maxHeartbeats 8000000 in
theorem loop_X6_leastOverSets {G : hp_G} {K : hp_C} {n : Nat} {h0 : Nat → Option va_E} {q o : Nat} {M : mk_T} {sd nd : Nat} {af : Nat → Nat → Int32} {hs ps tk bt lf : Nat → Int32} {ls : Int32} (C : hp_Cx G K MX6_leastOverSets) (hRm : hp_Rm K = hp_rm 2 0 0) (hl : K.2.1.stackTraces = false) (hd : o + 11 ≤ q ∨ q + 13 ≤ o) (hhs : ∀ i, i < nd → ∃ j, j < 4 ∧ hs i = nI j) (hk : ∀ (h : Nat → Option va_E), Tk G h q sd nd af hs ps tk bt (tk_sl sd (mk_tr M) (mk_hz M) nd (mk_ar M 2) hs ps af (2 ^ mk_tr M) (1000000000, lf)).2 ls → (∀ a, (a < q ∨ q + 13 ≤ a) → h a = h0 a) → V G K MX6_leastOverSets 0 0 (n, h) 99 [some (.ref q), some (.ref o), some (.int (tk_sl sd (mk_tr M) (mk_hz M) nd (mk_ar M 2) hs ps af (2 ^ mk_tr M) (1000000000, lf)).1), some (.int (nI (2 ^ mk_tr M))), none] []) : ∀ (e c : Nat) (h : Nat → Option va_E) (x : Int32), c ≤ 2 ^ mk_tr M → 2 ^ mk_tr M ≤ c + e → Mk G h o M → Tk G h q sd nd af hs ps tk bt (tk_sl sd (mk_tr M) (mk_hz M) nd (mk_ar M 2) hs ps af c (1000000000, lf)).2 ls → x = (tk_sl sd (mk_tr M) (mk_hz M) nd (mk_ar M 2) hs ps af c (1000000000, lf)).1 → (∀ a, (a < q ∨ q + 13 ≤ a) → h a = h0 a) → V G K MX6_leastOverSets 0 0 (n, h) 5 [some (.ref q), some (.ref o), some (.int x), some (.int (nI c)), none] [] := by
  intro e
  induction e with
  | zero =>
    intro c h x h1 h2 hM hT ex hO
    have htr := hM.tr
    have p6 := hp_p6 htr
    have e : c = 2 ^ mk_tr M := by omega
    subst e
    subst ex
    refine v_iload_n C dX6_leastOverSets_5 rfl ?_
    refine v_iconst (v := nI 1) C dX6_leastOverSets_6 (by decide) ?_
    refine v_aload_n C dX6_leastOverSets_7 rfl ?_
    refine v_getN (v := .int (nI (mk_tr M))) C 4 dX6_leastOverSets_8 wd1_56 hM.o rfl (by decide) ⟨rfl, rfl, rfl⟩ rfl ?_
    refine v_ishl C dX6_leastOverSets_11 ?_
    rw [hp_sh1 _ (by omega)]
    refine v_icmp_geN (tgt := 99) C dX6_leastOverSets_12 (by decide) (by omega) (by omega) (fun c12 => ?_) (fun c12 => absurd c12 (by omega))
    exact hk _ hT hO
  | succ e ih =>
    intro c h x h1 h2 hM hT ex hO
    have htr := hM.tr
    have p6 := hp_p6 htr
    have hbnd := hT.bnd
    have hbc := tk_bc_le c
    have hbase := hT.base
    refine v_iload_n C dX6_leastOverSets_5 rfl ?_
    refine v_iconst (v := nI 1) C dX6_leastOverSets_6 (by decide) ?_
    refine v_aload_n C dX6_leastOverSets_7 rfl ?_
    refine v_getN (v := .int (nI (mk_tr M))) C 4 dX6_leastOverSets_8 wd1_56 hM.o rfl (by decide) ⟨rfl, rfl, rfl⟩ rfl ?_
    refine v_ishl C dX6_leastOverSets_11 ?_
    rw [hp_sh1 _ (by omega)]
    refine v_icmp_geN (tgt := 99) C dX6_leastOverSets_12 (by decide) (by omega) (by omega) (fun c12 => ?_) (fun c12 => ?_)
    · have e : c = 2 ^ mk_tr M := by omega
      subst e
      subst ex
      exact hk _ hT hO
    · refine v_iload_n C dX6_leastOverSets_15 rfl ?_
      refine v_callSi C (c_J6_bitCount_0f7a4 hl (by omega)) dX6_leastOverSets_16 mJ6_bitCount_0f7a4 wd3_78 rfl rfl (Nat.le_of_ble_eq_true rfl) (hp_rmle hRm (by decide) (by decide)) (Nat.le_of_ble_eq_true rfl) (Nat.le_of_ble_eq_true rfl) ?_
      refine v_istore C dX6_leastOverSets_19 (by decide) ?_
      refine v_iload_n C dX6_leastOverSets_21 rfl ?_
      refine v_aload_n C dX6_leastOverSets_22 rfl ?_
      refine v_get C 0 dX6_leastOverSets_23 wd1_175 hT.o rfl (by decide) ⟨rfl, rfl, rfl⟩ rfl ?_
      refine v_iconst (v := (-1)) C dX6_leastOverSets_26 (by decide) ?_
      refine v_ixor C dX6_leastOverSets_27 ?_
      refine v_iand C dX6_leastOverSets_28 ?_
      refine v_if_ne (tgt := 93) C dX6_leastOverSets_29 (by decide) (fun c29 => ?_) (fun c29 => ?_)
      · refine v_iincN C dX6_leastOverSets_93 (by decide) rfl ?_
        refine v_goto (tgt := 5) C dX6_leastOverSets_96 (by decide) ?_
        refine v_drop 4 ?_
        have en : tk_sl sd (mk_tr M) (mk_hz M) nd (mk_ar M 2) hs ps af (c + 1) (1000000000, lf) = tk_sl sd (mk_tr M) (mk_hz M) nd (mk_ar M 2) hs ps af c (1000000000, lf) := if_neg (fun z => by first | exact c29 z.1 | exact absurd z.2 (by omega))
        exact ih (c + 1) _ _ (by omega) (by omega) hM (by rw [en]; exact hT) (by rw [en]; exact ex) hO
      · refine v_iload C dX6_leastOverSets_32 rfl ?_
        refine v_aload_n C dX6_leastOverSets_34 rfl ?_
        refine v_get C 2 dX6_leastOverSets_35 wd1_177 hT.o rfl (by decide) ⟨rfl, rfl, rfl⟩ rfl ?_
        refine v_icmp_leN (tgt := 44) C dX6_leastOverSets_38 (by decide) (by omega) (by omega) (fun c38 => ?_) (fun c38 => ?_)
        · refine v_aload_n C dX6_leastOverSets_44 rfl ?_
          refine v_get C 8 dX6_leastOverSets_45 wd1_183 hT.o rfl (by decide) ⟨rfl, rfl, rfl⟩ rfl ?_
          refine v_iload_n C dX6_leastOverSets_48 rfl ?_
          refine v_iload C dX6_leastOverSets_49 rfl ?_
          refine v_if_ne (tgt := 62) C dX6_leastOverSets_51 (by decide) (fun c51 => ?_) (fun c51 => ?_)
          · have c51n : ¬ tk_bc c = 0 := fun z => c51 (by rw [z]; rfl)
            obtain ⟨hj, hj4, hje⟩ := hhs (tk_bc c - 1) (by omega)
            have hje2 : (hs (tk_bc c - 1)).toNatClampNeg = hj := by rw [hje, nI_clamp (by omega)]
            refine v_aload_n C dX6_leastOverSets_62 rfl ?_
            refine v_aload_n C dX6_leastOverSets_63 rfl ?_
            refine v_iload_n C dX6_leastOverSets_64 rfl ?_
            refine v_iload C dX6_leastOverSets_65 rfl ?_
            refine v_iconst (v := nI 1) C dX6_leastOverSets_67 (by decide) ?_
            refine v_isubN C dX6_leastOverSets_68 (by omega) ?_
            refine v_callVi C (c_X6_leastWithLast hl hT hM (by omega) (by omega) hje hj4) dX6_leastOverSets_69 mX6_leastWithLast rfl hT.o rfl wf19 rfl rfl (Nat.le_of_ble_eq_true rfl) (hp_rmle hRm (by decide) (by decide)) (Nat.le_of_ble_eq_true rfl) (Nat.le_of_ble_eq_true rfl) ?_
            refine v_iastN C dX6_leastOverSets_72 (by omega) hT.a_lf (by omega) (by decide) (fun h72 e72 g72 => ?_)
            have T72 := hT.s_lf e72 g72
            have M72 := hM.same (h' := h72) (fun a k1 k2 => g72 a (by omega))
            have hO72 : ∀ a, (a < q ∨ q + 13 ≤ a) → h72 a = h0 a := fun a ha => (g72 a (by omega)).trans (hO a ha)
            refine v_iload C dX6_leastOverSets_73 rfl ?_
            refine v_aload_n C dX6_leastOverSets_75 rfl ?_
            refine v_get C 2 dX6_leastOverSets_76 wd1_177 T72.o rfl (by decide) ⟨rfl, rfl, rfl⟩ rfl ?_
            refine v_icmp_neN (tgt := 93) C dX6_leastOverSets_79 (by decide) (by omega) (by omega) (fun c79 => ?_) (fun c79 => ?_)
            · refine v_iincN C dX6_leastOverSets_93 (by decide) rfl ?_
              refine v_goto (tgt := 5) C dX6_leastOverSets_96 (by decide) ?_
              refine v_drop 4 ?_
              first
              | (have en := tk_ss_0 c29 c38 c51n (tr := mk_tr M) (hz := mk_hz M) (rg := mk_ar M 2) (hs := hs) (ps := ps) (af := af) (b := tk_sl sd (mk_tr M) (mk_hz M) nd (mk_ar M 2) hs ps af c (1000000000, lf)); exact ih (c + 1) _ _ (by omega) (by omega) M72 ((congrArg Prod.snd en).symm ▸ T72) (by rw [ex]; refine Eq.trans ?_ (congrArg Prod.fst en).symm; first | rw [if_pos c79] | rw [if_neg c79]) hO72)
              | (have en := tk_ss_w c29 c38 c51n hj4 hje (tr := mk_tr M) (hz := mk_hz M) (rg := mk_ar M 2) (hs := hs) (ps := ps) (af := af) (b := tk_sl sd (mk_tr M) (mk_hz M) nd (mk_ar M 2) hs ps af c (1000000000, lf)); exact ih (c + 1) _ _ (by omega) (by omega) M72 ((congrArg Prod.snd en).symm ▸ T72) (by rw [ex]; refine Eq.trans ?_ (congrArg Prod.fst en).symm; first | rw [if_pos c79] | rw [if_neg c79]) hO72)
            · refine v_iload_n C dX6_leastOverSets_82 rfl ?_
              refine v_aload_n C dX6_leastOverSets_83 rfl ?_
              refine v_get C 8 dX6_leastOverSets_84 wd1_183 T72.o rfl (by decide) ⟨rfl, rfl, rfl⟩ rfl ?_
              refine v_iload_n C dX6_leastOverSets_87 rfl ?_
              refine v_ialdN C dX6_leastOverSets_88 T72.a_lf (by omega) (by decide) ?_
              rw [pk_us]
              refine v_mmin C dX6_leastOverSets_89 wf21 (Nat.le_of_ble_eq_true rfl) (hp_rmm hRm) ?_
              refine v_istore_n C dX6_leastOverSets_92 (by decide) ?_
              refine v_iincN C dX6_leastOverSets_93 (by decide) rfl ?_
              refine v_goto (tgt := 5) C dX6_leastOverSets_96 (by decide) ?_
              refine v_drop 4 ?_
              first
              | (have en := tk_ss_0 c29 c38 c51n (tr := mk_tr M) (hz := mk_hz M) (rg := mk_ar M 2) (hs := hs) (ps := ps) (af := af) (b := tk_sl sd (mk_tr M) (mk_hz M) nd (mk_ar M 2) hs ps af c (1000000000, lf)); exact ih (c + 1) _ _ (by omega) (by omega) M72 ((congrArg Prod.snd en).symm ▸ T72) (by rw [ex]; refine Eq.trans ?_ (congrArg Prod.fst en).symm; first | rw [if_pos c79] | rw [if_neg c79]) hO72)
              | (have en := tk_ss_w c29 c38 c51n hj4 hje (tr := mk_tr M) (hz := mk_hz M) (rg := mk_ar M 2) (hs := hs) (ps := ps) (af := af) (b := tk_sl sd (mk_tr M) (mk_hz M) nd (mk_ar M 2) hs ps af c (1000000000, lf)); exact ih (c + 1) _ _ (by omega) (by omega) M72 ((congrArg Prod.snd en).symm ▸ T72) (by rw [ex]; refine Eq.trans ?_ (congrArg Prod.fst en).symm; first | rw [if_pos c79] | rw [if_neg c79]) hO72)
          · have c51n : tk_bc c = 0 := (nI_eq (b := 0) (by omega) (by omega)).mp c51
            refine v_aload_n C dX6_leastOverSets_54 rfl ?_
            refine v_aload_n C dX6_leastOverSets_55 rfl ?_
            refine v_callVi C (c_X6_sumOfMargins hl hT hM) dX6_leastOverSets_56 mX6_sumOfMargins rfl hT.o rfl wd3_93 rfl rfl (Nat.le_of_ble_eq_true rfl) (hp_rmle hRm (by decide) (by decide)) (Nat.le_of_ble_eq_true rfl) (Nat.le_of_ble_eq_true rfl) ?_
            refine v_goto (tgt := 72) C dX6_leastOverSets_59 (by decide) ?_
            refine v_iastN C dX6_leastOverSets_72 (by omega) hT.a_lf (by omega) (by decide) (fun h72 e72 g72 => ?_)
            have T72 := hT.s_lf e72 g72
            have M72 := hM.same (h' := h72) (fun a k1 k2 => g72 a (by omega))
            have hO72 : ∀ a, (a < q ∨ q + 13 ≤ a) → h72 a = h0 a := fun a ha => (g72 a (by omega)).trans (hO a ha)
            refine v_iload C dX6_leastOverSets_73 rfl ?_
            refine v_aload_n C dX6_leastOverSets_75 rfl ?_
            refine v_get C 2 dX6_leastOverSets_76 wd1_177 T72.o rfl (by decide) ⟨rfl, rfl, rfl⟩ rfl ?_
            refine v_icmp_neN (tgt := 93) C dX6_leastOverSets_79 (by decide) (by omega) (by omega) (fun c79 => ?_) (fun c79 => ?_)
            · refine v_iincN C dX6_leastOverSets_93 (by decide) rfl ?_
              refine v_goto (tgt := 5) C dX6_leastOverSets_96 (by decide) ?_
              refine v_drop 4 ?_
              first
              | (have en := tk_ss_0 c29 c38 c51n (tr := mk_tr M) (hz := mk_hz M) (rg := mk_ar M 2) (hs := hs) (ps := ps) (af := af) (b := tk_sl sd (mk_tr M) (mk_hz M) nd (mk_ar M 2) hs ps af c (1000000000, lf)); exact ih (c + 1) _ _ (by omega) (by omega) M72 ((congrArg Prod.snd en).symm ▸ T72) (by rw [ex]; refine Eq.trans ?_ (congrArg Prod.fst en).symm; first | rw [if_pos c79] | rw [if_neg c79]) hO72)
              | (have en := tk_ss_w c29 c38 c51n hj4 hje (tr := mk_tr M) (hz := mk_hz M) (rg := mk_ar M 2) (hs := hs) (ps := ps) (af := af) (b := tk_sl sd (mk_tr M) (mk_hz M) nd (mk_ar M 2) hs ps af c (1000000000, lf)); exact ih (c + 1) _ _ (by omega) (by omega) M72 ((congrArg Prod.snd en).symm ▸ T72) (by rw [ex]; refine Eq.trans ?_ (congrArg Prod.fst en).symm; first | rw [if_pos c79] | rw [if_neg c79]) hO72)
            · refine v_iload_n C dX6_leastOverSets_82 rfl ?_
              refine v_aload_n C dX6_leastOverSets_83 rfl ?_
              refine v_get C 8 dX6_leastOverSets_84 wd1_183 T72.o rfl (by decide) ⟨rfl, rfl, rfl⟩ rfl ?_
              refine v_iload_n C dX6_leastOverSets_87 rfl ?_
              refine v_ialdN C dX6_leastOverSets_88 T72.a_lf (by omega) (by decide) ?_
              rw [pk_us]
              refine v_mmin C dX6_leastOverSets_89 wf21 (Nat.le_of_ble_eq_true rfl) (hp_rmm hRm) ?_
              refine v_istore_n C dX6_leastOverSets_92 (by decide) ?_
              refine v_iincN C dX6_leastOverSets_93 (by decide) rfl ?_
              refine v_goto (tgt := 5) C dX6_leastOverSets_96 (by decide) ?_
              refine v_drop 4 ?_
              first
              | (have en := tk_ss_0 c29 c38 c51n (tr := mk_tr M) (hz := mk_hz M) (rg := mk_ar M 2) (hs := hs) (ps := ps) (af := af) (b := tk_sl sd (mk_tr M) (mk_hz M) nd (mk_ar M 2) hs ps af c (1000000000, lf)); exact ih (c + 1) _ _ (by omega) (by omega) M72 ((congrArg Prod.snd en).symm ▸ T72) (by rw [ex]; refine Eq.trans ?_ (congrArg Prod.fst en).symm; first | rw [if_pos c79] | rw [if_neg c79]) hO72)
              | (have en := tk_ss_w c29 c38 c51n hj4 hje (tr := mk_tr M) (hz := mk_hz M) (rg := mk_ar M 2) (hs := hs) (ps := ps) (af := af) (b := tk_sl sd (mk_tr M) (mk_hz M) nd (mk_ar M 2) hs ps af c (1000000000, lf)); exact ih (c + 1) _ _ (by omega) (by omega) M72 ((congrArg Prod.snd en).symm ▸ T72) (by rw [ex]; refine Eq.trans ?_ (congrArg Prod.fst en).symm; first | rw [if_pos c79] | rw [if_neg c79]) hO72)
        · refine v_goto (tgt := 93) C dX6_leastOverSets_41 (by decide) ?_
          refine v_iincN C dX6_leastOverSets_93 (by decide) rfl ?_
          refine v_goto (tgt := 5) C dX6_leastOverSets_96 (by decide) ?_
          refine v_drop 4 ?_
          have en : tk_sl sd (mk_tr M) (mk_hz M) nd (mk_ar M 2) hs ps af (c + 1) (1000000000, lf) = tk_sl sd (mk_tr M) (mk_hz M) nd (mk_ar M 2) hs ps af c (1000000000, lf) := if_neg (fun z => by first | exact c29 z.1 | exact absurd z.2 (by omega))
          exact ih (c + 1) _ _ (by omega) (by omega) hM (by rw [en]; exact hT) (by rw [en]; exact ex) hO
set_option maxHeartbeats 8000000 in
/-- the least sum by sets -/
theorem c_X6_leastOverSets {G : hp_G} {l : Launch} (hl : l.stackTraces = false) {n : Nat} {h0 : Nat → Option va_E} {q : Nat} {sd nd : Nat} {af : Nat → Nat → Int32} {hs ps tk bt lf : Nat → Int32} {ls : Int32} (hT : Tk G h0 q sd nd af hs ps tk bt lf ls) {o : Nat} {M : mk_T} (hM : Mk G h0 o M) (hd : o + 11 ≤ q ∨ q + 13 ≤ o) (hhs : ∀ i, i < nd → ∃ j, j < 4 ∧ hs i = nI j) : Ct G l yX6_leastOverSets cX6_leastOverSets 5 (some .int) 2 0 0 [.ref q, .ref o] (n, h0) (hp_iq (fun r0 τ => r0 = (tk_sl sd (mk_tr M) (mk_hz M) nd (mk_ar M 2) hs ps af (2 ^ mk_tr M) (1000000000, lf)).1 ∧ τ.1 = n ∧ Tk G τ.2 q sd nd af hs ps tk bt (tk_sl sd (mk_tr M) (mk_hz M) nd (mk_ar M 2) hs ps af (2 ^ mk_tr M) (1000000000, lf)).2 ls ∧ ∀ a, (a < q ∨ q + 13 ≤ a) → τ.2 a = h0 a)) := by
  have hbase := hT.base
  have hO : ∀ a, (a < q ∨ q + 13 ≤ a) → h0 a = h0 a := fun _ _ => rfl
  have htr := hM.tr
  refine Ct.of rfl hl (by simp [Value.category]) (Nat.le_of_ble_eq_true rfl) (fun K C E hRm hKl => ?_)
  subst hKl
  refine v_ldc (v := 1000000000) C dX6_leastOverSets_0 wd3_88 ?_
  refine v_istore_n C dX6_leastOverSets_2 (by decide) ?_
  refine v_iconst (v := nI 0) C dX6_leastOverSets_3 (by decide) ?_
  refine v_istore_n C dX6_leastOverSets_4 (by decide) ?_
  refine loop_X6_leastOverSets C hRm hl hd hhs (fun h1 hT1 hO1 => ?_) (2 ^ mk_tr M) 0 _ _ (Nat.zero_le _) (by omega) hM hT rfl hO
  refine v_iload_n C dX6_leastOverSets_99 rfl ?_
  exact v_iret C E dX6_leastOverSets_100 rfl ⟨_, rfl, rfl, rfl, hT1, hO1⟩

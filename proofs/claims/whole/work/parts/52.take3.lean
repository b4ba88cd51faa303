/-! ===== THE TAKE-OVER: all ways ===== -/
def tk_lp {α : Type} (P : Nat → α → α) (c : Nat) (b : α) : α := match c with
  | 0 => b
  | c + 1 => P c (tk_lp P c b)
abbrev tk_B : Type := Int32 × (Nat → Int32)
/-- one more position of a taker -/
abbrev tk_af (af : Nat → Nat → Int32) (c j : Nat) (x : Int32) : Nat → Nat → Int32 := va_up af c (upd (af c) j (af c j + x))
/-- the best way so far, when the last f positions are still to be given -/
def tk_try (sd tr hz nd : Nat) (rg hs ps : Nat → Int32) (f free : Nat) (tk : Nat → Int32) (af : Nat → Nat → Int32) (b : tk_B) : tk_B := match f with
  | 0 => if tk_sm sd af rg hz tr < b.1 then (tk_sm sd af rg hz tr, tk) else b
  | f + 1 => tk_lp (fun c b => if (nI free >>> (nI c &&& 31)) &&& nI 1 = 0 then b else tk_try sd tr hz nd rg hs ps f (free ^^^ 2 ^ c) (upd tk (nd - (f + 1)) (nI c)) (tk_af af c (hs (nd - (f + 1))).toNatClampNeg (ps (nd - (f + 1)))) b) tr b
def tk_eq (nd : Nat) (b b' : tk_B) : Prop := b.1 = b'.1 ∧ ∀ i, i < nd → b.2 i = b'.2 i
theorem tk_lp_eq {nd : Nat} {P P' : Nat → tk_B → tk_B} {c : Nat} {b b' : tk_B} (hb : tk_eq nd b b') (h : ∀ i x y, i < c → tk_eq nd x y → tk_eq nd (P i x) (P' i y)) : tk_eq nd (tk_lp P c b) (tk_lp P' c b') := by
  induction c with
  | zero => exact hb
  | succ c ih => exact h c _ _ (by omega) (ih (fun i x y hi hx => h i x y (by omega) hx))
theorem tk_try_eq {sd tr hz nd : Nat} {rg hs ps : Nat → Int32} : ∀ (f free : Nat) (tk tk' : Nat → Int32) (af : Nat → Nat → Int32) (b b' : tk_B), (∀ i, i + f < nd → tk i = tk' i) → tk_eq nd b b' → tk_eq nd (tk_try sd tr hz nd rg hs ps f free tk af b) (tk_try sd tr hz nd rg hs ps f free tk' af b')
  | 0, free, tk, tk', af, b, b', h, hb => by
    unfold tk_try
    rw [hb.1]
    split
    · exact ⟨rfl, fun i hi => h i (by omega)⟩
    · exact hb
  | f + 1, free, tk, tk', af, b, b', h, hb => by
    unfold tk_try
    refine tk_lp_eq hb (fun c x y _ hx => ?_)
    show tk_eq nd (if _ then _ else _) (if _ then _ else _)
    split
    · exact hx
    · refine tk_try_eq f _ _ _ _ _ _ (fun i hi => ?_) hx
      by_cases z : i = nd - (f + 1)
      · subst z
        rw [pk_us, pk_us]
      · rw [pk_un z, pk_un z]
        exact h i (by omega)
theorem tk_af_back (af : Nat → Nat → Int32) (c j : Nat) (x : Int32) : va_up (tk_af af c j x) c (upd (tk_af af c j x c) j (tk_af af c j x c j - x)) = af := by
  funext i k
  by_cases e : i = c
  · subst e
    simp only [tk_af, va_up, if_pos]
    by_cases e2 : k = j
    · subst e2
      rw [pk_us, pk_us, Int32.add_sub_cancel]
    · rw [pk_un e2, pk_un e2]
  · simp only [tk_af, va_up, if_neg e]
theorem tk_af_at (af : Nat → Nat → Int32) (c j : Nat) (x : Int32) : tk_af af c j x c = upd (af c) j (af c j + x) := by
  simp only [tk_af, va_up, if_pos]
set_option maxHeartbeats 8000000 in
theorem loop_X6_tryTakers {G : hp_G} {K : hp_C} {n : Nat} {h0 : Nat → Option va_E} {q o : Nat} {M : mk_T} {sd nd : Nat} {af : Nat → Nat → Int32} {hs ps tk bt lf : Nat → Int32} {ls : Int32} {f idx free hj : Nat} (C : hp_Cx G K MX6_tryTakers) (hRm : hp_Rm K = hp_rm (f + 1 + 2) 0 0) (hl : K.2.1.stackTraces = false) (hd : o + 11 ≤ q ∨ q + 13 ≤ o) (hhs : ∀ i, i < nd → ∃ j, j < 4 ∧ hs i = nI j) (hbnd : nd ≤ 4) (hi : idx + (f + 1) = nd) (hj4 : hj < 4) (hje : hs idx = nI hj) (hfr : free < 64) (ihf : ∀ (idx free : Nat) (h0 : Nat → Option va_E) (tk bt : Nat → Int32) (af : Nat → Nat → Int32) (ls : Int32), idx + f = nd → free < 64 → Tk G h0 q sd nd af hs ps tk bt lf ls → Mk G h0 o M → Ct G K.2.1 yX6_tryTakers cX6_tryTakers 5 none (f + 2) 0 0 [.ref q, .ref o, .int (nI idx), .int (nI free)] (n, h0) (hp_vq (fun τ => τ.1 = n ∧ ∃ tk1 bt1, Tk G τ.2 q sd nd af hs ps tk1 bt1 lf (tk_try sd (mk_tr M) (mk_hz M) nd (mk_ar M 2) hs ps f free tk af (ls, bt)).1 ∧ (∀ i, i < nd → bt1 i = (tk_try sd (mk_tr M) (mk_hz M) nd (mk_ar M 2) hs ps f free tk af (ls, bt)).2 i) ∧ (∀ i, i < idx → tk1 i = tk i) ∧ ∀ a, (a < q ∨ q + 13 ≤ a) → τ.2 a = h0 a))) (hk : ∀ (h : Nat → Option va_E) (tk1 bt1 : Nat → Int32), Tk G h q sd nd af hs ps tk1 bt1 lf (tk_lp (fun c b => if (nI free >>> (nI c &&& 31)) &&& nI 1 = 0 then b else tk_try sd (mk_tr M) (mk_hz M) nd (mk_ar M 2) hs ps f (free ^^^ 2 ^ c) (upd tk idx (nI c)) (tk_af af c hj (ps idx)) b) (mk_tr M) (ls, bt)).1 → (∀ i, i < nd → bt1 i = (tk_lp (fun c b => if (nI free >>> (nI c &&& 31)) &&& nI 1 = 0 then b else tk_try sd (mk_tr M) (mk_hz M) nd (mk_ar M 2) hs ps f (free ^^^ 2 ^ c) (upd tk idx (nI c)) (tk_af af c hj (ps idx)) b) (mk_tr M) (ls, bt)).2 i) → (∀ i, i < idx → tk1 i = tk i) → (∀ a, (a < q ∨ q + 13 ≤ a) → h a = h0 a) → V G K MX6_tryTakers 0 0 (n, h) 140 [some (.ref q), some (.ref o), some (.int (nI idx)), some (.int (nI free)), some (.int (nI (mk_tr M)))] []) : ∀ (e c : Nat) (h : Nat → Option va_E) (tk1 bt1 : Nat → Int32), c ≤ mk_tr M → mk_tr M ≤ c + e → Mk G h o M → Tk G h q sd nd af hs ps tk1 bt1 lf (tk_lp (fun c b => if (nI free >>> (nI c &&& 31)) &&& nI 1 = 0 then b else tk_try sd (mk_tr M) (mk_hz M) nd (mk_ar M 2) hs ps f (free ^^^ 2 ^ c) (upd tk idx (nI c)) (tk_af af c hj (ps idx)) b) c (ls, bt)).1 → (∀ i, i < nd → bt1 i = (tk_lp (fun c b => if (nI free >>> (nI c &&& 31)) &&& nI 1 = 0 then b else tk_try sd (mk_tr M) (mk_hz M) nd (mk_ar M 2) hs ps f (free ^^^ 2 ^ c) (upd tk idx (nI c)) (tk_af af c hj (ps idx)) b) c (ls, bt)).2 i) → (∀ i, i < idx → tk1 i = tk i) → (∀ a, (a < q ∨ q + 13 ≤ a) → h a = h0 a) → V G K MX6_tryTakers 0 0 (n, h) 48 [some (.ref q), some (.ref o), some (.int (nI idx)), some (.int (nI free)), some (.int (nI c))] [] := by
  intro e
  induction e with
  | zero =>
    intro c h tk1 bt1 h1 h2 hM hT hb htk hO
    have htr := hM.tr
    have e : c = mk_tr M := by omega
    subst e
    refine v_iload C dX6_tryTakers_48 rfl ?_
    refine v_aload_n C dX6_tryTakers_50 rfl ?_
    refine v_getN (v := .int (nI (mk_tr M))) C 4 dX6_tryTakers_51 wd1_56 hM.o rfl (by decide) ⟨rfl, rfl, rfl⟩ rfl ?_
    refine v_icmp_geN (tgt := 140) C dX6_tryTakers_54 (by decide) (by omega) (by omega) (fun c54 => ?_) (fun c54 => absurd c54 (by omega))
    exact hk _ _ _ hT hb htk hO
  | succ e ih =>
    intro c h tk1 bt1 h1 h2 hM hT hb htk hO
    have htr := hM.tr
    have hbase := hT.base
    refine v_iload C dX6_tryTakers_48 rfl ?_
    refine v_aload_n C dX6_tryTakers_50 rfl ?_
    refine v_getN (v := .int (nI (mk_tr M))) C 4 dX6_tryTakers_51 wd1_56 hM.o rfl (by decide) ⟨rfl, rfl, rfl⟩ rfl ?_
    refine v_icmp_geN (tgt := 140) C dX6_tryTakers_54 (by decide) (by omega) (by omega) (fun c54 => ?_) (fun c54 => ?_)
    · have e : c = mk_tr M := by omega
      subst e
      exact hk _ _ _ hT hb htk hO
    · have xl := hp_xorlt (k := 6) (c := c) hfr (by omega)
      refine v_iload_n C dX6_tryTakers_57 rfl ?_
      refine v_iload C dX6_tryTakers_58 rfl ?_
      refine v_ishr C dX6_tryTakers_60 ?_
      refine v_iconst (v := nI 1) C dX6_tryTakers_61 (by decide) ?_
      refine v_iand C dX6_tryTakers_62 ?_
      refine v_if_eq (tgt := 134) C dX6_tryTakers_63 (by decide) (fun c63 => ?_) (fun c63 => ?_)
      · refine v_iincN C dX6_tryTakers_134 (by decide) rfl ?_
        refine v_goto (tgt := 48) C dX6_tryTakers_137 (by decide) ?_
        have en : tk_lp (fun c b => if (nI free >>> (nI c &&& 31)) &&& nI 1 = 0 then b else tk_try sd (mk_tr M) (mk_hz M) nd (mk_ar M 2) hs ps f (free ^^^ 2 ^ c) (upd tk idx (nI c)) (tk_af af c hj (ps idx)) b) (c + 1) (ls, bt) = tk_lp (fun c b => if (nI free >>> (nI c &&& 31)) &&& nI 1 = 0 then b else tk_try sd (mk_tr M) (mk_hz M) nd (mk_ar M 2) hs ps f (free ^^^ 2 ^ c) (upd tk idx (nI c)) (tk_af af c hj (ps idx)) b) c (ls, bt) := if_pos c63
        exact ih (c + 1) _ _ _ (by omega) (by omega) hM (by rw [en]; exact hT) (by rw [en]; exact hb) htk hO
      · refine v_aload_n C dX6_tryTakers_66 rfl ?_
        refine v_get C 5 dX6_tryTakers_67 wd1_180 hT.o rfl (by decide) ⟨rfl, rfl, rfl⟩ rfl ?_
        refine v_iload_n C dX6_tryTakers_70 rfl ?_
        refine v_iload C dX6_tryTakers_71 rfl ?_
        refine v_iastN C dX6_tryTakers_73 (by omega) hT.a_tk (by omega) (by decide) (fun h73 e73 g73 => ?_)
        have T73 := hT.s_tk e73 g73
        have M73 := hM.same (h' := h73) (fun a k1 k2 => g73 a (by omega))
        have hO73 : ∀ a, (a < q ∨ q + 13 ≤ a) → h73 a = h0 a := fun a ha => (g73 a (by omega)).trans (hO a ha)
        refine v_aload_n C dX6_tryTakers_74 rfl ?_
        refine v_get C 1 dX6_tryTakers_75 wd1_176 T73.o rfl (by decide) ⟨rfl, rfl, rfl⟩ rfl ?_
        refine v_iload C dX6_tryTakers_78 rfl ?_
        refine v_aaldN C 6 dX6_tryTakers_80 (by decide) T73.a_after (by omega) (by decide) (if_pos (by omega)) ?_
        refine v_aload_n C dX6_tryTakers_81 rfl ?_
        refine v_get C 3 dX6_tryTakers_82 wd1_178 T73.o rfl (by decide) ⟨rfl, rfl, rfl⟩ rfl ?_
        refine v_iload_n C dX6_tryTakers_85 rfl ?_
        refine v_ialdN C dX6_tryTakers_86 T73.a_hs (by omega) (by decide) ?_
        rw [hje]
        refine v_dup2 C dX6_tryTakers_87 rfl rfl ?_
        refine v_ialdN C dX6_tryTakers_88 (T73.row (by omega)) (by omega) (by decide) ?_
        refine v_aload_n C dX6_tryTakers_89 rfl ?_
        refine v_get C 4 dX6_tryTakers_90 wd1_179 T73.o rfl (by decide) ⟨rfl, rfl, rfl⟩ rfl ?_
        refine v_iload_n C dX6_tryTakers_93 rfl ?_
        refine v_ialdN C dX6_tryTakers_94 T73.a_ps (by omega) (by decide) ?_
        refine v_iadd C dX6_tryTakers_95 ?_
        refine v_iastN C dX6_tryTakers_96 (by omega) (T73.row (by omega)) (by omega) (by decide) (fun h96 e96 g96 => ?_)
        have T96 := T73.s_row (by omega) e96 g96
        have M96 := M73.same (h' := h96) (fun a k1 k2 => g96 a (by omega))
        have hO96 : ∀ a, (a < q ∨ q + 13 ≤ a) → h96 a = h0 a := fun a ha => (g96 a (by omega)).trans (hO73 a ha)
        refine v_aload_n C dX6_tryTakers_97 rfl ?_
        refine v_aload_n C dX6_tryTakers_98 rfl ?_
        refine v_iload_n C dX6_tryTakers_99 rfl ?_
        refine v_iconst (v := nI 1) C dX6_tryTakers_100 (by decide) ?_
        refine v_iaddN C dX6_tryTakers_101 ?_
        refine v_iload_n C dX6_tryTakers_102 rfl ?_
        refine v_iconst (v := nI 1) C dX6_tryTakers_103 (by decide) ?_
        refine v_iload C dX6_tryTakers_104 rfl ?_
        refine v_ishl C dX6_tryTakers_106 ?_
        rw [hp_sh1 _ (by omega)]
        refine v_ixor C dX6_tryTakers_107 ?_
        rw [hp_xor]
        refine v_callVv C (ihf _ _ _ _ _ _ _ (by omega) xl T96 M96) dX6_tryTakers_108 mX6_tryTakers rfl T96.o rfl wd3_89 rfl rfl (Nat.le_of_ble_eq_true rfl) (hp_rmle hRm (by omega) (by decide)) (Nat.le_of_ble_eq_true rfl) (Nat.le_of_ble_eq_true rfl) (fun n108 h108 q108 => ?_)
        obtain ⟨rfl, tk108, bt108, T108, vb108, vt108, u108⟩ := q108
        have M108 := M96.same (h' := h108) (fun a k1 k2 => u108 a (by omega))
        have hO108 : ∀ a, (a < q ∨ q + 13 ≤ a) → h108 a = h0 a := fun a ha => (u108 a ha).trans (hO96 a ha)
        refine v_aload_n C dX6_tryTakers_111 rfl ?_
        refine v_get C 1 dX6_tryTakers_112 wd1_176 T108.o rfl (by decide) ⟨rfl, rfl, rfl⟩ rfl ?_
        refine v_iload C dX6_tryTakers_115 rfl ?_
        refine v_aaldN C 6 dX6_tryTakers_117 (by decide) T108.a_after (by omega) (by decide) (if_pos (by omega)) ?_
        refine v_aload_n C dX6_tryTakers_118 rfl ?_
        refine v_get C 3 dX6_tryTakers_119 wd1_178 T108.o rfl (by decide) ⟨rfl, rfl, rfl⟩ rfl ?_
        refine v_iload_n C dX6_tryTakers_122 rfl ?_
        refine v_ialdN C dX6_tryTakers_123 T108.a_hs (by omega) (by decide) ?_
        rw [hje]
        refine v_dup2 C dX6_tryTakers_124 rfl rfl ?_
        refine v_ialdN C dX6_tryTakers_125 (T108.row (by omega)) (by omega) (by decide) ?_
        refine v_aload_n C dX6_tryTakers_126 rfl ?_
        refine v_get C 4 dX6_tryTakers_127 wd1_179 T108.o rfl (by decide) ⟨rfl, rfl, rfl⟩ rfl ?_
        refine v_iload_n C dX6_tryTakers_130 rfl ?_
        refine v_ialdN C dX6_tryTakers_131 T108.a_ps (by omega) (by decide) ?_
        refine v_isub C dX6_tryTakers_132 ?_
        refine v_iastN C dX6_tryTakers_133 (by omega) (T108.row (by omega)) (by omega) (by decide) (fun h133 e133 g133 => ?_)
        have T133 := T108.s_row (by omega) e133 g133
        have M133 := M108.same (h' := h133) (fun a k1 k2 => g133 a (by omega))
        have hO133 : ∀ a, (a < q ∨ q + 13 ≤ a) → h133 a = h0 a := fun a ha => (g133 a (by omega)).trans (hO108 a ha)
        refine v_iincN C dX6_tryTakers_134 (by decide) rfl ?_
        refine v_goto (tgt := 48) C dX6_tryTakers_137 (by decide) ?_
        have en : tk_lp (fun c b => if (nI free >>> (nI c &&& 31)) &&& nI 1 = 0 then b else tk_try sd (mk_tr M) (mk_hz M) nd (mk_ar M 2) hs ps f (free ^^^ 2 ^ c) (upd tk idx (nI c)) (tk_af af c hj (ps idx)) b) (c + 1) (ls, bt) = tk_try sd (mk_tr M) (mk_hz M) nd (mk_ar M 2) hs ps f (free ^^^ 2 ^ c) (upd tk idx (nI c)) (tk_af af c hj (ps idx)) (tk_lp (fun c b => if (nI free >>> (nI c &&& 31)) &&& nI 1 = 0 then b else tk_try sd (mk_tr M) (mk_hz M) nd (mk_ar M 2) hs ps f (free ^^^ 2 ^ c) (upd tk idx (nI c)) (tk_af af c hj (ps idx)) b) c (ls, bt)) := if_neg c63
        have eq : tk_eq nd (tk_try sd (mk_tr M) (mk_hz M) nd (mk_ar M 2) hs ps f (free ^^^ 2 ^ c) (upd tk1 idx (nI c)) (tk_af af c hj (ps idx)) ((tk_lp (fun c b => if (nI free >>> (nI c &&& 31)) &&& nI 1 = 0 then b else tk_try sd (mk_tr M) (mk_hz M) nd (mk_ar M 2) hs ps f (free ^^^ 2 ^ c) (upd tk idx (nI c)) (tk_af af c hj (ps idx)) b) c (ls, bt)).1, bt1)) (tk_try sd (mk_tr M) (mk_hz M) nd (mk_ar M 2) hs ps f (free ^^^ 2 ^ c) (upd tk idx (nI c)) (tk_af af c hj (ps idx)) (tk_lp (fun c b => if (nI free >>> (nI c &&& 31)) &&& nI 1 = 0 then b else tk_try sd (mk_tr M) (mk_hz M) nd (mk_ar M 2) hs ps f (free ^^^ 2 ^ c) (upd tk idx (nI c)) (tk_af af c hj (ps idx)) b) c (ls, bt))) := tk_try_eq f _ _ _ _ _ _ (fun i hi2 => by by_cases z : i = idx; (subst z; rw [pk_us, pk_us]); rw [pk_un z, pk_un z]; exact htk i (by omega)) ⟨rfl, hb⟩
        rw [← en] at eq
        have T133b := T133
        rw [show va_up (va_up af c (upd (af c) hj (af c hj + ps idx))) c (upd (va_up af c (upd (af c) hj (af c hj + ps idx)) c) hj (va_up af c (upd (af c) hj (af c hj + ps idx)) c hj - ps idx)) = af from tk_af_back af c hj (ps idx)] at T133b
        exact ih (c + 1) _ _ _ (by omega) (by omega) M133 (by rw [← eq.1]; exact T133b) (fun i hi2 => (vb108 i hi2).trans (eq.2 i hi2)) (fun i hi2 => (vt108 i (by omega)).trans ((pk_un (by omega)).trans (htk i hi2))) hO133
set_option maxHeartbeats 8000000 in
/-- all ways to give the positions from idx on -/
theorem c_X6_tryTakers {G : hp_G} {l : Launch} (hl : l.stackTraces = false) {n : Nat} {q o : Nat} {M : mk_T} {sd nd : Nat} {hs ps lf : Nat → Int32} (hd : o + 11 ≤ q ∨ q + 13 ≤ o) (hhs : ∀ i, i < nd → ∃ j, j < 4 ∧ hs i = nI j) (hbnd : nd ≤ 4) : ∀ f, ∀ (idx free : Nat) (h0 : Nat → Option va_E) (tk bt : Nat → Int32) (af : Nat → Nat → Int32) (ls : Int32), idx + f = nd → free < 64 → Tk G h0 q sd nd af hs ps tk bt lf ls → Mk G h0 o M → Ct G l yX6_tryTakers cX6_tryTakers 5 none (f + 2) 0 0 [.ref q, .ref o, .int (nI idx), .int (nI free)] (n, h0) (hp_vq (fun τ => τ.1 = n ∧ ∃ tk1 bt1, Tk G τ.2 q sd nd af hs ps tk1 bt1 lf (tk_try sd (mk_tr M) (mk_hz M) nd (mk_ar M 2) hs ps f free tk af (ls, bt)).1 ∧ (∀ i, i < nd → bt1 i = (tk_try sd (mk_tr M) (mk_hz M) nd (mk_ar M 2) hs ps f free tk af (ls, bt)).2 i) ∧ (∀ i, i < idx → tk1 i = tk i) ∧ ∀ a, (a < q ∨ q + 13 ≤ a) → τ.2 a = h0 a)) := by
  intro f
  induction f with
  | zero =>
    intro idx free h0 tk bt af ls hi hfr hT hM
    have hbase := hT.base
    have hO : ∀ a, (a < q ∨ q + 13 ≤ a) → h0 a = h0 a := fun _ _ => rfl
    refine Ct.of rfl hl (by simp [Value.category]) (Nat.le_of_ble_eq_true rfl) (fun K C E hRm hKl => ?_)
    subst hKl
    refine v_iload_n C dX6_tryTakers_0 rfl ?_
    refine v_aload_n C dX6_tryTakers_1 rfl ?_
    refine v_get C 2 dX6_tryTakers_2 wd1_177 hT.o rfl (by decide) ⟨rfl, rfl, rfl⟩ rfl ?_
    refine v_icmp_ltN (tgt := 45) C dX6_tryTakers_5 (by decide) (by omega) (by omega) (fun c5 => absurd c5 (by omega)) (fun c5 => ?_)
    refine v_aload_n C dX6_tryTakers_8 rfl ?_
    refine v_aload_n C dX6_tryTakers_9 rfl ?_
    refine v_callVi C (c_X6_sumOfMargins hl hT hM) dX6_tryTakers_10 mX6_sumOfMargins rfl hT.o rfl wd3_93 rfl rfl (Nat.le_of_ble_eq_true rfl) (hp_rmle hRm (by decide) (by decide)) (Nat.le_of_ble_eq_true rfl) (Nat.le_of_ble_eq_true rfl) ?_
    refine v_istore C dX6_tryTakers_13 (by decide) ?_
    refine v_iload C dX6_tryTakers_15 rfl ?_
    refine v_aload_n C dX6_tryTakers_17 rfl ?_
    refine v_get C 7 dX6_tryTakers_18 wd1_182 hT.o rfl (by decide) ⟨rfl, rfl, rfl⟩ rfl ?_
    refine v_icmp_ge (tgt := 44) C dX6_tryTakers_21 (by decide) (fun c21 => ?_) (fun c21 => ?_)
    · exact v_vret C E dX6_tryTakers_44 rfl ⟨rfl, rfl, tk, bt, by unfold tk_try; rw [if_neg (Int32.not_lt.mpr c21)]; exact hT, fun i hi2 => by unfold tk_try; rw [if_neg (Int32.not_lt.mpr c21)], fun _ _ => rfl, hO⟩
    · refine v_aload_n C dX6_tryTakers_24 rfl ?_
      refine v_iload C dX6_tryTakers_25 rfl ?_
      refine v_put C 7 dX6_tryTakers_27 wd1_182 hbase hT.o rfl (by decide) ⟨rfl, rfl, rfl, rfl⟩ rfl rfl rfl (Nat.le_of_ble_eq_true rfl) (fun h27 e27 g27 => ?_)
      have T27 := hT.p_ls e27 g27
      have M27 := hM.same (h' := h27) (fun a k1 k2 => g27 a (by omega))
      have hO27 : ∀ a, (a < q ∨ q + 13 ≤ a) → h27 a = h0 a := fun a ha => (g27 a (by omega)).trans (hO a ha)
      refine v_aload_n C dX6_tryTakers_30 rfl ?_
      refine v_get C 5 dX6_tryTakers_31 wd1_180 T27.o rfl (by decide) ⟨rfl, rfl, rfl⟩ rfl ?_
      refine v_iconst (v := nI 0) C dX6_tryTakers_34 (by decide) ?_
      refine v_aload_n C dX6_tryTakers_35 rfl ?_
      refine v_get C 6 dX6_tryTakers_36 wd1_181 T27.o rfl (by decide) ⟨rfl, rfl, rfl⟩ rfl ?_
      refine v_iconst (v := nI 0) C dX6_tryTakers_39 (by decide) ?_
      refine v_iconst (v := nI 4) C dX6_tryTakers_40 (by decide) ?_
      refine v_copy (f' := tk) C 2 dX6_tryTakers_41 wd3_98 (by decide) T27.a_tk T27.a_bt (by omega) (by decide) (by decide) (by decide) (by decide) (fun _ _ => rfl) (Nat.le_of_ble_eq_true rfl) (by rw [hRm]; decide) (by rw [hRm]; decide) (fun i hi => hp_cpy0 hi) (fun h41 e41 g41 => ?_)
      have T41 := T27.s_bt e41 g41
      have hO41 : ∀ a, (a < q ∨ q + 13 ≤ a) → h41 a = h0 a := fun a ha => (g41 a (by omega)).trans (hO27 a ha)
      exact v_vret C E dX6_tryTakers_44 rfl ⟨rfl, rfl, tk, tk, by unfold tk_try; rw [if_pos (Int32.not_le.mp c21)]; exact T41, fun i hi2 => by unfold tk_try; rw [if_pos (Int32.not_le.mp c21)], fun _ _ => rfl, hO41⟩
  | succ f ihf =>
    intro idx free h0 tk bt af ls hi hfr hT hM
    have hbase := hT.base
    have hO : ∀ a, (a < q ∨ q + 13 ≤ a) → h0 a = h0 a := fun _ _ => rfl
    have ei : nd - (f + 1) = idx := by omega
    obtain ⟨hj, hj4, hje⟩ := hhs idx (by omega)
    have ej : (hs idx).toNatClampNeg = hj := by rw [hje, nI_clamp (by omega)]
    have eT : tk_try sd (mk_tr M) (mk_hz M) nd (mk_ar M 2) hs ps (f + 1) free tk af (ls, bt) = tk_lp (fun c b => if (nI free >>> (nI c &&& 31)) &&& nI 1 = 0 then b else tk_try sd (mk_tr M) (mk_hz M) nd (mk_ar M 2) hs ps f (free ^^^ 2 ^ c) (upd tk idx (nI c)) (tk_af af c hj (ps idx)) b) (mk_tr M) (ls, bt) := by
      show tk_lp _ _ _ = _
      rw [ei, ej]
    refine Ct.of rfl hl (by simp [Value.category]) (Nat.le_of_ble_eq_true rfl) (fun K C E hRm hKl => ?_)
    subst hKl
    rw [eT] at E
    refine v_iload_n C dX6_tryTakers_0 rfl ?_
    refine v_aload_n C dX6_tryTakers_1 rfl ?_
    refine v_get C 2 dX6_tryTakers_2 wd1_177 hT.o rfl (by decide) ⟨rfl, rfl, rfl⟩ rfl ?_
    refine v_icmp_ltN (tgt := 45) C dX6_tryTakers_5 (by decide) (by omega) (by omega) (fun c5 => ?_) (fun c5 => absurd c5 (by omega))
    refine v_iconst (v := nI 0) C dX6_tryTakers_45 (by decide) ?_
    refine v_istore C dX6_tryTakers_46 (by decide) ?_
    refine loop_X6_tryTakers C hRm hl hd hhs hbnd hi hj4 hje hfr ihf (fun h1 tk1 bt1 hT1 hb1 htk1 hO1 => ?_) (mk_tr M) 0 _ tk bt (Nat.zero_le _) (Nat.le_of_eq (Nat.zero_add _).symm) hM hT (fun _ _ => rfl) (fun _ _ => rfl) hO
    exact v_vret C E dX6_tryTakers_140 rfl ⟨rfl, rfl, tk1, bt1, hT1, hb1, htk1, hO1⟩
set_option maxHeartbeats 8000000 in
/-- the least sum over all ways -/
theorem c_X6_leastOverWays {G : hp_G} {l : Launch} (hl : l.stackTraces = false) {n : Nat} {h0 : Nat → Option va_E} {q : Nat} {sd nd : Nat} {af : Nat → Nat → Int32} {hs ps tk bt lf : Nat → Int32} {ls : Int32} (hT : Tk G h0 q sd nd af hs ps tk bt lf ls) {o : Nat} {M : mk_T} (hM : Mk G h0 o M) (hd : o + 11 ≤ q ∨ q + 13 ≤ o) (hhs : ∀ i, i < nd → ∃ j, j < 4 ∧ hs i = nI j) : Ct G l yX6_leastOverWays cX6_leastOverWays 2 (some .int) 7 0 0 [.ref q, .ref o] (n, h0) (hp_iq (fun r0 τ => r0 = (tk_try sd (mk_tr M) (mk_hz M) nd (mk_ar M 2) hs ps nd sd tk af (1000000000, bt)).1 ∧ τ.1 = n ∧ ∃ tk1 bt1, Tk G τ.2 q sd nd af hs ps tk1 bt1 lf (tk_try sd (mk_tr M) (mk_hz M) nd (mk_ar M 2) hs ps nd sd tk af (1000000000, bt)).1 ∧ (∀ i, i < nd → bt1 i = (tk_try sd (mk_tr M) (mk_hz M) nd (mk_ar M 2) hs ps nd sd tk af (1000000000, bt)).2 i) ∧ ∀ a, (a < q ∨ q + 13 ≤ a) → τ.2 a = h0 a)) := by
  have hbase := hT.base
  have hO : ∀ a, (a < q ∨ q + 13 ≤ a) → h0 a = h0 a := fun _ _ => rfl
  have htr := hM.tr
  refine Ct.of rfl hl (by simp [Value.category]) (Nat.le_of_ble_eq_true rfl) (fun K C E hRm hKl => ?_)
  subst hKl
  refine v_aload_n C dX6_leastOverWays_0 rfl ?_
  refine v_ldc (v := 1000000000) C dX6_leastOverWays_1 wd3_88 ?_
  refine v_put C 7 dX6_leastOverWays_3 wd1_182 hbase hT.o rfl (by decide) ⟨rfl, rfl, rfl, rfl⟩ rfl rfl rfl (Nat.le_of_ble_eq_true rfl) (fun h3 e3 g3 => ?_)
  have T3 := hT.p_ls e3 g3
  have M3 := hM.same (h' := h3) (fun a k1 k2 => g3 a (by omega))
  have hO3 : ∀ a, (a < q ∨ q + 13 ≤ a) → h3 a = h0 a := fun a ha => (g3 a (by omega)).trans (hO a ha)
  refine v_aload_n C dX6_leastOverWays_6 rfl ?_
  refine v_aload_n C dX6_leastOverWays_7 rfl ?_
  refine v_iconst (v := nI 0) C dX6_leastOverWays_8 (by decide) ?_
  refine v_aload_n C dX6_leastOverWays_9 rfl ?_
  refine v_get C 0 dX6_leastOverWays_10 wd1_175 T3.o rfl (by decide) ⟨rfl, rfl, rfl⟩ rfl ?_
  refine v_callVv C (c_X6_tryTakers (l := K.2.1) hl hd hhs hT.bnd nd 0 sd _ _ _ _ _ (Nat.zero_add _) hT.bsd T3 M3) dX6_leastOverWays_13 mX6_tryTakers rfl T3.o rfl wd3_89 rfl rfl (Nat.le_of_ble_eq_true rfl) (hp_rmle hRm (by have := hT.bnd; omega) (by decide)) (Nat.le_of_ble_eq_true rfl) (Nat.le_of_ble_eq_true rfl) (fun n13 h13 q13 => ?_)
  obtain ⟨rfl, tk13, bt13, T13, vb13, vt13, u13⟩ := q13
  have M13 := M3.same (h' := h13) (fun a k1 k2 => u13 a (by omega))
  have hO13 : ∀ a, (a < q ∨ q + 13 ≤ a) → h13 a = h0 a := fun a ha => (u13 a ha).trans (hO3 a ha)
  refine v_aload_n C dX6_leastOverWays_16 rfl ?_
  refine v_get C 7 dX6_leastOverWays_17 wd1_182 T13.o rfl (by decide) ⟨rfl, rfl, rfl⟩ rfl ?_
  exact v_iret C E dX6_leastOverWays_20 rfl ⟨_, rfl, rfl, rfl, tk13, bt13, T13, vb13, hO13⟩

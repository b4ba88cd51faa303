/-! ===== THE MODEL: payments ===== -/
theorem hp_andN (a b : Nat) : nI a &&& nI b = nI (a &&& b) := by
  apply Int32.toBitVec_inj.mp
  show BitVec.ofNat 32 a &&& BitVec.ofNat 32 b = BitVec.ofNat 32 (a &&& b)
  exact BitVec.ofNat_and.symm
theorem hp_xorN (a b : Nat) : nI a ^^^ nI b = nI (a ^^^ b) := by
  apply Int32.toBitVec_inj.mp
  show BitVec.ofNat 32 a ^^^ BitVec.ofNat 32 b = BitVec.ofNat 32 (a ^^^ b)
  exact BitVec.ofNat_xor.symm
def mo_sx (S : mo_T) (A B : Nat → Int32) : mo_T := (fun j => if j = 9 then A else if j = 10 then B else S.1 j, S.2)
theorem mo_sx_eq (S : mo_T) : S = mo_sx S (S.1 9) (S.1 10) := by
  refine Prod.ext (funext fun j => ?_) rfl
  show S.1 j = (if j = 9 then S.1 9 else if j = 10 then S.1 10 else S.1 j)
  by_cases q : j = 9
  · rw [if_pos q, q]
  · rw [if_neg q]
    by_cases p : j = 10
    · rw [if_pos p, p]
    · rw [if_neg p]
theorem mo_sx_a {S : mo_T} {A B : Nat → Int32} {i : Nat} {v : Int32} : mo_sa (mo_sx S A B) 9 i v = mo_sx S (upd A i v) B := by
  refine Prod.ext (funext fun j => ?_) rfl
  show (if j = 9 then upd A i v else if j = 9 then A else if j = 10 then B else S.1 j) = (if j = 9 then upd A i v else if j = 10 then B else S.1 j)
  by_cases q : j = 9
  · rw [if_pos q, if_pos q]
  · rw [if_neg q, if_neg q, if_neg q]
theorem mo_sx_b {S : mo_T} {A B : Nat → Int32} {i : Nat} {v : Int32} : mo_sa (mo_sx S A B) 10 i v = mo_sx S A (upd B i v) := by
  refine Prod.ext (funext fun j => ?_) rfl
  show (if j = 10 then upd B i v else if j = 9 then A else if j = 10 then B else S.1 j) = (if j = 9 then A else if j = 10 then upd B i v else S.1 j)
  by_cases q : j = 10
  · rw [if_pos q, if_neg (by omega), if_pos q]
  · rw [if_neg q, if_neg q, if_neg q]
theorem mo_wk.sx {S : mo_T} {A B : Nat → Int32} : mo_wk S (mo_sx S A B) := ⟨fun k hk h2 => (show (if k = 9 then _ else if k = 10 then _ else S.1 k) = _ by rw [if_neg (by omega), if_neg (by omega)]), fun _ _ _ => rfl⟩
def pa_a (M : mk_T) (c : Nat) : Nat := match c with
  | 0 => 0
  | c + 1 => if mo_va M (nI c) (mk_hz M) = 0 then pa_a M c else pa_a M c ||| 2 ^ c
def pa_n (M : mk_T) (c : Nat) : Nat := match c with
  | 0 => 0
  | c + 1 => if mo_va M (nI c) (mk_hz M) = 0 then pa_n M c else pa_n M c + 1
theorem pa_n_le (M : mk_T) : ∀ c, pa_n M c ≤ c
  | 0 => Nat.le_refl _
  | c + 1 => by
    have := pa_n_le M c
    unfold pa_n
    split <;> omega
theorem pa_a_lt (M : mk_T) : ∀ c, pa_a M c < 2 ^ c
  | 0 => by show 0 < 2 ^ 0; decide
  | c + 1 => by
    have h := pa_a_lt M c
    have h2 : 2 ^ (c + 1) = 2 ^ c * 2 := Nat.pow_succ 2 c
    unfold pa_a
    split
    · omega
    · refine Nat.or_lt_two_pow (by omega) (by omega)
/-- the sum of a set -/
def pa_ss (M : mk_T) (s c : Nat) : Int32 := match c with
  | 0 => nI 0
  | c + 1 => pa_ss M s c + ((nI s >>> (nI c &&& 31)) &&& nI 1) * mo_va M (nI c) (mk_hz M)
def pa_m (M : mk_T) (a s : Nat) : Int32 := if s = 0 then nI 0 else if (nI s &&& (nI a ^^^ -1)) = 0 ∧ pa_ss M s (mk_tr M) = 0 then nI 1 else -1
def pa_i (s : Nat) (f p : Nat) (B : Nat → Int32) : Nat → Int32 := match f with
  | 0 => B
  | f + 1 => if p = 0 then B else pa_i s f ((p - 1) &&& s) (if 0 < B p ∧ 0 < B (s ^^^ p) ∧ B s < B p + B (s ^^^ p) then upd B s (B p + B (s ^^^ p)) else B)
def pa_o (e s : Nat) (B : Nat → Int32) : Nat → Int32 := match e with
  | 0 => B
  | e + 1 => pa_o e (s + 1) (if B s < 0 then B else pa_i s 64 (s &&& (s - 1)) B)
def pa_v (M : mk_T) : Int32 := nI (pa_n M (mk_tr M)) - pa_o 63 1 (pa_m M (pa_a M (mk_tr M))) (pa_a M (mk_tr M))
theorem pa_u {B B' : Nat → Int32} (h : ∀ i, i < 64 → B i = B' i) {s : Nat} {v v' : Int32} (hv : v = v') : ∀ i, i < 64 → upd B s v i = upd B' s v' i := by
  intro i hi
  subst hv
  by_cases q : i = s
  · subst q
    rw [pk_us, pk_us]
  · rw [pk_un q, pk_un q]
    exact h i hi
set_option maxHeartbeats 4000000 in
theorem loop1_X8_pays {G : hp_G} {K : hp_C} {n0 : Nat} {h0 : Nat → Option va_E} {y : Nat} {S : mo_T} {M : mk_T} (hg : Gr (S.1 0) M) (hbase : G.2.1 ≤ y) (C : hp_Cx G K MX8_pays) (hRm : hp_Rm K = hp_rm 3 0 0) (hl : K.2.1.stackTraces = false) (H : Mo G h0 y S) (hk : V G K MX8_pays 0 0 (n0, h0) 42 [some (.ref y), some (.int (nI (pa_a M (mk_tr M)))), some (.int (nI (pa_n M (mk_tr M)))), none, none] []) : ∀ (e c : Nat), c + e = mk_tr M → V G K MX8_pays 0 0 (n0, h0) 6 [some (.ref y), some (.int (nI (pa_a M c))), some (.int (nI (pa_n M c))), some (.int (nI c)), none] [] := by
  have htr := hg.tr
  intro e
  induction e with
  | zero =>
    intro c hc
    have e : c = mk_tr M := by omega
    subst e
    refine v_iload_n C dX8_pays_6 rfl ?_
    refine v_aload_n C dX8_pays_7 rfl ?_
    refine v_get C 0 dX8_pays_8 wd6_237 H.o rfl (by decide) ⟨rfl, rfl, rfl⟩ rfl ?_
    refine v_iconst (v := nI 1) C dX8_pays_11 (by decide) ?_
    refine v_ialdN C dX8_pays_12 H.a0 (by omega) (by decide) ?_
    rw [hg.g1]
    refine v_icmp_geN (tgt := 42) C dX8_pays_13 (by decide) (by omega) (by omega) (fun c13 => ?_) (fun c13 => absurd c13 (by omega))
    refine v_drop 3 ?_
    exact hk
  | succ e ih =>
    intro c hc
    have hle := pa_n_le M c
    refine v_iload_n C dX8_pays_6 rfl ?_
    refine v_aload_n C dX8_pays_7 rfl ?_
    refine v_get C 0 dX8_pays_8 wd6_237 H.o rfl (by decide) ⟨rfl, rfl, rfl⟩ rfl ?_
    refine v_iconst (v := nI 1) C dX8_pays_11 (by decide) ?_
    refine v_ialdN C dX8_pays_12 H.a0 (by omega) (by decide) ?_
    rw [hg.g1]
    refine v_icmp_geN (tgt := 42) C dX8_pays_13 (by decide) (by omega) (by omega) (fun c13 => absurd c13 (by omega)) (fun c13 => ?_)
    refine v_aload_n C dX8_pays_16 rfl ?_
    refine v_iload_n C dX8_pays_17 rfl ?_
    refine v_callVi C (c_X8_variation hl H hg (nI c)) dX8_pays_18 mX8_variation rfl H.o rfl wd7_164 rfl rfl (Nat.le_of_ble_eq_true rfl) (hp_rmle hRm (by decide) (by decide)) (Nat.le_of_ble_eq_true rfl) (Nat.le_of_ble_eq_true rfl) ?_
    refine v_if_ne (tgt := 27) C dX8_pays_21 (by decide) (fun c21 => ?_) (fun c21 => ?_)
    · have en : pa_a M (c + 1) = pa_a M c ||| 2 ^ c := if_neg c21
      have em : pa_n M (c + 1) = pa_n M c + 1 := if_neg c21
      refine v_iload_n C dX8_pays_27 rfl ?_
      refine v_iconst (v := nI 1) C dX8_pays_28 (by decide) ?_
      refine v_iload_n C dX8_pays_29 rfl ?_
      refine v_ishl C dX8_pays_30 ?_
      rw [hp_sh1 _ (by omega)]
      refine v_ior C dX8_pays_31 ?_
      rw [hp_or]
      refine v_istore_n C dX8_pays_32 (by decide) ?_
      refine v_iincN C dX8_pays_33 (by decide) rfl ?_
      refine v_iincN C dX8_pays_36 (by decide) rfl ?_
      refine v_goto (tgt := 6) C dX8_pays_39 (by decide) ?_
      have hi := ih (c + 1) (by omega)
      rw [en, em] at hi
      exact hi
    · have en : pa_a M (c + 1) = pa_a M c := if_pos c21
      have em : pa_n M (c + 1) = pa_n M c := if_pos c21
      refine v_goto (tgt := 36) C dX8_pays_24 (by decide) ?_
      refine v_iincN C dX8_pays_36 (by decide) rfl ?_
      refine v_goto (tgt := 6) C dX8_pays_39 (by decide) ?_
      have hi := ih (c + 1) (by omega)
      rw [en, em] at hi
      exact hi
set_option maxHeartbeats 4000000 in
theorem loop2_X8_pays {G : hp_G} {K : hp_C} {n0 : Nat} {h0 : Nat → Option va_E} {y : Nat} {S : mo_T} {M : mk_T} (hg : Gr (S.1 0) M) (hbase : G.2.1 ≤ y) (C : hp_Cx G K MX8_pays) (hRm : hp_Rm K = hp_rm 3 0 0) (hl : K.2.1.stackTraces = false) {a n s : Nat} {B : Nat → Int32} (hs : s < 64) (hk : ∀ h A, A s = pa_ss M s (mk_tr M) → Mo G h y (mo_sx S A B) → (∀ a, (a < y ∨ y + 13 ≤ a) → h a = h0 a) → V G K MX8_pays 0 0 (n0, h) 106 [some (.ref y), some (.int (nI a)), some (.int (nI n)), some (.int (nI s)), none] []) : ∀ (e c : Nat) (h : Nat → Option va_E) (A : Nat → Int32), c + e = mk_tr M → A s = pa_ss M s c → Mo G h y (mo_sx S A B) → (∀ a, (a < y ∨ y + 13 ≤ a) → h a = h0 a) → V G K MX8_pays 0 0 (n0, h) 67 [some (.ref y), some (.int (nI a)), some (.int (nI n)), some (.int (nI s)), some (.int (nI c))] [] := by
  have htr := hg.tr
  intro e
  induction e with
  | zero =>
    intro c h A hc hA H hO
    have e : c = mk_tr M := by omega
    subst e
    refine v_iload C dX8_pays_67 rfl ?_
    refine v_aload_n C dX8_pays_69 rfl ?_
    refine v_get C 0 dX8_pays_70 wd6_237 H.o rfl (by decide) ⟨rfl, rfl, rfl⟩ rfl ?_
    refine v_iconst (v := nI 1) C dX8_pays_73 (by decide) ?_
    refine v_ialdN C dX8_pays_74 H.a0 (by omega) (by decide) ?_
    rw [show (mo_sx S A B).1 0 = S.1 0 from rfl, hg.g1]
    refine v_icmp_geN (tgt := 106) C dX8_pays_75 (by decide) (by omega) (by omega) (fun c75 => ?_) (fun c75 => absurd c75 (by omega))
    refine v_drop 4 ?_
    exact hk _ _ hA H hO
  | succ e ih =>
    intro c h A hc hA H hO
    refine v_iload C dX8_pays_67 rfl ?_
    refine v_aload_n C dX8_pays_69 rfl ?_
    refine v_get C 0 dX8_pays_70 wd6_237 H.o rfl (by decide) ⟨rfl, rfl, rfl⟩ rfl ?_
    refine v_iconst (v := nI 1) C dX8_pays_73 (by decide) ?_
    refine v_ialdN C dX8_pays_74 H.a0 (by omega) (by decide) ?_
    rw [show (mo_sx S A B).1 0 = S.1 0 from rfl, hg.g1]
    refine v_icmp_geN (tgt := 106) C dX8_pays_75 (by decide) (by omega) (by omega) (fun c75 => absurd c75 (by omega)) (fun c75 => ?_)
    refine v_aload_n C dX8_pays_78 rfl ?_
    refine v_get C 19 dX8_pays_79 wd7_16 H.o rfl (by decide) ⟨rfl, rfl, rfl⟩ rfl ?_
    refine v_iload_n C dX8_pays_82 rfl ?_
    refine v_dup2 C dX8_pays_83 rfl rfl ?_
    refine v_ialdN C dX8_pays_84 H.a9 (by omega) (by decide) ?_
    refine v_iload_n C dX8_pays_85 rfl ?_
    refine v_iload C dX8_pays_86 rfl ?_
    refine v_ishr C dX8_pays_88 ?_
    refine v_iconst (v := nI 1) C dX8_pays_89 (by decide) ?_
    refine v_iand C dX8_pays_90 ?_
    refine v_aload_n C dX8_pays_91 rfl ?_
    refine v_iload C dX8_pays_92 rfl ?_
    refine v_callVi C (c_X8_variation hl H (M := M) hg (nI c)) dX8_pays_94 mX8_variation rfl H.o rfl wd7_164 rfl rfl (Nat.le_of_ble_eq_true rfl) (hp_rmle hRm (by decide) (by decide)) (Nat.le_of_ble_eq_true rfl) (Nat.le_of_ble_eq_true rfl) ?_
    refine v_imul C dX8_pays_97 ?_
    refine v_iadd C dX8_pays_98 ?_
    refine v_iastN C dX8_pays_99 (by omega) H.a9 (by omega) (by decide) (fun h99 e99 g99 => ?_)
    have Y99 := (H.s9 e99 g99).to mo_sx_a
    have W99 : ∀ a, (a < y ∨ y + 13 ≤ a) → h99 a = h0 a := fun a ha => (g99 a (by omega)).trans (hO a ha)
    refine v_iincN C dX8_pays_100 (by decide) rfl ?_
    refine v_goto (tgt := 67) C dX8_pays_103 (by decide) ?_
    exact ih (c + 1) _ _ (by omega) (by rw [pk_us, show (mo_sx S A B).1 9 = A from rfl, hA]; rfl) Y99 W99
set_option maxHeartbeats 4000000 in
theorem loop3_X8_pays {G : hp_G} {K : hp_C} {n0 : Nat} {h0 : Nat → Option va_E} {y : Nat} {S : mo_T} {M : mk_T} (hg : Gr (S.1 0) M) (hbase : G.2.1 ≤ y) (C : hp_Cx G K MX8_pays) (hRm : hp_Rm K = hp_rm 3 0 0) (hl : K.2.1.stackTraces = false) {a n : Nat} (hk : ∀ h A B, (∀ i, i < 64 → B i = pa_m M a i) → Mo G h y (mo_sx S A B) → (∀ a, (a < y ∨ y + 13 ≤ a) → h a = h0 a) → V G K MX8_pays 0 0 (n0, h) 140 [some (.ref y), some (.int (nI a)), some (.int (nI n)), none, none] []) : ∀ (e s : Nat) (h : Nat → Option va_E) (A B : Nat → Int32), s + e = 64 → 1 ≤ s → (∀ i, i < s → B i = pa_m M a i) → Mo G h y (mo_sx S A B) → (∀ a, (a < y ∨ y + 13 ≤ a) → h a = h0 a) → V G K MX8_pays 0 0 (n0, h) 51 [some (.ref y), some (.int (nI a)), some (.int (nI n)), some (.int (nI s)), none] [] := by
  have htr := hg.tr
  intro e
  induction e with
  | zero =>
    intro s h A B hc h1 hB H hO
    have e : s = 64 := by omega
    subst e
    refine v_iload_n C dX8_pays_51 rfl ?_
    refine v_bipush (v := nI 64) C dX8_pays_52 (by decide) ?_
    refine v_icmp_geN (tgt := 140) C dX8_pays_54 (by decide) (by omega) (by omega) (fun c54 => ?_) (fun c54 => absurd c54 (by omega))
    refine v_drop 3 ?_
    exact hk _ _ _ hB H hO
  | succ e ih =>
    intro s h A B hc h1 hB H hO
    refine v_iload_n C dX8_pays_51 rfl ?_
    refine v_bipush (v := nI 64) C dX8_pays_52 (by decide) ?_
    refine v_icmp_geN (tgt := 140) C dX8_pays_54 (by decide) (by omega) (by omega) (fun c54 => absurd c54 (by omega)) (fun c54 => ?_)
    refine v_aload_n C dX8_pays_57 rfl ?_
    refine v_get C 19 dX8_pays_58 wd7_16 H.o rfl (by decide) ⟨rfl, rfl, rfl⟩ rfl ?_
    refine v_iload_n C dX8_pays_61 rfl ?_
    refine v_iconst (v := nI 0) C dX8_pays_62 (by decide) ?_
    refine v_iastN C dX8_pays_63 (by omega) H.a9 (by omega) (by decide) (fun h63 e63 g63 => ?_)
    have Y63 := (H.s9 e63 g63).to mo_sx_a
    have W63 : ∀ a, (a < y ∨ y + 13 ≤ a) → h63 a = h0 a := fun a ha => (g63 a (by omega)).trans (hO a ha)
    refine v_iconst (v := nI 0) C dX8_pays_64 (by decide) ?_
    refine v_istore C dX8_pays_65 (by decide) ?_
    refine loop2_X8_pays (S := S) (M := M) (a := a) (n := n) (s := s) (B := B) hg hbase C hRm hl (by omega) (fun h9 A9 hA9 Y9 W9 => ?_) (mk_tr M) 0 _ _ (Nat.zero_add _) pk_us Y63 W63
    refine v_aload_n C dX8_pays_106 rfl ?_
    refine v_get C 20 dX8_pays_107 wd7_17 Y9.o rfl (by decide) ⟨rfl, rfl, rfl⟩ rfl ?_
    refine v_iload_n C dX8_pays_110 rfl ?_
    refine v_iload_n C dX8_pays_111 rfl ?_
    refine v_iload_n C dX8_pays_112 rfl ?_
    refine v_iconst (v := (-1)) C dX8_pays_113 (by decide) ?_
    refine v_ixor C dX8_pays_114 ?_
    refine v_iand C dX8_pays_115 ?_
    refine v_if_ne (tgt := 132) C dX8_pays_116 (by decide) (fun c116 => ?_) (fun c116 => ?_)
    · refine v_iconst (v := (-1)) C dX8_pays_132 (by decide) ?_
      refine v_iastN C dX8_pays_133 (by omega) Y9.a10 (by omega) (by decide) (fun h133 e133 g133 => ?_)
      have Y133 := (Y9.s10 e133 g133).to mo_sx_b
      have W133 : ∀ a, (a < y ∨ y + 13 ≤ a) → h133 a = h0 a := fun a ha => (g133 a (by omega)).trans (W9 a ha)
      refine v_iincN C dX8_pays_134 (by decide) rfl ?_
      refine v_goto (tgt := 51) C dX8_pays_137 (by decide) ?_
      have en : pa_m M a s = -1 := (if_neg (by omega)).trans (if_neg (fun z => c116 z.1))
      refine ih (s + 1) _ A9 _ (by omega) (by omega) (fun i hi => ?_) Y133 W133
      by_cases q : i = s
      · rw [q, pk_us, en]
      · rw [pk_un q]
        exact hB i (by omega)
    · refine v_aload_n C dX8_pays_119 rfl ?_
      refine v_get C 19 dX8_pays_120 wd7_16 Y9.o rfl (by decide) ⟨rfl, rfl, rfl⟩ rfl ?_
      refine v_iload_n C dX8_pays_123 rfl ?_
      refine v_ialdN C dX8_pays_124 Y9.a9 (by omega) (by decide) ?_
      refine v_if_ne (tgt := 132) C dX8_pays_125 (by decide) (fun c125 => ?_) (fun c125 => ?_)
      · refine v_iconst (v := (-1)) C dX8_pays_132 (by decide) ?_
        refine v_iastN C dX8_pays_133 (by omega) Y9.a10 (by omega) (by decide) (fun h133 e133 g133 => ?_)
        have Y133 := (Y9.s10 e133 g133).to mo_sx_b
        have W133 : ∀ a, (a < y ∨ y + 13 ≤ a) → h133 a = h0 a := fun a ha => (g133 a (by omega)).trans (W9 a ha)
        refine v_iincN C dX8_pays_134 (by decide) rfl ?_
        refine v_goto (tgt := 51) C dX8_pays_137 (by decide) ?_
        have en : pa_m M a s = -1 := (if_neg (by omega)).trans (if_neg (fun z => c125 (hA9.trans z.2)))
        refine ih (s + 1) _ A9 _ (by omega) (by omega) (fun i hi => ?_) Y133 W133
        by_cases q : i = s
        · rw [q, pk_us, en]
        · rw [pk_un q]
          exact hB i (by omega)
      · refine v_iconst (v := nI 1) C dX8_pays_128 (by decide) ?_
        refine v_goto (tgt := 133) C dX8_pays_129 (by decide) ?_
        refine v_iastN C dX8_pays_133 (by omega) Y9.a10 (by omega) (by decide) (fun h133 e133 g133 => ?_)
        have Y133 := (Y9.s10 e133 g133).to mo_sx_b
        have W133 : ∀ a, (a < y ∨ y + 13 ≤ a) → h133 a = h0 a := fun a ha => (g133 a (by omega)).trans (W9 a ha)
        refine v_iincN C dX8_pays_134 (by decide) rfl ?_
        refine v_goto (tgt := 51) C dX8_pays_137 (by decide) ?_
        have en : pa_m M a s = nI 1 := (if_neg (by omega)).trans (if_pos ⟨c116, hA9 ▸ c125⟩)
        refine ih (s + 1) _ A9 _ (by omega) (by omega) (fun i hi => ?_) Y133 W133
        by_cases q : i = s
        · rw [q, pk_us, en]
        · rw [pk_un q]
          exact hB i (by omega)
set_option maxHeartbeats 8000000 in
theorem loop4_X8_pays {G : hp_G} {K : hp_C} {n0 : Nat} {h0 : Nat → Option va_E} {y : Nat} {S : mo_T} {M : mk_T} (hg : Gr (S.1 0) M) (hbase : G.2.1 ≤ y) (C : hp_Cx G K MX8_pays) {a n s : Nat} {A : Nat → Int32} {Z : Nat → Int32} (hs : s < 64) (hk : ∀ h B, (∀ i, i < 64 → B i = Z i) → Mo G h y (mo_sx S A B) → (∀ a, (a < y ∨ y + 13 ≤ a) → h a = h0 a) → V G K MX8_pays 0 0 (n0, h) 254 [some (.ref y), some (.int (nI a)), some (.int (nI n)), some (.int (nI s)), none] []) : ∀ (f p : Nat) (h : Nat → Option va_E) (B B9 : Nat → Int32), p < f → p < 64 → pa_i s f p B9 = Z → (∀ i, i < 64 → B i = B9 i) → Mo G h y (mo_sx S A B) → (∀ a, (a < y ∨ y + 13 ≤ a) → h a = h0 a) → V G K MX8_pays 0 0 (n0, h) 167 [some (.ref y), some (.int (nI a)), some (.int (nI n)), some (.int (nI s)), some (.int (nI p))] [] := by
  intro f
  induction f with
  | zero =>
    intro p h B B9 hp
    exact absurd hp (Nat.not_lt_zero p)
  | succ f ih =>
    intro p h B B9 hp hp64 hZ hB H hO
    unfold pa_i at hZ
    have hx : s ^^^ p < 64 := Nat.xor_lt_two_pow (n := 6) hs hp64
    have hd : (p - 1) &&& s ≤ p - 1 := Nat.and_le_left
    refine v_iload C dX8_pays_167 rfl ?_
    refine v_if_le (tgt := 254) C dX8_pays_169 (by decide) (fun c169 => ?_) (fun c169 => ?_)
    · have hp0 : p = 0 := Decidable.byContradiction fun z => nI_nle (by omega) (by omega) c169
      rw [if_pos hp0] at hZ
      refine v_drop 4 ?_
      exact hk _ _ (fun i hi => by rw [← hZ]; exact hB i hi) H hO
    · have hp0 : ¬ p = 0 := fun z => c169 (by rw [z]; decide)
      rw [if_neg hp0] at hZ
      have hZ2 := hZ
      refine v_aload_n C dX8_pays_172 rfl ?_
      refine v_get C 20 dX8_pays_173 wd7_17 H.o rfl (by decide) ⟨rfl, rfl, rfl⟩ rfl ?_
      refine v_iload C dX8_pays_176 rfl ?_
      refine v_ialdN C dX8_pays_178 H.a10 (by omega) (by decide) ?_
      refine v_if_le (tgt := 243) C dX8_pays_179 (by decide) (fun c179 => ?_) (fun c179 => ?_)
      · have hn : ¬ (0 < B9 p ∧ 0 < B9 (s ^^^ p) ∧ B9 s < B9 p + B9 (s ^^^ p)) := fun z => Int32.not_lt.mpr (hB p hp64 ▸ c179) z.1
        have hZ3 := hZ2
        rw [if_neg hn] at hZ3
        refine v_iload C dX8_pays_243 rfl ?_
        refine v_iconst (v := nI 1) C dX8_pays_245 (by decide) ?_
        refine v_isubN C dX8_pays_246 (by omega) ?_
        refine v_iload_n C dX8_pays_247 rfl ?_
        refine v_iand C dX8_pays_248 ?_
        rw [hp_andN]
        refine v_istore C dX8_pays_249 (by decide) ?_
        refine v_goto (tgt := 167) C dX8_pays_251 (by decide) ?_
        exact ih _ _ _ _ (by omega) (by omega) hZ3 hB H hO
      · refine v_aload_n C dX8_pays_182 rfl ?_
        refine v_get C 20 dX8_pays_183 wd7_17 H.o rfl (by decide) ⟨rfl, rfl, rfl⟩ rfl ?_
        refine v_iload_n C dX8_pays_186 rfl ?_
        refine v_iload C dX8_pays_187 rfl ?_
        refine v_ixor C dX8_pays_189 ?_
        rw [hp_xorN]
        refine v_ialdN C dX8_pays_190 H.a10 (by omega) (by decide) ?_
        refine v_if_le (tgt := 243) C dX8_pays_191 (by decide) (fun c191 => ?_) (fun c191 => ?_)
        · have hn : ¬ (0 < B9 p ∧ 0 < B9 (s ^^^ p) ∧ B9 s < B9 p + B9 (s ^^^ p)) := fun z => Int32.not_lt.mpr (hB _ hx ▸ c191) z.2.1
          have hZ3 := hZ2
          rw [if_neg hn] at hZ3
          refine v_iload C dX8_pays_243 rfl ?_
          refine v_iconst (v := nI 1) C dX8_pays_245 (by decide) ?_
          refine v_isubN C dX8_pays_246 (by omega) ?_
          refine v_iload_n C dX8_pays_247 rfl ?_
          refine v_iand C dX8_pays_248 ?_
          rw [hp_andN]
          refine v_istore C dX8_pays_249 (by decide) ?_
          refine v_goto (tgt := 167) C dX8_pays_251 (by decide) ?_
          exact ih _ _ _ _ (by omega) (by omega) hZ3 hB H hO
        · refine v_aload_n C dX8_pays_194 rfl ?_
          refine v_get C 20 dX8_pays_195 wd7_17 H.o rfl (by decide) ⟨rfl, rfl, rfl⟩ rfl ?_
          refine v_iload C dX8_pays_198 rfl ?_
          refine v_ialdN C dX8_pays_200 H.a10 (by omega) (by decide) ?_
          refine v_aload_n C dX8_pays_201 rfl ?_
          refine v_get C 20 dX8_pays_202 wd7_17 H.o rfl (by decide) ⟨rfl, rfl, rfl⟩ rfl ?_
          refine v_iload_n C dX8_pays_205 rfl ?_
          refine v_iload C dX8_pays_206 rfl ?_
          refine v_ixor C dX8_pays_208 ?_
          rw [hp_xorN]
          refine v_ialdN C dX8_pays_209 H.a10 (by omega) (by decide) ?_
          refine v_iadd C dX8_pays_210 ?_
          refine v_aload_n C dX8_pays_211 rfl ?_
          refine v_get C 20 dX8_pays_212 wd7_17 H.o rfl (by decide) ⟨rfl, rfl, rfl⟩ rfl ?_
          refine v_iload_n C dX8_pays_215 rfl ?_
          refine v_ialdN C dX8_pays_216 H.a10 (by omega) (by decide) ?_
          refine v_icmp_le (tgt := 243) C dX8_pays_217 (by decide) (fun c217 => ?_) (fun c217 => ?_)
          · have hn : ¬ (0 < B9 p ∧ 0 < B9 (s ^^^ p) ∧ B9 s < B9 p + B9 (s ^^^ p)) := fun z => Int32.not_lt.mpr (show B9 p + B9 (s ^^^ p) ≤ B9 s by rw [← hB p hp64, ← hB _ hx, ← hB s hs]; exact c217) z.2.2
            have hZ3 := hZ2
            rw [if_neg hn] at hZ3
            refine v_iload C dX8_pays_243 rfl ?_
            refine v_iconst (v := nI 1) C dX8_pays_245 (by decide) ?_
            refine v_isubN C dX8_pays_246 (by omega) ?_
            refine v_iload_n C dX8_pays_247 rfl ?_
            refine v_iand C dX8_pays_248 ?_
            rw [hp_andN]
            refine v_istore C dX8_pays_249 (by decide) ?_
            refine v_goto (tgt := 167) C dX8_pays_251 (by decide) ?_
            exact ih _ _ _ _ (by omega) (by omega) hZ3 hB H hO
          · have hy : (0 < B9 p ∧ 0 < B9 (s ^^^ p) ∧ B9 s < B9 p + B9 (s ^^^ p)) := ⟨by rw [← hB p hp64]; exact Int32.not_le.mp c179, by rw [← hB _ hx]; exact Int32.not_le.mp c191, by rw [← hB p hp64, ← hB _ hx, ← hB s hs]; exact Int32.not_le.mp c217⟩
            have hZ3 := hZ2
            rw [if_pos hy] at hZ3
            refine v_aload_n C dX8_pays_220 rfl ?_
            refine v_get C 20 dX8_pays_221 wd7_17 H.o rfl (by decide) ⟨rfl, rfl, rfl⟩ rfl ?_
            refine v_iload_n C dX8_pays_224 rfl ?_
            refine v_aload_n C dX8_pays_225 rfl ?_
            refine v_get C 20 dX8_pays_226 wd7_17 H.o rfl (by decide) ⟨rfl, rfl, rfl⟩ rfl ?_
            refine v_iload C dX8_pays_229 rfl ?_
            refine v_ialdN C dX8_pays_231 H.a10 (by omega) (by decide) ?_
            refine v_aload_n C dX8_pays_232 rfl ?_
            refine v_get C 20 dX8_pays_233 wd7_17 H.o rfl (by decide) ⟨rfl, rfl, rfl⟩ rfl ?_
            refine v_iload_n C dX8_pays_236 rfl ?_
            refine v_iload C dX8_pays_237 rfl ?_
            refine v_ixor C dX8_pays_239 ?_
            rw [hp_xorN]
            refine v_ialdN C dX8_pays_240 H.a10 (by omega) (by decide) ?_
            refine v_iadd C dX8_pays_241 ?_
            refine v_iastN C dX8_pays_242 (by omega) H.a10 (by omega) (by decide) (fun h242 e242 g242 => ?_)
            have Y242 := (H.s10 e242 g242).to mo_sx_b
            have W242 : ∀ a, (a < y ∨ y + 13 ≤ a) → h242 a = h0 a := fun a ha => (g242 a (by omega)).trans (hO a ha)
            refine v_iload C dX8_pays_243 rfl ?_
            refine v_iconst (v := nI 1) C dX8_pays_245 (by decide) ?_
            refine v_isubN C dX8_pays_246 (by omega) ?_
            refine v_iload_n C dX8_pays_247 rfl ?_
            refine v_iand C dX8_pays_248 ?_
            rw [hp_andN]
            refine v_istore C dX8_pays_249 (by decide) ?_
            refine v_goto (tgt := 167) C dX8_pays_251 (by decide) ?_
            refine ih _ _ _ _ (by omega) (by omega) hZ3 (pa_u hB (by rw [show (mo_sx S A B).1 10 = B from rfl, hB p hp64, hB _ hx])) Y242 W242
set_option maxHeartbeats 4000000 in
theorem loop5_X8_pays {G : hp_G} {K : hp_C} {n0 : Nat} {h0 : Nat → Option va_E} {y : Nat} {S : mo_T} {M : mk_T} (hg : Gr (S.1 0) M) (hbase : G.2.1 ≤ y) (C : hp_Cx G K MX8_pays) {P : hp_P} (E : hp_End G K P) {a n : Nat} {A : Nat → Int32} {Z : Nat → Int32} (ha : a < 64) (hp : ∀ h B, (∀ i, i < 64 → B i = Z i) → Mo G h y (mo_sx S A B) → (∀ a, (a < y ∨ y + 13 ≤ a) → h a = h0 a) → P (.inl (some (.int (nI n - Z a)))) (n0, h)) : ∀ (e s : Nat) (h : Nat → Option va_E) (B B9 : Nat → Int32), s + e = 64 → 1 ≤ s → pa_o e s B9 = Z → (∀ i, i < 64 → B i = B9 i) → Mo G h y (mo_sx S A B) → (∀ a, (a < y ∨ y + 13 ≤ a) → h a = h0 a) → V G K MX8_pays 0 0 (n0, h) 142 [some (.ref y), some (.int (nI a)), some (.int (nI n)), some (.int (nI s)), none] [] := by
  intro e
  induction e with
  | zero =>
    intro s h B B9 hc h1 hZ hB H hO
    have e : s = 64 := by omega
    subst e
    have hZ : B9 = Z := hZ
    subst hZ
    refine v_iload_n C dX8_pays_142 rfl ?_
    refine v_bipush (v := nI 64) C dX8_pays_143 (by decide) ?_
    refine v_icmp_geN (tgt := 260) C dX8_pays_145 (by decide) (by omega) (by omega) (fun c145 => ?_) (fun c145 => absurd c145 (by omega))
    refine v_iload_n C dX8_pays_260 rfl ?_
    refine v_aload_n C dX8_pays_261 rfl ?_
    refine v_get C 20 dX8_pays_262 wd7_17 H.o rfl (by decide) ⟨rfl, rfl, rfl⟩ rfl ?_
    refine v_iload_n C dX8_pays_265 rfl ?_
    refine v_ialdN C dX8_pays_266 H.a10 (by omega) (by decide) ?_
    rw [show (mo_sx S A B).1 10 = B from rfl, hB a ha]
    refine v_isub C dX8_pays_267 ?_
    exact v_iret C E dX8_pays_268 rfl (hp _ _ hB H hO)
  | succ e ih =>
    intro s h B B9 hc h1 hZ hB H hO
    have hs : s < 64 := by omega
    have hand : s &&& (s - 1) ≤ s := Nat.and_le_left
    unfold pa_o at hZ
    refine v_iload_n C dX8_pays_142 rfl ?_
    refine v_bipush (v := nI 64) C dX8_pays_143 (by decide) ?_
    refine v_icmp_geN (tgt := 260) C dX8_pays_145 (by decide) (by omega) (by omega) (fun c145 => absurd c145 (by omega)) (fun c145 => ?_)
    refine v_aload_n C dX8_pays_148 rfl ?_
    refine v_get C 20 dX8_pays_149 wd7_17 H.o rfl (by decide) ⟨rfl, rfl, rfl⟩ rfl ?_
    refine v_iload_n C dX8_pays_152 rfl ?_
    refine v_ialdN C dX8_pays_153 H.a10 (by omega) (by decide) ?_
    refine v_if_ge (tgt := 160) C dX8_pays_154 (by decide) (fun c154 => ?_) (fun c154 => ?_)
    · rw [if_neg (fun z => Int32.not_lt.mpr c154 (by rw [show (mo_sx S A B).1 10 = B from rfl, hB s hs]; exact z))] at hZ
      refine v_iload_n C dX8_pays_160 rfl ?_
      refine v_iload_n C dX8_pays_161 rfl ?_
      refine v_iconst (v := nI 1) C dX8_pays_162 (by decide) ?_
      refine v_isubN C dX8_pays_163 (by omega) ?_
      refine v_iand C dX8_pays_164 ?_
      rw [hp_andN]
      refine v_istore C dX8_pays_165 (by decide) ?_
      refine loop4_X8_pays (S := S) (M := M) (a := a) (n := n) (s := s) (A := A) (Z := pa_i s 64 (s &&& (s - 1)) B9) hg hbase C hs (fun h9 B2 hB2 Y9 W9 => ?_) 64 (s &&& (s - 1)) _ _ _ (by omega) (by omega) rfl hB H hO
      refine v_iincN C dX8_pays_254 (by decide) rfl ?_
      refine v_goto (tgt := 142) C dX8_pays_257 (by decide) ?_
      exact ih (s + 1) _ _ _ (by omega) (by omega) hZ hB2 Y9 W9
    · rw [if_pos (by rw [← hB s hs]; exact Int32.not_le.mp c154)] at hZ
      refine v_goto (tgt := 254) C dX8_pays_157 (by decide) ?_
      refine v_iincN C dX8_pays_254 (by decide) rfl ?_
      refine v_goto (tgt := 142) C dX8_pays_257 (by decide) ?_
      exact ih (s + 1) _ _ _ (by omega) (by omega) hZ hB H hO
set_option maxHeartbeats 8000000 in
/-- payments at all -/
theorem c_X8_pays {G : hp_G} {l : Launch} (hl : l.stackTraces = false) {n0 : Nat} {h0 : Nat → Option va_E} {y : Nat} {S : mo_T} (hS : Mo G h0 y S) {M : mk_T} (hg : Gr (S.1 0) M)  : Ct G l yX8_pays cX8_pays 5 (some .int) 3 0 0 [.ref y] (n0, h0) (hp_iq (fun r τ => r = pa_v M ∧ τ.1 = n0 ∧ (∃ S2, Mo G τ.2 y S2 ∧ mo_wk S S2 ∧ S2.2 3 = S.2 3) ∧ ∀ a, (a < y ∨ y + 13 ≤ a) → τ.2 a = h0 a)) := by
  have hbase := hS.base
  have hhz := hg.hz
  have htr := hg.tr
  have hct := hg.ct
  have hO0 : ∀ a, (a < y ∨ y + 13 ≤ a) → h0 a = h0 a := fun _ _ => rfl
  have ha := pa_a_lt M (mk_tr M)
  have h64 : 2 ^ mk_tr M ≤ 64 := hp_p6 htr
  have ha : pa_a M (mk_tr M) < 64 := by omega
  refine Ct.of rfl hl (by simp [Value.category]) (Nat.le_of_ble_eq_true rfl) (fun K C E hRm hKl => ?_)
  subst hKl
  refine v_iconst (v := nI 0) C dX8_pays_0 (by decide) ?_
  refine v_istore_n C dX8_pays_1 (by decide) ?_
  refine v_iconst (v := nI 0) C dX8_pays_2 (by decide) ?_
  refine v_istore_n C dX8_pays_3 (by decide) ?_
  refine v_iconst (v := nI 0) C dX8_pays_4 (by decide) ?_
  refine v_istore_n C dX8_pays_5 (by decide) ?_
  refine loop1_X8_pays hg hbase C hRm hl hS ?_ (mk_tr M) 0 (Nat.zero_add _)
  have X0 := hS.to (mo_sx_eq S)
  refine v_aload_n C dX8_pays_42 rfl ?_
  refine v_get C 20 dX8_pays_43 wd7_17 X0.o rfl (by decide) ⟨rfl, rfl, rfl⟩ rfl ?_
  refine v_iconst (v := nI 0) C dX8_pays_46 (by decide) ?_
  refine v_iconst (v := nI 0) C dX8_pays_47 (by decide) ?_
  refine v_iastN C dX8_pays_48 (by omega) X0.a10 (by omega) (by decide) (fun h48 e48 g48 => ?_)
  have Y48 := (X0.s10 e48 g48).to mo_sx_b
  have W48 : ∀ a, (a < y ∨ y + 13 ≤ a) → h48 a = h0 a := fun a ha => (g48 a (by omega)).trans (hO0 a ha)
  refine v_iconst (v := nI 1) C dX8_pays_49 (by decide) ?_
  refine v_istore_n C dX8_pays_50 (by decide) ?_
  refine loop3_X8_pays (S := S) (M := M) (a := pa_a M (mk_tr M)) (n := pa_n M (mk_tr M)) hg hbase C hRm hl (fun h3 A3 B3 hB3 Y3 W3 => ?_) 63 1 _ _ _ rfl (Nat.le_refl _) (fun i hi => ?_) Y48 W48
  · refine v_iconst (v := nI 1) C dX8_pays_140 (by decide) ?_
    refine v_istore_n C dX8_pays_141 (by decide) ?_
    exact loop5_X8_pays (S := S) (M := M) (A := A3) (Z := pa_o 63 1 (pa_m M (pa_a M (mk_tr M)))) hg hbase C E ha (fun h5 B5 hB5 Y5 W5 => ⟨_, rfl, rfl, rfl, ⟨_, Y5, mo_wk.sx, rfl⟩, W5⟩) 63 1 _ _ _ rfl (Nat.le_refl _) rfl hB3 Y3 W3
  · have q : i = 0 := by omega
    rw [q, pk_us]
    rfl
set_option maxHeartbeats 8000000 in
/-- payments -/
theorem c_X8_payments {G : hp_G} {l : Launch} (hl : l.stackTraces = false) {n0 : Nat} {h0 : Nat → Option va_E} {y : Nat} {S : mo_T} (hS : Mo G h0 y S) {M : mk_T} (hg : Gr (S.1 0) M)  : Ct G l yX8_payments cX8_payments 1 (some .int) 4 0 0 [.ref y] (n0, h0) (hp_iq (fun r τ => r = pa_v M ∧ τ.1 = n0 ∧ (∃ S2, Mo G τ.2 y S2 ∧ mo_wk S S2 ∧ S2.2 3 = nI 0) ∧ ∀ a, (a < y ∨ y + 13 ≤ a) → τ.2 a = h0 a)) := by
  have hbase := hS.base
  have hhz := hg.hz
  have htr := hg.tr
  have hct := hg.ct
  refine Ct.of rfl hl (by simp [Value.category]) (Nat.le_of_ble_eq_true rfl) (fun K C E hRm hKl => ?_)
  subst hKl
  refine v_aload_n C dX8_payments_0 rfl ?_
  refine v_iconst (v := nI 0) C dX8_payments_1 (by decide) ?_
  refine v_put C 7 dX8_payments_2 wd7_4 hbase hS.o rfl (by decide) ⟨rfl, rfl, rfl, rfl⟩ rfl rfl rfl (Nat.le_of_ble_eq_true rfl) (fun h2 e2 g2 => ?_)
  have Y2 := hS.i3 e2 g2
  have W2 : ∀ a, (a < y ∨ y + 13 ≤ a) → h2 a = _ := fun a ha => g2 a (by omega)
  refine v_aload_n C dX8_payments_5 rfl ?_
  refine v_callVq C (c_X8_pays hl Y2 (M := M) hg) dX8_payments_6 mX8_pays rfl Y2.o rfl wd8_64 rfl rfl (Nat.le_of_ble_eq_true rfl) (hp_rmle hRm (by decide) (by decide)) (Nat.le_of_ble_eq_true rfl) (Nat.le_of_ble_eq_true rfl) (fun r6 n6 h6 q6 => ?_)
  obtain ⟨e6, k6, ⟨S2, Y6, w6, t6⟩, W6⟩ := q6
  have z6 := Eq.symm k6
  have z6 : n0 = n6 := z6
  subst z6
  subst e6
  exact v_iret C E dX8_payments_9 rfl ⟨_, rfl, rfl, rfl, ⟨_, Y6, ((mo_wk.rf S).si (Or.inl rfl)).tr w6, t6.trans (mo_si_3 S 3 (nI 0))⟩, fun a ha => (W6 a ha).trans (W2 a ha)⟩
set_option maxHeartbeats 8000000 in
/-- paymentsByGroups -/
theorem c_X8_paymentsByGroups {G : hp_G} {l : Launch} (hl : l.stackTraces = false) {n0 : Nat} {h0 : Nat → Option va_E} {y : Nat} {S : mo_T} (hS : Mo G h0 y S) {M : mk_T} (hg : Gr (S.1 0) M)  : Ct G l yX8_paymentsByGroups cX8_paymentsByGroups 1 (some .int) 4 0 0 [.ref y] (n0, h0) (hp_iq (fun r τ => r = pa_v M ∧ τ.1 = n0 ∧ (∃ S2, Mo G τ.2 y S2 ∧ mo_wk S S2 ∧ S2.2 3 = nI 0) ∧ ∀ a, (a < y ∨ y + 13 ≤ a) → τ.2 a = h0 a)) := by
  have hbase := hS.base
  have hhz := hg.hz
  have htr := hg.tr
  have hct := hg.ct
  refine Ct.of rfl hl (by simp [Value.category]) (Nat.le_of_ble_eq_true rfl) (fun K C E hRm hKl => ?_)
  subst hKl
  refine v_aload_n C dX8_paymentsByGroups_0 rfl ?_
  refine v_iconst (v := nI 0) C dX8_paymentsByGroups_1 (by decide) ?_
  refine v_put C 7 dX8_paymentsByGroups_2 wd7_4 hbase hS.o rfl (by decide) ⟨rfl, rfl, rfl, rfl⟩ rfl rfl rfl (Nat.le_of_ble_eq_true rfl) (fun h2 e2 g2 => ?_)
  have Y2 := hS.i3 e2 g2
  have W2 : ∀ a, (a < y ∨ y + 13 ≤ a) → h2 a = _ := fun a ha => g2 a (by omega)
  refine v_aload_n C dX8_paymentsByGroups_5 rfl ?_
  refine v_callVq C (c_X8_pays hl Y2 (M := M) hg) dX8_paymentsByGroups_6 mX8_pays rfl Y2.o rfl wd8_64 rfl rfl (Nat.le_of_ble_eq_true rfl) (hp_rmle hRm (by decide) (by decide)) (Nat.le_of_ble_eq_true rfl) (Nat.le_of_ble_eq_true rfl) (fun r6 n6 h6 q6 => ?_)
  obtain ⟨e6, k6, ⟨S2, Y6, w6, t6⟩, W6⟩ := q6
  have z6 := Eq.symm k6
  have z6 : n0 = n6 := z6
  subst z6
  subst e6
  exact v_iret C E dX8_paymentsByGroups_9 rfl ⟨_, rfl, rfl, rfl, ⟨_, Y6, ((mo_wk.rf S).si (Or.inl rfl)).tr w6, t6.trans (mo_si_3 S 3 (nI 0))⟩, fun a ha => (W6 a ha).trans (W2 a ha)⟩

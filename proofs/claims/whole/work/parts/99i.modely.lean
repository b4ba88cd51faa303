/-! ===== THE MODEL: a text is read, a command is carried out ===== -/
/-- whether a text is one, its commands, the place, what is told -/
abbrev tm_T : Type := Bool × Nat × Nat × (Nat → Int32)
def tm_r (s : Nat → Nat) (n f cnt p : Nat) (T : Nat → Int32) : tm_T := match f with
  | 0 => (false, cnt, p, T)
  | f + 1 => if (pc_C s cnt (6 * cnt + 1) p T).1 = true then (if s (pc_C s cnt (6 * cnt + 1) p T).2.1 = 59 then tm_r s n f (cnt + 1) ((pc_C s cnt (6 * cnt + 1) p T).2.1 + 1) (pc_C s cnt (6 * cnt + 1) p T).2.2 else (decide ((pc_C s cnt (6 * cnt + 1) p T).2.1 = n), cnt + 1, (pc_C s cnt (6 * cnt + 1) p T).2.1, (pc_C s cnt (6 * cnt + 1) p T).2.2)) else (false, cnt, (pc_C s cnt (6 * cnt + 1) p T).2.1, (pc_C s cnt (6 * cnt + 1) p T).2.2)
theorem pq_a_ge {A : pq_T} {m : Nat} {f : Nat → (Nat → Int32) → pq_T} (h : m ≤ A.2.1) (hf : ∀ p T, m ≤ p → m ≤ (f p T).2.1) : m ≤ (pq_a A f).2.1 := by
  unfold pq_a
  split
  · exact hf _ _ h
  · exact h
theorem pq_w_ge {s : Nat → Nat} {cnt wh k p m : Nat} {T : Nat → Int32} (h : m ≤ p) : m ≤ (pq_w s cnt wh k p T).2.1 := Nat.le_trans h (Nat.le_add_right _ _)
theorem pq_f_ge {s : Nat → Nat} {dg pl p m : Nat} {T : Nat → Int32} (h : m ≤ p) : m ≤ (pq_f s dg pl p T).2.1 := by
  have h2 := (rd_dg_le s dg (p + 1) 0).1
  unfold pq_f
  split
  · split
    · show m ≤ (rd_dg s dg (p + 1) 0).1
      omega
    · show m ≤ p + 1
      omega
  · exact h
section PCGE
variable {s : Nat → Nat} {cnt pl p m : Nat} {T : Nat → Int32}
theorem pc_2_ge {wh k d1 d2 : Nat} (h : m ≤ p) : m ≤ (pc_2 s cnt wh k d1 d2 pl p T).2.1 := pq_a_ge (pq_w_ge h) (fun p T h => pq_a_ge (pq_f_ge h) (fun p T h => pq_f_ge h))
theorem pc_r_ge (h : m ≤ p) : m ≤ (pc_r s cnt pl p T).2.1 := pq_a_ge (pq_w_ge h) (fun p T h => pq_f_ge h)
theorem pc_t_ge (h : m ≤ p) : m ≤ (pc_t s pl p T).2.1 := pq_a_ge (pq_f_ge h) (fun p T h => pq_a_ge (pq_f_ge h) (fun p T h => pq_a_ge (pq_f_ge h) (fun p T h => pq_a_ge (pq_f_ge h) (fun p T h => pq_f_ge h))))
theorem pc_T_ge (h : m ≤ p) : m ≤ (pc_T s cnt pl p T).2.1 := pq_a_ge (pq_w_ge h) (fun p T h => by
  show m ≤ (if _ then _ else _ : pq_T).2.1
  split
  · exact pc_r_ge (by omega)
  · exact pc_t_ge h)
theorem pc_D_ge (h : m ≤ p) : m ≤ (pc_D s cnt pl p T).2.1 := by
  unfold pc_D
  split
  · exact pq_w_ge (by omega)
  · exact pc_2_ge h
theorem pc_C_ge (hc : (pc_C s cnt pl p T).1 = true) : p + 1 ≤ (pc_C s cnt pl p T).2.1 := by
  unfold pc_C at hc ⊢
  split
  · exact pc_2_ge (Nat.le_refl _)
  · split
    · exact pc_T_ge (Nat.le_refl _)
    · split
      · exact pc_2_ge (Nat.le_refl _)
      · split
        · exact pc_D_ge (Nat.le_refl _)
        · split
          · exact pc_2_ge (Nat.le_refl _)
          · split
            · exact pc_2_ge (Nat.le_refl _)
            · rename_i h1 h2 h3 h4 h5 h6
              rw [if_neg h1, if_neg h2, if_neg h3, if_neg h4, if_neg h5, if_neg h6] at hc
              cases hc
end PCGE
set_option maxHeartbeats 8000000 in
theorem loop_X8_isText {G : hp_G} {K : hp_C} {P : hp_P} {n0 : Nat} {h0 : Nat → Option va_E} {y : Nat} {S : mo_T} {t : Nat → Nat} {n : Nat} (hI : Tp S t n) {Z : tm_T} (hKc : Kc G h0) (hbase : G.2.1 ≤ y) (C : hp_Cx G K MX8_isText) (E : hp_End G K P) (hRm : hp_Rm K = hp_rm 7 0 0) (hl : K.2.1.stackTraces = false) (hp : ∀ h, Mo G h y (mo_pr S Z.2.2.1 Z.2.1 Z.2.2.2) → (∀ a, (a < y ∨ y + 13 ≤ a) → h a = h0 a) → P (.inl (some (.int (hp_b (Z.1 = true))))) (n0, h)) : ∀ (f cnt p : Nat) (T : Nat → Int32) (h : Nat → Option va_E), f + cnt = 31 → 2 * cnt ≤ p → p ≤ n → tm_r (sg t n) n f cnt p T = Z → Mo G h y (mo_pr S p cnt T) → (∀ a, (a < y ∨ y + 13 ≤ a) → h a = h0 a) → V G K MX8_isText 0 0 (n0, h) 10 [some (.ref y)] [] := by
  have hn60 := hI.2.1
  intro f
  induction f with
  | zero =>
    intro cnt p T h hc h2 hpn
    omega
  | succ f ih =>
    intro cnt p T h hc h2 hpn hZ H hO
    have hcnt : cnt ≤ 30 := by omega
    unfold tm_r at hZ
    have hle := pc_C_le (t := t) (cnt := cnt) (pl := 6 * cnt + 1) (T := T) hpn
    have hge := pc_C_ge (s := sg t n) (cnt := cnt) (pl := 6 * cnt + 1) (p := p) (T := T)
    refine v_aload_n C dX8_isText_10 rfl ?_
    refine v_callVq C (c_X8_commandHere hl hI H hpn (hKc.same (fun a ha => hO a (by omega))) hcnt) dX8_isText_11 mX8_commandHere rfl H.o rfl wd8_160 rfl rfl (Nat.le_of_ble_eq_true rfl) (hp_rmle hRm (by decide) (by decide)) (Nat.le_of_ble_eq_true rfl) (Nat.le_of_ble_eq_true rfl) (fun r11 n11 h11 q11 => ?_)
    obtain ⟨A, hA⟩ : ∃ A, A = pc_C (sg t n) cnt (6 * cnt + 1) p T := ⟨_, rfl⟩
    rw [← hA] at q11 hZ hle hge
    obtain ⟨e11, k11, Y11, W11⟩ := q11
    have z11 := Eq.symm k11
    have z11 : n0 = n11 := z11
    subst z11
    subst e11
    have W11 : ∀ a, (a < y ∨ y + 13 ≤ a) → h11 a = h0 a := fun a ha => (W11 a ha).trans (hO a ha)
    refine v_if_neB (tgt := 19) C dX8_isText_14 (by decide) (fun c14 => ?_) (fun c14 => ?_)
    · rw [if_pos c14] at hZ
      have hg1 := hge c14
      refine v_aload_n C dX8_isText_19 rfl ?_
      refine v_dup C dX8_isText_20 rfl ?_
      refine v_get (v := .int (nI (cnt))) C 23 dX8_isText_21 wd7_20 Y11.o rfl (by decide) ⟨rfl, rfl, rfl⟩ rfl ?_
      refine v_iconst (v := nI 1) C dX8_isText_24 (by decide) ?_
      refine v_iaddN C dX8_isText_25 ?_
      refine v_put C 23 dX8_isText_26 wd7_20 hbase Y11.o rfl (by decide) ⟨rfl, rfl, rfl, rfl⟩ rfl rfl rfl (Nat.le_of_ble_eq_true rfl) (fun h26 e26 g26 => ?_)
      have Y26 := Y11.i11 e26 g26
      have X26 := Y26.to mo_pr_c
      have W26 : ∀ a, (a < y ∨ y + 13 ≤ a) → h26 a = h0 a := fun a ha => (g26 a (by omega)).trans (W11 a ha)
      refine v_aload_n C dX8_isText_29 rfl ?_
      refine v_bipush (v := nI 59) C dX8_isText_30 (by decide) ?_
      refine v_callVq C (c_X8_skips hl X26 (p := A.2.1) (len := n) (mo_pr_10 _ _ _ _) (hI.pr _ _ _).1 hle hn60 (nI 59)) dX8_isText_32 mX8_skips rfl X26.o rfl wd8_164 rfl rfl (Nat.le_of_ble_eq_true rfl) (hp_rmle hRm (by decide) (by decide)) (Nat.le_of_ble_eq_true rfl) (Nat.le_of_ble_eq_true rfl) (fun r32 n32 h32 q32 => ?_)
      obtain ⟨e32, k32, Y32, W32⟩ := q32
      have z32 := Eq.symm k32
      have z32 : n0 = n32 := z32
      subst z32
      have e32 : r32 = hp_b (sg t n A.2.1 = 59) := e32.trans (hp_b_iff (hr_eq (hI.pr _ _ _) (by decide) (by decide)))
      subst e32
      have X32 := Y32.to (sk_pr hI (by decide) (by decide))
      have W32 : ∀ a, (a < y ∨ y + 13 ≤ a) → h32 a = h0 a := fun a ha => (W32 a ha).trans (W26 a ha)
      refine v_if_neB (tgt := 10) C dX8_isText_35 (by decide) (fun c35 => ?_) (fun c35 => ?_)
      · rw [if_pos c35] at hZ X32
        have hp35 := sg_in c35 (by decide)
        exact ih (cnt + 1) (A.2.1 + 1) _ _ (by omega) (by omega) (by omega) hZ X32 W32
      · rw [if_neg c35] at hZ X32
        subst hZ
        have Z32 := X32.to (S' := mo_si (mo_pr S A.2.1 (cnt + 1) A.2.2) 4 (nI n)) (mo_si_eq (hI.pr _ _ _).1)
        refine v_aload_n C dX8_isText_38 rfl ?_
        refine v_get (v := .int (nI (A.2.1))) C 21 dX8_isText_39 wd7_18 Z32.o rfl (by decide) ⟨rfl, rfl, rfl⟩ rfl ?_
        refine v_aload_n C dX8_isText_42 rfl ?_
        refine v_get (v := .int (nI (n))) C 9 dX8_isText_43 wd7_6 Z32.o rfl (by decide) ⟨rfl, rfl, rfl⟩ rfl ?_
        refine v_icmp_ne (tgt := 53) C dX8_isText_46 (by decide) (fun c46 => ?_) (fun c46 => ?_)
        · refine v_iconst (v := nI 0) C dX8_isText_53 (by decide) ?_
          exact v_zret C E dX8_isText_54 rfl rfl (by have hq := hp _ X32 W32; first | (rw [hp_b_t (decide_eq_true ((nI_eq (by omega) (by omega)).mp c46))] at hq; exact hq) | (rw [hp_b_f (fun z => c46 (congrArg nI (of_decide_eq_true z)))] at hq; exact hq))
        · refine v_iconst (v := nI 1) C dX8_isText_49 (by decide) ?_
          refine v_goto (tgt := 54) C dX8_isText_50 (by decide) ?_
          exact v_zret C E dX8_isText_54 rfl rfl (by have hq := hp _ X32 W32; first | (rw [hp_b_t (decide_eq_true ((nI_eq (by omega) (by omega)).mp c46))] at hq; exact hq) | (rw [hp_b_f (fun z => c46 (congrArg nI (of_decide_eq_true z)))] at hq; exact hq))
    · rw [if_neg c14] at hZ
      subst hZ
      refine v_iconst (v := nI 0) C dX8_isText_17 (by decide) ?_
      exact v_zret C E dX8_isText_18 rfl rfl (by have hq := hp _ Y11 W11; rw [hp_b_f (fun z => by cases z)] at hq; exact hq)
set_option maxHeartbeats 8000000 in
/-- a text is read -/
theorem c_X8_isText {G : hp_G} {l : Launch} (hl : l.stackTraces = false) {n0 : Nat} {h0 : Nat → Option va_E} {y : Nat} {S : mo_T} (hS : Mo G h0 y S) {t : Nat → Nat} {n : Nat} (hI : Tp S t n) (hKc : Kc G h0)  : Ct G l yX8_isText cX8_isText 1 (some .boolean) 7 0 0 [.ref y] (n0, h0) (hp_iq (fun r τ => r = hp_b ((tm_r (sg t n) n 31 0 0 (S.1 11)).1 = true) ∧ τ.1 = n0 ∧ Mo G τ.2 y (mo_pr S (tm_r (sg t n) n 31 0 0 (S.1 11)).2.2.1 (tm_r (sg t n) n 31 0 0 (S.1 11)).2.1 (tm_r (sg t n) n 31 0 0 (S.1 11)).2.2.2) ∧ ∀ a, (a < y ∨ y + 13 ≤ a) → τ.2 a = h0 a)) := by
  have hbase := hS.base
  refine Ct.of rfl hl (by simp [Value.category]) (Nat.le_of_ble_eq_true rfl) (fun K C E hRm hKl => ?_)
  subst hKl
  refine v_aload_n C dX8_isText_0 rfl ?_
  refine v_iconst (v := nI 0) C dX8_isText_1 (by decide) ?_
  refine v_put C 21 dX8_isText_2 wd7_18 hbase hS.o rfl (by decide) ⟨rfl, rfl, rfl, rfl⟩ rfl rfl rfl (Nat.le_of_ble_eq_true rfl) (fun h2 e2 g2 => ?_)
  have Y2 := hS.i10 e2 g2
  have W2 : ∀ a, (a < y ∨ y + 13 ≤ a) → h2 a = h0 a := fun a ha => g2 a (by omega)
  refine v_aload_n C dX8_isText_5 rfl ?_
  refine v_iconst (v := nI 0) C dX8_isText_6 (by decide) ?_
  refine v_put C 23 dX8_isText_7 wd7_20 hbase Y2.o rfl (by decide) ⟨rfl, rfl, rfl, rfl⟩ rfl rfl rfl (Nat.le_of_ble_eq_true rfl) (fun h7 e7 g7 => ?_)
  have Y7 := Y2.i11 e7 g7
  have W7 : ∀ a, (a < y ∨ y + 13 ≤ a) → h7 a = h0 a := fun a ha => (g7 a (by omega)).trans (W2 a ha)
  have X7 := Y7.to (S' := mo_pr S 0 0 (S.1 11)) (Prod.ext (funext fun j => (show S.1 j = (if j = 11 then S.1 11 else S.1 j) by by_cases q : j = 11; (rw [if_pos q, q]); (rw [if_neg q]))) rfl)
  exact loop_X8_isText hI (Z := tm_r (sg t n) n 31 0 0 (S.1 11)) hKc hbase C E hRm hl (fun h H hO => ⟨_, rfl, rfl, rfl, H, hO⟩) 31 0 0 _ _ rfl (Nat.le_refl _) (Nat.zero_le _) rfl X7 W7
/-- what is wrong with a command, the market behind it, its answer -/
def cv (M : mk_T) (c : Nat) (a b k d e : Int32) : Int32 × mk_T × Int32 := match c with
  | 0 => (mo_fH M a b, mk_plH M a b, nI (mk_hz M + 1 - 1))
  | 1 => (mo_fR M a, mk_plT M a, nI (mk_tr M))
  | 2 => (mo_fT M a b k d e, mk_con M a b k d e, nI (mk_ct M))
  | 3 => (mo_fQ M a b, mk_st M 1 a.toNatClampNeg b, mk_ar M 1 a.toNatClampNeg)
  | 4 => (nI 0, pn_M M, nI (tk_bc (pn_s M)))
  | 5 => (mk_fB M a b, mk_bri M a.toNatClampNeg b, mk_ar (mk_bri M a.toNatClampNeg b) 3 a.toNatClampNeg)
  | 6 => (mo_fK M a b, mk_tak M a.toNatClampNeg b, mk_ar (mk_tak M a.toNatClampNeg b) 3 a.toNatClampNeg)
  | _ => (mo_fK M a b, mk_giv M a.toNatClampNeg b, mk_fu (mk_giv M a.toNatClampNeg b))
/-- what went in and out is far from too much -/
def mo_bd (M : mk_T) : Prop := 0 ≤ M.2.2.2.1.toInt ∧ M.2.2.2.1.toInt ≤ 1073741824 ∧ 0 ≤ M.2.2.2.2.toInt ∧ M.2.2.2.2.toInt ≤ 1073741824
theorem bd_add {g : Int32} {x : Int64} {a : Int32} (h : g.toInt64 = x) (h0 : 0 ≤ x.toInt) (h1 : x.toInt ≤ 1073741824) (ha : hp_wi a (nI 0) (nI 9999)) : (g + a).toInt64 = x + a.toInt64 := by
  subst h
  rw [Int32.toInt_toInt64] at h0 h1
  have a0 := Int32.le_iff_toInt_le.mp ha.1
  have a1 := Int32.le_iff_toInt_le.mp ha.2
  rw [nI_toInt (by decide)] at a0 a1
  apply Int64.toInt.inj
  rw [Int32.toInt_toInt64, Int64.toInt_add, Int32.toInt_toInt64, Int32.toInt_toInt64, Int32.toInt_add]
  rw [Int.bmod_eq_of_le (by omega) (by omega), Int.bmod_eq_of_le (by omega) (by omega)]
theorem wi_1_0 {a : Int32} (h : hp_wi a (nI 1) (nI 9999)) : hp_wi a (nI 0) (nI 9999) := ⟨Int32.le_trans (by decide) h.1, h.2⟩
theorem fB_wi {M : mk_T} {i a : Int32} (h : mk_fB M i a = nI 0) : hp_wi a (nI 1) (nI 9999) := by
  unfold mk_fB at h
  split at h
  · exact absurd h (by decide)
  · split at h
    · exact absurd h (by decide)
    · rename_i z
      exact Decidable.not_not.mp z
theorem fR_wi {M : mk_T} {a : Int32} (h : mo_fR M a = nI 0) : hp_wi a (nI 0) (nI 9999) := by
  unfold mo_fR at h
  split at h
  · exact absurd h (by decide)
  · rename_i z
    exact Decidable.not_not.mp z
set_option maxHeartbeats 8000000 in
/-- a command is carried out -/
theorem c_X8_carries0 {G : hp_G} {l : Launch} (hl : l.stackTraces = false) {n0 : Nat} {h0 : Nat → Option va_E} {y : Nat} {S : mo_T} (hS : Mo G h0 y S) {M : mk_T} (hg : Gr (S.1 0) M) {ch : Nat} (hch : S.2 1 = nI ch) (h8 : ch ≤ 8) (hK : dw_ok M) (hbd : mo_bd M) {i : Nat} (hi : i ≤ 30) (hc : S.1 11 (6 * i) = nI 0) : Ct G l yX8_carries cX8_carries 4 (some .int) 6 0 0 [.ref y, .int (nI (6 * i))] (n0, h0) (hp_iq (fun r τ => r = (if (cv M 0 (S.1 11 (6 * i + 1)) (S.1 11 (6 * i + 2)) (S.1 11 (6 * i + 3)) (S.1 11 (6 * i + 4)) (S.1 11 (6 * i + 5))).1 = nI 0 then (cv M 0 (S.1 11 (6 * i + 1)) (S.1 11 (6 * i + 2)) (S.1 11 (6 * i + 3)) (S.1 11 (6 * i + 4)) (S.1 11 (6 * i + 5))).2.2 else nI 0) ∧ τ.1 = n0 ∧ (∃ S2, Mo G τ.2 y S2 ∧ mo_af S (cv M 0 (S.1 11 (6 * i + 1)) (S.1 11 (6 * i + 2)) (S.1 11 (6 * i + 3)) (S.1 11 (6 * i + 4)) (S.1 11 (6 * i + 5))).1 ch M (cv M 0 (S.1 11 (6 * i + 1)) (S.1 11 (6 * i + 2)) (S.1 11 (6 * i + 3)) (S.1 11 (6 * i + 4)) (S.1 11 (6 * i + 5))).2.1 S2) ∧ ∀ a, (a < y ∨ y + 13 ≤ a) → τ.2 a = h0 a)) := by
  have hbase := hS.base
  have hhz := hg.hz
  have htr := hg.tr
  have hct := hg.ct
  refine Ct.of rfl hl (by simp [Value.category]) (Nat.le_of_ble_eq_true rfl) (fun K C E hRm hKl => ?_)
  subst hKl
  refine v_aload_n C dX8_carries_0 rfl ?_
  refine v_get C 22 dX8_carries_1 wd7_19 hS.o rfl (by decide) ⟨rfl, rfl, rfl⟩ rfl ?_
  refine v_iload_n C dX8_carries_4 rfl ?_
  refine v_iconst (v := nI 1) C dX8_carries_5 (by decide) ?_
  refine v_iaddN C dX8_carries_6 ?_
  refine v_ialdN C dX8_carries_7 hS.a11 (by omega) (by decide) ?_
  refine v_istore_n C dX8_carries_8 (by decide) ?_
  refine v_aload_n C dX8_carries_9 rfl ?_
  refine v_get C 22 dX8_carries_10 wd7_19 hS.o rfl (by decide) ⟨rfl, rfl, rfl⟩ rfl ?_
  refine v_iload_n C dX8_carries_13 rfl ?_
  refine v_iconst (v := nI 2) C dX8_carries_14 (by decide) ?_
  refine v_iaddN C dX8_carries_15 ?_
  refine v_ialdN C dX8_carries_16 hS.a11 (by omega) (by decide) ?_
  refine v_istore_n C dX8_carries_17 (by decide) ?_
  refine v_aload_n C dX8_carries_18 rfl ?_
  refine v_get C 22 dX8_carries_19 wd7_19 hS.o rfl (by decide) ⟨rfl, rfl, rfl⟩ rfl ?_
  refine v_iload_n C dX8_carries_22 rfl ?_
  refine v_ialdN C dX8_carries_23 hS.a11 (by omega) (by decide) ?_
  rw [hc]
  refine v_tableIn (tgt := 68) (off := 44) C dX8_carries_24 (by decide) (by decide) (by decide) (by decide) ?_
  refine v_aload_n C dX8_carries_68 rfl ?_
  refine v_iload_n C dX8_carries_69 rfl ?_
  refine v_iload_n C dX8_carries_70 rfl ?_
  refine v_callVq C (c_X8_addHorizon hl hS hg (ch := ch) hch h8 (S.1 11 (6 * i + 1)) (S.1 11 (6 * i + 2))) dX8_carries_71 mX8_addHorizon rfl hS.o rfl wd8_202 rfl rfl (Nat.le_of_ble_eq_true rfl) (hp_rmle hRm (by decide) (by decide)) (Nat.le_of_ble_eq_true rfl) (Nat.le_of_ble_eq_true rfl) (fun r71 n71 h71 q71 => ?_)
  obtain ⟨e71, k71, ⟨S71, Y71, F71⟩, W71⟩ := q71
  have z71 := Eq.symm k71
  have z71 : n0 = n71 := z71
  subst z71
  subst e71
  exact v_iret C E dX8_carries_74 rfl ⟨_, rfl, rfl, rfl, ⟨_, Y71, F71.up hg⟩, W71⟩
set_option maxHeartbeats 8000000 in
/-- a command is carried out -/
theorem c_X8_carries1 {G : hp_G} {l : Launch} (hl : l.stackTraces = false) {n0 : Nat} {h0 : Nat → Option va_E} {y : Nat} {S : mo_T} (hS : Mo G h0 y S) {M : mk_T} (hg : Gr (S.1 0) M) {ch : Nat} (hch : S.2 1 = nI ch) (h8 : ch ≤ 8) (hK : dw_ok M) (hbd : mo_bd M) {i : Nat} (hi : i ≤ 30) (hc : S.1 11 (6 * i) = nI 1) : Ct G l yX8_carries cX8_carries 4 (some .int) 6 0 0 [.ref y, .int (nI (6 * i))] (n0, h0) (hp_iq (fun r τ => r = (if (cv M 1 (S.1 11 (6 * i + 1)) (S.1 11 (6 * i + 2)) (S.1 11 (6 * i + 3)) (S.1 11 (6 * i + 4)) (S.1 11 (6 * i + 5))).1 = nI 0 then (cv M 1 (S.1 11 (6 * i + 1)) (S.1 11 (6 * i + 2)) (S.1 11 (6 * i + 3)) (S.1 11 (6 * i + 4)) (S.1 11 (6 * i + 5))).2.2 else nI 0) ∧ τ.1 = n0 ∧ (∃ S2, Mo G τ.2 y S2 ∧ mo_af S (cv M 1 (S.1 11 (6 * i + 1)) (S.1 11 (6 * i + 2)) (S.1 11 (6 * i + 3)) (S.1 11 (6 * i + 4)) (S.1 11 (6 * i + 5))).1 ch M (cv M 1 (S.1 11 (6 * i + 1)) (S.1 11 (6 * i + 2)) (S.1 11 (6 * i + 3)) (S.1 11 (6 * i + 4)) (S.1 11 (6 * i + 5))).2.1 S2) ∧ ∀ a, (a < y ∨ y + 13 ≤ a) → τ.2 a = h0 a)) := by
  have hbase := hS.base
  have hhz := hg.hz
  have htr := hg.tr
  have hct := hg.ct
  refine Ct.of rfl hl (by simp [Value.category]) (Nat.le_of_ble_eq_true rfl) (fun K C E hRm hKl => ?_)
  subst hKl
  refine v_aload_n C dX8_carries_0 rfl ?_
  refine v_get C 22 dX8_carries_1 wd7_19 hS.o rfl (by decide) ⟨rfl, rfl, rfl⟩ rfl ?_
  refine v_iload_n C dX8_carries_4 rfl ?_
  refine v_iconst (v := nI 1) C dX8_carries_5 (by decide) ?_
  refine v_iaddN C dX8_carries_6 ?_
  refine v_ialdN C dX8_carries_7 hS.a11 (by omega) (by decide) ?_
  refine v_istore_n C dX8_carries_8 (by decide) ?_
  refine v_aload_n C dX8_carries_9 rfl ?_
  refine v_get C 22 dX8_carries_10 wd7_19 hS.o rfl (by decide) ⟨rfl, rfl, rfl⟩ rfl ?_
  refine v_iload_n C dX8_carries_13 rfl ?_
  refine v_iconst (v := nI 2) C dX8_carries_14 (by decide) ?_
  refine v_iaddN C dX8_carries_15 ?_
  refine v_ialdN C dX8_carries_16 hS.a11 (by omega) (by decide) ?_
  refine v_istore_n C dX8_carries_17 (by decide) ?_
  refine v_aload_n C dX8_carries_18 rfl ?_
  refine v_get C 22 dX8_carries_19 wd7_19 hS.o rfl (by decide) ⟨rfl, rfl, rfl⟩ rfl ?_
  refine v_iload_n C dX8_carries_22 rfl ?_
  refine v_ialdN C dX8_carries_23 hS.a11 (by omega) (by decide) ?_
  rw [hc]
  refine v_tableIn (tgt := 75) (off := 51) C dX8_carries_24 (by decide) (by decide) (by decide) (by decide) ?_
  refine v_aload_n C dX8_carries_75 rfl ?_
  refine v_iload_n C dX8_carries_76 rfl ?_
  refine v_callVq C (c_X8_addTrader hl hS hg (ch := ch) hch h8 (S.1 11 (6 * i + 1)) (fun z => bd_add hg.g6 hbd.1 hbd.2.1 (fR_wi z))) dX8_carries_77 mX8_addTrader rfl hS.o rfl wd8_203 rfl rfl (Nat.le_of_ble_eq_true rfl) (hp_rmle hRm (by decide) (by decide)) (Nat.le_of_ble_eq_true rfl) (Nat.le_of_ble_eq_true rfl) (fun r77 n77 h77 q77 => ?_)
  obtain ⟨e77, k77, ⟨S77, Y77, F77⟩, W77⟩ := q77
  have z77 := Eq.symm k77
  have z77 : n0 = n77 := z77
  subst z77
  subst e77
  exact v_iret C E dX8_carries_80 rfl ⟨_, rfl, rfl, rfl, ⟨_, Y77, F77.up hg⟩, W77⟩
set_option maxHeartbeats 8000000 in
/-- a command is carried out -/
theorem c_X8_carries2 {G : hp_G} {l : Launch} (hl : l.stackTraces = false) {n0 : Nat} {h0 : Nat → Option va_E} {y : Nat} {S : mo_T} (hS : Mo G h0 y S) {M : mk_T} (hg : Gr (S.1 0) M) {ch : Nat} (hch : S.2 1 = nI ch) (h8 : ch ≤ 8) (hK : dw_ok M) (hbd : mo_bd M) {i : Nat} (hi : i ≤ 30) (hc : S.1 11 (6 * i) = nI 2) : Ct G l yX8_carries cX8_carries 4 (some .int) 6 0 0 [.ref y, .int (nI (6 * i))] (n0, h0) (hp_iq (fun r τ => r = (if (cv M 2 (S.1 11 (6 * i + 1)) (S.1 11 (6 * i + 2)) (S.1 11 (6 * i + 3)) (S.1 11 (6 * i + 4)) (S.1 11 (6 * i + 5))).1 = nI 0 then (cv M 2 (S.1 11 (6 * i + 1)) (S.1 11 (6 * i + 2)) (S.1 11 (6 * i + 3)) (S.1 11 (6 * i + 4)) (S.1 11 (6 * i + 5))).2.2 else nI 0) ∧ τ.1 = n0 ∧ (∃ S2, Mo G τ.2 y S2 ∧ mo_af S (cv M 2 (S.1 11 (6 * i + 1)) (S.1 11 (6 * i + 2)) (S.1 11 (6 * i + 3)) (S.1 11 (6 * i + 4)) (S.1 11 (6 * i + 5))).1 ch M (cv M 2 (S.1 11 (6 * i + 1)) (S.1 11 (6 * i + 2)) (S.1 11 (6 * i + 3)) (S.1 11 (6 * i + 4)) (S.1 11 (6 * i + 5))).2.1 S2) ∧ ∀ a, (a < y ∨ y + 13 ≤ a) → τ.2 a = h0 a)) := by
  have hbase := hS.base
  have hhz := hg.hz
  have htr := hg.tr
  have hct := hg.ct
  refine Ct.of rfl hl (by simp [Value.category]) (Nat.le_of_ble_eq_true rfl) (fun K C E hRm hKl => ?_)
  subst hKl
  refine v_aload_n C dX8_carries_0 rfl ?_
  refine v_get C 22 dX8_carries_1 wd7_19 hS.o rfl (by decide) ⟨rfl, rfl, rfl⟩ rfl ?_
  refine v_iload_n C dX8_carries_4 rfl ?_
  refine v_iconst (v := nI 1) C dX8_carries_5 (by decide) ?_
  refine v_iaddN C dX8_carries_6 ?_
  refine v_ialdN C dX8_carries_7 hS.a11 (by omega) (by decide) ?_
  refine v_istore_n C dX8_carries_8 (by decide) ?_
  refine v_aload_n C dX8_carries_9 rfl ?_
  refine v_get C 22 dX8_carries_10 wd7_19 hS.o rfl (by decide) ⟨rfl, rfl, rfl⟩ rfl ?_
  refine v_iload_n C dX8_carries_13 rfl ?_
  refine v_iconst (v := nI 2) C dX8_carries_14 (by decide) ?_
  refine v_iaddN C dX8_carries_15 ?_
  refine v_ialdN C dX8_carries_16 hS.a11 (by omega) (by decide) ?_
  refine v_istore_n C dX8_carries_17 (by decide) ?_
  refine v_aload_n C dX8_carries_18 rfl ?_
  refine v_get C 22 dX8_carries_19 wd7_19 hS.o rfl (by decide) ⟨rfl, rfl, rfl⟩ rfl ?_
  refine v_iload_n C dX8_carries_22 rfl ?_
  refine v_ialdN C dX8_carries_23 hS.a11 (by omega) (by decide) ?_
  rw [hc]
  refine v_tableIn (tgt := 81) (off := 57) C dX8_carries_24 (by decide) (by decide) (by decide) (by decide) ?_
  refine v_aload_n C dX8_carries_81 rfl ?_
  refine v_iload_n C dX8_carries_82 rfl ?_
  refine v_iload_n C dX8_carries_83 rfl ?_
  refine v_aload_n C dX8_carries_84 rfl ?_
  refine v_get C 22 dX8_carries_85 wd7_19 hS.o rfl (by decide) ⟨rfl, rfl, rfl⟩ rfl ?_
  refine v_iload_n C dX8_carries_88 rfl ?_
  refine v_iconst (v := nI 3) C dX8_carries_89 (by decide) ?_
  refine v_iaddN C dX8_carries_90 ?_
  refine v_ialdN C dX8_carries_91 hS.a11 (by omega) (by decide) ?_
  refine v_aload_n C dX8_carries_92 rfl ?_
  refine v_get C 22 dX8_carries_93 wd7_19 hS.o rfl (by decide) ⟨rfl, rfl, rfl⟩ rfl ?_
  refine v_iload_n C dX8_carries_96 rfl ?_
  refine v_iconst (v := nI 4) C dX8_carries_97 (by decide) ?_
  refine v_iaddN C dX8_carries_98 ?_
  refine v_ialdN C dX8_carries_99 hS.a11 (by omega) (by decide) ?_
  refine v_aload_n C dX8_carries_100 rfl ?_
  refine v_get C 22 dX8_carries_101 wd7_19 hS.o rfl (by decide) ⟨rfl, rfl, rfl⟩ rfl ?_
  refine v_iload_n C dX8_carries_104 rfl ?_
  refine v_iconst (v := nI 5) C dX8_carries_105 (by decide) ?_
  refine v_iaddN C dX8_carries_106 ?_
  refine v_ialdN C dX8_carries_107 hS.a11 (by omega) (by decide) ?_
  refine v_callVq C (c_X8_trade hl hS hg (ch := ch) hch h8 (S.1 11 (6 * i + 1)) (S.1 11 (6 * i + 2)) (S.1 11 (6 * i + 3)) (S.1 11 (6 * i + 4)) (S.1 11 (6 * i + 5))) dX8_carries_108 mX8_trade rfl hS.o rfl wd8_204 rfl rfl (Nat.le_of_ble_eq_true rfl) (hp_rmle hRm (by decide) (by decide)) (Nat.le_of_ble_eq_true rfl) (Nat.le_of_ble_eq_true rfl) (fun r108 n108 h108 q108 => ?_)
  obtain ⟨e108, k108, ⟨S108, Y108, F108⟩, W108⟩ := q108
  have z108 := Eq.symm k108
  have z108 : n0 = n108 := z108
  subst z108
  subst e108
  exact v_iret C E dX8_carries_111 rfl ⟨_, rfl, rfl, rfl, ⟨_, Y108, F108⟩, W108⟩
set_option maxHeartbeats 8000000 in
/-- a command is carried out -/
theorem c_X8_carries3 {G : hp_G} {l : Launch} (hl : l.stackTraces = false) {n0 : Nat} {h0 : Nat → Option va_E} {y : Nat} {S : mo_T} (hS : Mo G h0 y S) {M : mk_T} (hg : Gr (S.1 0) M) {ch : Nat} (hch : S.2 1 = nI ch) (h8 : ch ≤ 8) (hK : dw_ok M) (hbd : mo_bd M) {i : Nat} (hi : i ≤ 30) (hc : S.1 11 (6 * i) = nI 3) : Ct G l yX8_carries cX8_carries 4 (some .int) 6 0 0 [.ref y, .int (nI (6 * i))] (n0, h0) (hp_iq (fun r τ => r = (if (cv M 3 (S.1 11 (6 * i + 1)) (S.1 11 (6 * i + 2)) (S.1 11 (6 * i + 3)) (S.1 11 (6 * i + 4)) (S.1 11 (6 * i + 5))).1 = nI 0 then (cv M 3 (S.1 11 (6 * i + 1)) (S.1 11 (6 * i + 2)) (S.1 11 (6 * i + 3)) (S.1 11 (6 * i + 4)) (S.1 11 (6 * i + 5))).2.2 else nI 0) ∧ τ.1 = n0 ∧ (∃ S2, Mo G τ.2 y S2 ∧ mo_af S (cv M 3 (S.1 11 (6 * i + 1)) (S.1 11 (6 * i + 2)) (S.1 11 (6 * i + 3)) (S.1 11 (6 * i + 4)) (S.1 11 (6 * i + 5))).1 ch M (cv M 3 (S.1 11 (6 * i + 1)) (S.1 11 (6 * i + 2)) (S.1 11 (6 * i + 3)) (S.1 11 (6 * i + 4)) (S.1 11 (6 * i + 5))).2.1 S2) ∧ ∀ a, (a < y ∨ y + 13 ≤ a) → τ.2 a = h0 a)) := by
  have hbase := hS.base
  have hhz := hg.hz
  have htr := hg.tr
  have hct := hg.ct
  refine Ct.of rfl hl (by simp [Value.category]) (Nat.le_of_ble_eq_true rfl) (fun K C E hRm hKl => ?_)
  subst hKl
  refine v_aload_n C dX8_carries_0 rfl ?_
  refine v_get C 22 dX8_carries_1 wd7_19 hS.o rfl (by decide) ⟨rfl, rfl, rfl⟩ rfl ?_
  refine v_iload_n C dX8_carries_4 rfl ?_
  refine v_iconst (v := nI 1) C dX8_carries_5 (by decide) ?_
  refine v_iaddN C dX8_carries_6 ?_
  refine v_ialdN C dX8_carries_7 hS.a11 (by omega) (by decide) ?_
  refine v_istore_n C dX8_carries_8 (by decide) ?_
  refine v_aload_n C dX8_carries_9 rfl ?_
  refine v_get C 22 dX8_carries_10 wd7_19 hS.o rfl (by decide) ⟨rfl, rfl, rfl⟩ rfl ?_
  refine v_iload_n C dX8_carries_13 rfl ?_
  refine v_iconst (v := nI 2) C dX8_carries_14 (by decide) ?_
  refine v_iaddN C dX8_carries_15 ?_
  refine v_ialdN C dX8_carries_16 hS.a11 (by omega) (by decide) ?_
  refine v_istore_n C dX8_carries_17 (by decide) ?_
  refine v_aload_n C dX8_carries_18 rfl ?_
  refine v_get C 22 dX8_carries_19 wd7_19 hS.o rfl (by decide) ⟨rfl, rfl, rfl⟩ rfl ?_
  refine v_iload_n C dX8_carries_22 rfl ?_
  refine v_ialdN C dX8_carries_23 hS.a11 (by omega) (by decide) ?_
  rw [hc]
  refine v_tableIn (tgt := 112) (off := 88) C dX8_carries_24 (by decide) (by decide) (by decide) (by decide) ?_
  refine v_aload_n C dX8_carries_112 rfl ?_
  refine v_iload_n C dX8_carries_113 rfl ?_
  refine v_iload_n C dX8_carries_114 rfl ?_
  refine v_callVq C (c_X8_setQuote hl hS hg (ch := ch) hch h8 (S.1 11 (6 * i + 1)) (S.1 11 (6 * i + 2))) dX8_carries_115 mX8_setQuote rfl hS.o rfl wd8_205 rfl rfl (Nat.le_of_ble_eq_true rfl) (hp_rmle hRm (by decide) (by decide)) (Nat.le_of_ble_eq_true rfl) (Nat.le_of_ble_eq_true rfl) (fun r115 n115 h115 q115 => ?_)
  obtain ⟨e115, k115, ⟨S115, Y115, F115⟩, W115⟩ := q115
  have z115 := Eq.symm k115
  have z115 : n0 = n115 := z115
  subst z115
  subst e115
  exact v_iret C E dX8_carries_118 rfl ⟨_, rfl, rfl, rfl, ⟨_, Y115, F115.up hg⟩, W115⟩
set_option maxHeartbeats 8000000 in
/-- a command is carried out -/
theorem c_X8_carries4 {G : hp_G} {l : Launch} (hl : l.stackTraces = false) {n0 : Nat} {h0 : Nat → Option va_E} {y : Nat} {S : mo_T} (hS : Mo G h0 y S) {M : mk_T} (hg : Gr (S.1 0) M) {ch : Nat} (hch : S.2 1 = nI ch) (h8 : ch ≤ 8) (hK : dw_ok M) (hbd : mo_bd M) {i : Nat} (hi : i ≤ 30) (hc : S.1 11 (6 * i) = nI 4) : Ct G l yX8_carries cX8_carries 4 (some .int) 6 0 0 [.ref y, .int (nI (6 * i))] (n0, h0) (hp_iq (fun r τ => r = (if (cv M 4 (S.1 11 (6 * i + 1)) (S.1 11 (6 * i + 2)) (S.1 11 (6 * i + 3)) (S.1 11 (6 * i + 4)) (S.1 11 (6 * i + 5))).1 = nI 0 then (cv M 4 (S.1 11 (6 * i + 1)) (S.1 11 (6 * i + 2)) (S.1 11 (6 * i + 3)) (S.1 11 (6 * i + 4)) (S.1 11 (6 * i + 5))).2.2 else nI 0) ∧ τ.1 = n0 ∧ (∃ S2, Mo G τ.2 y S2 ∧ mo_af S (cv M 4 (S.1 11 (6 * i + 1)) (S.1 11 (6 * i + 2)) (S.1 11 (6 * i + 3)) (S.1 11 (6 * i + 4)) (S.1 11 (6 * i + 5))).1 ch M (cv M 4 (S.1 11 (6 * i + 1)) (S.1 11 (6 * i + 2)) (S.1 11 (6 * i + 3)) (S.1 11 (6 * i + 4)) (S.1 11 (6 * i + 5))).2.1 S2) ∧ ∀ a, (a < y ∨ y + 13 ≤ a) → τ.2 a = h0 a)) := by
  have hbase := hS.base
  have hhz := hg.hz
  have htr := hg.tr
  have hct := hg.ct
  refine Ct.of rfl hl (by simp [Value.category]) (Nat.le_of_ble_eq_true rfl) (fun K C E hRm hKl => ?_)
  subst hKl
  refine v_aload_n C dX8_carries_0 rfl ?_
  refine v_get C 22 dX8_carries_1 wd7_19 hS.o rfl (by decide) ⟨rfl, rfl, rfl⟩ rfl ?_
  refine v_iload_n C dX8_carries_4 rfl ?_
  refine v_iconst (v := nI 1) C dX8_carries_5 (by decide) ?_
  refine v_iaddN C dX8_carries_6 ?_
  refine v_ialdN C dX8_carries_7 hS.a11 (by omega) (by decide) ?_
  refine v_istore_n C dX8_carries_8 (by decide) ?_
  refine v_aload_n C dX8_carries_9 rfl ?_
  refine v_get C 22 dX8_carries_10 wd7_19 hS.o rfl (by decide) ⟨rfl, rfl, rfl⟩ rfl ?_
  refine v_iload_n C dX8_carries_13 rfl ?_
  refine v_iconst (v := nI 2) C dX8_carries_14 (by decide) ?_
  refine v_iaddN C dX8_carries_15 ?_
  refine v_ialdN C dX8_carries_16 hS.a11 (by omega) (by decide) ?_
  refine v_istore_n C dX8_carries_17 (by decide) ?_
  refine v_aload_n C dX8_carries_18 rfl ?_
  refine v_get C 22 dX8_carries_19 wd7_19 hS.o rfl (by decide) ⟨rfl, rfl, rfl⟩ rfl ?_
  refine v_iload_n C dX8_carries_22 rfl ?_
  refine v_ialdN C dX8_carries_23 hS.a11 (by omega) (by decide) ?_
  rw [hc]
  refine v_tableIn (tgt := 119) (off := 95) C dX8_carries_24 (by decide) (by decide) (by decide) (by decide) ?_
  refine v_aload_n C dX8_carries_119 rfl ?_
  refine v_callVq C (c_X8_dawn hl hS hg (ch := ch) hch h8 hK) dX8_carries_120 mX8_dawn rfl hS.o rfl wd8_206 rfl rfl (Nat.le_of_ble_eq_true rfl) (hp_rmle hRm (by decide) (by decide)) (Nat.le_of_ble_eq_true rfl) (Nat.le_of_ble_eq_true rfl) (fun r120 n120 h120 q120 => ?_)
  obtain ⟨e120, k120, ⟨S120, Y120, F120⟩, W120⟩ := q120
  have z120 := Eq.symm k120
  have z120 : n0 = n120 := z120
  subst z120
  subst e120
  exact v_iret C E dX8_carries_123 rfl ⟨_, rfl, (if_pos rfl).symm, rfl, ⟨_, Y120, F120⟩, W120⟩
set_option maxHeartbeats 8000000 in
/-- a command is carried out -/
theorem c_X8_carries5 {G : hp_G} {l : Launch} (hl : l.stackTraces = false) {n0 : Nat} {h0 : Nat → Option va_E} {y : Nat} {S : mo_T} (hS : Mo G h0 y S) {M : mk_T} (hg : Gr (S.1 0) M) {ch : Nat} (hch : S.2 1 = nI ch) (h8 : ch ≤ 8) (hK : dw_ok M) (hbd : mo_bd M) {i : Nat} (hi : i ≤ 30) (hc : S.1 11 (6 * i) = nI 5) : Ct G l yX8_carries cX8_carries 4 (some .int) 6 0 0 [.ref y, .int (nI (6 * i))] (n0, h0) (hp_iq (fun r τ => r = (if (cv M 5 (S.1 11 (6 * i + 1)) (S.1 11 (6 * i + 2)) (S.1 11 (6 * i + 3)) (S.1 11 (6 * i + 4)) (S.1 11 (6 * i + 5))).1 = nI 0 then (cv M 5 (S.1 11 (6 * i + 1)) (S.1 11 (6 * i + 2)) (S.1 11 (6 * i + 3)) (S.1 11 (6 * i + 4)) (S.1 11 (6 * i + 5))).2.2 else nI 0) ∧ τ.1 = n0 ∧ (∃ S2, Mo G τ.2 y S2 ∧ mo_af S (cv M 5 (S.1 11 (6 * i + 1)) (S.1 11 (6 * i + 2)) (S.1 11 (6 * i + 3)) (S.1 11 (6 * i + 4)) (S.1 11 (6 * i + 5))).1 ch M (cv M 5 (S.1 11 (6 * i + 1)) (S.1 11 (6 * i + 2)) (S.1 11 (6 * i + 3)) (S.1 11 (6 * i + 4)) (S.1 11 (6 * i + 5))).2.1 S2) ∧ ∀ a, (a < y ∨ y + 13 ≤ a) → τ.2 a = h0 a)) := by
  have hbase := hS.base
  have hhz := hg.hz
  have htr := hg.tr
  have hct := hg.ct
  refine Ct.of rfl hl (by simp [Value.category]) (Nat.le_of_ble_eq_true rfl) (fun K C E hRm hKl => ?_)
  subst hKl
  refine v_aload_n C dX8_carries_0 rfl ?_
  refine v_get C 22 dX8_carries_1 wd7_19 hS.o rfl (by decide) ⟨rfl, rfl, rfl⟩ rfl ?_
  refine v_iload_n C dX8_carries_4 rfl ?_
  refine v_iconst (v := nI 1) C dX8_carries_5 (by decide) ?_
  refine v_iaddN C dX8_carries_6 ?_
  refine v_ialdN C dX8_carries_7 hS.a11 (by omega) (by decide) ?_
  refine v_istore_n C dX8_carries_8 (by decide) ?_
  refine v_aload_n C dX8_carries_9 rfl ?_
  refine v_get C 22 dX8_carries_10 wd7_19 hS.o rfl (by decide) ⟨rfl, rfl, rfl⟩ rfl ?_
  refine v_iload_n C dX8_carries_13 rfl ?_
  refine v_iconst (v := nI 2) C dX8_carries_14 (by decide) ?_
  refine v_iaddN C dX8_carries_15 ?_
  refine v_ialdN C dX8_carries_16 hS.a11 (by omega) (by decide) ?_
  refine v_istore_n C dX8_carries_17 (by decide) ?_
  refine v_aload_n C dX8_carries_18 rfl ?_
  refine v_get C 22 dX8_carries_19 wd7_19 hS.o rfl (by decide) ⟨rfl, rfl, rfl⟩ rfl ?_
  refine v_iload_n C dX8_carries_22 rfl ?_
  refine v_ialdN C dX8_carries_23 hS.a11 (by omega) (by decide) ?_
  rw [hc]
  refine v_tableIn (tgt := 124) (off := 100) C dX8_carries_24 (by decide) (by decide) (by decide) (by decide) ?_
  refine v_aload_n C dX8_carries_124 rfl ?_
  refine v_iload_n C dX8_carries_125 rfl ?_
  refine v_iload_n C dX8_carries_126 rfl ?_
  refine v_callVq C (c_X8_deposit hl hS hg (ch := ch) hch h8 (S.1 11 (6 * i + 1)) (S.1 11 (6 * i + 2)) (fun z => bd_add hg.g6 hbd.1 hbd.2.1 (wi_1_0 (fB_wi z)))) dX8_carries_127 mX8_deposit rfl hS.o rfl wd8_207 rfl rfl (Nat.le_of_ble_eq_true rfl) (hp_rmle hRm (by decide) (by decide)) (Nat.le_of_ble_eq_true rfl) (Nat.le_of_ble_eq_true rfl) (fun r127 n127 h127 q127 => ?_)
  obtain ⟨e127, k127, ⟨S127, Y127, F127⟩, W127⟩ := q127
  have z127 := Eq.symm k127
  have z127 : n0 = n127 := z127
  subst z127
  subst e127
  exact v_iret C E dX8_carries_130 rfl ⟨_, rfl, rfl, rfl, ⟨_, Y127, F127.up hg⟩, W127⟩
set_option maxHeartbeats 8000000 in
/-- a command is carried out -/
theorem c_X8_carries6 {G : hp_G} {l : Launch} (hl : l.stackTraces = false) {n0 : Nat} {h0 : Nat → Option va_E} {y : Nat} {S : mo_T} (hS : Mo G h0 y S) {M : mk_T} (hg : Gr (S.1 0) M) {ch : Nat} (hch : S.2 1 = nI ch) (h8 : ch ≤ 8) (hK : dw_ok M) (hbd : mo_bd M) {i : Nat} (hi : i ≤ 30) (hc : S.1 11 (6 * i) = nI 6) : Ct G l yX8_carries cX8_carries 4 (some .int) 6 0 0 [.ref y, .int (nI (6 * i))] (n0, h0) (hp_iq (fun r τ => r = (if (cv M 6 (S.1 11 (6 * i + 1)) (S.1 11 (6 * i + 2)) (S.1 11 (6 * i + 3)) (S.1 11 (6 * i + 4)) (S.1 11 (6 * i + 5))).1 = nI 0 then (cv M 6 (S.1 11 (6 * i + 1)) (S.1 11 (6 * i + 2)) (S.1 11 (6 * i + 3)) (S.1 11 (6 * i + 4)) (S.1 11 (6 * i + 5))).2.2 else nI 0) ∧ τ.1 = n0 ∧ (∃ S2, Mo G τ.2 y S2 ∧ mo_af S (cv M 6 (S.1 11 (6 * i + 1)) (S.1 11 (6 * i + 2)) (S.1 11 (6 * i + 3)) (S.1 11 (6 * i + 4)) (S.1 11 (6 * i + 5))).1 ch M (cv M 6 (S.1 11 (6 * i + 1)) (S.1 11 (6 * i + 2)) (S.1 11 (6 * i + 3)) (S.1 11 (6 * i + 4)) (S.1 11 (6 * i + 5))).2.1 S2) ∧ ∀ a, (a < y ∨ y + 13 ≤ a) → τ.2 a = h0 a)) := by
  have hbase := hS.base
  have hhz := hg.hz
  have htr := hg.tr
  have hct := hg.ct
  refine Ct.of rfl hl (by simp [Value.category]) (Nat.le_of_ble_eq_true rfl) (fun K C E hRm hKl => ?_)
  subst hKl
  refine v_aload_n C dX8_carries_0 rfl ?_
  refine v_get C 22 dX8_carries_1 wd7_19 hS.o rfl (by decide) ⟨rfl, rfl, rfl⟩ rfl ?_
  refine v_iload_n C dX8_carries_4 rfl ?_
  refine v_iconst (v := nI 1) C dX8_carries_5 (by decide) ?_
  refine v_iaddN C dX8_carries_6 ?_
  refine v_ialdN C dX8_carries_7 hS.a11 (by omega) (by decide) ?_
  refine v_istore_n C dX8_carries_8 (by decide) ?_
  refine v_aload_n C dX8_carries_9 rfl ?_
  refine v_get C 22 dX8_carries_10 wd7_19 hS.o rfl (by decide) ⟨rfl, rfl, rfl⟩ rfl ?_
  refine v_iload_n C dX8_carries_13 rfl ?_
  refine v_iconst (v := nI 2) C dX8_carries_14 (by decide) ?_
  refine v_iaddN C dX8_carries_15 ?_
  refine v_ialdN C dX8_carries_16 hS.a11 (by omega) (by decide) ?_
  refine v_istore_n C dX8_carries_17 (by decide) ?_
  refine v_aload_n C dX8_carries_18 rfl ?_
  refine v_get C 22 dX8_carries_19 wd7_19 hS.o rfl (by decide) ⟨rfl, rfl, rfl⟩ rfl ?_
  refine v_iload_n C dX8_carries_22 rfl ?_
  refine v_ialdN C dX8_carries_23 hS.a11 (by omega) (by decide) ?_
  rw [hc]
  refine v_tableIn (tgt := 131) (off := 107) C dX8_carries_24 (by decide) (by decide) (by decide) (by decide) ?_
  refine v_aload_n C dX8_carries_131 rfl ?_
  refine v_iload_n C dX8_carries_132 rfl ?_
  refine v_iload_n C dX8_carries_133 rfl ?_
  refine v_callVq C (c_X8_withdraw hl hS hg (ch := ch) hch h8 (S.1 11 (6 * i + 1)) (S.1 11 (6 * i + 2)) (fun z => bd_add hg.g7 hbd.2.2.1 hbd.2.2.2 (wi_1_0 (fB_wi (fK_z z))))) dX8_carries_134 mX8_withdraw rfl hS.o rfl wd8_208 rfl rfl (Nat.le_of_ble_eq_true rfl) (hp_rmle hRm (by decide) (by decide)) (Nat.le_of_ble_eq_true rfl) (Nat.le_of_ble_eq_true rfl) (fun r134 n134 h134 q134 => ?_)
  obtain ⟨e134, k134, ⟨S134, Y134, F134⟩, W134⟩ := q134
  have z134 := Eq.symm k134
  have z134 : n0 = n134 := z134
  subst z134
  subst e134
  exact v_iret C E dX8_carries_137 rfl ⟨_, rfl, rfl, rfl, ⟨_, Y134, F134.up hg⟩, W134⟩
set_option maxHeartbeats 8000000 in
/-- a command is carried out -/
theorem c_X8_carries7 {G : hp_G} {l : Launch} (hl : l.stackTraces = false) {n0 : Nat} {h0 : Nat → Option va_E} {y : Nat} {S : mo_T} (hS : Mo G h0 y S) {M : mk_T} (hg : Gr (S.1 0) M) {ch : Nat} (hch : S.2 1 = nI ch) (h8 : ch ≤ 8) (hK : dw_ok M) (hbd : mo_bd M) {i : Nat} (hi : i ≤ 30) (hc : S.1 11 (6 * i) = nI 7) : Ct G l yX8_carries cX8_carries 4 (some .int) 6 0 0 [.ref y, .int (nI (6 * i))] (n0, h0) (hp_iq (fun r τ => r = (if (cv M 7 (S.1 11 (6 * i + 1)) (S.1 11 (6 * i + 2)) (S.1 11 (6 * i + 3)) (S.1 11 (6 * i + 4)) (S.1 11 (6 * i + 5))).1 = nI 0 then (cv M 7 (S.1 11 (6 * i + 1)) (S.1 11 (6 * i + 2)) (S.1 11 (6 * i + 3)) (S.1 11 (6 * i + 4)) (S.1 11 (6 * i + 5))).2.2 else nI 0) ∧ τ.1 = n0 ∧ (∃ S2, Mo G τ.2 y S2 ∧ mo_af S (cv M 7 (S.1 11 (6 * i + 1)) (S.1 11 (6 * i + 2)) (S.1 11 (6 * i + 3)) (S.1 11 (6 * i + 4)) (S.1 11 (6 * i + 5))).1 ch M (cv M 7 (S.1 11 (6 * i + 1)) (S.1 11 (6 * i + 2)) (S.1 11 (6 * i + 3)) (S.1 11 (6 * i + 4)) (S.1 11 (6 * i + 5))).2.1 S2) ∧ ∀ a, (a < y ∨ y + 13 ≤ a) → τ.2 a = h0 a)) := by
  have hbase := hS.base
  have hhz := hg.hz
  have htr := hg.tr
  have hct := hg.ct
  refine Ct.of rfl hl (by simp [Value.category]) (Nat.le_of_ble_eq_true rfl) (fun K C E hRm hKl => ?_)
  subst hKl
  refine v_aload_n C dX8_carries_0 rfl ?_
  refine v_get C 22 dX8_carries_1 wd7_19 hS.o rfl (by decide) ⟨rfl, rfl, rfl⟩ rfl ?_
  refine v_iload_n C dX8_carries_4 rfl ?_
  refine v_iconst (v := nI 1) C dX8_carries_5 (by decide) ?_
  refine v_iaddN C dX8_carries_6 ?_
  refine v_ialdN C dX8_carries_7 hS.a11 (by omega) (by decide) ?_
  refine v_istore_n C dX8_carries_8 (by decide) ?_
  refine v_aload_n C dX8_carries_9 rfl ?_
  refine v_get C 22 dX8_carries_10 wd7_19 hS.o rfl (by decide) ⟨rfl, rfl, rfl⟩ rfl ?_
  refine v_iload_n C dX8_carries_13 rfl ?_
  refine v_iconst (v := nI 2) C dX8_carries_14 (by decide) ?_
  refine v_iaddN C dX8_carries_15 ?_
  refine v_ialdN C dX8_carries_16 hS.a11 (by omega) (by decide) ?_
  refine v_istore_n C dX8_carries_17 (by decide) ?_
  refine v_aload_n C dX8_carries_18 rfl ?_
  refine v_get C 22 dX8_carries_19 wd7_19 hS.o rfl (by decide) ⟨rfl, rfl, rfl⟩ rfl ?_
  refine v_iload_n C dX8_carries_22 rfl ?_
  refine v_ialdN C dX8_carries_23 hS.a11 (by omega) (by decide) ?_
  rw [hc]
  refine v_tableOut (tgt := 138) C dX8_carries_24 (by decide) (by decide) ?_
  refine v_aload_n C dX8_carries_138 rfl ?_
  refine v_iload_n C dX8_carries_139 rfl ?_
  refine v_iload_n C dX8_carries_140 rfl ?_
  refine v_callVq C (c_X8_contribute hl hS hg (ch := ch) hch h8 (S.1 11 (6 * i + 1)) (S.1 11 (6 * i + 2))) dX8_carries_141 mX8_contribute rfl hS.o rfl wd8_209 rfl rfl (Nat.le_of_ble_eq_true rfl) (hp_rmle hRm (by decide) (by decide)) (Nat.le_of_ble_eq_true rfl) (Nat.le_of_ble_eq_true rfl) (fun r141 n141 h141 q141 => ?_)
  obtain ⟨e141, k141, ⟨S141, Y141, F141⟩, W141⟩ := q141
  have z141 := Eq.symm k141
  have z141 : n0 = n141 := z141
  subst z141
  subst e141
  exact v_iret C E dX8_carries_144 rfl ⟨_, rfl, rfl, rfl, ⟨_, Y141, F141.up hg⟩, W141⟩

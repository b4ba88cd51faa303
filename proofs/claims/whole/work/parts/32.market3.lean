/-! ===== THE MARKET: a night ===== -/
theorem mk_pw_congr {M M' : mk_T} (h5 : mk_ar M' 5 = mk_ar M 5) (h6 : mk_ar M' 6 = mk_ar M 6) (h7 : mk_ar M' 7 = mk_ar M 7) (h8 : mk_ar M' 8 = mk_ar M 8) (t on ot : Int32) : ∀ c, mk_pw M' t on ot c = mk_pw M t on ot c
  | 0 => rfl
  | c + 1 => by simp only [mk_pw, h5, h6, h7, h8, mk_pw_congr h5 h6 h7 h8 t on ot c]
theorem mk_po_congr {M M' : mk_T} (hc : mk_ct M' = mk_ct M) (h5 : mk_ar M' 5 = mk_ar M 5) (h6 : mk_ar M' 6 = mk_ar M 6) (h7 : mk_ar M' 7 = mk_ar M 7) (h8 : mk_ar M' 8 = mk_ar M 8) (t on : Int32) : mk_po M' t on = mk_po M t on := by
  unfold mk_po
  rw [hc, mk_pw_congr h5 h6 h7 h8]
theorem mk_va_congr {M M' : mk_T} (hp : ∀ t on, mk_po M' t on = mk_po M t on) (h0 : mk_ar M' 0 = mk_ar M 0) (h1 : mk_ar M' 1 = mk_ar M 1) (t : Int32) : ∀ c, mk_va M' t c = mk_va M t c
  | 0 => rfl
  | c + 1 => by simp only [mk_va, h0, h1, hp, mk_va_congr hp h0 h1 t c]
theorem mk_mg_congr {M M' : mk_T} (hp : ∀ t on, mk_po M' t on = mk_po M t on) (h2 : mk_ar M' 2 = mk_ar M 2) (t : Int32) : ∀ c, mk_mg M' t c = mk_mg M t c
  | 0 => rfl
  | c + 1 => by simp only [mk_mg, h2, hp, mk_mg_congr hp h2 t c]
/-- one more place of a row that is laid anew from its start -/
theorem mk_wa_st {M : mk_T} {k c : Nat} {f f' : Nat → Int32} {x : Int32} (h : ∀ i, f' i = if i = c then x else f i) : mk_st (mk_wa M k f) k c x = mk_wa M k f' := by
  have e : upd f c x = f' := funext fun i => by rw [h i]; rfl
  show ((M.1, _, M.2.2) : mk_T) = (M.1, _, M.2.2)
  congr 2
  funext j
  by_cases q : j = k
  · subst q
    show (if j = j then upd (if j = j then f else M.2.1 j) c x else _) = _
    rw [if_pos rfl, if_pos rfl, if_pos rfl, e]
  · show (if j = k then _ else (if j = k then f else M.2.1 j)) = _
    rw [if_neg q, if_neg q, if_neg q]
theorem mk_wa_id {M : mk_T} {k : Nat} {f : Nat → Int32} (h : ∀ i, f i = M.2.1 k i) : M = mk_wa M k f := by
  show M = ((M.1, _, M.2.2) : mk_T)
  have e : M.2.1 = fun j => if j = k then f else M.2.1 j := by
    funext j
    by_cases q : j = k
    · subst q
      rw [if_pos rfl]
      exact (funext h).symm
    · rw [if_neg q]
  rw [← e]
abbrev mk_sv (M : mk_T) (c : Nat) : mk_T := mk_wa M 3 (fun i => if i < c then mk_ar M 3 i + mk_va M (nI i) (mk_hz M) else mk_ar M 3 i)
abbrev mk_sp (M : mk_T) (c : Nat) : mk_T := mk_wa M 0 (fun i => if i < c then mk_ar M 1 i else mk_ar M 0 i)
theorem mk_sv_va (M : mk_T) (c : Nat) (t : Int32) (k : Nat) : mk_va (mk_sv M c) t k = mk_va M t k := mk_va_congr (M := M) (M' := mk_sv M c) (fun t on => mk_po_congr (M := M) (M' := mk_sv M c) rfl rfl rfl rfl rfl t on) rfl rfl t k
theorem mk_sv_st (M : mk_T) (c : Nat) : mk_st (mk_sv M c) 3 c (mk_ar (mk_sv M c) 3 c + mk_va (mk_sv M c) (nI c) (mk_hz (mk_sv M c))) = mk_sv M (c + 1) := by
  refine mk_wa_st fun i => ?_
  rw [mk_sv_va]
  show _ = if i = c then (if c < c then _ else mk_ar M 3 c) + mk_va M (nI c) (mk_hz M) else _
  by_cases q : i = c
  · subst q
    rw [if_pos rfl, if_neg (Nat.lt_irrefl i), if_pos (Nat.lt_succ_self i)]
  · rw [if_neg q]
    by_cases q2 : i < c
    · rw [if_pos q2, if_pos (by omega)]
    · rw [if_neg q2, if_neg (by omega)]
theorem mk_sp_st (M : mk_T) (c : Nat) : mk_st (mk_sp M c) 0 c (mk_ar (mk_sp M c) 1 c) = mk_sp M (c + 1) := by
  refine mk_wa_st fun i => ?_
  show _ = if i = c then mk_ar M 1 c else _
  by_cases q : i = c
  · subst q
    rw [if_pos rfl, if_pos (Nat.lt_succ_self i)]
  · rw [if_neg q]
    by_cases q2 : i < c
    · rw [if_pos q2, if_pos (by omega)]
    · rw [if_neg q2, if_neg (by omega)]
/-- the money has changed by the variations, the prices are the quotes -/
abbrev mk_settle (M : mk_T) : mk_T := mk_sp (mk_sv M (mk_tr M)) (mk_hz M)
set_option maxHeartbeats 4000000 in
theorem loop_X4_settleVariations1 {G : hp_G} {K : hp_C} {n : Nat} {h0 : Nat → Option va_E} {o : Nat} {M : mk_T} (C : hp_Cx G K MX4_settleVariations) (hRm : hp_Rm K = hp_rm 4 0 0) (hl : K.2.1.stackTraces = false) (hhz : mk_hz M ≤ 4) (htr : mk_tr M ≤ 6) (hct : mk_ct M ≤ 20)  (hk : ∀ h : Nat → Option va_E, Mk G h o (mk_sv M (mk_tr M)) → (∀ a, (a < o ∨ o + 11 ≤ a) → h a = h0 a) → V G K MX4_settleVariations 0 0 (n, h) 30 [some (.ref o), some (.int (nI (mk_tr M)))] []) : ∀ (f c : Nat) (h : Nat → Option va_E), c ≤ mk_tr M → mk_tr M ≤ c + f → Mk G h o (mk_sv M c) → (∀ a, (a < o ∨ o + 11 ≤ a) → h a = h0 a) → V G K MX4_settleVariations 0 0 (n, h) 2 [some (.ref o), some (.int (nI c))] [] := by
  intro f
  induction f with
  | zero =>
    intro c h h1 h2 hM hO
    have hbase := hM.base
    have e : c = mk_tr M := by omega
    subst e
    refine v_iload_n C dX4_settleVariations_2 rfl ?_
    refine v_aload_n C dX4_settleVariations_3 rfl ?_
    refine v_get (v := .int (nI (mk_tr M))) C 4 dX4_settleVariations_4 wd1_58 hM.o rfl (by decide) ⟨rfl, rfl, rfl⟩ rfl ?_
    refine v_icmp_geN (tgt := 30) C dX4_settleVariations_7 (by decide) (by omega) (by omega) (fun c7 => ?_) (fun c7 => absurd c7 (by omega))
    exact hk _ hM hO
  | succ f ih =>
    intro c h h1 h2 hM hO
    have hbase := hM.base
    refine v_iload_n C dX4_settleVariations_2 rfl ?_
    refine v_aload_n C dX4_settleVariations_3 rfl ?_
    refine v_get (v := .int (nI (mk_tr M))) C 4 dX4_settleVariations_4 wd1_58 hM.o rfl (by decide) ⟨rfl, rfl, rfl⟩ rfl ?_
    refine v_icmp_geN (tgt := 30) C dX4_settleVariations_7 (by decide) (by omega) (by omega) (fun c7 => ?_) (fun c7 => ?_)
    · have e : c = mk_tr M := by omega
      subst e
      exact hk _ hM hO
    · refine v_aload_n C dX4_settleVariations_10 rfl ?_
      refine v_get C 5 dX4_settleVariations_11 wd1_60 hM.o rfl (by decide) ⟨rfl, rfl, rfl⟩ rfl ?_
      refine v_iload_n C dX4_settleVariations_14 rfl ?_
      refine v_dup2 C dX4_settleVariations_15 rfl rfl ?_
      refine v_ialdN C dX4_settleVariations_16 hM.a3 (by omega) (by decide) ?_
      refine v_aload_n C dX4_settleVariations_17 rfl ?_
      refine v_iload_n C dX4_settleVariations_18 rfl ?_
      refine v_callVi C (c_X4_variation hl hM _) dX4_settleVariations_19 mX4_variation rfl hM.o rfl wd3_48 rfl rfl (Nat.le_of_ble_eq_true rfl) (hp_rmle hRm (by decide) (by decide)) (Nat.le_of_ble_eq_true rfl) (Nat.le_of_ble_eq_true rfl) ?_
      refine v_iadd C dX4_settleVariations_22 ?_
      refine v_iastN C dX4_settleVariations_23 (by omega) hM.a3 (by omega) (by decide) (fun h23 e23 g23 => ?_)
      have hM23 := hM.st (k := 3) (by decide) rfl e23 g23
      have hO23 : ∀ a, (a < o ∨ o + 11 ≤ a) → h23 a = h0 a := fun a ha => (g23 a (by omega)).trans (hO a ha)
      refine v_iincN C dX4_settleVariations_24 (by decide) rfl ?_
      refine v_goto (tgt := 2) C dX4_settleVariations_27 (by decide) ?_
      exact ih (c + 1) _ (by omega) (by omega) (hM23.to (mk_sv_st M c)) hO23
set_option maxHeartbeats 4000000 in
theorem loop_X4_settleVariations2 {G : hp_G} {K : hp_C} {n : Nat} {h0 : Nat → Option va_E} {o : Nat} {M : mk_T} (C : hp_Cx G K MX4_settleVariations) (hRm : hp_Rm K = hp_rm 4 0 0) (hl : K.2.1.stackTraces = false) (hhz : mk_hz M ≤ 4) (htr : mk_tr M ≤ 6) (hct : mk_ct M ≤ 20)  (hk : ∀ h : Nat → Option va_E, Mk G h o (mk_sp M (mk_hz M)) → (∀ a, (a < o ∨ o + 11 ≤ a) → h a = h0 a) → V G K MX4_settleVariations 0 0 (n, h) 58 [some (.ref o), some (.int (nI (mk_hz M)))] []) : ∀ (f c : Nat) (h : Nat → Option va_E), c ≤ mk_hz M → mk_hz M ≤ c + f → Mk G h o (mk_sp M c) → (∀ a, (a < o ∨ o + 11 ≤ a) → h a = h0 a) → V G K MX4_settleVariations 0 0 (n, h) 32 [some (.ref o), some (.int (nI c))] [] := by
  intro f
  induction f with
  | zero =>
    intro c h h1 h2 hM hO
    have hbase := hM.base
    have e : c = mk_hz M := by omega
    subst e
    refine v_iload_n C dX4_settleVariations_32 rfl ?_
    refine v_aload_n C dX4_settleVariations_33 rfl ?_
    refine v_get (v := .int (nI (mk_hz M))) C 0 dX4_settleVariations_34 wd1_46 hM.o rfl (by decide) ⟨rfl, rfl, rfl⟩ rfl ?_
    refine v_icmp_geN (tgt := 58) C dX4_settleVariations_37 (by decide) (by omega) (by omega) (fun c37 => ?_) (fun c37 => absurd c37 (by omega))
    exact hk _ hM hO
  | succ f ih =>
    intro c h h1 h2 hM hO
    have hbase := hM.base
    refine v_iload_n C dX4_settleVariations_32 rfl ?_
    refine v_aload_n C dX4_settleVariations_33 rfl ?_
    refine v_get (v := .int (nI (mk_hz M))) C 0 dX4_settleVariations_34 wd1_46 hM.o rfl (by decide) ⟨rfl, rfl, rfl⟩ rfl ?_
    refine v_icmp_geN (tgt := 58) C dX4_settleVariations_37 (by decide) (by omega) (by omega) (fun c37 => ?_) (fun c37 => ?_)
    · have e : c = mk_hz M := by omega
      subst e
      exact hk _ hM hO
    · refine v_aload_n C dX4_settleVariations_40 rfl ?_
      refine v_get C 1 dX4_settleVariations_41 wd1_49 hM.o rfl (by decide) ⟨rfl, rfl, rfl⟩ rfl ?_
      refine v_iload_n C dX4_settleVariations_44 rfl ?_
      refine v_aload_n C dX4_settleVariations_45 rfl ?_
      refine v_get C 2 dX4_settleVariations_46 wd1_51 hM.o rfl (by decide) ⟨rfl, rfl, rfl⟩ rfl ?_
      refine v_iload_n C dX4_settleVariations_49 rfl ?_
      refine v_ialdN C dX4_settleVariations_50 hM.a1 (by omega) (by decide) ?_
      refine v_iastN C dX4_settleVariations_51 (by omega) hM.a0 (by omega) (by decide) (fun h51 e51 g51 => ?_)
      have hM51 := hM.st (k := 0) (by decide) rfl e51 g51
      have hO51 : ∀ a, (a < o ∨ o + 11 ≤ a) → h51 a = h0 a := fun a ha => (g51 a (by omega)).trans (hO a ha)
      refine v_iincN C dX4_settleVariations_52 (by decide) rfl ?_
      refine v_goto (tgt := 32) C dX4_settleVariations_55 (by decide) ?_
      exact ih (c + 1) _ (by omega) (by omega) (hM51.to (mk_sp_st M c)) hO51
set_option maxHeartbeats 4000000 in
/-- the variations are settled -/
theorem c_X4_settleVariations {G : hp_G} {l : Launch} (hl : l.stackTraces = false) {n : Nat} {h0 : Nat → Option va_E} {o : Nat} {M : mk_T} (hM : Mk G h0 o M) : Ct G l yX4_settleVariations cX4_settleVariations 2 none 4 0 0 [.ref o] (n, h0) (hp_vq (mk_Q G n h0 o (mk_settle M))) := by
  have hhz := hM.hz
  have htr := hM.tr
  have hct := hM.ct
  have hbase := hM.base
  have hO : ∀ a, (a < o ∨ o + 11 ≤ a) → h0 a = h0 a := fun _ _ => rfl
  refine Ct.of rfl hl (by simp [Value.category]) (Nat.le_of_ble_eq_true rfl) (fun K C E hRm hKl => ?_)
  subst hKl
  refine v_iconst (v := nI 0) C dX4_settleVariations_0 (by decide) ?_
  refine v_istore_n C dX4_settleVariations_1 (by decide) ?_
  refine loop_X4_settleVariations1 C hRm hl hhz htr hct (fun h1 hM1 hO1 => ?_) (mk_tr M) 0 h0 (Nat.zero_le _) (by omega) (hM.to (mk_wa_id (fun i => if_neg (Nat.not_lt_zero i)))) hO
  clear hM hO
  refine v_iconst (v := nI 0) C dX4_settleVariations_30 (by decide) ?_
  refine v_istore_n C dX4_settleVariations_31 (by decide) ?_
  refine loop_X4_settleVariations2 (M := mk_sv M (mk_tr M)) C hRm hl hhz htr hct (fun h2 hM2 hO2 => ?_) (mk_hz M) 0 h1 (Nat.zero_le _) (Nat.le_of_eq (Nat.zero_add _).symm) (hM1.to (mk_wa_id (fun i => if_neg (Nat.not_lt_zero i)))) hO1
  exact v_vret C E dX4_settleVariations_58 rfl ⟨rfl, rfl, hM2, hO2⟩
theorem mk_ext {M M' : mk_T} (h1 : M.1 = M'.1) (h2 : ∀ k i, mk_ar M k i = mk_ar M' k i) (h3 : M.2.2 = M'.2.2) : M = M' := by
  obtain ⟨a, b, c⟩ := M
  obtain ⟨a', b', c'⟩ := M'
  have e : b = b' := funext fun k => funext fun i => h2 k i
  have e1 : a = a' := h1
  have e3 : c = c' := h3
  subst e; subst e1; subst e3
  rfl
theorem mk_st_ar (M : mk_T) (k i : Nat) (x : Int32) (k' i' : Nat) : mk_ar (mk_st M k i x) k' i' = if k' = k ∧ i' = i then x else mk_ar M k' i' := by
  show (if k' = k then upd (M.2.1 k) i x else M.2.1 k') i' = _
  by_cases q : k' = k
  · subst q
    rw [if_pos rfl]
    by_cases q2 : i' = i
    · subst q2
      rw [if_pos ⟨rfl, rfl⟩]
      exact pk_us
    · rw [if_neg (fun z => q2 z.2)]
      exact pk_un q2
  · rw [if_neg q, if_neg (fun z => q z.1)]
abbrev mk_sh (M : mk_T) (lo p : Nat) : mk_T := (M.1, fun k i => if 5 ≤ k ∧ k < 10 ∧ lo ≤ i ∧ i < p then mk_ar M k (i + 1) else mk_ar M k i, M.2.2)
theorem mk_sh_ar (M : mk_T) (lo p k i : Nat) : mk_ar (mk_sh M lo p) k i = if 5 ≤ k ∧ k < 10 ∧ lo ≤ i ∧ i < p then mk_ar M k (i + 1) else mk_ar M k i := rfl
theorem mk_sh_id (M : mk_T) (lo : Nat) : M = mk_sh M lo lo := by
  refine mk_ext rfl (fun k i => ?_) rfl
  rw [mk_sh_ar, if_neg (by omega)]
theorem mk_sh_up (M : mk_T) {lo p k : Nat} : mk_ar (mk_sh M lo p) k (p + 1) = mk_ar M k (p + 1) := by
  rw [mk_sh_ar, if_neg (by omega)]
theorem mk_sh_st {M : mk_T} {lo p : Nat} (hlo : lo ≤ p) {x5 x6 x7 x8 x9 : Int32} (h5 : x5 = mk_ar M 5 (p + 1)) (h6 : x6 = mk_ar M 6 (p + 1)) (h7 : x7 = mk_ar M 7 (p + 1)) (h8 : x8 = mk_ar M 8 (p + 1)) (h9 : x9 = mk_ar M 9 (p + 1)) : mk_st (mk_st (mk_st (mk_st (mk_st (mk_sh M lo p) 5 p x5) 6 p x6) 7 p x7) 8 p x8) 9 p x9 = mk_sh M lo (p + 1) := by
  refine mk_ext rfl (fun k i => ?_) rfl
  rw [mk_st_ar, mk_st_ar, mk_st_ar, mk_st_ar, mk_st_ar, mk_sh_ar, mk_sh_ar]
  by_cases q : i = p
  · subst q
    by_cases q5 : k = 5
    · subst q5; simp [h5, hlo]
    · by_cases q6 : k = 6
      · subst q6; simp [h6, hlo]
      · by_cases q7 : k = 7
        · subst q7; simp [h7, hlo]
        · by_cases q8 : k = 8
          · subst q8; simp [h8, hlo]
          · by_cases q9 : k = 9
            · subst q9; simp [h9, hlo]
            · have z : ¬ (5 ≤ k ∧ k < 10 ∧ lo ≤ i ∧ i < i + 1) := by omega
              have z2 : ¬ (5 ≤ k ∧ k < 10 ∧ lo ≤ i ∧ i < i) := by omega
              rw [if_neg (fun z => q9 z.1), if_neg (fun z => q8 z.1), if_neg (fun z => q7 z.1), if_neg (fun z => q6 z.1), if_neg (fun z => q5 z.1), if_neg z, if_neg z2]
  · have z : (5 ≤ k ∧ k < 10 ∧ lo ≤ i ∧ i < p + 1) ↔ (5 ≤ k ∧ k < 10 ∧ lo ≤ i ∧ i < p) := by omega
    rw [if_neg (fun z => q z.2), if_neg (fun z => q z.2), if_neg (fun z => q z.2), if_neg (fun z => q z.2), if_neg (fun z => q z.2)]
    by_cases y : 5 ≤ k ∧ k < 10 ∧ lo ≤ i ∧ i < p
    · rw [if_pos y, if_pos (z.mpr y)]
    · rw [if_neg y, if_neg (fun a => y (z.mp a))]
abbrev mk_rm (M : mk_T) (c : Nat) : mk_T := mk_pct (mk_sh M c (mk_ct M - 1)) (mk_ct M - 1)
set_option maxHeartbeats 8000000 in
theorem loop_X4_removeContract {G : hp_G} {K : hp_C} {n : Nat} {h0 : Nat → Option va_E} {o : Nat} {M : mk_T} (C : hp_Cx G K MX4_removeContract) (hRm : hp_Rm K = hp_rm 0 0 0) (hct : mk_ct M ≤ 20) (c : Nat) (hk : ∀ h : Nat → Option va_E, Mk G h o (mk_sh M c (mk_ct M - 1)) → (∀ a, (a < o ∨ o + 11 ≤ a) → h a = h0 a) → V G K MX4_removeContract 0 0 (n, h) 88 [some (.ref o), some (.int (nI c)), some (.int (nI (mk_ct M - 1)))] []) : ∀ (f p : Nat) (h : Nat → Option va_E), c ≤ p → p < mk_ct M → mk_ct M ≤ p + 1 + f → Mk G h o (mk_sh M c p) → (∀ a, (a < o ∨ o + 11 ≤ a) → h a = h0 a) → V G K MX4_removeContract 0 0 (n, h) 2 [some (.ref o), some (.int (nI c)), some (.int (nI p))] [] := by
  intro f
  induction f with
  | zero =>
    intro p h h0c h1 h2 hM hO
    have hbase := hM.base
    have e : p = mk_ct M - 1 := by omega
    subst e
    refine v_iload_n C dX4_removeContract_2 rfl ?_
    refine v_iconst (v := nI 1) C dX4_removeContract_3 (by decide) ?_
    refine v_iaddN C dX4_removeContract_4 ?_
    refine v_aload_n C dX4_removeContract_5 rfl ?_
    refine v_get (v := .int (nI (mk_ct M))) C 7 dX4_removeContract_6 wd1_65 hM.o rfl (by decide) ⟨rfl, rfl, rfl⟩ rfl ?_
    refine v_icmp_geN (tgt := 88) C dX4_removeContract_9 (by decide) (by omega) (by omega) (fun c9 => ?_) (fun c9 => absurd c9 (by omega))
    exact hk _ hM hO
  | succ f ih =>
    intro p h h0c h1 h2 hM hO
    have hbase := hM.base
    refine v_iload_n C dX4_removeContract_2 rfl ?_
    refine v_iconst (v := nI 1) C dX4_removeContract_3 (by decide) ?_
    refine v_iaddN C dX4_removeContract_4 ?_
    refine v_aload_n C dX4_removeContract_5 rfl ?_
    refine v_get (v := .int (nI (mk_ct M))) C 7 dX4_removeContract_6 wd1_65 hM.o rfl (by decide) ⟨rfl, rfl, rfl⟩ rfl ?_
    refine v_icmp_geN (tgt := 88) C dX4_removeContract_9 (by decide) (by omega) (by omega) (fun c9 => ?_) (fun c9 => ?_)
    · have e : p = mk_ct M - 1 := by omega
      subst e
      exact hk _ hM hO
    · refine v_aload_n C dX4_removeContract_12 rfl ?_
      refine v_get C 8 dX4_removeContract_13 wd1_67 hM.o rfl (by decide) ⟨rfl, rfl, rfl⟩ rfl ?_
      refine v_iload_n C dX4_removeContract_16 rfl ?_
      refine v_aload_n C dX4_removeContract_17 rfl ?_
      refine v_get C 8 dX4_removeContract_18 wd1_67 hM.o rfl (by decide) ⟨rfl, rfl, rfl⟩ rfl ?_
      refine v_iload_n C dX4_removeContract_21 rfl ?_
      refine v_iconst (v := nI 1) C dX4_removeContract_22 (by decide) ?_
      refine v_iaddN C dX4_removeContract_23 ?_
      refine v_ialdN C dX4_removeContract_24 hM.a5 (by omega) (by decide) ?_
      refine v_iastN C dX4_removeContract_25 (by omega) hM.a5 (by omega) (by decide) (fun h25 e25 g25 => ?_)
      have hM25 := hM.st (k := 5) (by decide) rfl e25 g25
      have hO25 : ∀ a, (a < o ∨ o + 11 ≤ a) → h25 a = h0 a := fun a ha => (g25 a (by omega)).trans (hO a ha)
      refine v_aload_n C dX4_removeContract_26 rfl ?_
      refine v_get C 9 dX4_removeContract_27 wd1_69 hM25.o rfl (by decide) ⟨rfl, rfl, rfl⟩ rfl ?_
      refine v_iload_n C dX4_removeContract_30 rfl ?_
      refine v_aload_n C dX4_removeContract_31 rfl ?_
      refine v_get C 9 dX4_removeContract_32 wd1_69 hM25.o rfl (by decide) ⟨rfl, rfl, rfl⟩ rfl ?_
      refine v_iload_n C dX4_removeContract_35 rfl ?_
      refine v_iconst (v := nI 1) C dX4_removeContract_36 (by decide) ?_
      refine v_iaddN C dX4_removeContract_37 ?_
      refine v_ialdN C dX4_removeContract_38 hM25.a6 (by omega) (by decide) ?_
      refine v_iastN C dX4_removeContract_39 (by omega) hM25.a6 (by omega) (by decide) (fun h39 e39 g39 => ?_)
      have hM39 := hM25.st (k := 6) (by decide) rfl e39 g39
      have hO39 : ∀ a, (a < o ∨ o + 11 ≤ a) → h39 a = h0 a := fun a ha => (g39 a (by omega)).trans (hO25 a ha)
      refine v_aload_n C dX4_removeContract_40 rfl ?_
      refine v_get C 10 dX4_removeContract_41 wd1_71 hM39.o rfl (by decide) ⟨rfl, rfl, rfl⟩ rfl ?_
      refine v_iload_n C dX4_removeContract_44 rfl ?_
      refine v_aload_n C dX4_removeContract_45 rfl ?_
      refine v_get C 10 dX4_removeContract_46 wd1_71 hM39.o rfl (by decide) ⟨rfl, rfl, rfl⟩ rfl ?_
      refine v_iload_n C dX4_removeContract_49 rfl ?_
      refine v_iconst (v := nI 1) C dX4_removeContract_50 (by decide) ?_
      refine v_iaddN C dX4_removeContract_51 ?_
      refine v_ialdN C dX4_removeContract_52 hM39.a7 (by omega) (by decide) ?_
      refine v_iastN C dX4_removeContract_53 (by omega) hM39.a7 (by omega) (by decide) (fun h53 e53 g53 => ?_)
      have hM53 := hM39.st (k := 7) (by decide) rfl e53 g53
      have hO53 : ∀ a, (a < o ∨ o + 11 ≤ a) → h53 a = h0 a := fun a ha => (g53 a (by omega)).trans (hO39 a ha)
      refine v_aload_n C dX4_removeContract_54 rfl ?_
      refine v_get C 11 dX4_removeContract_55 wd1_73 hM53.o rfl (by decide) ⟨rfl, rfl, rfl⟩ rfl ?_
      refine v_iload_n C dX4_removeContract_58 rfl ?_
      refine v_aload_n C dX4_removeContract_59 rfl ?_
      refine v_get C 11 dX4_removeContract_60 wd1_73 hM53.o rfl (by decide) ⟨rfl, rfl, rfl⟩ rfl ?_
      refine v_iload_n C dX4_removeContract_63 rfl ?_
      refine v_iconst (v := nI 1) C dX4_removeContract_64 (by decide) ?_
      refine v_iaddN C dX4_removeContract_65 ?_
      refine v_ialdN C dX4_removeContract_66 hM53.a8 (by omega) (by decide) ?_
      refine v_iastN C dX4_removeContract_67 (by omega) hM53.a8 (by omega) (by decide) (fun h67 e67 g67 => ?_)
      have hM67 := hM53.st (k := 8) (by decide) rfl e67 g67
      have hO67 : ∀ a, (a < o ∨ o + 11 ≤ a) → h67 a = h0 a := fun a ha => (g67 a (by omega)).trans (hO53 a ha)
      refine v_aload_n C dX4_removeContract_68 rfl ?_
      refine v_get C 12 dX4_removeContract_69 wd1_75 hM67.o rfl (by decide) ⟨rfl, rfl, rfl⟩ rfl ?_
      refine v_iload_n C dX4_removeContract_72 rfl ?_
      refine v_aload_n C dX4_removeContract_73 rfl ?_
      refine v_get C 12 dX4_removeContract_74 wd1_75 hM67.o rfl (by decide) ⟨rfl, rfl, rfl⟩ rfl ?_
      refine v_iload_n C dX4_removeContract_77 rfl ?_
      refine v_iconst (v := nI 1) C dX4_removeContract_78 (by decide) ?_
      refine v_iaddN C dX4_removeContract_79 ?_
      refine v_ialdN C dX4_removeContract_80 hM67.a9 (by omega) (by decide) ?_
      refine v_iastN C dX4_removeContract_81 (by omega) hM67.a9 (by omega) (by decide) (fun h81 e81 g81 => ?_)
      have hM81 := hM67.st (k := 9) (by decide) rfl e81 g81
      have hO81 : ∀ a, (a < o ∨ o + 11 ≤ a) → h81 a = h0 a := fun a ha => (g81 a (by omega)).trans (hO67 a ha)
      refine v_iincN C dX4_removeContract_82 (by decide) rfl ?_
      refine v_goto (tgt := 2) C dX4_removeContract_85 (by decide) ?_
      exact ih (p + 1) _ (by omega) (by omega) (by omega) (hM81.to (mk_sh_st (by omega) (mk_sh_up M) (mk_sh_up M) (mk_sh_up M) (mk_sh_up M) (mk_sh_up M))) hO81
set_option maxHeartbeats 4000000 in
/-- a contract ends -/
theorem c_X4_removeContract {G : hp_G} {l : Launch} (hl : l.stackTraces = false) {n : Nat} {h0 : Nat → Option va_E} {o : Nat} {M : mk_T} (hM : Mk G h0 o M) {c : Nat} (hc : c < mk_ct M) : Ct G l yX4_removeContract cX4_removeContract 3 none 0 0 0 [.ref o, .int (nI c)] (n, h0) (hp_vq (mk_Q G n h0 o (mk_rm M c))) := by
  have hhz := hM.hz
  have htr := hM.tr
  have hct := hM.ct
  have hbase := hM.base
  have hO : ∀ a, (a < o ∨ o + 11 ≤ a) → h0 a = h0 a := fun _ _ => rfl
  refine Ct.of rfl hl (by simp [Value.category]) (Nat.le_of_ble_eq_true rfl) (fun K C E hRm hKl => ?_)
  subst hKl
  refine v_iload_n C dX4_removeContract_0 rfl ?_
  refine v_istore_n C dX4_removeContract_1 (by decide) ?_
  refine loop_X4_removeContract C hRm hct c (fun h1 hM1 hO1 => ?_) (mk_ct M) c h0 (Nat.le_refl _) hc (by omega) (hM.to (mk_sh_id M c)) hO
  refine v_aload_n C dX4_removeContract_88 rfl ?_
  refine v_dup C dX4_removeContract_89 rfl ?_
  refine v_get (v := .int (nI (mk_ct M))) C 7 dX4_removeContract_90 wd1_65 hM1.o rfl (by decide) ⟨rfl, rfl, rfl⟩ rfl ?_
  refine v_iconst (v := nI 1) C dX4_removeContract_93 (by decide) ?_
  refine v_isubN C dX4_removeContract_94 (by omega) ?_
  refine v_put C 7 dX4_removeContract_95 wd1_65 hbase hM1.o rfl (by decide) ⟨rfl, rfl, rfl, rfl⟩ rfl rfl rfl (Nat.le_of_ble_eq_true rfl) (fun h95 e95 g95 => ?_)
  have hM95 := hM1.pct e95 g95 (by omega)
  have hO95 : ∀ a, (a < o ∨ o + 11 ≤ a) → h95 a = h0 a := fun a ha => (g95 a (by omega)).trans (hO1 a ha)
  exact v_vret C E dX4_removeContract_98 rfl ⟨rfl, rfl, hM95, hO95⟩

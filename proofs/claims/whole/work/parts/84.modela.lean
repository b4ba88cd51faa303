/-! ===== THE MODEL: a contract ends ===== -/
def en_g (g : Nat → Int32) (lo hi v : Nat) : Nat → Int32 := fun i => if i = 2 then nI v else if lo ≤ i ∧ i < hi then g (i + 5) else g i
theorem en_g2 (g : Nat → Int32) (lo hi v : Nat) : en_g g lo hi v 2 = nI v := if_pos rfl
theorem en_g0 {g : Nat → Int32} {lo v : Nat} : upd g 2 (nI v) = en_g g lo lo v := by
  refine funext fun i => ?_
  show _ = (if i = 2 then _ else if lo ≤ i ∧ i < lo then _ else _)
  by_cases q : i = 2
  · rw [q, pk_us, if_pos rfl]
  · rw [pk_un q, if_neg q, if_neg (by omega)]
theorem en_gs {g : Nat → Int32} {lo k v : Nat} (h3 : 3 ≤ lo) (hk : lo ≤ k) : upd (en_g g lo k v) k (en_g g lo k v (k + 5)) = en_g g lo (k + 1) v := by
  refine funext fun i => ?_
  by_cases q : i = k
  · rw [q, pk_us]
    show (if k + 5 = 2 then _ else if lo ≤ k + 5 ∧ k + 5 < k then _ else _) = (if k = 2 then _ else if lo ≤ k ∧ k < k + 1 then _ else _)
    rw [if_neg (by omega), if_neg (by omega), if_neg (by omega), if_pos ⟨hk, by omega⟩]
  · rw [pk_un q]
    show (if i = 2 then _ else if lo ≤ i ∧ i < k then _ else _) = (if i = 2 then _ else if lo ≤ i ∧ i < k + 1 then _ else _)
    by_cases z : i = 2
    · rw [if_pos z, if_pos z]
    · rw [if_neg z, if_neg z]
      by_cases y : lo ≤ i ∧ i < k
      · rw [if_pos y, if_pos ⟨y.1, by omega⟩]
      · rw [if_neg y, if_neg (by omega)]
/-- n zeros from b on -/
def zr_g (g : Nat → Int32) (b n : Nat) : Nat → Int32 := fun i => if b ≤ i ∧ i < b + n then nI 0 else g i
theorem zr_g0 (g : Nat → Int32) (b : Nat) : zr_g g b 0 = g := funext fun i => if_neg (by omega)
theorem zr_gs (g : Nat → Int32) (b n : Nat) : upd (zr_g g b n) (b + n) (nI 0) = zr_g g b (n + 1) := by
  refine funext fun i => ?_
  by_cases q : i = b + n
  · rw [q, pk_us]
    exact (if_pos ⟨by omega, by omega⟩).symm
  · rw [pk_un q]
    show (if b ≤ i ∧ i < b + n then _ else _) = (if b ≤ i ∧ i < b + (n + 1) then _ else _)
    by_cases y : b ≤ i ∧ i < b + n
    · rw [if_pos y, if_pos ⟨y.1, by omega⟩]
    · rw [if_neg y, if_neg (by omega)]
theorem Gr.rm {g : Nat → Int32} {M : mk_T} (H : Gr g M) {c : Nat} (hc : c < mk_ct M) : Gr (zr_g (en_g g (36 + 5 * c) (36 + 5 * (mk_ct M - 1)) (mk_ct M - 1)) (36 + 5 * (mk_ct M - 1)) 5) (mk_rm M c) := by
  obtain ⟨⟨a0, a1, a2, a3, a4, a5, a6, a7⟩, b, cc, d, e1, e2, e3⟩ := H
  have un : ∀ i, i ≠ 2 → (i < 36 + 5 * c ∨ 136 ≤ i) → zr_g (en_g g (36 + 5 * c) (36 + 5 * (mk_ct M - 1)) (mk_ct M - 1)) (36 + 5 * (mk_ct M - 1)) 5 i = g i := fun i h2 hi => by
    show (if _ ∧ _ then _ else (if _ then _ else if _ ∧ _ then _ else _)) = _
    rw [if_neg (by omega), if_neg h2, if_neg (by omega)]
  have g2 : zr_g (en_g g (36 + 5 * c) (36 + 5 * (mk_ct M - 1)) (mk_ct M - 1)) (36 + 5 * (mk_ct M - 1)) 5 2 = nI (mk_ct M - 1) := by
    show (if _ ∧ _ then _ else _) = _
    rw [if_neg (by omega)]
    exact en_g2 _ _ _ _
  have ak : ∀ k i, (k < 5 ∨ i < c) → mk_ar (mk_rm M c) k i = mk_ar M k i := fun k i h => if_neg (by omega)
  refine ⟨⟨(un _ (by omega) (by omega)).trans a0, (un _ (by omega) (by omega)).trans a1, g2, (un _ (by omega) (by omega)).trans a3, (un _ (by omega) (by omega)).trans a4, (un _ (by omega) (by omega)).trans a5, (by rw [un _ (by omega) (by omega)]; exact a6), (by rw [un _ (by omega) (by omega)]; exact a7)⟩, fun i (hi : i < mk_hz M) k hk => ?_, fun s (hs : s < mk_tr M) => ?_, fun c2 (hc2 : c2 < mk_ct M - 1) k hk => ?_, e1, e2, (by show mk_ct M - 1 ≤ 20; omega)⟩
  · rw [un _ (by omega) (by omega), ak k i (Or.inl (by omega))]
    exact b i hi k hk
  · rw [un _ (by omega) (by omega), un _ (by omega) (by omega), un _ (by omega) (by omega), ak 3 s (Or.inl (by omega)), ak 4 s (Or.inl (by omega))]
    exact cc s hs
  · by_cases q : c2 < c
    · rw [un _ (by omega) (by omega), ak (5 + k) c2 (Or.inr q)]
      exact d c2 (by omega) k hk
    · have e : mk_ar (mk_rm M c) (5 + k) c2 = mk_ar M (5 + k) (c2 + 1) := if_pos ⟨by omega, by omega, by omega, by omega⟩
      rw [e]
      show (if _ ∧ _ then _ else (if _ then _ else if _ ∧ _ then _ else _)) = _
      rw [if_neg (by omega), if_neg (by omega), if_pos ⟨by omega, by omega⟩, show 36 + 5 * c2 + k + 5 = 36 + 5 * (c2 + 1) + k by omega]
      exact d (c2 + 1) (by omega) k hk
set_option maxHeartbeats 4000000 in
theorem loop1_X8_ends {G : hp_G} {K : hp_C} {n0 : Nat} {h0 : Nat → Option va_E} {y : Nat} {S : mo_T} {g : Nat → Int32} {c m : Nat} (C : hp_Cx G K MX8_ends) (hbase : G.2.1 ≤ y) (hm : m < 20) (hk : ∀ h, Mo G h y (mo_sg S (en_g g (36 + 5 * c) (36 + 5 * m) m)) → (∀ a, (a < y ∨ y + 13 ≤ a) → h a = h0 a) → V G K MX8_ends 0 0 (n0, h) 52 [some (.ref y), some (.int (nI c)), some (.int (nI (36 + 5 * m)))] []) : ∀ (e k : Nat) (h : Nat → Option va_E), k + e = 36 + 5 * m → 36 + 5 * c ≤ k → Mo G h y (mo_sg S (en_g g (36 + 5 * c) k m)) → (∀ a, (a < y ∨ y + 13 ≤ a) → h a = h0 a) → V G K MX8_ends 0 0 (n0, h) 17 [some (.ref y), some (.int (nI c)), some (.int (nI k))] [] := by
  intro e
  induction e with
  | zero =>
    intro k h hc hck H hO
    have e : k = 36 + 5 * m := by omega
    subst e
    refine v_iload_n C dX8_ends_17 rfl ?_
    refine v_bipush (v := nI 36) C dX8_ends_18 (by decide) ?_
    refine v_iconst (v := nI 5) C dX8_ends_20 (by decide) ?_
    refine v_aload_n C dX8_ends_21 rfl ?_
    refine v_get C 0 dX8_ends_22 wd6_237 H.o rfl (by decide) ⟨rfl, rfl, rfl⟩ rfl ?_
    refine v_iconst (v := nI 2) C dX8_ends_25 (by decide) ?_
    refine v_ialdN C dX8_ends_26 H.a0 (by omega) (by decide) ?_
    rw [mo_sg_0, en_g2]
    refine v_imulN C dX8_ends_27 ?_
    refine v_iaddN C dX8_ends_28 ?_
    refine v_icmp_geN (tgt := 52) C dX8_ends_29 (by decide) (by omega) (by omega) (fun c29 => ?_) (fun c29 => absurd c29 (by omega))
    exact hk _ H hO
  | succ e ih =>
    intro k h hc hck H hO
    refine v_iload_n C dX8_ends_17 rfl ?_
    refine v_bipush (v := nI 36) C dX8_ends_18 (by decide) ?_
    refine v_iconst (v := nI 5) C dX8_ends_20 (by decide) ?_
    refine v_aload_n C dX8_ends_21 rfl ?_
    refine v_get C 0 dX8_ends_22 wd6_237 H.o rfl (by decide) ⟨rfl, rfl, rfl⟩ rfl ?_
    refine v_iconst (v := nI 2) C dX8_ends_25 (by decide) ?_
    refine v_ialdN C dX8_ends_26 H.a0 (by omega) (by decide) ?_
    rw [mo_sg_0, en_g2]
    refine v_imulN C dX8_ends_27 ?_
    refine v_iaddN C dX8_ends_28 ?_
    refine v_icmp_geN (tgt := 52) C dX8_ends_29 (by decide) (by omega) (by omega) (fun c29 => absurd c29 (by omega)) (fun c29 => ?_)
    refine v_aload_n C dX8_ends_32 rfl ?_
    refine v_get C 0 dX8_ends_33 wd6_237 H.o rfl (by decide) ⟨rfl, rfl, rfl⟩ rfl ?_
    refine v_iload_n C dX8_ends_36 rfl ?_
    refine v_aload_n C dX8_ends_37 rfl ?_
    refine v_get C 0 dX8_ends_38 wd6_237 H.o rfl (by decide) ⟨rfl, rfl, rfl⟩ rfl ?_
    refine v_iload_n C dX8_ends_41 rfl ?_
    refine v_iconst (v := nI 5) C dX8_ends_42 (by decide) ?_
    refine v_iaddN C dX8_ends_43 ?_
    refine v_ialdN C dX8_ends_44 H.a0 (by omega) (by decide) ?_
    refine v_iastN C dX8_ends_45 (by omega) H.a0 (by omega) (by decide) (fun h45 e45 g45 => ?_)
    have Y45 := H.s0 e45 g45
    have W45 : ∀ a, (a < y ∨ y + 13 ≤ a) → h45 a = _ := fun a ha => (g45 a (by omega)).trans (hO a ha)
    have X45 := (Y45.to mo_sg_sa).to (congrArg (mo_sg S) (en_gs (by omega) hck))
    refine v_iincN C dX8_ends_46 (by decide) rfl ?_
    refine v_goto (tgt := 17) C dX8_ends_49 (by decide) ?_
    exact ih (k + 1) _ (by omega) (by omega) X45 W45
set_option maxHeartbeats 4000000 in
theorem loop2_X8_ends {G : hp_G} {K : hp_C} {P : hp_P} {n0 : Nat} {h0 : Nat → Option va_E} {y : Nat} {S : mo_T} {g : Nat → Int32} {c m : Nat} (C : hp_Cx G K MX8_ends) (E : hp_End G K P) (hRm : hp_Rm K = hp_rm 1 0 0) (hl : K.2.1.stackTraces = false) (hbase : G.2.1 ≤ y) (hm : m < 20) (hg2 : g 2 = nI m) (hp : ∀ h, Mo G h y (mo_sg S (zr_g g (36 + 5 * m) 5)) → (∀ a, (a < y ∨ y + 13 ≤ a) → h a = h0 a) → P (.inl none) (n0, h)) : ∀ (e k : Nat) (h : Nat → Option va_E), k + e = 5 → Mo G h y (mo_sg S (zr_g g (36 + 5 * m) k)) → (∀ a, (a < y ∨ y + 13 ≤ a) → h a = h0 a) → V G K MX8_ends 0 0 (n0, h) 54 [some (.ref y), some (.int (nI c)), some (.int (nI k))] [] := by
  intro e
  induction e with
  | zero =>
    intro k h hc H hO
    have e : k = 5 := by omega
    subst e
    refine v_iload_n C dX8_ends_54 rfl ?_
    refine v_iconst (v := nI 5) C dX8_ends_55 (by decide) ?_
    refine v_icmp_geN (tgt := 77) C dX8_ends_56 (by decide) (by omega) (by omega) (fun c56 => ?_) (fun c56 => absurd c56 (by omega))
    exact v_vret C E dX8_ends_77 rfl (hp _ H hO)
  | succ e ih =>
    intro k h hc H hO
    have z2 : zr_g g (36 + 5 * m) k 2 = nI m := (show (if _ ∧ _ then _ else _) = _ from if_neg (by omega)).trans hg2
    refine v_iload_n C dX8_ends_54 rfl ?_
    refine v_iconst (v := nI 5) C dX8_ends_55 (by decide) ?_
    refine v_icmp_geN (tgt := 77) C dX8_ends_56 (by decide) (by omega) (by omega) (fun c56 => absurd c56 (by omega)) (fun c56 => ?_)
    refine v_aload_n C dX8_ends_59 rfl ?_
    refine v_aload_n C dX8_ends_60 rfl ?_
    refine v_get C 0 dX8_ends_61 wd6_237 H.o rfl (by decide) ⟨rfl, rfl, rfl⟩ rfl ?_
    refine v_iconst (v := nI 2) C dX8_ends_64 (by decide) ?_
    refine v_ialdN C dX8_ends_65 H.a0 (by omega) (by decide) ?_
    rw [mo_sg_0, z2]
    refine v_iload_n C dX8_ends_66 rfl ?_
    refine v_iconst (v := nI 0) C dX8_ends_67 (by decide) ?_
    refine v_callVv C (c_X8_puts hl H (i := m) (k := k) (by omega) (by omega) (nI 0)) dX8_ends_68 mX8_puts rfl H.o rfl wd7_125 rfl rfl (Nat.le_of_ble_eq_true rfl) (hp_rmle hRm (by decide) (by decide)) (Nat.le_of_ble_eq_true rfl) (Nat.le_of_ble_eq_true rfl) (fun n68 h68 q68 => ?_)
    obtain ⟨k68, Y68, W68⟩ := q68
    have z68 := Eq.symm k68
    have z68 : n0 = n68 := z68
    subst z68
    have W68 : ∀ a, (a < y ∨ y + 13 ≤ a) → h68 a = _ := fun a ha => (W68 a ha).trans (hO a ha)
    have X68 := (Y68.to mo_sg_sa).to (congrArg (mo_sg S) (zr_gs g (36 + 5 * m) k))
    refine v_iincN C dX8_ends_71 (by decide) rfl ?_
    refine v_goto (tgt := 54) C dX8_ends_74 (by decide) ?_
    exact ih (k + 1) _ (by omega) X68 W68
set_option maxHeartbeats 8000000 in
/-- a contract ends -/
theorem c_X8_ends {G : hp_G} {l : Launch} (hl : l.stackTraces = false) {n0 : Nat} {h0 : Nat → Option va_E} {y : Nat} {S : mo_T} {g : Nat → Int32} (hS : Mo G h0 y (mo_sg S g)) {M : mk_T} (hg : Gr g M) {c : Nat} (hc : c < mk_ct M) : Ct G l yX8_ends cX8_ends 3 none 1 0 0 [.ref y, .int (nI c)] (n0, h0) (hp_vq (fun τ => τ.1 = n0 ∧ (∃ g1, Gr g1 (mk_rm M c) ∧ Mo G τ.2 y (mo_sg S g1)) ∧ ∀ a, (a < y ∨ y + 13 ≤ a) → τ.2 a = h0 a)) := by
  have hbase := hS.base
  have hct := hg.ct
  refine Ct.of rfl hl (by simp [Value.category]) (Nat.le_of_ble_eq_true rfl) (fun K C E hRm hKl => ?_)
  subst hKl
  refine v_aload_n C dX8_ends_0 rfl ?_
  refine v_get C 0 dX8_ends_1 wd6_237 hS.o rfl (by decide) ⟨rfl, rfl, rfl⟩ rfl ?_
  refine v_iconst (v := nI 2) C dX8_ends_4 (by decide) ?_
  refine v_dup2 C dX8_ends_5 rfl rfl ?_
  refine v_ialdN C dX8_ends_6 hS.a0 (by omega) (by decide) ?_
  rw [mo_sg_0, hg.g2]
  refine v_iconst (v := nI 1) C dX8_ends_7 (by decide) ?_
  refine v_isubN C dX8_ends_8 (by omega) ?_
  refine v_iastN C dX8_ends_9 (by omega) hS.a0 (by omega) (by decide) (fun h9 e9 g9 => ?_)
  have Y9 := hS.s0 e9 g9
  have W9 : ∀ a, (a < y ∨ y + 13 ≤ a) → h9 a = h0 a := fun a ha => g9 a (by omega)
  have X9 := (Y9.to mo_sg_sa).to (congrArg (mo_sg S) (en_g0 (lo := 36 + 5 * c)))
  refine v_bipush (v := nI 36) C dX8_ends_10 (by decide) ?_
  refine v_iconst (v := nI 5) C dX8_ends_12 (by decide) ?_
  refine v_iload_n C dX8_ends_13 rfl ?_
  refine v_imulN C dX8_ends_14 ?_
  refine v_iaddN C dX8_ends_15 ?_
  refine v_istore_n C dX8_ends_16 (by decide) ?_
  refine loop1_X8_ends (S := S) (g := g) (m := mk_ct M - 1) C hbase (by omega) (fun h9 Y9 W9 => ?_) (5 * (mk_ct M - 1) - 5 * c) _ _ (by omega) (Nat.le_refl _) X9 W9
  refine v_iconst (v := nI 0) C dX8_ends_52 (by decide) ?_
  refine v_istore_n C dX8_ends_53 (by decide) ?_
  exact loop2_X8_ends (S := S) (c := c) (m := mk_ct M - 1) C E hRm hl hbase (by omega) (en_g2 _ _ _ _) (fun h8 Y8 W8 => ⟨rfl, rfl, ⟨_, hg.rm hc, Y8⟩, W8⟩) 5 0 _ rfl (Y9.to (congrArg (mo_sg S) (zr_g0 _ _).symm)) W9

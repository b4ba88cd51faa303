/-! ===== THE SETTLEMENT: by sets, by groups ===== -/
def st_ss (v : Nat → Int32) (s c : Nat) : Int32 := match c with
  | 0 => nI 0
  | c + 1 => if ((nI s >>> (nI c &&& 31)) &&& nI 1) = 0 then st_ss v s c else st_ss v s c + v c
def st_gm (tab : Nat → Int32) (s c : Nat) : Int32 := match c with
  | 0 => nI 0
  | c + 1 => if ((nI s >>> (nI c &&& 31)) &&& nI 1) = 0 then st_gm tab s c else if st_gm tab s c < tab (s ^^^ 2 ^ c) then tab (s ^^^ 2 ^ c) else st_gm tab s c
/-- the row of the greatest numbers of groups, with the sets up to k laid -/
def st_gt (v : Nat → Int32) (cnt : Nat) (g0 : Nat → Int32) (k : Nat) : Nat → Int32 := match k with
  | 0 => upd g0 0 (nI 0)
  | k + 1 => upd (st_gt v cnt g0 k) (k + 1) (if st_ss v (k + 1) cnt = 0 then st_gm (st_gt v cnt g0 k) (k + 1) cnt + nI 1 else st_gm (st_gt v cnt g0 k) (k + 1) cnt)
theorem hp_p6 {k : Nat} (h : k ≤ 6) : 2 ^ k ≤ 64 := Nat.pow_le_pow_right (by decide) h
theorem hp_p1 (k : Nat) : 1 ≤ 2 ^ k := Nat.one_le_two_pow
theorem hp_xor (a b : Nat) : nI a ^^^ nI b = nI (a ^^^ b) := by
  apply Int32.toBitVec_inj.mp
  show BitVec.ofNat 32 a ^^^ BitVec.ofNat 32 b = BitVec.ofNat 32 (a ^^^ b)
  exact (BitVec.ofNat_xor ..).symm
theorem hp_xorlt {s c k : Nat} (hs : s < 2 ^ k) (hc : c < k) : s ^^^ 2 ^ c < 2 ^ k := Nat.xor_lt_two_pow hs (Nat.pow_lt_pow_right (by decide) hc)
set_option maxHeartbeats 4000000 in
theorem loop_X5_leastOverSets1 {G : hp_G} {K : hp_C} {n : Nat} {h : Nat → Option va_E} {q : Nat} {v gi su : Nat → Int32} {cnt mg : Nat} (C : hp_Cx G K MX5_leastOverSets) (hRm : hp_Rm K = hp_rm 1 0 0) (hS : St G h q v cnt gi su mg) {s : Nat} (hs : s < 2 ^ cnt) (hk : V G K MX5_leastOverSets 0 0 (n, h) 76 [some (.ref q), some (.int (nI s)), some (.int (st_ss v s cnt)), some (.int (st_gm gi s cnt)), some (.int (nI cnt))] []) : ∀ (f c : Nat) (x y : Int32), c ≤ cnt → cnt ≤ c + f → x = st_ss v s c → y = st_gm gi s c → V G K MX5_leastOverSets 0 0 (n, h) 26 [some (.ref q), some (.int (nI s)), some (.int x), some (.int y), some (.int (nI c))] [] := by
  have hbc := hS.bc
  have p6 := hp_p6 hbc
  intro f
  induction f with
  | zero =>
    intro c x y h1 h2 ex ey
    have e : c = cnt := by omega
    subst e
    subst ex
    subst ey
    refine v_iload C dX5_leastOverSets_26 rfl ?_
    refine v_aload_n C dX5_leastOverSets_28 rfl ?_
    refine v_get C 1 dX5_leastOverSets_29 wd1_152 hS.o rfl (by decide) ⟨rfl, rfl, rfl⟩ rfl ?_
    refine v_icmp_geN (tgt := 76) C dX5_leastOverSets_32 (by decide) (by omega) (by omega) (fun c32 => ?_) (fun c32 => absurd c32 (by omega))
    exact hk
  | succ f ih =>
    intro c x y h1 h2 ex ey
    refine v_iload C dX5_leastOverSets_26 rfl ?_
    refine v_aload_n C dX5_leastOverSets_28 rfl ?_
    refine v_get C 1 dX5_leastOverSets_29 wd1_152 hS.o rfl (by decide) ⟨rfl, rfl, rfl⟩ rfl ?_
    refine v_icmp_geN (tgt := 76) C dX5_leastOverSets_32 (by decide) (by omega) (by omega) (fun c32 => ?_) (fun c32 => ?_)
    · have e : c = cnt := by omega
      subst e
      subst ex
      subst ey
      exact hk
    · have xl := hp_xorlt hs c32
      refine v_iload_n C dX5_leastOverSets_35 rfl ?_
      refine v_iload C dX5_leastOverSets_36 rfl ?_
      refine v_ishr C dX5_leastOverSets_38 ?_
      refine v_iconst (v := nI 1) C dX5_leastOverSets_39 (by decide) ?_
      refine v_iand C dX5_leastOverSets_40 ?_
      refine v_if_eq (tgt := 70) C dX5_leastOverSets_41 (by decide) (fun c41 => ?_) (fun c41 => ?_)
      · refine v_iincN C dX5_leastOverSets_70 (by decide) rfl ?_
        refine v_goto (tgt := 26) C dX5_leastOverSets_73 (by decide) ?_
        exact ih (c + 1) _ _ (by omega) (by omega) (by rw [ex]; simp only [st_ss]; first | rw [if_pos c41] | rw [if_neg c41]) (by rw [ey]; simp only [st_gm]; first | rw [if_pos c41] | rw [if_neg c41])
      · refine v_iload_n C dX5_leastOverSets_44 rfl ?_
        refine v_aload_n C dX5_leastOverSets_45 rfl ?_
        refine v_get C 0 dX5_leastOverSets_46 wd1_151 hS.o rfl (by decide) ⟨rfl, rfl, rfl⟩ rfl ?_
        refine v_iload C dX5_leastOverSets_49 rfl ?_
        refine v_ialdN C dX5_leastOverSets_51 hS.a_v (by omega) (by decide) ?_
        refine v_iadd C dX5_leastOverSets_52 ?_
        refine v_istore_n C dX5_leastOverSets_53 (by decide) ?_
        refine v_iload_n C dX5_leastOverSets_54 rfl ?_
        refine v_aload_n C dX5_leastOverSets_55 rfl ?_
        refine v_get C 2 dX5_leastOverSets_56 wd1_153 hS.o rfl (by decide) ⟨rfl, rfl, rfl⟩ rfl ?_
        refine v_iload_n C dX5_leastOverSets_59 rfl ?_
        refine v_iconst (v := nI 1) C dX5_leastOverSets_60 (by decide) ?_
        refine v_iload C dX5_leastOverSets_61 rfl ?_
        refine v_ishl C dX5_leastOverSets_63 ?_
        rw [hp_sh1 _ (by omega)]
        refine v_ixor C dX5_leastOverSets_64 ?_
        rw [hp_xor]
        refine v_ialdN C dX5_leastOverSets_65 hS.a_gi (by omega) (by decide) ?_
        refine v_mmax C dX5_leastOverSets_66 wd3_154 (Nat.le_of_ble_eq_true rfl) (hp_rmm hRm) ?_
        refine v_istore_n C dX5_leastOverSets_69 (by decide) ?_
        refine v_iincN C dX5_leastOverSets_70 (by decide) rfl ?_
        refine v_goto (tgt := 26) C dX5_leastOverSets_73 (by decide) ?_
        exact ih (c + 1) _ _ (by omega) (by omega) (by rw [ex]; simp only [st_ss]; first | rw [if_pos c41] | rw [if_neg c41]) (by rw [ey]; simp only [st_gm]; first | rw [if_pos c41] | rw [if_neg c41])
set_option maxHeartbeats 4000000 in
theorem loop_X5_leastOverSets2 {G : hp_G} {K : hp_C} {n : Nat} {h0 : Nat → Option va_E} {q : Nat} {v g0 su : Nat → Int32} {cnt mg : Nat} (C : hp_Cx G K MX5_leastOverSets) (hRm : hp_Rm K = hp_rm 1 0 0) (hbc : cnt ≤ 6) (hk : ∀ h : Nat → Option va_E, St G h q v cnt (st_gt v cnt g0 (2 ^ cnt - 1)) su mg → (∀ a, (a < q ∨ q + 4 ≤ a) → h a = h0 a) → V G K MX5_leastOverSets 0 0 (n, h) 99 [some (.ref q), some (.int (nI (2 ^ cnt))), none, none, none] []) : ∀ (f c : Nat) (h : Nat → Option va_E), c < 2 ^ cnt → 2 ^ cnt ≤ c + 1 + f → St G h q v cnt (st_gt v cnt g0 c) su mg → (∀ a, (a < q ∨ q + 4 ≤ a) → h a = h0 a) → V G K MX5_leastOverSets 0 0 (n, h) 9 [some (.ref q), some (.int (nI (c + 1))), none, none, none] [] := by
  have p6 := hp_p6 hbc
  have p1 := hp_p1 cnt
  intro f
  induction f with
  | zero =>
    intro c h h1 h2 hS hO
    have e : c = 2 ^ cnt - 1 := by omega
    have e2 : c + 1 = 2 ^ cnt := by omega
    rw [e2]
    subst e
    refine v_iload_n C dX5_leastOverSets_9 rfl ?_
    refine v_iconst (v := nI 1) C dX5_leastOverSets_10 (by decide) ?_
    refine v_aload_n C dX5_leastOverSets_11 rfl ?_
    refine v_get C 1 dX5_leastOverSets_12 wd1_152 hS.o rfl (by decide) ⟨rfl, rfl, rfl⟩ rfl ?_
    refine v_ishl C dX5_leastOverSets_15 ?_
    rw [hp_sh1 _ (by omega)]
    refine v_icmp_geN (tgt := 99) C dX5_leastOverSets_16 (by decide) (by omega) (by omega) (fun c16 => ?_) (fun c16 => absurd c16 (by omega))
    exact hk _ hS hO
  | succ f ih =>
    intro c h h1 h2 hS hO
    have hbase := hS.base
    refine v_iload_n C dX5_leastOverSets_9 rfl ?_
    refine v_iconst (v := nI 1) C dX5_leastOverSets_10 (by decide) ?_
    refine v_aload_n C dX5_leastOverSets_11 rfl ?_
    refine v_get C 1 dX5_leastOverSets_12 wd1_152 hS.o rfl (by decide) ⟨rfl, rfl, rfl⟩ rfl ?_
    refine v_ishl C dX5_leastOverSets_15 ?_
    rw [hp_sh1 _ (by omega)]
    refine v_icmp_geN (tgt := 99) C dX5_leastOverSets_16 (by decide) (by omega) (by omega) (fun c16 => ?_) (fun c16 => ?_)
    · have e2 : c + 1 = 2 ^ cnt := by omega
      have e : c = 2 ^ cnt - 1 := by omega
      rw [e2]
      subst e
      exact hk _ hS hO
    · refine v_iconst (v := nI 0) C dX5_leastOverSets_19 (by decide) ?_
      refine v_istore_n C dX5_leastOverSets_20 (by decide) ?_
      refine v_iconst (v := nI 0) C dX5_leastOverSets_21 (by decide) ?_
      refine v_istore_n C dX5_leastOverSets_22 (by decide) ?_
      refine v_iconst (v := nI 0) C dX5_leastOverSets_23 (by decide) ?_
      refine v_istore C dX5_leastOverSets_24 (by decide) ?_
      refine loop_X5_leastOverSets1 C hRm hS (by omega) ?_ cnt 0 _ _ (Nat.zero_le _) (Nat.le_of_eq (Nat.zero_add _).symm) rfl rfl
      refine v_aload_n C dX5_leastOverSets_76 rfl ?_
      refine v_get C 2 dX5_leastOverSets_77 wd1_153 hS.o rfl (by decide) ⟨rfl, rfl, rfl⟩ rfl ?_
      refine v_iload_n C dX5_leastOverSets_80 rfl ?_
      refine v_iload_n C dX5_leastOverSets_81 rfl ?_
      refine v_if_ne (tgt := 91) C dX5_leastOverSets_82 (by decide) (fun c82 => ?_) (fun c82 => ?_)
      · refine v_iload_n C dX5_leastOverSets_91 rfl ?_
        refine v_iastN C dX5_leastOverSets_92 (by omega) hS.a_gi (by omega) (by decide) (fun h92 e92 g92 => ?_)
        have S92 := hS.s_gi e92 g92
        have hO92 : ∀ a, (a < q ∨ q + 4 ≤ a) → h92 a = h0 a := fun a ha => (g92 a (by omega)).trans (hO a ha)
        refine v_iincN C dX5_leastOverSets_93 (by decide) rfl ?_
        refine v_goto (tgt := 9) C dX5_leastOverSets_96 (by decide) ?_
        refine v_drop 2 (v_drop 3 (v_drop 4 ?_))
        exact ih (c + 1) _ (by omega) (by omega) (by show St G _ q v cnt (upd _ _ (if _ then _ else _)) su mg; first | (rw [if_pos c82]; exact S92) | (rw [if_neg c82]; exact S92)) hO92
      · refine v_iload_n C dX5_leastOverSets_85 rfl ?_
        refine v_iconst (v := nI 1) C dX5_leastOverSets_86 (by decide) ?_
        refine v_iadd C dX5_leastOverSets_87 ?_
        refine v_goto (tgt := 92) C dX5_leastOverSets_88 (by decide) ?_
        refine v_iastN C dX5_leastOverSets_92 (by omega) hS.a_gi (by omega) (by decide) (fun h92 e92 g92 => ?_)
        have S92 := hS.s_gi e92 g92
        have hO92 : ∀ a, (a < q ∨ q + 4 ≤ a) → h92 a = h0 a := fun a ha => (g92 a (by omega)).trans (hO a ha)
        refine v_iincN C dX5_leastOverSets_93 (by decide) rfl ?_
        refine v_goto (tgt := 9) C dX5_leastOverSets_96 (by decide) ?_
        refine v_drop 2 (v_drop 3 (v_drop 4 ?_))
        exact ih (c + 1) _ (by omega) (by omega) (by show St G _ q v cnt (upd _ _ (if _ then _ else _)) su mg; first | (rw [if_pos c82]; exact S92) | (rw [if_neg c82]; exact S92)) hO92
set_option maxHeartbeats 4000000 in
/-- the payments by sets -/
theorem c_X5_leastOverSets {G : hp_G} {l : Launch} (hl : l.stackTraces = false) {n : Nat} {h0 : Nat → Option va_E} {q : Nat} {v gi su : Nat → Int32} {cnt mg : Nat} (hS : St G h0 q v cnt gi su mg)  : Ct G l yX5_leastOverSets cX5_leastOverSets 5 (some .int) 1 0 0 [.ref q] (n, h0) (hp_iq (fun r0 τ => r0 = nI cnt - st_gt v cnt gi (2 ^ cnt - 1) (2 ^ cnt - 1) ∧ τ.1 = n ∧ St G τ.2 q v cnt (st_gt v cnt gi (2 ^ cnt - 1)) su mg ∧ ∀ a, (a < q ∨ q + 4 ≤ a) → τ.2 a = h0 a)) := by
  have hbase := hS.base
  have hbc := hS.bc
  have p6 := hp_p6 hbc
  have p1 := hp_p1 cnt
  have hO : ∀ a, (a < q ∨ q + 4 ≤ a) → h0 a = h0 a := fun _ _ => rfl
  refine Ct.of rfl hl (by simp [Value.category]) (Nat.le_of_ble_eq_true rfl) (fun K C E hRm hKl => ?_)
  subst hKl
  refine v_aload_n C dX5_leastOverSets_0 rfl ?_
  refine v_get C 2 dX5_leastOverSets_1 wd1_153 hS.o rfl (by decide) ⟨rfl, rfl, rfl⟩ rfl ?_
  refine v_iconst (v := nI 0) C dX5_leastOverSets_4 (by decide) ?_
  refine v_iconst (v := nI 0) C dX5_leastOverSets_5 (by decide) ?_
  refine v_iastN C dX5_leastOverSets_6 (by omega) hS.a_gi (by omega) (by decide) (fun h6 e6 g6 => ?_)
  have S6 := hS.s_gi e6 g6
  have hO6 : ∀ a, (a < q ∨ q + 4 ≤ a) → h6 a = h0 a := fun a ha => (g6 a (by omega)).trans (hO a ha)
  refine v_iconst (v := nI 1) C dX5_leastOverSets_7 (by decide) ?_
  refine v_istore_n C dX5_leastOverSets_8 (by decide) ?_
  refine loop_X5_leastOverSets2 C hRm hbc (fun h1 hS1 hO1 => ?_) (2 ^ cnt) 0 _ p1 (by omega) S6 hO6
  refine v_aload_n C dX5_leastOverSets_99 rfl ?_
  refine v_get C 1 dX5_leastOverSets_100 wd1_152 hS1.o rfl (by decide) ⟨rfl, rfl, rfl⟩ rfl ?_
  refine v_aload_n C dX5_leastOverSets_103 rfl ?_
  refine v_get C 2 dX5_leastOverSets_104 wd1_153 hS1.o rfl (by decide) ⟨rfl, rfl, rfl⟩ rfl ?_
  refine v_iconst (v := nI 1) C dX5_leastOverSets_107 (by decide) ?_
  refine v_aload_n C dX5_leastOverSets_108 rfl ?_
  refine v_get C 1 dX5_leastOverSets_109 wd1_152 hS1.o rfl (by decide) ⟨rfl, rfl, rfl⟩ rfl ?_
  refine v_ishl C dX5_leastOverSets_112 ?_
  rw [hp_sh1 _ (by omega)]
  refine v_iconst (v := nI 1) C dX5_leastOverSets_113 (by decide) ?_
  refine v_isubN C dX5_leastOverSets_114 (by omega) ?_
  refine v_ialdN C dX5_leastOverSets_115 hS1.a_gi (by omega) (by decide) ?_
  refine v_isub C dX5_leastOverSets_116 ?_
  exact v_iret C E dX5_leastOverSets_117 rfl ⟨_, rfl, rfl, rfl, hS1, hO1⟩
set_option maxHeartbeats 4000000 in
theorem loop_X5_areSettled {G : hp_G} {K : hp_C} {n : Nat} {h : Nat → Option va_E} {q : Nat} {v gi su : Nat → Int32} {cnt mg : Nat} {P : hp_P} (C : hp_Cx G K MX5_areSettled) (E : hp_End G K P) (hRm : hp_Rm K = hp_rm 0 0 0) (hS : St G h q v cnt gi su mg) {gr : Nat} (hg : gr ≤ 6) (hp : P (.inl (some (.int (hp_b (∀ i, i < gr → su i = 0))))) (n, h)) : ∀ (f c : Nat), c ≤ gr → gr ≤ c + f → (∀ i, i < c → su i = 0) → V G K MX5_areSettled 0 0 (n, h) 2 [some (.ref q), some (.int (nI gr)), some (.int (nI c))] [] := by
  intro f
  induction f with
  | zero =>
    intro c h1 h2 hz
    have e : c = gr := by omega
    subst e
    refine v_iload_n C dX5_areSettled_2 rfl ?_
    refine v_iload_n C dX5_areSettled_3 rfl ?_
    refine v_icmp_geN (tgt := 24) C dX5_areSettled_4 (by decide) (by omega) (by omega) (fun c4 => ?_) (fun c4 => absurd c4 (by omega))
    refine v_iconst (v := nI 1) C dX5_areSettled_24 (by decide) ?_
    exact v_zret C E dX5_areSettled_25 rfl rfl (by rw [hp_b_t hz] at hp; exact hp)
  | succ f ih =>
    intro c h1 h2 hz
    refine v_iload_n C dX5_areSettled_2 rfl ?_
    refine v_iload_n C dX5_areSettled_3 rfl ?_
    refine v_icmp_geN (tgt := 24) C dX5_areSettled_4 (by decide) (by omega) (by omega) (fun c4 => ?_) (fun c4 => ?_)
    · have e : c = gr := by omega
      subst e
      refine v_iconst (v := nI 1) C dX5_areSettled_24 (by decide) ?_
      exact v_zret C E dX5_areSettled_25 rfl rfl (by rw [hp_b_t hz] at hp; exact hp)
    · refine v_aload_n C dX5_areSettled_7 rfl ?_
      refine v_get C 3 dX5_areSettled_8 wd1_154 hS.o rfl (by decide) ⟨rfl, rfl, rfl⟩ rfl ?_
      refine v_iload_n C dX5_areSettled_11 rfl ?_
      refine v_ialdN C dX5_areSettled_12 hS.a_su (by omega) (by decide) ?_
      refine v_if_eq (tgt := 18) C dX5_areSettled_13 (by decide) (fun c13 => ?_) (fun c13 => ?_)
      · refine v_iincN C dX5_areSettled_18 (by decide) rfl ?_
        refine v_goto (tgt := 2) C dX5_areSettled_21 (by decide) ?_
        exact ih (c + 1) (by omega) (by omega) (fun i hi => by by_cases z : i = c; (subst z; exact c13); exact hz i (by omega))
      · refine v_iconst (v := nI 0) C dX5_areSettled_16 (by decide) ?_
        exact v_zret C E dX5_areSettled_17 rfl rfl (by rw [hp_b_f (fun z => c13 (z c (by omega)))] at hp; exact hp)
set_option maxHeartbeats 4000000 in
/-- whether all groups add up to 0 -/
theorem c_X5_areSettled {G : hp_G} {l : Launch} (hl : l.stackTraces = false) {n : Nat} {h0 : Nat → Option va_E} {q : Nat} {v gi su : Nat → Int32} {cnt mg : Nat} (hS : St G h0 q v cnt gi su mg) {gr : Nat} (hg : gr ≤ 6) : Ct G l yX5_areSettled cX5_areSettled 3 (some .boolean) 0 0 0 [.ref q, .int (nI gr)] (n, h0) (hp_ri (hp_b (∀ i, i < gr → su i = 0)) (n, h0)) := by
  have hbase := hS.base
  have hbc := hS.bc
  have p6 := hp_p6 hbc
  have p1 := hp_p1 cnt
  have hO : ∀ a, (a < q ∨ q + 4 ≤ a) → h0 a = h0 a := fun _ _ => rfl
  refine Ct.of rfl hl (by simp [Value.category]) (Nat.le_of_ble_eq_true rfl) (fun K C E hRm hKl => ?_)
  subst hKl
  refine v_iconst (v := nI 0) C dX5_areSettled_0 (by decide) ?_
  refine v_istore_n C dX5_areSettled_1 (by decide) ?_
  exact loop_X5_areSettled C E hRm hS hg ⟨rfl, rfl⟩ gr 0 (Nat.zero_le _) (Nat.le_of_eq (Nat.zero_add _).symm) (fun i hi => absurd hi (Nat.not_lt_zero i))

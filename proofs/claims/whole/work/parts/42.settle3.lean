/-! ===== THE SETTLEMENT: putIntoGroups ===== -/
def st_lp (P : Nat → Nat → Nat) (c : Nat) (m : Nat) : Nat := match c with
  | 0 => m
  | c + 1 => P c (st_lp P c m)
/-- the greatest number of groups when the last f of the numbers are still to be laid, gr groups with the sums su standing, m the greatest so far -/
def st_pg (v : Nat → Int32) (cnt f gr : Nat) (su : Nat → Int32) (m : Nat) : Nat := match f with
  | 0 => if ∀ i, i < gr → su i = 0 then (if m < gr then gr else m) else m
  | f + 1 => st_pg v cnt f (gr + 1) (upd su gr (v (cnt - (f + 1)))) (st_lp (fun c k => st_pg v cnt f gr (upd su c (su c + v (cnt - (f + 1)))) k) gr m)
theorem st_lp_congr {P P' : Nat → Nat → Nat} {c m : Nat} (h : ∀ i k, i < c → P i k = P' i k) : st_lp P c m = st_lp P' c m := by
  induction c with
  | zero => rfl
  | succ c ih =>
    show P c (st_lp P c m) = P' c (st_lp P' c m)
    rw [ih (fun i k hi => h i k (by omega)), h c _ (by omega)]
theorem st_pg_congr {v : Nat → Int32} {cnt : Nat} : ∀ (f gr : Nat) (a b : Nat → Int32) (m : Nat), (∀ i, i < gr → a i = b i) → st_pg v cnt f gr a m = st_pg v cnt f gr b m
  | 0, gr, a, b, m, h => by
    have e : (∀ i, i < gr → a i = 0) ↔ (∀ i, i < gr → b i = 0) := ⟨fun q i hi => (h i hi) ▸ q i hi, fun q i hi => (h i hi).symm ▸ q i hi⟩
    unfold st_pg
    by_cases z : ∀ i, i < gr → a i = 0
    · rw [if_pos z, if_pos (e.mp z)]
    · rw [if_neg z, if_neg (fun y => z (e.mpr y))]
  | f + 1, gr, a, b, m, h => by
    have hu : ∀ (k : Nat) (x : Int32) i, (i ≠ k → a i = b i) → upd a k x i = upd b k x i := fun k x i hi => by
      by_cases z : i = k
      · subst z
        rw [pk_us, pk_us]
      · rw [pk_un z, pk_un z, hi z]
    unfold st_pg
    rw [st_lp_congr (P' := fun c k => st_pg v cnt f gr (upd b c (b c + v (cnt - (f + 1)))) k) (fun i k hi => by
      show st_pg v cnt f gr _ k = st_pg v cnt f gr _ k
      rw [h i hi]
      exact st_pg_congr f gr _ _ k (fun j hj => hu i _ j (fun _ => h j hj)))]
    exact st_pg_congr f (gr + 1) _ _ _ (fun j hj => hu gr _ j (fun z => h j (by omega)))
theorem st_lp_le {P : Nat → Nat → Nat} {c m z : Nat} (hm : m ≤ z) (h : ∀ i k, i < c → k ≤ z → P i k ≤ z) : st_lp P c m ≤ z := by
  induction c with
  | zero => exact hm
  | succ c ih => exact h c _ (by omega) (ih (fun i k hi hk => h i k (by omega) hk))
theorem st_pg_le {v : Nat → Int32} {cnt z : Nat} : ∀ (f gr : Nat) (a : Nat → Int32) (m : Nat), m ≤ z → gr + f ≤ z → st_pg v cnt f gr a m ≤ z
  | 0, gr, a, m, h1, h2 => by
    unfold st_pg
    split
    · split <;> omega
    · exact h1
  | f + 1, gr, a, m, h1, h2 => by
    unfold st_pg
    exact st_pg_le f (gr + 1) _ _ (st_lp_le h1 (fun i k hi hk => st_pg_le f gr _ k hk (by omega))) (by omega)
theorem hp_maxN {a b : Nat} (ha : a < 2 ^ 31) (hb : b < 2 ^ 31) : (if nI a < nI b then nI b else nI a) = nI (if a < b then b else a) := by
  by_cases z : a < b
  · rw [if_pos z, if_pos (nI_lt z hb)]
  · rw [if_neg z, if_neg (nI_nlt (by omega) ha)]
def st_PQ (G : hp_G) (n : Nat) (h0 : Nat → Option va_E) (q : Nat) (v : Nat → Int32) (cnt : Nat) (gi : Nat → Int32) (gr : Nat) (su : Nat → Int32) (m : Nat) : hp_T → Prop := fun τ => τ.1 = n ∧ ∃ su1, St G τ.2 q v cnt gi su1 m ∧ (∀ i, i < gr → su1 i = su i) ∧ ∀ a, (a < q ∨ q + 4 ≤ a) → τ.2 a = h0 a
set_option maxHeartbeats 4000000 in
theorem loop_X5_putIntoGroups {G : hp_G} {K : hp_C} {n : Nat} {h0 : Nat → Option va_E} {q : Nat} {v gi su : Nat → Int32} {cnt mg f idx gr : Nat} (C : hp_Cx G K MX5_putIntoGroups) (hRm : hp_Rm K = hp_rm (f + 1 + 1) 0 0) (hl : K.2.1.stackTraces = false) (hbc : cnt ≤ 6) (hi : idx + (f + 1) = cnt) (hg : gr ≤ idx) (hm : mg ≤ 6) (ihf : ∀ (idx gr : Nat) (h0 : Nat → Option va_E) (su : Nat → Int32) (mg : Nat), idx + f = cnt → gr ≤ idx → mg ≤ 6 → St G h0 q v cnt gi su mg → Ct G K.2.1 yX5_putIntoGroups cX5_putIntoGroups 4 none (f + 1) 0 0 [.ref q, .int (nI idx), .int (nI gr)] (n, h0) (hp_vq (st_PQ G n h0 q v cnt gi gr su (st_pg v cnt f gr su mg)))) (hk : ∀ (h : Nat → Option va_E) (su1 : Nat → Int32), St G h q v cnt gi su1 (st_lp (fun c k => st_pg v cnt f gr (upd su c (su c + v idx)) k) gr mg) → (∀ i, i < gr → su1 i = su i) → (∀ a, (a < q ∨ q + 4 ≤ a) → h a = h0 a) → V G K MX5_putIntoGroups 0 0 (n, h) 80 [some (.ref q), some (.int (nI idx)), some (.int (nI gr)), some (.int (nI gr))] []) : ∀ (e c : Nat) (h : Nat → Option va_E) (su1 : Nat → Int32), c ≤ gr → gr ≤ c + e → St G h q v cnt gi su1 (st_lp (fun c k => st_pg v cnt f gr (upd su c (su c + v idx)) k) c mg) → (∀ i, i < gr → su1 i = su i) → (∀ a, (a < q ∨ q + 4 ≤ a) → h a = h0 a) → V G K MX5_putIntoGroups 0 0 (n, h) 31 [some (.ref q), some (.int (nI idx)), some (.int (nI gr)), some (.int (nI c))] [] := by
  have hml : ∀ c, c ≤ gr → st_lp (fun c k => st_pg v cnt f gr (upd su c (su c + v idx)) k) c mg ≤ 6 := fun c hc => st_lp_le hm (fun i k _ hk => st_pg_le f gr _ k hk (by omega))
  intro e
  induction e with
  | zero =>
    intro c h su1 h1 h2 hS hsu hO
    have e : c = gr := by omega
    subst e
    refine v_iload_n C dX5_putIntoGroups_31 rfl ?_
    refine v_iload_n C dX5_putIntoGroups_32 rfl ?_
    refine v_icmp_geN (tgt := 80) C dX5_putIntoGroups_33 (by decide) (by omega) (by omega) (fun c33 => ?_) (fun c33 => absurd c33 (by omega))
    exact hk _ _ hS hsu hO
  | succ e ih =>
    intro c h su1 h1 h2 hS hsu hO
    have hbase := hS.base
    refine v_iload_n C dX5_putIntoGroups_31 rfl ?_
    refine v_iload_n C dX5_putIntoGroups_32 rfl ?_
    refine v_icmp_geN (tgt := 80) C dX5_putIntoGroups_33 (by decide) (by omega) (by omega) (fun c33 => ?_) (fun c33 => ?_)
    · have e : c = gr := by omega
      subst e
      exact hk _ _ hS hsu hO
    · refine v_aload_n C dX5_putIntoGroups_36 rfl ?_
      refine v_get C 3 dX5_putIntoGroups_37 wd1_154 hS.o rfl (by decide) ⟨rfl, rfl, rfl⟩ rfl ?_
      refine v_iload_n C dX5_putIntoGroups_40 rfl ?_
      refine v_dup2 C dX5_putIntoGroups_41 rfl rfl ?_
      refine v_ialdN C dX5_putIntoGroups_42 hS.a_su (by omega) (by decide) ?_
      refine v_aload_n C dX5_putIntoGroups_43 rfl ?_
      refine v_get C 0 dX5_putIntoGroups_44 wd1_151 hS.o rfl (by decide) ⟨rfl, rfl, rfl⟩ rfl ?_
      refine v_iload_n C dX5_putIntoGroups_47 rfl ?_
      refine v_ialdN C dX5_putIntoGroups_48 hS.a_v (by omega) (by decide) ?_
      refine v_iadd C dX5_putIntoGroups_49 ?_
      refine v_iastN C dX5_putIntoGroups_50 (by omega) hS.a_su (by omega) (by decide) (fun h50 e50 g50 => ?_)
      have S50 := hS.s_su e50 g50
      have hO50 : ∀ a, (a < q ∨ q + 4 ≤ a) → h50 a = h0 a := fun a ha => (g50 a (by omega)).trans (hO a ha)
      refine v_aload_n C dX5_putIntoGroups_51 rfl ?_
      refine v_iload_n C dX5_putIntoGroups_52 rfl ?_
      refine v_iconst (v := nI 1) C dX5_putIntoGroups_53 (by decide) ?_
      refine v_iaddN C dX5_putIntoGroups_54 ?_
      refine v_iload_n C dX5_putIntoGroups_55 rfl ?_
      refine v_callVv C (ihf _ _ _ _ _ (by omega) (by omega) (hml c (by omega)) S50) dX5_putIntoGroups_56 mX5_putIntoGroups rfl S50.o rfl wd3_165 rfl rfl (Nat.le_of_ble_eq_true rfl) (hp_rmle hRm (by omega) (by decide)) (Nat.le_of_ble_eq_true rfl) (Nat.le_of_ble_eq_true rfl) (fun n56 h56 q56 => ?_)
      obtain ⟨rfl, su56, S56, w56, u56⟩ := q56
      have hO56 : ∀ a, (a < q ∨ q + 4 ≤ a) → h56 a = h0 a := fun a ha => (u56 a ha).trans (hO50 a ha)
      refine v_aload_n C dX5_putIntoGroups_59 rfl ?_
      refine v_get C 3 dX5_putIntoGroups_60 wd1_154 S56.o rfl (by decide) ⟨rfl, rfl, rfl⟩ rfl ?_
      refine v_iload_n C dX5_putIntoGroups_63 rfl ?_
      refine v_dup2 C dX5_putIntoGroups_64 rfl rfl ?_
      refine v_ialdN C dX5_putIntoGroups_65 S56.a_su (by omega) (by decide) ?_
      refine v_aload_n C dX5_putIntoGroups_66 rfl ?_
      refine v_get C 0 dX5_putIntoGroups_67 wd1_151 S56.o rfl (by decide) ⟨rfl, rfl, rfl⟩ rfl ?_
      refine v_iload_n C dX5_putIntoGroups_70 rfl ?_
      refine v_ialdN C dX5_putIntoGroups_71 S56.a_v (by omega) (by decide) ?_
      refine v_isub C dX5_putIntoGroups_72 ?_
      refine v_iastN C dX5_putIntoGroups_73 (by omega) S56.a_su (by omega) (by decide) (fun h73 e73 g73 => ?_)
      have S73 := S56.s_su e73 g73
      have hO73 : ∀ a, (a < q ∨ q + 4 ≤ a) → h73 a = h0 a := fun a ha => (g73 a (by omega)).trans (hO56 a ha)
      refine v_iincN C dX5_putIntoGroups_74 (by decide) rfl ?_
      refine v_goto (tgt := 31) C dX5_putIntoGroups_77 (by decide) ?_
      refine ih (c + 1) _ _ (by omega) (by omega) (by
        show St G _ q v cnt gi _ (st_pg v cnt f gr (upd su c (su c + v idx)) _)
        rw [← st_pg_congr f gr (upd su1 c (su1 c + v idx)) (upd su c (su c + v idx)) _ (fun i hi => by rw [hsu c (by omega)]; by_cases z : i = c; (subst z; rw [pk_us, pk_us]); rw [pk_un z, pk_un z, hsu i hi])]
        exact S73) (fun i hi => ?_) hO73
      by_cases z : i = c
      · subst z
        rw [pk_us, w56 i hi, pk_us, Int32.add_sub_cancel]
        exact hsu i hi
      · rw [pk_un z, w56 i hi, pk_un z]
        exact hsu i hi
set_option maxHeartbeats 4000000 in
/-- all ways to put the numbers from idx on into groups -/
theorem c_X5_putIntoGroups {G : hp_G} {l : Launch} (hl : l.stackTraces = false) {n : Nat} {q : Nat} {v gi : Nat → Int32} {cnt : Nat} (hbc : cnt ≤ 6) : ∀ f, ∀ (idx gr : Nat) (h0 : Nat → Option va_E) (su : Nat → Int32) (mg : Nat), idx + f = cnt → gr ≤ idx → mg ≤ 6 → St G h0 q v cnt gi su mg → Ct G l yX5_putIntoGroups cX5_putIntoGroups 4 none (f + 1) 0 0 [.ref q, .int (nI idx), .int (nI gr)] (n, h0) (hp_vq (st_PQ G n h0 q v cnt gi gr su (st_pg v cnt f gr su mg))) := by
  intro f
  induction f with
  | zero =>
    intro idx gr h0 su mg hi hg hm hS
    have hbase := hS.base
    have hO : ∀ a, (a < q ∨ q + 4 ≤ a) → h0 a = h0 a := fun _ _ => rfl
    refine Ct.of rfl hl (by simp [Value.category]) (Nat.le_of_ble_eq_true rfl) (fun K C E hRm hKl => ?_)
    subst hKl
    refine v_iload_n C dX5_putIntoGroups_0 rfl ?_
    refine v_aload_n C dX5_putIntoGroups_1 rfl ?_
    refine v_get C 1 dX5_putIntoGroups_2 wd1_152 hS.o rfl (by decide) ⟨rfl, rfl, rfl⟩ rfl ?_
    refine v_icmp_ltN (tgt := 29) C dX5_putIntoGroups_5 (by decide) (by omega) (by omega) (fun c5 => absurd c5 (by omega)) (fun c5 => ?_)
    refine v_aload_n C dX5_putIntoGroups_8 rfl ?_
    refine v_iload_n C dX5_putIntoGroups_9 rfl ?_
    refine v_callVi C (c_X5_areSettled hl hS (by omega)) dX5_putIntoGroups_10 mX5_areSettled rfl hS.o rfl wd3_169 rfl rfl (Nat.le_of_ble_eq_true rfl) (hp_rmle hRm (by decide) (by decide)) (Nat.le_of_ble_eq_true rfl) (Nat.le_of_ble_eq_true rfl) ?_
    refine v_if_eqB (tgt := 28) C dX5_putIntoGroups_13 (by decide) (fun c13 => ?_) (fun c13 => ?_)
    · exact v_vret C E dX5_putIntoGroups_28 rfl ⟨rfl, rfl, su, by show St G _ q v cnt gi su (if _ then _ else _); rw [if_neg c13]; exact hS, fun _ _ => rfl, hO⟩
    · refine v_aload_n C dX5_putIntoGroups_16 rfl ?_
      refine v_aload_n C dX5_putIntoGroups_17 rfl ?_
      refine v_get C 4 dX5_putIntoGroups_18 wd1_155 hS.o rfl (by decide) ⟨rfl, rfl, rfl⟩ rfl ?_
      refine v_iload_n C dX5_putIntoGroups_21 rfl ?_
      refine v_mmax C dX5_putIntoGroups_22 wd3_154 (Nat.le_of_ble_eq_true rfl) (hp_rmm hRm) ?_
      rw [hp_maxN (by omega) (by omega)]
      refine v_put C 4 dX5_putIntoGroups_25 wd1_155 hbase hS.o rfl (by decide) ⟨rfl, rfl, rfl, rfl⟩ rfl rfl rfl (Nat.le_of_ble_eq_true rfl) (fun h25 e25 g25 => ?_)
      have S25 := hS.p_mg e25 g25
      have hO25 : ∀ a, (a < q ∨ q + 4 ≤ a) → h25 a = h0 a := fun a ha => (g25 a (by omega)).trans (hO a ha)
      exact v_vret C E dX5_putIntoGroups_28 rfl ⟨rfl, rfl, su, by show St G _ q v cnt gi su (if _ then _ else _); rw [if_pos c13]; exact S25, fun _ _ => rfl, hO25⟩
  | succ f ihf =>
    intro idx gr h0 su mg hi hg hm hS
    have hbase := hS.base
    have hO : ∀ a, (a < q ∨ q + 4 ≤ a) → h0 a = h0 a := fun _ _ => rfl
    have ei : cnt - (f + 1) = idx := by omega
    refine Ct.of rfl hl (by simp [Value.category]) (Nat.le_of_ble_eq_true rfl) (fun K C E hRm hKl => ?_)
    subst hKl
    refine v_iload_n C dX5_putIntoGroups_0 rfl ?_
    refine v_aload_n C dX5_putIntoGroups_1 rfl ?_
    refine v_get C 1 dX5_putIntoGroups_2 wd1_152 hS.o rfl (by decide) ⟨rfl, rfl, rfl⟩ rfl ?_
    refine v_icmp_ltN (tgt := 29) C dX5_putIntoGroups_5 (by decide) (by omega) (by omega) (fun c5 => ?_) (fun c5 => absurd c5 (by omega))
    refine v_iconst (v := nI 0) C dX5_putIntoGroups_29 (by decide) ?_
    refine v_istore_n C dX5_putIntoGroups_30 (by decide) ?_
    refine loop_X5_putIntoGroups C hRm hl hbc hi hg hm ihf (fun h1 su1 hS1 hsu1 hO1 => ?_) gr 0 _ su (Nat.zero_le _) (Nat.le_of_eq (Nat.zero_add _).symm) hS (fun _ _ => rfl) hO
    have hml := st_lp_le (P := fun c k => st_pg v cnt f gr (upd su c (su c + v idx)) k) (c := gr) hm (fun i k _ hk => st_pg_le f gr _ k hk (by omega))
    refine v_aload_n C dX5_putIntoGroups_80 rfl ?_
    refine v_get C 3 dX5_putIntoGroups_81 wd1_154 hS1.o rfl (by decide) ⟨rfl, rfl, rfl⟩ rfl ?_
    refine v_iload_n C dX5_putIntoGroups_84 rfl ?_
    refine v_aload_n C dX5_putIntoGroups_85 rfl ?_
    refine v_get C 0 dX5_putIntoGroups_86 wd1_151 hS1.o rfl (by decide) ⟨rfl, rfl, rfl⟩ rfl ?_
    refine v_iload_n C dX5_putIntoGroups_89 rfl ?_
    refine v_ialdN C dX5_putIntoGroups_90 hS1.a_v (by omega) (by decide) ?_
    refine v_iastN C dX5_putIntoGroups_91 (by omega) hS1.a_su (by omega) (by decide) (fun h91 e91 g91 => ?_)
    have S91 := hS1.s_su e91 g91
    have hO91 : ∀ a, (a < q ∨ q + 4 ≤ a) → h91 a = h0 a := fun a ha => (g91 a (by omega)).trans (hO1 a ha)
    refine v_aload_n C dX5_putIntoGroups_92 rfl ?_
    refine v_iload_n C dX5_putIntoGroups_93 rfl ?_
    refine v_iconst (v := nI 1) C dX5_putIntoGroups_94 (by decide) ?_
    refine v_iaddN C dX5_putIntoGroups_95 ?_
    refine v_iload_n C dX5_putIntoGroups_96 rfl ?_
    refine v_iconst (v := nI 1) C dX5_putIntoGroups_97 (by decide) ?_
    refine v_iaddN C dX5_putIntoGroups_98 ?_
    refine v_callVv C (ihf _ _ _ _ _ (by omega) (by omega) hml S91) dX5_putIntoGroups_99 mX5_putIntoGroups rfl S91.o rfl wd3_165 rfl rfl (Nat.le_of_ble_eq_true rfl) (hp_rmle hRm (by omega) (by decide)) (Nat.le_of_ble_eq_true rfl) (Nat.le_of_ble_eq_true rfl) (fun n99 h99 q99 => ?_)
    obtain ⟨rfl, su99, S99, w99, u99⟩ := q99
    have hO99 : ∀ a, (a < q ∨ q + 4 ≤ a) → h99 a = h0 a := fun a ha => (u99 a ha).trans (hO91 a ha)
    refine v_vret C E dX5_putIntoGroups_102 rfl ⟨rfl, rfl, su99, ?_, fun i hi2 => ?_, hO99⟩
    · show St G _ q v cnt gi su99 (st_pg v cnt f (gr + 1) (upd su gr (v (cnt - (f + 1)))) (st_lp (fun c k => st_pg v cnt f gr (upd su c (su c + v (cnt - (f + 1)))) k) gr mg))
      rw [ei, ← st_pg_congr f (gr + 1) (upd su1 gr (v idx)) (upd su gr (v idx)) _ (fun i hi => by by_cases z : i = gr; (subst z; rw [pk_us, pk_us]); rw [pk_un z, pk_un z, hsu1 i (by omega)])]
      exact S99
    · rw [w99 i (by omega), pk_un (by omega), hsu1 i hi2]
set_option maxHeartbeats 4000000 in
/-- the payments by groups -/
theorem c_X5_leastOverGroups {G : hp_G} {l : Launch} (hl : l.stackTraces = false) {n : Nat} {h0 : Nat → Option va_E} {q : Nat} {v gi su : Nat → Int32} {cnt mg : Nat} (hS : St G h0 q v cnt gi su mg)  : Ct G l yX5_leastOverGroups cX5_leastOverGroups 1 (some .int) 8 0 0 [.ref q] (n, h0) (hp_iq (fun r0 τ => r0 = nI cnt - nI (st_pg v cnt cnt 0 su 0) ∧ τ.1 = n ∧ ∃ su1, St G τ.2 q v cnt gi su1 (st_pg v cnt cnt 0 su 0) ∧ ∀ a, (a < q ∨ q + 4 ≤ a) → τ.2 a = h0 a)) := by
  have hbase := hS.base
  have hbc := hS.bc
  have p6 := hp_p6 hbc
  have p1 := hp_p1 cnt
  have hO : ∀ a, (a < q ∨ q + 4 ≤ a) → h0 a = h0 a := fun _ _ => rfl
  refine Ct.of rfl hl (by simp [Value.category]) (Nat.le_of_ble_eq_true rfl) (fun K C E hRm hKl => ?_)
  subst hKl
  refine v_aload_n C dX5_leastOverGroups_0 rfl ?_
  refine v_iconst (v := nI 0) C dX5_leastOverGroups_1 (by decide) ?_
  refine v_put C 4 dX5_leastOverGroups_2 wd1_155 hbase hS.o rfl (by decide) ⟨rfl, rfl, rfl, rfl⟩ rfl rfl rfl (Nat.le_of_ble_eq_true rfl) (fun h2 e2 g2 => ?_)
  have S2 := hS.p_mg e2 g2
  have hO2 : ∀ a, (a < q ∨ q + 4 ≤ a) → h2 a = h0 a := fun a ha => (g2 a (by omega)).trans (hO a ha)
  refine v_aload_n C dX5_leastOverGroups_5 rfl ?_
  refine v_iconst (v := nI 0) C dX5_leastOverGroups_6 (by decide) ?_
  refine v_iconst (v := nI 0) C dX5_leastOverGroups_7 (by decide) ?_
  refine v_callVv C (c_X5_putIntoGroups (l := K.2.1) hl hbc cnt 0 0 _ _ _ (Nat.zero_add _) (Nat.le_refl _) (by omega) S2) dX5_leastOverGroups_8 mX5_putIntoGroups rfl S2.o rfl wd3_165 rfl rfl (Nat.le_of_ble_eq_true rfl) (hp_rmle hRm (by omega) (by decide)) (Nat.le_of_ble_eq_true rfl) (Nat.le_of_ble_eq_true rfl) (fun n8 h8 q8 => ?_)
  obtain ⟨rfl, su8, S8, w8, u8⟩ := q8
  have hO8 : ∀ a, (a < q ∨ q + 4 ≤ a) → h8 a = h0 a := fun a ha => (u8 a ha).trans (hO2 a ha)
  refine v_aload_n C dX5_leastOverGroups_11 rfl ?_
  refine v_get C 1 dX5_leastOverGroups_12 wd1_152 S8.o rfl (by decide) ⟨rfl, rfl, rfl⟩ rfl ?_
  refine v_aload_n C dX5_leastOverGroups_15 rfl ?_
  refine v_get C 4 dX5_leastOverGroups_16 wd1_155 S8.o rfl (by decide) ⟨rfl, rfl, rfl⟩ rfl ?_
  refine v_isub C dX5_leastOverGroups_19 ?_
  exact v_iret C E dX5_leastOverGroups_20 rfl ⟨_, rfl, rfl, rfl, su8, S8, hO8⟩

/-! ===== PURE: groups that add up to nothing ===== -/
/-- the sum of a set -/
def zs (v : Nat → Int) (n : Nat) (S : Nat → Bool) : Int := sI (fun i => if S i = true then v i else 0) n
def bS (S T : Nat → Bool) : Nat → Bool := fun i => S i && !T i
def b1 (S : Nat → Bool) (t : Nat) : Nat → Bool := fun i => S i && !(i == t)
def bO (S T : Nat → Bool) : Nat → Bool := fun i => S i || T i
theorem bS_e {S T : Nat → Bool} {i : Nat} : bS S T i = true ↔ S i = true ∧ ¬ T i = true := by
  unfold bS
  cases S i <;> cases T i <;> decide
theorem b1_e {S : Nat → Bool} {t i : Nat} : b1 S t i = true ↔ S i = true ∧ i ≠ t := by
  unfold b1
  by_cases q : i = t
  · subst q
    cases S i <;> simp
  · cases S i <;> simp [q]
theorem bO_e {S T : Nat → Bool} {i : Nat} : bO S T i = true ↔ S i = true ∨ T i = true := by
  unfold bO
  cases S i <;> cases T i <;> decide
/-- k groups of S, none with another's member, each without a sum -/
def Dj (v : Nat → Int) (n : Nat) (k : Nat) (S : Nat → Bool) : Prop := match k with
  | 0 => True
  | k + 1 => ∃ T, (∀ i, i < n → T i = true → S i = true) ∧ (∃ i, i < n ∧ T i = true) ∧ zs v n T = 0 ∧ Dj v n k (bS S T)
theorem Dj_m {v : Nat → Int} {n : Nat} : ∀ (k : Nat) (S S' : Nat → Bool), (∀ i, i < n → S i = true → S' i = true) → Dj v n k S → Dj v n k S'
  | 0, _, _, _, _ => trivial
  | k + 1, S, S', h, hd => by
    obtain ⟨T, h1, h2, h3, h4⟩ := hd
    exact ⟨T, fun i hi ht => h i hi (h1 i hi ht), h2, h3, Dj_m k _ _ (fun i hi hb => bS_e.mpr ⟨h i hi (bS_e.mp hb).1, (bS_e.mp hb).2⟩) h4⟩
theorem zs_c {v : Nat → Int} {n : Nat} {S T : Nat → Bool} (h : ∀ i, i < n → (S i = true ↔ T i = true)) : zs v n S = zs v n T := by
  refine sI_c n (fun i hi => ?_)
  by_cases q : S i = true
  · rw [if_pos q, if_pos ((h i hi).mp q)]
  · rw [if_neg q, if_neg (fun y => q ((h i hi).mpr y))]
theorem zs_d {v : Nat → Int} : ∀ (n : Nat) {S P Q : Nat → Bool}, (∀ i, i < n → (S i = true ↔ P i = true ∨ Q i = true)) → (∀ i, i < n → ¬ (P i = true ∧ Q i = true)) → zs v n S = zs v n P + zs v n Q
  | 0, _, _, _, _, _ => rfl
  | n + 1, S, P, Q, h, hd => by
    have ih := zs_d n (v := v) (S := S) (P := P) (Q := Q) (fun i hi => h i (by omega)) (fun i hi => hd i (by omega))
    have h1 := h n (Nat.lt_succ_self n)
    have h2 := hd n (Nat.lt_succ_self n)
    show zs v n S + (if S n = true then v n else 0) = zs v n P + (if P n = true then v n else 0) + (zs v n Q + (if Q n = true then v n else 0))
    rw [ih]
    by_cases p : P n = true
    · have q : ¬ Q n = true := fun y => h2 ⟨p, y⟩
      rw [if_pos (h1.mpr (Or.inl p)), if_pos p, if_neg q]
      omega
    · by_cases q : Q n = true
      · rw [if_pos (h1.mpr (Or.inr q)), if_neg p, if_pos q]
        omega
      · rw [if_neg (fun y => (h1.mp y).elim p q), if_neg p, if_neg q]
        omega
theorem zs_s {v : Nat → Int} {n : Nat} {S T : Nat → Bool} (h : ∀ i, i < n → T i = true → S i = true) : zs v n (bS S T) = zs v n S - zs v n T := by
  have := zs_d n (v := v) (S := S) (P := T) (Q := bS S T) (fun i hi => ⟨fun y => (Decidable.em (T i = true)).imp id (fun q => bS_e.mpr ⟨y, q⟩), fun y => y.elim (h i hi) (fun q => (bS_e.mp q).1)⟩) (fun i hi y => (bS_e.mp y.2).2 y.1)
  omega
theorem zs_z {v : Nat → Int} {n : Nat} {S : Nat → Bool} (h : ∀ i, i < n → ¬ S i = true) : zs v n S = 0 := by
  refine (sI_c n (fun i hi => ?_)).trans (sI_z n)
  exact if_neg (h i hi)
theorem Dj_x {v : Nat → Int} {n : Nat} : ∀ (m : Nat) (S U : Nat → Bool), (∀ i, i < n → U i = true → S i = true) → (∃ i, i < n ∧ S i = true ∧ ¬ U i = true) → zs v n S = 0 → Dj v n m U → Dj v n (m + 1) S
  | 0, S, U, h, ⟨t, t1, t2, t3⟩, hz, _ => ⟨S, fun _ _ y => y, ⟨t, t1, t2⟩, hz, trivial⟩
  | m + 1, S, U, h, ⟨t, t1, t2, t3⟩, hz, ⟨T, h1, h2, h3, h4⟩ => by
    refine ⟨T, fun i hi y => h i hi (h1 i hi y), h2, h3, Dj_x m (bS S T) (bS U T) (fun i hi y => bS_e.mpr ⟨h i hi (bS_e.mp y).1, (bS_e.mp y).2⟩) ⟨t, t1, bS_e.mpr ⟨t2, fun y => t3 (h1 t t1 y)⟩, fun y => t3 (bS_e.mp y).1⟩ ?_ h4⟩
    rw [zs_s (fun i hi y => h i hi (h1 i hi y)), hz, h3]
    rfl
theorem Dj_n {v : Nat → Int} {n : Nat} : ∀ (k : Nat) (S : Nat → Bool), zs v n S ≠ 0 → Dj v n k S → ∃ t, t < n ∧ S t = true ∧ Dj v n k (b1 S t)
  | 0, S, hz, _ => by
    have : ¬ ∀ i, i < n → ¬ S i = true := fun y => hz (zs_z y)
    have := Classical.not_forall.mp this
    obtain ⟨t, ht⟩ := this
    have := Classical.not_imp.mp ht
    exact ⟨t, this.1, Classical.not_not.mp this.2, trivial⟩
  | k + 1, S, hz, ⟨T, h1, h2, h3, h4⟩ => by
    obtain ⟨t, t1, t2, t3⟩ := Dj_n k (bS S T) (by rw [zs_s h1, h3]; omega) h4
    obtain ⟨t4, t5⟩ := bS_e.mp t2
    refine ⟨t, t1, t4, T, fun i hi y => b1_e.mpr ⟨h1 i hi y, fun q => t5 (q ▸ y)⟩, h2, h3, Dj_m k _ _ (fun i hi y => ?_) t3⟩
    have y1 := b1_e.mp y
    have y2 := bS_e.mp y1.1
    exact bS_e.mpr ⟨b1_e.mpr ⟨y2.1, y1.2⟩, y2.2⟩
theorem Dj_p {v : Nat → Int} {n k : Nat} {S : Nat → Bool} (h : Dj v n (k + 1) S) : ∃ t, t < n ∧ S t = true ∧ Dj v n k (b1 S t) := by
  obtain ⟨T, h1, ⟨t, t1, t2⟩, h3, h4⟩ := h
  refine ⟨t, t1, h1 t t1 t2, Dj_m k _ _ (fun i hi y => ?_) h4⟩
  have y2 := bS_e.mp y
  exact b1_e.mpr ⟨y2.1, fun q => y2.2 (q ▸ t2)⟩
theorem Dj_a {v : Nat → Int} {n : Nat} : ∀ (a b : Nat) (P Q : Nat → Bool), (∀ i, i < n → ¬ (P i = true ∧ Q i = true)) → Dj v n a P → Dj v n b Q → Dj v n (a + b) (bO P Q)
  | 0, b, P, Q, _, _, hq => by
    rw [Nat.zero_add]
    exact Dj_m b _ _ (fun i _ y => bO_e.mpr (Or.inr y)) hq
  | a + 1, b, P, Q, hd, ⟨T, h1, h2, h3, h4⟩, hq => by
    rw [Nat.add_right_comm]
    refine ⟨T, fun i hi y => bO_e.mpr (Or.inl (h1 i hi y)), h2, h3, ?_⟩
    refine Dj_m _ _ _ (fun i hi y => ?_) (Dj_a a b (bS P T) Q (fun i hi y => hd i hi ⟨(bS_e.mp y.1).1, y.2⟩) h4 hq)
    rcases bO_e.mp y with z | z
    · have z2 := bS_e.mp z
      exact bS_e.mpr ⟨bO_e.mpr (Or.inl z2.1), z2.2⟩
    · exact bS_e.mpr ⟨bO_e.mpr (Or.inr z), fun q => hd i hi ⟨h1 i hi q, z⟩⟩
/-- K is the greatest number of groups in S -/
def Mx (v : Nat → Int) (n : Nat) (S : Nat → Bool) (K : Int) : Prop := (∃ k : Nat, K = (k : Int) ∧ Dj v n k S) ∧ ∀ k : Nat, Dj v n k S → (k : Int) ≤ K
theorem Mx_u {v : Nat → Int} {n : Nat} {S : Nat → Bool} {K L : Int} (h : Mx v n S K) (g : Mx v n S L) : K = L := by
  obtain ⟨⟨k, rfl, hk⟩, h2⟩ := h
  obtain ⟨⟨l, rfl, hl⟩, g2⟩ := g
  have := h2 l hl
  have := g2 k hk
  omega
theorem Mx_c {v : Nat → Int} {n : Nat} {S T : Nat → Bool} {K : Int} (h : ∀ i, i < n → (S i = true ↔ T i = true)) (g : Mx v n S K) : Mx v n T K := by
  obtain ⟨⟨k, e, hk⟩, g2⟩ := g
  exact ⟨⟨k, e, Dj_m k _ _ (fun i hi => (h i hi).mp) hk⟩, fun j hj => g2 j (Dj_m j _ _ (fun i hi => (h i hi).mpr) hj)⟩
theorem Dj_le {v : Nat → Int} {n : Nat} : ∀ (m k : Nat) (S : Nat → Bool), (∀ i, i < n → S i = true → i < m) → Dj v n k S → k ≤ m
  | 0, 0, _, _, _ => Nat.le_refl _
  | 0, k + 1, S, h, hd => by
    obtain ⟨t, t1, t2, -⟩ := Dj_p hd
    exact absurd (h t t1 t2) (Nat.not_lt_zero _)
  | m + 1, 0, _, _, _ => Nat.zero_le _
  | m + 1, k + 1, S, h, hd => by
    by_cases z : m < n ∧ S m = true
    · have h2 : Dj v n k (b1 S m) := by
        obtain ⟨T, h1, ⟨t, t1, t2⟩, h3, h4⟩ := hd
        by_cases q : T m = true
        · refine Dj_m k _ _ (fun i hi y => ?_) h4
          have y2 := bS_e.mp y
          exact b1_e.mpr ⟨y2.1, fun u => y2.2 (u ▸ q)⟩
        · cases k with
          | zero => trivial
          | succ k =>
            have hx : ∀ (k : Nat) (S : Nat → Bool), Dj v n (k + 1) S → Dj v n k (b1 S m) := by
              intro k
              induction k with
              | zero => exact fun _ _ => trivial
              | succ k ih =>
                intro S ⟨T, h1, ht, h3, h4⟩
                by_cases q : T m = true
                · refine Dj_m (k + 1) _ _ (fun i hi y => ?_) h4
                  have y2 := bS_e.mp y
                  exact b1_e.mpr ⟨y2.1, fun u => y2.2 (u ▸ q)⟩
                · refine ⟨T, fun i hi y => b1_e.mpr ⟨h1 i hi y, fun u => q (u ▸ y)⟩, ht, h3, Dj_m k _ _ (fun i hi y => ?_) (ih _ h4)⟩
                  have y1 := b1_e.mp y
                  have y2 := bS_e.mp y1.1
                  exact bS_e.mpr ⟨b1_e.mpr ⟨y2.1, y1.2⟩, y2.2⟩
            exact hx (k + 1) S ⟨T, h1, ⟨t, t1, t2⟩, h3, h4⟩
      have := Dj_le m k (b1 S m) (fun i hi y => by
        have y1 := b1_e.mp y
        have := h i hi y1.1
        have := y1.2
        omega) h2
      omega
    · have := Dj_le m (k + 1) S (fun i hi y => by
        have h1 := h i hi y
        have : i ≠ m := fun u => z ⟨u ▸ hi, u ▸ y⟩
        omega) hd
      omega
/-! the class: the greatest number by sets -/
def mS (s : Nat) : Nat → Bool := fun i => !(s / 2 ^ i % 2 == 0)
theorem mS_e {s i : Nat} : mS s i = true ↔ ¬ s / 2 ^ i % 2 = 0 := by
  unfold mS
  by_cases q : s / 2 ^ i % 2 = 0
  · rw [q]
    decide
  · simp [q]
theorem mS_x {s t : Nat} (hs : s < 64) (ht : t < 6) (h : ¬ s / 2 ^ t % 2 = 0) : ∀ i, i < 6 → (mS (s ^^^ 2 ^ t) i = true ↔ b1 (mS s) t i = true) := fun i hi => by
  rw [mS_e, b1_e, mS_e, tb_xo s hs t ht h i hi]
  exact not_or
theorem ss_e {v : Nat → Int32} {s : Nat} (hs : s < 64) {n : Nat} (hn : n ≤ 6) (hv : ∀ i, i < n → -156800 ≤ (v i).toInt ∧ (v i).toInt ≤ 156800) : ∀ c, c ≤ n → (st_ss v s c).toInt = zs (fun i => (v i).toInt) c (mS s) ∧ -(156800 * (c : Int)) ≤ (st_ss v s c).toInt ∧ (st_ss v s c).toInt ≤ 156800 * (c : Int)
  | 0, _ => by
    refine ⟨?_, ?_⟩
    · show (nI 0).toInt = 0
      decide
    · show -(156800 * ((0 : Nat) : Int)) ≤ (nI 0).toInt ∧ (nI 0).toInt ≤ 156800 * ((0 : Nat) : Int)
      decide
  | c + 1, hc => by
    obtain ⟨i1, i2⟩ := ss_e hs hn hv c (by omega)
    have hb := tb_i s hs c (by omega)
    have h1 := hv c (by omega)
    unfold st_ss
    by_cases z : s / 2 ^ c % 2 = 0
    · rw [if_pos (hb.mpr z)]
      refine ⟨?_, by omega⟩
      show _ = zs (fun i => (v i).toInt) c (mS s) + (if mS s c = true then (v c).toInt else 0)
      rw [if_neg (fun y => mS_e.mp y z), i1, Int.add_zero]
    · rw [if_neg (fun y => z (hb.mp y))]
      have e := i_add (a := st_ss v s c) (b := v c) (m := 156800 * (c : Int)) (n := 156800) i2 h1 (by omega)
      refine ⟨?_, by omega⟩
      show _ = zs (fun i => (v i).toInt) c (mS s) + (if mS s c = true then (v c).toInt else 0)
      rw [if_pos (mS_e.mpr z), e, i1]
theorem i_z {a : Int32} : a = 0 ↔ a.toInt = 0 := ⟨fun h => by rw [h]; decide, fun h => Int32.toInt.inj (by rw [h]; decide)⟩
theorem gm_e {tab : Nat → Int32} {s : Nat} (hs : s < 64) : ∀ c, c ≤ 6 → 0 ≤ (st_gm tab s c).toInt ∧ (∀ t, t < c → ¬ s / 2 ^ t % 2 = 0 → (tab (s ^^^ 2 ^ t)).toInt ≤ (st_gm tab s c).toInt) ∧ ((st_gm tab s c).toInt = 0 ∨ ∃ t, t < c ∧ ¬ s / 2 ^ t % 2 = 0 ∧ (st_gm tab s c).toInt = (tab (s ^^^ 2 ^ t)).toInt)
  | 0, _ => ⟨by
      show 0 ≤ (nI 0).toInt
      decide, fun t ht => absurd ht (Nat.not_lt_zero _), Or.inl (by
      show (nI 0).toInt = 0
      decide)⟩
  | c + 1, hc => by
    obtain ⟨i0, i1, i2⟩ := gm_e (tab := tab) hs c (by omega)
    have hb := tb_i s hs c (by omega)
    unfold st_gm
    by_cases z : s / 2 ^ c % 2 = 0
    · rw [if_pos (hb.mpr z)]
      refine ⟨i0, fun t ht h => ?_, i2.imp id (fun ⟨t, a, b, e⟩ => ⟨t, by omega, b, e⟩)⟩
      have q : t ≠ c := fun u => h (u ▸ z)
      exact i1 t (by omega) h
    · rw [if_neg (fun y => z (hb.mp y))]
      by_cases y : st_gm tab s c < tab (s ^^^ 2 ^ c)
      · have y2 := Int32.lt_iff_toInt_lt.mp y
        rw [if_pos y]
        refine ⟨by omega, fun t ht h => ?_, Or.inr ⟨c, Nat.lt_succ_self _, z, rfl⟩⟩
        by_cases q : t = c
        · subst q
          exact Int.le_refl _
        · have := i1 t (by omega) h
          omega
      · have y2 := Int32.le_iff_toInt_le.mp (Int32.not_lt.mp y)
        rw [if_neg y]
        refine ⟨i0, fun t ht h => ?_, i2.imp id (fun ⟨t, a, b, e⟩ => ⟨t, by omega, b, e⟩)⟩
        by_cases q : t = c
        · subst q
          exact y2
        · exact i1 t (by omega) h
theorem gt_e {v : Nat → Int32} {n : Nat} (hn : n ≤ 6) (hv : ∀ i, i < n → -156800 ≤ (v i).toInt ∧ (v i).toInt ≤ 156800) : ∀ k, k < 2 ^ n → ∀ s, s ≤ k → Mx (fun i => (v i).toInt) n (mS s) (st_gt v n (fun _ => 0) k s).toInt
  | 0, _, s, hs => by
    have e : s = 0 := by omega
    subst e
    show Mx _ n (mS 0) (upd (fun _ => 0) 0 (nI 0) 0).toInt
    rw [pk_us]
    have e0 : (nI 0).toInt = 0 := by decide
    rw [e0]
    refine ⟨⟨0, rfl, trivial⟩, fun k hk => ?_⟩
    have := Dj_le 0 k _ (fun i _ y => absurd (show (0 : Nat) / 2 ^ i % 2 = 0 by rw [Nat.zero_div]) (mS_e.mp y)) hk
    omega
  | k + 1, hk, s, hs => by
    have ih := gt_e hn hv k (by omega)
    have hp := hp_p6 hn
    show Mx _ n (mS s) (upd (st_gt v n (fun _ => 0) k) (k + 1) _ s).toInt
    by_cases q : s = k + 1
    · subst q
      rw [pk_us]
      have hs6 : k + 1 < 64 := by omega
      obtain ⟨g0, g1, g2⟩ := gm_e (tab := st_gt v n (fun _ => 0) k) hs6 n hn
      have sz := (ss_e hs6 hn hv n (Nat.le_refl _)).1
      have sub : ∀ t, t < n → ¬ (k + 1) / 2 ^ t % 2 = 0 → Mx (fun i => (v i).toInt) n (b1 (mS (k + 1)) t) (st_gt v n (fun _ => 0) k ((k + 1) ^^^ 2 ^ t)).toInt := fun t ht hb =>
        Mx_c (fun i hi => mS_x hs6 (by omega) hb i (by omega)) (ih _ (by have := (tb_x (k + 1) hs6 t (by omega) hb).1; omega))
      -- the greatest below
      obtain ⟨m, em, dm⟩ : ∃ m : Nat, (st_gm (st_gt v n (fun _ => 0) k) (k + 1) n).toInt = (m : Int) ∧ ∃ t, t < n ∧ mS (k + 1) t = true ∧ Dj (fun i => (v i).toInt) n m (b1 (mS (k + 1)) t) := by
        rcases g2 with g2 | ⟨t, t1, t2, t3⟩
        · obtain ⟨t, t1, t2⟩ : ∃ t, t < n ∧ ¬ (k + 1) / 2 ^ t % 2 = 0 := by
            refine Classical.byContradiction fun y => ?_
            have : ∀ c, c ≤ n → (k + 1) % 2 ^ c = 0 := by
              intro c
              induction c with
              | zero => exact fun _ => Nat.mod_one _
              | succ c ih =>
                intro hc
                have h1 := ih (by omega)
                have h2 : (k + 1) / 2 ^ c % 2 = 0 := Classical.not_not.mp (fun u => y ⟨c, by omega, u⟩)
                rw [Nat.pow_succ, Nat.mod_mul, h1, h2, Nat.mul_zero]
            have h3 := this n (Nat.le_refl _)
            rw [Nat.mod_eq_of_lt hk] at h3
            omega
          exact ⟨0, g2, t, t1, mS_e.mpr t2, trivial⟩
        · obtain ⟨⟨m, e, d⟩, -⟩ := sub t t1 t2
          exact ⟨m, t3.trans e, t, t1, mS_e.mpr t2, d⟩
      obtain ⟨t, t1, t2, t3⟩ := dm
      have m6 : m ≤ 6 := by
        have := Dj_le n m _ (fun i hi _ => hi) t3
        omega
      have up : ∀ t, t < n → mS (k + 1) t = true → ∀ j, Dj (fun i => (v i).toInt) n j (b1 (mS (k + 1)) t) → j ≤ m := fun t ht hb j hj => by
        have h1 := (sub t ht (mS_e.mp hb)).2 j hj
        have h2 := g1 t ht (mS_e.mp hb)
        omega
      by_cases z : st_ss v (k + 1) n = 0
      · rw [if_pos z]
        have z2 : zs (fun i => (v i).toInt) n (mS (k + 1)) = 0 := by rw [← sz]; exact i_z.mp z
        have e1 : (nI 1).toInt = 1 := by decide
        rw [i_add (m := 6) (n := 1) (by omega) (by rw [e1]; decide) (by decide), e1, em]
        refine ⟨⟨m + 1, by omega, Dj_x m _ _ (fun i _ y => (b1_e.mp y).1) ⟨t, t1, t2, fun y => (b1_e.mp y).2 rfl⟩ z2 t3⟩, fun j hj => ?_⟩
        cases j with
        | zero => omega
        | succ j =>
          obtain ⟨u, u1, u2, u3⟩ := Dj_p hj
          have := up u u1 u2 j u3
          omega
      · rw [if_neg z, em]
        refine ⟨⟨m, rfl, Dj_m m _ _ (fun i _ y => (b1_e.mp y).1) t3⟩, fun j hj => ?_⟩
        have z2 : zs (fun i => (v i).toInt) n (mS (k + 1)) ≠ 0 := by
          rw [← sz]
          exact fun y => z (i_z.mpr y)
        obtain ⟨u, u1, u2, u3⟩ := Dj_n j _ z2 hj
        have := up u u1 u2 j u3
        omega
    · rw [pk_un q]
      exact ih s (by omega)

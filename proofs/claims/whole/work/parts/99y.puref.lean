/-! ===== PURE: the model's greatest number of groups ===== -/
theorem an_h (x y : Nat) : (x &&& y) / 2 = (x / 2) &&& (y / 2) := Nat.and_div_two
theorem an_m (x y : Nat) : (x &&& y) % 2 = (x % 2) &&& (y % 2) := Nat.and_mod_two_pow (n := 1)
theorem an_2 : ∀ x, x < 2 → ∀ y, y < 2 → x &&& y ≤ y ∧ (x = 1 → x &&& y = y) := by decide
theorem pq_e : ∀ n s p q, p < n → p &&& s = p → q &&& s = q → q < p → q ≤ (p - 1) &&& s
  | 0, _, _, _, h, _, _, _ => absurd h (Nat.not_lt_zero _)
  | n + 1, s, p, q, hn, hp, hq, h => by
    have a1 := an_h p s
    have a2 := an_h q s
    have a3 := an_m q s
    have a4 := an_h (p - 1) s
    have a5 := an_m (p - 1) s
    have t1 := an_2 (q % 2) (Nat.mod_lt _ (by decide)) (s % 2) (Nat.mod_lt _ (by decide))
    have t2 := an_2 ((p - 1) % 2) (Nat.mod_lt _ (by decide)) (s % 2) (Nat.mod_lt _ (by decide))
    rw [hp] at a1
    rw [hq] at a2 a3
    by_cases z : p % 2 = 1
    · have e : (p - 1) / 2 = p / 2 := by omega
      rw [e, ← a1] at a4
      omega
    · have e : (p - 1) / 2 = p / 2 - 1 := by omega
      have e2 : (p - 1) % 2 = 1 := by omega
      have ih := pq_e n (s / 2) (p / 2) (q / 2) (by omega) a1.symm a2.symm (by omega)
      rw [e] at a4
      have t3 := t2.2 e2
      omega
def td_sp (s p : Nat) : Bool := decide (p &&& s = p ∧ 0 < p ∧ p < s → s ^^^ p < s ∧ 0 < s ^^^ p)
theorem tb_sp0 : ∀ s, s < 64 → ∀ p, p < 64 → td_sp s p = true := by decide +kernel
theorem tb_sp (s : Nat) (hs : s < 64) (p : Nat) (hp : p < 64) (h : p &&& s = p) (h0 : 0 < p) (h1 : p < s) : s ^^^ p < s ∧ 0 < s ^^^ p := of_decide_eq_true (tb_sp0 s hs p hp) ⟨h, h0, h1⟩
theorem tb_sb : ∀ q, q < 64 → ∀ s, s < 64 → (q &&& s = q ↔ ∀ c, c < 6 → ¬ q / 2 ^ c % 2 = 0 → ¬ s / 2 ^ c % 2 = 0) := by decide +kernel
theorem sb_m {q s : Nat} (hq : q < 64) (hs : s < 64) : q &&& s = q ↔ ∀ c, c < 6 → mS q c = true → mS s c = true := by
  rw [tb_sb q hq s hs]
  constructor
  · exact fun h c hc y => mS_e.mpr (h c hc (mS_e.mp y))
  · exact fun h c hc y => mS_e.mp (h c hc (mS_e.mpr y))
theorem mS_s {s p : Nat} (hs : s < 64) (hp : p < 64) (h : p &&& s = p) : ∀ i, i < 6 → (mS (s ^^^ p) i = true ↔ bS (mS s) (mS p) i = true) := fun i hi => by
  rw [bS_e, mS_e, mS_e, mS_e, tb_md p hp s hs h i hi]
  exact and_congr Iff.rfl Decidable.not_not.symm
theorem mS_0 {i : Nat} : ¬ mS 0 i = true := fun y => mS_e.mp y (by rw [Nat.zero_div])
theorem mS_n {s n i : Nat} (hs : s < 2 ^ n) (hi : n ≤ i) : ¬ mS s i = true := fun y => mS_e.mp y (by
  rw [Nat.div_eq_of_lt (Nat.lt_of_lt_of_le hs (Nat.pow_le_pow_right (by decide) hi))])
theorem mS_or {s x : Nat} (hs : s < 64) (hx : x < 6) : ∀ i, i < 6 → (mS (s ||| 2 ^ x) i = true ↔ mS s i = true ∨ i = x) := fun i hi => by
  rw [mS_e, mS_e, tb_or s hs x hx i hi]
  by_cases q : i = x
  · exact ⟨fun _ => Or.inr q, fun _ y => y.2 q⟩
  · exact ⟨fun y => Or.inl (fun z => y ⟨z, q⟩), fun y z => (y.resolve_right q) z.1⟩
/-- every set is a number -/
theorem mS_of (T : Nat → Bool) : ∀ n, n ≤ 6 → ∃ q, q < 2 ^ n ∧ ∀ i, i < n → (mS q i = true ↔ T i = true)
  | 0, _ => ⟨0, Nat.one_pos, fun i hi => absurd hi (Nat.not_lt_zero _)⟩
  | n + 1, hn => by
    obtain ⟨q, q1, q2⟩ := mS_of T n (by omega)
    have hp := hp_p6 (k := n) (by omega)
    have h2 : 2 ^ (n + 1) = 2 ^ n * 2 := Nat.pow_succ 2 n
    by_cases z : T n = true
    · refine ⟨q ||| 2 ^ n, Nat.or_lt_two_pow (by omega) (by omega), fun i hi => ?_⟩
      rw [mS_or (by omega) (by omega) i (by omega)]
      by_cases y : i = n
      · subst y
        exact ⟨fun _ => z, fun _ => Or.inr rfl⟩
      · rw [q2 i (by omega)]
        exact ⟨fun u => u.resolve_right y, Or.inl⟩
    · refine ⟨q, by omega, fun i hi => ?_⟩
      by_cases y : i = n
      · subst y
        exact ⟨fun u => absurd u (mS_n q1 (Nat.le_refl _)), fun u => absurd u z⟩
      · exact q2 i (by omega)
theorem bc_b {s : Nat} (hs : s < 64) (h : s ≠ 0) : ∃ c, c < 6 ∧ mS s c = true := by
  obtain ⟨c, c1, c2⟩ := bc_1 s hs (by
    have : tk_bc s ≠ 0 := fun y => h (bc_z s hs y)
    omega)
  exact ⟨c, c1, mS_e.mpr c2⟩
def vI (M : mk_T) : Nat → Int := fun t => (mo_va M (nI t) (mk_hz M)).toInt
def okS (M : mk_T) (a s : Nat) : Prop := s ≠ 0 ∧ s &&& a = s ∧ zs (vI M) (mk_tr M) (mS s) = 0
def Fn (M : mk_T) (a s : Nat) (x : Int32) : Prop := (s = 0 → x = 0) ∧ (okS M a s → Mx (vI M) (mk_tr M) (mS s) x.toInt ∧ 1 ≤ x.toInt) ∧ (s ≠ 0 → ¬ okS M a s → x = -1)
theorem Fn.p {M : mk_T} {a s : Nat} {x : Int32} (h : Fn M a s x) (hs : s ≠ 0) : 0 < x ↔ okS M a s := by
  constructor
  · intro y
    refine Classical.byContradiction fun z => ?_
    rw [h.2.2 hs z] at y
    exact absurd y (by decide)
  · intro y
    have := (h.2.1 y).2
    refine Int32.lt_iff_toInt_lt.mpr ?_
    show (0 : Int32).toInt < x.toInt
    rw [show (0 : Int32).toInt = 0 by decide]
    omega
/-- x groups are there -/
def Jn (M : mk_T) (s : Nat) (x : Int32) : Prop := ∃ k : Nat, x.toInt = (k : Int) ∧ Dj (vI M) (mk_tr M) k (mS s)
theorem pi_e {M : mk_T} (h6 : mk_tr M ≤ 6) {a s : Nat} (hs : s < 64) : ∀ (f p : Nat) (B : Nat → Int32), p < f → p &&& s = p → p < s → (∀ r, r < s → Fn M a r (B r)) → Jn M s (B s) → (∀ r, r ≠ s → pa_i s f p B r = B r) ∧ (B s).toInt ≤ (pa_i s f p B s).toInt ∧ Jn M s (pa_i s f p B s) ∧ ∀ q, q &&& s = q → 0 < q → q ≤ p → okS M a q → okS M a (s ^^^ q) → (B q).toInt + (B (s ^^^ q)).toInt ≤ (pa_i s f p B s).toInt
  | 0, p, B, hf, _, _, _, _ => absurd hf (Nat.not_lt_zero _)
  | f + 1, p, B, hf, hp, hps, hB, hJ => by
    unfold pa_i
    by_cases z : p = 0
    · rw [if_pos z]
      exact ⟨fun _ _ => rfl, Int.le_refl _, hJ, fun q _ q1 q2 => by omega⟩
    · rw [if_neg z]
      obtain ⟨x1, x2⟩ := tb_sp s hs p (by omega) hp (by omega) hps
      have fp := hB p hps
      have fx := hB _ x1
      have le := Nat.and_le_left (n := p - 1) (m := s)
      have sb : ((p - 1) &&& s) &&& s = (p - 1) &&& s := by rw [Nat.and_assoc, Nat.and_self]
      -- the two parts
      have two : okS M a p → okS M a (s ^^^ p) → Jn M s (B p + B (s ^^^ p)) ∧ (B p + B (s ^^^ p)).toInt = (B p).toInt + (B (s ^^^ p)).toInt := fun k1 k2 => by
        obtain ⟨⟨⟨k, ek, dk⟩, -⟩, k3⟩ := fp.2.1 k1
        obtain ⟨⟨⟨l, el, dl⟩, -⟩, l3⟩ := fx.2.1 k2
        have b1 := Dj_le _ k _ (fun i hi _ => hi) dk
        have b2 := Dj_le _ l _ (fun i hi _ => hi) dl
        have e := i_add (a := B p) (b := B (s ^^^ p)) (m := 6) (n := 6) (by omega) (by omega) (by decide)
        refine ⟨⟨k + l, by omega, ?_⟩, e⟩
        refine Dj_m _ _ _ (fun i hi y => ?_) (Dj_a k l (mS p) (mS (s ^^^ p)) (fun i hi y => (bS_e.mp ((mS_s hs (by omega) hp i (by omega)).mp y.2)).2 y.1) dk dl)
        rcases bO_e.mp y with u | u
        · exact (sb_m (by omega) hs).mp hp i (by omega) u
        · exact (bS_e.mp ((mS_s hs (by omega) hp i (by omega)).mp u)).1
      by_cases c : 0 < B p ∧ 0 < B (s ^^^ p) ∧ B s < B p + B (s ^^^ p)
      · rw [if_pos c]
        obtain ⟨j1, j2⟩ := two ((fp.p z).mp c.1) ((fx.p (by omega)).mp c.2.1)
        have lt := Int32.lt_iff_toInt_lt.mp c.2.2
        obtain ⟨r1, r2, r3, r4⟩ := pi_e h6 hs f ((p - 1) &&& s) (upd B s (B p + B (s ^^^ p))) (by omega) sb (by omega) (fun r hr => by rw [pk_un (by omega)]; exact hB r hr) (by rw [pk_us]; exact j1)
        rw [pk_us] at r2
        refine ⟨fun r hr => by rw [r1 r hr, pk_un hr], by omega, r3, fun q q1 q2 q3 q4 q5 => ?_⟩
        by_cases y : q = p
        · subst y
          omega
        · have hq := r4 q q1 q2 (pq_e 64 s p q (by omega) hp q1 (by omega)) q4 q5
          have := tb_sp s hs q (by omega) q1 q2 (by omega)
          rw [pk_un (by omega), pk_un (by omega)] at hq
          exact hq
      · rw [if_neg c]
        obtain ⟨r1, r2, r3, r4⟩ := pi_e h6 hs f ((p - 1) &&& s) B (by omega) sb (by omega) hB hJ
        refine ⟨r1, r2, r3, fun q q1 q2 q3 q4 q5 => ?_⟩
        by_cases y : q = p
        · subst y
          have k := fun u => c ⟨(fp.p z).mpr q4, (fx.p (by omega)).mpr q5, u⟩
          have k2 := Int32.le_iff_toInt_le.mp (Int32.not_lt.mp k)
          rw [(two q4 q5).2] at k2
          omega
        · exact r4 q q1 q2 (pq_e 64 s p q (by omega) hp q1 (by omega)) q4 q5
theorem pss_e {M : mk_T} (h6 : mk_tr M ≤ 6) (hv : ∀ i, i < mk_tr M → -156800 ≤ vI M i ∧ vI M i ≤ 156800) {s : Nat} (hs : s < 64) : ∀ c, c ≤ mk_tr M → (pa_ss M s c).toInt = zs (vI M) c (mS s) ∧ -(156800 * (c : Int)) ≤ (pa_ss M s c).toInt ∧ (pa_ss M s c).toInt ≤ 156800 * (c : Int)
  | 0, _ => by
    refine ⟨?_, ?_⟩
    · show (nI 0).toInt = 0
      decide
    · show -(156800 * ((0 : Nat) : Int)) ≤ (nI 0).toInt ∧ (nI 0).toInt ≤ 156800 * ((0 : Nat) : Int)
      decide
  | c + 1, hc => by
    obtain ⟨i1, i2⟩ := pss_e h6 hv hs c (by omega)
    have h1 := hv c (by omega)
    unfold pa_ss
    by_cases z : s / 2 ^ c % 2 = 0
    · rw [(tb_i s hs c (by omega)).mpr z, Int32.zero_mul, Int32.add_zero]
      refine ⟨?_, by omega⟩
      show _ = zs (vI M) c (mS s) + (if mS s c = true then vI M c else 0)
      rw [if_neg (fun y => mS_e.mp y z), i1, Int.add_zero]
    · rw [(tb_1 s hs c (by omega)).mpr (by omega), show nI 1 * mo_va M (nI c) (mk_hz M) = mo_va M (nI c) (mk_hz M) from Int32.one_mul _]
      have e := i_add (a := pa_ss M s c) (b := mo_va M (nI c) (mk_hz M)) (m := 156800 * (c : Int)) (n := 156800) i2 h1 (by omega)
      refine ⟨?_, by rw [e]; unfold vI at h1; omega⟩
      show _ = zs (vI M) c (mS s) + (if mS s c = true then vI M c else 0)
      rw [if_pos (mS_e.mpr z), e, i1]
      rfl
theorem pm_e {M : mk_T} (h6 : mk_tr M ≤ 6) (hv : ∀ i, i < mk_tr M → -156800 ≤ vI M i ∧ vI M i ≤ 156800) {a s : Nat} (ha : a < 64) (hs : s < 64) (h0 : s ≠ 0) : (okS M a s → pa_m M a s = nI 1) ∧ (¬ okS M a s → pa_m M a s = -1) := by
  have e := (pss_e h6 hv hs _ (Nat.le_refl _)).1
  have es := tb_sub s hs a ha
  unfold pa_m
  rw [if_neg h0]
  constructor
  · intro h
    exact if_pos ⟨es.mpr h.2.1, i_z.mpr (by rw [e]; exact h.2.2)⟩
  · intro h
    exact if_neg (fun y => h ⟨h0, es.mp y.1, by rw [← e]; exact i_z.mp y.2⟩)
theorem po_e_ {M : mk_T} (h6 : mk_tr M ≤ 6) (hv : ∀ i, i < mk_tr M → -156800 ≤ vI M i ∧ vI M i ≤ 156800) {a : Nat} (ha : a < 2 ^ mk_tr M) : ∀ (e s : Nat) (B : Nat → Int32), e + s = 64 → 0 < s → (∀ r, r < s → Fn M a r (B r)) → (∀ r, s ≤ r → r < 64 → B r = pa_m M a r) → ∀ r, r < 64 → Fn M a r (pa_o e s B r)
  | 0, s, B, he, _, h1, _, r, hr => h1 r (by omega)
  | e + 1, s, B, he, h0, h1, h2, r, hr => by
    have hp := hp_p6 h6
    have hs : s < 64 := by omega
    obtain ⟨m1, m2⟩ := pm_e h6 hv (a := a) (by omega) hs (by omega)
    have bs := h2 s (Nat.le_refl _) hs
    unfold pa_o
    by_cases k : okS M a s
    · have b1 : B s = nI 1 := bs.trans (m1 k)
      have e1 : (nI 1).toInt = 1 := by decide
      rw [if_neg (by rw [b1]; decide)]
      have le := Nat.and_le_right (n := s) (m := s - 1)
      have lt : s &&& (s - 1) < s := by omega
      have sb : (s &&& (s - 1)) &&& s = s &&& (s - 1) := by rw [Nat.and_comm s, Nat.and_assoc, Nat.and_self]
      have hbits : ∀ i, i < 6 → mS s i = true → i < mk_tr M := fun i hi y => by
        refine Classical.byContradiction fun z => ?_
        exact mS_n ha (by omega) ((sb_m hs (by omega)).mp k.2.1 i hi y)
      obtain ⟨c, c1, c2⟩ := bc_b hs k.1
      have J1 : Jn M s (B s) := ⟨1, by rw [b1, e1]; rfl, mS s, fun _ _ y => y, ⟨c, hbits c c1 c2, c2⟩, k.2.2, trivial⟩
      obtain ⟨r1, r2, r3, r4⟩ := pi_e (a := a) h6 hs 64 (s &&& (s - 1)) B (by omega) sb lt h1 J1
      rw [b1, e1] at r2
      refine po_e_ h6 hv ha e (s + 1) _ (by omega) (by omega) (fun q hq => ?_) (fun q q1 q2 => by rw [r1 q (by omega)]; exact h2 q (by omega) q2) r hr
      by_cases y : q = s
      · subst y
        refine ⟨fun u => by omega, fun _ => ⟨⟨?_, fun j hj => ?_⟩, r2⟩, fun _ u => absurd k u⟩
        · obtain ⟨j, j1, j2⟩ := r3
          exact ⟨j, j1, j2⟩
        · match j, hj with
          | 0, _ => omega
          | 1, _ => omega
          | j + 2, hj =>
            obtain ⟨T, t1, ⟨x, x1, x2⟩, t3, t4⟩ := hj
            obtain ⟨p, p1, p2⟩ := mS_of T _ h6
            have psub : p &&& q = p := (sb_m (by omega) hs).mpr (fun i hi u => by
              by_cases v : i < mk_tr M
              · exact t1 i v ((p2 i v).mp u)
              · exact absurd u (mS_n p1 (by omega)))
            have p0 : p ≠ 0 := fun u => mS_0 (u ▸ (p2 x x1).mpr x2)
            have same : ∀ i, i < mk_tr M → (mS (q ^^^ p) i = true ↔ bS (mS q) T i = true) := fun i hi => by
              rw [mS_s hs (by omega) psub i (by omega), bS_e, bS_e, p2 i hi]
            obtain ⟨y0, y1, y2, -⟩ := Dj_p t4
            have pq : p < q := by
              have h1 := and_le_ p q psub
              have : p ≠ q := fun u => by
                have y3 := (same y0 y1).mpr y2
                rw [u, Nat.xor_self] at y3
                exact mS_0 y3
              omega
            obtain ⟨z1, z2⟩ := tb_sp q hs p (by omega) psub (by omega) pq
            have zp : zs (vI M) (mk_tr M) (mS p) = 0 := (zs_c p2).trans t3
            have kp : okS M a p := ⟨p0, (sb_m (by omega) (by omega)).mpr (fun i hi u => (sb_m hs (by omega)).mp k.2.1 i hi ((sb_m (by omega) hs).mp psub i hi u)), zp⟩
            have kx : okS M a (q ^^^ p) := ⟨by omega, (sb_m (by omega) (by omega)).mpr (fun i hi u => (sb_m hs (by omega)).mp k.2.1 i hi (bS_e.mp ((mS_s hs (by omega) psub i hi).mp u)).1), by
              rw [zs_c same, zs_s t1, k.2.2, t3]
              rfl⟩
            have g := r4 p psub (by omega) (by rw [Nat.and_comm]; exact pq_e 64 q q p hs (Nat.and_self q) psub pq) kp kx
            have f1 := (h1 p pq).2.1 kp
            have f2 := (h1 _ z1).2.1 kx
            have f3 := (Mx_c same f2.1).2 (j + 1) t4
            omega
      · rw [r1 q y]
        exact h1 q (by omega)
    · have b1 : B s = -1 := bs.trans (m2 k)
      rw [if_pos (by rw [b1]; decide)]
      refine po_e_ h6 hv ha e (s + 1) _ (by omega) (by omega) (fun q hq => ?_) (fun q q1 q2 => h2 q (by omega) q2) r hr
      by_cases y : q = s
      · subst y
        exact ⟨fun u => by omega, fun u => absurd u k, fun _ _ => b1⟩
      · exact h1 q (by omega)
/-- the traders with a variation -/
theorem aS_e {M : mk_T} (h6 : mk_tr M ≤ 6) : ∀ c, c ≤ mk_tr M → ∀ i, i < c → (mS (pa_a M c) i = true ↔ ¬ vI M i = 0)
  | 0, _, i, hi => absurd hi (Nat.not_lt_zero _)
  | c + 1, hc, i, hi => by
    have hl := pa_a_lt M c
    have hp := hp_p6 (k := c) (by omega)
    have ih := aS_e h6 c (by omega)
    unfold pa_a
    by_cases z : mo_va M (nI c) (mk_hz M) = 0
    · rw [if_pos z]
      by_cases y : i = c
      · subst y
        exact ⟨fun u => absurd u (mS_n hl (Nat.le_refl _)), fun u => absurd (i_z.mp z) u⟩
      · exact ih i (by omega)
    · rw [if_neg z, mS_or (by omega) (by omega) i (by omega)]
      by_cases y : i = c
      · subst y
        exact ⟨fun _ u => z (i_z.mpr u), fun _ => Or.inr rfl⟩
      · rw [ih i (by omega)]
        exact ⟨fun u => u.resolve_right y, Or.inl⟩
def aB (M : mk_T) : Nat → Bool := fun t => !(decide (vI M t = 0))
theorem aB_e {M : mk_T} {t : Nat} : aB M t = true ↔ ¬ vI M t = 0 := by
  unfold aB
  by_cases q : vI M t = 0 <;> simp [q]
theorem zs_all {M : mk_T} : ∀ n, zs (vI M) n (aB M) = sI (vI M) n
  | 0 => rfl
  | n + 1 => by
    show zs (vI M) n (aB M) + (if aB M n = true then vI M n else 0) = sI (vI M) n + vI M n
    rw [zs_all n]
    by_cases q : vI M n = 0
    · rw [if_neg (fun y => aB_e.mp y q), q]
    · rw [if_pos (aB_e.mpr q)]
theorem vI_bd {M : mk_T} (H : Ic M) (i : Nat) : -156800 ≤ vI M i ∧ vI M i ≤ 156800 := by
  have h4 := H.1.1
  have := va_bd H (nI i) (mk_hz M) (Nat.le_refl _)
  unfold vI
  rw [← va_e H]
  omega
theorem vI_0 {M : mk_T} (H : Ic M) : sI (vI M) (mk_tr M) = 0 := by
  rw [← va_sum H _ (Nat.le_refl _)]
  refine sI_c _ (fun i _ => ?_)
  unfold vI
  rw [va_e H]
/-- the model's number is the greatest -/
theorem pa_mx {M : mk_T} (H : Ic M) : Mx (vI M) (mk_tr M) (aB M) (pa_o 63 1 (pa_m M (pa_a M (mk_tr M))) (pa_a M (mk_tr M))).toInt := by
  have h6 := H.1.2.1
  have hp := hp_p6 h6
  have hl := pa_a_lt M (mk_tr M)
  have hv := fun i (_ : i < mk_tr M) => vI_bd H i
  have f := po_e_ h6 hv hl 63 1 (pa_m M (pa_a M (mk_tr M))) rfl (by decide) (fun r hr => by
    have e : r = 0 := by omega
    subst e
    exact ⟨fun _ => rfl, fun u => absurd rfl u.1, fun u => absurd rfl u⟩) (fun _ _ _ => rfl) (pa_a M (mk_tr M)) (by omega)
  have ae := aS_e h6 _ (Nat.le_refl (mk_tr M))
  have same : ∀ i, i < mk_tr M → (mS (pa_a M (mk_tr M)) i = true ↔ aB M i = true) := fun i hi => by rw [ae i hi, aB_e]
  by_cases z : pa_a M (mk_tr M) = 0
  · rw [f.1 z]
    refine ⟨⟨0, by decide, trivial⟩, fun k hk => ?_⟩
    have := Dj_le 0 k _ (fun i hi y => by
      have u := (same i hi).mpr y
      rw [z] at u
      exact absurd u mS_0) hk
    rw [show (0 : Int32).toInt = 0 by decide]
    omega
  · have k : okS M (pa_a M (mk_tr M)) (pa_a M (mk_tr M)) := ⟨z, Nat.and_self _, by rw [zs_c same, zs_all, vI_0 H]⟩
    exact Mx_c same (f.2.1 k).1

/-! ===== PURE: groups laid one by one ===== -/
def Rp (v : Nat → Int32) (cnt f gr : Nat) (su : Nat → Int32) (k : Nat) : Prop := match f with
  | 0 => k = gr ∧ ∀ i, i < gr → su i = 0
  | f + 1 => Rp v cnt f (gr + 1) (upd su gr (v (cnt - (f + 1)))) k ∨ ∃ c, c < gr ∧ Rp v cnt f gr (upd su c (su c + v (cnt - (f + 1)))) k
theorem pg_e {v : Nat → Int32} {cnt : Nat} : ∀ (f gr : Nat) (su : Nat → Int32) (m : Nat), m ≤ st_pg v cnt f gr su m ∧ (∀ k, Rp v cnt f gr su k → k ≤ st_pg v cnt f gr su m) ∧ (st_pg v cnt f gr su m = m ∨ Rp v cnt f gr su (st_pg v cnt f gr su m))
  | 0, gr, su, m => by
    unfold st_pg
    by_cases z : ∀ i, i < gr → su i = 0
    · rw [if_pos z]
      by_cases y : m < gr
      · rw [if_pos y]
        exact ⟨Nat.le_of_lt y, fun k hk => Nat.le_of_eq hk.1, Or.inr ⟨rfl, z⟩⟩
      · rw [if_neg y]
        exact ⟨Nat.le_refl _, fun k hk => by rw [hk.1]; omega, Or.inl rfl⟩
    · rw [if_neg z]
      exact ⟨Nat.le_refl _, fun k hk => absurd hk.2 z, Or.inl rfl⟩
  | f + 1, gr, su, m => by
    have lp : ∀ n, m ≤ st_lp (fun c k => st_pg v cnt f gr (upd su c (su c + v (cnt - (f + 1)))) k) n m ∧ (∀ c k, c < n → Rp v cnt f gr (upd su c (su c + v (cnt - (f + 1)))) k → k ≤ st_lp (fun c k => st_pg v cnt f gr (upd su c (su c + v (cnt - (f + 1)))) k) n m) ∧ (st_lp (fun c k => st_pg v cnt f gr (upd su c (su c + v (cnt - (f + 1)))) k) n m = m ∨ ∃ c, c < n ∧ Rp v cnt f gr (upd su c (su c + v (cnt - (f + 1)))) (st_lp (fun c k => st_pg v cnt f gr (upd su c (su c + v (cnt - (f + 1)))) k) n m)) := by
      intro n
      induction n with
      | zero => exact ⟨Nat.le_refl _, fun c k hc => absurd hc (Nat.not_lt_zero _), Or.inl rfl⟩
      | succ n ih =>
        obtain ⟨i1, i2, i3⟩ := ih
        obtain ⟨a1, a2, a3⟩ := pg_e (v := v) (cnt := cnt) f gr (upd su n (su n + v (cnt - (f + 1)))) (st_lp (fun c k => st_pg v cnt f gr (upd su c (su c + v (cnt - (f + 1)))) k) n m)
        refine ⟨Nat.le_trans i1 a1, fun c k hc hr => ?_, ?_⟩
        · by_cases q : c = n
          · subst q
            exact a2 k hr
          · exact Nat.le_trans (i2 c k (by omega) hr) a1
        · rcases a3 with a3 | a3
          · rcases i3 with i3 | ⟨c, c1, c2⟩
            · exact Or.inl (a3.trans i3)
            · refine Or.inr ⟨c, by omega, ?_⟩
              rw [show st_lp (fun c k => st_pg v cnt f gr (upd su c (su c + v (cnt - (f + 1)))) k) (n + 1) m = _ from a3]
              exact c2
          · exact Or.inr ⟨n, Nat.lt_succ_self _, a3⟩
    obtain ⟨l1, l2, l3⟩ := lp gr
    obtain ⟨a1, a2, a3⟩ := pg_e (v := v) (cnt := cnt) f (gr + 1) (upd su gr (v (cnt - (f + 1)))) (st_lp (fun c k => st_pg v cnt f gr (upd su c (su c + v (cnt - (f + 1)))) k) gr m)
    have e : st_pg v cnt (f + 1) gr su m = st_pg v cnt f (gr + 1) (upd su gr (v (cnt - (f + 1)))) (st_lp (fun c k => st_pg v cnt f gr (upd su c (su c + v (cnt - (f + 1)))) k) gr m) := rfl
    rw [e]
    refine ⟨Nat.le_trans l1 a1, fun k hk => ?_, ?_⟩
    · rcases hk with hk | ⟨c, c1, c2⟩
      · exact a2 k hk
      · exact Nat.le_trans (l2 c k c1 c2) a1
    · rcases a3 with a3 | a3
      · rcases l3 with l3 | ⟨c, c1, c2⟩
        · exact Or.inl (a3.trans l3)
        · refine Or.inr (Or.inr ⟨c, c1, ?_⟩)
          rw [a3]
          exact c2
      · exact Or.inr (Or.inl a3)
def eqB (a : Nat → Nat) (j : Nat) : Nat → Bool := fun x => a x == j
theorem eqB_e {a : Nat → Nat} {j x : Nat} : eqB a j x = true ↔ a x = j := by
  unfold eqB
  exact beq_iff_eq
theorem up_s {D : Nat → Nat} {h x : Nat} : va_up D h x h = x := if_pos rfl
theorem up_n {D : Nat → Nat} {h x i : Nat} (q : i ≠ h) : va_up D h x i = D i := if_neg q
theorem zs_up {V : Nat → Int} {a : Nat → Nat} {i g j : Nat} : zs V (i + 1) (eqB (va_up a i g) j) = zs V i (eqB a j) + (if g = j then V i else 0) := by
  show zs V i (eqB (va_up a i g) j) + (if eqB (va_up a i g) j i = true then V i else 0) = _
  rw [zs_c (T := eqB a j) (fun x hx => by rw [eqB_e, eqB_e, up_n (by omega)])]
  by_cases q : g = j
  · rw [if_pos q, if_pos (eqB_e.mpr (by rw [up_s]; exact q))]
  · rw [if_neg q, if_neg (fun y => q (by rw [← eqB_e.mp y, up_s]))]
abbrev bdV (V : Nat → Int) (cnt : Nat) : Prop := ∀ i, i < cnt → -156800 ≤ V i ∧ V i ≤ 156800
theorem zs_bd {V : Nat → Int} {cnt : Nat} (hV : bdV V cnt) {S : Nat → Bool} : ∀ n, n ≤ cnt → -(156800 * (n : Int)) ≤ zs V n S ∧ zs V n S ≤ 156800 * (n : Int)
  | 0, _ => by
    show -(156800 * ((0 : Nat) : Int)) ≤ 0 ∧ (0 : Int) ≤ 156800 * ((0 : Nat) : Int)
    decide
  | n + 1, hn => by
    have ih := zs_bd hV (S := S) n (by omega)
    have h1 := hV n (by omega)
    show -(156800 * ((n + 1 : Nat) : Int)) ≤ zs V n S + (if S n = true then V n else 0) ∧ zs V n S + (if S n = true then V n else 0) ≤ 156800 * ((n + 1 : Nat) : Int)
    split <;> omega
theorem su_up {v : Nat → Int32} {cnt i : Nat} (hc : cnt ≤ 6) (hi : i < cnt) (hV : bdV (fun i => (v i).toInt) cnt) {x : Int32} {S : Nat → Bool} (hx : x.toInt = zs (fun i => (v i).toInt) i S) : (x + v i).toInt = zs (fun i => (v i).toInt) i S + (v i).toInt := by
  have h1 := zs_bd hV (S := S) i (by omega)
  have h2 := hV i hi
  rw [i_add (m := 940800) (n := 156800) (by omega) h2 (by decide), hx]
theorem Rp_a {v : Nat → Int32} {cnt : Nat} (hc : cnt ≤ 6) (hV : bdV (fun i => (v i).toInt) cnt) : ∀ (f gr : Nat) (su : Nat → Int32) (a : Nat → Nat) (k : Nat), f ≤ cnt → (∀ j, j < gr → ∃ x, x < cnt - f ∧ a x = j) → (∀ j, gr ≤ j → ∀ x, x < cnt - f → a x ≠ j) → (∀ j, j < gr → (su j).toInt = zs (fun i => (v i).toInt) (cnt - f) (eqB a j)) → Rp v cnt f gr su k → ∃ a', (∀ j, j < k → ∃ x, x < cnt ∧ a' x = j) ∧ ∀ j, j < k → zs (fun i => (v i).toInt) cnt (eqB a' j) = 0
  | 0, gr, su, a, k, hf, h1, h0, h2, hr => by
    obtain ⟨rfl, hz⟩ := hr
    exact ⟨a, h1, fun j hj => (h2 j hj).symm.trans (i_z.mp (hz j hj))⟩
  | f + 1, gr, su, a, k, hf, h1, h0, h2, hr => by
    have e : cnt - f = cnt - (f + 1) + 1 := by omega
    have hi : cnt - (f + 1) < cnt := by omega
    rcases hr with hr | ⟨c, c1, hr⟩
    · refine Rp_a hc hV f (gr + 1) _ (va_up a (cnt - (f + 1)) gr) k (by omega) (fun j hj => ?_) (fun j hj x hx => ?_) (fun j hj => ?_) hr
      · by_cases q : j = gr
        · exact ⟨cnt - (f + 1), by omega, by rw [q]; exact up_s⟩
        · obtain ⟨x, x1, x2⟩ := h1 j (by omega)
          exact ⟨x, by omega, by rw [up_n (by omega)]; exact x2⟩
      · by_cases q : x = cnt - (f + 1)
        · rw [q, up_s]
          omega
        · rw [up_n q]
          exact h0 j (by omega) x (by omega)
      · rw [e, zs_up]
        by_cases q : j = gr
        · subst q
          rw [pk_us, if_pos rfl, zs_z (fun x hx y => h0 j (Nat.le_refl _) x hx (eqB_e.mp y)), Int.zero_add]
        · rw [pk_un q, if_neg (fun y => q y.symm), Int.add_zero]
          exact h2 j (by omega)
    · refine Rp_a hc hV f gr _ (va_up a (cnt - (f + 1)) c) k (by omega) (fun j hj => ?_) (fun j hj x hx => ?_) (fun j hj => ?_) hr
      · obtain ⟨x, x1, x2⟩ := h1 j hj
        exact ⟨x, by omega, by rw [up_n (by omega)]; exact x2⟩
      · by_cases q : x = cnt - (f + 1)
        · rw [q, up_s]
          omega
        · rw [up_n q]
          exact h0 j hj x (by omega)
      · rw [e, zs_up]
        by_cases q : j = c
        · subst q
          rw [pk_us, if_pos rfl]
          exact su_up hc hi hV (h2 j hj)
        · rw [pk_un q, if_neg (fun y => q y.symm), Int.add_zero]
          exact h2 j hj
def ltB (a : Nat → Nat) (m : Nat) : Nat → Bool := fun x => decide (a x < m)
theorem ltB_e {a : Nat → Nat} {m x : Nat} : ltB a m x = true ↔ a x < m := by
  unfold ltB
  exact decide_eq_true_iff
theorem Dj_of {V : Nat → Int} {n : Nat} {a : Nat → Nat} {k : Nat} (h1 : ∀ j, j < k → ∃ x, x < n ∧ a x = j) (h2 : ∀ j, j < k → zs V n (eqB a j) = 0) : ∀ m, m ≤ k → Dj V n m (ltB a m)
  | 0, _ => trivial
  | m + 1, hm => by
    obtain ⟨x, x1, x2⟩ := h1 m (by omega)
    refine ⟨eqB a m, fun i _ y => ltB_e.mpr (by rw [eqB_e.mp y]; exact Nat.lt_succ_self _), ⟨x, x1, eqB_e.mpr x2⟩, h2 m (by omega), Dj_m m _ _ (fun i _ y => ?_) (Dj_of h1 h2 m (by omega))⟩
    have y2 := ltB_e.mp y
    exact bS_e.mpr ⟨ltB_e.mpr (by omega), fun z => by have := eqB_e.mp z; omega⟩
def anB (S T : Nat → Bool) : Nat → Bool := fun i => S i && T i
theorem anB_e {S T : Nat → Bool} {i : Nat} : anB S T i = true ↔ S i = true ∧ T i = true := by
  unfold anB
  cases S i <;> cases T i <;> decide
theorem Dj_lab {V : Nat → Int} {n : Nat} : ∀ (k : Nat) (S : Nat → Bool), zs V n S = 0 → Dj V n (k + 1) S → ∃ a : Nat → Nat, (∀ i, i < n → S i = true → a i ≤ k) ∧ ∀ j, j ≤ k → zs V n (anB S (eqB a j)) = 0 ∧ ∃ i, i < n ∧ S i = true ∧ a i = j
  | 0, S, hz, ⟨T, h1, ⟨t, t1, t2⟩, h3, _⟩ => by
    refine ⟨fun _ => 0, fun _ _ _ => Nat.le_refl _, fun j hj => ?_⟩
    have e : j = 0 := by omega
    subst e
    exact ⟨(zs_c (fun i _ => ⟨fun y => (anB_e.mp y).1, fun y => anB_e.mpr ⟨y, eqB_e.mpr rfl⟩⟩)).trans hz, t, t1, h1 t t1 t2, rfl⟩
  | k + 1, S, hz, ⟨T, h1, ⟨t, t1, t2⟩, h3, h4⟩ => by
    obtain ⟨a, a1, a2⟩ := Dj_lab k (bS S T) (by rw [zs_s h1, hz, h3]; rfl) h4
    have av : ∀ i, T i = true → (if T i = true then k + 1 else a i) = k + 1 := fun i y => if_pos y
    have an : ∀ i, ¬ T i = true → (if T i = true then k + 1 else a i) = a i := fun i y => if_neg y
    refine ⟨fun i => if T i = true then k + 1 else a i, fun i hi y => ?_, fun j hj => ?_⟩
    · show (if T i = true then k + 1 else a i) ≤ k + 1
      by_cases z : T i = true
      · rw [av i z]
        exact Nat.le_refl _
      · rw [an i z]
        have := a1 i hi (bS_e.mpr ⟨y, z⟩)
        omega
    · by_cases q : j = k + 1
      · subst q
        refine ⟨(zs_c (fun i hi => ⟨fun y => ?_, fun y => anB_e.mpr ⟨h1 i hi y, eqB_e.mpr (av i y)⟩⟩)).trans h3, t, t1, h1 t t1 t2, av t t2⟩
        refine Classical.byContradiction fun z => ?_
        have y1 := anB_e.mp y
        have y2 : (if T i = true then k + 1 else a i) = k + 1 := eqB_e.mp y1.2
        rw [an i z] at y2
        have := a1 i hi (bS_e.mpr ⟨y1.1, z⟩)
        omega
      · obtain ⟨b1, x, x1, x2, x3⟩ := a2 j (by omega)
        have bx := bS_e.mp x2
        refine ⟨(zs_c (fun i hi => ⟨fun y => ?_, fun y => ?_⟩)).trans b1, x, x1, bx.1, (an x bx.2).trans x3⟩
        · have y1 := anB_e.mp y
          have y2 : (if T i = true then k + 1 else a i) = j := eqB_e.mp y1.2
          have z : ¬ T i = true := fun z => q (by rw [← y2, av i z])
          rw [an i z] at y2
          exact anB_e.mpr ⟨bS_e.mpr ⟨y1.1, z⟩, eqB_e.mpr y2⟩
        · have y1 := anB_e.mp y
          have y2 := bS_e.mp y1.1
          exact anB_e.mpr ⟨y2.1, eqB_e.mpr ((an i y2.2).trans (eqB_e.mp y1.2))⟩
theorem bc_o : ∀ c, c < 6 → ∀ s, s < 64 → s / 2 ^ c % 2 = 0 → tk_bc (s ||| 2 ^ c) = tk_bc s + 1 := by decide +kernel
theorem bc_k : ∀ K, K < 7 → ∀ s, s < 64 → (∀ c, c < K → ¬ s / 2 ^ c % 2 = 0) → K ≤ tk_bc s := by decide +kernel
theorem Rp_l {v : Nat → Int32} {cnt : Nat} (hc : cnt ≤ 6) (hV : bdV (fun i => (v i).toInt) cnt) {a : Nat → Nat} {K : Nat} (hK : K ≤ 6) (ha : ∀ i, i < cnt → a i < K) (hn : ∀ j, j < K → ∃ i, i < cnt ∧ a i = j) (hz : ∀ j, j < K → zs (fun i => (v i).toInt) cnt (eqB a j) = 0) : ∀ (f : Nat) (su : Nat → Int32) (u : Nat) (pos : Nat → Nat), f ≤ cnt → u < 64 → (∀ c, c < 6 → (mS u c = true ↔ ∃ x, x < cnt - f ∧ a x = c)) → (∀ c, c < 6 → mS u c = true → pos c < tk_bc u) → (∀ c d, c < 6 → d < 6 → mS u c = true → mS u d = true → pos c = pos d → c = d) → (∀ j, j < tk_bc u → ∃ c, c < 6 ∧ mS u c = true ∧ pos c = j) → (∀ c, c < 6 → mS u c = true → (su (pos c)).toInt = zs (fun i => (v i).toInt) (cnt - f) (eqB a c)) → ∃ k, K ≤ k ∧ Rp v cnt f (tk_bc u) su k
  | 0, su, u, pos, hf, hu, h1, h2, h3, h4, h5 => by
    refine ⟨tk_bc u, bc_k K (by omega) u hu (fun c hk => ?_), rfl, fun j hj => ?_⟩
    · exact mS_e.mp ((h1 c (by omega)).mpr (hn c hk))
    · obtain ⟨c, c1, c2, c3⟩ := h4 j hj
      obtain ⟨x, x1, x2⟩ := (h1 c c1).mp c2
      have cK : c < K := by
        have := ha x (by omega)
        omega
      rw [← c3]
      exact i_z.mpr ((h5 c c1 c2).trans (hz c cK))
  | f + 1, su, u, pos, hf, hu, h1, h2, h3, h4, h5 => by
    have e : cnt - f = cnt - (f + 1) + 1 := by omega
    obtain ⟨i, hi⟩ : ∃ i, i = cnt - (f + 1) := ⟨_, rfl⟩
    have hic : i < cnt := by omega
    have ai := ha i hic
    have st : ∀ c, zs (fun i => (v i).toInt) (i + 1) (eqB a c) = zs (fun i => (v i).toInt) i (eqB a c) + (if a i = c then (v i).toInt else 0) := fun c => by
      show zs (fun i => (v i).toInt) i (eqB a c) + (if eqB a c i = true then (v i).toInt else 0) = _
      by_cases q : a i = c
      · rw [if_pos q, if_pos (eqB_e.mpr q)]
      · rw [if_neg q, if_neg (fun y => q (eqB_e.mp y))]
    rw [← hi] at h1 h5 e
    by_cases z : mS u (a i) = true
    · obtain ⟨k, k1, k2⟩ := Rp_l hc hV hK ha hn hz f (upd su (pos (a i)) (su (pos (a i)) + v i)) u pos (by omega) hu (fun c hc6 => by
        rw [h1 c hc6, e]
        exact ⟨fun ⟨x, x1, x2⟩ => ⟨x, by omega, x2⟩, fun ⟨x, x1, x2⟩ => by
          by_cases q : x = i
          · exact (h1 c hc6).mp (by rw [← x2, q]; exact z)
          · exact ⟨x, by omega, x2⟩⟩) h2 h3 h4 (fun c hc6 hm => by
        rw [e, st]
        by_cases q : a i = c
        · rw [← q, pk_us, if_pos rfl]
          exact su_up hc hic hV (h5 (a i) (by omega) z)
        · rw [pk_un (fun y => q (h3 _ _ (by omega) hc6 z hm y.symm)), if_neg q, Int.add_zero]
          exact h5 c hc6 hm)
      exact ⟨k, k1, Or.inr ⟨pos (a i), h2 _ (by omega) z, by rw [← hi]; exact k2⟩⟩
    · have z0 : u / 2 ^ a i % 2 = 0 := Decidable.not_not.mp (fun y => z (mS_e.mpr y))
      have eb := bc_o (a i) (by omega) u hu z0
      have mo := mS_or hu (x := a i) (by omega)
      have ul : u ||| 2 ^ a i < 64 := Nat.or_lt_two_pow (n := 6) hu (Nat.pow_lt_pow_right (by decide) (by omega))
      obtain ⟨k, k1, k2⟩ := Rp_l hc hV hK ha hn hz f (upd su (tk_bc u) (v i)) (u ||| 2 ^ a i) (va_up pos (a i) (tk_bc u)) (by omega) ul (fun c hc6 => by
        rw [mo c hc6, h1 c hc6, e]
        constructor
        · rintro (⟨x, x1, x2⟩ | rfl)
          · exact ⟨x, by omega, x2⟩
          · exact ⟨i, Nat.lt_succ_self _, rfl⟩
        · rintro ⟨x, x1, x2⟩
          by_cases q : x = i
          · exact Or.inr (by rw [← x2, q])
          · exact Or.inl ⟨x, by omega, x2⟩) (fun c hc6 hm => by
        rw [eb]
        by_cases q : c = a i
        · rw [q, up_s]
          exact Nat.lt_succ_self _
        · rw [up_n q]
          have := h2 c hc6 (((mo c hc6).mp hm).resolve_right q)
          omega) (fun c d hc6 hd6 hm hn y => by
        by_cases q : c = a i
        · by_cases p : d = a i
          · rw [q, p]
          · rw [q, up_s, up_n p] at y
            have := h2 d hd6 (((mo d hd6).mp hn).resolve_right p)
            omega
        · by_cases p : d = a i
          · rw [p, up_s, up_n q] at y
            have := h2 c hc6 (((mo c hc6).mp hm).resolve_right q)
            omega
          · rw [up_n q, up_n p] at y
            exact h3 c d hc6 hd6 (((mo c hc6).mp hm).resolve_right q) (((mo d hd6).mp hn).resolve_right p) y) (fun j hj => by
        rw [eb] at hj
        by_cases q : j = tk_bc u
        · exact ⟨a i, by omega, (mo _ (by omega)).mpr (Or.inr rfl), by rw [up_s]; exact q.symm⟩
        · obtain ⟨c, c1, c2, c3⟩ := h4 j (by omega)
          have : c ≠ a i := fun y => z (y ▸ c2)
          exact ⟨c, c1, (mo c c1).mpr (Or.inl c2), by rw [up_n this]; exact c3⟩) (fun c hc6 hm => by
        rw [e, st]
        by_cases q : c = a i
        · subst q
          rw [up_s, pk_us, if_pos rfl, zs_z (fun x hx y => z ((h1 _ hc6).mpr ⟨x, hx, eqB_e.mp y⟩)), Int.zero_add]
        · have hm2 := ((mo c hc6).mp hm).resolve_right q
          have := h2 c hc6 hm2
          rw [up_n q, pk_un (by omega), if_neg (fun y => q y.symm), Int.add_zero]
          exact h5 c hc6 hm2)
      rw [eb] at k2
      exact ⟨k, k1, Or.inl (by rw [← hi]; exact k2)⟩
/-- the class's number by groups is the greatest -/
theorem pg_mx {v : Nat → Int32} {cnt : Nat} (hc : cnt ≤ 6) (hV : bdV (fun i => (v i).toInt) cnt) (h0 : zs (fun i => (v i).toInt) cnt (fun _ => true) = 0) : Mx (fun i => (v i).toInt) cnt (fun _ => true) (st_pg v cnt cnt 0 (fun _ => 0) 0 : Nat) := by
  obtain ⟨p1, p2, p3⟩ := pg_e (v := v) (cnt := cnt) cnt 0 (fun _ => 0) 0
  constructor
  · rcases p3 with p3 | p3
    · exact ⟨0, by rw [p3], trivial⟩
    · obtain ⟨a, a1, a2⟩ := Rp_a hc hV cnt 0 _ (fun _ => 0) _ (Nat.le_refl _) (fun j hj => absurd hj (Nat.not_lt_zero _)) (fun j _ x hx => by omega) (fun j hj => absurd hj (Nat.not_lt_zero _)) p3
      exact ⟨_, rfl, Dj_m _ _ _ (fun _ _ _ => rfl) (Dj_of a1 a2 _ (Nat.le_refl _))⟩
  · intro k hk
    match k, hk with
    | 0, _ => exact Int.natCast_nonneg _
    | k + 1, hk =>
      have hk6 := Dj_le cnt (k + 1) _ (fun i hi _ => hi) hk
      obtain ⟨a, a1, a2⟩ := Dj_lab k _ h0 hk
      have same : ∀ j, zs (fun i => (v i).toInt) cnt (eqB a j) = zs (fun i => (v i).toInt) cnt (anB (fun _ => true) (eqB a j)) := fun j => zs_c (fun i _ => ⟨fun y => anB_e.mpr ⟨rfl, y⟩, fun y => (anB_e.mp y).2⟩)
      obtain ⟨m, m1, m2⟩ := Rp_l (a := a) hc hV (K := k + 1) (by omega) (fun i hi => by have := a1 i hi rfl; omega) (fun j hj => by
        obtain ⟨-, x, x1, -, x2⟩ := a2 j (by omega)
        exact ⟨x, x1, x2⟩) (fun j hj => by rw [same]; exact (a2 j (by omega)).1) cnt (fun _ => 0) 0 (fun _ => 0) (Nat.le_refl _) (by decide) (fun c _ => ⟨fun y => absurd y mS_0, fun ⟨x, x1, _⟩ => by omega⟩) (fun c _ y => absurd y mS_0) (fun c d _ _ y => absurd y mS_0) (fun j hj => absurd hj (Nat.not_lt_zero _)) (fun c _ y => absurd y mS_0)
      have := p2 m m2
      omega

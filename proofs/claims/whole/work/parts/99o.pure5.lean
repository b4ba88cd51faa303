/-! ===== PURE: commands, texts ===== -/
def pf_l (s : Nat → Nat) (ds : List Nat) (pl p : Nat) (T : Nat → Int32) : pq_T := match ds with
  | [] => (true, p, T)
  | d :: ds => pq_a (pq_f s d pl p T) (fun p T => pf_l s ds (pl + 1) p T)
theorem pq_a_id (A : pq_T) : pq_a A (fun p T => (true, p, T)) = A := by
  unfold pq_a
  by_cases z : A.1 = true
  · rw [if_pos z]
    exact Prod.ext z.symm rfl
  · rw [if_neg z]
theorem pf_1 (s : Nat → Nat) (d pl p : Nat) (T : Nat → Int32) : pf_l s [d] pl p T = pq_f s d pl p T := pq_a_id _
theorem pf_2 (s : Nat → Nat) (d1 d2 pl p : Nat) (T : Nat → Int32) : pf_l s [d1, d2] pl p T = pq_a (pq_f s d1 pl p T) (fun p T => pq_f s d2 (pl + 1) p T) := congrArg (pq_a _) (funext fun p => funext fun T => pf_1 s d2 (pl + 1) p T)
theorem pf_t (s : Nat → Nat) (pl p : Nat) (T : Nat → Int32) : pf_l s [1, 1, 1, 2, 1] pl p T = pc_t s pl p T := by
  refine congrArg (pq_a _) (funext fun p => funext fun T => ?_)
  refine congrArg (pq_a _) (funext fun p => funext fun T => ?_)
  refine congrArg (pq_a _) (funext fun p => funext fun T => ?_)
  exact pf_2 s 2 1 (pl + 3) p T
theorem dg_1 {s : Nat → Nat} {d q : Nat} (hd : 1 ≤ d) : (q < (rd_dg s d q 0).1 ↔ (48 ≤ s q ∧ s q ≤ 57)) ∧ (¬ (48 ≤ s q ∧ s q ≤ 57) → (rd_dg s d q 0).1 = q) := by
  obtain ⟨e, rfl⟩ : ∃ e, d = e + 1 := ⟨d - 1, by omega⟩
  have h2 := (rd_dg_le s e (q + 1) (0 * 10 + (s q - 48))).1
  unfold rd_dg
  by_cases z : 48 ≤ s q ∧ s q ≤ 57
  · rw [if_pos z]
    exact ⟨⟨fun _ => z, fun _ => by omega⟩, fun y => absurd z y⟩
  · rw [if_neg z]
    exact ⟨⟨fun y => absurd y (Nat.lt_irrefl _), fun y => absurd y z⟩, fun _ => rfl⟩
theorem ns_pf {s d : Nat → Nat} {b : Nat} : ∀ (ds : List Nat) (i p pl : Nat) (ar T : Nat → Int32), (∀ j, j < ds.length → d (i + j) = ds.getD j 0 ∧ 1 ≤ ds.getD j 0) → (rd_ns s d b ds.length i p ar).1 = (pf_l s ds pl p T).1 ∧ (rd_ns s d b ds.length i p ar).2.1 = (pf_l s ds pl p T).2.1 ∧ ((rd_ns s d b ds.length i p ar).1 = true → ∀ j, j < ds.length → (rd_ns s d b ds.length i p ar).2.2 (b + i + j) = (pf_l s ds pl p T).2.2 (pl + j)) ∧ (∀ q, (q < pl ∨ pl + ds.length ≤ q) → (pf_l s ds pl p T).2.2 q = T q) ∧ ((pf_l s ds pl p T).1 = true → p + 2 * ds.length ≤ (pf_l s ds pl p T).2.1)
  | [], i, p, pl, ar, T, _ => ⟨rfl, rfl, fun _ j hj => absurd hj (Nat.not_lt_zero j), fun _ _ => rfl, fun _ => Nat.le_refl _⟩
  | x :: ds, i, p, pl, ar, T, h => by
    obtain ⟨hx, hx1⟩ := h 0 (Nat.zero_lt_succ _)
    have hx : d i = x := hx
    have hx1 : 1 ≤ x := hx1
    have hds : ∀ j, j < ds.length → d (i + 1 + j) = ds.getD j 0 ∧ 1 ≤ ds.getD j 0 := fun j hj => by
      have := h (j + 1) (Nat.succ_lt_succ hj)
      rw [show i + 1 + j = i + (j + 1) by omega]
      exact this
    show (rd_ns s d b (ds.length + 1) i p ar).1 = (pq_a (pq_f s x pl p T) (fun p T => pf_l s ds (pl + 1) p T)).1 ∧ (rd_ns s d b (ds.length + 1) i p ar).2.1 = (pq_a (pq_f s x pl p T) (fun p T => pf_l s ds (pl + 1) p T)).2.1 ∧ ((rd_ns s d b (ds.length + 1) i p ar).1 = true → ∀ j, j < ds.length + 1 → (rd_ns s d b (ds.length + 1) i p ar).2.2 (b + i + j) = (pq_a (pq_f s x pl p T) (fun p T => pf_l s ds (pl + 1) p T)).2.2 (pl + j)) ∧ (∀ q, (q < pl ∨ pl + (ds.length + 1) ≤ q) → (pq_a (pq_f s x pl p T) (fun p T => pf_l s ds (pl + 1) p T)).2.2 q = T q) ∧ ((pq_a (pq_f s x pl p T) (fun p T => pf_l s ds (pl + 1) p T)).1 = true → p + 2 * (ds.length + 1) ≤ (pq_a (pq_f s x pl p T) (fun p T => pf_l s ds (pl + 1) p T)).2.1)
    unfold rd_ns pq_f
    rw [hx]
    by_cases z : s p = 32
    · rw [if_pos z, if_pos z]
      obtain ⟨g1, g2⟩ := dg_1 (s := s) (q := p + 1) hx1
      by_cases y : 48 ≤ s (p + 1) ∧ s (p + 1) ≤ 57
      · rw [if_pos (g1.mpr y), if_pos y]
        obtain ⟨R, hR⟩ : ∃ R, R = rd_dg s x (p + 1) 0 := ⟨_, rfl⟩
        have g3 := g1.mpr y
        rw [← hR] at g3 ⊢
        have ea : pq_a (true, R.1, upd T pl (nI R.2)) (fun p T => pf_l s ds (pl + 1) p T) = pf_l s ds (pl + 1) R.1 (upd T pl (nI R.2)) := if_pos rfl
        rw [ea]
        obtain ⟨k1, k2, k3, k4, k5⟩ := ns_pf (b := b) ds (i + 1) R.1 (pl + 1) (upd ar (b + i) (nI R.2)) (upd T pl (nI R.2)) hds
        refine ⟨k1, k2, fun ht j hj => ?_, fun q hq => ?_, fun ht => ?_⟩
        · cases j with
          | zero =>
            rw [rd_ns_out ds.length (i + 1) _ _ _ (by omega), k4 _ (by omega), Nat.add_zero, Nat.add_zero, pk_us, pk_us]
          | succ j =>
            have := k3 ht j (by omega)
            rw [show b + i + (j + 1) = b + (i + 1) + j by omega, show pl + (j + 1) = pl + 1 + j by omega]
            exact this
        · rw [k4 q (by omega), pk_un (by omega)]
        · have := k5 ht
          omega
      · rw [if_neg (fun u => y (g1.mp u)), if_neg y, g2 y]
        exact ⟨rfl, rfl, (fun u => by cases u), (fun q _ => rfl), (fun u => by cases u)⟩
    · rw [if_neg z, if_neg z]
      exact ⟨rfl, rfl, (fun u => by cases u), (fun q _ => rfl), (fun u => by cases u)⟩
/-- the digits of a command's numbers -/
def dl (c : Nat) : List Nat := match c with
  | 0 => [2, 2]
  | 1 => [4]
  | 2 => [1, 1, 1, 2, 1]
  | 3 => [1, 2]
  | 4 => []
  | 5 => [1, 4]
  | 6 => [1, 4]
  | _ => [1, 4]
theorem dl_ok : ∀ c, c < 8 → (ks_l (rd_di c)).length = (dl c).length ∧ ∀ j, j < (dl c).length → ks_t (rd_di c) j - 48 = (dl c).getD j 0 ∧ 1 ≤ (dl c).getD j 0 := by decide +kernel
theorem pw_t {s : Nat → Nat} {cnt wh k p : Nat} {T : Nat → Int32} {f : Nat → (Nat → Int32) → pq_T} (h : rd_cm (fun j => s (p + j)) (ks_t k) (ks_l k).length 0 = (ks_l k).length) : pq_a (pq_w s cnt wh k p T) f = f (p + (ks_l k).length) (upd T (6 * cnt) (nI wh)) := by
  unfold pq_a pq_w
  rw [h]
  show (if decide ((ks_l k).length = (ks_l k).length) = true then _ else _) = _
  rw [if_pos (decide_eq_true rfl)]
theorem pw_f {s : Nat → Nat} {cnt wh k p : Nat} {T : Nat → Int32} {f : Nat → (Nat → Int32) → pq_T} (h : ¬ rd_cm (fun j => s (p + j)) (ks_t k) (ks_l k).length 0 = (ks_l k).length) : (pq_a (pq_w s cnt wh k p T) f).1 = false ∧ (pq_a (pq_w s cnt wh k p T) f).2.1 = p + rd_cm (fun j => s (p + j)) (ks_t k) (ks_l k).length 0 := by
  have e : pq_a (pq_w s cnt wh k p T) f = pq_w s cnt wh k p T := if_neg (fun z => h (of_decide_eq_true z))
  rw [e]
  exact ⟨decide_eq_false h, rfl⟩
theorem sh_f (s : Nat → Nat) (p m : Nat) : (fun j => s (p + (m + j))) = fun j => s (p + m + j) := funext fun j => by rw [Nat.add_assoc]
/-- a command in the model, by its word -/
def pn_C (s : Nat → Nat) (cnt pl p : Nat) (T : Nat → Int32) : Prop := ((wd (fun j => s (p + j))).1 = -1 ∧ (pc_C s cnt pl p T).1 = false ∧ (pc_C s cnt pl p T).2.1 = p + (wd (fun j => s (p + j))).2) ∨ ∃ c T', c < 8 ∧ (wd (fun j => s (p + j))).1 = nI c ∧ T' (6 * cnt) = nI c ∧ (∀ q, q ≠ 6 * cnt → T' q = T q) ∧ 4 ≤ (wd (fun j => s (p + j))).2 + 2 * (dl c).length ∧ pc_C s cnt pl p T = pf_l s (dl c) pl (p + (wd (fun j => s (p + j))).2) T'
theorem pn_in {s : Nat → Nat} {cnt pl p : Nat} {T : Nat → Int32} {c m : Nat} {T' : Nat → Int32} (hc : c < 8) (h : wd (fun j => s (p + j)) = (nI c, m)) (h1 : T' (6 * cnt) = nI c) (h2 : ∀ q, q ≠ 6 * cnt → T' q = T q) (h3 : 4 ≤ m + 2 * (dl c).length) (h4 : pc_C s cnt pl p T = pf_l s (dl c) pl (p + m) T') : pn_C s cnt pl p T := by
  refine Or.inr ⟨c, T', hc, ?_, h1, h2, ?_, ?_⟩
  · rw [h]
  · rw [h]
    exact h3
  · rw [h]
    exact h4
theorem pn_no {s : Nat → Nat} {cnt pl p : Nat} {T : Nat → Int32} {m : Nat} (h : wd (fun j => s (p + j)) = (-1, m)) (h1 : (pc_C s cnt pl p T).1 = false) (h2 : (pc_C s cnt pl p T).2.1 = p + m) : pn_C s cnt pl p T := by
  refine Or.inl ⟨?_, h1, ?_⟩
  · rw [h]
  · rw [h]
    exact h2
theorem up_1 {T : Nat → Int32} {a : Nat} {v : Int32} : ∀ q, q ≠ a → upd T a v q = T q := fun q h => pk_un h
/-- a word with two numbers -/
theorem pn_2 {s : Nat → Nat} {cnt pl p : Nat} {T : Nat → Int32} {c k m d1 d2 len : Nat} (hc : c < 8) (hl : (ks_l k).length = len) (hdl : dl c = [d1, d2]) (hlen : 1 ≤ m + len) (hpc : pc_C s cnt pl p T = pc_2 s cnt c k d1 d2 pl (p + m) T) (hw : wd (fun j => s (p + j)) = if rd_cm (fun j => s (p + (m + j))) (ks_t k) len 0 = len then (nI c, m + len) else (-1, m + rd_cm (fun j => s (p + (m + j))) (ks_t k) len 0)) : pn_C s cnt pl p T := by
  rw [sh_f] at hw
  subst hl
  by_cases z : rd_cm (fun j => s (p + m + j)) (ks_t k) (ks_l k).length 0 = (ks_l k).length
  · rw [if_pos z] at hw
    refine pn_in hc hw pk_us up_1 (by rw [hdl]; show 4 ≤ m + (ks_l k).length + 2 * 2; omega) ?_
    rw [hpc, hdl, pf_2]
    unfold pc_2
    rw [pw_t z, Nat.add_assoc]
  · rw [if_neg z] at hw
    obtain ⟨a, b⟩ := pw_f (cnt := cnt) (wh := c) (T := T) (f := fun p T => pq_a (pq_f s d1 pl p T) (fun p T => pq_f s d2 (pl + 1) p T)) z
    refine pn_no hw ?_ ?_
    · rw [hpc]
      exact a
    · rw [hpc]
      exact b.trans (Nat.add_assoc _ _ _)
theorem pn_all (s : Nat → Nat) (cnt pl p : Nat) (T : Nat → Int32) : pn_C s cnt pl p T := by
  by_cases h104 : s p = 104
  · exact pn_2 (c := 0) (k := 35) (m := 1) (len := 6) (by decide) rfl rfl (by decide) (if_pos h104) (if_pos h104)
  by_cases h116 : s p = 116
  · have ew : wd (fun j => s (p + j)) = (if rd_cm (fun j => s (p + (1 + j))) (ks_t 36) 4 0 = 4 then (if s (p + 5) = 114 then (nI 1, 6) else (nI 2, 5)) else (-1, 1 + rd_cm (fun j => s (p + (1 + j))) (ks_t 36) 4 0)) := (if_neg h104).trans (if_pos h116)
    have ec : pc_C s cnt pl p T = pc_T s cnt pl (p + 1) T := (if_neg h104).trans (if_pos h116)
    rw [sh_f] at ew
    by_cases z : rd_cm (fun j => s (p + 1 + j)) (ks_t 36) 4 0 = 4
    · rw [if_pos z] at ew
      have e2 : pc_T s cnt pl (p + 1) T = if s (p + 5) = 114 then pc_r s cnt pl (p + 5 + 1) (upd T (6 * cnt) (nI 2)) else pc_t s pl (p + 5) (upd T (6 * cnt) (nI 2)) := pw_t (k := 36) z
      by_cases y : s (p + 5) = 114
      · rw [if_pos y] at ew e2
        refine pn_in (c := 1) (T' := upd (upd T (6 * cnt) (nI 2)) (6 * cnt) (nI 1)) (by decide) ew pk_us (fun q hq => by rw [pk_un hq, pk_un hq]) (by decide) ?_
        rw [ec, e2]
        show pq_a (pq_w s cnt 1 37 (p + 6) (upd T (6 * cnt) (nI 2))) _ = pf_l s [4] pl (p + 6) _
        rw [pf_1]
        exact pw_t (k := 37) rfl
      · rw [if_neg y] at ew e2
        refine pn_in (c := 2) (T' := upd T (6 * cnt) (nI 2)) (by decide) ew pk_us up_1 (by decide) ?_
        rw [ec, e2]
        exact (pf_t s pl (p + 5) _).symm
    · rw [if_neg z] at ew
      obtain ⟨a, b⟩ := pw_f (k := 36) (cnt := cnt) (wh := 2) (T := T) (p := p + 1) (f := fun p T => if s p = 114 then pc_r s cnt pl (p + 1) T else pc_t s pl p T) z
      refine pn_no ew ?_ ?_
      · rw [ec]
        exact a
      · rw [ec]
        exact b.trans (Nat.add_assoc _ _ _)
  by_cases h113 : s p = 113
  · exact pn_2 (c := 3) (k := 38) (m := 1) (len := 4) (by decide) rfl rfl (by decide) ((if_neg h104).trans ((if_neg h116).trans (if_pos h113))) ((if_neg h104).trans ((if_neg h116).trans (if_pos h113)))
  by_cases h100 : s p = 100
  · have ec : pc_C s cnt pl p T = pc_D s cnt pl (p + 1) T := (if_neg h104).trans ((if_neg h116).trans ((if_neg h113).trans (if_pos h100)))
    have ew : wd (fun j => s (p + j)) = (if s (p + 1) = 97 then (if rd_cm (fun j => s (p + (2 + j))) (ks_t 39) 2 0 = 2 then (nI 4, 4) else (-1, 2 + rd_cm (fun j => s (p + (2 + j))) (ks_t 39) 2 0)) else (if rd_cm (fun j => s (p + (1 + j))) (ks_t 40) 3 0 = 3 then (nI 6, 4) else (-1, 1 + rd_cm (fun j => s (p + (1 + j))) (ks_t 40) 3 0))) := (if_neg h104).trans ((if_neg h116).trans ((if_neg h113).trans (if_pos h100)))
    by_cases h97 : s (p + 1) = 97
    · rw [if_pos h97, sh_f] at ew
      have e2 : pc_D s cnt pl (p + 1) T = pq_w s cnt 4 39 (p + 2) T := if_pos h97
      by_cases z : rd_cm (fun j => s (p + 2 + j)) (ks_t 39) 2 0 = 2
      · rw [if_pos z] at ew
        refine pn_in (c := 4) (T' := upd T (6 * cnt) (nI 4)) (by decide) ew pk_us up_1 (by decide) ?_
        rw [ec, e2]
        have e3 := pw_t (k := 39) (cnt := cnt) (wh := 4) (T := T) (f := fun p T => (true, p, T)) z
        rw [pq_a_id] at e3
        exact e3
      · rw [if_neg z] at ew
        obtain ⟨a, b⟩ := pw_f (k := 39) (cnt := cnt) (wh := 4) (T := T) (p := p + 2) (f := fun p T => (true, p, T)) z
        rw [pq_a_id] at a b
        refine pn_no ew ?_ ?_
        · rw [ec, e2]
          exact a
        · rw [ec, e2]
          exact b.trans (Nat.add_assoc _ _ _)
    · rw [if_neg h97] at ew
      exact pn_2 (c := 6) (k := 40) (m := 1) (len := 3) (by decide) rfl rfl (by decide) (ec.trans (if_neg h97)) ew
  by_cases h112 : s p = 112
  · exact pn_2 (c := 5) (k := 41) (m := 1) (len := 2) (by decide) rfl rfl (by decide) ((if_neg h104).trans ((if_neg h116).trans ((if_neg h113).trans ((if_neg h100).trans (if_pos h112))))) ((if_neg h104).trans ((if_neg h116).trans ((if_neg h113).trans ((if_neg h100).trans (if_pos h112)))))
  by_cases h103 : s p = 103
  · exact pn_2 (c := 7) (k := 42) (m := 1) (len := 3) (by decide) rfl rfl (by decide) ((if_neg h104).trans ((if_neg h116).trans ((if_neg h113).trans ((if_neg h100).trans ((if_neg h112).trans (if_pos h103)))))) ((if_neg h104).trans ((if_neg h116).trans ((if_neg h113).trans ((if_neg h100).trans ((if_neg h112).trans (if_pos h103))))))
  have ec : pc_C s cnt pl p T = (false, p, T) := (if_neg h104).trans ((if_neg h116).trans ((if_neg h113).trans ((if_neg h100).trans ((if_neg h112).trans (if_neg h103)))))
  refine pn_no (m := 0) ((if_neg h104).trans ((if_neg h116).trans ((if_neg h113).trans ((if_neg h100).trans ((if_neg h112).trans (if_neg h103)))))) ?_ ?_
  · rw [ec]
  · rw [ec]
    rfl
/-- the commands before cnt are the same in the class and in the model -/
def rl (cnt : Nat) (cm ar T : Nat → Int32) : Prop := ∀ i, i < cnt → ∃ c, c < 8 ∧ cm i = nI c ∧ T (6 * i) = nI c ∧ ∀ j, j < np c → ar (i * 5 + j) = T (6 * i + 1 + j)
theorem co_pc {t : Nat → Nat} {n cnt p : Nat} {cm ar T : Nat → Int32} (h : rl cnt cm ar T) : (rd_co t n cnt cm ar p).1 = (pc_C (sg t n) cnt (6 * cnt + 1) p T).1 ∧ (rd_co t n cnt cm ar p).2.2.2 = (pc_C (sg t n) cnt (6 * cnt + 1) p T).2.1 ∧ ((rd_co t n cnt cm ar p).1 = true → p + 4 ≤ (pc_C (sg t n) cnt (6 * cnt + 1) p T).2.1 ∧ rl (cnt + 1) (rd_co t n cnt cm ar p).2.1 (rd_co t n cnt cm ar p).2.2.1 (pc_C (sg t n) cnt (6 * cnt + 1) p T).2.2) := by
  obtain ⟨w1, w2⟩ := ws_wd (s := fun j => sg t n (p + j))
  unfold rd_co
  rw [w1, w2]
  rcases pn_all (sg t n) cnt (6 * cnt + 1) p T with ⟨a1, a2, a3⟩ | ⟨c, T', hc, a1, a2, a3, a5, a4⟩
  · rw [if_pos a1, a2, a3]
    exact ⟨rfl, rfl, fun z => by cases z⟩
  · have hn : ¬ (wd (fun j => sg t n (p + j))).1 = -1 := by
      rw [a1]
      exact nI_m1 (by omega)
    rw [if_neg hn, a1, nI_clamp (by omega), a4]
    obtain ⟨m, hm⟩ : ∃ m, m = (wd (fun j => sg t n (p + j))).2 := ⟨_, rfl⟩
    rw [← hm] at a5 ⊢
    obtain ⟨d1, d2⟩ := dl_ok c hc
    show (rd_ns (sg t n) (fun i => ks_t (rd_di c) i - 48) (cnt * 5) (ks_l (rd_di c)).length 0 (p + m) ar).1 = _ ∧ (rd_ns (sg t n) (fun i => ks_t (rd_di c) i - 48) (cnt * 5) (ks_l (rd_di c)).length 0 (p + m) ar).2.1 = _ ∧ ((rd_ns (sg t n) (fun i => ks_t (rd_di c) i - 48) (cnt * 5) (ks_l (rd_di c)).length 0 (p + m) ar).1 = true → _ ∧ rl (cnt + 1) (upd cm cnt (nI c)) (rd_ns (sg t n) (fun i => ks_t (rd_di c) i - 48) (cnt * 5) (ks_l (rd_di c)).length 0 (p + m) ar).2.2 _)
    rw [d1]
    obtain ⟨k1, k2, k3, k4, k5⟩ := ns_pf (s := sg t n) (d := fun i => ks_t (rd_di c) i - 48) (b := cnt * 5) (dl c) 0 (p + m) (6 * cnt + 1) ar T' (fun j hj => by rw [Nat.zero_add]; exact d2 j hj)
    refine ⟨k1, k2, fun ht => ⟨by have := k5 (k1.symm.trans ht); omega, fun i hi => ?_⟩⟩
    have h5 : (dl c).length ≤ 5 := by rw [← d1]; exact np_le c hc
    by_cases q : i = cnt
    · subst q
      refine ⟨c, hc, pk_us, (k4 _ (by omega)).trans a2, fun j hj => ?_⟩
      have hj : j < (dl c).length := by rw [← d1]; exact hj
      exact k3 ht j hj
    · obtain ⟨c', g1, g2, g3, g4⟩ := h i (by omega)
      have hp := np_le c' g1
      refine ⟨c', g1, (pk_un q).trans g2, ?_, fun j hj => ?_⟩
      · exact (k4 _ (by omega)).trans ((a3 _ (by omega)).trans g3)
      · rw [k4 _ (by omega), a3 _ (by omega)]
        show (rd_ns _ _ _ _ _ _ _).2.2 _ = _
        rw [rd_ns_out _ _ _ _ _ (by omega)]
        exact g4 j hj
theorem tx_tm {t : Nat → Nat} {n : Nat} (hn : n ≤ 60) : ∀ f cnt p (cm ar T : Nat → Int32), f + cnt = 12 → 5 * cnt ≤ p → rl cnt cm ar T → (rd_tx t n f cnt cm ar p).1 = (tm_r (sg t n) n (f + 19) cnt p T).1 ∧ (rd_tx t n f cnt cm ar p).2.2.2.2 = (tm_r (sg t n) n (f + 19) cnt p T).2.2.1 ∧ ((rd_tx t n f cnt cm ar p).1 = true → (rd_tx t n f cnt cm ar p).2.1 = (tm_r (sg t n) n (f + 19) cnt p T).2.1 ∧ rl (rd_tx t n f cnt cm ar p).2.1 (rd_tx t n f cnt cm ar p).2.2.1 (rd_tx t n f cnt cm ar p).2.2.2.1 (tm_r (sg t n) n (f + 19) cnt p T).2.2.2)
  | 0, cnt, p, cm, ar, T, hc, h5, h => by
    have hs : sg t n p = 0 := if_neg (by omega)
    have ec : pc_C (sg t n) cnt (6 * cnt + 1) p T = (false, p, T) := by
      unfold pc_C
      rw [hs, if_neg (by decide), if_neg (by decide), if_neg (by decide), if_neg (by decide), if_neg (by decide), if_neg (by decide)]
    have et : tm_r (sg t n) n (0 + 19) cnt p T = (false, cnt, p, T) := by
      show tm_r (sg t n) n (18 + 1) cnt p T = _
      unfold tm_r
      rw [ec, if_neg (fun z => by cases z)]
    rw [et]
    exact ⟨rfl, rfl, fun z => by cases z⟩
  | f + 1, cnt, p, cm, ar, T, hc, h5, h => by
    obtain ⟨k1, k2, k3⟩ := co_pc (t := t) (n := n) (p := p) h
    have e1 : f + 1 + 19 = (f + 19) + 1 := by omega
    rw [e1]
    unfold rd_tx tm_r
    obtain ⟨C, hC⟩ : ∃ C, C = rd_co t n cnt cm ar p := ⟨_, rfl⟩
    obtain ⟨A, hA⟩ : ∃ A, A = pc_C (sg t n) cnt (6 * cnt + 1) p T := ⟨_, rfl⟩
    rw [← hC, ← hA] at k1 k2 k3
    rw [← hC, ← hA]
    show (ite _ _ _ : rd_T).1 = (ite _ _ _ : tm_T).1 ∧ (ite _ _ _ : rd_T).2.2.2.2 = (ite _ _ _ : tm_T).2.2.1 ∧ ((ite _ _ _ : rd_T).1 = true → (ite _ _ _ : rd_T).2.1 = (ite _ _ _ : tm_T).2.1 ∧ rl (ite _ _ _ : rd_T).2.1 (ite _ _ _ : rd_T).2.2.1 (ite _ _ _ : rd_T).2.2.2.1 (ite _ _ _ : tm_T).2.2.2)
    rw [← k1, ← k2]
    by_cases z : C.1 = true
    · obtain ⟨g1, g2⟩ := k3 z
      simp only [if_pos z]
      by_cases z2 : C.2.2.2 = n
      · have hs : ¬ sg t n C.2.2.2 = 59 := by
          rw [show sg t n C.2.2.2 = 0 from if_neg (by omega)]
          decide
        simp only [if_pos z2, if_neg hs]
        exact ⟨(decide_eq_true z2).symm, trivial, fun _ => ⟨trivial, g2⟩⟩
      · simp only [if_neg z2]
        by_cases z3 : sg t n C.2.2.2 = 59
        · simp only [if_pos z3]
          exact tx_tm hn f (cnt + 1) _ _ _ _ (by omega) (by omega) g2
        · simp only [if_neg z3]
          exact ⟨(decide_eq_false z2).symm, trivial, fun y => by cases y⟩
    · simp only [if_neg z]
      exact ⟨trivial, trivial, fun y => by cases y⟩
/-- a text says the same in both -/
theorem tx_e {t : Nat → Nat} {n : Nat} (hn : n ≤ 60) (T : Nat → Int32) : (tx_p t n).1 = (tm_r (sg t n) n 31 0 0 T).1 ∧ (tx_p t n).2.2.2.2 = (tm_r (sg t n) n 31 0 0 T).2.2.1 ∧ ((tx_p t n).1 = true → (tx_p t n).2.1 = (tm_r (sg t n) n 31 0 0 T).2.1 ∧ rl (tx_p t n).2.1 (tx_p t n).2.2.1 (tx_p t n).2.2.2.1 (tm_r (sg t n) n 31 0 0 T).2.2.2) := tx_tm hn 12 0 0 _ _ _ rfl (Nat.le_refl _) (fun i hi => absurd hi (Nat.not_lt_zero i))

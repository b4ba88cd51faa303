/-! ===== THE MODEL: words, figures ===== -/
/-- what stands typed in the model -/
def Tp (S : mo_T) (t : Nat → Nat) (n : Nat) : Prop := S.2 4 = nI n ∧ n ≤ 60 ∧ ∀ i, i < n → S.1 4 i = nI (t i) ∧ 0 < t i ∧ t i < 128
/-- the place, the number of commands, what is told -/
def mo_pr (S : mo_T) (p cnt : Nat) (T : Nat → Int32) : mo_T := (fun j => if j = 11 then T else S.1 j, upd (upd S.2 10 (nI p)) 11 (nI cnt))
theorem mo_pr_s {S : mo_T} {p cnt : Nat} {T : Nat → Int32} {i : Nat} {v : Int32} : mo_sa (mo_pr S p cnt T) 11 i v = mo_pr S p cnt (upd T i v) := by
  refine Prod.ext (funext fun j => ?_) rfl
  show (if j = 11 then upd T i v else if j = 11 then T else S.1 j) = (if j = 11 then upd T i v else S.1 j)
  by_cases q : j = 11
  · rw [if_pos q, if_pos q]
  · rw [if_neg q, if_neg q, if_neg q]
theorem mo_pr_p {S : mo_T} {p q cnt : Nat} {T : Nat → Int32} : mo_si (mo_pr S p cnt T) 10 (nI q) = mo_pr S q cnt T := by
  refine Prod.ext rfl ?_
  show upd (upd (upd S.2 10 (nI p)) 11 (nI cnt)) 10 (nI q) = upd (upd S.2 10 (nI q)) 11 (nI cnt)
  rw [mo_uc _ (show (11 : Nat) ≠ 10 by decide), mo_uu]
theorem mo_pr_c {S : mo_T} {p cnt c : Nat} {T : Nat → Int32} : mo_si (mo_pr S p cnt T) 11 (nI c) = mo_pr S p c T := by
  refine Prod.ext rfl ?_
  show upd (upd (upd S.2 10 (nI p)) 11 (nI cnt)) 11 (nI c) = upd (upd S.2 10 (nI p)) 11 (nI c)
  rw [mo_uu]
theorem mo_pr_10 (S : mo_T) (p cnt : Nat) (T : Nat → Int32) : (mo_pr S p cnt T).2 10 = nI p := (show upd (upd S.2 10 (nI p)) 11 (nI cnt) 10 = nI p by rw [pk_un (by decide), pk_us])
theorem mo_pr_11 (S : mo_T) (p cnt : Nat) (T : Nat → Int32) : (mo_pr S p cnt T).2 11 = nI cnt := (show upd (upd S.2 10 (nI p)) 11 (nI cnt) 11 = nI cnt from pk_us)
theorem mo_pr_4 (S : mo_T) (p cnt : Nat) (T : Nat → Int32) : (mo_pr S p cnt T).2 4 = S.2 4 := (show upd (upd S.2 10 (nI p)) 11 (nI cnt) 4 = S.2 4 by rw [pk_un (by decide), pk_un (by decide)])
theorem Tp.pr {S : mo_T} {t : Nat → Nat} {n : Nat} (H : Tp S t n) (p cnt : Nat) (T : Nat → Int32) : Tp (mo_pr S p cnt T) t n := ⟨(mo_pr_4 S p cnt T).trans H.1, H.2⟩
theorem nI_neg1 {c : Nat} (h : c < 2 ^ 31) : ¬ (-1 : Int32) = nI c := fun z => absurd (z ▸ nI_pos' h : (0 : Int32) ≤ -1) (by decide)
theorem hr_eq {S : mo_T} {t : Nat → Nat} {n : Nat} (H : Tp S t n) {p c : Nat} (h0 : 0 < c) (h1 : c < 256) : mo_hr S p n = nI c ↔ sg t n p = c := by
  unfold mo_hr sg
  by_cases z : p < n
  · rw [if_pos z, if_pos z, (H.2.2 p z).1]
    have := (H.2.2 p z).2.2
    exact nI_eq (by omega) (by omega)
  · rw [if_neg z, if_neg z]
    exact ⟨fun y => absurd y (nI_neg1 (by omega)), fun y => by omega⟩
theorem hr_dg {S : mo_T} {t : Nat → Nat} {n : Nat} (H : Tp S t n) {p : Nat} : hp_wi (mo_hr S p n) (nI 48) (nI 57) ↔ 48 ≤ sg t n p ∧ sg t n p ≤ 57 := by
  unfold mo_hr sg
  by_cases z : p < n
  · rw [if_pos z, if_pos z, (H.2.2 p z).1]
    have := (H.2.2 p z).2.2
    exact ⟨fun y => ⟨(nI_leI (by decide) (by omega)).mp y.1, (nI_leI (by omega) (by decide)).mp y.2⟩, fun y => ⟨(nI_leI (by decide) (by omega)).mpr y.1, (nI_leI (by omega) (by decide)).mpr y.2⟩⟩
  · rw [if_neg z, if_neg z]
    exact ⟨fun y => absurd y.1 (by decide), fun y => by omega⟩
theorem hr_v {S : mo_T} {t : Nat → Nat} {n : Nat} (H : Tp S t n) {p : Nat} (h : 48 ≤ sg t n p) : mo_hr S p n = nI (sg t n p) ∧ p < n := by
  unfold sg at h ⊢
  unfold mo_hr
  by_cases z : p < n
  · rw [if_pos z, if_pos z]
    exact ⟨(H.2.2 p z).1, z⟩
  · rw [if_neg z] at h
    omega
theorem sg_in {t : Nat → Nat} {n p c : Nat} (h : sg t n p = c) (h0 : 0 < c) : p < n := by
  unfold sg at h
  by_cases z : p < n
  · exact z
  · rw [if_neg z] at h
    omega
theorem sk_pr {S : mo_T} {t : Nat → Nat} {n : Nat} (H : Tp S t n) {p cnt c : Nat} {T : Nat → Int32} (h0 : 0 < c) (h1 : c < 256) : mo_sk (mo_pr S p cnt T) p n (nI c) = mo_pr S (if sg t n p = c then p + 1 else p) cnt T := by
  unfold mo_sk
  have e := hr_eq (H.pr p cnt T) (p := p) h0 h1
  by_cases z : sg t n p = c
  · rw [if_pos z, if_pos (e.mpr z)]
    exact mo_pr_p
  · rw [if_neg z, if_neg (fun y => z (e.mp y))]
/-- whether it was read, the place behind, what is told -/
abbrev pq_T : Type := Bool × Nat × (Nat → Int32)
def pq_w (s : Nat → Nat) (cnt wh k p : Nat) (T : Nat → Int32) : pq_T := (decide (rd_cm (fun j => s (p + j)) (ks_t k) (ks_l k).length 0 = (ks_l k).length), p + rd_cm (fun j => s (p + j)) (ks_t k) (ks_l k).length 0, upd T (6 * cnt) (nI wh))
def pq_f (s : Nat → Nat) (dg pl p : Nat) (T : Nat → Int32) : pq_T := if s p = 32 then (if 48 ≤ s (p + 1) ∧ s (p + 1) ≤ 57 then (true, (rd_dg s dg (p + 1) 0).1, upd T pl (nI (rd_dg s dg (p + 1) 0).2)) else (false, p + 1, T)) else (false, p, T)
def pq_a (A : pq_T) (f : Nat → (Nat → Int32) → pq_T) : pq_T := if A.1 = true then f A.2.1 A.2.2 else A
theorem ks_nv : ∀ k, k < 43 → 35 ≤ k → ∀ j, j < (ks_l k).length → 0 < ks_t k j := by decide +kernel
theorem ks_nw (k : Nat) (h1 : 35 ≤ k) (h2 : k < 43) (j : Nat) (h3 : j < (ks_l k).length) : 0 < ks_t k j := ks_nv k h2 h1 j h3
theorem cm_le {t : Nat → Nat} {n p k : Nat} (hk : 35 ≤ k) (hk2 : k < 43) : ∀ e c, c + e = (ks_l k).length → p + c ≤ n → p + rd_cm (fun j => sg t n (p + j)) (ks_t k) e c ≤ n
  | 0, c, h1, h2 => h2
  | e + 1, c, h1, h2 => by
    unfold rd_cm
    split
    · rename_i z
      have h3 := sg_in z (ks_nw k hk hk2 c (by omega))
      exact cm_le hk hk2 e (c + 1) (by omega) (by omega)
    · exact h2
theorem dg_le {t : Nat → Nat} {n : Nat} : ∀ e p x, p ≤ n → (rd_dg (sg t n) e p x).1 ≤ n
  | 0, p, x, h => h
  | e + 1, p, x, h => by
    unfold rd_dg
    split
    · rename_i z
      have h3 := sg_in (t := t) (n := n) (p := p) rfl (by omega)
      exact dg_le e (p + 1) _ (by omega)
    · exact h
theorem pq_w_le {t : Nat → Nat} {n cnt wh k p : Nat} {T : Nat → Int32} (hk : 35 ≤ k) (hk2 : k < 43) (h : p ≤ n) : (pq_w (sg t n) cnt wh k p T).2.1 ≤ n := cm_le hk hk2 _ 0 (Nat.zero_add _) h
theorem pq_f_le {t : Nat → Nat} {n dg pl p : Nat} {T : Nat → Int32} (h : p ≤ n) : (pq_f (sg t n) dg pl p T).2.1 ≤ n := by
  unfold pq_f
  split
  · rename_i z
    have h3 := sg_in z (by decide)
    split
    · exact dg_le _ _ _ (by omega)
    · exact h3
  · exact h
set_option maxHeartbeats 8000000 in
theorem loop_X8_figures {G : hp_G} {K : hp_C} {P : hp_P} {n0 : Nat} {h0 : Nat → Option va_E} {y : Nat} {S : mo_T} {t : Nat → Nat} {n : Nat} (hI : Tp S t n) {cnt pl dg : Nat} {T : Nat → Int32} {Z : Nat × Nat} (hpl : pl < 186) (hdg : dg ≤ 4) (hbase : G.2.1 ≤ y) (C : hp_Cx G K MX8_figures) (E : hp_End G K P) (hRm : hp_Rm K = hp_rm 2 0 0) (hl : K.2.1.stackTraces = false) (hp : ∀ h, Mo G h y (mo_pr S Z.1 cnt (upd T pl (nI Z.2))) → (∀ a, (a < y ∨ y + 13 ≤ a) → h a = h0 a) → P (.inl (some (.int (nI 1)))) (n0, h)) : ∀ (e k p x : Nat) (h : Nat → Option va_E), k + e = dg → p ≤ n → rd_dg (sg t n) e p x = Z → Mo G h y (mo_pr S p cnt (upd T pl (nI x))) → (∀ a, (a < y ∨ y + 13 ≤ a) → h a = h0 a) → V G K MX8_figures 0 0 (n0, h) 34 [some (.ref y), some (.int (nI pl)), some (.int (nI dg)), some (.int (nI k))] [] := by
  have hn60 := hI.2.1
  intro e
  induction e with
  | zero =>
    intro k p x h hc hpn hZ H hO
    have e : k = dg := by omega
    subst e
    have hZ : (p, x) = Z := hZ
    subst hZ
    refine v_iload_n C dX8_figures_34 rfl ?_
    refine v_iload_n C dX8_figures_35 rfl ?_
    refine v_icmp_geN (tgt := 92) C dX8_figures_36 (by decide) (by omega) (by omega) (fun c36 => ?_) (fun c36 => absurd c36 (by omega))
    refine v_iconst (v := nI 1) C dX8_figures_92 (by decide) ?_
    exact v_zret C E dX8_figures_93 rfl rfl (hp _ H hO)
  | succ e ih =>
    intro k p x h hc hpn hZ H hO
    unfold rd_dg at hZ
    refine v_iload_n C dX8_figures_34 rfl ?_
    refine v_iload_n C dX8_figures_35 rfl ?_
    refine v_icmp_geN (tgt := 92) C dX8_figures_36 (by decide) (by omega) (by omega) (fun c36 => absurd c36 (by omega)) (fun c36 => ?_)
    refine v_aload_n C dX8_figures_39 rfl ?_
    refine v_callVi C (c_X8_here hl H (p := p) (len := n) (mo_pr_10 _ _ _ _) (hI.pr _ _ _).1 (by omega) hI.2.1) dX8_figures_40 mX8_here rfl H.o rfl wd8_168 rfl rfl (Nat.le_of_ble_eq_true rfl) (hp_rmle hRm (by decide) (by decide)) (Nat.le_of_ble_eq_true rfl) (Nat.le_of_ble_eq_true rfl) ?_
    refine v_bipush (v := nI 48) C dX8_figures_43 (by decide) ?_
    refine v_bipush (v := nI 57) C dX8_figures_45 (by decide) ?_
    have cI47 := c_X8_in (G := G) (n0 := n0) (h0 := h) hl (mo_hr (mo_pr S (p) cnt (upd T pl (nI x))) (p) n) (nI 48) (nI 57)
    rw [hp_b_iff (hr_dg (hI.pr _ _ _))] at cI47
    refine v_callSi C cI47 dX8_figures_47 mX8_in wd7_79 rfl rfl (Nat.le_of_ble_eq_true rfl) (hp_rmle hRm (by decide) (by decide)) (Nat.le_of_ble_eq_true rfl) (Nat.le_of_ble_eq_true rfl) ?_
    refine v_if_eqB (tgt := 92) C dX8_figures_50 (by decide) (fun c50 => ?_) (fun c50 => ?_)
    · rw [if_neg c50] at hZ
      subst hZ
      refine v_iconst (v := nI 1) C dX8_figures_92 (by decide) ?_
      exact v_zret C E dX8_figures_93 rfl rfl (hp _ H hO)
    · rw [if_pos c50] at hZ
      obtain ⟨hv, hlt⟩ := hr_v (hI.pr p cnt (upd T pl (nI x))) c50.1
      refine v_aload_n C dX8_figures_53 rfl ?_
      refine v_get C 22 dX8_figures_54 wd7_19 H.o rfl (by decide) ⟨rfl, rfl, rfl⟩ rfl ?_
      refine v_iload_n C dX8_figures_57 rfl ?_
      refine v_bipush (v := nI 10) C dX8_figures_58 (by decide) ?_
      refine v_aload_n C dX8_figures_60 rfl ?_
      refine v_get C 22 dX8_figures_61 wd7_19 H.o rfl (by decide) ⟨rfl, rfl, rfl⟩ rfl ?_
      refine v_iload_n C dX8_figures_64 rfl ?_
      refine v_ialdN C dX8_figures_65 H.a11 (by omega) (by decide) ?_
      rw [show (mo_pr S p cnt (upd T pl (nI x))).1 11 pl = nI x from pk_us]
      refine v_imulN C dX8_figures_66 ?_
      refine v_aload_n C dX8_figures_67 rfl ?_
      refine v_callVi C (c_X8_here hl H (p := p) (len := n) (mo_pr_10 _ _ _ _) (hI.pr _ _ _).1 (by omega) hI.2.1) dX8_figures_68 mX8_here rfl H.o rfl wd8_168 rfl rfl (Nat.le_of_ble_eq_true rfl) (hp_rmle hRm (by decide) (by decide)) (Nat.le_of_ble_eq_true rfl) (Nat.le_of_ble_eq_true rfl) ?_
      rw [hv]
      refine v_iaddN C dX8_figures_71 ?_
      refine v_bipush (v := nI 48) C dX8_figures_72 (by decide) ?_
      refine v_isubN C dX8_figures_74 (by omega) ?_
      refine v_iastN C dX8_figures_75 (by omega) H.a11 (by omega) (by decide) (fun h75 e75 g75 => ?_)
      have Y75 := H.s11 e75 g75
      have X75 := Y75.to mo_pr_s
      have W75 : ∀ a, (a < y ∨ y + 13 ≤ a) → h75 a = h0 a := fun a ha => (g75 a (by omega)).trans (hO a ha)
      rw [mo_uu, show 10 * x + sg t n p - 48 = x * 10 + (sg t n p - 48) by omega] at X75
      refine v_aload_n C dX8_figures_76 rfl ?_
      refine v_dup C dX8_figures_77 rfl ?_
      refine v_get (v := .int (nI (p))) C 21 dX8_figures_78 wd7_18 X75.o rfl (by decide) ⟨rfl, rfl, rfl⟩ rfl ?_
      refine v_iconst (v := nI 1) C dX8_figures_81 (by decide) ?_
      refine v_iaddN C dX8_figures_82 ?_
      refine v_put C 21 dX8_figures_83 wd7_18 hbase X75.o rfl (by decide) ⟨rfl, rfl, rfl, rfl⟩ rfl rfl rfl (Nat.le_of_ble_eq_true rfl) (fun h83 e83 g83 => ?_)
      have Y83 := X75.i10 e83 g83
      have X83 := Y83.to mo_pr_p
      have W83 : ∀ a, (a < y ∨ y + 13 ≤ a) → h83 a = h0 a := fun a ha => (g83 a (by omega)).trans (W75 a ha)
      refine v_iincN C dX8_figures_86 (by decide) rfl ?_
      refine v_goto (tgt := 34) C dX8_figures_89 (by decide) ?_
      exact ih (k + 1) (p + 1) _ _ (by omega) (by omega) hZ X83 W83
set_option maxHeartbeats 8000000 in
/-- a blank and a number -/
theorem c_X8_figures {G : hp_G} {l : Launch} (hl : l.stackTraces = false) {n0 : Nat} {h0 : Nat → Option va_E} {y : Nat} {S : mo_T} {t : Nat → Nat} {n : Nat} (hI : Tp S t n) {p cnt : Nat} {T : Nat → Int32} (hS : Mo G h0 y (mo_pr S p cnt T)) (hp : p ≤ n) {pl dg : Nat} (hpl : pl < 186) (hdg : dg ≤ 4) : Ct G l yX8_figures cX8_figures 4 (some .boolean) 2 0 0 [.ref y, .int (nI pl), .int (nI dg)] (n0, h0) (hp_iq (fun r τ => r = hp_b ((pq_f (sg t n) dg pl p T).1 = true) ∧ τ.1 = n0 ∧ Mo G τ.2 y (mo_pr S (pq_f (sg t n) dg pl p T).2.1 cnt (pq_f (sg t n) dg pl p T).2.2) ∧ ∀ a, (a < y ∨ y + 13 ≤ a) → τ.2 a = h0 a)) := by
  have hbase := hS.base
  have hn60 := hI.2.1
  have hO0 : ∀ a, (a < y ∨ y + 13 ≤ a) → h0 a = h0 a := fun _ _ => rfl
  refine Ct.of rfl hl (by simp [Value.category]) (Nat.le_of_ble_eq_true rfl) (fun K C E hRm hKl => ?_)
  subst hKl
  refine v_aload_n C dX8_figures_0 rfl ?_
  refine v_bipush (v := nI 32) C dX8_figures_1 (by decide) ?_
  refine v_callVq C (c_X8_skips hl hS (p := p) (len := n) (mo_pr_10 _ _ _ _) (hI.pr _ _ _).1 (by omega) hI.2.1 (nI 32)) dX8_figures_3 mX8_skips rfl hS.o rfl wd8_164 rfl rfl (Nat.le_of_ble_eq_true rfl) (hp_rmle hRm (by decide) (by decide)) (Nat.le_of_ble_eq_true rfl) (Nat.le_of_ble_eq_true rfl) (fun r3 n3 h3 q3 => ?_)
  obtain ⟨e3, k3, Y3, W3⟩ := q3
  have z3 := Eq.symm k3
  have z3 : n0 = n3 := z3
  subst z3
  have e3 : r3 = hp_b (sg t n (p) = 32) := e3.trans (hp_b_iff (hr_eq (hI.pr _ _ _) (by decide) (by decide)))
  subst e3
  have X3 := Y3.to (sk_pr hI (by decide) (by decide))
  have W3 : ∀ a, (a < y ∨ y + 13 ≤ a) → h3 a = h0 a := fun a ha => (W3 a ha).trans (hO0 a ha)
  refine v_if_eqB (tgt := 23) C dX8_figures_6 (by decide) (fun c6 => ?_) (fun c6 => ?_)
  · rw [if_neg c6] at X3
    have ev : pq_f (sg t n) dg pl p T = (false, p, T) := if_neg c6
    refine v_iconst (v := nI 0) C dX8_figures_23 (by decide) ?_
    exact v_zret C E dX8_figures_24 rfl rfl ⟨_, rfl, by rw [ev]; rfl, rfl, by rw [ev]; exact X3, W3⟩
  · rw [if_pos c6] at X3
    have hp1 := sg_in c6 (by decide)
    refine v_aload_n C dX8_figures_9 rfl ?_
    refine v_callVi C (c_X8_here hl X3 (p := (p + 1)) (len := n) (mo_pr_10 _ _ _ _) (hI.pr _ _ _).1 (by omega) hI.2.1) dX8_figures_10 mX8_here rfl X3.o rfl wd8_168 rfl rfl (Nat.le_of_ble_eq_true rfl) (hp_rmle hRm (by decide) (by decide)) (Nat.le_of_ble_eq_true rfl) (Nat.le_of_ble_eq_true rfl) ?_
    refine v_bipush (v := nI 48) C dX8_figures_13 (by decide) ?_
    refine v_bipush (v := nI 57) C dX8_figures_15 (by decide) ?_
    have cI17 := c_X8_in (G := G) (n0 := n0) (h0 := h3) hl (mo_hr (mo_pr S ((p + 1)) cnt T) ((p + 1)) n) (nI 48) (nI 57)
    rw [hp_b_iff (hr_dg (hI.pr _ _ _))] at cI17
    refine v_callSi C cI17 dX8_figures_17 mX8_in wd7_79 rfl rfl (Nat.le_of_ble_eq_true rfl) (hp_rmle hRm (by decide) (by decide)) (Nat.le_of_ble_eq_true rfl) (Nat.le_of_ble_eq_true rfl) ?_
    refine v_if_neB (tgt := 25) C dX8_figures_20 (by decide) (fun c20 => ?_) (fun c20 => ?_)
    · have ev : pq_f (sg t n) dg pl p T = (true, (rd_dg (sg t n) dg (p + 1) 0).1, upd T pl (nI (rd_dg (sg t n) dg (p + 1) 0).2)) := (if_pos c6).trans (if_pos c20)
      refine v_aload_n C dX8_figures_25 rfl ?_
      refine v_get C 22 dX8_figures_26 wd7_19 X3.o rfl (by decide) ⟨rfl, rfl, rfl⟩ rfl ?_
      refine v_iload_n C dX8_figures_29 rfl ?_
      refine v_iconst (v := nI 0) C dX8_figures_30 (by decide) ?_
      refine v_iastN C dX8_figures_31 (by omega) X3.a11 (by omega) (by decide) (fun h31 e31 g31 => ?_)
      have Y31 := X3.s11 e31 g31
      have X31 := Y31.to mo_pr_s
      have W31 : ∀ a, (a < y ∨ y + 13 ≤ a) → h31 a = h0 a := fun a ha => (g31 a (by omega)).trans (W3 a ha)
      refine v_iconst (v := nI 0) C dX8_figures_32 (by decide) ?_
      refine v_istore_n C dX8_figures_33 (by decide) ?_
      exact loop_X8_figures hI (Z := rd_dg (sg t n) dg (p + 1) 0) hpl hdg hbase C E hRm hl (fun h H hO => ⟨_, rfl, by rw [ev]; rfl, rfl, by rw [ev]; exact H, hO⟩) dg 0 (p + 1) 0 _ (Nat.zero_add _) (by omega) rfl X31 W31
    · have ev : pq_f (sg t n) dg pl p T = (false, p + 1, T) := (if_pos c6).trans (if_neg c20)
      refine v_iconst (v := nI 0) C dX8_figures_23 (by decide) ?_
      exact v_zret C E dX8_figures_24 rfl rfl ⟨_, rfl, by rw [ev]; rfl, rfl, by rw [ev]; exact X3, W3⟩
set_option maxHeartbeats 8000000 in
theorem loop_X8_isWord {G : hp_G} {K : hp_C} {P : hp_P} {n0 : Nat} {h0 : Nat → Option va_E} {y : Nat} {S : mo_T} {t : Nat → Nat} {n : Nat} (hI : Tp S t n) {p cnt wh k : Nat} {T : Nat → Int32} {Z : Nat} (hk : 35 ≤ k) (hk2 : k < 43) (hKc : Kc G h0) (hbase : G.2.1 ≤ y) (C : hp_Cx G K MX8_isWord) (E : hp_End G K P) (hRm : hp_Rm K = hp_rm 4 0 0) (hl : K.2.1.stackTraces = false) (hp : ∀ h, Mo G h y (mo_pr S (p + Z) cnt T) → (∀ a, (a < y ∨ y + 13 ≤ a) → h a = h0 a) → P (.inl (some (.int (hp_b (Z = (ks_l k).length))))) (n0, h)) : ∀ (e c : Nat) (h : Nat → Option va_E), c + e = (ks_l k).length → p + c ≤ n → rd_cm (fun j => sg t n (p + j)) (ks_t k) e c = Z → Mo G h y (mo_pr S (p + c) cnt T) → (∀ a, (a < y ∨ y + 13 ≤ a) → h a = h0 a) → V G K MX8_isWord 0 0 (n0, h) 15 [some (.ref y), some (.int (nI wh)), some (.ref (G.2.2.2 (2 * k + 2))), some (.int (nI c))] [] := by
  have hn60 := hI.2.1
  have hlen := ks_len k
  intro e
  induction e with
  | zero =>
    intro c h hc hpn hZ H hO
    have e : c = (ks_l k).length := by omega
    have hZ : c = Z := hZ
    subst hZ
    have hKh : Kc G h := hKc.same (fun a ha => hO a (by omega))
    obtain ⟨wv, wx, wy, wa, w1, w2, w3, w4⟩ := hKh.str (by omega) hk2
    refine v_iload_n C dX8_isWord_15 rfl ?_
    refine v_aload_n C dX8_isWord_16 rfl ?_
    refine v_callVi C (c_J0_length_8abf5 hl (hKh.str (by omega) hk2)) dX8_isWord_17 mJ0_length_8abf5 rfl w1 rfl wd8_177 rfl rfl (Nat.le_of_ble_eq_true rfl) (hp_rmle hRm (by decide) (by decide)) (Nat.le_of_ble_eq_true rfl) (Nat.le_of_ble_eq_true rfl) ?_
    refine v_icmp_geN (tgt := 43) C dX8_isWord_20 (by decide) (by omega) (by omega) (fun c20 => ?_) (fun c20 => absurd c20 (by omega))
    refine v_iconst (v := nI 1) C dX8_isWord_43 (by decide) ?_
    exact v_zret C E dX8_isWord_44 rfl rfl (by have hq := hp _ H hO; rw [hp_b_t e] at hq; exact hq)
  | succ e ih =>
    intro c h hc hpn hZ H hO
    have hKh : Kc G h := hKc.same (fun a ha => hO a (by omega))
    obtain ⟨wv, wx, wy, wa, w1, w2, w3, w4⟩ := hKh.str (by omega) hk2
    have hnz := ks_nw k hk hk2 c (by omega)
    have h256 : ks_t k c < 256 := ks_tl
    unfold rd_cm at hZ
    refine v_iload_n C dX8_isWord_15 rfl ?_
    refine v_aload_n C dX8_isWord_16 rfl ?_
    refine v_callVi C (c_J0_length_8abf5 hl (hKh.str (by omega) hk2)) dX8_isWord_17 mJ0_length_8abf5 rfl w1 rfl wd8_177 rfl rfl (Nat.le_of_ble_eq_true rfl) (hp_rmle hRm (by decide) (by decide)) (Nat.le_of_ble_eq_true rfl) (Nat.le_of_ble_eq_true rfl) ?_
    refine v_icmp_geN (tgt := 43) C dX8_isWord_20 (by decide) (by omega) (by omega) (fun c20 => absurd c20 (by omega)) (fun c20 => ?_)
    refine v_aload_n C dX8_isWord_23 rfl ?_
    refine v_aload_n C dX8_isWord_24 rfl ?_
    refine v_iload_n C dX8_isWord_25 rfl ?_
    refine v_callVi C (c_J0_charAt_5068e hl (hKh.str (by omega) hk2) (by omega)) dX8_isWord_26 mJ0_charAt_5068e rfl w1 rfl wd8_178 rfl rfl (Nat.le_of_ble_eq_true rfl) (hp_rmle hRm (by decide) (by decide)) (Nat.le_of_ble_eq_true rfl) (Nat.le_of_ble_eq_true rfl) ?_
    refine v_callVq C (c_X8_skips hl H (p := (p + c)) (len := n) (mo_pr_10 _ _ _ _) (hI.pr _ _ _).1 (by omega) hI.2.1 (nI (ks_t k c))) dX8_isWord_29 mX8_skips rfl H.o rfl wd8_164 rfl rfl (Nat.le_of_ble_eq_true rfl) (hp_rmle hRm (by decide) (by decide)) (Nat.le_of_ble_eq_true rfl) (Nat.le_of_ble_eq_true rfl) (fun r29 n29 h29 q29 => ?_)
    obtain ⟨e29, k29, Y29, W29⟩ := q29
    have z29 := Eq.symm k29
    have z29 : n0 = n29 := z29
    subst z29
    have e29 : r29 = hp_b (sg t n ((p + c)) = (ks_t k c)) := e29.trans (hp_b_iff (hr_eq (hI.pr _ _ _) hnz h256))
    subst e29
    have X29 := Y29.to (sk_pr hI hnz h256)
    have W29 : ∀ a, (a < y ∨ y + 13 ≤ a) → h29 a = h0 a := fun a ha => (W29 a ha).trans (hO a ha)
    refine v_if_neB (tgt := 37) C dX8_isWord_32 (by decide) (fun c32 => ?_) (fun c32 => ?_)
    · rw [if_pos c32] at X29
      rw [if_pos c32] at hZ
      have hp1 := sg_in c32 hnz
      refine v_iincN C dX8_isWord_37 (by decide) rfl ?_
      refine v_goto (tgt := 15) C dX8_isWord_40 (by decide) ?_
      exact ih (c + 1) _ (by omega) (by omega) hZ X29 W29
    · rw [if_neg c32] at X29
      rw [if_neg c32] at hZ
      subst hZ
      refine v_iconst (v := nI 0) C dX8_isWord_35 (by decide) ?_
      exact v_zret C E dX8_isWord_36 rfl rfl (by have hq := hp _ X29 W29; rw [hp_b_f (by omega)] at hq; exact hq)
set_option maxHeartbeats 8000000 in
/-- a word -/
theorem c_X8_isWord {G : hp_G} {l : Launch} (hl : l.stackTraces = false) {n0 : Nat} {h0 : Nat → Option va_E} {y : Nat} {S : mo_T} {t : Nat → Nat} {n : Nat} (hI : Tp S t n) {p cnt : Nat} {T : Nat → Int32} (hS : Mo G h0 y (mo_pr S p cnt T)) (hp : p ≤ n) {k wh : Nat} (hk : 35 ≤ k) (hk2 : k < 43) (hKc : Kc G h0) (hcnt : cnt ≤ 30) : Ct G l yX8_isWord cX8_isWord 4 (some .boolean) 4 0 0 [.ref y, .int (nI wh), .ref (G.2.2.2 (2 * k + 2))] (n0, h0) (hp_iq (fun r τ => r = hp_b ((pq_w (sg t n) cnt wh k p T).1 = true) ∧ τ.1 = n0 ∧ Mo G τ.2 y (mo_pr S (pq_w (sg t n) cnt wh k p T).2.1 cnt (pq_w (sg t n) cnt wh k p T).2.2) ∧ ∀ a, (a < y ∨ y + 13 ≤ a) → τ.2 a = h0 a)) := by
  have hbase := hS.base
  have hn60 := hI.2.1
  refine Ct.of rfl hl (by simp [Value.category]) (Nat.le_of_ble_eq_true rfl) (fun K C E hRm hKl => ?_)
  subst hKl
  refine v_aload_n C dX8_isWord_0 rfl ?_
  refine v_get C 22 dX8_isWord_1 wd7_19 hS.o rfl (by decide) ⟨rfl, rfl, rfl⟩ rfl ?_
  refine v_bipush (v := nI 6) C dX8_isWord_4 (by decide) ?_
  refine v_aload_n C dX8_isWord_6 rfl ?_
  refine v_get (v := .int (nI (cnt))) C 23 dX8_isWord_7 wd7_20 hS.o rfl (by decide) ⟨rfl, rfl, rfl⟩ rfl ?_
  refine v_imulN C dX8_isWord_10 ?_
  refine v_iload_n C dX8_isWord_11 rfl ?_
  refine v_iastN C dX8_isWord_12 (by omega) hS.a11 (by omega) (by decide) (fun h12 e12 g12 => ?_)
  have Y12 := hS.s11 e12 g12
  have X12 := Y12.to mo_pr_s
  have W12 : ∀ a, (a < y ∨ y + 13 ≤ a) → h12 a = h0 a := fun a ha => g12 a (by omega)
  refine v_iconst (v := nI 0) C dX8_isWord_13 (by decide) ?_
  refine v_istore_n C dX8_isWord_14 (by decide) ?_
  exact loop_X8_isWord hI (T := upd T (6 * cnt) (nI wh)) (Z := rd_cm (fun j => sg t n (p + j)) (ks_t k) (ks_l k).length 0) hk hk2 hKc hbase C E hRm hl (fun h H hO => ⟨_, rfl, hp_b_iff (decide_eq_true_iff.symm), rfl, H, hO⟩) (ks_l k).length 0 _ (Nat.zero_add _) hp rfl X12 W12

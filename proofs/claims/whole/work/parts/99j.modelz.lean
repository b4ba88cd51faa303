/-! ===== THE MODEL: its state as a whole; execute ===== -/
theorem Gr.cg {g g' : Nat → Int32} {M : mk_T} (H : Gr g M) (h : ∀ j, j < 138 → g' j = g j) : Gr g' M := by
  obtain ⟨⟨a0, a1, a2, a3, a4, a5, a6, a7⟩, b, c, d, e1, e2, e3⟩ := H
  refine ⟨⟨(h _ (by decide)).trans a0, (h _ (by decide)).trans a1, (h _ (by decide)).trans a2, (h _ (by decide)).trans a3, (h _ (by decide)).trans a4, (h _ (by decide)).trans a5, (by rw [h _ (by decide)]; exact a6), (by rw [h _ (by decide)]; exact a7)⟩, fun i hi k hk => ?_, fun s hs => ?_, fun c2 hc k hk => ?_, e1, e2, e3⟩
  · rw [h _ (by omega)]
    exact b i hi k hk
  · rw [h _ (by omega), h _ (by omega), h _ (by omega)]
    exact c s hs
  · rw [h _ (by omega)]
    exact d c2 hc k hk
/-- what is kept, the newest last -/
def Kp (S : mo_T) (K : Nat → mk_T) (ch : Nat) : Prop := S.2 1 = nI ch ∧ ch ≤ 8 ∧ ∀ i, i < ch → Gr (fun j => S.1 1 (138 * i + j)) (K i)
def kp_K (K : Nat → mk_T) (ch : Nat) (M : mk_T) : Nat → mk_T := if ch = 8 then fun i => if i = 7 then M else K (i + 1) else fun i => if i = ch then M else K i
def kp_n (ch : Nat) : Nat := if ch = 8 then 8 else ch + 1
theorem kp_n_le {ch : Nat} (h : ch ≤ 8) : kp_n ch ≤ 8 := by
  unfold kp_n
  split <;> omega
theorem Kp.eq {S S2 : mo_T} {K : Nat → mk_T} {ch : Nat} (H : Kp S K ch) (h1 : S2.1 1 = S.1 1) (h2 : S2.2 1 = S.2 1) : Kp S2 K ch := ⟨h2.trans H.1, H.2.1, by rw [h1]; exact H.2.2⟩
theorem Kp.kp {S : mo_T} {K : Nat → mk_T} {ch kf : Nat} {M : mk_T} (H : Kp S K ch) (h2 : S.2 2 = 0) (hf : kf = 0 ∨ kf = 3) (hg : Gr (S.1 kf) M) : Kp (mo_kp S kf ch) (kp_K K ch M) (kp_n ch) := by
  obtain ⟨k1, k2, k3⟩ := H
  unfold mo_kp kp_K kp_n
  rw [if_neg (fun z => z h2)]
  by_cases z : ch = 8
  · rw [if_pos z, if_pos z, if_pos z]
    refine ⟨mo_si_3 _ 1 _, Nat.le_refl _, fun i hi => ?_⟩
    have er : ∀ x, (mo_cp (mo_sh (mo_si S 3 (nI 0)) 966) kf 0 1 966 138).1 1 x = if 966 ≤ x ∧ x < 966 + 138 then S.1 kf (0 + (x - 966)) else if x < 966 then S.1 1 (x + 138) else S.1 1 x := fun x => by
      show (if 966 ≤ x ∧ x < 966 + 138 then (mo_sh (mo_si S 3 (nI 0)) 966).1 kf (0 + (x - 966)) else _) = _
      have ek : (mo_sh (mo_si S 3 (nI 0)) 966).1 kf = S.1 kf := if_neg (by omega)
      rw [ek]
      rfl
    by_cases q : i = 7
    · show Gr _ (if i = 7 then M else K (i + 1))
      rw [show (if i = 7 then M else K (i + 1)) = M from if_pos q]
      refine hg.cg (fun j hj => ?_)
      show (mo_cp (mo_sh (mo_si S 3 (nI 0)) 966) kf 0 1 966 138).1 1 (138 * i + j) = _
      rw [er, if_pos (by omega)]
      exact congrArg (S.1 kf) (show 0 + (138 * i + j - 966) = j by omega)
    · show Gr _ (if i = 7 then M else K (i + 1))
      rw [show (if i = 7 then M else K (i + 1)) = K (i + 1) from if_neg q]
      refine (k3 (i + 1) (by omega)).cg (fun j hj => ?_)
      show (mo_cp (mo_sh (mo_si S 3 (nI 0)) 966) kf 0 1 966 138).1 1 (138 * i + j) = S.1 1 (138 * (i + 1) + j)
      rw [er, if_neg (by omega), if_pos (by omega)]
      exact congrArg (S.1 1) (show 138 * i + j + 138 = 138 * (i + 1) + j by omega)
  · rw [if_neg z, if_neg z, if_neg z]
    refine ⟨mo_si_3 _ 1 _, by omega, fun i hi => ?_⟩
    have er : ∀ x, (mo_cp (mo_si S 3 (nI 0)) kf 0 1 (138 * ch) 138).1 1 x = if 138 * ch ≤ x ∧ x < 138 * ch + 138 then S.1 kf (0 + (x - 138 * ch)) else S.1 1 x := fun x => rfl
    by_cases q : i = ch
    · show Gr _ (if i = ch then M else K i)
      rw [show (if i = ch then M else K i) = M from if_pos q]
      refine hg.cg (fun j hj => ?_)
      show (mo_cp (mo_si S 3 (nI 0)) kf 0 1 (138 * ch) 138).1 1 (138 * i + j) = _
      subst q
      rw [er, if_pos (by omega)]
      exact congrArg (S.1 kf) (show 0 + (138 * i + j - 138 * i) = j by omega)
    · show Gr _ (if i = ch then M else K i)
      rw [show (if i = ch then M else K i) = K i from if_neg q]
      refine (k3 i (by omega)).cg (fun j hj => ?_)
      show (mo_cp (mo_si S 3 (nI 0)) kf 0 1 (138 * ch) 138).1 1 (138 * i + j) = S.1 1 (138 * i + j)
      rw [er, if_neg (by omega)]
theorem mo_kp_s (S : mo_T) {kf ch : Nat} (h2 : S.2 2 = 0) : (∀ k, k ≠ 1 → (mo_kp S kf ch).1 k = S.1 k) ∧ ∀ k, k ≠ 1 → k ≠ 3 → (mo_kp S kf ch).2 k = S.2 k := by
  unfold mo_kp
  rw [if_neg (fun z => z h2)]
  split
  · refine ⟨fun k hk => ?_, fun k h1 h3 => ?_⟩
    · show (if k = 1 then _ else (if k = 1 then _ else S.1 k)) = _
      rw [if_neg hk, if_neg hk]
    · show upd (upd S.2 3 (nI 0)) 1 (nI 8) k = _
      rw [pk_un h1, pk_un h3]
  · refine ⟨fun k hk => ?_, fun k h1 h3 => ?_⟩
    · show (if k = 1 then _ else S.1 k) = _
      rw [if_neg hk]
    · show upd (upd S.2 3 (nI 0)) 1 (nI (ch + 1)) k = _
      rw [pk_un h1, pk_un h3]
/-- the model's state: its market, what is kept, saved, typed, written; where it failed -/
def Md (S : mo_T) (M : mk_T) (K : Nat → mk_T) (ch : Nat) (hs : Int32) (Z : mk_T) (t : Nat → Nat) (n : Nat) (P : wl_T) (fl fd : Int32) : Prop := Gr (S.1 0) M ∧ Kp S K ch ∧ S.2 0 = hs ∧ (¬ hs = 0 → Gr (S.1 2) Z) ∧ S.2 2 = 0 ∧ Tp S t n ∧ Ln S P ∧ S.2 5 = fl ∧ S.2 6 = fd
section MDD
variable {S S2 : mo_T} {M M' : mk_T} {K : Nat → mk_T} {ch : Nat} {hs : Int32} {Z : mk_T} {t : Nat → Nat} {n : Nat} {P : wl_T} {fl fd : Int32}
/-- the rows 2, 4, 5 and the numbers 0, 2, 4, 5, 6, 7 are the same -/
def mo_rs (S S2 : mo_T) : Prop := (S2.1 2 = S.1 2 ∧ S2.1 4 = S.1 4 ∧ S2.1 5 = S.1 5) ∧ S2.2 0 = S.2 0 ∧ S2.2 2 = S.2 2 ∧ S2.2 4 = S.2 4 ∧ S2.2 5 = S.2 5 ∧ S2.2 6 = S.2 6 ∧ S2.2 7 = S.2 7
theorem Md.rs (H : Md S M K ch hs Z t n P fl fd) (h : mo_rs S S2) (hg : Gr (S2.1 0) M') {K' : Nat → mk_T} {ch' : Nat} (hk : Kp S2 K' ch') : Md S2 M' K' ch' hs Z t n P fl fd := by
  obtain ⟨a, b, c, d, e, f, g, i, j⟩ := H
  obtain ⟨⟨r2, r4, r5⟩, i0, i2, i4, i5, i6, i7⟩ := h
  refine ⟨hg, hk, i0.trans c, fun z => by rw [r2]; exact d z, i2.trans e, ⟨i4.trans f.1, f.2.1, by rw [r4]; exact f.2.2⟩, ⟨i7.trans g.1, g.2.1, by rw [r5]; exact g.2.2⟩, i5.trans i, i6.trans j⟩
theorem mo_wk.rs (h : mo_wk S S2) : mo_rs S S2 := ⟨⟨h.1 2 (by decide) (by decide), h.1 4 (by decide) (by decide), h.1 5 (by decide) (by decide)⟩, h.2 0 (by decide) (by decide), h.2 2 (by decide) (by decide), h.2 4 (by decide) (by decide), h.2 5 (by decide) (by decide), h.2 6 (by decide) (by decide), h.2 7 (by decide) (by decide)⟩
theorem Kp.wk (H : Kp S K ch) (h : mo_wk S S2) : Kp S2 K ch := H.eq (h.1 1 (by decide) (by decide)) (h.2 1 (by decide) (by decide))
theorem mo_rs.tr {S3 : mo_T} (a : mo_rs S S2) (b : mo_rs S2 S3) : mo_rs S S3 := ⟨⟨b.1.1.trans a.1.1, b.1.2.1.trans a.1.2.1, b.1.2.2.trans a.1.2.2⟩, b.2.1.trans a.2.1, b.2.2.1.trans a.2.2.1, b.2.2.2.1.trans a.2.2.2.1, b.2.2.2.2.1.trans a.2.2.2.2.1, b.2.2.2.2.2.1.trans a.2.2.2.2.2.1, b.2.2.2.2.2.2.trans a.2.2.2.2.2.2⟩
theorem mo_kp_rs (S : mo_T) {kf ch : Nat} (h2 : S.2 2 = 0) : mo_rs S (mo_kp S kf ch) := by
  obtain ⟨a, b⟩ := mo_kp_s S (kf := kf) (ch := ch) h2
  exact ⟨⟨a 2 (by decide), a 4 (by decide), a 5 (by decide)⟩, b 0 (by decide) (by decide), b 2 (by decide) (by decide), b 4 (by decide) (by decide), b 5 (by decide) (by decide), b 6 (by decide) (by decide), b 7 (by decide) (by decide)⟩
/-- behind a modification -/
theorem Md.af (H : Md S M K ch hs Z t n P fl fd) {cd : Int32} (F : mo_af S cd ch M M' S2) : S2.2 3 = cd ∧ ((cd = nI 0 ∧ Md S2 M' (kp_K K ch M) (kp_n ch) hs Z t n P fl fd) ∨ (¬ cd = nI 0 ∧ Md S2 M K ch hs Z t n P fl fd)) := by
  obtain ⟨h1, h2⟩ := F
  refine ⟨h1, ?_⟩
  rcases h2 with ⟨z, g, g1, hg1, wk⟩ | ⟨z, g, wk⟩
  · refine Or.inl ⟨z, ?_⟩
    have h2 : (mo_si (mo_sg S g1) 3 (nI 0)).2 2 = 0 := H.2.2.2.2.1
    have k1 : Kp (mo_si (mo_sg S g1) 3 (nI 0)) K ch := H.2.1.eq rfl rfl
    refine H.rs (mo_rs.tr ?_ wk.rs) g ((k1.kp h2 (Or.inl rfl) hg1).wk wk)
    exact mo_rs.tr ⟨⟨rfl, rfl, rfl⟩, rfl, rfl, rfl, rfl, rfl, rfl⟩ (mo_kp_rs _ h2)
  · exact Or.inr ⟨z, H.rs wk.rs g (H.2.1.wk wk)⟩
end MDD
/-- the market behind the first i commands; what is wrong with the i-th; the first that fails -/
def xm_c (T : Nat → Int32) (M : mk_T) (i : Nat) : Int32 × mk_T × Int32 := cv M (T (6 * i)).toNatClampNeg (T (6 * i + 1)) (T (6 * i + 2)) (T (6 * i + 3)) (T (6 * i + 4)) (T (6 * i + 5))
def xm_M (T : Nat → Int32) (M : mk_T) (i : Nat) : mk_T := match i with
  | 0 => M
  | i + 1 => (xm_c T (xm_M T M i) i).2.1
def xm_o (T : Nat → Int32) (M : mk_T) (i : Nat) : Int32 := (xm_c T (xm_M T M i) i).1
def xm_f (T : Nat → Int32) (M : mk_T) (e i : Nat) : Option Nat := match e with
  | 0 => none
  | e + 1 => if xm_o T M i = nI 0 then xm_f T M e (i + 1) else some i
theorem fB_ps (M : mk_T) (a b : Int32) : mk_fB M a b = nI 0 ∨ 0 < mk_fB M a b := by
  unfold mk_fB
  repeat' split
  all_goals decide
theorem fK_ps (M : mk_T) (a b : Int32) : mo_fK M a b = nI 0 ∨ 0 < mo_fK M a b := by
  unfold mo_fK
  split
  · exact fB_ps M a b
  · split <;> decide
theorem cv_ps (M : mk_T) {c : Nat} (hc : c < 8) (a b k d e : Int32) : (cv M c a b k d e).1 = nI 0 ∨ 0 < (cv M c a b k d e).1 := by
  match c, hc with
  | 0, _ =>
    show mo_fH M a b = nI 0 ∨ 0 < mo_fH M a b
    unfold mo_fH
    repeat' split
    all_goals decide
  | 1, _ =>
    show mo_fR M a = nI 0 ∨ 0 < mo_fR M a
    unfold mo_fR
    repeat' split
    all_goals decide
  | 2, _ =>
    show mo_fT M a b k d e = nI 0 ∨ 0 < mo_fT M a b k d e
    unfold mo_fT
    repeat' split
    all_goals decide
  | 3, _ =>
    show mo_fQ M a b = nI 0 ∨ 0 < mo_fQ M a b
    unfold mo_fQ
    repeat' split
    all_goals decide
  | 4, _ => exact Or.inl rfl
  | 5, _ => exact fB_ps M a b
  | 6, _ => exact fK_ps M a b
  | 7, _ => exact fK_ps M a b
/-- within a text nothing is kept -/
theorem mo_af_in {S S2 : mo_T} {cd : Int32} {ch : Nat} {M M' : mk_T} (h2 : ¬ S.2 2 = 0) (F : mo_af S cd ch M M' S2) : S2.2 3 = cd ∧ mo_wk S S2 ∧ (cd = nI 0 → Gr (S2.1 0) M') ∧ (¬ cd = nI 0 → Gr (S2.1 0) M) := by
  obtain ⟨h1, h3⟩ := F
  refine ⟨h1, ?_⟩
  rcases h3 with ⟨z, g, g1, hg1, wk⟩ | ⟨z, g, wk⟩
  · refine ⟨mo_wk.tr ?_ wk, fun _ => g, fun y => absurd z y⟩
    have e : mo_kp (mo_si (mo_sg S g1) 3 (nI 0)) 0 ch = mo_si (mo_si (mo_sg S g1) 3 (nI 0)) 3 (nI 0) := if_pos h2
    rw [e]
    exact ((mo_wk.rf S).sg.si (Or.inl rfl)).si (Or.inl rfl)
  · exact ⟨wk, fun y => absurd y z, fun _ => g⟩
set_option maxHeartbeats 4000000 in
/-- a command is carried out -/
theorem c_X8_carries {G : hp_G} {l : Launch} (hl : l.stackTraces = false) {n0 : Nat} {h0 : Nat → Option va_E} {y : Nat} {S : mo_T} (hS : Mo G h0 y S) {M : mk_T} (hg : Gr (S.1 0) M) {ch : Nat} (hch : S.2 1 = nI ch) (h8 : ch ≤ 8) (hK : dw_ok M) (hbd : mo_bd M) {i : Nat} (hi : i ≤ 30) (hc : ∃ c, c < 8 ∧ S.1 11 (6 * i) = nI c) : Ct G l yX8_carries cX8_carries 4 (some .int) 6 0 0 [.ref y, .int (nI (6 * i))] (n0, h0) (hp_iq (fun r τ => r = (if (xm_c (S.1 11) M i).1 = nI 0 then (xm_c (S.1 11) M i).2.2 else nI 0) ∧ τ.1 = n0 ∧ (∃ S2, Mo G τ.2 y S2 ∧ mo_af S (xm_c (S.1 11) M i).1 ch M (xm_c (S.1 11) M i).2.1 S2) ∧ ∀ a, (a < y ∨ y + 13 ≤ a) → τ.2 a = h0 a)) := by
  obtain ⟨c, hc8, hc⟩ := hc
  have ex : xm_c (S.1 11) M i = cv M c (S.1 11 (6 * i + 1)) (S.1 11 (6 * i + 2)) (S.1 11 (6 * i + 3)) (S.1 11 (6 * i + 4)) (S.1 11 (6 * i + 5)) := by
    unfold xm_c
    rw [hc, nI_clamp (by omega)]
  rw [ex]
  match c, hc8 with
  | 0, _ => exact c_X8_carries0 hl hS hg hch h8 hK hbd hi hc
  | 1, _ => exact c_X8_carries1 hl hS hg hch h8 hK hbd hi hc
  | 2, _ => exact c_X8_carries2 hl hS hg hch h8 hK hbd hi hc
  | 3, _ => exact c_X8_carries3 hl hS hg hch h8 hK hbd hi hc
  | 4, _ => exact c_X8_carries4 hl hS hg hch h8 hK hbd hi hc
  | 5, _ => exact c_X8_carries5 hl hS hg hch h8 hK hbd hi hc
  | 6, _ => exact c_X8_carries6 hl hS hg hch h8 hK hbd hi hc
  | 7, _ => exact c_X8_carries7 hl hS hg hch h8 hK hbd hi hc
set_option maxHeartbeats 8000000 in
theorem loop_X8_execute {G : hp_G} {K : hp_C} {n0 : Nat} {h0 : Nat → Option va_E} {y : Nat} {S : mo_T} {M : mk_T} {ch cnt : Nat} {bb : Int32} {Z : Option Nat} (hch : S.2 1 = nI ch) (h8 : ch ≤ 8) (hin : ¬ S.2 2 = 0) (hcn : S.2 11 = nI cnt) (hcnt : cnt ≤ 31) (hall : ∀ i, i < cnt → (∀ j, j < i → xm_o (S.1 11) M j = nI 0) → dw_ok (xm_M (S.1 11) M i) ∧ mo_bd (xm_M (S.1 11) M i)) (hcm : ∀ i, i < cnt → ∃ c, c < 8 ∧ S.1 11 (6 * i) = nI c) (hbase : G.2.1 ≤ y) (C : hp_Cx G K MX8_execute) (hRm : hp_Rm K = hp_rm 8 0 0) (hl : K.2.1.stackTraces = false) (hkn : Z = none → ∀ h S1 g, Mo G h y S1 → mo_wk S S1 → S1.2 3 = nI 0 → Gr (S1.1 0) (xm_M (S.1 11) M cnt) → (∀ a, (a < y ∨ y + 13 ≤ a) → h a = h0 a) → V G K MX8_execute 0 0 (n0, h) 99 [some (.ref y), some (.int bb), some (.int (nI cnt)), some (.int g)] []) (hks : ∀ i, Z = some i → i < cnt → ∀ h S1 cd, Mo G h y S1 → mo_wk S S1 → S1.2 3 = cd → 0 < cd → (∀ a, (a < y ∨ y + 13 ≤ a) → h a = h0 a) → V G K MX8_execute 0 0 (n0, h) 99 [some (.ref y), some (.int bb), some (.int (nI i)), some (.int (nI 0))] []) : ∀ (e i : Nat) (h : Nat → Option va_E) (S1 : mo_T) (g : Int32), i + e = cnt → xm_f (S.1 11) M e i = Z → (∀ j, j < i → xm_o (S.1 11) M j = nI 0) → Mo G h y S1 → mo_wk S S1 → S1.2 3 = nI 0 → Gr (S1.1 0) (xm_M (S.1 11) M i) → (∀ a, (a < y ∨ y + 13 ≤ a) → h a = h0 a) → V G K MX8_execute 0 0 (n0, h) 62 [some (.ref y), some (.int bb), some (.int (nI i)), some (.int g)] [] := by
  intro e
  induction e with
  | zero =>
    intro i h S1 g hc hZ hlow H hw h3 hg hO
    have e : i = cnt := by omega
    subst e
    have hZ : none = Z := hZ
    have e11 : S1.2 11 = nI i := (hw.2 11 (by decide) (by decide)).trans hcn
    have H := H.to (mo_si_eq e11)
    refine v_iload_n C dX8_execute_62 rfl ?_
    refine v_aload_n C dX8_execute_63 rfl ?_
    refine v_get (v := .int (nI (i))) C 23 dX8_execute_64 wd7_20 H.o rfl (by decide) ⟨rfl, rfl, rfl⟩ rfl ?_
    refine v_icmp_geN (tgt := 99) C dX8_execute_67 (by decide) (by omega) (by omega) (fun c67 => ?_) (fun c67 => absurd c67 (by omega))
    exact hkn hZ.symm _ S1 g (H.to (mo_si_eq e11).symm) hw h3 hg hO
  | succ e ih =>
    intro i h S1 g hc hZ hlow H hw h3 hg hO
    unfold xm_f at hZ
    have e11 : S1.2 11 = nI cnt := (hw.2 11 (by decide) (by decide)).trans hcn
    have eT : S1.1 11 = S.1 11 := hw.1 11 (by decide) (by decide)
    have e1 : S1.2 1 = nI ch := (hw.2 1 (by decide) (by decide)).trans hch
    have e2 : ¬ S1.2 2 = 0 := by rw [hw.2 2 (by decide) (by decide)]; exact hin
    obtain ⟨hK, hbd⟩ := hall i (by omega) hlow
    have H := H.to (mo_si_eq e11)
    generalize hS1 : mo_si S1 11 (nI cnt) = X1 at H
    have H0 : Mo G h y S1 := H.to (hS1.symm.trans (mo_si_eq e11).symm)
    subst hS1
    refine v_iload_n C dX8_execute_62 rfl ?_
    refine v_aload_n C dX8_execute_63 rfl ?_
    refine v_get (v := .int (nI (cnt))) C 23 dX8_execute_64 wd7_20 H.o rfl (by decide) ⟨rfl, rfl, rfl⟩ rfl ?_
    refine v_icmp_geN (tgt := 99) C dX8_execute_67 (by decide) (by omega) (by omega) (fun c67 => absurd c67 (by omega)) (fun c67 => ?_)
    refine v_aload_n C dX8_execute_70 rfl ?_
    refine v_get C 7 dX8_execute_71 wd7_4 H.o rfl (by decide) ⟨rfl, rfl, rfl⟩ rfl ?_
    rw [show (mo_si S1 11 (nI cnt)).2 3 = nI 0 from h3]
    refine v_if_ne (tgt := 99) C dX8_execute_74 (by decide) (fun c74 => absurd rfl c74) (fun c74 => ?_)
    refine v_aload_n C dX8_execute_77 rfl ?_
    refine v_bipush (v := nI 6) C dX8_execute_78 (by decide) ?_
    refine v_iload_n C dX8_execute_80 rfl ?_
    refine v_imulN C dX8_execute_81 ?_
    refine v_callVq C (c_X8_carries hl H0 hg e1 h8 hK hbd (i := i) (by omega) (by rw [eT]; exact hcm i (by omega))) dX8_execute_82 mX8_carries rfl H0.o rfl wd8_198 rfl rfl (Nat.le_of_ble_eq_true rfl) (hp_rmle hRm (by decide) (by decide)) (Nat.le_of_ble_eq_true rfl) (Nat.le_of_ble_eq_true rfl) (fun r82 n82 h82 q82 => ?_)
    rw [eT] at q82
    obtain ⟨e82, k82, ⟨S2, Y82, F82⟩, W82⟩ := q82
    have z82 := Eq.symm k82
    have z82 : n0 = n82 := z82
    subst z82
    obtain ⟨f3, fw, f0, f1⟩ := mo_af_in e2 F82
    have W82 : ∀ a, (a < y ∨ y + 13 ≤ a) → h82 a = h0 a := fun a ha => (W82 a ha).trans (hO a ha)
    have eo : xm_o (S.1 11) M i = (xm_c (S.1 11) (xm_M (S.1 11) M i) i).1 := rfl
    have f11 : S2.2 11 = nI cnt := (fw.2 11 (by decide) (by decide)).trans e11
    rw [← eo] at f3 f0 f1 e82
    have X82 := (Y82.to (mo_si_eq f3)).to (mo_si_eq (j := 11) (v := nI cnt) (show upd S2.2 3 (xm_o (S.1 11) M i) 11 = nI cnt from (pk_un (by decide)).trans f11))
    refine v_istore_n C dX8_execute_85 (by decide) ?_
    refine v_aload_n C dX8_execute_86 rfl ?_
    refine v_get C 7 dX8_execute_87 wd7_4 X82.o rfl (by decide) ⟨rfl, rfl, rfl⟩ rfl ?_
    rw [show (mo_si (mo_si S2 3 (xm_o (S.1 11) M i)) 11 (nI cnt)).2 3 = xm_o (S.1 11) M i from (show upd (upd S2.2 3 (xm_o (S.1 11) M i)) 11 (nI cnt) 3 = xm_o (S.1 11) M i by rw [pk_un (by decide), pk_us])]
    refine v_if_ne (tgt := 62) C dX8_execute_90 (by decide) (fun c90 => ?_) (fun c90 => ?_)
    · have c90 : ¬ xm_o (S.1 11) M i = nI 0 := c90
      rw [if_neg c90] at hZ
      have hpos : 0 < xm_o (S.1 11) M i := by obtain ⟨c, hc8, hcc⟩ := hcm i (by omega); exact (show (cv _ _ _ _ _ _ _).1 = nI 0 ∨ 0 < (cv _ _ _ _ _ _ _).1 from cv_ps _ (by rw [hcc, nI_clamp (by omega)]; exact hc8) _ _ _ _ _).resolve_left c90
      have er : r82 = nI 0 := e82.trans (if_neg c90)
      subst er
      refine v_iload_n C dX8_execute_62 rfl ?_
      refine v_aload_n C dX8_execute_63 rfl ?_
      refine v_get (v := .int (nI (cnt))) C 23 dX8_execute_64 wd7_20 X82.o rfl (by decide) ⟨rfl, rfl, rfl⟩ rfl ?_
      refine v_icmp_geN (tgt := 99) C dX8_execute_67 (by decide) (by omega) (by omega) (fun c67 => absurd c67 (by omega)) (fun c67 => ?_)
      refine v_aload_n C dX8_execute_70 rfl ?_
      refine v_get C 7 dX8_execute_71 wd7_4 X82.o rfl (by decide) ⟨rfl, rfl, rfl⟩ rfl ?_
      refine v_if_ne (tgt := 99) C dX8_execute_74 (by decide) (fun c74 => ?_) (fun c74 => absurd c74 c90)
      exact hks i hZ.symm (by omega) _ S2 _ Y82 (hw.tr fw) f3 hpos W82
    · have c90 : xm_o (S.1 11) M i = nI 0 := c90
      rw [if_pos c90] at hZ
      refine v_iincN C dX8_execute_93 (by decide) rfl ?_
      refine v_goto (tgt := 62) C dX8_execute_96 (by decide) ?_
      exact ih (i + 1) _ S2 r82 (by omega) hZ (fun j hj => by by_cases q : j = i; (rw [q]; exact c90); exact hlow j (by omega)) Y82 (hw.tr fw) (f3.trans c90) (f0 c90) W82

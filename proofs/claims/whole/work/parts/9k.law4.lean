/-! ===== THE LAW: between two calls ===== -/
section LWE
variable {G : hp_G} {n0 : Nat} {h0 h h' : Nat → Option va_E} {x L0 : Nat} {M : mk_T} {B : mk_T} {Z : mk_T} {mk : Nat → mk_T} {nx : Nat} {cnt : Nat} {t : Nat → Nat} {n : Nat} {lt : Nat → Nat} {ln : Nat} {hs : Int32} {ma : Int32} {fa : Int32} {rk : Nat → Option va_E}
/-- the class's object does not see what lies between it and L0 -/
theorem Ex.same (E : Ex G h x L0 M B Z mk nx cnt t n lt ln hs ma fa rk) (fr : ∀ a, (a < x + 148 ∨ L0 ≤ a) → h' a = h a) : Ex G h' x L0 M B Z mk nx cnt t n lt ln hs ma fa rk := by
  have hb := E.base
  have hl := E.l0
  exact ⟨(fr _ (by omega)).trans E.o, E.m.same (fun a k1 k2 => fr a (by omega)), E.b.same (fun a k1 k2 => fr a (by omega)), E.z.same (fun a k1 k2 => fr a (by omega)), E.hh.same (fun a k1 k2 => fr a (by omega)), (by obtain ⟨v, c, gi, su, mg, z⟩ := E.st; exact ⟨v, c, gi, su, mg, z.same (fun a k1 k2 => fr a (by omega))⟩), (by obtain ⟨sd, nd, af, hs, ps, tk, bt, lf, ls, z⟩ := E.tk; exact ⟨sd, nd, af, hs, ps, tk, bt, lf, ls, z.same (fun a k1 k2 => fr a (by omega))⟩), ⟨(by obtain ⟨cm, ar, c, p, z⟩ := E.cr.1; exact ⟨cm, ar, c, p, z.same (fun a k1 k2 => fr a (by omega))⟩), (fun a k1 k2 => (fr a (by omega)).trans (E.cr.2 a k1 k2))⟩, (by obtain ⟨v, ml, m, v2, ml2, m2, z1, z2, z3, z4, z5⟩ := E.sb; exact ⟨v, ml, m, v2, ml2, m2, z1.same (fr _ (by omega)) (fr _ (by omega)), z2.same (fr _ (by omega)) (fr _ (by omega)), z3, z4, z5⟩), E.kc.same (fun a k => fr a (by omega)), E.base, E.l0⟩
/-- L0 may lie higher when the builders' rows lie where they were made -/
theorem Ex.lift (E : Ex G h x (x + 148) M B Z mk nx cnt t n lt ln hs ma fa rk) (hv : ∀ v e, h v = some e → v < x + 148) {L1 : Nat} (h1 : x + 148 ≤ L1) : Ex G h x L1 M B Z mk nx cnt t n lt ln hs ma fa rk := by
  obtain ⟨a1, a2, a3, a4, a5, a6, a7, a8, ⟨v, ml, m, v2, ml2, m2, z1, z2, z3, z4, z5⟩, a10, a11, a12⟩ := E
  refine ⟨a1, a2, a3, a4, a5, a6, a7, a8, ⟨v, ml, m, v2, ml2, m2, z1, z2, ?_, ?_, z5⟩, a10, a11, h1⟩
  · refine z3.imp id (fun y => ?_)
    obtain ⟨_, ha, -⟩ := z1.2.1
    have := hv v _ ha
    omega
  · refine z4.imp id (fun y => ?_)
    obtain ⟨_, ha, -⟩ := z2.2.1
    have := hv v2 _ ha
    omega
end LWE
/-- the answer of one of the law's own methods, and what it left in the row -/
def Lr (ans : hp_O) (ex : List String) (code : Int32) (v0 : Int32 → Prop) : Prop := (∃ r, ans = rI r ∧ code = nI 0 ∧ v0 r) ∨ (∃ i E, ex[i]? = some E ∧ ans = .inr E ∧ code = nI (i + 1))
theorem Lw_u {G : hp_G} {b : Nat} {f : Nat → Int64} {g : Int32 → Int64} {ans : hp_O} {ex : List String} {F : hp_T → Prop} {n0 : Nat} {h0 : Nat → Option va_E} {x L0 : Nat} {M : mk_T} {B : mk_T} {Z : mk_T} {mk : Nat → mk_T} {nx : Nat} {cnt : Nat} {t : Nat → Nat} {n : Nat} {lt : Nat → Nat} {ln : Nat} {hs : Int32} {ma : Int32} {fa : Int32} (hb1 : x + 148 ≤ b) (hb2 : b < L0) (hb0 : h0 b = some (.inl (G.2.2.1 3, 1, .inr (.inl f)))) (hF : ∀ τ, F τ → ∃ rk, Fx G n0 h0 x L0 M B Z mk nx cnt t n lt ln hs ma fa rk τ.1 τ.2) {o : hp_O} {τ : hp_T} (H : Lw G b f g ans ex F o τ) : ∃ code f', o = rI code ∧ (∃ rk, Ex G τ.2 x L0 M B Z mk nx cnt t n lt ln hs ma fa rk) ∧ n0 ≤ τ.1 ∧ (∀ a, x + 148 ≤ a → a < L0 → a ≠ b → τ.2 a = h0 a) ∧ (∀ a, a < x → τ.2 a = h0 a) ∧ τ.2 b = some (.inl (G.2.2.1 3, 1, .inr (.inl f'))) ∧ Lr ans ex code (fun r => f' 0 = g r) := by
  rcases H with ⟨r, τ1, h1, h2, h3, h4, h5, h6⟩ | ⟨i, E, h1, h2, h3, h4⟩
  · obtain ⟨rk, F1⟩ := hF τ1 h3
    refine ⟨_, _, h2, ⟨rk, F1.1.same (fun a ha => h6 a (by omega))⟩, by rw [h4]; exact F1.2.1, fun a k1 k2 k3 => (h6 a k3).trans (F1.2.2.2 a (Or.inr ⟨k1, k2⟩)), fun a k1 => (h6 a (by omega)).trans (F1.2.2.2 a (Or.inl k1)), h5, Or.inl ⟨r, h1, rfl, ?_⟩⟩
    show (if (0 : Nat) = 0 then g r else f 0) = g r
    exact if_pos rfl
  · obtain ⟨rk, F1⟩ := hF τ h3
    exact ⟨_, f, h4, ⟨rk, F1.1⟩, F1.2.1, fun a k1 k2 _ => F1.2.2.2 a (Or.inr ⟨k1, k2⟩), fun a k1 => F1.2.2.2 a (Or.inl k1), (F1.2.2.2 b (Or.inr ⟨hb1, hb2⟩)).trans hb0, Or.inr ⟨i, E, h1, h2, rfl⟩⟩
/-! what is true of the numbers -/
def Jp (w : Nat) (M Z : mk_T) (K mk : Nat → mk_T) (nx cnt n : Nat) (hs : Int32) : Prop := Rg K mk nx cnt ∧ Ia w M ∧ (∀ i, i < cnt → Ia w (K i)) ∧ (¬ hs = 0 → Ia w Z) ∧ (hs = 0 ∨ hs = nI 1) ∧ n ≤ 60
theorem Jp.up {w v : Nat} {M Z : mk_T} {K mk : Nat → mk_T} {nx cnt n : Nat} {hs : Int32} (H : Jp w M Z K mk nx cnt n hs) (h : w ≤ v) : Jp v M Z K mk nx cnt n hs := by
  obtain ⟨a, b, c, d, e, f⟩ := H
  exact ⟨a, b.up h, fun i hi => (c i hi).up h, fun z => (d z).up h, e, f⟩
theorem Jp.kp {w v : Nat} {M M' Z : mk_T} {K mk : Nat → mk_T} {nx cnt n n' : Nat} {hs : Int32} (H : Jp w M Z K mk nx cnt n hs) (h : w ≤ v) (hM : Ia v M') (hn : n' ≤ 60) : Jp v M' Z (kp_K K cnt M) (va_up mk nx M) ((nx + 1) % 8) (min (cnt + 1) 8) n' hs ∧ kp_n cnt = min (cnt + 1) 8 := by
  obtain ⟨a, b, c, d, e, f⟩ := H
  obtain ⟨r1, r2⟩ := a.kp M
  refine ⟨⟨r1, hM, fun i hi => ?_, fun z => (d z).up h, e, hn⟩, r2⟩
  have c8 := a.2.1
  unfold kp_K
  by_cases z : cnt = 8
  · rw [if_pos z]
    show Ia v (if i = 7 then M else K (i + 1))
    by_cases q : i = 7
    · rw [if_pos q]
      exact b.up h
    · rw [if_neg q]
      exact (c _ (by omega)).up h
  · rw [if_neg z]
    show Ia v (if i = cnt then M else K i)
    by_cases q : i = cnt
    · rw [if_pos q]
      exact b.up h
    · rw [if_neg q]
      exact (c _ (by omega)).up h
/-- a modification -/
theorem Jp.md {w : Nat} {M Z : mk_T} {K mk : Nat → mk_T} {nx cnt n : Nat} {hs : Int32} (H : Jp w M Z K mk nx cnt n hs) (hw : w ≤ 598) {c : Nat} (hc : c < 8) {a b k d e : Int32} {S S2 : mo_T} {t : Nat → Nat} {P : wl_T} {fl fd : Int32} (D : Md S M K cnt hs Z t n P fl fd) (A : mo_af S (fx c (fo M c a b k d e)) cnt M (po_M M c a b k d e) S2) : S2.2 3 = fx c (fo M c a b k d e) ∧ ∃ K', Md S2 (md_M M c a b k d e) K' (md_C cnt (fo M c a b k d e)) hs Z t n P fl fd ∧ Jp (w + 1) (md_M M c a b k d e) Z K' (md_K M mk nx (fo M c a b k d e)) (md_X nx (fo M c a b k d e)) (md_C cnt (fo M c a b k d e)) n hs := by
  obtain ⟨h1, h2⟩ := D.af A
  refine ⟨h1, ?_⟩
  unfold md_M md_K md_X md_C
  by_cases z : fo M c a b k d e = nI 0
  · rw [if_pos z, if_pos z, if_pos z, if_pos z]
    rcases h2 with ⟨-, h2⟩ | ⟨h2, -⟩
    · obtain ⟨j1, j2⟩ := H.kp (Nat.le_succ w) (H.2.1.po hw hc z) H.2.2.2.2.2
      rw [j2] at h2
      exact ⟨_, h2, j1⟩
    · exact absurd ((fx_0 hc).mpr z) h2
  · rw [if_neg z, if_neg z, if_neg z, if_neg z]
    rcases h2 with ⟨h2, -⟩ | ⟨-, h2⟩
    · exact absurd ((fx_0 hc).mp h2) z
    · exact ⟨_, h2, H.up (Nat.le_succ w)⟩
/-- undo -/
theorem Jp.un {w : Nat} {M Z : mk_T} {K mk : Nat → mk_T} {nx cnt n : Nat} {hs : Int32} (H : Jp w M Z K mk nx cnt n hs) : Jp w (if cnt = 0 then M else K (cnt - 1)) Z K mk (un_X nx cnt) (un_C cnt) n hs ∧ un_M M mk nx cnt = (if cnt = 0 then M else K (cnt - 1)) := by
  obtain ⟨a, b, c, d, e, f⟩ := H
  unfold un_M un_X un_C
  by_cases z : cnt = 0
  · rw [if_pos z, if_pos z, if_pos z, if_pos z]
    exact ⟨⟨a, b, c, d, e, f⟩, rfl⟩
  · rw [if_neg z, if_neg z, if_neg z, if_neg z]
    obtain ⟨r1, r2⟩ := a.un z
    exact ⟨⟨r1, c _ (by omega), fun i hi => c i (by omega), d, e, f⟩, r2.symm⟩
/-- save -/
theorem Jp.sv {w : Nat} {M Z : mk_T} {K mk : Nat → mk_T} {nx cnt n : Nat} {hs : Int32} (H : Jp w M Z K mk nx cnt n hs) : Jp w M M K mk nx cnt n (nI 1) := by
  obtain ⟨a, b, c, d, e, f⟩ := H
  exact ⟨a, b, c, fun _ => b, Or.inr rfl, f⟩
/-- restore -/
theorem Jp.re {w : Nat} {M Z : mk_T} {K mk : Nat → mk_T} {nx cnt n : Nat} {hs : Int32} (H : Jp w M Z K mk nx cnt n hs) : Jp w (re_M hs M Z) Z K mk nx (re_C hs cnt) n hs := by
  obtain ⟨a, b, c, d, e, f⟩ := H
  unfold re_M re_C
  by_cases z : hs = 0
  · rw [if_pos z, if_pos z]
    exact ⟨a, b, c, d, e, f⟩
  · rw [if_neg z, if_neg z]
    exact ⟨a.re, d z, fun i hi => absurd hi (Nat.not_lt_zero i), d, e, f⟩

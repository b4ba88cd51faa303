/-! ===== THE LAW: the model's states, as a whole ===== -/
section MDL
variable {S S2 : mo_T} {M M' : mk_T} {K : Nat → mk_T} {ch : Nat} {hs : Int32} {Z : mk_T} {t : Nat → Nat} {n : Nat} {P : wl_T} {fl fd : Int32}
theorem Md.wk (H : Md S M K ch hs Z t n P fl fd) (h : mo_wk S S2) (hg : Gr (S2.1 0) M) : Md S2 M K ch hs Z t n P fl fd := H.rs h.rs hg (H.2.1.wk h)
theorem Md.eq (H : Md S M K ch hs Z t n P fl fd) (h : mo_eq S S2) : Md S2 M K ch hs Z t n P fl fd :=
  H.rs ⟨⟨h.1 2 (by decide), h.1 4 (by decide), h.1 5 (by decide)⟩, h.2 0 (by decide), h.2 2 (by decide), h.2 4 (by decide), h.2 5 (by decide), h.2 6 (by decide), h.2 7 (by decide)⟩ (by rw [h.1 0 (by decide)]; exact H.1) (H.2.1.eq (h.1 1 (by decide)) (h.2 1 (by decide)))
theorem Md.s3 (H : Md S M K ch hs Z t n P fl fd) (v : Int32) : Md (mo_si S 3 v) M K ch hs Z t n P fl fd ∧ (mo_si S 3 v).2 3 = v := ⟨H.eq ((mo_eq.rf S).si (by decide)), mo_si_3 S 3 v⟩
theorem Md.lq (H : Md S M K ch hs Z t n P fl fd) (h : mo_lq S S2) {P' : wl_T} (hL : Ln S2 P') : Md S2 M K ch hs Z t n P' fl fd := by
  obtain ⟨a, b, c, d, e, f, g, i, j⟩ := H
  obtain ⟨r, q⟩ := h
  refine ⟨by rw [r 0 (by decide) (by decide)]; exact a, b.eq (r 1 (by decide) (by decide)) (q 1 (by decide) (by decide) (by decide)), (q 0 (by decide) (by decide) (by decide)).trans c, fun z => by rw [r 2 (by decide) (by decide)]; exact d z, (q 2 (by decide) (by decide) (by decide)).trans e, ⟨(q 4 (by decide) (by decide) (by decide)).trans f.1, f.2.1, by rw [r 4 (by decide) (by decide)]; exact f.2.2⟩, hL, (q 5 (by decide) (by decide) (by decide)).trans i, (q 6 (by decide) (by decide) (by decide)).trans j⟩
/-- save -/
theorem Md.sv (H : Md S M K ch hs Z t n P fl fd) : Md (mo_cp (mo_si (mo_si S 3 (nI 0)) 0 (nI 1)) 0 0 2 0 138) M K ch (nI 1) M t n P fl fd := by
  obtain ⟨a, b, c, d, e, f, g, i, j⟩ := H
  have I : ∀ k, k ≠ 0 → k ≠ 3 → (mo_cp (mo_si (mo_si S 3 (nI 0)) 0 (nI 1)) 0 0 2 0 138).2 k = S.2 k := fun k h0 h3 => (show upd (upd S.2 3 (nI 0)) 0 (nI 1) k = S.2 k from (pk_un h0).trans (pk_un h3))
  have R : ∀ k, k ≠ 2 → (mo_cp (mo_si (mo_si S 3 (nI 0)) 0 (nI 1)) 0 0 2 0 138).1 k = S.1 k := fun k h2 => if_neg h2
  refine ⟨by rw [R 0 (by decide)]; exact a, b.eq (R 1 (by decide)) (I 1 (by decide) (by decide)), ?_, fun _ => Gr.cp (S := mo_si (mo_si S 3 (nI 0)) 0 (nI 1)) (kf := 0) (kt := 2) a, (I 2 (by decide) (by decide)).trans e, ⟨(I 4 (by decide) (by decide)).trans f.1, f.2.1, by rw [R 4 (by decide)]; exact f.2.2⟩, ⟨(I 7 (by decide) (by decide)).trans g.1, g.2.1, by rw [R 5 (by decide)]; exact g.2.2⟩, (I 5 (by decide) (by decide)).trans i, (I 6 (by decide) (by decide)).trans j⟩
  show upd (upd S.2 3 (nI 0)) 0 (nI 1) 0 = nI 1
  exact pk_us
/-- restore -/
theorem Md.re (H : Md S M K ch hs Z t n P fl fd) : Md (mo_re S) (re_M hs M Z) K (re_C hs ch) hs Z t n P fl fd ∧ (mo_re S).2 3 = (if hs = 0 then nI 1 else nI 0) := by
  have H0 := H
  obtain ⟨a, b, c, d, e, f, g, i, j⟩ := H
  unfold mo_re re_M re_C
  rw [c]
  by_cases z : hs = 0
  · rw [if_pos z, if_pos z, if_pos z, if_pos z]
    exact H0.s3 (nI 1)
  · rw [if_neg z, if_neg z, if_neg z, if_neg z]
    have I : ∀ k, k ≠ 1 → k ≠ 3 → (mo_si (mo_cp (mo_si S 3 (nI 0)) 2 0 0 0 138) 1 (nI 0)).2 k = S.2 k := fun k h1 h3 => (show upd (upd S.2 3 (nI 0)) 1 (nI 0) k = S.2 k from (pk_un h1).trans (pk_un h3))
    have R : ∀ k, k ≠ 0 → (mo_si (mo_cp (mo_si S 3 (nI 0)) 2 0 0 0 138) 1 (nI 0)).1 k = S.1 k := fun k h0 => if_neg h0
    refine ⟨⟨Gr.cp (S := mo_si S 3 (nI 0)) (kf := 2) (kt := 0) (d z), ⟨?_, by decide, fun q hq => absurd hq (Nat.not_lt_zero q)⟩, (I 0 (by decide) (by decide)).trans c, fun y => by rw [R 2 (by decide)]; exact d y, (I 2 (by decide) (by decide)).trans e, ⟨(I 4 (by decide) (by decide)).trans f.1, f.2.1, by rw [R 4 (by decide)]; exact f.2.2⟩, ⟨(I 7 (by decide) (by decide)).trans g.1, g.2.1, by rw [R 5 (by decide)]; exact g.2.2⟩, (I 5 (by decide) (by decide)).trans i, (I 6 (by decide) (by decide)).trans j⟩, ?_⟩
    · show upd (upd S.2 3 (nI 0)) 1 (nI 0) 1 = nI 0
      exact pk_us
    · show upd (upd S.2 3 (nI 0)) 1 (nI 0) 3 = nI 0
      exact (pk_un (by decide)).trans pk_us
/-- undo -/
theorem Md.un (H : Md S M K ch hs Z t n P fl fd) : Md (mo_un S ch) (if ch = 0 then M else K (ch - 1)) K (un_C ch) hs Z t n P fl fd ∧ (mo_un S ch).2 3 = (if ch = 0 then nI 1 else nI 0) := by
  have H0 := H
  obtain ⟨a, b, c, d, e, f, g, i, j⟩ := H
  unfold mo_un un_C
  by_cases z : ch = 0
  · rw [if_pos z, if_pos z, if_pos z, if_pos z]
    exact H0.s3 (nI 1)
  · rw [if_neg z, if_neg z, if_neg z, if_neg z]
    obtain ⟨b1, b2, b3⟩ := b
    have I : ∀ k, k ≠ 1 → k ≠ 3 → (mo_cp (mo_si (mo_si S 3 (nI 0)) 1 (nI (ch - 1))) 1 (138 * (ch - 1)) 0 0 138).2 k = S.2 k := fun k h1 h3 => (show upd (upd S.2 3 (nI 0)) 1 (nI (ch - 1)) k = S.2 k from (pk_un h1).trans (pk_un h3))
    have R : ∀ k, k ≠ 0 → (mo_cp (mo_si (mo_si S 3 (nI 0)) 1 (nI (ch - 1))) 1 (138 * (ch - 1)) 0 0 138).1 k = S.1 k := fun k h0 => if_neg h0
    refine ⟨⟨(b3 (ch - 1) (by omega)).cg (fun q hq => ?_), ⟨?_, by omega, fun q hq => by rw [R 1 (by decide)]; exact b3 q (by omega)⟩, (I 0 (by decide) (by decide)).trans c, fun y => by rw [R 2 (by decide)]; exact d y, (I 2 (by decide) (by decide)).trans e, ⟨(I 4 (by decide) (by decide)).trans f.1, f.2.1, by rw [R 4 (by decide)]; exact f.2.2⟩, ⟨(I 7 (by decide) (by decide)).trans g.1, g.2.1, by rw [R 5 (by decide)]; exact g.2.2⟩, (I 5 (by decide) (by decide)).trans i, (I 6 (by decide) (by decide)).trans j⟩, ?_⟩
    · show (if (0 : Nat) = 0 then (fun i => if 0 ≤ i ∧ i < 0 + 138 then S.1 1 (138 * (ch - 1) + (i - 0)) else S.1 0 i) else S.1 0) q = S.1 1 (138 * (ch - 1) + q)
      rw [if_pos rfl]
      show (if 0 ≤ q ∧ q < 0 + 138 then S.1 1 (138 * (ch - 1) + (q - 0)) else S.1 0 q) = _
      rw [if_pos (by omega)]
      exact congrArg (S.1 1) (by omega)
    · show upd (upd S.2 3 (nI 0)) 1 (nI (ch - 1)) 1 = nI (ch - 1)
      exact pk_us
    · show upd (upd S.2 3 (nI 0)) 1 (nI (ch - 1)) 3 = nI 0
      exact (pk_un (by decide)).trans pk_us
end MDL

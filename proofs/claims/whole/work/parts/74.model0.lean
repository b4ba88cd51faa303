/-! ===== THE MODEL: its object, its row ===== -/
abbrev mo_T : Type := (Nat → Nat → Int32) × (Nat → Int32)
def mo_len (k : Nat) : Nat := match k with
  | 0 => 138
  | 1 => 1104
  | 2 => 138
  | 3 => 138
  | 4 => 60
  | 5 => 60
  | 6 => 4
  | 7 => 4
  | 8 => 6
  | 9 => 64
  | 10 => 64
  | 11 => 186
  | _ => 0
def mo_kd (k : Nat) : Nat := if k = 5 then 1 else 2
def mo_fs (y : Nat) (S : mo_T) : List Value := [.ref (y + 1), .ref (y + 2), .ref (y + 3), .ref (y + 4), .int (S.2 0), .int (S.2 1), .int (S.2 2), .int (S.2 3), .ref (y + 5), .int (S.2 4), .int (S.2 5), .int (S.2 6), .ref (y + 6), .int (S.2 7), .ref (y + 7), .ref (y + 8), .int (S.2 8), .int (S.2 9), .ref (y + 9), .ref (y + 10), .ref (y + 11), .int (S.2 10), .ref (y + 12), .int (S.2 11)]
/-- the model's object at y, its rows behind it -/
def Mo (G : hp_G) (h : Nat → Option va_E) (y : Nat) (S : mo_T) : Prop := h y = some (.inr (10, mo_fs y S)) ∧ (∀ k, k < 12 → h (y + (k + 1)) = some (.inl (G.2.2.1 (mo_kd k), mo_len k, .inl (S.1 k)))) ∧ G.2.1 ≤ y
abbrev mo_si (S : mo_T) (j : Nat) (v : Int32) : mo_T := (S.1, upd S.2 j v)
abbrev mo_sa (S : mo_T) (k i : Nat) (v : Int32) : mo_T := (fun j => if j = k then upd (S.1 k) i v else S.1 j, S.2)
section MOO
variable {G : hp_G} {h h' : Nat → Option va_E} {y : Nat} {S : mo_T}
theorem Mo.o (H : Mo G h y S) : h y = some (.inr (10, mo_fs y S)) := H.1
theorem Mo.base (H : Mo G h y S) : G.2.1 ≤ y := H.2.2
theorem Mo.same (H : Mo G h y S) (hs : ∀ a, y ≤ a → a < y + 13 → h' a = h a) : Mo G h' y S := ⟨(hs _ (by omega) (by omega)).trans H.1, fun k hk => (hs _ (by omega) (by omega)).trans (H.2.1 k hk), H.2.2⟩
theorem Mo.a0 (H : Mo G h y S) : h (y + 1) = some (.inl (G.2.2.1 2, 138, .inl (S.1 0))) := H.2.1 0 (by decide)
theorem Mo.s0 {i : Nat} {v : Int32} (H : Mo G h y S) (h1 : h' (y + 1) = some (.inl (G.2.2.1 2, 138, .inl (upd (S.1 0) i v)))) (h2 : ∀ b, b ≠ y + 1 → h' b = h b) : Mo G h' y (mo_sa S 0 i v) := by
  refine ⟨(h2 _ (by omega)).trans H.1, fun j hj => ?_, H.2.2⟩
  by_cases q : j = 0
  · subst q
    exact h1
  · have e : (mo_sa S 0 i v).1 j = S.1 j := if_neg q
    rw [e]
    exact (h2 _ (by omega)).trans (H.2.1 j hj)
theorem Mo.a1 (H : Mo G h y S) : h (y + 2) = some (.inl (G.2.2.1 2, 1104, .inl (S.1 1))) := H.2.1 1 (by decide)
theorem Mo.s1 {i : Nat} {v : Int32} (H : Mo G h y S) (h1 : h' (y + 2) = some (.inl (G.2.2.1 2, 1104, .inl (upd (S.1 1) i v)))) (h2 : ∀ b, b ≠ y + 2 → h' b = h b) : Mo G h' y (mo_sa S 1 i v) := by
  refine ⟨(h2 _ (by omega)).trans H.1, fun j hj => ?_, H.2.2⟩
  by_cases q : j = 1
  · subst q
    exact h1
  · have e : (mo_sa S 1 i v).1 j = S.1 j := if_neg q
    rw [e]
    exact (h2 _ (by omega)).trans (H.2.1 j hj)
theorem Mo.a2 (H : Mo G h y S) : h (y + 3) = some (.inl (G.2.2.1 2, 138, .inl (S.1 2))) := H.2.1 2 (by decide)
theorem Mo.s2 {i : Nat} {v : Int32} (H : Mo G h y S) (h1 : h' (y + 3) = some (.inl (G.2.2.1 2, 138, .inl (upd (S.1 2) i v)))) (h2 : ∀ b, b ≠ y + 3 → h' b = h b) : Mo G h' y (mo_sa S 2 i v) := by
  refine ⟨(h2 _ (by omega)).trans H.1, fun j hj => ?_, H.2.2⟩
  by_cases q : j = 2
  · subst q
    exact h1
  · have e : (mo_sa S 2 i v).1 j = S.1 j := if_neg q
    rw [e]
    exact (h2 _ (by omega)).trans (H.2.1 j hj)
theorem Mo.a3 (H : Mo G h y S) : h (y + 4) = some (.inl (G.2.2.1 2, 138, .inl (S.1 3))) := H.2.1 3 (by decide)
theorem Mo.s3 {i : Nat} {v : Int32} (H : Mo G h y S) (h1 : h' (y + 4) = some (.inl (G.2.2.1 2, 138, .inl (upd (S.1 3) i v)))) (h2 : ∀ b, b ≠ y + 4 → h' b = h b) : Mo G h' y (mo_sa S 3 i v) := by
  refine ⟨(h2 _ (by omega)).trans H.1, fun j hj => ?_, H.2.2⟩
  by_cases q : j = 3
  · subst q
    exact h1
  · have e : (mo_sa S 3 i v).1 j = S.1 j := if_neg q
    rw [e]
    exact (h2 _ (by omega)).trans (H.2.1 j hj)
theorem Mo.a4 (H : Mo G h y S) : h (y + 5) = some (.inl (G.2.2.1 2, 60, .inl (S.1 4))) := H.2.1 4 (by decide)
theorem Mo.s4 {i : Nat} {v : Int32} (H : Mo G h y S) (h1 : h' (y + 5) = some (.inl (G.2.2.1 2, 60, .inl (upd (S.1 4) i v)))) (h2 : ∀ b, b ≠ y + 5 → h' b = h b) : Mo G h' y (mo_sa S 4 i v) := by
  refine ⟨(h2 _ (by omega)).trans H.1, fun j hj => ?_, H.2.2⟩
  by_cases q : j = 4
  · subst q
    exact h1
  · have e : (mo_sa S 4 i v).1 j = S.1 j := if_neg q
    rw [e]
    exact (h2 _ (by omega)).trans (H.2.1 j hj)
theorem Mo.a5 (H : Mo G h y S) : h (y + 6) = some (.inl (G.2.2.1 1, 60, .inl (S.1 5))) := H.2.1 5 (by decide)
theorem Mo.s5 {i : Nat} {v : Int32} (H : Mo G h y S) (h1 : h' (y + 6) = some (.inl (G.2.2.1 1, 60, .inl (upd (S.1 5) i v)))) (h2 : ∀ b, b ≠ y + 6 → h' b = h b) : Mo G h' y (mo_sa S 5 i v) := by
  refine ⟨(h2 _ (by omega)).trans H.1, fun j hj => ?_, H.2.2⟩
  by_cases q : j = 5
  · subst q
    exact h1
  · have e : (mo_sa S 5 i v).1 j = S.1 j := if_neg q
    rw [e]
    exact (h2 _ (by omega)).trans (H.2.1 j hj)
theorem Mo.a6 (H : Mo G h y S) : h (y + 7) = some (.inl (G.2.2.1 2, 4, .inl (S.1 6))) := H.2.1 6 (by decide)
theorem Mo.s6 {i : Nat} {v : Int32} (H : Mo G h y S) (h1 : h' (y + 7) = some (.inl (G.2.2.1 2, 4, .inl (upd (S.1 6) i v)))) (h2 : ∀ b, b ≠ y + 7 → h' b = h b) : Mo G h' y (mo_sa S 6 i v) := by
  refine ⟨(h2 _ (by omega)).trans H.1, fun j hj => ?_, H.2.2⟩
  by_cases q : j = 6
  · subst q
    exact h1
  · have e : (mo_sa S 6 i v).1 j = S.1 j := if_neg q
    rw [e]
    exact (h2 _ (by omega)).trans (H.2.1 j hj)
theorem Mo.a7 (H : Mo G h y S) : h (y + 8) = some (.inl (G.2.2.1 2, 4, .inl (S.1 7))) := H.2.1 7 (by decide)
theorem Mo.s7 {i : Nat} {v : Int32} (H : Mo G h y S) (h1 : h' (y + 8) = some (.inl (G.2.2.1 2, 4, .inl (upd (S.1 7) i v)))) (h2 : ∀ b, b ≠ y + 8 → h' b = h b) : Mo G h' y (mo_sa S 7 i v) := by
  refine ⟨(h2 _ (by omega)).trans H.1, fun j hj => ?_, H.2.2⟩
  by_cases q : j = 7
  · subst q
    exact h1
  · have e : (mo_sa S 7 i v).1 j = S.1 j := if_neg q
    rw [e]
    exact (h2 _ (by omega)).trans (H.2.1 j hj)
theorem Mo.a8 (H : Mo G h y S) : h (y + 9) = some (.inl (G.2.2.1 2, 6, .inl (S.1 8))) := H.2.1 8 (by decide)
theorem Mo.s8 {i : Nat} {v : Int32} (H : Mo G h y S) (h1 : h' (y + 9) = some (.inl (G.2.2.1 2, 6, .inl (upd (S.1 8) i v)))) (h2 : ∀ b, b ≠ y + 9 → h' b = h b) : Mo G h' y (mo_sa S 8 i v) := by
  refine ⟨(h2 _ (by omega)).trans H.1, fun j hj => ?_, H.2.2⟩
  by_cases q : j = 8
  · subst q
    exact h1
  · have e : (mo_sa S 8 i v).1 j = S.1 j := if_neg q
    rw [e]
    exact (h2 _ (by omega)).trans (H.2.1 j hj)
theorem Mo.a9 (H : Mo G h y S) : h (y + 10) = some (.inl (G.2.2.1 2, 64, .inl (S.1 9))) := H.2.1 9 (by decide)
theorem Mo.s9 {i : Nat} {v : Int32} (H : Mo G h y S) (h1 : h' (y + 10) = some (.inl (G.2.2.1 2, 64, .inl (upd (S.1 9) i v)))) (h2 : ∀ b, b ≠ y + 10 → h' b = h b) : Mo G h' y (mo_sa S 9 i v) := by
  refine ⟨(h2 _ (by omega)).trans H.1, fun j hj => ?_, H.2.2⟩
  by_cases q : j = 9
  · subst q
    exact h1
  · have e : (mo_sa S 9 i v).1 j = S.1 j := if_neg q
    rw [e]
    exact (h2 _ (by omega)).trans (H.2.1 j hj)
theorem Mo.a10 (H : Mo G h y S) : h (y + 11) = some (.inl (G.2.2.1 2, 64, .inl (S.1 10))) := H.2.1 10 (by decide)
theorem Mo.s10 {i : Nat} {v : Int32} (H : Mo G h y S) (h1 : h' (y + 11) = some (.inl (G.2.2.1 2, 64, .inl (upd (S.1 10) i v)))) (h2 : ∀ b, b ≠ y + 11 → h' b = h b) : Mo G h' y (mo_sa S 10 i v) := by
  refine ⟨(h2 _ (by omega)).trans H.1, fun j hj => ?_, H.2.2⟩
  by_cases q : j = 10
  · subst q
    exact h1
  · have e : (mo_sa S 10 i v).1 j = S.1 j := if_neg q
    rw [e]
    exact (h2 _ (by omega)).trans (H.2.1 j hj)
theorem Mo.a11 (H : Mo G h y S) : h (y + 12) = some (.inl (G.2.2.1 2, 186, .inl (S.1 11))) := H.2.1 11 (by decide)
theorem Mo.s11 {i : Nat} {v : Int32} (H : Mo G h y S) (h1 : h' (y + 12) = some (.inl (G.2.2.1 2, 186, .inl (upd (S.1 11) i v)))) (h2 : ∀ b, b ≠ y + 12 → h' b = h b) : Mo G h' y (mo_sa S 11 i v) := by
  refine ⟨(h2 _ (by omega)).trans H.1, fun j hj => ?_, H.2.2⟩
  by_cases q : j = 11
  · subst q
    exact h1
  · have e : (mo_sa S 11 i v).1 j = S.1 j := if_neg q
    rw [e]
    exact (h2 _ (by omega)).trans (H.2.1 j hj)
theorem Mo.i0 {v : Int32} (H : Mo G h y S) (h1 : h' y = some (.inr (10, (mo_fs y S).set 4 (.int v)))) (h2 : ∀ b, b ≠ y → h' b = h b) : Mo G h' y (mo_si S 0 v) := ⟨h1, fun k hk => (h2 _ (by omega)).trans (H.2.1 k hk), H.2.2⟩
theorem Mo.i1 {v : Int32} (H : Mo G h y S) (h1 : h' y = some (.inr (10, (mo_fs y S).set 5 (.int v)))) (h2 : ∀ b, b ≠ y → h' b = h b) : Mo G h' y (mo_si S 1 v) := ⟨h1, fun k hk => (h2 _ (by omega)).trans (H.2.1 k hk), H.2.2⟩
theorem Mo.i2 {v : Int32} (H : Mo G h y S) (h1 : h' y = some (.inr (10, (mo_fs y S).set 6 (.int v)))) (h2 : ∀ b, b ≠ y → h' b = h b) : Mo G h' y (mo_si S 2 v) := ⟨h1, fun k hk => (h2 _ (by omega)).trans (H.2.1 k hk), H.2.2⟩
theorem Mo.i3 {v : Int32} (H : Mo G h y S) (h1 : h' y = some (.inr (10, (mo_fs y S).set 7 (.int v)))) (h2 : ∀ b, b ≠ y → h' b = h b) : Mo G h' y (mo_si S 3 v) := ⟨h1, fun k hk => (h2 _ (by omega)).trans (H.2.1 k hk), H.2.2⟩
theorem Mo.i4 {v : Int32} (H : Mo G h y S) (h1 : h' y = some (.inr (10, (mo_fs y S).set 9 (.int v)))) (h2 : ∀ b, b ≠ y → h' b = h b) : Mo G h' y (mo_si S 4 v) := ⟨h1, fun k hk => (h2 _ (by omega)).trans (H.2.1 k hk), H.2.2⟩
theorem Mo.i5 {v : Int32} (H : Mo G h y S) (h1 : h' y = some (.inr (10, (mo_fs y S).set 10 (.int v)))) (h2 : ∀ b, b ≠ y → h' b = h b) : Mo G h' y (mo_si S 5 v) := ⟨h1, fun k hk => (h2 _ (by omega)).trans (H.2.1 k hk), H.2.2⟩
theorem Mo.i6 {v : Int32} (H : Mo G h y S) (h1 : h' y = some (.inr (10, (mo_fs y S).set 11 (.int v)))) (h2 : ∀ b, b ≠ y → h' b = h b) : Mo G h' y (mo_si S 6 v) := ⟨h1, fun k hk => (h2 _ (by omega)).trans (H.2.1 k hk), H.2.2⟩
theorem Mo.i7 {v : Int32} (H : Mo G h y S) (h1 : h' y = some (.inr (10, (mo_fs y S).set 13 (.int v)))) (h2 : ∀ b, b ≠ y → h' b = h b) : Mo G h' y (mo_si S 7 v) := ⟨h1, fun k hk => (h2 _ (by omega)).trans (H.2.1 k hk), H.2.2⟩
theorem Mo.i8 {v : Int32} (H : Mo G h y S) (h1 : h' y = some (.inr (10, (mo_fs y S).set 16 (.int v)))) (h2 : ∀ b, b ≠ y → h' b = h b) : Mo G h' y (mo_si S 8 v) := ⟨h1, fun k hk => (h2 _ (by omega)).trans (H.2.1 k hk), H.2.2⟩
theorem Mo.i9 {v : Int32} (H : Mo G h y S) (h1 : h' y = some (.inr (10, (mo_fs y S).set 17 (.int v)))) (h2 : ∀ b, b ≠ y → h' b = h b) : Mo G h' y (mo_si S 9 v) := ⟨h1, fun k hk => (h2 _ (by omega)).trans (H.2.1 k hk), H.2.2⟩
theorem Mo.i10 {v : Int32} (H : Mo G h y S) (h1 : h' y = some (.inr (10, (mo_fs y S).set 21 (.int v)))) (h2 : ∀ b, b ≠ y → h' b = h b) : Mo G h' y (mo_si S 10 v) := ⟨h1, fun k hk => (h2 _ (by omega)).trans (H.2.1 k hk), H.2.2⟩
theorem Mo.i11 {v : Int32} (H : Mo G h y S) (h1 : h' y = some (.inr (10, (mo_fs y S).set 23 (.int v)))) (h2 : ∀ b, b ≠ y → h' b = h b) : Mo G h' y (mo_si S 11 v) := ⟨h1, fun k hk => (h2 _ (by omega)).trans (H.2.1 k hk), H.2.2⟩
end MOO
/-- a row that says what a market says -/
def Gr (g : Nat → Int32) (M : mk_T) : Prop := (g 0 = nI (mk_hz M) ∧ g 1 = nI (mk_tr M) ∧ g 2 = nI (mk_ct M) ∧ g 3 = M.2.2.1.1 ∧ g 4 = M.2.2.1.2.1 ∧ g 5 = M.2.2.1.2.2 ∧ (g 136).toInt64 = M.2.2.2.1 ∧ (g 137).toInt64 = M.2.2.2.2) ∧ (∀ i, i < mk_hz M → ∀ k, k < 3 → g (6 + 3 * i + k) = mk_ar M k i) ∧ (∀ t, t < mk_tr M → g (18 + 3 * t + 0) = mk_ar M 3 t ∧ g (18 + 3 * t + 1) = hp_b (mk_ar M 4 t = nI 1) ∧ g (18 + 3 * t + 2) = hp_b (mk_ar M 4 t = nI 2) ∧ (mk_ar M 4 t = nI 0 ∨ mk_ar M 4 t = nI 1 ∨ mk_ar M 4 t = nI 2)) ∧ (∀ c, c < mk_ct M → ∀ k, k < 5 → g (36 + 5 * c + k) = mk_ar M (5 + k) c) ∧ mk_hz M ≤ 4 ∧ mk_tr M ≤ 6 ∧ mk_ct M ≤ 20
section GRR
variable {g : Nat → Int32} {M : mk_T}
theorem Gr.hz (H : Gr g M) : mk_hz M ≤ 4 := H.2.2.2.2.1
theorem Gr.tr (H : Gr g M) : mk_tr M ≤ 6 := H.2.2.2.2.2.1
theorem Gr.ct (H : Gr g M) : mk_ct M ≤ 20 := H.2.2.2.2.2.2
theorem Gr.g0 (H : Gr g M) : g 0 = nI (mk_hz M) := H.1.1
theorem Gr.g1 (H : Gr g M) : g 1 = nI (mk_tr M) := H.1.2.1
theorem Gr.g2 (H : Gr g M) : g 2 = nI (mk_ct M) := H.1.2.2.1
theorem Gr.g3 (H : Gr g M) : g 3 = M.2.2.1.1 := H.1.2.2.2.1
theorem Gr.g4 (H : Gr g M) : g 4 = M.2.2.1.2.1 := H.1.2.2.2.2.1
theorem Gr.g5 (H : Gr g M) : g 5 = M.2.2.1.2.2 := H.1.2.2.2.2.2.1
theorem Gr.g6 (H : Gr g M) : (g 136).toInt64 = M.2.2.2.1 := H.1.2.2.2.2.2.2.1
theorem Gr.g7 (H : Gr g M) : (g 137).toInt64 = M.2.2.2.2 := H.1.2.2.2.2.2.2.2
theorem Gr.on0 (H : Gr g M) {i : Nat} (hi : i < mk_hz M) : g (6 + 3 * i + 0) = mk_ar M 0 i := H.2.1 i hi 0 (by decide)
theorem Gr.on1 (H : Gr g M) {i : Nat} (hi : i < mk_hz M) : g (6 + 3 * i + 1) = mk_ar M 1 i := H.2.1 i hi 1 (by decide)
theorem Gr.on2 (H : Gr g M) {i : Nat} (hi : i < mk_hz M) : g (6 + 3 * i + 2) = mk_ar M 2 i := H.2.1 i hi 2 (by decide)
theorem Gr.by0 (H : Gr g M) {c : Nat} (hc : c < mk_ct M) : g (36 + 5 * c + 0) = mk_ar M 5 c := H.2.2.2.1 c hc 0 (by decide)
theorem Gr.by1 (H : Gr g M) {c : Nat} (hc : c < mk_ct M) : g (36 + 5 * c + 1) = mk_ar M 6 c := H.2.2.2.1 c hc 1 (by decide)
theorem Gr.by2 (H : Gr g M) {c : Nat} (hc : c < mk_ct M) : g (36 + 5 * c + 2) = mk_ar M 7 c := H.2.2.2.1 c hc 2 (by decide)
theorem Gr.by3 (H : Gr g M) {c : Nat} (hc : c < mk_ct M) : g (36 + 5 * c + 3) = mk_ar M 8 c := H.2.2.2.1 c hc 3 (by decide)
theorem Gr.by4 (H : Gr g M) {c : Nat} (hc : c < mk_ct M) : g (36 + 5 * c + 4) = mk_ar M 9 c := H.2.2.2.1 c hc 4 (by decide)
theorem Gr.of0 (H : Gr g M) {t : Nat} (ht : t < mk_tr M) : g (18 + 3 * t + 0) = mk_ar M 3 t := (H.2.2.1 t ht).1
theorem Gr.of1 (H : Gr g M) {t : Nat} (ht : t < mk_tr M) : g (18 + 3 * t + 1) = hp_b (mk_ar M 4 t = nI 1) := (H.2.2.1 t ht).2.1
theorem Gr.of2 (H : Gr g M) {t : Nat} (ht : t < mk_tr M) : g (18 + 3 * t + 2) = hp_b (mk_ar M 4 t = nI 2) := (H.2.2.1 t ht).2.2.1
theorem Gr.st (H : Gr g M) {t : Nat} (ht : t < mk_tr M) : mk_ar M 4 t = nI 0 ∨ mk_ar M 4 t = nI 1 ∨ mk_ar M 4 t = nI 2 := (H.2.2.1 t ht).2.2.2
end GRR
set_option maxHeartbeats 8000000 in
/-- what was thrown -/
theorem c_X8_thrown {G : hp_G} {l : Launch} (hl : l.stackTraces = false) {n0 : Nat} {h0 : Nat → Option va_E} {y : Nat} {S : mo_T} (hS : Mo G h0 y S)  : Ct G l yX8_thrown cX8_thrown 1 (some .int) 0 0 0 [.ref y] (n0, h0) (hp_ri (S.2 3) (n0, h0)) := by
  have hbase := hS.base
  refine Ct.of rfl hl (by simp [Value.category]) (Nat.le_of_ble_eq_true rfl) (fun K C E hRm hKl => ?_)
  subst hKl
  refine v_aload_n C dX8_thrown_0 rfl ?_
  refine v_get C 7 dX8_thrown_1 wd7_4 hS.o rfl (by decide) ⟨rfl, rfl, rfl⟩ rfl ?_
  exact v_iret C E dX8_thrown_4 rfl ⟨rfl, rfl⟩
set_option maxHeartbeats 8000000 in
/-- a claim that fails -/
theorem c_X8_fails {G : hp_G} {l : Launch} (hl : l.stackTraces = false) {n0 : Nat} {h0 : Nat → Option va_E} {y : Nat} {S : mo_T} (hS : Mo G h0 y S) (p : Int32) : Ct G l yX8_fails cX8_fails 2 (some .boolean) 0 0 0 [.ref y, .int p] (n0, h0) (hp_iq (fun r τ => r = hp_b (0 < p) ∧ τ.1 = n0 ∧ Mo G τ.2 y (mo_si S 3 p) ∧ ∀ a, (a < y ∨ y + 13 ≤ a) → τ.2 a = h0 a)) := by
  have hbase := hS.base
  refine Ct.of rfl hl (by simp [Value.category]) (Nat.le_of_ble_eq_true rfl) (fun K C E hRm hKl => ?_)
  subst hKl
  refine v_aload_n C dX8_fails_0 rfl ?_
  refine v_iload_n C dX8_fails_1 rfl ?_
  refine v_put C 7 dX8_fails_2 wd7_4 hbase hS.o rfl (by decide) ⟨rfl, rfl, rfl, rfl⟩ rfl rfl rfl (Nat.le_of_ble_eq_true rfl) (fun h2 e2 g2 => ?_)
  have Y2 := hS.i3 e2 g2
  have W2 : ∀ a, (a < y ∨ y + 13 ≤ a) → h2 a = _ := fun a ha => g2 a (by omega)
  refine v_iload_n C dX8_fails_5 rfl ?_
  refine v_if_le (tgt := 13) C dX8_fails_6 (by decide) (fun c6 => ?_) (fun c6 => ?_)
  · refine v_iconst (v := nI 0) C dX8_fails_13 (by decide) ?_
    exact v_zret C E dX8_fails_14 rfl rfl ⟨_, rfl, by first | exact (hp_b_t (Int32.not_le.mp c6)).symm | exact (hp_b_f (Int32.not_lt.mpr c6)).symm, rfl, Y2, W2⟩
  · refine v_iconst (v := nI 1) C dX8_fails_9 (by decide) ?_
    refine v_goto (tgt := 14) C dX8_fails_10 (by decide) ?_
    exact v_zret C E dX8_fails_14 rfl rfl ⟨_, rfl, by first | exact (hp_b_t (Int32.not_le.mp c6)).symm | exact (hp_b_f (Int32.not_lt.mpr c6)).symm, rfl, Y2, W2⟩
set_option maxHeartbeats 4000000 in
/-- between two numbers -/
theorem c_X8_in {G : hp_G} {l : Launch} (hl : l.stackTraces = false) {n0 : Nat} {h0 : Nat → Option va_E} (v a b : Int32) : Ct G l yX8_in cX8_in 3 (some .boolean) 0 0 0 [.int v, .int a, .int b] (n0, h0) (hp_ri (hp_b (hp_wi v a b)) (n0, h0)) := by
  refine Ct.of rfl hl (by simp [Value.category]) (Nat.le_of_ble_eq_true rfl) (fun K C E hRm hKl => ?_)
  subst hKl
  refine v_iload_n C dX8_in_0 rfl ?_
  refine v_iload_n C dX8_in_1 rfl ?_
  refine v_icmp_lt (tgt := 14) C dX8_in_2 (by decide) (fun c2 => ?_) (fun c2 => ?_)
  · refine v_iconst (v := nI 0) C dX8_in_14 (by decide) ?_
    exact v_zret C E dX8_in_15 rfl rfl (hp_rib (by first | exact hp_b_t ⟨Int32.not_lt.mp c2, Int32.not_lt.mp c7⟩ | exact hp_b_f (fun q => Int32.not_lt.mpr q.2 c7) | exact hp_b_f (fun q => Int32.not_lt.mpr q.1 c2)))
  · refine v_iload_n C dX8_in_5 rfl ?_
    refine v_iload_n C dX8_in_6 rfl ?_
    refine v_icmp_gt (tgt := 14) C dX8_in_7 (by decide) (fun c7 => ?_) (fun c7 => ?_)
    · refine v_iconst (v := nI 0) C dX8_in_14 (by decide) ?_
      exact v_zret C E dX8_in_15 rfl rfl (hp_rib (by first | exact hp_b_t ⟨Int32.not_lt.mp c2, Int32.not_lt.mp c7⟩ | exact hp_b_f (fun q => Int32.not_lt.mpr q.2 c7) | exact hp_b_f (fun q => Int32.not_lt.mpr q.1 c2)))
    · refine v_iconst (v := nI 1) C dX8_in_10 (by decide) ?_
      refine v_goto (tgt := 15) C dX8_in_11 (by decide) ?_
      exact v_zret C E dX8_in_15 rfl rfl (hp_rib (by first | exact hp_b_t ⟨Int32.not_lt.mp c2, Int32.not_lt.mp c7⟩ | exact hp_b_f (fun q => Int32.not_lt.mpr q.2 c7) | exact hp_b_f (fun q => Int32.not_lt.mpr q.1 c2)))
set_option maxHeartbeats 4000000 in
/-- the size of a number -/
theorem c_X8_size {G : hp_G} {l : Launch} (hl : l.stackTraces = false) {n0 : Nat} {h0 : Nat → Option va_E} (v : Int32) : Ct G l yX8_size cX8_size 1 (some .int) 0 0 0 [.int v] (n0, h0) (hp_ri (hp_abs v) (n0, h0)) := by
  refine Ct.of rfl hl (by simp [Value.category]) (Nat.le_of_ble_eq_true rfl) (fun K C E hRm hKl => ?_)
  subst hKl
  refine v_iload_n C dX8_size_0 rfl ?_
  refine v_if_ge (tgt := 9) C dX8_size_1 (by decide) (fun c1 => ?_) (fun c1 => ?_)
  · refine v_iload_n C dX8_size_9 rfl ?_
    exact v_iret C E dX8_size_10 rfl (hp_rib (by unfold hp_abs; first | exact (if_pos c1) | exact (if_neg c1).trans (Int32.zero_sub v)))
  · refine v_iload_n C dX8_size_4 rfl ?_
    refine v_ineg C dX8_size_5 ?_
    refine v_goto (tgt := 10) C dX8_size_6 (by decide) ?_
    exact v_iret C E dX8_size_10 rfl (hp_rib (by unfold hp_abs; first | exact (if_pos c1) | exact (if_neg c1).trans (Int32.zero_sub v)))
theorem hp_wi_num {x : Int32} {N : Nat} (hN : N < 2 ^ 31) : hp_wi x (nI 0) (nI N - 1) ↔ hp_num x N := by
  have e : (nI N - 1).toInt = (N : Int) - 1 := by
    cases N with
    | zero => decide
    | succ k =>
      rw [nI_pred, nI_toInt (by omega)]
      omega
  constructor
  · intro h
    refine ⟨h.1, ?_⟩
    have h2 := h.2
    rw [Int32.le_iff_toInt_le, e] at h2
    rw [Int32.lt_iff_toInt_lt, nI_toInt hN]
    omega
  · intro h
    refine ⟨h.1, ?_⟩
    have h2 := h.2
    rw [Int32.lt_iff_toInt_lt, nI_toInt hN] at h2
    rw [Int32.le_iff_toInt_le, e]
    omega
theorem hp_nb (p : Prop) [Decidable p] : narrow .boolean (.int (hp_b p)) = .int (hp_b p) := by
  by_cases z : p
  · rw [hp_b_t z]
    rfl
  · rw [hp_b_f z]
    rfl
theorem hp_b_iff {p q : Prop} [Decidable p] [Decidable q] (h : p ↔ q) : hp_b p = hp_b q := by
  by_cases z : q
  · rw [hp_b_t z, hp_b_t (h.mpr z)]
  · rw [hp_b_f z, hp_b_f (fun y => z (h.mp y))]
set_option maxHeartbeats 8000000 in
/-- isHorizon -/
theorem c_X8_isHorizon {G : hp_G} {l : Launch} (hl : l.stackTraces = false) {n0 : Nat} {h0 : Nat → Option va_E} {y : Nat} {S : mo_T} (hS : Mo G h0 y S) {M : mk_T} (hg : Gr (S.1 0) M) (i : Int32) : Ct G l yX8_isHorizon cX8_isHorizon 2 (some .boolean) 1 0 0 [.ref y, .int i] (n0, h0) (hp_ri (hp_b (hp_num i (mk_hz M))) (n0, h0)) := by
  have hbase := hS.base
  have hhz := hg.hz
  have htr := hg.tr
  have hct := hg.ct
  refine Ct.of rfl hl (by simp [Value.category]) (Nat.le_of_ble_eq_true rfl) (fun K C E hRm hKl => ?_)
  subst hKl
  refine v_iload_n C dX8_isHorizon_0 rfl ?_
  refine v_iconst (v := nI 0) C dX8_isHorizon_1 (by decide) ?_
  refine v_aload_n C dX8_isHorizon_2 rfl ?_
  refine v_get C 0 dX8_isHorizon_3 wd6_237 hS.o rfl (by decide) ⟨rfl, rfl, rfl⟩ rfl ?_
  refine v_iconst (v := nI 0) C dX8_isHorizon_6 (by decide) ?_
  refine v_ialdN C dX8_isHorizon_7 hS.a0 (by omega) (by decide) ?_
  rw [hg.g0]
  refine v_iconst (v := nI 1) C dX8_isHorizon_8 (by decide) ?_
  refine v_isub C dX8_isHorizon_9 ?_
  refine v_callSi C (c_X8_in hl i (nI 0) _) dX8_isHorizon_10 mX8_in wd7_79 rfl rfl (Nat.le_of_ble_eq_true rfl) (hp_rmle hRm (by decide) (by decide)) (Nat.le_of_ble_eq_true rfl) (Nat.le_of_ble_eq_true rfl) ?_
  exact v_zret C E dX8_isHorizon_13 rfl (hp_nb _) (hp_rib (hp_b_iff (hp_wi_num (by omega))).symm)
set_option maxHeartbeats 8000000 in
/-- isTrader -/
theorem c_X8_isTrader {G : hp_G} {l : Launch} (hl : l.stackTraces = false) {n0 : Nat} {h0 : Nat → Option va_E} {y : Nat} {S : mo_T} (hS : Mo G h0 y S) {M : mk_T} (hg : Gr (S.1 0) M) (i : Int32) : Ct G l yX8_isTrader cX8_isTrader 2 (some .boolean) 1 0 0 [.ref y, .int i] (n0, h0) (hp_ri (hp_b (hp_num i (mk_tr M))) (n0, h0)) := by
  have hbase := hS.base
  have hhz := hg.hz
  have htr := hg.tr
  have hct := hg.ct
  refine Ct.of rfl hl (by simp [Value.category]) (Nat.le_of_ble_eq_true rfl) (fun K C E hRm hKl => ?_)
  subst hKl
  refine v_iload_n C dX8_isTrader_0 rfl ?_
  refine v_iconst (v := nI 0) C dX8_isTrader_1 (by decide) ?_
  refine v_aload_n C dX8_isTrader_2 rfl ?_
  refine v_get C 0 dX8_isTrader_3 wd6_237 hS.o rfl (by decide) ⟨rfl, rfl, rfl⟩ rfl ?_
  refine v_iconst (v := nI 1) C dX8_isTrader_6 (by decide) ?_
  refine v_ialdN C dX8_isTrader_7 hS.a0 (by omega) (by decide) ?_
  rw [hg.g1]
  refine v_iconst (v := nI 1) C dX8_isTrader_8 (by decide) ?_
  refine v_isub C dX8_isTrader_9 ?_
  refine v_callSi C (c_X8_in hl i (nI 0) _) dX8_isTrader_10 mX8_in wd7_79 rfl rfl (Nat.le_of_ble_eq_true rfl) (hp_rmle hRm (by decide) (by decide)) (Nat.le_of_ble_eq_true rfl) (Nat.le_of_ble_eq_true rfl) ?_
  exact v_zret C E dX8_isTrader_13 rfl (hp_nb _) (hp_rib (hp_b_iff (hp_wi_num (by omega))).symm)
set_option maxHeartbeats 8000000 in
/-- isContract -/
theorem c_X8_isContract {G : hp_G} {l : Launch} (hl : l.stackTraces = false) {n0 : Nat} {h0 : Nat → Option va_E} {y : Nat} {S : mo_T} (hS : Mo G h0 y S) {M : mk_T} (hg : Gr (S.1 0) M) (i : Int32) : Ct G l yX8_isContract cX8_isContract 2 (some .boolean) 1 0 0 [.ref y, .int i] (n0, h0) (hp_ri (hp_b (hp_num i (mk_ct M))) (n0, h0)) := by
  have hbase := hS.base
  have hhz := hg.hz
  have htr := hg.tr
  have hct := hg.ct
  refine Ct.of rfl hl (by simp [Value.category]) (Nat.le_of_ble_eq_true rfl) (fun K C E hRm hKl => ?_)
  subst hKl
  refine v_iload_n C dX8_isContract_0 rfl ?_
  refine v_iconst (v := nI 0) C dX8_isContract_1 (by decide) ?_
  refine v_aload_n C dX8_isContract_2 rfl ?_
  refine v_get C 0 dX8_isContract_3 wd6_237 hS.o rfl (by decide) ⟨rfl, rfl, rfl⟩ rfl ?_
  refine v_iconst (v := nI 2) C dX8_isContract_6 (by decide) ?_
  refine v_ialdN C dX8_isContract_7 hS.a0 (by omega) (by decide) ?_
  rw [hg.g2]
  refine v_iconst (v := nI 1) C dX8_isContract_8 (by decide) ?_
  refine v_isub C dX8_isContract_9 ?_
  refine v_callSi C (c_X8_in hl i (nI 0) _) dX8_isContract_10 mX8_in wd7_79 rfl rfl (Nat.le_of_ble_eq_true rfl) (hp_rmle hRm (by decide) (by decide)) (Nat.le_of_ble_eq_true rfl) (Nat.le_of_ble_eq_true rfl) ?_
  exact v_zret C E dX8_isContract_13 rfl (hp_nb _) (hp_rib (hp_b_iff (hp_wi_num (by omega))).symm)
set_option maxHeartbeats 8000000 in
/-- on -/
theorem c_X8_on {G : hp_G} {l : Launch} (hl : l.stackTraces = false) {n0 : Nat} {h0 : Nat → Option va_E} {y : Nat} {S : mo_T} (hS : Mo G h0 y S) {i k : Nat} (hi : i < 4) (hk : k < 3) : Ct G l yX8_on cX8_on 3 (some .int) 0 0 0 [.ref y, .int (nI i), .int (nI k)] (n0, h0) (hp_ri (S.1 0 (6 + 3 * i + k)) (n0, h0)) := by
  have hbase := hS.base
  refine Ct.of rfl hl (by simp [Value.category]) (Nat.le_of_ble_eq_true rfl) (fun K C E hRm hKl => ?_)
  subst hKl
  refine v_aload_n C dX8_on_0 rfl ?_
  refine v_get C 0 dX8_on_1 wd6_237 hS.o rfl (by decide) ⟨rfl, rfl, rfl⟩ rfl ?_
  refine v_bipush (v := nI 6) C dX8_on_4 (by decide) ?_
  refine v_iconst (v := nI 3) C dX8_on_6 (by decide) ?_
  refine v_iload_n C dX8_on_7 rfl ?_
  refine v_imulN C dX8_on_8 ?_
  refine v_iaddN C dX8_on_9 ?_
  refine v_iload_n C dX8_on_10 rfl ?_
  refine v_iaddN C dX8_on_11 ?_
  refine v_ialdN C dX8_on_12 hS.a0 (by omega) (by decide) ?_
  exact v_iret C E dX8_on_13 rfl ⟨rfl, rfl⟩
set_option maxHeartbeats 8000000 in
/-- of -/
theorem c_X8_of {G : hp_G} {l : Launch} (hl : l.stackTraces = false) {n0 : Nat} {h0 : Nat → Option va_E} {y : Nat} {S : mo_T} (hS : Mo G h0 y S) {i k : Nat} (hi : i < 6) (hk : k < 3) : Ct G l yX8_of cX8_of 3 (some .int) 0 0 0 [.ref y, .int (nI i), .int (nI k)] (n0, h0) (hp_ri (S.1 0 (18 + 3 * i + k)) (n0, h0)) := by
  have hbase := hS.base
  refine Ct.of rfl hl (by simp [Value.category]) (Nat.le_of_ble_eq_true rfl) (fun K C E hRm hKl => ?_)
  subst hKl
  refine v_aload_n C dX8_of_0 rfl ?_
  refine v_get C 0 dX8_of_1 wd6_237 hS.o rfl (by decide) ⟨rfl, rfl, rfl⟩ rfl ?_
  refine v_bipush (v := nI 18) C dX8_of_4 (by decide) ?_
  refine v_iconst (v := nI 3) C dX8_of_6 (by decide) ?_
  refine v_iload_n C dX8_of_7 rfl ?_
  refine v_imulN C dX8_of_8 ?_
  refine v_iaddN C dX8_of_9 ?_
  refine v_iload_n C dX8_of_10 rfl ?_
  refine v_iaddN C dX8_of_11 ?_
  refine v_ialdN C dX8_of_12 hS.a0 (by omega) (by decide) ?_
  exact v_iret C E dX8_of_13 rfl ⟨rfl, rfl⟩
set_option maxHeartbeats 8000000 in
/-- by -/
theorem c_X8_by {G : hp_G} {l : Launch} (hl : l.stackTraces = false) {n0 : Nat} {h0 : Nat → Option va_E} {y : Nat} {S : mo_T} (hS : Mo G h0 y S) {i k : Nat} (hi : i < 20) (hk : k < 5) : Ct G l yX8_by cX8_by 3 (some .int) 0 0 0 [.ref y, .int (nI i), .int (nI k)] (n0, h0) (hp_ri (S.1 0 (36 + 5 * i + k)) (n0, h0)) := by
  have hbase := hS.base
  refine Ct.of rfl hl (by simp [Value.category]) (Nat.le_of_ble_eq_true rfl) (fun K C E hRm hKl => ?_)
  subst hKl
  refine v_aload_n C dX8_by_0 rfl ?_
  refine v_get C 0 dX8_by_1 wd6_237 hS.o rfl (by decide) ⟨rfl, rfl, rfl⟩ rfl ?_
  refine v_bipush (v := nI 36) C dX8_by_4 (by decide) ?_
  refine v_iconst (v := nI 5) C dX8_by_6 (by decide) ?_
  refine v_iload_n C dX8_by_7 rfl ?_
  refine v_imulN C dX8_by_8 ?_
  refine v_iaddN C dX8_by_9 ?_
  refine v_iload_n C dX8_by_10 rfl ?_
  refine v_iaddN C dX8_by_11 ?_
  refine v_ialdN C dX8_by_12 hS.a0 (by omega) (by decide) ?_
  exact v_iret C E dX8_by_13 rfl ⟨rfl, rfl⟩
set_option maxHeartbeats 8000000 in
/-- lays -/
theorem c_X8_lays {G : hp_G} {l : Launch} (hl : l.stackTraces = false) {n0 : Nat} {h0 : Nat → Option va_E} {y : Nat} {S : mo_T} (hS : Mo G h0 y S) {i k : Nat} (hi : i < 6) (hk : k < 3) (v : Int32) : Ct G l yX8_lays cX8_lays 4 none 0 0 0 [.ref y, .int (nI i), .int (nI k), .int v] (n0, h0) (hp_vq (fun τ => τ.1 = n0 ∧ Mo G τ.2 y (mo_sa S 0 (18 + 3 * i + k) v) ∧ ∀ a, (a < y ∨ y + 13 ≤ a) → τ.2 a = h0 a)) := by
  have hbase := hS.base
  refine Ct.of rfl hl (by simp [Value.category]) (Nat.le_of_ble_eq_true rfl) (fun K C E hRm hKl => ?_)
  subst hKl
  refine v_aload_n C dX8_lays_0 rfl ?_
  refine v_get C 0 dX8_lays_1 wd6_237 hS.o rfl (by decide) ⟨rfl, rfl, rfl⟩ rfl ?_
  refine v_bipush (v := nI 18) C dX8_lays_4 (by decide) ?_
  refine v_iconst (v := nI 3) C dX8_lays_6 (by decide) ?_
  refine v_iload_n C dX8_lays_7 rfl ?_
  refine v_imulN C dX8_lays_8 ?_
  refine v_iaddN C dX8_lays_9 ?_
  refine v_iload_n C dX8_lays_10 rfl ?_
  refine v_iaddN C dX8_lays_11 ?_
  refine v_iload_n C dX8_lays_12 rfl ?_
  refine v_iastN C dX8_lays_13 (by omega) hS.a0 (by omega) (by decide) (fun h13 e13 g13 => ?_)
  have Y13 := hS.s0 e13 g13
  have W13 : ∀ a, (a < y ∨ y + 13 ≤ a) → h13 a = _ := fun a ha => g13 a (by omega)
  exact v_vret C E dX8_lays_14 rfl ⟨rfl, rfl, Y13, W13⟩
set_option maxHeartbeats 8000000 in
/-- puts -/
theorem c_X8_puts {G : hp_G} {l : Launch} (hl : l.stackTraces = false) {n0 : Nat} {h0 : Nat → Option va_E} {y : Nat} {S : mo_T} (hS : Mo G h0 y S) {i k : Nat} (hi : i < 20) (hk : k < 5) (v : Int32) : Ct G l yX8_puts cX8_puts 4 none 0 0 0 [.ref y, .int (nI i), .int (nI k), .int v] (n0, h0) (hp_vq (fun τ => τ.1 = n0 ∧ Mo G τ.2 y (mo_sa S 0 (36 + 5 * i + k) v) ∧ ∀ a, (a < y ∨ y + 13 ≤ a) → τ.2 a = h0 a)) := by
  have hbase := hS.base
  refine Ct.of rfl hl (by simp [Value.category]) (Nat.le_of_ble_eq_true rfl) (fun K C E hRm hKl => ?_)
  subst hKl
  refine v_aload_n C dX8_puts_0 rfl ?_
  refine v_get C 0 dX8_puts_1 wd6_237 hS.o rfl (by decide) ⟨rfl, rfl, rfl⟩ rfl ?_
  refine v_bipush (v := nI 36) C dX8_puts_4 (by decide) ?_
  refine v_iconst (v := nI 5) C dX8_puts_6 (by decide) ?_
  refine v_iload_n C dX8_puts_7 rfl ?_
  refine v_imulN C dX8_puts_8 ?_
  refine v_iaddN C dX8_puts_9 ?_
  refine v_iload_n C dX8_puts_10 rfl ?_
  refine v_iaddN C dX8_puts_11 ?_
  refine v_iload_n C dX8_puts_12 rfl ?_
  refine v_iastN C dX8_puts_13 (by omega) hS.a0 (by omega) (by decide) (fun h13 e13 g13 => ?_)
  have Y13 := hS.s0 e13 g13
  have W13 : ∀ a, (a < y ∨ y + 13 ≤ a) → h13 a = _ := fun a ha => g13 a (by omega)
  exact v_vret C E dX8_puts_14 rfl ⟨rfl, rfl, Y13, W13⟩

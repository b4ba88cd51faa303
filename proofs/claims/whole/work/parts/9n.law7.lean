/-! ===== THE LAW: what holds at the loop's head ===== -/
abbrev ML_law (K : hp_C) : hp_M := (cL_law, "HorizonExchangeLaw", 9, some .boolean, K.2.2.2.2.2.2.2.2.1.name)
def Jm (ma fa : Int32) : Prop := (ma = -1 ∨ ¬ ma < 0) ∧ (fa = -1 ∨ ¬ fa < 0)
/-- the class's object at x, the model at x + 148, the rows, the script: after w calls -/
def Jo (G : hp_G) (sc L : Nat) (xs : Nat → Int32) (x w : Nat) (h : Nat → Option va_E) : Prop := ∃ (M B Z : mk_T) (mk : Nat → mk_T) (nx cnt : Nat) (t : Nat → Nat) (n : Nat) (lt : Nat → Nat) (ln : Nat) (hs ma fa : Int32) (rk : Nat → Option va_E) (S : mo_T) (K : Nat → mk_T) (v : Nat), Ex G h x (x + 163) M B Z mk nx cnt t n lt ln hs ma fa rk ∧ Mo G h (x + 148) S ∧ Md S M K cnt hs Z t n (ln, lt) ma fa ∧ Jp v M Z K mk nx cnt n hs ∧ Jm ma fa ∧ v + n ≤ w ∧ h sc = some (.inl (G.2.2.1 7, L, .inl xs)) ∧ (∃ f, h (x + 161) = some (.inl (G.2.2.1 3, 1, .inr (.inl f)))) ∧ (∃ f, h (x + 162) = some (.inl (G.2.2.1 4, 1, .inr (.inr (.inr (.inl f))))))
theorem Jo.mk2 {G : hp_G} {sc L : Nat} {xs : Nat → Int32} {x w : Nat} {h h' : Nat → Option va_E} {M B Z : mk_T} {mk : Nat → mk_T} {nx cnt : Nat} {t : Nat → Nat} {n : Nat} {lt : Nat → Nat} {ln : Nat} {hs ma fa : Int32} {rk : Nat → Option va_E} {S : mo_T} {K : Nat → mk_T} {v : Nat} {f : Nat → Int64} {f2 : Nat → UInt64} (E : Ex G h x (x + 163) M B Z mk nx cnt t n lt ln hs ma fa rk) (fr : ∀ a, (a < x + 148 ∨ x + 148 + 13 ≤ a) → h' a = h a) (hS : Mo G h' (x + 148) S) (D : Md S M K cnt hs Z t n (ln, lt) ma fa) (P : Jp v M Z K mk nx cnt n hs) (J : Jm ma fa) (hv : v + n ≤ w) (hx : sc < x) (hsc : h sc = some (.inl (G.2.2.1 7, L, .inl xs))) (ho : h (x + 161) = some (.inl (G.2.2.1 3, 1, .inr (.inl f)))) (hd : h (x + 162) = some (.inl (G.2.2.1 4, 1, .inr (.inr (.inr (.inl f2)))))) : Jo G sc L xs x w h' :=
  ⟨M, B, Z, mk, nx, cnt, t, n, lt, ln, hs, ma, fa, rk, S, K, v, E.same (fun a ha => fr a (by omega)), hS, D, P, J, hv, (fr _ (by omega)).trans hsc, ⟨f, (fr _ (by omega)).trans ho⟩, ⟨f2, (fr _ (by omega)).trans hd⟩⟩
/-- what is fixed in the loop; what is owed behind a case -/
def Lb (G : hp_G) (K : hp_C) (sc L x w i n bc bs : Nat) : Prop := hp_Cx G K (ML_law K) ∧ K.2.1.stackTraces = false ∧ (∀ d nn, d ≤ 13 → nn ≤ 45 → d + 1 ≤ (hp_Rm K).frames ∧ 8 + (nn + 11) + 64 * d ≤ (hp_Rm K).locals) ∧ sc < x ∧ i + 5 < L ∧ L ≤ 3072 ∧ w ≤ 511 ∧ x + 163 ≤ n ∧ 10 ≤ bc ∧ 5424 ≤ bs
def Lk (G : hp_G) (K : hp_C) (sc L : Nat) (xs : Nat → Int32) (x w i bc bs : Nat) : Prop := ∀ (n' : Nat) (h' : Nat → Option va_E) (v6 v7 v8 : Option Value), x + 163 ≤ n' → Jo G sc L xs x (w + 1) h' → V G K (ML_law K) (bc - 10) (bs - 5424) (n', h') 2670 [some (.ref sc), some (.ref x), some (.ref (x + 148)), some (.ref (x + 161)), some (.ref (x + 162)), some (.int (nI i)), v6, v7, v8] []
theorem qa_o {p : Prop} [Decidable p] {E : String} {v : Int32} : (∃ r, qa p E (rI v) = rI r) ∨ qa p E (rI v) = .inr E := by
  unfold qa
  split
  · exact Or.inl ⟨v, rfl⟩
  · exact Or.inr rfl
/-- a question of one exception -/
theorem lr_g {p : Prop} [Decidable p] {E : String} {v code : Int32} {Q : Int32 → Prop} (H : Lr (qa p E (rI v)) [E] code Q) : code = mo_cd p ∧ (code = nI 0 → p ∧ Q v) := by
  unfold qa mo_cd at *
  by_cases z : p
  · rw [if_pos z] at H
    rw [if_pos z]
    rcases H with ⟨r, h1, h2, h3⟩ | ⟨i, E2, h1, h2, h3⟩
    · cases h1
      exact ⟨h2, fun _ => ⟨z, h3⟩⟩
    · cases h2
  · rw [if_neg z] at H
    rw [if_neg z]
    rcases H with ⟨r, h1, h2, h3⟩ | ⟨i, E2, h1, h2, h3⟩
    · cases h1
    · match i, h1 with
      | 0, _ => exact ⟨h3, fun y => absurd (h3.symm.trans y) (by decide)⟩
      | i + 1, h1 => cases h1

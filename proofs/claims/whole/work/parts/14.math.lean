/-! ===== THE SHORT WALK: Math.abs, max, min ===== -/
section HPMATH
variable {G : hp_G} {K : hp_C} {M : hp_M} {bc bs : Nat} {σ : hp_T} {pc : Nat} {lo : List (Option Value)} {st : List Value}
theorem v_mabs (C : hp_Cx G K M) {x : Int32} {idx : Nat} (hd : decode M.1 pc = .ok (.invokestatic idx, 3)) (hw : Cond.methodLink M.2.1 idx Lib.Math.abs.name ∈ lw_tbl) (hrest : (st.map fun v => v.category).sum ≤ 8) (hR : 1 ≤ (hp_Rm K).frames ∧ 21 ≤ (hp_Rm K).locals) (k : V G K M bc bs σ (pc + 3) lo (.int (if 0 ≤ x then x else 0 - x) :: st)) : V G K M bc bs σ pc lo (.int x :: st) := by
  obtain ⟨p, l, e, R, s, m, args, below, meth, c, Qf⟩ := K
  intro H locs cells slots ls hR0 hS hl hc hs
  obtain ⟨C1, C2, C3, C4, C5, C6, C7, C8, -, -, C11, -⟩ := C
  have h1 : 1 ≤ R.frames := hR.1
  have h2 : 21 ≤ R.locals := hR.2
  exact va_mabs C1 C2 (C3.trans hl.1.symm) C4 (C5 _ (hp_in hw rfl)) (C5 _ (hp_in wd2_105 rfl)) (C5 _ (hp_in wd1_12 rfl)) (C5 _ (hp_in wd2_106 rfl)) h1 (by omega) (by omega) (by omega) hd (k H locs cells slots ls hR0 hS hl hc hs)
theorem v_mmax (C : hp_Cx G K M) {x y : Int32} {idx : Nat} (hd : decode M.1 pc = .ok (.invokestatic idx, 3)) (hw : Cond.methodLink M.2.1 idx Lib.Math.max.name ∈ lw_tbl) (hrest : (st.map fun v => v.category).sum ≤ 8) (hR : 1 ≤ (hp_Rm K).frames ∧ 21 ≤ (hp_Rm K).locals) (k : V G K M bc bs σ (pc + 3) lo (.int (if x < y then y else x) :: st)) : V G K M bc bs σ pc lo (.int y :: .int x :: st) := by
  obtain ⟨p, l, e, R, s, m, args, below, meth, c, Qf⟩ := K
  intro H locs cells slots ls hR0 hS hl hc hs
  obtain ⟨C1, C2, C3, C4, C5, C6, C7, C8, -, -, C11, -⟩ := C
  have h1 : 1 ≤ R.frames := hR.1
  have h2 : 21 ≤ R.locals := hR.2
  exact va_mmax C1 C2 (C3.trans hl.1.symm) C4 (C5 _ (hp_in hw rfl)) (C5 _ (hp_in wd3_155 rfl)) (C5 _ (hp_in wd1_12 rfl)) (C5 _ (hp_in wd3_156 rfl)) h1 (by omega) (by omega) (by omega) hd (k H locs cells slots ls hR0 hS hl hc hs)
theorem v_mmin (C : hp_Cx G K M) {x y : Int32} {idx : Nat} (hd : decode M.1 pc = .ok (.invokestatic idx, 3)) (hw : Cond.methodLink M.2.1 idx Lib.Math.min.name ∈ lw_tbl) (hrest : (st.map fun v => v.category).sum ≤ 8) (hR : 1 ≤ (hp_Rm K).frames ∧ 21 ≤ (hp_Rm K).locals) (k : V G K M bc bs σ (pc + 3) lo (.int (if y < x then y else x) :: st)) : V G K M bc bs σ pc lo (.int y :: .int x :: st) := by
  obtain ⟨p, l, e, R, s, m, args, below, meth, c, Qf⟩ := K
  intro H locs cells slots ls hR0 hS hl hc hs
  obtain ⟨C1, C2, C3, C4, C5, C6, C7, C8, -, -, C11, -⟩ := C
  have h1 : 1 ≤ R.frames := hR.1
  have h2 : 21 ≤ R.locals := hR.2
  exact va_mmin C1 C2 (C3.trans hl.1.symm) C4 (C5 _ (hp_in hw rfl)) (C5 _ (hp_in wd3_18 rfl)) (C5 _ (hp_in wd1_12 rfl)) (C5 _ (hp_in wd3_19 rfl)) h1 (by omega) (by omega) (by omega) hd (k H locs cells slots ls hR0 hS hl hc hs)
end HPMATH
theorem hp_rmm {K : hp_C} {d mc ms : Nat} (h : hp_Rm K = hp_rm (d + 1) mc ms) : 1 ≤ (hp_Rm K).frames ∧ 21 ≤ (hp_Rm K).locals := by
  rw [h]
  exact ⟨by show 1 ≤ d + 1; omega, by show 21 ≤ 64 * (d + 1); omega⟩

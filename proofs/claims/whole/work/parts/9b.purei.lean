/-! ===== PURE: always consistent ===== -/
theorem cs_m_all {M : mk_T} (H : Ic M) : ∀ e c, cs_m M e c
  | 0, _ => trivial
  | e + 1, c => ⟨ms_mg H (nI c), cs_m_all H e (c + 1)⟩
theorem pt_can {M : mk_T} {i : Int32} (h : pt_f M i = nI 0) : hp_num i (mk_tr M) ∧ ¬ mk_ar M 4 i.toNatClampNeg = nI 2 ∧ tk_can M i.toNatClampNeg := by
  unfold pt_f at h
  by_cases a : hp_num i (mk_tr M)
  · rw [if_neg (fun y => y a)] at h
    by_cases b : mk_ar M 4 i.toNatClampNeg = nI 2
    · rw [if_pos b] at h
      exact absurd h (by decide)
    · rw [if_neg b] at h
      by_cases c : tk_nd M i.toNatClampNeg ≤ tk_bc (tk_sd M i.toNatClampNeg)
      · exact ⟨a, b, c⟩
      · rw [if_neg c] at h
        exact absurd h (by decide)
  · rw [if_pos a] at h
    exact absurd h (by decide)
theorem cs_l_all {M : mk_T} (H : Ic M) : ∀ e c, c + e ≤ mk_tr M → cs_l M e c
  | 0, _, _ => trivial
  | e + 1, c, h => ⟨fun p => by
      have h6 := H.1.2.1
      have k := (pt_can p).2.2
      rw [nI_clamp (by omega)] at k
      exact (rs_res H k).symm, cs_l_all H e (c + 1) (by omega)⟩
/-- the class answers yes -/
theorem cs_all {w : Nat} {M : mk_T} (A : Ia w M) (hw : w ≤ 599) : cs_p M := by
  have H := A.1
  have h6 := H.1.2.1
  exact ⟨cs_m_all H _ _, (py_sp H).trans (py_gp H).symm, cs_l_all H _ _ (by omega), vs_0 H, acc_c A.2.1 hw h6⟩

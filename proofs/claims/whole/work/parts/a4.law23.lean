/-! ===== THE LAW: the array classes at the start ===== -/
theorem arr_prim {t : FieldType} {args : Array Value} {s : State} (harr : (Cond.arrayClass t).before args s = true) : ∃ cA, ArrOfT s cA t ∧ s.vm.findClass ("[" ++ t.toString) = some cA := by
  obtain ⟨c, k, comp, hc, hk, hkind⟩ := Cond.arrayClass_spec harr
  exact ⟨c, fun n z => ⟨fun k h => (by cases h), k, hk, comp, hkind⟩, hc⟩
theorem arr_arr {t : FieldType} {args : Array Value} {s : State} (h : (Cond.arrayOver (.array t)).before args s = true) : ∃ cA, ArrOfT s cA (.array t) ∧ s.vm.findClass ("[" ++ (FieldType.array t).toString) = some cA := by
  obtain ⟨comp, c, k, h1, h2, hk, hkind, hc⟩ := hp_arrOver h
  exact ⟨c, fun n z => ⟨fun k h => (by cases h), k, hk, comp, hkind⟩, hc⟩
theorem arr_obj {C : String} {args : Array Value} {s : State} (h : (Cond.arrayOver (.object C)).before args s = true) : ∃ cA, ArrOfT s cA (.object C) ∧ va_RA s cA (.object C) := by
  obtain ⟨comp, cA, kA, hcomp, hidx, hkA, hkindA, hnameA⟩ := Cond.arrayOver_spec h
  exact ⟨cA, fun n z => ⟨fun k h => (by cases h), kA, hkA, comp, hkindA⟩, kA, comp, hkA, hkindA, hcomp, hnameA⟩
theorem ty_known {s : State} {args : Array Value} (hts : ∀ w ∈ lw_tbl, w.before args s = true) : ∃ T : Nat → ClassId, ∀ k, k < 7 → ArrOfT s (T k) (hp_ty k) ∧ va_RA s (T k) (hp_ty k) := by
  obtain ⟨c0, a0, b0⟩ := arr_prim (hts _ wd2_16)
  obtain ⟨c1, a1, b1⟩ := arr_prim (hts _ wd7_70)
  obtain ⟨c2, a2, b2⟩ := arr_prim (hts _ wd1_124)
  obtain ⟨c3, a3, b3⟩ := arr_prim (hts _ wd8_230)
  obtain ⟨c4, a4, b4⟩ := arr_prim (hts _ wd8_231)
  obtain ⟨c5, a5, b5⟩ := arr_obj (hts _ wd1_132)
  obtain ⟨c6, a6, b6⟩ := arr_arr (hts _ wd1_174)
  refine ⟨fun k => match k with | 0 => c0 | 1 => c1 | 2 => c2 | 3 => c3 | 4 => c4 | 5 => c5 | _ => c6, fun k hk => ?_⟩
  match k, hk with
  | 0, _ => exact ⟨a0, b0⟩
  | 1, _ => exact ⟨a1, b1⟩
  | 2, _ => exact ⟨a2, b2⟩
  | 3, _ => exact ⟨a3, b3⟩
  | 4, _ => exact ⟨a4, b4⟩
  | 5, _ => exact ⟨a5, b5⟩
  | 6, _ => exact ⟨a6, b6⟩
/-- the classes' and the array classes' numbers -/
theorem K_known {s : State} {args : Array Value} (hts : ∀ w ∈ lw_tbl, w.before args s = true) : ∃ (D : va_G) (T : Nat → ClassId), ∀ (n : Nat) (pl : Nat → Nat), va_K D vwCl (hp_tys (D, n, T, pl)) s := by
  obtain ⟨D, hD⟩ := cl_known hts
  obtain ⟨T, hT⟩ := ty_known hts
  refine ⟨D, T, fun n pl => ⟨hD, fun k q hq => ?_⟩⟩
  by_cases hk : k < 7
  · rw [hp_tys_at (D, n, T, pl) hk] at hq
    cases hq
    exact hT k hk
  · have : (hp_tys (D, n, T, pl)).length ≤ k := by
      unfold hp_tys
      rw [List.length_map, List.length_range]
      omega
    rw [List.getElem?_eq_none this] at hq
    cases hq

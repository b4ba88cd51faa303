/-! ===== THE LAW: the world of the start, what is given of its old cells ===== -/
def gv_l : List Cond := flatC (Jvm.Cond.and given_1 narrow_1)
theorem gv_at {args : Array Value} {s : State} (hgv : (Jvm.Cond.and given_1 narrow_1).before args s = true) {w : Cond} (h : w ∈ gv_l) : w.before args s = true := flat_of_before _ hgv _ h
theorem gv_mid {i m : Nat} {l : List Cond} (h : (gv_l.drop i).take m = l) {w : Cond} (hw : w ∈ l) : w ∈ gv_l := List.mem_of_mem_drop (List.mem_of_mem_take (h ▸ hw))
/-- what is given of a row of bytes -/
def rw_ws (tm : Term) (N : Nat) (f : Nat → Int32) : List Cond := .arrayOf tm .byte :: .eq (.length tm) (.int (Int32.ofNat N)) :: (List.range N).map fun j => .eq (.elem tm (.int (Int32.ofNat j))) (.int (f j))
def ks_tm (k : Nat) : Term := .string (hp_kst.getD k ("", 0, "")).1 (hp_kst.getD k ("", 0, "")).2.1
def ks_va (k : Nat) : Term := .field (ks_tm k) "java/lang/String" "value" "[B"
def ks_f (k : Nat) : Nat → Int32 := fun j => Int32.ofNat (ks_t k j)
/-- what is given of a string constant -/
def ks_ws (k : Nat) : List Cond := .exactly (ks_tm k) "java/lang/String" :: .eq (.field (ks_tm k) "java/lang/String" "coder" "B") (.int 0) :: rw_ws (ks_va k) (ks_l k).length (ks_f k)
def dg_f (c : Nat) : Nat → Int32 := fun j => if j < 100 then Int32.ofNat (48 + (if c = 0 then j % 10 else j / 10)) else 0
def dg_tm (c : Nat) : Term := .static "java/lang/Integer" (if c = 0 then "DigitOnes" else "DigitTens") "[B"
theorem dgw_0 : (gv_l.drop 12).take 102 = rw_ws (dg_tm 0) 100 (dg_f 0) := by decide +kernel
theorem dgw_1 : (gv_l.drop 115).take 102 = rw_ws (dg_tm 1) 100 (dg_f 1) := by decide +kernel
theorem db_all : (gv_l.drop 986).take 2 = (List.range 2).map fun c => .exactly (dg_tm c) "[B" := by decide +kernel
theorem kw_15 : (gv_l.drop 667).take 11 = ks_ws 15 := by decide +kernel
theorem kw_16 : (gv_l.drop 678).take 10 = ks_ws 16 := by decide +kernel
theorem kw_17 : (gv_l.drop 688).take 9 = ks_ws 17 := by decide +kernel
theorem kw_18 : (gv_l.drop 697).take 9 = ks_ws 18 := by decide +kernel
theorem kw_19 : (gv_l.drop 706).take 8 = ks_ws 19 := by decide +kernel
theorem kw_20 : (gv_l.drop 714).take 7 = ks_ws 20 := by decide +kernel
theorem kw_21 : (gv_l.drop 721).take 8 = ks_ws 21 := by decide +kernel
theorem kw_22 : (gv_l.drop 729).take 8 = ks_ws 22 := by decide +kernel
theorem kw_23 : (gv_l.drop 737).take 4 = ks_ws 23 := by decide +kernel
theorem kw_24 : (gv_l.drop 741).take 6 = ks_ws 24 := by decide +kernel
theorem kw_25 : (gv_l.drop 747).take 5 = ks_ws 25 := by decide +kernel
theorem kw_26 : (gv_l.drop 752).take 9 = ks_ws 26 := by decide +kernel
theorem kw_27 : (gv_l.drop 761).take 6 = ks_ws 27 := by decide +kernel
theorem kw_28 : (gv_l.drop 767).take 6 = ks_ws 28 := by decide +kernel
theorem kw_35 : (gv_l.drop 929).take 10 = ks_ws 35 := by decide +kernel
theorem kw_36 : (gv_l.drop 939).take 8 = ks_ws 36 := by decide +kernel
theorem kw_37 : (gv_l.drop 947).take 4 = ks_ws 37 := by decide +kernel
theorem kw_38 : (gv_l.drop 952).take 8 = ks_ws 38 := by decide +kernel
theorem kw_39 : (gv_l.drop 960).take 6 = ks_ws 39 := by decide +kernel
theorem kw_40 : (gv_l.drop 966).take 7 = ks_ws 40 := by decide +kernel
theorem kw_41 : (gv_l.drop 973).take 6 = ks_ws 41 := by decide +kernel
theorem kw_42 : (gv_l.drop 979).take 7 = ks_ws 42 := by decide +kernel
theorem kw_all {k : Nat} (h1 : 15 ≤ k ∧ (k < 29 ∨ 35 ≤ k)) (h2 : k < 43) : ∀ w ∈ ks_ws k, w ∈ gv_l := by
  intro w hw
  have h3 : k = 15 ∨ k = 16 ∨ k = 17 ∨ k = 18 ∨ k = 19 ∨ k = 20 ∨ k = 21 ∨ k = 22 ∨ k = 23 ∨ k = 24 ∨ k = 25 ∨ k = 26 ∨ k = 27 ∨ k = 28 ∨ k = 35 ∨ k = 36 ∨ k = 37 ∨ k = 38 ∨ k = 39 ∨ k = 40 ∨ k = 41 ∨ k = 42 := by omega
  rcases h3 with rfl | rfl | rfl | rfl | rfl | rfl | rfl | rfl | rfl | rfl | rfl | rfl | rfl | rfl | rfl | rfl | rfl | rfl | rfl | rfl | rfl | rfl
  · exact gv_mid kw_15 hw
  · exact gv_mid kw_16 hw
  · exact gv_mid kw_17 hw
  · exact gv_mid kw_18 hw
  · exact gv_mid kw_19 hw
  · exact gv_mid kw_20 hw
  · exact gv_mid kw_21 hw
  · exact gv_mid kw_22 hw
  · exact gv_mid kw_23 hw
  · exact gv_mid kw_24 hw
  · exact gv_mid kw_25 hw
  · exact gv_mid kw_26 hw
  · exact gv_mid kw_27 hw
  · exact gv_mid kw_28 hw
  · exact gv_mid kw_35 hw
  · exact gv_mid kw_36 hw
  · exact gv_mid kw_37 hw
  · exact gv_mid kw_38 hw
  · exact gv_mid kw_39 hw
  · exact gv_mid kw_40 hw
  · exact gv_mid kw_41 hw
  · exact gv_mid kw_42 hw
theorem kb_l : (gv_l.drop 988).take 43 = (List.range 43).map fun k => .exactly (ks_va k) "[B" := by decide +kernel
theorem kb_all {k : Nat} (h2 : k < 43) : Cond.exactly (ks_va k) "[B" ∈ gv_l := gv_mid kb_l (List.mem_map.mpr ⟨k, List.mem_range.mpr h2, rfl⟩)
theorem ke_all : ∀ q ∈ hp_kst, Cond.exactly (.string q.1 q.2.1) "java/lang/String" ∈ gv_l := by decide +kernel
theorem kr_all : ∀ q ∈ hp_kst, Cond.stringRef q.1 q.2.1 q.2.2 ∈ lw_tbl := by decide +kernel
theorem sb_lo : ∀ c, c < 128 → Int32.ofNat c = sb_b c := by decide +kernel
theorem ks_lo : ∀ k, k < 43 → ∀ j, j < 7 → ks_t k j < 128 := by decide +kernel
theorem ks_0 {k j : Nat} (h : (ks_l k).length ≤ j) : ks_f k j = 0 := by
  have e : ks_t k j = 0 := by
    show (ks_l k).getD j 0 = 0
    rw [List.getD_eq_getElem?_getD, List.getElem?_eq_none h]
    rfl
  show Int32.ofNat (ks_t k j) = 0
  rw [e]
  rfl
theorem dg_at (c j : Nat) (h : j < 100) : dg_f c j = sb_b (48 + (if c = 0 then j % 10 else j / 10)) := by
  have e : dg_f c j = Int32.ofNat (48 + (if c = 0 then j % 10 else j / 10)) := if_pos h
  rw [e]
  refine sb_lo _ ?_
  by_cases hc : c = 0
  · rw [if_pos hc]
    omega
  · rw [if_neg hc]
    omega
/-- an old row of bytes -/
theorem rw_known {s : State} {args : Array Value} {D : va_G} {n : Nat} {T : Nat → ClassId} {pl : Nat → Nat} (hK : va_K D vwCl (hp_tys (D, n, T, pl)) s) {tm : Term} {N : Nat} {f : Nat → Int32} (hN : N < 2 ^ 31) (hw : ∀ w ∈ rw_ws tm N f, w.before args s = true) (hb : (Cond.exactly tm "[B").before args s = true) : ∃ v : Nat, tm.eval args s none [] s = some (.ref v) ∧ hp_see D (v, .inl (T 0, N, .inl f)) s.heap := by
  obtain ⟨v, ht, cell, v1, v2, v3, v4, v5, v6, -⟩ := va_Tof (f := fun j => .int (f j)) (A := fun _ => False) hN (hw _ List.mem_cons_self) (va_eqt (hw _ (List.mem_cons_of_mem _ List.mem_cons_self))) (fun j hj => va_eqt (hw _ (List.mem_cons_of_mem _ (List.mem_cons_of_mem _ (List.mem_map.mpr ⟨j, List.mem_range.mpr hj, rfl⟩))))) (fun _ _ h => h)
  obtain ⟨a, c, cell2, k, q1, q2, q3, q4, q5, q6, -⟩ := Cond.exactly_spec (args := args) (first := s) (o := none) (s := s) (idx := []) (t := tm) (cls := "[B") hb
  cases ht.symm.trans q1
  cases v1.symm.trans q3
  have h9 : s.vm.findClass "[B" = some (T 0) := (hK.2 0 _ (hp_tys_at (D, n, T, pl) (by decide))).2
  exact ⟨v, ht, cell, v1, ⟨q5, v3⟩, q6.trans (Option.some.inj (q2.symm.trans h9)), ⟨v4, v5⟩, fun j hj => (v6 j hj).trans (arrV_read (T 0) (fun j => Value.int (f j)) hj).symm⟩
/-- an old string constant -/
theorem ks_known {s : State} {args : Array Value} {D : va_G} {n : Nat} {T : Nat → ClassId} {pl : Nat → Nat} (hts : ∀ w ∈ lw_tbl, w.before args s = true) (hK : va_K D vwCl (hp_tys (D, n, T, pl)) s) {k : Nat} (hw : ∀ w ∈ ks_ws k, w.before args s = true) (hb : (Cond.exactly (ks_va k) "[B").before args s = true) : ∃ (q v : Nat) (x y : Value), (ks_tm k).eval args s none [] s = some (.ref q) ∧ hp_see D (q, .inr (0, [.ref v, .int 0, x, y])) s.heap ∧ hp_see D (v, .inl (T 0, (ks_l k).length, .inl (ks_f k))) s.heap := by
  obtain ⟨v, hv, hsee⟩ := rw_known hK (tm := ks_va k) (N := (ks_l k).length) (f := ks_f k) (by have := ks_len k; omega) (fun w hw' => hw w (List.mem_cons_of_mem _ (List.mem_cons_of_mem _ hw'))) hb
  obtain ⟨q, c, cell, kC, e1, e2, e3, e4, e5, e6, e7⟩ := Cond.exactly_spec (args := args) (first := s) (o := none) (s := s) (idx := []) (t := ks_tm k) (cls := "java/lang/String") (hw _ List.mem_cons_self)
  have hco := va_eqt (hw _ (List.mem_cons_of_mem _ List.mem_cons_self))
  obtain ⟨hSl, hfc, kC2, hkC2, hkind⟩ := hK.1 0 _ rfl
  have hc : c = D.1 0 := Option.some.inj (e2.symm.trans hfc)
  subst hc
  cases e4.symm.trans hkC2
  have hsz := e7 hkind
  obtain ⟨cf0, kf0, fi0, f0, g0, s0⟩ := hSl 0 (by decide)
  obtain ⟨cf1, kf1, fi1, f1, g1, s1⟩ := hSl 1 (by decide)
  obtain ⟨cf2, kf2, fi2, f2, g2, s2⟩ := hSl 2 (by decide)
  obtain ⟨cf3, kf3, fi3, f3, g3, s3⟩ := hSl 3 (by decide)
  obtain ⟨-, cell0, r1, r2, r3, r4, r5⟩ := Term.field_spec (owner := "java/lang/String") (name := "value") (desc := "[B") g0 e1 hv
  cases e3.symm.trans r1
  obtain ⟨-, cell1, t1, t2, t3, t4, t5⟩ := Term.field_spec (owner := "java/lang/String") (name := "coder") (desc := "B") g1 e1 hco
  cases e3.symm.trans t1
  have x2 := (u_facts hfc hkC2 (u_lays (N := 4) hts wi_RJ0 (k := 2) (by decide)) g2).2.2
  have x3 := (u_facts hfc hkC2 (u_lays (N := 4) hts wi_RJ0 (k := 3) (by decide)) g3).2.2
  have l2 : f2.slot < cell.slots.size := by
    rw [hsz]
    exact (Array.getElem?_eq_some_iff.mp x2).1
  have l3 : f3.slot < cell.slots.size := by
    rw [hsz]
    exact (Array.getElem?_eq_some_iff.mp x3).1
  refine ⟨q, v, cell.slots[f2.slot], cell.slots[f3.slot], e1, ⟨cell, e3, ⟨e5, r2⟩, e6, (RJ0, TJ0, 4), rfl, fun j hj => ?_⟩, hsee⟩
  have hj4 : j < 4 := hj
  match j, hj4 with
  | 0, _ =>
    show cell.slots[D.2 0 0]? = some (Value.ref v)
    rw [← s0]
    exact r5
  | 1, _ =>
    show cell.slots[D.2 0 1]? = some (Value.int 0)
    rw [← s1]
    exact t5
  | 2, _ =>
    show cell.slots[D.2 0 2]? = some (cell.slots[f2.slot])
    rw [← s2]
    exact Array.getElem?_eq_getElem l2
  | 3, _ =>
    show cell.slots[D.2 0 3]? = some (cell.slots[f3.slot])
    rw [← s3]
    exact Array.getElem?_eq_getElem l3
/-- private methods, selected on a StringBuilder -/
theorem pm_known {s : State} {args : Array Value} (hts : ∀ w ∈ lw_tbl, w.before args s = true) : ∀ y ∈ hp_pm, va_Nw (.selects "java/lang/StringBuilder" y y) s := by
  obtain ⟨cS, r0, m0, hS, -, hn0, -, kA, hkA, hiA⟩ := Cond.selects_spec (hts _ wd5_102)
  have hA := findClass_of_methodNamed hn0
  have key : ∀ y : MethodName, y.cls = "java/lang/AbstractStringBuilder" → Cond.privateMethod y ∈ lw_tbl → Cond.instanceMethod y ∈ lw_tbl → va_Nw (.selects "java/lang/StringBuilder" y y) s := by
    intro y hyc hp hi
    obtain ⟨mk, methM, hnamed, hmethM, -, -⟩ := Cond.instanceMethod_spec (hts _ hi)
    have hfound : s.methodFound? y.cls y.name y.desc = some mk := State.methodFound?_of_named hnamed (by rw [hyc]; decide)
    have hcls : mk.cls = m0.cls := Option.some.inj ((findClass_of_methodNamed hnamed).symm.trans (by rw [hyc]; exact hA))
    have hsel : selectMethod {} s.vm cS mk = .method mk := selectMethod_private hmethM (Cond.privateMethod_at (hts _ hp) mk methM hnamed hmethM)
    refine va_Nw.of (A := args) rfl ?_
    simp only [Cond.before, Cond.holds, Cond.value, hS, hfound, hnamed, hsel, hcls, hkA]
    simp; exact hiA
  intro y hy
  simp only [hp_pm, List.mem_cons, List.not_mem_nil, or_false] at hy
  rcases hy with rfl | rfl
  · exact key _ rfl (by decide +kernel) (by decide +kernel)
  · exact key _ rfl (by decide +kernel) (by decide +kernel)

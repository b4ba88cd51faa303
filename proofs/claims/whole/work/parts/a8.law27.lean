/-! ===== THE LAW: the world of the start ===== -/
/-- what is said of an old cell -/
def wh_W (D : va_G) (T : Nat → ClassId) (H : Heap) (a : Nat) (e : va_E) : Prop := hp_see D (a, e) H ∧ ((∃ (N : Nat) (f : Nat → Int32), e = .inl (T 0, N, .inl f) ∧ N < 2 ^ 31 ∧ ∀ j, N ≤ j → f j = 0) ∨ ∃ p q x y : Value, e = .inr (0, [p, q, x, y]))
theorem wh_one {D : va_G} {T : Nat → ClassId} {H : Heap} {a : Nat} {e e' : va_E} (hne : D.1 0 ≠ T 0) (h1 : wh_W D T H a e) (h2 : wh_W D T H a e') : e = e' := by
  obtain ⟨⟨cell, a1, -, a2⟩, a3⟩ := h1
  obtain ⟨⟨cell', b1, -, b2⟩, b3⟩ := h2
  cases a1.symm.trans b1
  rcases a3 with ⟨N, f, rfl, a4, a5⟩ | ⟨p, q, x, y, rfl⟩ <;> rcases b3 with ⟨N', f', rfl, b4, b5⟩ | ⟨p', q', x', y', rfl⟩
  · obtain ⟨-, ⟨-, a6⟩, a7⟩ := a2
    obtain ⟨-, ⟨-, b6⟩, b7⟩ := b2
    have hN : N = N' := by
      have h9 := congrArg Int32.toNatClampNeg (a6.symm.trans b6)
      have e1 : (Int32.ofNat N).toNatClampNeg = N := Int32.toNatClampNeg_ofNat_of_lt a4
      have e2 : (Int32.ofNat N').toNatClampNeg = N' := Int32.toNatClampNeg_ofNat_of_lt b4
      exact e1.symm.trans (h9.trans e2)
    subst hN
    have hf : f = f' := by
      funext j
      by_cases hj : j < N
      · have e1 := (a7 j hj).trans (arrV_read (T 0) (fun j => Value.int (f j)) hj)
        have e2 := (b7 j hj).trans (arrV_read (T 0) (fun j => Value.int (f' j)) hj)
        exact Value.int.inj (Option.some.inj (e1.symm.trans e2))
      · rw [a5 j (Nat.not_lt.mp hj), b5 j (Nat.not_lt.mp hj)]
    rw [hf]
  · exact absurd (b2.1.symm.trans a2.1) hne
  · exact absurd (a2.1.symm.trans b2.1) hne
  · obtain ⟨-, r, a6, a7⟩ := a2
    obtain ⟨-, r', b6, b7⟩ := b2
    cases a6
    cases b6
    have e0 := Option.some.inj ((a7 0 (by decide)).symm.trans (b7 0 (by decide)))
    have e1 := Option.some.inj ((a7 1 (by decide)).symm.trans (b7 1 (by decide)))
    have e2 := Option.some.inj ((a7 2 (by decide)).symm.trans (b7 2 (by decide)))
    have e3 := Option.some.inj ((a7 3 (by decide)).symm.trans (b7 3 (by decide)))
    have f0 : p = p' := e0
    have f1 : q = q' := e1
    have f2 : x = x' := e2
    have f3 : y = y' := e3
    rw [f0, f1, f2, f3]
noncomputable def wh_h (D : va_G) (T : Nat → ClassId) (H : Heap) (b L : Nat) (xs : Nat → Int32) : Nat → Option va_E := fun a => if a = b then some (.inl (T 7, L, .inl xs)) else @dite _ (∃ e, wh_W D T H a e) (Classical.propDecidable _) (fun h => some (Classical.choose h)) (fun _ => none)
theorem wh_b {D : va_G} {T : Nat → ClassId} {H : Heap} {b L : Nat} {xs : Nat → Int32} : wh_h D T H b L xs b = some (.inl (T 7, L, .inl xs)) := if_pos rfl
theorem wh_at {D : va_G} {T : Nat → ClassId} {H : Heap} {b L : Nat} {xs : Nat → Int32} (hne : D.1 0 ≠ T 0) {a : Nat} {e : va_E} (hab : a ≠ b) (hw : wh_W D T H a e) : wh_h D T H b L xs a = some e := by
  unfold wh_h
  rw [if_neg hab, dif_pos ⟨e, hw⟩]
  exact congrArg some (wh_one hne (Classical.choose_spec (⟨e, hw⟩ : ∃ e, wh_W D T H a e)) hw)
theorem wh_is {D : va_G} {T : Nat → ClassId} {H : Heap} {b L : Nat} {xs : Nat → Int32} {a : Nat} {e : va_E} (hab : a ≠ b) (h : wh_h D T H b L xs a = some e) : hp_see D (a, e) H := by
  unfold wh_h at h
  rw [if_neg hab] at h
  by_cases hx : ∃ e, wh_W D T H a e
  · rw [dif_pos hx] at h
    cases h
    exact (Classical.choose_spec hx).1
  · rw [dif_neg hx] at h
    cases h
theorem flags_known {l : Launch} (h : l.flags = flags0) : l.stackTraces = false := by
  unfold Launch.stackTraces
  rw [h]
  decide +kernel
set_option maxHeartbeats 2000000 in
theorem whole_start {p : Program} {e : Env} {s : State} {m : MethodId} {below : List Frame} {meth : Method} {c : Code} (l : Launch) (hflags : l.flags = flags0) {b L : Nat} {xs : Nat → Int32} (hL : L ≤ 3072) (C0 : lw_At p s m meth c b L xs) : W p l e room_1 s m #[Value.ref b] below meth c s.heap [] 0 0 (lw_Z below #[Value.ref b] s) (entryFrame m ([Value.ref b] : List Value).toArray 9) := by
  obtain ⟨hx, hb, hr, hml, hown, hts, hX, hbl, hlocks, hgv⟩ := id C0
  obtain ⟨D, T0, hDT⟩ := K_known hts
  obtain ⟨scr, x1, x2, x3, x4, x5⟩ := hX
  obtain ⟨T, hT⟩ : ∃ T : Nat → ClassId, T = fun k => if k = 7 then scr.cls else T0 k := ⟨_, rfl⟩
  have hT7 : T 7 = scr.cls := by rw [hT]; exact if_pos rfl
  have hK : ∀ (n : Nat) (pl : Nat → Nat), va_K D vwCl (hp_tys (D, n, T, pl)) s := by
    intro n pl
    have e9 : hp_tys (D, n, T, pl) = hp_tys (D, n, T0, pl) := by
      unfold hp_tys
      refine List.map_congr_left fun k hk => ?_
      have hk7 := List.mem_range.mp hk
      rw [hT]
      show ((if k = 7 then scr.cls else T0 k), hp_ty k) = (T0 k, hp_ty k)
      rw [if_neg (by omega)]
    rw [e9]
    exact hDT n pl
  -- the classes apart
  obtain ⟨-, -, kS, hkS, hkindS⟩ := (hK 0 (fun _ => 0)).1 0 _ rfl
  obtain ⟨-, kB, hkB, cmB, hkindB⟩ := ((hK 0 (fun _ => 0)).2 0 _ (hp_tys_at (D, 0, T, fun _ => 0) (by decide))).1 0 (fun _ => .null)
  have hkS' : s.vm.classes[D.1 0]? = some kS := hkS
  have hkB' : s.vm.classes[T 0]? = some kB := hkB
  have hkindB' : kB.kind = .array cmB .byte := hkindB
  obtain ⟨x6, kX, hkX, cmX, hkindX⟩ := x2
  have hne : D.1 0 ≠ T 0 := by
    intro z
    rw [z] at hkS'
    cases hkS'.symm.trans hkB'
    rw [hkindB'] at hkindS
    cases hkindS
  have hnb : ∀ (a : Nat) (e : va_E), wh_W D T s.heap a e → a ≠ b := by
    intro a e hw z
    subst z
    obtain ⟨⟨cell, a1, -, a2⟩, a3⟩ := hw
    cases x1.symm.trans a1
    rcases a3 with ⟨N, f, rfl, -, -⟩ | ⟨p, q, x, y, rfl⟩
    · have h9 : scr.cls = T 0 := a2.1
      rw [h9] at hkX
      cases hkX.symm.trans hkB'
      rw [hkindB'] at hkindX
      cases hkindX
    · have h9 : scr.cls = D.1 0 := a2.1
      rw [h9] at hkX
      cases hkX.symm.trans hkS'
      rw [hkindS] at hkindX
      cases hkindX
  -- the old cells
  have hdg : ∀ cc, cc < 2 → ∃ v : Nat, (dg_tm cc).eval #[Value.ref b] s none [] s = some (.ref v) ∧ hp_see D (v, .inl (T 0, 100, .inl (dg_f cc))) s.heap := by
    intro cc hcc
    refine rw_known (hK 0 (fun _ => 0)) (by omega) (fun w hw => gv_at hgv ?_) (gv_at hgv (gv_mid db_all (List.mem_map.mpr ⟨cc, List.mem_range.mpr hcc, rfl⟩)))
    match cc, hcc with
    | 0, _ => exact gv_mid dgw_0 hw
    | 1, _ => exact gv_mid dgw_1 hw
  obtain ⟨o1, ho1, so1⟩ := hdg 0 (by decide)
  obtain ⟨o2, ho2, so2⟩ := hdg 1 (by decide)
  have hst : ∀ k : Nat, ∃ q : Nat, ∀ t : String × Nat × String, hp_kst[k]? = some t → (Term.string t.1 t.2.1).eval #[Value.ref b] s none [] s = some (.ref q) := by
    intro k
    cases hk : hp_kst[k]? with
    | none => exact ⟨0, fun t ht => by cases ht⟩
    | some t =>
      obtain ⟨q, -, -, -, q1, -⟩ := Cond.exactly_spec (args := #[Value.ref b]) (first := s) (o := none) (s := s) (idx := []) (gv_at hgv (ke_all t (List.mem_of_getElem? hk)))
      exact ⟨q, fun t' ht => by cases ht; exact q1⟩
  obtain ⟨ps, hps⟩ := Classical.axiomOfChoice hst
  obtain ⟨pl, hpl⟩ : ∃ pl : Nat → Nat, pl = fun i => if i = 0 then o1 else if i = 1 then o2 else ps ((i - 2) / 2) := ⟨_, rfl⟩
  have pl0 : pl 0 = o1 := by rw [hpl]; rfl
  have pl1 : pl 1 = o2 := by rw [hpl]; rfl
  have plk : ∀ k, pl (2 * k + 2) = ps k := by
    intro k
    rw [hpl]
    show (if 2 * k + 2 = 0 then o1 else if 2 * k + 2 = 1 then o2 else ps ((2 * k + 2 - 2) / 2)) = ps k
    rw [if_neg (by omega), if_neg (by omega)]
    congr 1
    omega
  have hks : ∀ k, 15 ≤ k ∧ (k < 29 ∨ 35 ≤ k) → k < 43 → ∃ (v : Nat) (x y : Value), hp_see D (ps k, .inr (0, [.ref v, .int 0, x, y])) s.heap ∧ hp_see D (v, .inl (T 0, (ks_l k).length, .inl (ks_f k))) s.heap := by
    intro k h1 h2
    obtain ⟨q, v, x, y, q1, q2, q3⟩ := ks_known hts (hK 0 (fun _ => 0)) (fun w hw => gv_at hgv (kw_all h1 h2 w hw)) (gv_at hgv (kb_all h2))
    have hk : hp_kst[k]? = some (hp_kst.getD k ("", 0, "")) := by
      have hk9 : k < hp_kst.length := h2
      rw [List.getD_eq_getElem?_getD, List.getElem?_eq_getElem hk9]
      rfl
    have q4 := hps k _ hk
    have q5 : Value.ref q = Value.ref (ps k) := Option.some.inj (q1.symm.trans q4)
    cases q5
    exact ⟨v, x, y, q2, q3⟩
  have hA : ∀ a : Nat, a < s.heap.size → ¬ s.heap.size ≤ a := fun a h1 h2 => absurd h1 (Nat.not_lt.mpr h2)
  have hwd : ∀ cc v, hp_see D (v, .inl (T 0, 100, .inl (dg_f cc))) s.heap → wh_h D T s.heap b L xs v = some (.inl (T 0, 100, .inl (dg_f cc))) := by
    intro cc v h9
    have hw : wh_W D T s.heap v (.inl (T 0, 100, .inl (dg_f cc))) := ⟨h9, Or.inl ⟨100, dg_f cc, rfl, by omega, fun j hj => if_neg (by omega)⟩⟩
    exact wh_at hne (hnb _ _ hw) hw
  obtain ⟨f1, f2, f10, f7, f8, f9⟩ := st_known hts hgv (A := hp_A (D, s.heap.size, T, pl)) hA
  refine whole_from l (flags_known hflags) hL C0 (G := (D, s.heap.size, T, pl)) (h := wh_h D T s.heap b L xs) rfl (hK _ _) ⟨f1, f2, cs_known hts hgv hA, ?_, ?_, ?_, f7, f8, f9, f10, nc_known hgv, pm_known hts, ?_⟩ ⟨?_, ?_⟩ ⟨rfl, ?_⟩ wh_b
  · show va_Z "java/lang/Integer" "DigitOnes" "[B" (.ref (pl 0)) _ s s.heap
    rw [pl0]
    exact va_Zof (hts _ wd5_187) (hts _ wd1_22) ho1 hA
  · show va_Z "java/lang/Integer" "DigitTens" "[B" (.ref (pl 1)) _ s s.heap
    rw [pl1]
    exact va_Zof (hts _ wd5_189) (hts _ wd1_22) ho2 hA
  · intro k q hk
    show vk_R q.1 q.2.1 q.2.2 (pl (2 * k + 2)) s
    rw [plk]
    exact vk_R.of (hts _ (kr_all q (List.mem_of_getElem? hk))) (hps k q hk)
  · show ArrOfT s (T 7) .int
    rw [hT7]
    exact fun n z => ⟨fun k h => (by cases h), kX, hkX, cmX, hkindX⟩
  · refine ⟨dg_f 0, dg_f 1, ?_, ?_, fun k hk => ⟨dg_at 0 k hk, dg_at 1 k hk⟩, ?_, ?_⟩
    · show wh_h D T s.heap b L xs (pl 0) = _
      rw [pl0]
      exact hwd 0 o1 so1
    · show wh_h D T s.heap b L xs (pl 1) = _
      rw [pl1]
      exact hwd 1 o2 so2
    · show pl 0 < s.heap.size
      rw [pl0]
      exact so1.lt
    · show pl 1 < s.heap.size
      rw [pl1]
      exact so2.lt
  · intro k h1 h2
    obtain ⟨v, x, y, q2, q3⟩ := hks k h1 h2
    have hlen := ks_len k
    have w1 : wh_W D T s.heap (ps k) (.inr (0, [.ref v, .int 0, x, y])) := ⟨q2, Or.inr ⟨_, _, _, _, rfl⟩⟩
    have w2 : wh_W D T s.heap v (.inl (T 0, (ks_l k).length, .inl (ks_f k))) := ⟨q3, Or.inl ⟨_, _, rfl, by omega, fun j hj => ks_0 hj⟩⟩
    refine ⟨v, x, y, ks_f k, ?_, wh_at hne (hnb _ _ w2) w2, fun j hj => ?_, ?_, q3.lt⟩
    · show wh_h D T s.heap b L xs (pl (2 * k + 2)) = _
      rw [plk]
      exact wh_at hne (hnb _ _ w1) w1
    · have h9 := ks_lo k h2 j (by omega)
      exact ⟨by omega, sb_lo _ h9⟩
    · show pl (2 * k + 2) < s.heap.size
      rw [plk]
      exact q2.lt
  · intro a e9 ha
    have ha9 : wh_h D T s.heap b L xs a = some e9 := ha
    by_cases hab : a = b
    · subst hab
      rw [wh_b] at ha9
      cases ha9
      refine hp_at.old hbl ⟨scr, x1, ⟨?_, x3⟩, hT7.symm, ⟨Nat.le_of_eq x4.symm, congrArg Nat.toInt32 x4⟩, fun j hj => (x5 j hj).trans (arrV_read (T 7) (fun j => Value.int (xs j)) hj).symm⟩
      cases hv : scr.vm with
      | statics k => exact absurd hv (x6 k)
      | _ => rfl
    · have h9 := wh_is hab ha9
      exact hp_at.old h9.lt h9

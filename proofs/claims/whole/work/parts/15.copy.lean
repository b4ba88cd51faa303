/-! ===== THE SHORT WALK: System.arraycopy of numbers; comparison of longs ===== -/
theorem hp_arr_eq (c : ClassId) (z : Nat) {f f' : Nat → Int32} (h : ∀ i, i < z → f' i = f i) : vp_cell c (z, .inl f') = vp_cell c (z, .inl f) := by
  show arrV c z (fun j => .int (f' j)) = arrV c z (fun j => .int (f j))
  unfold arrV
  congr 1
  apply Array.ext
  · simp
  · intro i h1 h2
    have hi : i < z := by simpa using h1
    simp [h i hi]
theorem hp_fits_i (x : Int32) : fits .int (.int x) = true := rfl
set_option maxHeartbeats 4000000 in
theorem v_copy {G : hp_G} {K : hp_C} {M : hp_M} {bc bs : Nat} {n : Nat} {h : Nat → Option va_E} {pc : Nat} {lo : List (Option Value)} {st : List Value} (C : hp_Cx G K M) {a0 a n0 n1 sp dp nn idx : Nat} {f g f' : Nat → Int32} (kd : Nat) (hd : decode M.1 pc = .ok (.invokestatic idx, 3)) (hw : Cond.methodLink M.2.1 idx arraycopyName ∈ lw_tbl) (hkd : kd < 3) (hh0 : h a0 = some (.inl (G.2.2.1 kd, n0, .inl f))) (hh1 : h a = some (.inl (G.2.2.1 kd, n1, .inl g))) (ha : G.2.1 ≤ a) (h4 : sp + nn ≤ n0) (h5 : dp + nn ≤ n1) (hn0 : n0 ≤ 65536) (hn1 : n1 ≤ 65536) (hfit : ∀ i, i < nn → fits (hp_ty kd) (.int (f (sp + i))) = true) (hrest : (st.map fun v => v.category).sum ≤ 8) (hRf : 1 ≤ (hp_Rm K).frames) (hRl : 8 + (nativeFrameWords "java/lang/System" "arraycopy" 5 + 11) ≤ (hp_Rm K).locals) (hf' : ∀ i, i < n1 → f' i = va_cpy f g sp dp nn i) (kk : ∀ h' : Nat → Option va_E, h' a = some (.inl (G.2.2.1 kd, n1, .inl f')) → (∀ b, b ≠ a → h' b = h b) → V G K M bc bs (n, h') (pc + 3) lo st) : V G K M bc bs (n, h) pc lo (.int (nI nn) :: .int (nI dp) :: .ref a :: .int (nI sp) :: .ref a0 :: st) := by
  obtain ⟨p, l, e, R, s, m, args, below, meth, c, Qf⟩ := K
  intro H locs cells slots ls hR0 hS hl hc hs
  obtain ⟨C1, C2, C3, C4, C5, C6, C7, C8, -, -, C11, -⟩ := C
  have hRf1 : 1 ≤ R.frames := hRf
  have hRl1 : 8 + (nativeFrameWords "java/lang/System" "arraycopy" 5 + 11) ≤ R.locals := hRl
  have es : (nI sp).toNatClampNeg = sp := nI_clamp (by omega)
  have ed : (nI dp).toNatClampNeg = dp := nI_clamp (by omega)
  have en : (nI nn).toNatClampNeg = nn := nI_clamp (by omega)
  have ts : (nI sp).toInt = (sp : Int) := nI_toInt (by omega)
  have td : (nI dp).toInt = (dp : Int) := nI_toInt (by omega)
  have tn : (nI nn).toInt = (nn : Int) := nI_toInt (by omega)
  intro T hT X
  obtain ⟨c0, hc0, y2, y3, y4, y5⟩ := hR0.ar hh0
  have y4a : n0 ≤ c0.slots.size := y4.1
  have hc1 : H[a]? = some (vp_cell (G.2.2.1 kd) (n1, .inl g)) := hR0.own ha hh1
  have hty := hp_tys_at G (show kd < 7 by omega)
  obtain ⟨y6, k0, hk0, cm0, hkk0⟩ := hp_arrof (C6.2 kd _ hty).1 y2 y3.1
  obtain ⟨-, k1, hk1, cm1, hkk1⟩ := (C6.2 kd _ hty).1 n1 (fun j => .int (g j))
  have hprim : refKind (hp_ty kd) = false := by
    match kd, hkd with
    | 0, _ => rfl
    | 1, _ => rfl
    | 2, _ => rfl
  obtain ⟨vm', X', step⟩ := X.arraycopy C1 C4 (C5 _ (hp_in hw rfl)) (C5 _ (hp_in wd3_16 rfl)) (C5 _ (hp_in wd3_15 rfl)) (C5 _ (hp_in wd1_20 rfl)) (src := a0) (dst := a) (cs := c0) (cd := vp_cell (G.2.2.1 kd) (n1, .inl g)) (srcPos := nI sp) (destPos := nI dp) (n := nI nn) (by rw [hT]; exact hc0) (by rw [hT]; exact hc1)
    y6 (fun _ h => by cases h) y3.2 (fun h => by cases h) hk0 hk1 hkk0 hkk1 (by simp [hprim]) (nI_pos (by omega)) (nI_pos (by omega)) (nI_pos (by omega))
    (by rw [ts, tn]; omega)
    (by rw [td, tn]; show ¬ _ > ((arrV _ n1 (fun j => .int (g j))).slots.size : Int); rw [arrV_size]; omega)
    (fun vm₁ _ i hi => by
      rw [es]
      rw [en] at hi
      have e : c0.slots.getD (sp + i) .null = .int (f (sp + i)) := by
        rw [Array.getD_eq_getD_getElem?, (y5 (sp + i) (show sp + i < n0 by omega)).trans (arrV_read _ _ (show sp + i < n0 by omega))]
        rfl
      refine ⟨?_, ?_⟩
      · rw [e]
        exact hfit i hi
      · rw [e]
        exact trivial)
    (g := F0 m pc ls (.int (nI nn) :: .int (nI dp) :: .ref a :: .int (nI sp) :: .ref a0 :: st)) rfl (by rw [C3, ← hl.1]) (rest := st) rfl (by rw [C2]; exact hd) hRf1 (by show 2 * 0 + _ + _ ≤ _; omega)
  have e0 : copied c0 (vp_cell (G.2.2.1 kd) (n1, .inl g)) (nI sp) (nI dp) (nI nn) = copied (vp_cell (G.2.2.1 kd) (n0, .inl f)) (vp_cell (G.2.2.1 kd) (n1, .inl g)) (nI sp) (nI dp) (nI nn) := by
    have e9 : c0.stretch (nI sp).toNatClampNeg (nI nn).toNatClampNeg = (vp_cell (G.2.2.1 kd) (n0, .inl f)).stretch (nI sp).toNatClampNeg (nI nn).toNatClampNeg := by
      unfold Cell.stretch
      refine List.map_congr_left fun i hi => ?_
      have hi2 := List.mem_range.mp hi
      rw [en] at hi2
      rw [es, Array.getD_eq_getD_getElem?, Array.getD_eq_getD_getElem?, y5 (sp + i) (show sp + i < n0 by omega)]
    unfold copied
    rw [e9]
  have e1 : copied (vp_cell (G.2.2.1 kd) (n0, .inl f)) (vp_cell (G.2.2.1 kd) (n1, .inl g)) (nI sp) (nI dp) (nI nn) = vp_cell (G.2.2.1 kd) (n1, .inl f') := by
    rw [hp_arr_eq (G.2.2.1 kd) n1 hf']
    have e2 : copied (vp_cell (G.2.2.1 kd) (n0, .inl f)) (vp_cell (G.2.2.1 kd) (n1, .inl g)) (nI sp) (nI dp) (nI nn) = vp_cell (G.2.2.1 kd) (n1, .inl (va_cpy f g (nI sp).toNatClampNeg (nI dp).toNatClampNeg (nI nn).toNatClampNeg)) := va_copied (fun z => .int z) _ _ f g (by rw [es, en]; exact h4)
    rw [es, ed, en] at e2
    exact e2
  rw [e0, e1] at X' step
  have hlt : a < H.size := (Array.getElem?_eq_some_iff.mp hc1).1
  have hheap : ((T.setVm vm').setCell a (vp_cell (G.2.2.1 kd) (n1, .inl f'))).heap = H.setIfInBounds a (vp_cell (G.2.2.1 kd) (n1, .inl f')) := by rw [← hT]; rfl
  have oq : ∀ q : Nat, q ≠ a → (H.setIfInBounds a (vp_cell (G.2.2.1 kd) (n1, .inl f')))[q]? = H[q]? := fun q hq => by simp [Array.getElem?_setIfInBounds, Ne.symm hq]
  obtain ⟨t, a1, b1⟩ := kk (fun b => if b = a then some (.inl (G.2.2.1 kd, n1, .inl f')) else h b) (if_pos rfl) (fun b hb => if_neg hb) (H.setIfInBounds a (vp_cell (G.2.2.1 kd) (n1, .inl f'))) _ cells slots ls (hR0.upd (e := .inl (G.2.2.1 kd, n1, .inl f')) (by simp) oq (show (H.setIfInBounds a (vp_cell (G.2.2.1 kd) (n1, .inl f')))[a]? = some (vp_cell (G.2.2.1 kd) (n1, .inl f')) by simp [Array.getElem?_setIfInBounds, hlt]) (if_pos rfl) (fun b hb => if_neg hb)) ⟨by simp; exact hS.1, fun q g1 g2 => by
      rw [oq q (fun e => g2 (by rw [e]; exact ha))]
      exact hS.2.1 q g1 g2, fun q hq => by
      rcases List.mem_append.mp hq with h | h
      · exact hS.2.2 q h
      · obtain ⟨z, -, hz⟩ := List.mem_map.mp h
        rw [← hz]
        exact ha⟩ hl hc hs _ hheap X'
  exact ⟨t, step t a1, b1⟩
theorem v_lcmp {G : hp_G} {K : hp_C} {M : hp_M} {bc bs : Nat} {σ : hp_T} {pc : Nat} {lo : List (Option Value)} {st : List Value} (C : hp_Cx G K M) {x y : Int64} (hd : decode M.1 pc = .ok (.lcmp, 1)) (k : V G K M bc bs σ (pc + 1) lo (.int (lg_cmp x y) :: st)) : V G K M bc bs σ pc lo (.long y :: .long x :: st) := by
  obtain ⟨p, l, e, R, s, m, args, below, meth, c, Qf⟩ := K
  intro H locs cells slots ls hR hS hl hc hs
  exact W.lcmp C.1 C.2.1 hd (k H locs cells slots ls hR hS hl hc hs)
theorem hp_lcmp0 (x y : Int64) : lg_cmp x y = 0 ↔ x = y := by
  unfold lg_cmp
  by_cases h1 : y < x
  · rw [if_pos h1]
    exact ⟨fun q => absurd q (by decide), fun q => by rw [q] at h1; exact absurd h1 (by simp)⟩
  · rw [if_neg h1]
    by_cases h2 : x = y
    · simp [h2]
    · simp [h2]
theorem hp_sh1 : ∀ k, k < 31 → nI 1 <<< (nI k &&& 31) = nI (2 ^ k) := by decide +kernel

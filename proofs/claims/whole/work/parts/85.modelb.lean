/-! ===== THE MODEL: a contract is placed ===== -/
theorem Gr.addc {g : Nat → Int32} {M : mk_T} (H : Gr g M) (h20 : mk_ct M < 20) (b s on q d : Int32) : Gr (upd (upd (upd (upd (upd (upd g 2 (nI (mk_ct M + 1))) (36 + 5 * mk_ct M + 0) b) (36 + 5 * mk_ct M + 1) s) (36 + 5 * mk_ct M + 2) on) (36 + 5 * mk_ct M + 3) q) (36 + 5 * mk_ct M + 4) (mk_dy M + d)) (mk_con M b s on q d) := by
  obtain ⟨⟨a0, a1, a2, a3, a4, a5, a6, a7⟩, bb, cc, dd, e1, e2, e3⟩ := H
  have un : ∀ i, i ≠ 2 → (i < 36 + 5 * mk_ct M ∨ 41 + 5 * mk_ct M ≤ i) → upd (upd (upd (upd (upd (upd g 2 (nI (mk_ct M + 1))) (36 + 5 * mk_ct M + 0) b) (36 + 5 * mk_ct M + 1) s) (36 + 5 * mk_ct M + 2) on) (36 + 5 * mk_ct M + 3) q) (36 + 5 * mk_ct M + 4) (mk_dy M + d) i = g i := fun i h2 h1 => by rw [pk_un (by omega), pk_un (by omega), pk_un (by omega), pk_un (by omega), pk_un (by omega), pk_un h2]
  have ak : ∀ k i, i ≠ mk_ct M ∨ k < 5 → mk_ar (mk_con M b s on q d) k i = mk_ar M k i := fun k i h => by
    show (if k = 9 then _ else (if k = 8 then _ else (if k = 7 then _ else (if k = 6 then _ else (if k = 5 then _ else mk_ar M k))))) i = _
    by_cases z9 : k = 9
    · subst z9
      rw [if_pos rfl]
      exact pk_un (by omega)
    · rw [if_neg z9]
      by_cases z8 : k = 8
      · subst z8
        rw [if_pos rfl]
        exact pk_un (by omega)
      · rw [if_neg z8]
        by_cases z7 : k = 7
        · subst z7
          rw [if_pos rfl]
          exact pk_un (by omega)
        · rw [if_neg z7]
          by_cases z6 : k = 6
          · subst z6
            rw [if_pos rfl]
            exact pk_un (by omega)
          · rw [if_neg z6]
            by_cases z5 : k = 5
            · subst z5
              rw [if_pos rfl]
              exact pk_un (by omega)
            · rw [if_neg z5]
  refine ⟨⟨(un _ (by omega) (by omega)).trans a0, (un _ (by omega) (by omega)).trans a1, (by rw [pk_un (by omega), pk_un (by omega), pk_un (by omega), pk_un (by omega), pk_un (by omega), pk_us]), (un _ (by omega) (by omega)).trans a3, (un _ (by omega) (by omega)).trans a4, (un _ (by omega) (by omega)).trans a5, (by rw [un _ (by omega) (by omega)]; exact a6), (by rw [un _ (by omega) (by omega)]; exact a7)⟩, fun i (hi : i < mk_hz M) k hk => ?_, fun t (ht : t < mk_tr M) => ?_, fun c2 (hc : c2 < mk_ct M + 1) k hk => ?_, e1, e2, (by show mk_ct M + 1 ≤ 20; omega)⟩
  · rw [un _ (by omega) (by omega), ak k i (Or.inr (by omega))]
    exact bb i hi k hk
  · rw [un _ (by omega) (by omega), un _ (by omega) (by omega), un _ (by omega) (by omega), ak 3 t (Or.inr (by omega)), ak 4 t (Or.inr (by omega))]
    exact cc t ht
  · by_cases z : c2 = mk_ct M
    · subst z
      obtain rfl | rfl | rfl | rfl | rfl : k = 0 ∨ k = 1 ∨ k = 2 ∨ k = 3 ∨ k = 4 := by omega
      · rw [pk_un (by omega), pk_un (by omega), pk_un (by omega), pk_un (by omega), pk_us]
        exact (show upd (M.2.1 5) (mk_ct M) b (mk_ct M) = b from pk_us).symm
      · rw [pk_un (by omega), pk_un (by omega), pk_un (by omega), pk_us]
        exact (show upd (M.2.1 6) (mk_ct M) s (mk_ct M) = s from pk_us).symm
      · rw [pk_un (by omega), pk_un (by omega), pk_us]
        exact (show upd (M.2.1 7) (mk_ct M) on (mk_ct M) = on from pk_us).symm
      · rw [pk_un (by omega), pk_us]
        exact (show upd (M.2.1 8) (mk_ct M) q (mk_ct M) = q from pk_us).symm
      · rw [pk_us]
        exact (show upd (M.2.1 9) (mk_ct M) (mk_dy M + d) (mk_ct M) = mk_dy M + d from pk_us).symm
    · rw [un _ (by omega) (by omega), ak (5 + k) c2 (Or.inl z)]
      exact dd c2 (by omega) k hk
set_option maxHeartbeats 8000000 in
/-- a contract is placed -/
theorem c_X8_places {G : hp_G} {l : Launch} (hl : l.stackTraces = false) {n0 : Nat} {h0 : Nat → Option va_E} {y : Nat} {S : mo_T} {g : Nat → Int32} (hS : Mo G h0 y (mo_sg S g)) {M : mk_T} (hg : Gr g M) (h20 : mk_ct M < 20) (b s on q d : Int32) : Ct G l yX8_places cX8_places 7 (some .int) 1 0 0 [.ref y, .int b, .int s, .int on, .int q, .int d] (n0, h0) (hp_iq (fun r τ => r = nI (mk_ct M) ∧ τ.1 = n0 ∧ (∃ g1, Gr g1 (mk_con M b s on q d) ∧ Mo G τ.2 y (mo_sg S g1)) ∧ ∀ a, (a < y ∨ y + 13 ≤ a) → τ.2 a = h0 a)) := by
  have hbase := hS.base
  have hct := hg.ct
  have hO0 : ∀ a, (a < y ∨ y + 13 ≤ a) → h0 a = h0 a := fun _ _ => rfl
  refine Ct.of rfl hl (by simp [Value.category]) (Nat.le_of_ble_eq_true rfl) (fun K C E hRm hKl => ?_)
  subst hKl
  refine v_aload_n C dX8_places_0 rfl ?_
  refine v_get C 0 dX8_places_1 wd6_237 hS.o rfl (by decide) ⟨rfl, rfl, rfl⟩ rfl ?_
  refine v_iconst (v := nI 2) C dX8_places_4 (by decide) ?_
  refine v_ialdN C dX8_places_5 hS.a0 (by omega) (by decide) ?_
  rw [mo_sg_0, hg.g2]
  refine v_istore C dX8_places_6 (by decide) ?_
  refine v_aload_n C dX8_places_8 rfl ?_
  refine v_get C 0 dX8_places_9 wd6_237 hS.o rfl (by decide) ⟨rfl, rfl, rfl⟩ rfl ?_
  refine v_iconst (v := nI 2) C dX8_places_12 (by decide) ?_
  refine v_dup2 C dX8_places_13 rfl rfl ?_
  refine v_ialdN C dX8_places_14 hS.a0 (by omega) (by decide) ?_
  rw [mo_sg_0, hg.g2]
  refine v_iconst (v := nI 1) C dX8_places_15 (by decide) ?_
  refine v_iaddN C dX8_places_16 ?_
  refine v_iastN C dX8_places_17 (by omega) hS.a0 (by omega) (by decide) (fun h17 e17 g17 => ?_)
  have Y17 := hS.s0 e17 g17
  have W17 : ∀ a, (a < y ∨ y + 13 ≤ a) → h17 a = _ := fun a ha => (g17 a (by omega)).trans (hO0 a ha)
  have X17 := Y17.to mo_sg_sa
  refine v_aload_n C dX8_places_18 rfl ?_
  refine v_iload C dX8_places_19 rfl ?_
  refine v_iconst (v := nI 0) C dX8_places_21 (by decide) ?_
  refine v_iload_n C dX8_places_22 rfl ?_
  refine v_callVv C (c_X8_puts hl X17 (i := mk_ct M) (k := 0) (by omega) (by decide) _) dX8_places_23 mX8_puts rfl X17.o rfl wd7_125 rfl rfl (Nat.le_of_ble_eq_true rfl) (hp_rmle hRm (by decide) (by decide)) (Nat.le_of_ble_eq_true rfl) (Nat.le_of_ble_eq_true rfl) (fun n23 h23 q23 => ?_)
  obtain ⟨k23, Y23, W23⟩ := q23
  have z23 := Eq.symm k23
  have z23 : n0 = n23 := z23
  subst z23
  have W23 : ∀ a, (a < y ∨ y + 13 ≤ a) → h23 a = _ := fun a ha => (W23 a ha).trans (W17 a ha)
  have X23 := Y23.to mo_sg_sa
  refine v_aload_n C dX8_places_26 rfl ?_
  refine v_iload C dX8_places_27 rfl ?_
  refine v_iconst (v := nI 1) C dX8_places_29 (by decide) ?_
  refine v_iload_n C dX8_places_30 rfl ?_
  refine v_callVv C (c_X8_puts hl X23 (i := mk_ct M) (k := 1) (by omega) (by decide) _) dX8_places_31 mX8_puts rfl X23.o rfl wd7_125 rfl rfl (Nat.le_of_ble_eq_true rfl) (hp_rmle hRm (by decide) (by decide)) (Nat.le_of_ble_eq_true rfl) (Nat.le_of_ble_eq_true rfl) (fun n31 h31 q31 => ?_)
  obtain ⟨k31, Y31, W31⟩ := q31
  have z31 := Eq.symm k31
  have z31 : n0 = n31 := z31
  subst z31
  have W31 : ∀ a, (a < y ∨ y + 13 ≤ a) → h31 a = _ := fun a ha => (W31 a ha).trans (W23 a ha)
  have X31 := Y31.to mo_sg_sa
  refine v_aload_n C dX8_places_34 rfl ?_
  refine v_iload C dX8_places_35 rfl ?_
  refine v_iconst (v := nI 2) C dX8_places_37 (by decide) ?_
  refine v_iload_n C dX8_places_38 rfl ?_
  refine v_callVv C (c_X8_puts hl X31 (i := mk_ct M) (k := 2) (by omega) (by decide) _) dX8_places_39 mX8_puts rfl X31.o rfl wd7_125 rfl rfl (Nat.le_of_ble_eq_true rfl) (hp_rmle hRm (by decide) (by decide)) (Nat.le_of_ble_eq_true rfl) (Nat.le_of_ble_eq_true rfl) (fun n39 h39 q39 => ?_)
  obtain ⟨k39, Y39, W39⟩ := q39
  have z39 := Eq.symm k39
  have z39 : n0 = n39 := z39
  subst z39
  have W39 : ∀ a, (a < y ∨ y + 13 ≤ a) → h39 a = _ := fun a ha => (W39 a ha).trans (W31 a ha)
  have X39 := Y39.to mo_sg_sa
  refine v_aload_n C dX8_places_42 rfl ?_
  refine v_iload C dX8_places_43 rfl ?_
  refine v_iconst (v := nI 3) C dX8_places_45 (by decide) ?_
  refine v_iload C dX8_places_46 rfl ?_
  refine v_callVv C (c_X8_puts hl X39 (i := mk_ct M) (k := 3) (by omega) (by decide) _) dX8_places_48 mX8_puts rfl X39.o rfl wd7_125 rfl rfl (Nat.le_of_ble_eq_true rfl) (hp_rmle hRm (by decide) (by decide)) (Nat.le_of_ble_eq_true rfl) (Nat.le_of_ble_eq_true rfl) (fun n48 h48 q48 => ?_)
  obtain ⟨k48, Y48, W48⟩ := q48
  have z48 := Eq.symm k48
  have z48 : n0 = n48 := z48
  subst z48
  have W48 : ∀ a, (a < y ∨ y + 13 ≤ a) → h48 a = _ := fun a ha => (W48 a ha).trans (W39 a ha)
  have X48 := Y48.to mo_sg_sa
  refine v_aload_n C dX8_places_51 rfl ?_
  refine v_iload C dX8_places_52 rfl ?_
  refine v_iconst (v := nI 4) C dX8_places_54 (by decide) ?_
  refine v_aload_n C dX8_places_55 rfl ?_
  refine v_get C 0 dX8_places_56 wd6_237 X48.o rfl (by decide) ⟨rfl, rfl, rfl⟩ rfl ?_
  refine v_iconst (v := nI 3) C dX8_places_59 (by decide) ?_
  refine v_ialdN C dX8_places_60 X48.a0 (by omega) (by decide) ?_
  rw [mo_sg_0, pk_un (show (3 : Nat) ≠ 36 + 5 * mk_ct M + 3 by omega), pk_un (show (3 : Nat) ≠ 36 + 5 * mk_ct M + 2 by omega), pk_un (show (3 : Nat) ≠ 36 + 5 * mk_ct M + 1 by omega), pk_un (show (3 : Nat) ≠ 36 + 5 * mk_ct M + 0 by omega), pk_un (show (3 : Nat) ≠ 2 by decide), hg.g3]
  refine v_iload C dX8_places_61 rfl ?_
  refine v_iadd C dX8_places_63 ?_
  refine v_callVv C (c_X8_puts hl X48 (i := mk_ct M) (k := 4) (by omega) (by decide) _) dX8_places_64 mX8_puts rfl X48.o rfl wd7_125 rfl rfl (Nat.le_of_ble_eq_true rfl) (hp_rmle hRm (by decide) (by decide)) (Nat.le_of_ble_eq_true rfl) (Nat.le_of_ble_eq_true rfl) (fun n64 h64 q64 => ?_)
  obtain ⟨k64, Y64, W64⟩ := q64
  have z64 := Eq.symm k64
  have z64 : n0 = n64 := z64
  subst z64
  have W64 : ∀ a, (a < y ∨ y + 13 ≤ a) → h64 a = _ := fun a ha => (W64 a ha).trans (W48 a ha)
  have X64 := Y64.to mo_sg_sa
  refine v_iload C dX8_places_67 rfl ?_
  exact v_iret C E dX8_places_69 rfl ⟨_, rfl, rfl, rfl, ⟨_, hg.addc h20 b s on q d, X64⟩, W64⟩

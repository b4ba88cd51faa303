set_option maxHeartbeats 8000000 in
/-- payments at all -/
theorem c_X8_pays2 {G : hp_G} {l : Launch} (hl : l.stackTraces = false) {n0 : Nat} {h0 : Nat → Option va_E} {y : Nat} {S : mo_T} (hS : Mo G h0 y S) {M : mk_T} (hg : Gr (S.1 0) M)  : Ct G l yX8_pays cX8_pays 5 (some .int) 3 0 0 [.ref y] (n0, h0) (hp_iq (fun r τ => r = pa_v M ∧ τ.1 = n0 ∧ (∃ S2, Mo G τ.2 y S2 ∧ (mo_wk S S2 ∧ S2.1 0 = S.1 0) ∧ S2.2 3 = S.2 3) ∧ ∀ a, (a < y ∨ y + 13 ≤ a) → τ.2 a = h0 a)) := by
  have hbase := hS.base
  have hhz := hg.hz
  have htr := hg.tr
  have hct := hg.ct
  have hO0 : ∀ a, (a < y ∨ y + 13 ≤ a) → h0 a = h0 a := fun _ _ => rfl
  have ha := pa_a_lt M (mk_tr M)
  have h64 : 2 ^ mk_tr M ≤ 64 := hp_p6 htr
  have ha : pa_a M (mk_tr M) < 64 := by omega
  refine Ct.of rfl hl (by simp [Value.category]) (Nat.le_of_ble_eq_true rfl) (fun K C E hRm hKl => ?_)
  subst hKl
  refine v_iconst (v := nI 0) C dX8_pays_0 (by decide) ?_
  refine v_istore_n C dX8_pays_1 (by decide) ?_
  refine v_iconst (v := nI 0) C dX8_pays_2 (by decide) ?_
  refine v_istore_n C dX8_pays_3 (by decide) ?_
  refine v_iconst (v := nI 0) C dX8_pays_4 (by decide) ?_
  refine v_istore_n C dX8_pays_5 (by decide) ?_
  refine loop1_X8_pays hg hbase C hRm hl hS ?_ (mk_tr M) 0 (Nat.zero_add _)
  have X0 := hS.to (mo_sx_eq S)
  refine v_aload_n C dX8_pays_42 rfl ?_
  refine v_get C 20 dX8_pays_43 wd7_17 X0.o rfl (by decide) ⟨rfl, rfl, rfl⟩ rfl ?_
  refine v_iconst (v := nI 0) C dX8_pays_46 (by decide) ?_
  refine v_iconst (v := nI 0) C dX8_pays_47 (by decide) ?_
  refine v_iastN C dX8_pays_48 (by omega) X0.a10 (by omega) (by decide) (fun h48 e48 g48 => ?_)
  have Y48 := (X0.s10 e48 g48).to mo_sx_b
  have W48 : ∀ a, (a < y ∨ y + 13 ≤ a) → h48 a = h0 a := fun a ha => (g48 a (by omega)).trans (hO0 a ha)
  refine v_iconst (v := nI 1) C dX8_pays_49 (by decide) ?_
  refine v_istore_n C dX8_pays_50 (by decide) ?_
  refine loop3_X8_pays (S := S) (M := M) (a := pa_a M (mk_tr M)) (n := pa_n M (mk_tr M)) hg hbase C hRm hl (fun h3 A3 B3 hB3 Y3 W3 => ?_) 63 1 _ _ _ rfl (Nat.le_refl _) (fun i hi => ?_) Y48 W48
  · refine v_iconst (v := nI 1) C dX8_pays_140 (by decide) ?_
    refine v_istore_n C dX8_pays_141 (by decide) ?_
    exact loop5_X8_pays (S := S) (M := M) (A := A3) (Z := pa_o 63 1 (pa_m M (pa_a M (mk_tr M)))) hg hbase C E ha (fun h5 B5 hB5 Y5 W5 => ⟨_, rfl, rfl, rfl, ⟨_, Y5, ⟨mo_wk.sx, rfl⟩, rfl⟩, W5⟩) 63 1 _ _ _ rfl (Nat.le_refl _) rfl hB3 Y3 W3
  · have q : i = 0 := by omega
    rw [q, pk_us]
    rfl
set_option maxHeartbeats 8000000 in
/-- payments -/
theorem c_X8_payments2 {G : hp_G} {l : Launch} (hl : l.stackTraces = false) {n0 : Nat} {h0 : Nat → Option va_E} {y : Nat} {S : mo_T} (hS : Mo G h0 y S) {M : mk_T} (hg : Gr (S.1 0) M)  : Ct G l yX8_payments cX8_payments 1 (some .int) 4 0 0 [.ref y] (n0, h0) (hp_iq (fun r τ => r = pa_v M ∧ τ.1 = n0 ∧ (∃ S2, Mo G τ.2 y S2 ∧ (mo_wk S S2 ∧ S2.1 0 = S.1 0) ∧ S2.2 3 = nI 0) ∧ ∀ a, (a < y ∨ y + 13 ≤ a) → τ.2 a = h0 a)) := by
  have hbase := hS.base
  have hhz := hg.hz
  have htr := hg.tr
  have hct := hg.ct
  refine Ct.of rfl hl (by simp [Value.category]) (Nat.le_of_ble_eq_true rfl) (fun K C E hRm hKl => ?_)
  subst hKl
  refine v_aload_n C dX8_payments_0 rfl ?_
  refine v_iconst (v := nI 0) C dX8_payments_1 (by decide) ?_
  refine v_put C 7 dX8_payments_2 wd7_4 hbase hS.o rfl (by decide) ⟨rfl, rfl, rfl, rfl⟩ rfl rfl rfl (Nat.le_of_ble_eq_true rfl) (fun h2 e2 g2 => ?_)
  have Y2 := hS.i3 e2 g2
  have W2 : ∀ a, (a < y ∨ y + 13 ≤ a) → h2 a = _ := fun a ha => g2 a (by omega)
  refine v_aload_n C dX8_payments_5 rfl ?_
  refine v_callVq C (c_X8_pays2 hl Y2 (M := M) hg) dX8_payments_6 mX8_pays rfl Y2.o rfl wd8_64 rfl rfl (Nat.le_of_ble_eq_true rfl) (hp_rmle hRm (by decide) (by decide)) (Nat.le_of_ble_eq_true rfl) (Nat.le_of_ble_eq_true rfl) (fun r6 n6 h6 q6 => ?_)
  obtain ⟨e6, k6, ⟨S2, Y6, ⟨w6, z0⟩, t6⟩, W6⟩ := q6
  have z6 := Eq.symm k6
  have z6 : n0 = n6 := z6
  subst z6
  subst e6
  exact v_iret C E dX8_payments_9 rfl ⟨_, rfl, rfl, rfl, ⟨_, Y6, ⟨((mo_wk.rf S).si (Or.inl rfl)).tr w6, z0⟩, t6.trans (mo_si_3 S 3 (nI 0))⟩, fun a ha => (W6 a ha).trans (W2 a ha)⟩
set_option maxHeartbeats 8000000 in
/-- paymentsByGroups -/
theorem c_X8_paymentsByGroups2 {G : hp_G} {l : Launch} (hl : l.stackTraces = false) {n0 : Nat} {h0 : Nat → Option va_E} {y : Nat} {S : mo_T} (hS : Mo G h0 y S) {M : mk_T} (hg : Gr (S.1 0) M)  : Ct G l yX8_paymentsByGroups cX8_paymentsByGroups 1 (some .int) 4 0 0 [.ref y] (n0, h0) (hp_iq (fun r τ => r = pa_v M ∧ τ.1 = n0 ∧ (∃ S2, Mo G τ.2 y S2 ∧ (mo_wk S S2 ∧ S2.1 0 = S.1 0) ∧ S2.2 3 = nI 0) ∧ ∀ a, (a < y ∨ y + 13 ≤ a) → τ.2 a = h0 a)) := by
  have hbase := hS.base
  have hhz := hg.hz
  have htr := hg.tr
  have hct := hg.ct
  refine Ct.of rfl hl (by simp [Value.category]) (Nat.le_of_ble_eq_true rfl) (fun K C E hRm hKl => ?_)
  subst hKl
  refine v_aload_n C dX8_paymentsByGroups_0 rfl ?_
  refine v_iconst (v := nI 0) C dX8_paymentsByGroups_1 (by decide) ?_
  refine v_put C 7 dX8_paymentsByGroups_2 wd7_4 hbase hS.o rfl (by decide) ⟨rfl, rfl, rfl, rfl⟩ rfl rfl rfl (Nat.le_of_ble_eq_true rfl) (fun h2 e2 g2 => ?_)
  have Y2 := hS.i3 e2 g2
  have W2 : ∀ a, (a < y ∨ y + 13 ≤ a) → h2 a = _ := fun a ha => g2 a (by omega)
  refine v_aload_n C dX8_paymentsByGroups_5 rfl ?_
  refine v_callVq C (c_X8_pays2 hl Y2 (M := M) hg) dX8_paymentsByGroups_6 mX8_pays rfl Y2.o rfl wd8_64 rfl rfl (Nat.le_of_ble_eq_true rfl) (hp_rmle hRm (by decide) (by decide)) (Nat.le_of_ble_eq_true rfl) (Nat.le_of_ble_eq_true rfl) (fun r6 n6 h6 q6 => ?_)
  obtain ⟨e6, k6, ⟨S2, Y6, ⟨w6, z0⟩, t6⟩, W6⟩ := q6
  have z6 := Eq.symm k6
  have z6 : n0 = n6 := z6
  subst z6
  subst e6
  exact v_iret C E dX8_paymentsByGroups_9 rfl ⟨_, rfl, rfl, rfl, ⟨_, Y6, ⟨((mo_wk.rf S).si (Or.inl rfl)).tr w6, z0⟩, t6.trans (mo_si_3 S 3 (nI 0))⟩, fun a ha => (W6 a ha).trans (W2 a ha)⟩

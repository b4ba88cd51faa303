/-! ===== THE MODEL: typing ===== -/
def mo_ty (k len : Nat) : Int32 := if ¬ hp_wi (nI k) (nI 32) (nI 126) then nI 1 else if len = 60 then nI 2 else nI 0
def mo_tS (S : mo_T) (k len : Nat) : mo_T := if mo_ty k len = nI 0 then mo_si (mo_sa (mo_si S 3 (nI 0)) 4 len (nI k)) 4 (nI (len + 1)) else mo_si S 3 (mo_ty k len)
set_option maxHeartbeats 8000000 in
/-- a sign is typed -/
theorem c_X8_type {G : hp_G} {l : Launch} (hl : l.stackTraces = false) {n0 : Nat} {h0 : Nat → Option va_E} {y : Nat} {S : mo_T} (hS : Mo G h0 y S) {len : Nat} (hlen : S.2 4 = nI len) (h60 : len ≤ 60) {k : Nat} (hk : k < 65536) : Ct G l yX8_type cX8_type 2 (some .int) 1 0 0 [.ref y, .int (nI k)] (n0, h0) (hp_iq (fun r τ => r = (if mo_ty k len = nI 0 then nI (len + 1) else nI 0) ∧ τ.1 = n0 ∧ Mo G τ.2 y (mo_tS S k len) ∧ ∀ a, (a < y ∨ y + 13 ≤ a) → τ.2 a = h0 a)) := by
  have hbase := hS.base
  have hS1 := hS.to (mo_si_eq hlen)
  refine Ct.of rfl hl (by simp [Value.category]) (Nat.le_of_ble_eq_true rfl) (fun K C E hRm hKl => ?_)
  subst hKl
  refine v_aload_n C dX8_type_0 rfl ?_
  refine v_iload_n C dX8_type_1 rfl ?_
  refine v_bipush (v := nI 32) C dX8_type_2 (by decide) ?_
  refine v_bipush (v := nI 126) C dX8_type_4 (by decide) ?_
  refine v_callSi C (c_X8_in hl (nI k) (nI 32) (nI 126)) dX8_type_6 mX8_in wd7_79 rfl rfl (Nat.le_of_ble_eq_true rfl) (hp_rmle hRm (by decide) (by decide)) (Nat.le_of_ble_eq_true rfl) (Nat.le_of_ble_eq_true rfl) ?_
  refine v_if_neB (tgt := 16) C dX8_type_9 (by decide) (fun c9 => ?_) (fun c9 => ?_)
  · refine v_aload_n C dX8_type_16 rfl ?_
    refine v_get (v := .int (nI (len))) C 9 dX8_type_17 wd7_6 hS1.o rfl (by decide) ⟨rfl, rfl, rfl⟩ rfl ?_
    refine v_bipush (v := nI 60) C dX8_type_20 (by decide) ?_
    refine v_icmp_neN (tgt := 29) C dX8_type_22 (by decide) (by omega) (by omega) (fun c22 => ?_) (fun c22 => ?_)
    · have ev : mo_ty k len = nI 0 := by unfold mo_ty; rw [if_neg (fun z => z c9), if_neg c22]
      refine v_iconst (v := nI 0) C dX8_type_29 (by decide) ?_
      refine v_callVq C (c_X8_fails hl hS1 (nI 0)) dX8_type_30 mX8_fails rfl hS1.o rfl wd7_82 rfl rfl (Nat.le_of_ble_eq_true rfl) (hp_rmle hRm (by decide) (by decide)) (Nat.le_of_ble_eq_true rfl) (Nat.le_of_ble_eq_true rfl) (fun r30 n30 h30 q30 => ?_)
      obtain ⟨e30, k30, Y30, W30⟩ := q30
      have z30 := Eq.symm k30
      have z30 : n0 = n30 := z30
      subst z30
      subst e30
      refine v_if_eqB (tgt := 38) C dX8_type_33 (by decide) (fun c33 => ?_) (fun c33 => absurd c33 (by decide))
      refine v_aload_n C dX8_type_38 rfl ?_
      refine v_get C 8 dX8_type_39 wd7_5 Y30.o rfl (by decide) ⟨rfl, rfl, rfl⟩ rfl ?_
      refine v_aload_n C dX8_type_42 rfl ?_
      refine v_get (v := .int (nI (len))) C 9 dX8_type_43 wd7_6 Y30.o rfl (by decide) ⟨rfl, rfl, rfl⟩ rfl ?_
      refine v_iload_n C dX8_type_46 rfl ?_
      refine v_iastN C dX8_type_47 (by omega) Y30.a4 (by omega) (by decide) (fun h47 e47 g47 => ?_)
      have Y47 := Y30.s4 e47 g47
      have W47 : ∀ a, (a < y ∨ y + 13 ≤ a) → h47 a = _ := fun a ha => (g47 a (by omega)).trans (W30 a ha)
      refine v_aload_n C dX8_type_48 rfl ?_
      refine v_dup C dX8_type_49 rfl ?_
      refine v_get (v := .int (nI (len))) C 9 dX8_type_50 wd7_6 Y47.o rfl (by decide) ⟨rfl, rfl, rfl⟩ rfl ?_
      refine v_iconst (v := nI 1) C dX8_type_53 (by decide) ?_
      refine v_iaddN C dX8_type_54 ?_
      refine v_put C 9 dX8_type_55 wd7_6 hbase Y47.o rfl (by decide) ⟨rfl, rfl, rfl, rfl⟩ rfl rfl rfl (Nat.le_of_ble_eq_true rfl) (fun h55 e55 g55 => ?_)
      have Y55 := Y47.i4 e55 g55
      have W55 : ∀ a, (a < y ∨ y + 13 ≤ a) → h55 a = _ := fun a ha => (g55 a (by omega)).trans (W47 a ha)
      refine v_aload_n C dX8_type_58 rfl ?_
      refine v_get (v := .int (nI ((len + 1)))) C 9 dX8_type_59 wd7_6 Y55.o rfl (by decide) ⟨rfl, rfl, rfl⟩ rfl ?_
      exact v_iret C E dX8_type_62 rfl ⟨_, rfl, (if_pos ev).symm, rfl, Y55.to (by unfold mo_tS; rw [if_pos ev]; exact Prod.ext rfl (by show upd (upd (upd S.2 4 _) 3 _) 4 _ = upd (upd S.2 3 _) 4 _; rw [mo_uc S.2 (show (4 : Nat) ≠ 3 by decide), mo_uu])), W55⟩
    · have ev : mo_ty k len = nI 2 := by unfold mo_ty; rw [if_neg (fun z => z c9), if_pos c22]
      have hnz : ¬ mo_ty k len = nI 0 := by rw [ev]; decide
      refine v_iconst (v := nI 2) C dX8_type_25 (by decide) ?_
      refine v_goto (tgt := 30) C dX8_type_26 (by decide) ?_
      refine v_callVq C (c_X8_fails hl hS1 (nI 2)) dX8_type_30 mX8_fails rfl hS1.o rfl wd7_82 rfl rfl (Nat.le_of_ble_eq_true rfl) (hp_rmle hRm (by decide) (by decide)) (Nat.le_of_ble_eq_true rfl) (Nat.le_of_ble_eq_true rfl) (fun r30 n30 h30 q30 => ?_)
      obtain ⟨e30, k30, Y30, W30⟩ := q30
      have z30 := Eq.symm k30
      have z30 : n0 = n30 := z30
      subst z30
      subst e30
      refine v_if_eqB (tgt := 38) C dX8_type_33 (by decide) (fun c33 => absurd c33 (fun z => z (by decide))) (fun c33 => ?_)
      refine v_iconst (v := nI 0) C dX8_type_36 (by decide) ?_
      exact v_iret C E dX8_type_37 rfl ⟨_, rfl, (if_neg hnz).symm, rfl, Y30.to (by unfold mo_tS; rw [if_neg hnz, ev]; exact Prod.ext rfl (by show upd (upd S.2 4 _) 3 _ = upd S.2 3 _; rw [← hlen, show upd S.2 4 (S.2 4) = S.2 from (congrArg (fun z => z.2) (mo_si_eq (S := S) (j := 4) rfl)).symm])), W30⟩
  · have ev : mo_ty k len = nI 1 := if_pos c9
    have hnz : ¬ mo_ty k len = nI 0 := by rw [ev]; decide
    refine v_iconst (v := nI 1) C dX8_type_12 (by decide) ?_
    refine v_goto (tgt := 30) C dX8_type_13 (by decide) ?_
    refine v_callVq C (c_X8_fails hl hS1 (nI 1)) dX8_type_30 mX8_fails rfl hS1.o rfl wd7_82 rfl rfl (Nat.le_of_ble_eq_true rfl) (hp_rmle hRm (by decide) (by decide)) (Nat.le_of_ble_eq_true rfl) (Nat.le_of_ble_eq_true rfl) (fun r30 n30 h30 q30 => ?_)
    obtain ⟨e30, k30, Y30, W30⟩ := q30
    have z30 := Eq.symm k30
    have z30 : n0 = n30 := z30
    subst z30
    subst e30
    refine v_if_eqB (tgt := 38) C dX8_type_33 (by decide) (fun c33 => absurd c33 (fun z => z (by decide))) (fun c33 => ?_)
    refine v_iconst (v := nI 0) C dX8_type_36 (by decide) ?_
    exact v_iret C E dX8_type_37 rfl ⟨_, rfl, (if_neg hnz).symm, rfl, Y30.to (by unfold mo_tS; rw [if_neg hnz, ev]; exact Prod.ext rfl (by show upd (upd S.2 4 _) 3 _ = upd S.2 3 _; rw [← hlen, show upd S.2 4 (S.2 4) = S.2 from (congrArg (fun z => z.2) (mo_si_eq (S := S) (j := 4) rfl)).symm])), W30⟩

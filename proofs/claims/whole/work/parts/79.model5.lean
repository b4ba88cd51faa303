/-! ===== THE MODEL: copies, what is kept ===== -/
theorem mo_len_z : ∀ k, mo_len k ≤ 1104 := by
  intro k
  unfold mo_len
  split <;> decide
section MOG
variable {G : hp_G} {h h' : Nat → Option va_E} {y : Nat} {S : mo_T}
theorem Mo.ag (H : Mo G h y S) {k : Nat} (hk : k < 12) (h5 : k ≠ 5) : h (y + (k + 1)) = some (.inl (G.2.2.1 2, mo_len k, .inl (S.1 k))) := by
  have e := H.2.1 k hk
  have e2 : mo_kd k = 2 := if_neg h5
  rw [e2] at e
  exact e
theorem Mo.sg {k i : Nat} {v : Int32} (H : Mo G h y S) (hk : k < 12) (h5 : k ≠ 5) (h1 : h' (y + (k + 1)) = some (.inl (G.2.2.1 2, mo_len k, .inl (upd (S.1 k) i v)))) (h2 : ∀ b, b ≠ y + (k + 1) → h' b = h b) : Mo G h' y (mo_sa S k i v) := by
  refine ⟨(h2 _ (by omega)).trans H.1, fun j hj => ?_, H.2.2⟩
  by_cases q : j = k
  · subst q
    have e2 : mo_kd j = 2 := if_neg h5
    have e : (mo_sa S j i v).1 j = upd (S.1 j) i v := if_pos rfl
    rw [e2, e]
    exact h1
  · have e : (mo_sa S k i v).1 j = S.1 j := if_neg q
    rw [e]
    exact (h2 _ (by omega)).trans (H.2.1 j hj)
theorem Mo.to {S' : mo_T} (H : Mo G h y S) (e : S = S') : Mo G h y S' := e ▸ H
end MOG
/-- n numbers of row kf from a on are copied into row kt from b on -/
def mo_cp (S : mo_T) (kf a kt b n : Nat) : mo_T := (fun j => if j = kt then (fun i => if b ≤ i ∧ i < b + n then S.1 kf (a + (i - b)) else S.1 kt i) else S.1 j, S.2)
theorem mo_cp_f {S : mo_T} {kf a kt b n : Nat} (h : kf ≠ kt) : (mo_cp S kf a kt b n).1 kf = S.1 kf := if_neg h
theorem mo_cp_0 (S : mo_T) (kf a kt b : Nat) : mo_cp S kf a kt b 0 = S := by
  refine Prod.ext (funext fun j => ?_) rfl
  show (if j = kt then _ else _) = _
  by_cases q : j = kt
  · rw [if_pos q, q]
    refine funext fun i => ?_
    show (if b ≤ i ∧ i < b + 0 then _ else _) = _
    exact if_neg (by omega)
  · exact if_neg q
theorem mo_cp_s {S : mo_T} {kf a kt b n : Nat} (h : kf ≠ kt) : mo_sa (mo_cp S kf a kt b n) kt (b + n) ((mo_cp S kf a kt b n).1 kf (a + n)) = mo_cp S kf a kt b (n + 1) := by
  rw [mo_cp_f h]
  refine Prod.ext (funext fun j => ?_) rfl
  show (if j = kt then _ else (if j = kt then _ else _)) = (if j = kt then _ else _)
  by_cases q : j = kt
  · rw [if_pos q, if_pos q]
    refine funext fun i => ?_
    by_cases p : i = b + n
    · rw [p, pk_us]
      show _ = (if b ≤ b + n ∧ b + n < b + (n + 1) then _ else _)
      rw [if_pos ⟨by omega, by omega⟩, Nat.add_sub_cancel_left]
    · rw [pk_un p]
      show (if kt = kt then (fun i => if b ≤ i ∧ i < b + n then S.1 kf (a + (i - b)) else S.1 kt i) else S.1 kt) i = (if b ≤ i ∧ i < b + (n + 1) then _ else _)
      rw [if_pos rfl]
      show (if b ≤ i ∧ i < b + n then _ else _) = _
      by_cases z : b ≤ i ∧ i < b + n
      · rw [if_pos z, if_pos ⟨z.1, by omega⟩]
      · rw [if_neg z, if_neg (by omega)]
  · rw [if_neg q, if_neg q, if_neg q]
set_option maxHeartbeats 4000000 in
theorem loop_X8_copies {G : hp_G} {K : hp_C} {P : hp_P} {n0 : Nat} {h0 : Nat → Option va_E} {y : Nat} {S : mo_T} {kf kt a b : Nat} (hf : kf < 4) (ht : kt < 4) (hne : kf ≠ kt) (ha : a + 138 ≤ mo_len kf) (hb : b + 138 ≤ mo_len kt) (C : hp_Cx G K MX8_copies) (E : hp_End G K P) (hbase : G.2.1 ≤ y) (hp : ∀ h, Mo G h y (mo_cp S kf a kt b 138) → (∀ q, (q < y ∨ y + 13 ≤ q) → h q = h0 q) → P (.inl none) (n0, h)) : ∀ (e c : Nat) (h : Nat → Option va_E), c + e = 138 → Mo G h y (mo_cp S kf a kt b c) → (∀ q, (q < y ∨ y + 13 ≤ q) → h q = h0 q) → V G K MX8_copies 0 0 (n0, h) 3 [some (.ref (y + (kf + 1))), some (.int (nI a)), some (.ref (y + (kt + 1))), some (.int (nI b)), some (.int (nI c))] [] := by
  have hz1 := mo_len_z kf
  have hz2 := mo_len_z kt
  intro e
  induction e with
  | zero =>
    intro c h hc H hO
    have e : c = 138 := by omega
    subst e
    refine v_iload C dX8_copies_3 rfl ?_
    refine v_sipush (v := nI 138) C dX8_copies_5 (by decide) ?_
    refine v_icmp_geN (tgt := 29) C dX8_copies_8 (by decide) (by omega) (by omega) (fun c8 => ?_) (fun c8 => absurd c8 (by omega))
    exact v_vret C E dX8_copies_29 rfl (hp _ H hO)
  | succ e ih =>
    intro c h hc H hO
    refine v_iload C dX8_copies_3 rfl ?_
    refine v_sipush (v := nI 138) C dX8_copies_5 (by decide) ?_
    refine v_icmp_geN (tgt := 29) C dX8_copies_8 (by decide) (by omega) (by omega) (fun c8 => absurd c8 (by omega)) (fun c8 => ?_)
    refine v_aload_n C dX8_copies_11 rfl ?_
    refine v_iload_n C dX8_copies_12 rfl ?_
    refine v_iload C dX8_copies_13 rfl ?_
    refine v_iaddN C dX8_copies_15 ?_
    refine v_aload_n C dX8_copies_16 rfl ?_
    refine v_iload_n C dX8_copies_17 rfl ?_
    refine v_iload C dX8_copies_18 rfl ?_
    refine v_iaddN C dX8_copies_20 ?_
    refine v_ialdN C dX8_copies_21 (H.ag (k := kf) (by omega) (by omega)) (by omega) (by omega) ?_
    refine v_iastN C dX8_copies_22 (by omega) (H.ag (k := kt) (by omega) (by omega)) (by omega) (by omega) (fun h22 e22 g22 => ?_)
    have H2 := (H.sg (k := kt) (by omega) (by omega) e22 g22).to (mo_cp_s hne)
    refine v_iincN C dX8_copies_23 (by decide) rfl ?_
    refine v_goto (tgt := 3) C dX8_copies_26 (by decide) ?_
    exact ih (c + 1) _ (by omega) H2 (fun q hq => (g22 q (by omega)).trans (hO q hq))
set_option maxHeartbeats 4000000 in
/-- a row is copied -/
theorem c_X8_copies {G : hp_G} {l : Launch} (hl : l.stackTraces = false) {n0 : Nat} {h0 : Nat → Option va_E} {y : Nat} {S : mo_T} {kf kt a b : Nat} (hf : kf < 4) (ht : kt < 4) (hne : kf ≠ kt) (ha : a + 138 ≤ mo_len kf) (hb : b + 138 ≤ mo_len kt) (hS : Mo G h0 y S) : Ct G l yX8_copies cX8_copies 5 none 0 0 0 [.ref (y + (kf + 1)), .int (nI a), .ref (y + (kt + 1)), .int (nI b)] (n0, h0) (hp_vq (fun τ => τ.1 = n0 ∧ Mo G τ.2 y (mo_cp S kf a kt b 138) ∧ ∀ a, (a < y ∨ y + 13 ≤ a) → τ.2 a = h0 a)) := by
  have hbase := hS.base
  refine Ct.of rfl hl (by simp [Value.category]) (Nat.le_of_ble_eq_true rfl) (fun K C E hRm hKl => ?_)
  subst hKl
  refine v_iconst (v := nI 0) C dX8_copies_0 (by decide) ?_
  refine v_istore C dX8_copies_1 (by decide) ?_
  exact loop_X8_copies hf ht hne ha hb C E hbase (fun h H hO => ⟨rfl, rfl, H, hO⟩) 138 0 _ rfl (hS.to (mo_cp_0 S kf a kt b).symm) (fun _ _ => rfl)
set_option maxHeartbeats 8000000 in
/-- save -/
theorem c_X8_save {G : hp_G} {l : Launch} (hl : l.stackTraces = false) {n0 : Nat} {h0 : Nat → Option va_E} {y : Nat} {S : mo_T} (hS : Mo G h0 y S) {M : mk_T} (hg : Gr (S.1 0) M)  : Ct G l yX8_save cX8_save 1 (some .int) 1 0 0 [.ref y] (n0, h0) (hp_iq (fun r τ => r = nI (mk_ct M) ∧ τ.1 = n0 ∧ Mo G τ.2 y (mo_cp (mo_si (mo_si S 3 (nI 0)) 0 (nI 1)) 0 0 2 0 138) ∧ ∀ a, (a < y ∨ y + 13 ≤ a) → τ.2 a = h0 a)) := by
  have hbase := hS.base
  have hhz := hg.hz
  have htr := hg.tr
  have hct := hg.ct
  refine Ct.of rfl hl (by simp [Value.category]) (Nat.le_of_ble_eq_true rfl) (fun K C E hRm hKl => ?_)
  subst hKl
  refine v_aload_n C dX8_save_0 rfl ?_
  refine v_iconst (v := nI 0) C dX8_save_1 (by decide) ?_
  refine v_put C 7 dX8_save_2 wd7_4 hbase hS.o rfl (by decide) ⟨rfl, rfl, rfl, rfl⟩ rfl rfl rfl (Nat.le_of_ble_eq_true rfl) (fun h2 e2 g2 => ?_)
  have Y2 := hS.i3 e2 g2
  have W2 : ∀ a, (a < y ∨ y + 13 ≤ a) → h2 a = _ := fun a ha => g2 a (by omega)
  refine v_aload_n C dX8_save_5 rfl ?_
  refine v_iconst (v := nI 1) C dX8_save_6 (by decide) ?_
  refine v_put C 4 dX8_save_7 wd7_1 hbase Y2.o rfl (by decide) ⟨rfl, rfl, rfl, rfl⟩ rfl rfl rfl (Nat.le_of_ble_eq_true rfl) (fun h7 e7 g7 => ?_)
  have Y7 := Y2.i0 e7 g7
  have W7 : ∀ a, (a < y ∨ y + 13 ≤ a) → h7 a = _ := fun a ha => (g7 a (by omega)).trans (W2 a ha)
  refine v_aload_n C dX8_save_10 rfl ?_
  refine v_get C 0 dX8_save_11 wd6_237 Y7.o rfl (by decide) ⟨rfl, rfl, rfl⟩ rfl ?_
  refine v_iconst (v := nI 0) C dX8_save_14 (by decide) ?_
  refine v_aload_n C dX8_save_15 rfl ?_
  refine v_get C 2 dX8_save_16 wd6_239 Y7.o rfl (by decide) ⟨rfl, rfl, rfl⟩ rfl ?_
  refine v_iconst (v := nI 0) C dX8_save_19 (by decide) ?_
  refine v_callSv C (c_X8_copies hl (kf := 0) (kt := 2) (a := 0) (b := 0) (by decide) (by decide) (by decide) (by first | decide | (show _ ≤ 138; omega)) (by first | decide | (show _ ≤ 138; omega)) Y7) dX8_save_20 mX8_copies wd7_90 rfl rfl (Nat.le_of_ble_eq_true rfl) (hp_rmle hRm (by decide) (by decide)) (Nat.le_of_ble_eq_true rfl) (Nat.le_of_ble_eq_true rfl) (fun n20 h20 q20 => ?_)
  obtain ⟨k20, Y20, W20⟩ := q20
  have z20 := Eq.symm k20
  have z20 : n0 = n20 := z20
  subst z20
  have W20 : ∀ a, (a < y ∨ y + 13 ≤ a) → h20 a = _ := fun a ha => (W20 a ha).trans (W7 a ha)
  refine v_aload_n C dX8_save_23 rfl ?_
  refine v_get C 0 dX8_save_24 wd6_237 Y20.o rfl (by decide) ⟨rfl, rfl, rfl⟩ rfl ?_
  refine v_iconst (v := nI 2) C dX8_save_27 (by decide) ?_
  refine v_ialdN C dX8_save_28 Y20.a0 (by omega) (by decide) ?_
  exact v_iret C E dX8_save_29 rfl ⟨_, rfl, hg.g2, rfl, Y20, W20⟩
/-- what restore makes of it -/
def mo_re (S : mo_T) : mo_T := if S.2 0 = 0 then mo_si S 3 (nI 1) else mo_si (mo_cp (mo_si S 3 (nI 0)) 2 0 0 0 138) 1 (nI 0)
set_option maxHeartbeats 8000000 in
/-- restore -/
theorem c_X8_restore {G : hp_G} {l : Launch} (hl : l.stackTraces = false) {n0 : Nat} {h0 : Nat → Option va_E} {y : Nat} {S : mo_T} (hS : Mo G h0 y S)  : Ct G l yX8_restore cX8_restore 1 (some .int) 1 0 0 [.ref y] (n0, h0) (hp_iq (fun r τ => r = (if S.2 0 = 0 then nI 0 else S.1 2 2) ∧ τ.1 = n0 ∧ Mo G τ.2 y (mo_re S) ∧ ∀ a, (a < y ∨ y + 13 ≤ a) → τ.2 a = h0 a)) := by
  have hbase := hS.base
  refine Ct.of rfl hl (by simp [Value.category]) (Nat.le_of_ble_eq_true rfl) (fun K C E hRm hKl => ?_)
  subst hKl
  refine v_aload_n C dX8_restore_0 rfl ?_
  refine v_aload_n C dX8_restore_1 rfl ?_
  refine v_get C 4 dX8_restore_2 wd7_1 hS.o rfl (by decide) ⟨rfl, rfl, rfl⟩ rfl ?_
  refine v_if_eq (tgt := 12) C dX8_restore_5 (by decide) (fun c5 => ?_) (fun c5 => ?_)
  · refine v_iconst (v := nI 1) C dX8_restore_12 (by decide) ?_
    refine v_callVq C (c_X8_fails hl hS (nI 1)) dX8_restore_13 mX8_fails rfl hS.o rfl wd7_82 rfl rfl (Nat.le_of_ble_eq_true rfl) (hp_rmle hRm (by decide) (by decide)) (Nat.le_of_ble_eq_true rfl) (Nat.le_of_ble_eq_true rfl) (fun r13 n13 h13 q13 => ?_)
    obtain ⟨e13, k13, Y13, W13⟩ := q13
    have z13 := Eq.symm k13
    have z13 : n0 = n13 := z13
    subst z13
    subst e13
    refine v_if_eqB (tgt := 21) C dX8_restore_16 (by decide) (fun c16 => absurd c16 (fun z => z (by decide))) (fun c16 => ?_)
    refine v_iconst (v := nI 0) C dX8_restore_19 (by decide) ?_
    exact v_iret C E dX8_restore_20 rfl ⟨_, rfl, (if_pos c5).symm, rfl, by unfold mo_re; rw [if_pos c5]; exact Y13, W13⟩
  · refine v_iconst (v := nI 0) C dX8_restore_8 (by decide) ?_
    refine v_goto (tgt := 13) C dX8_restore_9 (by decide) ?_
    refine v_callVq C (c_X8_fails hl hS (nI 0)) dX8_restore_13 mX8_fails rfl hS.o rfl wd7_82 rfl rfl (Nat.le_of_ble_eq_true rfl) (hp_rmle hRm (by decide) (by decide)) (Nat.le_of_ble_eq_true rfl) (Nat.le_of_ble_eq_true rfl) (fun r13 n13 h13 q13 => ?_)
    obtain ⟨e13, k13, Y13, W13⟩ := q13
    have z13 := Eq.symm k13
    have z13 : n0 = n13 := z13
    subst z13
    subst e13
    refine v_if_eqB (tgt := 21) C dX8_restore_16 (by decide) (fun c16 => ?_) (fun c16 => absurd c16 (by decide))
    refine v_aload_n C dX8_restore_21 rfl ?_
    refine v_get C 2 dX8_restore_22 wd6_239 Y13.o rfl (by decide) ⟨rfl, rfl, rfl⟩ rfl ?_
    refine v_iconst (v := nI 0) C dX8_restore_25 (by decide) ?_
    refine v_aload_n C dX8_restore_26 rfl ?_
    refine v_get C 0 dX8_restore_27 wd6_237 Y13.o rfl (by decide) ⟨rfl, rfl, rfl⟩ rfl ?_
    refine v_iconst (v := nI 0) C dX8_restore_30 (by decide) ?_
    refine v_callSv C (c_X8_copies hl (kf := 2) (kt := 0) (a := 0) (b := 0) (by decide) (by decide) (by decide) (by first | decide | (show _ ≤ 138; omega)) (by first | decide | (show _ ≤ 138; omega)) Y13) dX8_restore_31 mX8_copies wd7_90 rfl rfl (Nat.le_of_ble_eq_true rfl) (hp_rmle hRm (by decide) (by decide)) (Nat.le_of_ble_eq_true rfl) (Nat.le_of_ble_eq_true rfl) (fun n31 h31 q31 => ?_)
    obtain ⟨k31, Y31, W31⟩ := q31
    have z31 := Eq.symm k31
    have z31 : n0 = n31 := z31
    subst z31
    have W31 : ∀ a, (a < y ∨ y + 13 ≤ a) → h31 a = _ := fun a ha => (W31 a ha).trans (W13 a ha)
    refine v_aload_n C dX8_restore_34 rfl ?_
    refine v_iconst (v := nI 0) C dX8_restore_35 (by decide) ?_
    refine v_put C 5 dX8_restore_36 wd7_2 hbase Y31.o rfl (by decide) ⟨rfl, rfl, rfl, rfl⟩ rfl rfl rfl (Nat.le_of_ble_eq_true rfl) (fun h36 e36 g36 => ?_)
    have Y36 := Y31.i1 e36 g36
    have W36 : ∀ a, (a < y ∨ y + 13 ≤ a) → h36 a = _ := fun a ha => (g36 a (by omega)).trans (W31 a ha)
    refine v_aload_n C dX8_restore_39 rfl ?_
    refine v_get C 0 dX8_restore_40 wd6_237 Y36.o rfl (by decide) ⟨rfl, rfl, rfl⟩ rfl ?_
    refine v_iconst (v := nI 2) C dX8_restore_43 (by decide) ?_
    refine v_ialdN C dX8_restore_44 Y36.a0 (by omega) (by decide) ?_
    exact v_iret C E dX8_restore_45 rfl ⟨_, rfl, (if_neg c5).symm, rfl, by unfold mo_re; rw [if_neg c5]; exact Y36, W36⟩

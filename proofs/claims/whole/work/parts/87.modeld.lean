/-! ===== THE MODEL: reading ===== -/
def mo_hr (S : mo_T) (p len : Nat) : Int32 := if p < len then S.1 4 p else -1
def mo_sk (S : mo_T) (p len : Nat) (c : Int32) : mo_T := if mo_hr S p len = c then mo_si S 10 (nI (p + 1)) else S
def mo_gw (M : mk_T) (t ot on : Int32) (c : Nat) : Int32 := match c with
  | 0 => nI 0
  | c + 1 => if mk_ar M 7 c = on then mo_gw M t ot on c + (if mk_ar M 5 c = ot ∧ mk_ar M 6 c = t then mk_ar M 8 c else if mk_ar M 6 c = ot ∧ mk_ar M 5 c = t then -mk_ar M 8 c else nI 0) else mo_gw M t ot on c
set_option maxHeartbeats 8000000 in
/-- the sign here -/
theorem c_X8_here {G : hp_G} {l : Launch} (hl : l.stackTraces = false) {n0 : Nat} {h0 : Nat → Option va_E} {y : Nat} {S : mo_T} (hS : Mo G h0 y S) {p len : Nat} (hp : S.2 10 = nI p) (hlen : S.2 4 = nI len) (hpl : p ≤ len) (h60 : len ≤ 60) : Ct G l yX8_here cX8_here 1 (some .int) 0 0 0 [.ref y] (n0, h0) (hp_ri (mo_hr S p len) (n0, h0)) := by
  have hbase := hS.base
  refine Ct.of rfl hl (by simp [Value.category]) (Nat.le_of_ble_eq_true rfl) (fun K C E hRm hKl => ?_)
  subst hKl
  refine v_aload_n C dX8_here_0 rfl ?_
  refine v_get C 21 dX8_here_1 wd7_18 hS.o rfl (by decide) ⟨rfl, rfl, rfl⟩ rfl ?_
  rw [hp]
  refine v_aload_n C dX8_here_4 rfl ?_
  refine v_get C 9 dX8_here_5 wd7_6 hS.o rfl (by decide) ⟨rfl, rfl, rfl⟩ rfl ?_
  rw [hlen]
  refine v_icmp_geN (tgt := 23) C dX8_here_8 (by decide) (by omega) (by omega) (fun c8 => ?_) (fun c8 => ?_)
  · refine v_iconst (v := (-1)) C dX8_here_23 (by decide) ?_
    exact v_iret C E dX8_here_24 rfl (hp_rib (by unfold mo_hr; first | exact (if_pos (by omega)).symm | exact (if_neg (by omega)).symm | (rw [if_pos (by omega)]) | (rw [if_neg (by omega)])))
  · refine v_aload_n C dX8_here_11 rfl ?_
    refine v_get C 8 dX8_here_12 wd7_5 hS.o rfl (by decide) ⟨rfl, rfl, rfl⟩ rfl ?_
    refine v_aload_n C dX8_here_15 rfl ?_
    refine v_get C 21 dX8_here_16 wd7_18 hS.o rfl (by decide) ⟨rfl, rfl, rfl⟩ rfl ?_
    rw [hp]
    refine v_ialdN C dX8_here_19 hS.a4 (by omega) (by decide) ?_
    refine v_goto (tgt := 24) C dX8_here_20 (by decide) ?_
    exact v_iret C E dX8_here_24 rfl (hp_rib (by unfold mo_hr; first | exact (if_pos (by omega)).symm | exact (if_neg (by omega)).symm | (rw [if_pos (by omega)]) | (rw [if_neg (by omega)])))
set_option maxHeartbeats 8000000 in
/-- a sign is skipped -/
theorem c_X8_skips {G : hp_G} {l : Launch} (hl : l.stackTraces = false) {n0 : Nat} {h0 : Nat → Option va_E} {y : Nat} {S : mo_T} (hS : Mo G h0 y S) {p len : Nat} (hp : S.2 10 = nI p) (hlen : S.2 4 = nI len) (hpl : p ≤ len) (h60 : len ≤ 60) (c : Int32) : Ct G l yX8_skips cX8_skips 2 (some .boolean) 1 0 0 [.ref y, .int c] (n0, h0) (hp_iq (fun r τ => r = hp_b (mo_hr S p len = c) ∧ τ.1 = n0 ∧ Mo G τ.2 y (mo_sk S p len c) ∧ ∀ a, (a < y ∨ y + 13 ≤ a) → τ.2 a = h0 a)) := by
  have hbase := hS.base
  refine Ct.of rfl hl (by simp [Value.category]) (Nat.le_of_ble_eq_true rfl) (fun K C E hRm hKl => ?_)
  subst hKl
  refine v_aload_n C dX8_skips_0 rfl ?_
  refine v_callVi C (c_X8_here hl hS hp hlen hpl h60) dX8_skips_1 mX8_here rfl hS.o rfl wd8_168 rfl rfl (Nat.le_of_ble_eq_true rfl) (hp_rmle hRm (by decide) (by decide)) (Nat.le_of_ble_eq_true rfl) (Nat.le_of_ble_eq_true rfl) ?_
  refine v_iload_n C dX8_skips_4 rfl ?_
  refine v_icmp_eq (tgt := 10) C dX8_skips_5 (by decide) (fun c5 => ?_) (fun c5 => ?_)
  · refine v_aload_n C dX8_skips_10 rfl ?_
    refine v_dup C dX8_skips_11 rfl ?_
    refine v_get C 21 dX8_skips_12 wd7_18 hS.o rfl (by decide) ⟨rfl, rfl, rfl⟩ rfl ?_
    rw [hp]
    refine v_iconst (v := nI 1) C dX8_skips_15 (by decide) ?_
    refine v_iaddN C dX8_skips_16 ?_
    refine v_put C 21 dX8_skips_17 wd7_18 hbase hS.o rfl (by decide) ⟨rfl, rfl, rfl, rfl⟩ rfl rfl rfl (Nat.le_of_ble_eq_true rfl) (fun h17 e17 g17 => ?_)
    have Y17 := hS.i10 e17 g17
    have W17 : ∀ a, (a < y ∨ y + 13 ≤ a) → h17 a = _ := fun a ha => g17 a (by omega)
    refine v_iconst (v := nI 1) C dX8_skips_20 (by decide) ?_
    exact v_zret C E dX8_skips_21 rfl rfl ⟨_, rfl, (hp_b_t c5).symm, rfl, Y17.to (if_pos c5).symm, W17⟩
  · refine v_iconst (v := nI 0) C dX8_skips_8 (by decide) ?_
    exact v_zret C E dX8_skips_9 rfl rfl ⟨_, rfl, (hp_b_f c5).symm, rfl, hS.to (if_neg c5).symm, fun _ _ => rfl⟩

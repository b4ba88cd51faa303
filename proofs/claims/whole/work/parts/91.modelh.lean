/-! ===== THE MODEL: a way is laid ===== -/
set_option maxHeartbeats 8000000 in
/-- a way is laid -/
theorem c_X8_laysWay {G : hp_G} {l : Launch} (hl : l.stackTraces = false) {n0 : Nat} {h0 : Nat → Option va_E} {y : Nat} {S : mo_T} (hS : Mo G h0 y S) {M : mk_T} (hg : Gr (S.1 0) M) {d way : Nat} (hd : d < 6) (hw : way < 1296) : Ct G l yX8_laysWay cX8_laysWay 7 (some .boolean) 2 0 0 [.ref y, .int (nI d), .int (nI way)] (n0, h0) (hp_iq (fun r τ => r = hp_b ((mo_lw M d (mk_hz M) way 0 (S.1 6)).1 = true) ∧ τ.1 = n0 ∧ Mo G τ.2 y (mo_sr S 6 (mo_lw M d (mk_hz M) way 0 (S.1 6)).2) ∧ ∀ a, (a < y ∨ y + 13 ≤ a) → τ.2 a = h0 a)) := by
  have hbase := hS.base
  have hhz := hg.hz
  have htr := hg.tr
  have hct := hg.ct
  refine Ct.of rfl hl (by simp [Value.category]) (Nat.le_of_ble_eq_true rfl) (fun K C E hRm hKl => ?_)
  subst hKl
  refine v_iload_n C dX8_laysWay_0 rfl ?_
  refine v_istore_n C dX8_laysWay_1 (by decide) ?_
  refine v_iconst (v := nI 0) C dX8_laysWay_2 (by decide) ?_
  refine v_istore C dX8_laysWay_3 (by decide) ?_
  refine v_aload_n C dX8_laysWay_5 rfl ?_
  refine v_get C 0 dX8_laysWay_6 wd6_237 hS.o rfl (by decide) ⟨rfl, rfl, rfl⟩ rfl ?_
  refine v_iconst (v := nI 0) C dX8_laysWay_9 (by decide) ?_
  refine v_ialdN C dX8_laysWay_10 hS.a0 (by omega) (by decide) ?_
  rw [hg.g0]
  refine v_iconst (v := nI 1) C dX8_laysWay_11 (by decide) ?_
  refine v_isub C dX8_laysWay_12 ?_
  refine v_istore C dX8_laysWay_13 (by decide) ?_
  exact loop_X8_laysWay (S := S) hg hbase hd C E hRm hl (fun h H hO => ⟨_, rfl, rfl, rfl, H, hO⟩) (mk_hz M) way 0 _ _ _ rfl (Nat.le_refl _) hw (by decide) rfl (hS.to (mo_sr_eq S 6)) (fun _ _ => rfl)

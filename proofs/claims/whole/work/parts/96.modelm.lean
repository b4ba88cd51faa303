/-! ===== THE MODEL: the least margins ===== -/
theorem p6_le : ∀ c, c ≤ 4 → 6 ^ c ≤ 1296 := by decide
def ls_f (M : mk_T) (d : Nat) (T B : Nat → Int32) : ls_T := ls_r M d (6 ^ mk_hz M) 0 (-1, T, B)
def ls_F (S : mo_T) (M : mk_T) (d : Nat) : mo_T := mo_si (mo_si S 8 (nI (ld_n M d (mk_hz M)))) 9 (nI (ld_a M d (mk_tr M)))
def ls_v (S : mo_T) (M : mk_T) (d : Nat) : Int32 := if ld_a M d (mk_tr M) < ld_n M d (mk_hz M) then -1 else (ls_f M d (S.1 6) (S.1 7)).1
def ls_S (S : mo_T) (M : mk_T) (d : Nat) : mo_T := if ld_a M d (mk_tr M) < ld_n M d (mk_hz M) then ls_F S M d else mo_s67 (ls_F S M d) (ls_f M d (S.1 6) (S.1 7)).2.1 (ls_f M d (S.1 6) (S.1 7)).2.2
set_option maxHeartbeats 4000000 in
theorem loop5_X8_least {G : hp_G} {K : hp_C} {n0 : Nat} {h0 : Nat → Option va_E} {y : Nat} {S : mo_T} (hS : Mo G h0 y S) {M : mk_T} (hg : Gr (S.1 0) M) {d : Nat} (C : hp_Cx G K MX8_least) (hk : V G K MX8_least 0 0 (n0, h0) 134 [some (.ref y), some (.int (nI d)), some (.int (nI (6 ^ mk_hz M))), none, none, none, none] []) : ∀ (e c : Nat), c + e = mk_hz M → V G K MX8_least 0 0 (n0, h0) 113 [some (.ref y), some (.int (nI d)), some (.int (nI (6 ^ c))), some (.int (nI c)), none, none, none] [] := by
  have hhz := hg.hz
  intro e
  induction e with
  | zero =>
    intro c hc
    have e : c = mk_hz M := by omega
    subst e
    refine v_iload_n C dX8_least_113 rfl ?_
    refine v_aload_n C dX8_least_114 rfl ?_
    refine v_get C 0 dX8_least_115 wd6_237 hS.o rfl (by decide) ⟨rfl, rfl, rfl⟩ rfl ?_
    refine v_iconst (v := nI 0) C dX8_least_118 (by decide) ?_
    refine v_ialdN C dX8_least_119 hS.a0 (by omega) (by decide) ?_
    rw [hg.g0]
    refine v_icmp_geN (tgt := 134) C dX8_least_120 (by decide) (by omega) (by omega) (fun c120 => ?_) (fun c120 => absurd c120 (by omega))
    refine v_drop 3 ?_
    exact hk
  | succ e ih =>
    intro c hc
    refine v_iload_n C dX8_least_113 rfl ?_
    refine v_aload_n C dX8_least_114 rfl ?_
    refine v_get C 0 dX8_least_115 wd6_237 hS.o rfl (by decide) ⟨rfl, rfl, rfl⟩ rfl ?_
    refine v_iconst (v := nI 0) C dX8_least_118 (by decide) ?_
    refine v_ialdN C dX8_least_119 hS.a0 (by omega) (by decide) ?_
    rw [hg.g0]
    refine v_icmp_geN (tgt := 134) C dX8_least_120 (by decide) (by omega) (by omega) (fun c120 => absurd c120 (by omega)) (fun c120 => ?_)
    refine v_iload_n C dX8_least_123 rfl ?_
    refine v_bipush (v := nI 6) C dX8_least_124 (by decide) ?_
    refine v_imulN C dX8_least_126 ?_
    refine v_istore_n C dX8_least_127 (by decide) ?_
    refine v_iincN C dX8_least_128 (by decide) rfl ?_
    refine v_goto (tgt := 113) C dX8_least_131 (by decide) ?_
    exact ih (c + 1) (by omega)
set_option maxHeartbeats 8000000 in
/-- the least margins -/
theorem c_X8_least {G : hp_G} {l : Launch} (hl : l.stackTraces = false) {n0 : Nat} {h0 : Nat → Option va_E} {y : Nat} {S : mo_T} (hS : Mo G h0 y S) {M : mk_T} (hg : Gr (S.1 0) M) {d : Nat} (hd : d < 6) : Ct G l yX8_least cX8_least 7 (some .int) 3 0 0 [.ref y, .int (nI d)] (n0, h0) (hp_iq (fun r τ => r = ls_v S M d ∧ τ.1 = n0 ∧ Mo G τ.2 y (ls_S S M d) ∧ ∀ a, (a < y ∨ y + 13 ≤ a) → τ.2 a = h0 a)) := by
  have hbase := hS.base
  have hhz := hg.hz
  have htr := hg.tr
  have hct := hg.ct
  have hle1 := ld_n_le M d (mk_hz M)
  have hle2 := ld_a_le M d (mk_tr M)
  refine Ct.of rfl hl (by simp [Value.category]) (Nat.le_of_ble_eq_true rfl) (fun K C E hRm hKl => ?_)
  subst hKl
  refine v_aload_n C dX8_least_0 rfl ?_
  refine v_iconst (v := nI 0) C dX8_least_1 (by decide) ?_
  refine v_put C 16 dX8_least_2 wd7_13 hbase hS.o rfl (by decide) ⟨rfl, rfl, rfl, rfl⟩ rfl rfl rfl (Nat.le_of_ble_eq_true rfl) (fun h2 e2 g2 => ?_)
  have Y2 := hS.i8 e2 g2
  have W2 : ∀ a, (a < y ∨ y + 13 ≤ a) → h2 a = _ := fun a ha => g2 a (by omega)
  refine v_aload_n C dX8_least_5 rfl ?_
  refine v_iconst (v := nI 0) C dX8_least_6 (by decide) ?_
  refine v_put C 17 dX8_least_7 wd7_14 hbase Y2.o rfl (by decide) ⟨rfl, rfl, rfl, rfl⟩ rfl rfl rfl (Nat.le_of_ble_eq_true rfl) (fun h7 e7 g7 => ?_)
  have Y7 := Y2.i9 e7 g7
  have W7 : ∀ a, (a < y ∨ y + 13 ≤ a) → h7 a = _ := fun a ha => (g7 a (by omega)).trans (W2 a ha)
  refine v_iconst (v := nI 0) C dX8_least_10 (by decide) ?_
  refine v_istore_n C dX8_least_11 (by decide) ?_
  have XA := Y7.to (show mo_si (mo_si S 8 (nI 0)) 9 (nI 0) = mo_si (mo_si S 9 (nI 0)) 8 (nI (ld_n M d 0)) from Prod.ext rfl (mo_uc S.2 (show (8 : Nat) ≠ 9 by decide) _ _))
  refine loop1_X8_least (S := mo_si S 9 (nI 0)) (M := M) hg hbase hd C hRm hl (fun h1 Y1 W1 => ?_) (mk_hz M) 0 _ (Nat.zero_add _) XA W7
  refine v_iconst (v := nI 0) C dX8_least_51 (by decide) ?_
  refine v_istore_n C dX8_least_52 (by decide) ?_
  have XB := Y1.to (show mo_si (mo_si S 9 (nI 0)) 8 (nI (ld_n M d (mk_hz M))) = mo_si (mo_si S 8 (nI (ld_n M d (mk_hz M)))) 9 (nI (ld_a M d 0)) from Prod.ext rfl (mo_uc S.2 (show (9 : Nat) ≠ 8 by decide) _ _))
  refine loop2_X8_least (S := mo_si S 8 (nI (ld_n M d (mk_hz M)))) (M := M) hg hbase hd C hRm hl (fun h2 Y2 W2 => ?_) (mk_tr M) 0 _ (Nat.zero_add _) XB W1
  refine v_aload_n C dX8_least_96 rfl ?_
  refine v_get (v := .int (nI (ld_a M d (mk_tr M)))) C 17 dX8_least_97 wd7_14 Y2.o rfl (by decide) ⟨rfl, rfl, rfl⟩ rfl ?_
  refine v_aload_n C dX8_least_100 rfl ?_
  refine v_get (v := .int (nI (ld_n M d (mk_hz M)))) C 16 dX8_least_101 wd7_13 Y2.o rfl (by decide) ⟨rfl, rfl, rfl⟩ rfl ?_
  refine v_icmp_geN (tgt := 109) C dX8_least_104 (by decide) (by omega) (by omega) (fun c104 => ?_) (fun c104 => ?_)
  · refine v_iconst (v := nI 1) C dX8_least_109 (by decide) ?_
    refine v_istore_n C dX8_least_110 (by decide) ?_
    refine v_iconst (v := nI 0) C dX8_least_111 (by decide) ?_
    refine v_istore_n C dX8_least_112 (by decide) ?_
    refine loop5_X8_least (S := ls_F S M d) (M := M) Y2 hg C ?_ (mk_hz M) 0 (Nat.zero_add _)
    refine v_iconst (v := (-1)) C dX8_least_134 (by decide) ?_
    refine v_istore_n C dX8_least_135 (by decide) ?_
    refine v_iconst (v := nI 0) C dX8_least_136 (by decide) ?_
    refine v_istore C dX8_least_137 (by decide) ?_
    exact loop3_X8_least (S := ls_F S M d) (M := M) (Z := ls_f M d (S.1 6) (S.1 7)) hg hbase hd (p6_le _ hhz) C E hRm hl (fun h4 Y4 W4 => ⟨_, rfl, (if_neg (by omega)).symm, rfl, Y4.to (if_neg (by omega)).symm, W4⟩) (6 ^ mk_hz M) 0 (-1, S.1 6, S.1 7) _ (Nat.zero_add _) rfl (Y2.to (mo_s67_eq _)) W2
  · refine v_iconst (v := (-1)) C dX8_least_107 (by decide) ?_
    exact v_iret C E dX8_least_108 rfl ⟨_, rfl, (if_pos (by omega)).symm, rfl, Y2.to (if_pos (by omega)).symm, W2⟩

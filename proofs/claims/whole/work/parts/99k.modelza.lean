/-! ===== THE MODEL: execute ===== -/
/-- what execute answers and leaves: R is what the text says -/
def Xq (R : tm_T) (M : mk_T) (K : Nat → mk_T) (ch : Nat) (hs : Int32) (Z : mk_T) (t : Nat → Nat) (P : wl_T) (fl fd : Int32) (r : Int32) (S2 : mo_T) : Prop := (¬ R.1 = true ∧ r = nI 0 ∧ S2.2 3 = nI 1 ∧ Md S2 M K ch hs Z t 0 P (nI R.2.2.1) fd) ∨ (R.1 = true ∧ ((∃ i, xm_f R.2.2.2 M R.2.1 0 = some i ∧ r = nI 0 ∧ S2.2 3 = nI 2 ∧ Md S2 M K ch hs Z t 0 P fl (nI i)) ∨ (xm_f R.2.2.2 M R.2.1 0 = none ∧ r = nI R.2.1 ∧ S2.2 3 = nI 0 ∧ Md S2 (xm_M R.2.2.2 M R.2.1) (kp_K K ch M) (kp_n ch) hs Z t 0 P fl fd)))
theorem Gr.cp {S : mo_T} {kf kt : Nat} {M : mk_T} (h : Gr (S.1 kf) M) : Gr ((mo_cp S kf 0 kt 0 138).1 kt) M := h.cg (fun j hj => by
  show (if kt = kt then (fun i => if 0 ≤ i ∧ i < 0 + 138 then S.1 kf (0 + (i - 0)) else S.1 kt i) else S.1 kt) j = S.1 kf j
  rw [if_pos rfl]
  show (if 0 ≤ j ∧ j < 0 + 138 then S.1 kf (0 + (j - 0)) else S.1 kt j) = S.1 kf j
  rw [if_pos (by omega)]
  exact congrArg (S.1 kf) (by omega))
theorem Tp.z {S : mo_T} (h : S.2 4 = nI 0) (t : Nat → Nat) : Tp S t 0 := ⟨h, Nat.zero_le _, fun i hi => absurd hi (Nat.not_lt_zero i)⟩
set_option maxHeartbeats 8000000 in
/-- execute -/
theorem c_X8_execute {G : hp_G} {l : Launch} (hl : l.stackTraces = false) {n0 : Nat} {h0 : Nat → Option va_E} {y : Nat} {S : mo_T} (hS : Mo G h0 y S) {M : mk_T} {KL : Nat → mk_T} {ch : Nat} {hs : Int32} {Z : mk_T} {t : Nat → Nat} {n : Nat} {P : wl_T} {fl fd : Int32} (D : Md S M KL ch hs Z t n P fl fd) (hKc : Kc G h0) (hcmd : (tm_r (sg t n) n 31 0 0 (S.1 11)).1 = true → (tm_r (sg t n) n 31 0 0 (S.1 11)).2.1 ≤ 30 ∧ ∀ i, i < (tm_r (sg t n) n 31 0 0 (S.1 11)).2.1 → ∃ c, c < 8 ∧ (tm_r (sg t n) n 31 0 0 (S.1 11)).2.2.2 (6 * i) = nI c) (hall : (tm_r (sg t n) n 31 0 0 (S.1 11)).1 = true → ∀ i, i < (tm_r (sg t n) n 31 0 0 (S.1 11)).2.1 → (∀ j, j < i → xm_o (tm_r (sg t n) n 31 0 0 (S.1 11)).2.2.2 M j = nI 0) → dw_ok (xm_M (tm_r (sg t n) n 31 0 0 (S.1 11)).2.2.2 M i) ∧ mo_bd (xm_M (tm_r (sg t n) n 31 0 0 (S.1 11)).2.2.2 M i)) : Ct G l yX8_execute cX8_execute 4 (some .int) 8 0 0 [.ref y] (n0, h0) (hp_iq (fun r τ => τ.1 = n0 ∧ (∃ S2, Mo G τ.2 y S2 ∧ Xq (tm_r (sg t n) n 31 0 0 (S.1 11)) M KL ch hs Z t P fl fd r S2) ∧ ∀ a, (a < y ∨ y + 13 ≤ a) → τ.2 a = h0 a)) := by
  have hbase := hS.base
  obtain ⟨R, hR⟩ : ∃ R, R = (tm_r (sg t n) n 31 0 0 (S.1 11)) := ⟨_, rfl⟩
  rw [← hR] at hcmd hall ⊢
  obtain ⟨hgr, hkp, hhs, hz, hwi, hI, hln, hfl, hfd⟩ := D
  have hO0 : ∀ a, (a < y ∨ y + 13 ≤ a) → h0 a = h0 a := fun _ _ => rfl
  refine Ct.of rfl hl (by simp [Value.category]) (Nat.le_of_ble_eq_true rfl) (fun K C E hRm hKl => ?_)
  subst hKl
  refine v_aload_n C dX8_execute_0 rfl ?_
  refine v_callVq C (c_X8_isText hl hS hI hKc) dX8_execute_1 mX8_isText rfl hS.o rfl wd8_156 rfl rfl (Nat.le_of_ble_eq_true rfl) (hp_rmle hRm (by decide) (by decide)) (Nat.le_of_ble_eq_true rfl) (Nat.le_of_ble_eq_true rfl) (fun r1 n1 h1 q1 => ?_)
  rw [← hR] at q1
  obtain ⟨e1, k1, Y1, W1⟩ := q1
  have z1 := Eq.symm k1
  have z1 : n0 = n1 := z1
  subst z1
  subst e1
  have W1 : ∀ a, (a < y ∨ y + 13 ≤ a) → h1 a = h0 a := W1
  refine v_istore_n C dX8_execute_4 (by decide) ?_
  refine v_iload_n C dX8_execute_5 rfl ?_
  refine v_if_neB (tgt := 17) C dX8_execute_6 (by decide) (fun c6 => ?_) (fun c6 => ?_)
  · refine v_aload_n C dX8_execute_17 rfl ?_
    refine v_iconst (v := nI 0) C dX8_execute_18 (by decide) ?_
    refine v_put C 9 dX8_execute_19 wd7_6 hbase Y1.o rfl (by decide) ⟨rfl, rfl, rfl, rfl⟩ rfl rfl rfl (Nat.le_of_ble_eq_true rfl) (fun h19 e19 g19 => ?_)
    have Y19 := Y1.i4 e19 g19
    have W19 : ∀ a, (a < y ∨ y + 13 ≤ a) → h19 a = h0 a := fun a ha => (g19 a (by omega)).trans (W1 a ha)
    refine v_aload_n C dX8_execute_22 rfl ?_
    refine v_iload_n C dX8_execute_23 rfl ?_
    refine v_if_eqB (tgt := 31) C dX8_execute_24 (by decide) (fun c24 => absurd c24 (fun z => z c6)) (fun c24 => ?_)
    refine v_iconst (v := nI 0) C dX8_execute_27 (by decide) ?_
    refine v_goto (tgt := 32) C dX8_execute_28 (by decide) ?_
    refine v_callVq C (c_X8_fails hl Y19 (nI 0)) dX8_execute_32 mX8_fails rfl Y19.o rfl wd7_82 rfl rfl (Nat.le_of_ble_eq_true rfl) (hp_rmle hRm (by decide) (by decide)) (Nat.le_of_ble_eq_true rfl) (Nat.le_of_ble_eq_true rfl) (fun r32 n32 h32 q32 => ?_)
    obtain ⟨e32, k32, Y32, W32⟩ := q32
    have z32 := Eq.symm k32
    have z32 : n0 = n32 := z32
    subst z32
    subst e32
    have W32 : ∀ a, (a < y ∨ y + 13 ≤ a) → h32 a = _ := fun a ha => (W32 a ha).trans (W19 a ha)
    refine v_if_eqB (tgt := 40) C dX8_execute_35 (by decide) (fun c35 => ?_) (fun c35 => absurd c35 (by decide))
    refine v_aload_n C dX8_execute_40 rfl ?_
    refine v_get C 0 dX8_execute_41 wd6_237 Y32.o rfl (by decide) ⟨rfl, rfl, rfl⟩ rfl ?_
    refine v_iconst (v := nI 0) C dX8_execute_44 (by decide) ?_
    refine v_aload_n C dX8_execute_45 rfl ?_
    refine v_get C 3 dX8_execute_46 wd7_0 Y32.o rfl (by decide) ⟨rfl, rfl, rfl⟩ rfl ?_
    refine v_iconst (v := nI 0) C dX8_execute_49 (by decide) ?_
    refine v_callSv C (c_X8_copies hl (kf := 0) (kt := 3) (a := 0) (b := 0) (by decide) (by decide) (by decide) (by decide) (by decide) Y32) dX8_execute_50 mX8_copies wd7_90 rfl rfl (Nat.le_of_ble_eq_true rfl) (hp_rmle hRm (by decide) (by decide)) (Nat.le_of_ble_eq_true rfl) (Nat.le_of_ble_eq_true rfl) (fun n50 h50 q50 => ?_)
    obtain ⟨k50, Y50, W50⟩ := q50
    have z50 := Eq.symm k50
    have z50 : n0 = n50 := z50
    subst z50
    have W50 : ∀ a, (a < y ∨ y + 13 ≤ a) → h50 a = h0 a := fun a ha => (W50 a ha).trans (W32 a ha)
    refine v_aload_n C dX8_execute_53 rfl ?_
    refine v_iconst (v := nI 1) C dX8_execute_54 (by decide) ?_
    refine v_put C 6 dX8_execute_55 wd7_3 hbase Y50.o rfl (by decide) ⟨rfl, rfl, rfl, rfl⟩ rfl rfl rfl (Nat.le_of_ble_eq_true rfl) (fun h55 e55 g55 => ?_)
    have Y55 := Y50.i2 e55 g55
    have W55 : ∀ a, (a < y ∨ y + 13 ≤ a) → h55 a = h0 a := fun a ha => (g55 a (by omega)).trans (W50 a ha)
    refine v_iconst (v := nI 0) C dX8_execute_58 (by decide) ?_
    refine v_istore_n C dX8_execute_59 (by decide) ?_
    refine v_iconst (v := nI 0) C dX8_execute_60 (by decide) ?_
    refine v_istore_n C dX8_execute_61 (by decide) ?_
    have x3 : Gr ((mo_cp (mo_si (mo_si (mo_pr S R.2.2.1 R.2.1 R.2.2.2) 4 (nI 0)) 3 (nI 0)) 0 0 3 0 138).1 3) M := Gr.cp (show Gr ((mo_si (mo_si (mo_pr S R.2.2.1 R.2.1 R.2.2.2) 4 (nI 0)) 3 (nI 0)).1 0) M from hgr)
    obtain ⟨Sx, hSx⟩ : ∃ Sx, Sx = mo_si (mo_cp (mo_si (mo_si (mo_pr S R.2.2.1 R.2.1 R.2.2.2) 4 (nI 0)) 3 (nI 0)) 0 0 3 0 138) 2 (nI 1) := ⟨_, rfl⟩
    rw [← hSx] at Y55
    have x0 : Gr (Sx.1 0) M := by rw [hSx]; exact hgr
    have x33 : Gr (Sx.1 3) M := by rw [hSx]; exact x3
    have x11 : Sx.1 11 = R.2.2.2 := by rw [hSx]; rfl
    have xr1 : Sx.1 1 = S.1 1 := by rw [hSx]; rfl
    have xr2 : Sx.1 2 = S.1 2 := by rw [hSx]; rfl
    have xr5 : Sx.1 5 = S.1 5 := by rw [hSx]; rfl
    have i1 : Sx.2 1 = nI ch := by rw [hSx]; exact hkp.1
    have i2 : ¬ Sx.2 2 = 0 := by rw [hSx]; exact (show ¬ nI 1 = 0 by decide)
    have i11 : Sx.2 11 = nI R.2.1 := by rw [hSx]; rfl
    have i3 : Sx.2 3 = nI 0 := by rw [hSx]; rfl
    have i0 : Sx.2 0 = hs := by rw [hSx]; exact hhs
    have i4 : Sx.2 4 = nI 0 := by rw [hSx]; rfl
    have i5 : Sx.2 5 = fl := by rw [hSx]; exact hfl
    have i6 : Sx.2 6 = fd := by rw [hSx]; exact hfd
    have i7 : Sx.2 7 = S.2 7 := by rw [hSx]; rfl
    obtain ⟨hcnt, hcm⟩ := hcmd c6
    refine loop_X8_execute (S := Sx) (M := M) (ch := ch) (cnt := R.2.1) (Z := xm_f (Sx.1 11) M R.2.1 0) i1 hkp.2.1 i2 i11 (by omega) (by rw [x11]; exact hall c6) (by rw [x11]; exact hcm) hbase C hRm hl (fun hz0 h9 S9 g9 Y9 wk9 t9 G9 W9 => ?_) (fun i hzi hi9 h9 S9 cd Y9 wk9 t9 hcd W9 => ?_) R.2.1 0 _ Sx (nI 0) (Nat.zero_add _) rfl (fun j hj => absurd hj (Nat.not_lt_zero j)) Y55 (mo_wk.rf Sx) i3 x0 W55
    · have y11 : S9.2 11 = nI R.2.1 := (wk9.2 11 (by decide) (by decide)).trans i11
      have y1 : S9.2 1 = nI ch := (wk9.2 1 (by decide) (by decide)).trans i1
      have yr1 : S9.1 1 = S.1 1 := (wk9.1 1 (by decide) (by decide)).trans xr1
      have yr2 : S9.1 2 = S.1 2 := (wk9.1 2 (by decide) (by decide)).trans xr2
      have yr5 : S9.1 5 = S.1 5 := (wk9.1 5 (by decide) (by decide)).trans xr5
      have yg3 : Gr (S9.1 3) M := by rw [wk9.1 3 (by decide) (by decide)]; exact x33
      have y0 : S9.2 0 = hs := (wk9.2 0 (by decide) (by decide)).trans i0
      have y4 : S9.2 4 = nI 0 := (wk9.2 4 (by decide) (by decide)).trans i4
      have y5 : S9.2 5 = fl := (wk9.2 5 (by decide) (by decide)).trans i5
      have y6 : S9.2 6 = fd := (wk9.2 6 (by decide) (by decide)).trans i6
      have y7 : S9.2 7 = S.2 7 := (wk9.2 7 (by decide) (by decide)).trans i7
      have yk : Kp S9 KL ch := hkp.eq yr1 (y1.trans hkp.1.symm)
      have yl : Ln S9 P := ⟨y7.trans hln.1, hln.2.1, by rw [yr5]; exact hln.2.2⟩
      have yz : ¬ hs = 0 → Gr (S9.1 2) Z := fun z => by rw [yr2]; exact hz z
      refine v_aload_n C dX8_execute_99 rfl ?_
      refine v_iconst (v := nI 0) C dX8_execute_100 (by decide) ?_
      refine v_put C 6 dX8_execute_101 wd7_3 hbase Y9.o rfl (by decide) ⟨rfl, rfl, rfl, rfl⟩ rfl rfl rfl (Nat.le_of_ble_eq_true rfl) (fun h101 e101 g101 => ?_)
      have Y101 := Y9.i2 e101 g101
      have W101 : ∀ a, (a < y ∨ y + 13 ≤ a) → h101 a = h0 a := fun a ha => (g101 a (by omega)).trans (W9 a ha)
      refine v_aload_n C dX8_execute_104 rfl ?_
      refine v_get C 7 dX8_execute_105 wd7_4 Y101.o rfl (by decide) ⟨rfl, rfl, rfl⟩ rfl ?_
      rw [show (mo_si S9 2 (nI 0)).2 3 = nI 0 from t9]
      refine v_if_le (tgt := 144) C dX8_execute_108 (by decide) (fun c108 => ?_) (fun c108 => absurd c108 (by decide))
      refine v_aload_n C dX8_execute_144 rfl ?_
      refine v_aload_n C dX8_execute_145 rfl ?_
      refine v_get C 3 dX8_execute_146 wd7_0 Y101.o rfl (by decide) ⟨rfl, rfl, rfl⟩ rfl ?_
      refine v_callVv C (c_X8_keeps3 hl Y101 (ch := ch) y1 hkp.2.1) dX8_execute_149 mX8_keeps rfl Y101.o rfl wd7_86 rfl rfl (Nat.le_of_ble_eq_true rfl) (hp_rmle hRm (by decide) (by decide)) (Nat.le_of_ble_eq_true rfl) (Nat.le_of_ble_eq_true rfl) (fun n149 h149 q149 => ?_)
      obtain ⟨k149, Y149, W149⟩ := q149
      have z149 := Eq.symm k149
      have z149 : n0 = n149 := z149
      subst z149
      have W149 : ∀ a, (a < y ∨ y + 13 ≤ a) → h149 a = h0 a := fun a ha => (W149 a ha).trans (W101 a ha)
      have w2 : (mo_si S9 2 (nI 0)).2 2 = 0 := mo_si_3 S9 2 (nI 0)
      obtain ⟨kr, kn⟩ := mo_kp_s (mo_si S9 2 (nI 0)) (kf := 3) (ch := ch) w2
      have z11 : (mo_kp (mo_si S9 2 (nI 0)) 3 ch).2 11 = nI R.2.1 := (kn 11 (by decide) (by decide)).trans y11
      have rs := mo_kp_rs (mo_si S9 2 (nI 0)) (kf := 3) (ch := ch) w2
      have D9 : Md (mo_si S9 2 (nI 0)) (xm_M R.2.2.2 M R.2.1) KL ch hs Z t 0 P fl fd := ⟨by rw [← x11]; exact G9, yk.eq rfl rfl, y0, yz, w2, Tp.z y4 t, yl, y5, y6⟩
      have k9 : Kp (mo_si S9 2 (nI 0)) KL ch := yk.eq rfl rfl
      have Z149 := Y149.to (mo_si_eq z11)
      refine v_aload_n C dX8_execute_152 rfl ?_
      refine v_get C 23 dX8_execute_153 wd7_20 Z149.o rfl (by decide) ⟨rfl, rfl, rfl⟩ rfl ?_
      rw [show (mo_si (mo_kp (mo_si S9 2 (nI 0)) 3 ch) 11 (nI R.2.1)).2 11 = nI R.2.1 from mo_si_3 _ 11 _]
      exact v_iret C E dX8_execute_156 rfl ⟨_, rfl, rfl, ⟨_, Y149, Or.inr ⟨c6, Or.inr ⟨by rw [← x11]; exact hz0, rfl, mo_kp_3 _ _ _, D9.rs rs (by rw [kr 0 (by decide)]; exact D9.1) (k9.kp w2 (Or.inr rfl) yg3)⟩⟩⟩, W149⟩
    · have y11 : S9.2 11 = nI R.2.1 := (wk9.2 11 (by decide) (by decide)).trans i11
      have y1 : S9.2 1 = nI ch := (wk9.2 1 (by decide) (by decide)).trans i1
      have yr1 : S9.1 1 = S.1 1 := (wk9.1 1 (by decide) (by decide)).trans xr1
      have yr2 : S9.1 2 = S.1 2 := (wk9.1 2 (by decide) (by decide)).trans xr2
      have yr5 : S9.1 5 = S.1 5 := (wk9.1 5 (by decide) (by decide)).trans xr5
      have yg3 : Gr (S9.1 3) M := by rw [wk9.1 3 (by decide) (by decide)]; exact x33
      have y0 : S9.2 0 = hs := (wk9.2 0 (by decide) (by decide)).trans i0
      have y4 : S9.2 4 = nI 0 := (wk9.2 4 (by decide) (by decide)).trans i4
      have y5 : S9.2 5 = fl := (wk9.2 5 (by decide) (by decide)).trans i5
      have y6 : S9.2 6 = fd := (wk9.2 6 (by decide) (by decide)).trans i6
      have y7 : S9.2 7 = S.2 7 := (wk9.2 7 (by decide) (by decide)).trans i7
      have yk : Kp S9 KL ch := hkp.eq yr1 (y1.trans hkp.1.symm)
      have yl : Ln S9 P := ⟨y7.trans hln.1, hln.2.1, by rw [yr5]; exact hln.2.2⟩
      have yz : ¬ hs = 0 → Gr (S9.1 2) Z := fun z => by rw [yr2]; exact hz z
      refine v_aload_n C dX8_execute_99 rfl ?_
      refine v_iconst (v := nI 0) C dX8_execute_100 (by decide) ?_
      refine v_put C 6 dX8_execute_101 wd7_3 hbase Y9.o rfl (by decide) ⟨rfl, rfl, rfl, rfl⟩ rfl rfl rfl (Nat.le_of_ble_eq_true rfl) (fun h101 e101 g101 => ?_)
      have Y101 := Y9.i2 e101 g101
      have W101 : ∀ a, (a < y ∨ y + 13 ≤ a) → h101 a = h0 a := fun a ha => (g101 a (by omega)).trans (W9 a ha)
      refine v_aload_n C dX8_execute_104 rfl ?_
      refine v_get C 7 dX8_execute_105 wd7_4 Y101.o rfl (by decide) ⟨rfl, rfl, rfl⟩ rfl ?_
      rw [show (mo_si S9 2 (nI 0)).2 3 = cd from t9]
      refine v_if_le (tgt := 144) C dX8_execute_108 (by decide) (fun c108 => absurd c108 (Int32.not_le.mpr hcd)) (fun c108 => ?_)
      refine v_aload_n C dX8_execute_111 rfl ?_
      refine v_get C 3 dX8_execute_112 wd7_0 Y101.o rfl (by decide) ⟨rfl, rfl, rfl⟩ rfl ?_
      refine v_iconst (v := nI 0) C dX8_execute_115 (by decide) ?_
      refine v_aload_n C dX8_execute_116 rfl ?_
      refine v_get C 0 dX8_execute_117 wd6_237 Y101.o rfl (by decide) ⟨rfl, rfl, rfl⟩ rfl ?_
      refine v_iconst (v := nI 0) C dX8_execute_120 (by decide) ?_
      refine v_callSv C (c_X8_copies hl (kf := 3) (kt := 0) (a := 0) (b := 0) (by decide) (by decide) (by decide) (by decide) (by decide) Y101) dX8_execute_121 mX8_copies wd7_90 rfl rfl (Nat.le_of_ble_eq_true rfl) (hp_rmle hRm (by decide) (by decide)) (Nat.le_of_ble_eq_true rfl) (Nat.le_of_ble_eq_true rfl) (fun n121 h121 q121 => ?_)
      obtain ⟨k121, Y121, W121⟩ := q121
      have z121 := Eq.symm k121
      have z121 : n0 = n121 := z121
      subst z121
      have W121 : ∀ a, (a < y ∨ y + 13 ≤ a) → h121 a = h0 a := fun a ha => (W121 a ha).trans (W101 a ha)
      have g121 : Gr ((mo_cp (mo_si S9 2 (nI 0)) 3 0 0 0 138).1 0) M := Gr.cp (show Gr ((mo_si S9 2 (nI 0)).1 3) M from yg3)
      refine v_aload_n C dX8_execute_124 rfl ?_
      refine v_iload_n C dX8_execute_125 rfl ?_
      refine v_put C 11 dX8_execute_126 wd7_8 hbase Y121.o rfl (by decide) ⟨rfl, rfl, rfl, rfl⟩ rfl rfl rfl (Nat.le_of_ble_eq_true rfl) (fun h126 e126 g126 => ?_)
      have Y126 := Y121.i6 e126 g126
      have W126 : ∀ a, (a < y ∨ y + 13 ≤ a) → h126 a = h0 a := fun a ha => (g126 a (by omega)).trans (W121 a ha)
      refine v_aload_n C dX8_execute_129 rfl ?_
      refine v_iconst (v := nI 2) C dX8_execute_130 (by decide) ?_
      refine v_put C 7 dX8_execute_131 wd7_4 hbase Y126.o rfl (by decide) ⟨rfl, rfl, rfl, rfl⟩ rfl rfl rfl (Nat.le_of_ble_eq_true rfl) (fun h131 e131 g131 => ?_)
      have Y131 := Y126.i3 e131 g131
      have W131 : ∀ a, (a < y ∨ y + 13 ≤ a) → h131 a = h0 a := fun a ha => (g131 a (by omega)).trans (W126 a ha)
      refine v_iload_n C dX8_execute_134 rfl ?_
      refine v_if_le (tgt := 142) C dX8_execute_135 (by decide) (fun c135 => ?_) (fun c135 => absurd c135 (by decide))
      refine v_iload_n C dX8_execute_142 rfl ?_
      exact v_iret C E dX8_execute_143 rfl ⟨_, rfl, rfl, ⟨_, Y131, Or.inr ⟨c6, Or.inl ⟨i, by rw [← x11]; exact hzi, rfl, mo_si_3 _ 3 _, g121, yk.eq rfl rfl, y0, yz, rfl, Tp.z y4 t, yl, y5, rfl⟩⟩⟩, W131⟩
  · refine v_aload_n C dX8_execute_9 rfl ?_
    refine v_aload_n C dX8_execute_10 rfl ?_
    refine v_get (v := .int (nI (R.2.2.1))) C 21 dX8_execute_11 wd7_18 Y1.o rfl (by decide) ⟨rfl, rfl, rfl⟩ rfl ?_
    refine v_put C 10 dX8_execute_14 wd7_7 hbase Y1.o rfl (by decide) ⟨rfl, rfl, rfl, rfl⟩ rfl rfl rfl (Nat.le_of_ble_eq_true rfl) (fun h14 e14 g14 => ?_)
    have Y14 := Y1.i5 e14 g14
    have W14 : ∀ a, (a < y ∨ y + 13 ≤ a) → h14 a = h0 a := fun a ha => (g14 a (by omega)).trans (W1 a ha)
    refine v_aload_n C dX8_execute_17 rfl ?_
    refine v_iconst (v := nI 0) C dX8_execute_18 (by decide) ?_
    refine v_put C 9 dX8_execute_19 wd7_6 hbase Y14.o rfl (by decide) ⟨rfl, rfl, rfl, rfl⟩ rfl rfl rfl (Nat.le_of_ble_eq_true rfl) (fun h19 e19 g19 => ?_)
    have Y19 := Y14.i4 e19 g19
    have W19 : ∀ a, (a < y ∨ y + 13 ≤ a) → h19 a = h0 a := fun a ha => (g19 a (by omega)).trans (W14 a ha)
    refine v_aload_n C dX8_execute_22 rfl ?_
    refine v_iload_n C dX8_execute_23 rfl ?_
    refine v_if_eqB (tgt := 31) C dX8_execute_24 (by decide) (fun c24 => ?_) (fun c24 => absurd c24 c6)
    refine v_iconst (v := nI 1) C dX8_execute_31 (by decide) ?_
    refine v_callVq C (c_X8_fails hl Y19 (nI 1)) dX8_execute_32 mX8_fails rfl Y19.o rfl wd7_82 rfl rfl (Nat.le_of_ble_eq_true rfl) (hp_rmle hRm (by decide) (by decide)) (Nat.le_of_ble_eq_true rfl) (Nat.le_of_ble_eq_true rfl) (fun r32 n32 h32 q32 => ?_)
    obtain ⟨e32, k32, Y32, W32⟩ := q32
    have z32 := Eq.symm k32
    have z32 : n0 = n32 := z32
    subst z32
    subst e32
    have W32 : ∀ a, (a < y ∨ y + 13 ≤ a) → h32 a = _ := fun a ha => (W32 a ha).trans (W19 a ha)
    refine v_if_eqB (tgt := 40) C dX8_execute_35 (by decide) (fun c35 => absurd c35 (fun z => z (by decide))) (fun c35 => ?_)
    refine v_iconst (v := nI 0) C dX8_execute_38 (by decide) ?_
    exact v_iret C E dX8_execute_39 rfl ⟨_, rfl, rfl, ⟨_, Y32, Or.inl ⟨c6, rfl, mo_si_3 _ 3 _, hgr, hkp.eq rfl rfl, hhs, hz, hwi, Tp.z rfl t, hln, rfl, hfd⟩⟩, W32⟩

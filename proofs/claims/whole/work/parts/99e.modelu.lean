/-! ===== THE MODEL: lines ===== -/
/-- the line that stands in the model -/
def Ln (S : mo_T) (P : wl_T) : Prop := S.2 7 = nI P.1 ∧ P.1 ≤ 60 ∧ ∀ i, i < P.1 → P.2 i < 256 ∧ S.1 5 i = nI (P.2 i)
theorem Ln.c {S : mo_T} {P P' : wl_T} (H : Ln S P) (h1 : P.1 = P'.1) (h2 : ∀ i, i < P.1 → P.2 i = P'.2 i) : Ln S P' := ⟨by rw [← h1]; exact H.1, by rw [← h1]; exact H.2.1, fun i hi => by rw [← h2 i (by omega)]; exact H.2.2 i (by omega)⟩
/-- the same but for the line -/
def mo_ln (S S2 : mo_T) : Prop := (∀ k, k < 12 → k ≠ 5 → S2.1 k = S.1 k) ∧ ∀ k, k < 12 → k ≠ 7 → S2.2 k = S.2 k
theorem mo_ln.rf (S : mo_T) : mo_ln S S := ⟨fun _ _ _ => rfl, fun _ _ _ => rfl⟩
theorem mo_ln.tr {S S2 S3 : mo_T} (a : mo_ln S S2) (b : mo_ln S2 S3) : mo_ln S S3 := ⟨fun k h1 h2 => (b.1 k h1 h2).trans (a.1 k h1 h2), fun k h1 h2 => (b.2 k h1 h2).trans (a.2 k h1 h2)⟩
theorem nar_c : ∀ k, k < 256 → vp_nar .char (nI k) = nI k := by decide +kernel
theorem Ln.put {S : mo_T} {P : wl_T} (H : Ln S P) {k : Nat} (hk : k < 256) (hP : P.1 < 60) : Ln (mo_si (mo_sa (mo_si S 7 (nI P.1)) 5 P.1 (nI k)) 7 (nI (P.1 + 1))) (wl_c P k) ∧ mo_ln S (mo_si (mo_sa (mo_si S 7 (nI P.1)) 5 P.1 (nI k)) 7 (nI (P.1 + 1))) := by
  refine ⟨⟨(show upd (upd S.2 7 (nI P.1)) 7 (nI (P.1 + 1)) 7 = nI (P.1 + 1) from pk_us), (show P.1 + 1 ≤ 60 by omega), fun i hi => ?_⟩, fun j hj h5 => (show (if j = 5 then upd (S.1 5) P.1 (nI k) else S.1 j) = S.1 j from if_neg h5), fun j hj h7 => (show upd (upd S.2 7 (nI P.1)) 7 (nI (P.1 + 1)) j = S.2 j by rw [pk_un h7, pk_un h7])⟩
  have hi : i < P.1 + 1 := hi
  show sb_cat P.2 P.1 (fun _ => k) i < 256 ∧ upd (S.1 5) P.1 (nI k) i = nI (sb_cat P.2 P.1 (fun _ => k) i)
  by_cases q : i = P.1
  · subst q
    rw [pk_us, show sb_cat P.2 P.1 (fun _ => k) P.1 = k from sb_cat_hi (j := 0)]
    exact ⟨hk, rfl⟩
  · rw [pk_un q, sb_cat_lo (by omega)]
    exact H.2.2 i (by omega)
theorem sb_dg_1 {k : Nat} (h : k < 10) : sb_dg k = 1 := if_pos h
theorem sb_dg_s {k : Nat} (h : 10 ≤ k) (h2 : k < 2 ^ 31) : sb_dg k = sb_dg (k / 10) + 1 := by
  unfold sb_dg
  repeat' split
  all_goals omega
theorem sx_0 (k : Nat) : sx_dec 0 k = sb_dec k := funext fun j => by
  unfold sx_dec sb_cat
  rw [if_neg (Nat.not_lt_zero j)]
  rfl
theorem wl_p (P : wl_T) {k : Nat} (h : k < 2 ^ 31) : wl_i P (nI k) = (P.1 + sb_dg k, sb_cat P.2 P.1 (sb_dec k)) := by
  unfold wl_i
  rw [(it_p h).1, (it_p h).2, sx_0]
  rfl
theorem wl_i1 {S : mo_T} {P : wl_T} {k : Nat} (h : k < 10) (H : Ln S (wl_c P (48 + k))) : Ln S (wl_i P (nI k)) := by
  rw [wl_p P (by omega), sb_dg_1 h]
  refine H.c rfl (fun i hi => ?_)
  have hi : i < P.1 + 1 := hi
  show sb_cat P.2 P.1 (fun _ => 48 + k) i = sb_cat P.2 P.1 (sb_dec k) i
  by_cases q : i < P.1
  · rw [sb_cat_lo q, sb_cat_lo q]
  · have q : i = P.1 + 0 := by omega
    rw [q, sb_cat_hi, sb_cat_hi]
    unfold sb_dec
    rw [sb_dg_1 h]
    show 48 + k = 48 + k / 1 % 10
    omega
theorem wl_i2 {S : mo_T} {P : wl_T} {k : Nat} (h : 10 ≤ k) (h2 : k < 2 ^ 31) (H : Ln S (wl_c (wl_i P (nI (k / 10))) (48 + k % 10))) : Ln S (wl_i P (nI k)) := by
  have hd := sb_dg_s h h2
  rw [wl_p P (by omega)] at H
  rw [wl_p P h2]
  generalize hm : sb_dg (k / 10) = m at *
  refine H.c (show P.1 + m + 1 = P.1 + sb_dg k by omega) (fun i hi => ?_)
  have hi : i < P.1 + m + 1 := hi
  show sb_cat (sb_cat P.2 P.1 (sb_dec (k / 10))) (P.1 + m) (fun _ => 48 + k % 10) i = sb_cat P.2 P.1 (sb_dec k) i
  by_cases q : i < P.1
  · rw [sb_cat_lo (by omega), sb_cat_lo q, sb_cat_lo q]
  · by_cases q2 : i < P.1 + m
    · obtain ⟨j, rfl⟩ : ∃ j, i = P.1 + j := ⟨i - P.1, by omega⟩
      rw [sb_cat_lo q2, sb_cat_hi, sb_cat_hi]
      unfold sb_dec
      rw [hd, hm]
      have e : m + 1 - 1 - j = (m - 1 - j) + 1 := by omega
      rw [e, Nat.pow_succ', Nat.div_div_eq_div_mul]
    · have q3 : i = P.1 + m + 0 := by omega
      rw [q3, sb_cat_hi, Nat.add_zero, sb_cat_hi]
      unfold sb_dec
      rw [hd]
      have e : m + 1 - 1 - m = 0 := by omega
      rw [e]
      show 48 + k % 10 = 48 + k / 1 % 10
      rw [Nat.div_one]
theorem wl_im {S : mo_T} {P : wl_T} {k : Nat} (h1 : 1 ≤ k) (h2 : k < 2 ^ 31) (H : Ln S (wl_i (wl_c P 45) (nI k))) : Ln S (wl_i P (-nI k)) := by
  rw [wl_p _ h2] at H
  unfold wl_i
  rw [(it_m h1 h2).1, (it_m h1 h2).2]
  refine H.c (show P.1 + 1 + sb_dg k = P.1 + (sb_dg k + 1) by omega) (fun i hi => ?_)
  show sb_cat (sb_cat P.2 P.1 (fun _ => 45)) (P.1 + 1) (sb_dec k) i = sb_cat P.2 P.1 (sb_cat (fun _ => 45) 1 (sb_dec k)) i
  unfold sb_cat
  by_cases q : i < P.1
  · rw [if_pos (by omega), if_pos q, if_pos q]
  · by_cases q2 : i = P.1
    · rw [if_pos (by omega), if_neg q, if_neg q, if_pos (by omega)]
    · rw [if_neg (by omega), if_neg q, if_neg (by omega), show i - (P.1 + 1) = i - P.1 - 1 by omega]
set_option maxHeartbeats 8000000 in
/-- a sign is written -/
theorem c_X8_writes {G : hp_G} {l : Launch} (hl : l.stackTraces = false) {n0 : Nat} {h0 : Nat → Option va_E} {y : Nat} {S : mo_T} (hS : Mo G h0 y S) {P : wl_T} (hL : Ln S P) {k : Nat} (hk : k < 256) (hP : P.1 < 60) : Ct G l yX8_writes cX8_writes 2 none 0 0 0 [.ref y, .int (nI k)] (n0, h0) (hp_vq (fun τ => τ.1 = n0 ∧ (∃ S2, Mo G τ.2 y S2 ∧ Ln S2 (wl_c P k) ∧ mo_ln S S2) ∧ ∀ a, (a < y ∨ y + 13 ≤ a) → τ.2 a = h0 a)) := by
  have hbase := hS.base
  have hS1 := hS.to (mo_si_eq hL.1)
  refine Ct.of rfl hl (by simp [Value.category]) (Nat.le_of_ble_eq_true rfl) (fun K C E hRm hKl => ?_)
  subst hKl
  refine v_aload_n C dX8_writes_0 rfl ?_
  refine v_get C 12 dX8_writes_1 wd7_9 hS1.o rfl (by decide) ⟨rfl, rfl, rfl⟩ rfl ?_
  refine v_aload_n C dX8_writes_4 rfl ?_
  refine v_get (v := .int (nI (P.1))) C 13 dX8_writes_5 wd7_10 hS1.o rfl (by decide) ⟨rfl, rfl, rfl⟩ rfl ?_
  refine v_iload_n C dX8_writes_8 rfl ?_
  refine v_i2c C dX8_writes_9 ?_
  rw [(sb_byte k hk).2.1]
  refine v_castN C dX8_writes_10 (by omega) hS1.a5 (by omega) (by decide) (fun h10 e10 g10 => ?_)
  rw [nar_c k hk] at e10
  have Y10 := hS1.s5 e10 g10
  have W10 : ∀ a, (a < y ∨ y + 13 ≤ a) → h10 a = h0 a := fun a ha => g10 a (by omega)
  refine v_aload_n C dX8_writes_11 rfl ?_
  refine v_dup C dX8_writes_12 rfl ?_
  refine v_get (v := .int (nI (P.1))) C 13 dX8_writes_13 wd7_10 Y10.o rfl (by decide) ⟨rfl, rfl, rfl⟩ rfl ?_
  refine v_iconst (v := nI 1) C dX8_writes_16 (by decide) ?_
  refine v_iaddN C dX8_writes_17 ?_
  refine v_put C 13 dX8_writes_18 wd7_10 hbase Y10.o rfl (by decide) ⟨rfl, rfl, rfl, rfl⟩ rfl rfl rfl (Nat.le_of_ble_eq_true rfl) (fun h18 e18 g18 => ?_)
  have Y18 := Y10.i7 e18 g18
  have W18 : ∀ a, (a < y ∨ y + 13 ≤ a) → h18 a = _ := fun a ha => (g18 a (by omega)).trans (W10 a ha)
  exact v_vret C E dX8_writes_21 rfl ⟨rfl, rfl, ⟨_, Y18, hL.put hk hP⟩, W18⟩
set_option maxHeartbeats 8000000 in
/-- a number is written -/
theorem c_X8_writesNumber_p {G : hp_G} {l : Launch} (hl : l.stackTraces = false) {y : Nat} : ∀ (d : Nat) {n0 : Nat} {h0 : Nat → Option va_E} {S : mo_T} (hS : Mo G h0 y S) {P : wl_T} (hL : Ln S P) {k : Nat} (hk : k < 10 ^ (d + 1)) (hk2 : k < 2 ^ 31) (hP : P.1 + sb_dg k ≤ 60), Ct G l yX8_writesNumber cX8_writesNumber 2 none (d + 1) 0 0 [.ref y, .int (nI k)] (n0, h0) (hp_vq (fun τ => τ.1 = n0 ∧ (∃ S2, Mo G τ.2 y S2 ∧ Ln S2 (wl_i P (nI k)) ∧ mo_ln S S2) ∧ ∀ a, (a < y ∨ y + 13 ≤ a) → τ.2 a = h0 a)) := by
  intro d
  induction d with
  | zero =>
    intro n0 h0 S hS P hL k hk hk2 hP
    have hbase := hS.base
    have hk10 : k < 10 := hk
    rw [sb_dg_1 hk10] at hP
    refine Ct.of rfl hl (by simp [Value.category]) (Nat.le_of_ble_eq_true rfl) (fun K C E hRm hKl => ?_)
    subst hKl
    refine v_iload_n C dX8_writesNumber_0 rfl ?_
    refine v_if_ge (tgt := 17) C dX8_writesNumber_1 (by decide) (fun c1 => ?_) (fun c1 => absurd (nI_pos' (by omega)) c1)
    refine v_iload_n C dX8_writesNumber_17 rfl ?_
    refine v_bipush (v := nI 9) C dX8_writesNumber_18 (by decide) ?_
    refine v_icmp_leN (tgt := 31) C dX8_writesNumber_20 (by decide) (by omega) (by omega) (fun c20 => ?_) (fun c20 => absurd c20 (by omega))
    refine v_aload_n C dX8_writesNumber_31 rfl ?_
    refine v_bipush (v := nI 48) C dX8_writesNumber_32 (by decide) ?_
    refine v_iload_n C dX8_writesNumber_34 rfl ?_
    refine v_bipush (v := nI 10) C dX8_writesNumber_35 (by decide) ?_
    refine v_irem C dX8_writesNumber_37 (by decide) ?_
    rw [pk_rem hk2 (by decide) (by decide)]
    refine v_iaddN C dX8_writesNumber_38 ?_
    refine v_callVv C (c_X8_writes hl hS hL (k := 48 + k % 10) (by omega) (by omega)) dX8_writesNumber_39 mX8_writes rfl hS.o rfl wd8_128 rfl rfl (Nat.le_of_ble_eq_true rfl) (hp_rmle hRm (by decide) (by decide)) (Nat.le_of_ble_eq_true rfl) (Nat.le_of_ble_eq_true rfl) (fun n39 h39 q39 => ?_)
    obtain ⟨k39, ⟨S39, Y39, L39, M39⟩, W39⟩ := q39
    have z39 := Eq.symm k39
    have z39 : n0 = n39 := z39
    subst z39
    exact v_vret C E dX8_writesNumber_42 rfl ⟨rfl, rfl, ⟨_, Y39, wl_i1 hk10 (by rw [show 48 + k = 48 + k % 10 by omega]; exact L39), M39⟩, W39⟩
  | succ d ih =>
    intro n0 h0 S hS P hL k hk hk2 hP
    have hbase := hS.base
    refine Ct.of rfl hl (by simp [Value.category]) (Nat.le_of_ble_eq_true rfl) (fun K C E hRm hKl => ?_)
    subst hKl
    refine v_iload_n C dX8_writesNumber_0 rfl ?_
    refine v_if_ge (tgt := 17) C dX8_writesNumber_1 (by decide) (fun c1 => ?_) (fun c1 => absurd (nI_pos' (by omega)) c1)
    refine v_iload_n C dX8_writesNumber_17 rfl ?_
    refine v_bipush (v := nI 9) C dX8_writesNumber_18 (by decide) ?_
    refine v_icmp_leN (tgt := 31) C dX8_writesNumber_20 (by decide) (by omega) (by omega) (fun c20 => ?_) (fun c20 => ?_)
    · refine v_aload_n C dX8_writesNumber_31 rfl ?_
      refine v_bipush (v := nI 48) C dX8_writesNumber_32 (by decide) ?_
      refine v_iload_n C dX8_writesNumber_34 rfl ?_
      refine v_bipush (v := nI 10) C dX8_writesNumber_35 (by decide) ?_
      refine v_irem C dX8_writesNumber_37 (by decide) ?_
      rw [pk_rem hk2 (by decide) (by decide)]
      refine v_iaddN C dX8_writesNumber_38 ?_
      refine v_callVv C (c_X8_writes hl hS hL (k := 48 + k % 10) (by omega) (by rw [sb_dg_1 (by omega)] at hP; omega)) dX8_writesNumber_39 mX8_writes rfl hS.o rfl wd8_128 rfl rfl (Nat.le_of_ble_eq_true rfl) (hp_rmle hRm (by omega) (by decide)) (Nat.le_of_ble_eq_true rfl) (Nat.le_of_ble_eq_true rfl) (fun n39 h39 q39 => ?_)
      obtain ⟨k39, ⟨S39, Y39, L39, M39⟩, W39⟩ := q39
      have z39 := Eq.symm k39
      have z39 : n0 = n39 := z39
      subst z39
      exact v_vret C E dX8_writesNumber_42 rfl ⟨rfl, rfl, ⟨_, Y39, wl_i1 (by omega) (by rw [show 48 + k = 48 + k % 10 by omega]; exact L39), M39⟩, W39⟩
    · refine v_aload_n C dX8_writesNumber_23 rfl ?_
      refine v_iload_n C dX8_writesNumber_24 rfl ?_
      refine v_bipush (v := nI 10) C dX8_writesNumber_25 (by decide) ?_
      refine v_idiv C dX8_writesNumber_27 (by decide) ?_
      rw [pk_div hk2 (by decide) (by decide)]
      have hd := sb_dg_s (show 10 ≤ k by omega) hk2
      refine v_callVv C (ih hS hL (k := k / 10) (by rw [Nat.pow_succ] at hk; omega) (by omega) (by omega)) dX8_writesNumber_28 mX8_writesNumber rfl hS.o rfl wd8_124 rfl rfl (Nat.le_of_ble_eq_true rfl) (hp_rmle hRm (by omega) (by decide)) (Nat.le_of_ble_eq_true rfl) (Nat.le_of_ble_eq_true rfl) (fun n28 h28 q28 => ?_)
      obtain ⟨k28, ⟨S28, Y28, L28, M28⟩, W28⟩ := q28
      have z28 := Eq.symm k28
      have z28 : n0 = n28 := z28
      subst z28
      refine v_aload_n C dX8_writesNumber_31 rfl ?_
      refine v_bipush (v := nI 48) C dX8_writesNumber_32 (by decide) ?_
      refine v_iload_n C dX8_writesNumber_34 rfl ?_
      refine v_bipush (v := nI 10) C dX8_writesNumber_35 (by decide) ?_
      refine v_irem C dX8_writesNumber_37 (by decide) ?_
      rw [pk_rem hk2 (by decide) (by decide)]
      refine v_iaddN C dX8_writesNumber_38 ?_
      refine v_callVv C (c_X8_writes hl Y28 L28 (k := 48 + k % 10) (by omega) (by rw [wl_p P (by omega)]; show P.1 + sb_dg (k / 10) < 60; omega)) dX8_writesNumber_39 mX8_writes rfl Y28.o rfl wd8_128 rfl rfl (Nat.le_of_ble_eq_true rfl) (hp_rmle hRm (by omega) (by decide)) (Nat.le_of_ble_eq_true rfl) (Nat.le_of_ble_eq_true rfl) (fun n39 h39 q39 => ?_)
      obtain ⟨k39, ⟨S39, Y39, L39, M39⟩, W39⟩ := q39
      have z39 := Eq.symm k39
      have z39 : n0 = n39 := z39
      subst z39
      have W39 : ∀ a, (a < y ∨ y + 13 ≤ a) → h39 a = h0 a := fun a ha => (W39 a ha).trans (W28 a ha)
      exact v_vret C E dX8_writesNumber_42 rfl ⟨rfl, rfl, ⟨_, Y39, wl_i2 (by omega) hk2 L39, M28.tr M39⟩, W39⟩
theorem int_nn {k : Nat} (h : 1 ≤ k) (h2 : k < 2 ^ 31) : ¬ (0 : Int32) ≤ -nI k := by
  rw [Int32.le_iff_toInt_le, sb_negT h2]
  show ¬ (0 : Int) ≤ -(k : Int)
  omega
theorem p10 {k : Nat} (h : k < 2 ^ 31) : k < 10 ^ (9 + 1) ∧ k < 10 ^ (10 + 1) := ⟨Nat.lt_of_lt_of_le h (by decide), Nat.lt_of_lt_of_le h (by decide)⟩
set_option maxHeartbeats 8000000 in
/-- a number is written -/
theorem c_X8_writesNumber {G : hp_G} {l : Launch} (hl : l.stackTraces = false) {n0 : Nat} {h0 : Nat → Option va_E} {y : Nat} {S : mo_T} (hS : Mo G h0 y S) {P : wl_T} (hL : Ln S P) {x : Int32} (hx : x ≠ hp_mn) (hP : P.1 + it_n x ≤ 60) : Ct G l yX8_writesNumber cX8_writesNumber 2 none 11 0 0 [.ref y, .int x] (n0, h0) (hp_vq (fun τ => τ.1 = n0 ∧ (∃ S2, Mo G τ.2 y S2 ∧ Ln S2 (wl_i P x) ∧ mo_ln S S2) ∧ ∀ a, (a < y ∨ y + 13 ≤ a) → τ.2 a = h0 a)) := by
  rcases it_sg hx with ⟨k, h1, rfl⟩ | ⟨k, hk0, h1, rfl⟩
  · rw [(it_p h1).2] at hP
    exact c_X8_writesNumber_p hl 10 hS hL (p10 h1).2 h1 hP
  · rw [(it_m hk0 h1).2] at hP
    have hbase := hS.base
    refine Ct.of rfl hl (by simp [Value.category]) (Nat.le_of_ble_eq_true rfl) (fun K C E hRm hKl => ?_)
    subst hKl
    refine v_iload_n C dX8_writesNumber_0 rfl ?_
    refine v_if_ge (tgt := 17) C dX8_writesNumber_1 (by decide) (fun c1 => absurd c1 (int_nn hk0 h1)) (fun c1 => ?_)
    refine v_aload_n C dX8_writesNumber_4 rfl ?_
    refine v_bipush (v := nI 45) C dX8_writesNumber_5 (by decide) ?_
    refine v_callVv C (c_X8_writes hl hS hL (k := 45) (by decide) (by omega)) dX8_writesNumber_7 mX8_writes rfl hS.o rfl wd8_128 rfl rfl (Nat.le_of_ble_eq_true rfl) (hp_rmle hRm (by decide) (by decide)) (Nat.le_of_ble_eq_true rfl) (Nat.le_of_ble_eq_true rfl) (fun n7 h7 q7 => ?_)
    obtain ⟨k7, ⟨S7, Y7, L7, M7⟩, W7⟩ := q7
    have z7 := Eq.symm k7
    have z7 : n0 = n7 := z7
    subst z7
    refine v_aload_n C dX8_writesNumber_10 rfl ?_
    refine v_iload_n C dX8_writesNumber_11 rfl ?_
    refine v_ineg C dX8_writesNumber_12 ?_
    rw [Int32.neg_neg]
    refine v_callVv C (c_X8_writesNumber_p hl 9 Y7 L7 (p10 h1).1 h1 (show P.1 + 1 + sb_dg k ≤ 60 by omega)) dX8_writesNumber_13 mX8_writesNumber rfl Y7.o rfl wd8_124 rfl rfl (Nat.le_of_ble_eq_true rfl) (hp_rmle hRm (by decide) (by decide)) (Nat.le_of_ble_eq_true rfl) (Nat.le_of_ble_eq_true rfl) (fun n13 h13 q13 => ?_)
    obtain ⟨k13, ⟨S13, Y13, L13, M13⟩, W13⟩ := q13
    have z13 := Eq.symm k13
    have z13 : n0 = n13 := z13
    subst z13
    have W13 : ∀ a, (a < y ∨ y + 13 ≤ a) → h13 a = h0 a := fun a ha => (W13 a ha).trans (W7 a ha)
    exact v_vret C E dX8_writesNumber_16 rfl ⟨rfl, rfl, ⟨_, Y13, wl_im hk0 h1 L13, M7.tr M13⟩, W13⟩
set_option maxHeartbeats 8000000 in
/-- a sign and a number are written -/
theorem c_X8_writesBehind {G : hp_G} {l : Launch} (hl : l.stackTraces = false) {n0 : Nat} {h0 : Nat → Option va_E} {y : Nat} {S : mo_T} (hS : Mo G h0 y S) {P : wl_T} (hL : Ln S P) {k : Nat} (hk : k < 256) {x : Int32} (hx : x ≠ hp_mn) (hP : P.1 + 1 + it_n x ≤ 60) : Ct G l yX8_writesBehind cX8_writesBehind 3 none 12 0 0 [.ref y, .int (nI k), .int x] (n0, h0) (hp_vq (fun τ => τ.1 = n0 ∧ (∃ S2, Mo G τ.2 y S2 ∧ Ln S2 (wl_i (wl_c P k) x) ∧ mo_ln S S2) ∧ ∀ a, (a < y ∨ y + 13 ≤ a) → τ.2 a = h0 a)) := by
  have hbase := hS.base
  refine Ct.of rfl hl (by simp [Value.category]) (Nat.le_of_ble_eq_true rfl) (fun K C E hRm hKl => ?_)
  subst hKl
  refine v_aload_n C dX8_writesBehind_0 rfl ?_
  refine v_iload_n C dX8_writesBehind_1 rfl ?_
  refine v_callVv C (c_X8_writes hl hS hL (k := k) hk (by omega)) dX8_writesBehind_2 mX8_writes rfl hS.o rfl wd8_128 rfl rfl (Nat.le_of_ble_eq_true rfl) (hp_rmle hRm (by decide) (by decide)) (Nat.le_of_ble_eq_true rfl) (Nat.le_of_ble_eq_true rfl) (fun n2 h2 q2 => ?_)
  obtain ⟨k2, ⟨S2, Y2, L2, M2⟩, W2⟩ := q2
  have z2 := Eq.symm k2
  have z2 : n0 = n2 := z2
  subst z2
  refine v_aload_n C dX8_writesBehind_5 rfl ?_
  refine v_iload_n C dX8_writesBehind_6 rfl ?_
  refine v_callVv C (c_X8_writesNumber hl Y2 L2 hx (show P.1 + 1 + it_n x ≤ 60 by omega)) dX8_writesBehind_7 mX8_writesNumber rfl Y2.o rfl wd8_124 rfl rfl (Nat.le_of_ble_eq_true rfl) (hp_rmle hRm (by decide) (by decide)) (Nat.le_of_ble_eq_true rfl) (Nat.le_of_ble_eq_true rfl) (fun n7 h7 q7 => ?_)
  obtain ⟨k7, ⟨S7, Y7, L7, M7⟩, W7⟩ := q7
  have z7 := Eq.symm k7
  have z7 : n0 = n7 := z7
  subst z7
  have W7 : ∀ a, (a < y ∨ y + 13 ≤ a) → h7 a = h0 a := fun a ha => (W7 a ha).trans (W2 a ha)
  exact v_vret C E dX8_writesBehind_10 rfl ⟨rfl, rfl, ⟨_, Y7, L7, M2.tr M7⟩, W7⟩

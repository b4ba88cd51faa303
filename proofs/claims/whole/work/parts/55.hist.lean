/-! ===== THE HISTORY ===== -/
theorem fm_rem : ∀ a, a < 10 → nI a - nI a / nI 8 * nI 8 = nI (a % 8) := by decide +kernel
theorem fm_x : ∀ a, a < 10 → 0 ≤ nI a ^^^ nI 8 := by decide +kernel
/-- the history at q: its eight markets, the next place, how many can be undone -/
def Hs (G : hp_G) (h : Nat → Option va_E) (q : Nat) (mk : Nat → mk_T) (nx cnt : Nat) : Prop := h q = some (.inr (5, [.ref (q + 1), .int (nI nx), .int (nI cnt)])) ∧ h (q + 1) = some (.inl (G.2.2.1 5, 8, .inr (.inr (.inr (.inr (fun i => if i < 8 then some (q + 2 + 11 * i) else none)))))) ∧ (∀ i, i < 8 → Mk G h (q + 2 + 11 * i) (mk i)) ∧ G.2.1 ≤ q ∧ nx < 8 ∧ cnt ≤ 8
section HSX
variable {G : hp_G} {h h' : Nat → Option va_E} {q : Nat} {mk : Nat → mk_T} {nx cnt : Nat}
theorem Hs.o (H : Hs G h q mk nx cnt) : h q = some (.inr (5, [.ref (q + 1), .int (nI nx), .int (nI cnt)])) := H.1
theorem Hs.a_st (H : Hs G h q mk nx cnt) : h (q + 1) = some (.inl (G.2.2.1 5, 8, .inr (.inr (.inr (.inr (fun i => if i < 8 then some (q + 2 + 11 * i) else none)))))) := H.2.1
theorem Hs.m (H : Hs G h q mk nx cnt) {i : Nat} (hi : i < 8) : Mk G h (q + 2 + 11 * i) (mk i) := H.2.2.1 i hi
theorem Hs.base (H : Hs G h q mk nx cnt) : G.2.1 ≤ q := H.2.2.2.1
theorem Hs.bnx (H : Hs G h q mk nx cnt) : nx < 8 := H.2.2.2.2.1
theorem Hs.bct (H : Hs G h q mk nx cnt) : cnt ≤ 8 := H.2.2.2.2.2
theorem Hs.same (H : Hs G h q mk nx cnt) (k : ∀ a, q ≤ a → a < q + 90 → h' a = h a) : Hs G h' q mk nx cnt := ⟨(k _ (by omega) (by omega)).trans H.o, (k _ (by omega) (by omega)).trans H.a_st, fun i hi => (H.m hi).same (fun a k1 k2 => k a (by omega) (by omega)), H.base, H.bnx, H.bct⟩
theorem Hs.p_nx (H : Hs G h q mk nx cnt) {x0 : Nat} (h1 : h' q = some (.inr (5, [.ref (q + 1), .int (nI x0), .int (nI cnt)]))) (h2 : ∀ b, b ≠ q → h' b = h b) (k : x0 < 8) : Hs G h' q mk x0 cnt := ⟨h1, (h2 _ (by omega)).trans H.a_st, fun i hi => (H.m hi).same (fun a k1 k2 => h2 a (by omega)), H.base, k, H.bct⟩
theorem Hs.p_cnt (H : Hs G h q mk nx cnt) {x0 : Nat} (h1 : h' q = some (.inr (5, [.ref (q + 1), .int (nI nx), .int (nI x0)]))) (h2 : ∀ b, b ≠ q → h' b = h b) (k : x0 ≤ 8) : Hs G h' q mk nx x0 := ⟨h1, (h2 _ (by omega)).trans H.a_st, fun i hi => (H.m hi).same (fun a k1 k2 => h2 a (by omega)), H.base, H.bnx, k⟩
theorem Hs.s_m (H : Hs G h q mk nx cnt) {j : Nat} {B : mk_T} (hj : j < 8) (h1 : Mk G h' (q + 2 + 11 * j) B) (h2 : ∀ a, (a < q + 2 + 11 * j ∨ q + 2 + 11 * j + 11 ≤ a) → h' a = h a) : Hs G h' q (va_up mk j B) nx cnt := ⟨(h2 _ (by omega)).trans H.o, (h2 _ (by omega)).trans H.a_st, fun i hi => by
    by_cases z : i = j
    · subst z
      simp only [va_up, if_pos]
      exact h1
    · simp only [va_up, if_neg z]
      exact (H.m hi).same (fun a k1 k2 => h2 a (by omega)), H.base, H.bnx, H.bct⟩
end HSX
theorem c_J9_floorMod_7cf53 {G : hp_G} {l : Launch} (hl : l.stackTraces = false) {n : Nat} {h : Nat → Option va_E} {a : Nat} (ha : a < 10) : Ct G l yJ9_floorMod_7cf53 cJ9_floorMod_7cf53 3 (some .int) 0 0 0 [.int (nI a), .int (nI 8)] (n, h) (hp_ri (nI (a % 8)) (n, h)) := by
  refine Ct.ofF (by decide +kernel) hl (by simp [Value.category]) (Nat.le_of_ble_eq_true rfl) (fun K C E hRm hKl => ?_)
  subst hKl
  refine v_iload_n C dJ9_floorMod_7cf53_0 rfl ?_
  refine v_iload_n C dJ9_floorMod_7cf53_1 rfl ?_
  refine v_irem C dJ9_floorMod_7cf53_2 (by decide) ?_
  rw [fm_rem a ha]
  refine v_istore_n C dJ9_floorMod_7cf53_3 (by decide) ?_
  refine v_iload_n C dJ9_floorMod_7cf53_4 rfl ?_
  refine v_iload_n C dJ9_floorMod_7cf53_5 rfl ?_
  refine v_ixor C dJ9_floorMod_7cf53_6 ?_
  refine v_if_ge (tgt := 18) C dJ9_floorMod_7cf53_7 (by decide) (fun c7 => ?_) (fun c7 => absurd c7 (fun z => z (fm_x a ha)))
  refine v_iload_n C dJ9_floorMod_7cf53_18 rfl ?_
  exact v_iret C E dJ9_floorMod_7cf53_19 rfl ⟨rfl, rfl⟩
theorem c_J9_floorMod_7cf53_m {G : hp_G} {l : Launch} (hl : l.stackTraces = false) {n : Nat} {h : Nat → Option va_E}  : Ct G l yJ9_floorMod_7cf53 cJ9_floorMod_7cf53 3 (some .int) 0 0 0 [.int (-1), .int (nI 8)] (n, h) (hp_ri (nI 7) (n, h)) := by
  refine Ct.ofF (by decide +kernel) hl (by simp [Value.category]) (Nat.le_of_ble_eq_true rfl) (fun K C E hRm hKl => ?_)
  subst hKl
  refine v_iload_n C dJ9_floorMod_7cf53_0 rfl ?_
  refine v_iload_n C dJ9_floorMod_7cf53_1 rfl ?_
  refine v_irem C dJ9_floorMod_7cf53_2 (by decide) ?_
  rw [show (-1 : Int32) - -1 / nI 8 * nI 8 = -1 from by decide]
  refine v_istore_n C dJ9_floorMod_7cf53_3 (by decide) ?_
  refine v_iload_n C dJ9_floorMod_7cf53_4 rfl ?_
  refine v_iload_n C dJ9_floorMod_7cf53_5 rfl ?_
  refine v_ixor C dJ9_floorMod_7cf53_6 ?_
  refine v_if_ge (tgt := 18) C dJ9_floorMod_7cf53_7 (by decide) (fun c7 => absurd c7 (by decide)) (fun c7 => ?_)
  refine v_iload_n C dJ9_floorMod_7cf53_10 rfl ?_
  refine v_if_eq (tgt := 18) C dJ9_floorMod_7cf53_11 (by decide) (fun c11 => absurd c11 (by decide)) (fun c11 => ?_)
  refine v_iload_n C dJ9_floorMod_7cf53_14 rfl ?_
  refine v_iload_n C dJ9_floorMod_7cf53_15 rfl ?_
  refine v_iadd C dJ9_floorMod_7cf53_16 ?_
  exact v_iret C E dJ9_floorMod_7cf53_17 rfl ⟨congrArg (fun v => Sum.inl (some (Value.int v))) (by decide), rfl⟩
theorem hp_minN {a b : Nat} (ha : a < 2 ^ 31) (hb : b < 2 ^ 31) : (if nI b < nI a then nI b else nI a) = nI (min a b) := by
  by_cases z : b < a
  · rw [if_pos (nI_lt z ha), Nat.min_eq_right (by omega)]
  · rw [if_neg (nI_nlt (by omega) hb), Nat.min_eq_left (by omega)]
set_option maxHeartbeats 4000000 in
/-- the state before a modification is kept -/
theorem c_X3_keep {G : hp_G} {l : Launch} (hl : l.stackTraces = false) {n : Nat} {h0 : Nat → Option va_E} {q o : Nat} {mk : Nat → mk_T} {nx cnt : Nat} {M : mk_T} (hH : Hs G h0 q mk nx cnt) (hM : Mk G h0 o M) (hd : o + 11 ≤ q ∨ q + 90 ≤ o)  : Ct G l yX3_keep cX3_keep 3 none 2 0 0 [.ref q, .ref o] (n, h0) (hp_vq (fun τ => τ.1 = n ∧ Hs G τ.2 q (va_up mk nx M) ((nx + 1) % 8) (min (cnt + 1) 8) ∧ Mk G τ.2 o M ∧ ∀ a, (a < q ∨ q + 90 ≤ a) → (a < o ∨ o + 11 ≤ a) → τ.2 a = h0 a)) := by
  have hbase := hH.base
  have hnx := hH.bnx
  have hct := hH.bct
  have hO : ∀ a, (a < q ∨ q + 90 ≤ a) → (a < o ∨ o + 11 ≤ a) → h0 a = h0 a := fun _ _ _ => rfl
  refine Ct.of rfl hl (by simp [Value.category]) (Nat.le_of_ble_eq_true rfl) (fun K C E hRm hKl => ?_)
  subst hKl
  refine v_aload_n C dX3_keep_0 rfl ?_
  refine v_get C 0 dX3_keep_1 wd1_134 hH.o rfl (by decide) ⟨rfl, rfl, rfl⟩ rfl ?_
  refine v_aload_n C dX3_keep_4 rfl ?_
  refine v_get (v := .int (nI (nx))) C 1 dX3_keep_5 wd1_135 hH.o rfl (by decide) ⟨rfl, rfl, rfl⟩ rfl ?_
  refine v_bipush (v := nI 8) C dX3_keep_8 (by decide) ?_
  refine v_callSi C (c_J9_floorMod_7cf53 hl (a := nx) (by omega)) dX3_keep_10 mJ9_floorMod_7cf53 wd3_7 rfl rfl (Nat.le_of_ble_eq_true rfl) (hp_rmle hRm (by decide) (by decide)) (Nat.le_of_ble_eq_true rfl) (Nat.le_of_ble_eq_true rfl) ?_
  rw [Nat.mod_eq_of_lt hnx]
  refine v_aaldN C 5 dX3_keep_13 (Or.inl rfl) hH.a_st (show nx < 8 by omega) (by decide) (if_pos (show nx < 8 by omega)) ?_
  refine v_astore_n C dX3_keep_14 (by decide) ?_
  refine v_aload_n C dX3_keep_15 rfl ?_
  refine v_ifnull C dX3_keep_16 ?_
  refine v_aload_n C dX3_keep_19 rfl ?_
  refine v_aload_n C dX3_keep_20 rfl ?_
  refine v_callVv C (c_X4_copyFrom hl (hH.m hnx) hM (by omega)) dX3_keep_21 mX4_copyFrom rfl (hH.m (show nx < 8 by omega)).o rfl wd3_10 rfl rfl (Nat.le_of_ble_eq_true rfl) (hp_rmle hRm (by decide) (by decide)) (Nat.le_of_ble_eq_true rfl) (Nat.le_of_ble_eq_true rfl) (fun n21 h21 q21 => ?_)
  obtain ⟨rfl, Mc21, u21⟩ := q21
  have H21 := hH.s_m (by omega) Mc21 u21
  have M21 := hM.same (h' := h21) (fun a k1 k2 => u21 a (by omega))
  have O21 : ∀ a, (a < q ∨ q + 90 ≤ a) → (a < o ∨ o + 11 ≤ a) → h21 a = h0 a := fun a k1 k2 => (u21 a (by omega)).trans (hO a k1 k2)
  refine v_aload_n C dX3_keep_24 rfl ?_
  refine v_aload_n C dX3_keep_25 rfl ?_
  refine v_get (v := .int (nI (nx))) C 1 dX3_keep_26 wd1_135 H21.o rfl (by decide) ⟨rfl, rfl, rfl⟩ rfl ?_
  refine v_iconst (v := nI 1) C dX3_keep_29 (by decide) ?_
  refine v_iaddN C dX3_keep_30 ?_
  refine v_bipush (v := nI 8) C dX3_keep_31 (by decide) ?_
  refine v_callSi C (c_J9_floorMod_7cf53 hl (a := nx + 1) (by omega)) dX3_keep_33 mJ9_floorMod_7cf53 wd3_7 rfl rfl (Nat.le_of_ble_eq_true rfl) (hp_rmle hRm (by decide) (by decide)) (Nat.le_of_ble_eq_true rfl) (Nat.le_of_ble_eq_true rfl) ?_
  refine v_put C 1 dX3_keep_36 wd1_135 hbase H21.o rfl (by decide) ⟨rfl, rfl, rfl, rfl⟩ rfl rfl rfl (Nat.le_of_ble_eq_true rfl) (fun h36 e36 g36 => ?_)
  have H36 := H21.p_nx e36 g36 (Nat.mod_lt _ (by decide))
  have M36 := M21.same (h' := h36) (fun a k1 k2 => g36 a (by omega))
  have O36 : ∀ a, (a < q ∨ q + 90 ≤ a) → (a < o ∨ o + 11 ≤ a) → h36 a = h0 a := fun a k1 k2 => (g36 a (by omega)).trans (O21 a k1 k2)
  refine v_aload_n C dX3_keep_39 rfl ?_
  refine v_aload_n C dX3_keep_40 rfl ?_
  refine v_get (v := .int (nI (cnt))) C 2 dX3_keep_41 wd1_136 H36.o rfl (by decide) ⟨rfl, rfl, rfl⟩ rfl ?_
  refine v_iconst (v := nI 1) C dX3_keep_44 (by decide) ?_
  refine v_iaddN C dX3_keep_45 ?_
  refine v_bipush (v := nI 8) C dX3_keep_46 (by decide) ?_
  refine v_mmin C dX3_keep_48 wd3_17 (Nat.le_of_ble_eq_true rfl) (hp_rmm hRm) ?_
  rw [hp_minN (by omega) (by omega)]
  refine v_put C 2 dX3_keep_51 wd1_136 hbase H36.o rfl (by decide) ⟨rfl, rfl, rfl, rfl⟩ rfl rfl rfl (Nat.le_of_ble_eq_true rfl) (fun h51 e51 g51 => ?_)
  have H51 := H36.p_cnt e51 g51 (by omega)
  have M51 := M36.same (h' := h51) (fun a k1 k2 => g51 a (by omega))
  have O51 : ∀ a, (a < q ∨ q + 90 ≤ a) → (a < o ∨ o + 11 ≤ a) → h51 a = h0 a := fun a k1 k2 => (g51 a (by omega)).trans (O36 a k1 k2)
  refine v_vret C E dX3_keep_54 rfl ⟨rfl, rfl, H51, M51, O51⟩
set_option maxHeartbeats 4000000 in
/-- the last state comes back -/
theorem c_X3_takeBack {G : hp_G} {l : Launch} (hl : l.stackTraces = false) {n : Nat} {h0 : Nat → Option va_E} {q o : Nat} {mk : Nat → mk_T} {nx cnt : Nat} {M : mk_T} (hH : Hs G h0 q mk nx cnt) (hM : Mk G h0 o M) (hd : o + 11 ≤ q ∨ q + 90 ≤ o) (hc1 : 1 ≤ cnt) : Ct G l yX3_takeBack cX3_takeBack 3 none 2 0 0 [.ref q, .ref o] (n, h0) (hp_vq (fun τ => τ.1 = n ∧ ∃ p, p = (nx + 7) % 8 ∧ Hs G τ.2 q mk p (cnt - 1) ∧ Mk G τ.2 o (mk p) ∧ ∀ a, (a < q ∨ q + 90 ≤ a) → (a < o ∨ o + 11 ≤ a) → τ.2 a = h0 a)) := by
  have hbase := hH.base
  have hnx := hH.bnx
  have hct := hH.bct
  have hO : ∀ a, (a < q ∨ q + 90 ≤ a) → (a < o ∨ o + 11 ≤ a) → h0 a = h0 a := fun _ _ _ => rfl
  refine Ct.of rfl hl (by simp [Value.category]) (Nat.le_of_ble_eq_true rfl) (fun K C E hRm hKl => ?_)
  subst hKl
  have hnz : nx = 0 ∨ 1 ≤ nx := by omega
  rcases hnz with hz | hz
  · subst hz
    refine v_aload_n C dX3_takeBack_0 rfl ?_
    refine v_aload_n C dX3_takeBack_1 rfl ?_
    refine v_get (v := .int (nI (0))) C 1 dX3_takeBack_2 wd1_135 hH.o rfl (by decide) ⟨rfl, rfl, rfl⟩ rfl ?_
    refine v_iconst (v := nI 1) C dX3_takeBack_5 (by decide) ?_
    refine v_isub C dX3_takeBack_6 ?_
    rw [show nI 0 - nI 1 = (-1 : Int32) from by decide]
    refine v_bipush (v := nI 8) C dX3_takeBack_7 (by decide) ?_
    refine v_callSi C (c_J9_floorMod_7cf53_m hl) dX3_takeBack_9 mJ9_floorMod_7cf53 wd3_7 rfl rfl (Nat.le_of_ble_eq_true rfl) (hp_rmle hRm (by decide) (by decide)) (Nat.le_of_ble_eq_true rfl) (Nat.le_of_ble_eq_true rfl) ?_
    refine v_put C 1 dX3_takeBack_12 wd1_135 hbase hH.o rfl (by decide) ⟨rfl, rfl, rfl, rfl⟩ rfl rfl rfl (Nat.le_of_ble_eq_true rfl) (fun h12 e12 g12 => ?_)
    have H12 := hH.p_nx e12 g12 (by omega)
    have M12 := hM.same (h' := h12) (fun a k1 k2 => g12 a (by omega))
    have O12 : ∀ a, (a < q ∨ q + 90 ≤ a) → (a < o ∨ o + 11 ≤ a) → h12 a = h0 a := fun a k1 k2 => (g12 a (by omega)).trans (hO a k1 k2)
    refine v_aload_n C dX3_takeBack_15 rfl ?_
    refine v_get C 0 dX3_takeBack_16 wd1_134 H12.o rfl (by decide) ⟨rfl, rfl, rfl⟩ rfl ?_
    refine v_aload_n C dX3_takeBack_19 rfl ?_
    refine v_get (v := .int (nI (7))) C 1 dX3_takeBack_20 wd1_135 H12.o rfl (by decide) ⟨rfl, rfl, rfl⟩ rfl ?_
    refine v_aaldN C 5 dX3_takeBack_23 (Or.inl rfl) H12.a_st (show 7 < 8 by omega) (by decide) (if_pos (show 7 < 8 by omega)) ?_
    refine v_astore_n C dX3_takeBack_24 (by decide) ?_
    refine v_aload_n C dX3_takeBack_25 rfl ?_
    refine v_ifnull C dX3_takeBack_26 ?_
    refine v_aload_n C dX3_takeBack_29 rfl ?_
    refine v_aload_n C dX3_takeBack_30 rfl ?_
    refine v_callVv C (c_X4_copyFrom hl M12 (H12.m (show 7 < 8 by omega)) (by omega)) dX3_takeBack_31 mX4_copyFrom rfl M12.o rfl wd3_10 rfl rfl (Nat.le_of_ble_eq_true rfl) (hp_rmle hRm (by decide) (by decide)) (Nat.le_of_ble_eq_true rfl) (Nat.le_of_ble_eq_true rfl) (fun n31 h31 q31 => ?_)
    obtain ⟨rfl, Mc31, u31⟩ := q31
    have H31 := H12.same (h' := h31) (fun a k1 k2 => u31 a (by omega))
    have O31 : ∀ a, (a < q ∨ q + 90 ≤ a) → (a < o ∨ o + 11 ≤ a) → h31 a = h0 a := fun a k1 k2 => (u31 a (by omega)).trans (O12 a k1 k2)
    refine v_aload_n C dX3_takeBack_34 rfl ?_
    refine v_dup C dX3_takeBack_35 rfl ?_
    refine v_get (v := .int (nI (cnt))) C 2 dX3_takeBack_36 wd1_136 H31.o rfl (by decide) ⟨rfl, rfl, rfl⟩ rfl ?_
    refine v_iconst (v := nI 1) C dX3_takeBack_39 (by decide) ?_
    refine v_isubN C dX3_takeBack_40 (by omega) ?_
    refine v_put C 2 dX3_takeBack_41 wd1_136 hbase H31.o rfl (by decide) ⟨rfl, rfl, rfl, rfl⟩ rfl rfl rfl (Nat.le_of_ble_eq_true rfl) (fun h41 e41 g41 => ?_)
    have H41 := H31.p_cnt e41 g41 (by omega)
    have M41 := Mc31.same (h' := h41) (fun a k1 k2 => g41 a (by omega))
    have O41 : ∀ a, (a < q ∨ q + 90 ≤ a) → (a < o ∨ o + 11 ≤ a) → h41 a = h0 a := fun a k1 k2 => (g41 a (by omega)).trans (O31 a k1 k2)
    exact v_vret C E dX3_takeBack_44 rfl ⟨rfl, rfl, 7, by omega, H41, M41, O41⟩
  · have hmod : (nx - 1) % 8 = nx - 1 := Nat.mod_eq_of_lt (by omega)
    refine v_aload_n C dX3_takeBack_0 rfl ?_
    refine v_aload_n C dX3_takeBack_1 rfl ?_
    refine v_get (v := .int (nI (nx))) C 1 dX3_takeBack_2 wd1_135 hH.o rfl (by decide) ⟨rfl, rfl, rfl⟩ rfl ?_
    refine v_iconst (v := nI 1) C dX3_takeBack_5 (by decide) ?_
    refine v_isubN C dX3_takeBack_6 (by omega) ?_
    refine v_bipush (v := nI 8) C dX3_takeBack_7 (by decide) ?_
    refine v_callSi C (c_J9_floorMod_7cf53 hl (a := nx - 1) (by omega)) dX3_takeBack_9 mJ9_floorMod_7cf53 wd3_7 rfl rfl (Nat.le_of_ble_eq_true rfl) (hp_rmle hRm (by decide) (by decide)) (Nat.le_of_ble_eq_true rfl) (Nat.le_of_ble_eq_true rfl) ?_
    refine v_put C 1 dX3_takeBack_12 wd1_135 hbase hH.o rfl (by decide) ⟨rfl, rfl, rfl, rfl⟩ rfl rfl rfl (Nat.le_of_ble_eq_true rfl) (fun h12 e12 g12 => ?_)
    have H12 := hH.p_nx e12 g12 (by omega)
    have M12 := hM.same (h' := h12) (fun a k1 k2 => g12 a (by omega))
    have O12 : ∀ a, (a < q ∨ q + 90 ≤ a) → (a < o ∨ o + 11 ≤ a) → h12 a = h0 a := fun a k1 k2 => (g12 a (by omega)).trans (hO a k1 k2)
    refine v_aload_n C dX3_takeBack_15 rfl ?_
    refine v_get C 0 dX3_takeBack_16 wd1_134 H12.o rfl (by decide) ⟨rfl, rfl, rfl⟩ rfl ?_
    refine v_aload_n C dX3_takeBack_19 rfl ?_
    refine v_get (v := .int (nI (((nx - 1) % 8)))) C 1 dX3_takeBack_20 wd1_135 H12.o rfl (by decide) ⟨rfl, rfl, rfl⟩ rfl ?_
    refine v_aaldN C 5 dX3_takeBack_23 (Or.inl rfl) H12.a_st (show ((nx - 1) % 8) < 8 by omega) (by decide) (if_pos (show ((nx - 1) % 8) < 8 by omega)) ?_
    refine v_astore_n C dX3_takeBack_24 (by decide) ?_
    refine v_aload_n C dX3_takeBack_25 rfl ?_
    refine v_ifnull C dX3_takeBack_26 ?_
    refine v_aload_n C dX3_takeBack_29 rfl ?_
    refine v_aload_n C dX3_takeBack_30 rfl ?_
    refine v_callVv C (c_X4_copyFrom hl M12 (H12.m (show ((nx - 1) % 8) < 8 by omega)) (by omega)) dX3_takeBack_31 mX4_copyFrom rfl M12.o rfl wd3_10 rfl rfl (Nat.le_of_ble_eq_true rfl) (hp_rmle hRm (by decide) (by decide)) (Nat.le_of_ble_eq_true rfl) (Nat.le_of_ble_eq_true rfl) (fun n31 h31 q31 => ?_)
    obtain ⟨rfl, Mc31, u31⟩ := q31
    have H31 := H12.same (h' := h31) (fun a k1 k2 => u31 a (by omega))
    have O31 : ∀ a, (a < q ∨ q + 90 ≤ a) → (a < o ∨ o + 11 ≤ a) → h31 a = h0 a := fun a k1 k2 => (u31 a (by omega)).trans (O12 a k1 k2)
    refine v_aload_n C dX3_takeBack_34 rfl ?_
    refine v_dup C dX3_takeBack_35 rfl ?_
    refine v_get (v := .int (nI (cnt))) C 2 dX3_takeBack_36 wd1_136 H31.o rfl (by decide) ⟨rfl, rfl, rfl⟩ rfl ?_
    refine v_iconst (v := nI 1) C dX3_takeBack_39 (by decide) ?_
    refine v_isubN C dX3_takeBack_40 (by omega) ?_
    refine v_put C 2 dX3_takeBack_41 wd1_136 hbase H31.o rfl (by decide) ⟨rfl, rfl, rfl, rfl⟩ rfl rfl rfl (Nat.le_of_ble_eq_true rfl) (fun h41 e41 g41 => ?_)
    have H41 := H31.p_cnt e41 g41 (by omega)
    have M41 := Mc31.same (h' := h41) (fun a k1 k2 => g41 a (by omega))
    have O41 : ∀ a, (a < q ∨ q + 90 ≤ a) → (a < o ∨ o + 11 ≤ a) → h41 a = h0 a := fun a k1 k2 => (g41 a (by omega)).trans (O31 a k1 k2)
    exact v_vret C E dX3_takeBack_44 rfl ⟨rfl, rfl, ((nx - 1) % 8), by omega, H41, M41, O41⟩
set_option maxHeartbeats 4000000 in
theorem loop_X3_init {G : hp_G} {K : hp_C} {h0 : Nat → Option va_E} {q : Nat} {P : hp_P} (C : hp_Cx G K MX3_init) (E : hp_End G K P) (hRm : hp_Rm K = hp_rm 2 89 1144) (hl : K.2.1.stackTraces = false) (hbase : G.2.1 ≤ q) (hp : ∀ h, Hs G h q (fun _ => mk_0) 0 0 → (∀ a, a < q → h a = h0 a) → P (.inl none) (q + 90, h)) : ∀ (e c : Nat) (h : Nat → Option va_E), c + e = 8 → h q = some (.inr (5, [.ref (q + 1), .int (nI 0), .int (nI 0)])) → h (q + 1) = some (.inl (G.2.2.1 5, 8, .inr (.inr (.inr (.inr (fun i => if i < c then some (q + 2 + 11 * i) else none)))))) → (∀ i, i < c → Mk G h (q + 2 + 11 * i) mk_0) → (∀ a, a < q → h a = h0 a) → V G K MX3_init (11 * e) (142 * e) (q + 2 + 11 * c, h) 15 [some (.ref q), some (.int (nI c))] [] := by
  intro e
  induction e with
  | zero =>
    intro c h h1 ho ha hm hO
    have e : c = 8 := by omega
    subst e
    refine v_iload_n C dX3_init_15 rfl ?_
    refine v_bipush (v := nI 8) C dX3_init_16 (by decide) ?_
    refine v_icmp_geN (tgt := 40) C dX3_init_18 (by decide) (by omega) (by omega) (fun c18 => ?_) (fun c18 => absurd c18 (by omega))
    exact v_vret C E dX3_init_40 rfl (hp _ ⟨ho, ha, hm, hbase, by decide, by decide⟩ hO)
  | succ e ih =>
    intro c h h1 ho ha hm hO
    refine v_iload_n C dX3_init_15 rfl ?_
    refine v_bipush (v := nI 8) C dX3_init_16 (by decide) ?_
    refine v_icmp_geN (tgt := 40) C dX3_init_18 (by decide) (by omega) (by omega) (fun c18 => absurd c18 (by omega)) (fun c18 => ?_)
    refine v_aload_n C dX3_init_21 rfl ?_
    refine v_get C 0 dX3_init_22 wd1_134 ho rfl (by decide) ⟨rfl, rfl, rfl⟩ rfl ?_
    refine v_iload_n C dX3_init_25 rfl ?_
    refine v_new (fs := [.int 0, .null, .null, .null, .int 0, .null, .null, .int 0, .null, .null, .null, .null, .null, .int 0, .int 0, .int 0, .long 0, .long 0]) C dX3_init_26 wd1_131 wd1_41 wd1_2 (ci := 6) rfl hp_fsX4 (by omega) (by omega) (fun h26 e26 g26 => ?_)
    have ho26 := (g26 q (by omega)).trans ho
    refine v_dup C dX3_init_29 rfl ?_
    refine v_callINv C (c_X4_init hl (by omega) e26) dX3_init_30 mX4_init rfl wd1_133 rfl rfl (Nat.le_of_ble_eq_true rfl) (hp_rmle hRm (by decide) (by decide)) (by omega) (by omega) (fun n30 h30 q30 => ?_)
    obtain ⟨k30, M30, u30⟩ := q30
    have k30 : n30 = q + 2 + 11 * c + 11 := k30
    subst k30
    refine v_aastM C dX3_init_33 (by omega) (((u30 _ (by omega)).trans (g26 _ (by omega))).trans ha) M30.o (show c < 8 by omega) (by decide) (fun h33 e33 g33 => ?_)
    have ef : va_up (fun i => if i < c then some (q + 2 + 11 * i) else none) c (some (q + 2 + 11 * c)) = (fun i => if i < (c + 1) then some (q + 2 + 11 * i) else none) := by
      funext i
      by_cases z : i = c
      · subst z
        simp only [va_up, if_pos]
        rw [if_pos (by omega)]
      · simp only [va_up, if_neg z]
        by_cases z2 : i < c
        · rw [if_pos z2, if_pos (by omega)]
        · rw [if_neg z2, if_neg (by omega)]
    rw [ef] at e33
    refine v_iincN C dX3_init_34 (by decide) rfl ?_
    refine v_goto (tgt := 15) C dX3_init_37 (by decide) ?_
    refine v_widen (bc' := 11 * e) (bs' := 142 * e) (by omega) (by omega) ?_
    rw [show q + 2 + 11 * c + 11 = q + 2 + 11 * (c + 1) from by omega]
    refine ih (c + 1) h33 (by omega) ((g33 _ (by omega)).trans ((u30 _ (by omega)).trans ho26)) e33 (fun i hi => ?_) (fun a k => (g33 a (by omega)).trans ((u30 a (by omega)).trans ((g26 a (by omega)).trans (hO a k))))
    by_cases z : i = c
    · subst z
      exact M30.same (fun a k1 k2 => g33 a (by omega))
    · exact (hm i (by omega)).same (fun a k1 k2 => (g33 a (by omega)).trans ((u30 a (by omega)).trans (g26 a (by omega))))
set_option maxHeartbeats 4000000 in
/-- a new history -/
theorem c_X3_init {G : hp_G} {l : Launch} (hl : l.stackTraces = false) {h0 : Nat → Option va_E} {q : Nat} (hbase : G.2.1 ≤ q) (hob : h0 q = some (.inr (5, [.null, .int 0, .int 0]))) : Ct G l yX3_init cX3_init 2 none 2 89 1144 [.ref q] (q + 1, h0) (hp_vq (fun τ => τ.1 = q + 90 ∧ Hs G τ.2 q (fun _ => mk_0) 0 0 ∧ ∀ a, a < q → τ.2 a = h0 a)) := by
  refine Ct.of rfl hl (by simp [Value.category]) (Nat.le_of_ble_eq_true rfl) (fun K C E hRm hKl => ?_)
  subst hKl
  refine v_aload_n C dX3_init_0 rfl ?_
  refine v_objInit C dX3_init_1 wd1_130 wd1_38 hp_objcode (Nat.le_of_ble_eq_true rfl) (by rw [hRm]; exact ⟨by decide, by decide⟩) ?_
  refine v_aload_n C dX3_init_4 rfl ?_
  refine v_bipush (v := nI 8) C dX3_init_5 (by decide) ?_
  refine v_anewM (N := 8) C dX3_init_7 wd1_131 (by decide) (by decide) (by decide) (Nat.le_of_ble_eq_true rfl) (Nat.le_of_ble_eq_true rfl) (fun h7 e7 g7 => ?_)
  refine v_putF C 0 dX3_init_10 wd1_134 hbase ((g7 _ (by omega)).trans hob) rfl (by decide) ⟨rfl, rfl, rfl, rfl⟩ rfl rfl rfl rfl rfl (Nat.le_of_ble_eq_true rfl) (fun h10 e10 g10 => ?_)
  refine v_iconst (v := nI 0) C dX3_init_13 (by decide) ?_
  refine v_istore_n C dX3_init_14 (by decide) ?_
  refine v_widen (bc' := 11 * 8) (bs' := 142 * 8) (by decide) (by decide) ?_
  exact loop_X3_init C E hRm hl hbase (fun h hH hO => ⟨rfl, rfl, hH, hO⟩) 8 0 _ rfl e10 (((g10 _ (by omega)).trans e7).trans (by congr)) (fun i hi => absurd hi (Nat.not_lt_zero i)) (fun a k => (g10 a (by omega)).trans (g7 a (by omega)))

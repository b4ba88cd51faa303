/-! ===== THE READER: commands, texts ===== -/
/-- the parameters of a command from the i-th on: whether they stand, where, the row -/
def rd_ns (s d : Nat → Nat) (b e i p : Nat) (ar : Nat → Int32) : Bool × Nat × (Nat → Int32) := match e with
  | 0 => (true, p, ar)
  | e + 1 => if s p = 32 then (if p + 1 < (rd_dg s (d i) (p + 1) 0).1 then rd_ns s d b e (i + 1) (rd_dg s (d i) (p + 1) 0).1 (upd ar (b + i) (nI (rd_dg s (d i) (p + 1) 0).2)) else (false, (rd_dg s (d i) (p + 1) 0).1, upd ar (b + i) (nI (rd_dg s (d i) (p + 1) 0).2))) else (false, p, ar)
theorem rd_ns_n {t d : Nat → Nat} {n b : Nat} : ∀ e i p ar, p ≤ n → (rd_ns (sg t n) d b e i p ar).2.1 ≤ n
  | 0, i, p, ar, h => h
  | e + 1, i, p, ar, h => by
    unfold rd_ns
    by_cases z : sg t n p = 32
    · have hp : p + 1 ≤ n := by
        by_cases y : p < n
        · exact y
        · rw [sg_0 (by omega)] at z
          exact absurd z (by decide)
      have h2 := rd_dg_n (t := t) (d i) (p + 1) 0 hp
      rw [if_pos z]
      split
      · exact rd_ns_n e (i + 1) _ _ h2
      · exact h2
    · rw [if_neg z]
      exact h
abbrev rd_C : Type := Bool × (Nat → Int32) × (Nat → Int32) × Nat
/-- a command at p -/
def rd_co (t : Nat → Nat) (n cnt : Nat) (cm ar : Nat → Int32) (p : Nat) : rd_C :=
  if (rd_ws (fun j => sg t n (p + j)) 8).1 = -1 then (false, cm, ar, p + (rd_ws (fun j => sg t n (p + j)) 8).2.2)
  else (fun k : Nat => (fun R : Bool × Nat × (Nat → Int32) => (R.1, upd cm cnt (rd_ws (fun j => sg t n (p + j)) 8).1, R.2.2, R.2.1)) (rd_ns (sg t n) (fun i => ks_t k i - 48) (cnt * 5) (ks_l k).length 0 (p + (rd_ws (fun j => sg t n (p + j)) 8).2.2) ar)) (rd_di (rd_ws (fun j => sg t n (p + j)) 8).1.toNatClampNeg)
theorem rd_co_n {t : Nat → Nat} {n cnt : Nat} {cm ar : Nat → Int32} {p : Nat} (h : p ≤ n) : (rd_co t n cnt cm ar p).2.2.2 ≤ n := by
  have h2 := rd_ws_n (t := t) h 8 (Nat.le_refl _)
  unfold rd_co
  split
  · exact h2
  · exact rd_ns_n _ _ _ _ h2
abbrev rd_T : Type := Bool × Nat × (Nat → Int32) × (Nat → Int32) × Nat
/-- a text from p on, at most f commands more -/
def rd_tx (t : Nat → Nat) (n f cnt : Nat) (cm ar : Nat → Int32) (p : Nat) : rd_T := match f with
  | 0 => (false, cnt, cm, ar, p)
  | f + 1 => (fun C : rd_C => if C.1 = true then (if C.2.2.2 = n then (true, cnt + 1, C.2.1, C.2.2.1, C.2.2.2) else if sg t n C.2.2.2 = 59 then rd_tx t n f (cnt + 1) C.2.1 C.2.2.1 (C.2.2.2 + 1) else (false, cnt + 1, C.2.1, C.2.2.1, C.2.2.2)) else (false, cnt, C.2.1, C.2.2.1, C.2.2.2)) (rd_co t n cnt cm ar p)
theorem rd_di_in : ∀ c, c < 8 → 15 ≤ rd_di c ∧ rd_di c < 29 ∧ (ks_l (rd_di c)).length ≤ 5 ∧ ∀ j, j < (ks_l (rd_di c)).length → 49 ≤ ks_t (rd_di c) j ∧ ks_t (rd_di c) j ≤ 52 := by decide +kernel
set_option maxHeartbeats 8000000 in
theorem loop_X1_readCommand {G : hp_G} {K : hp_C} {P : hp_P} {n0 : Nat} {h0 : Nat → Option va_E} {q tq tv k : Nat} {cm : Nat → Int32} {cnt : Nat} {cx : Int32} {ml : Int32} {t : Nat → Nat} {n m : Nat} {Z : Bool × Nat × (Nat → Int32)} (C : hp_Cx G K MX1_readCommand) (E : hp_End G K P) (hRm : hp_Rm K = hp_rm 7 0 0) (hl : K.2.1.stackTraces = false) (hsg : ∀ i, i < n → t i < 256) (hn : n ≤ 60) (hcnt : cnt < 12) (hk1 : 15 ≤ k) (hk2 : k < 29) (hk5 : (ks_l k).length ≤ 5) (hkd : ∀ j, j < (ks_l k).length → 49 ≤ ks_t k j ∧ ks_t k j ≤ 52) (hp : ∀ h, Cr G h q cm Z.2.2 cnt Z.2.1 → (∀ a, (a < q ∨ q + 3 ≤ a) → h a = h0 a) → P (.inl (some (.int (hp_b (Z.1 = true))))) (n0, h)) : ∀ (e i p : Nat) (ar : Nat → Int32) (h : Nat → Option va_E), i + e = (ks_l k).length → p ≤ n → rd_ns (sg t n) (fun i => ks_t k i - 48) (cnt * 5) e i p ar = Z → Cr G h q cm ar cnt p → Rt G h q tq tv ml t n m → (∀ a, (a < q ∨ q + 3 ≤ a) → h a = h0 a) → V G K MX1_readCommand 0 0 (n0, h) 31 [some (.ref q), some (.ref tq), some (.int cx), some (.ref (G.2.2.2 (2 * k + 2))), some (.int (nI i))] [] := by
  intro e
  induction e with
  | zero =>
    intro i p ar h h1 hpn hz hR hT hO
    have hW := hT.2.1.str (k := k) (by omega) (by omega)
    obtain ⟨wv, wx, wy, wa, w1, w2, w3, w4⟩ := id hW
    have hz2 : (true, p, ar) = Z := hz
    subst hz2
    refine v_iload C dX1_readCommand_31 rfl ?_
    refine v_aload_n C dX1_readCommand_33 rfl ?_
    refine v_callVi C (c_J0_length_8abf5 hl hW) dX1_readCommand_34 mJ0_length_8abf5 rfl w1 rfl wd6_147 rfl rfl (Nat.le_of_ble_eq_true rfl) (hp_rmle hRm (by decide) (by decide)) (Nat.le_of_ble_eq_true rfl) (Nat.le_of_ble_eq_true rfl) ?_
    refine v_icmp_geN (tgt := 80) C dX1_readCommand_37 (by decide) (by omega) (by omega) (fun c37 => ?_) (fun c37 => absurd c37 (by omega))
    refine v_iconst (v := nI 1) C dX1_readCommand_80 (by decide) ?_
    exact v_zret C E dX1_readCommand_81 rfl rfl (hp h hR hO)
  | succ e ih =>
    intro i p ar h h1 hpn hz hR hT hO
    have hbase := hR.base
    have hW := hT.2.1.str (k := k) (by omega) (by omega)
    obtain ⟨wv, wx, wy, wa, w1, w2, w3, w4⟩ := id hW
    obtain ⟨hd1, hd2⟩ := hkd i (by omega)
    unfold rd_ns at hz
    refine v_iload C dX1_readCommand_31 rfl ?_
    refine v_aload_n C dX1_readCommand_33 rfl ?_
    refine v_callVi C (c_J0_length_8abf5 hl hW) dX1_readCommand_34 mJ0_length_8abf5 rfl w1 rfl wd6_147 rfl rfl (Nat.le_of_ble_eq_true rfl) (hp_rmle hRm (by decide) (by decide)) (Nat.le_of_ble_eq_true rfl) (Nat.le_of_ble_eq_true rfl) ?_
    refine v_icmp_geN (tgt := 80) C dX1_readCommand_37 (by decide) (by omega) (by omega) (fun c37 => absurd c37 (by omega)) (fun c37 => ?_)
    refine v_iload C dX1_readCommand_40 rfl ?_
    refine v_iconst (v := nI 5) C dX1_readCommand_42 (by decide) ?_
    refine v_icmp_geN (tgt := 80) C dX1_readCommand_43 (by decide) (by omega) (by omega) (fun c43 => absurd c43 (by omega)) (fun c43 => ?_)
    refine v_aload_n C dX1_readCommand_46 rfl ?_
    refine v_aload_n C dX1_readCommand_47 rfl ?_
    refine v_aload_n C dX1_readCommand_48 rfl ?_
    refine v_iload C dX1_readCommand_49 rfl ?_
    refine v_callVi C (c_J0_charAt_5068e hl hW (by omega)) dX1_readCommand_51 mJ0_charAt_5068e rfl w1 rfl wd6_154 rfl rfl (Nat.le_of_ble_eq_true rfl) (hp_rmle hRm (by decide) (by decide)) (Nat.le_of_ble_eq_true rfl) (Nat.le_of_ble_eq_true rfl) ?_
    refine v_bipush (v := nI 48) C dX1_readCommand_54 (by decide) ?_
    refine v_isubN C dX1_readCommand_56 (by omega) ?_
    refine v_aload_n C dX1_readCommand_57 rfl ?_
    refine v_get (v := .int (nI (cnt))) C 2 dX1_readCommand_58 wd1_211 hR.o rfl (by decide) ⟨rfl, rfl, rfl⟩ rfl ?_
    refine v_iconst (v := nI 5) C dX1_readCommand_61 (by decide) ?_
    refine v_imulN C dX1_readCommand_62 ?_
    refine v_iload C dX1_readCommand_63 rfl ?_
    refine v_iaddN C dX1_readCommand_65 ?_
    refine v_callVq C (c_X1_readNumber hl hR hT hsg hn hpn (md := ks_t k i - 48) (pl := cnt * 5 + i) (by omega) (by omega)) dX1_readCommand_66 mX1_readNumber rfl hR.o rfl wd6_178 rfl rfl (Nat.le_of_ble_eq_true rfl) (hp_rmle hRm (by decide) (by decide)) (Nat.le_of_ble_eq_true rfl) (Nat.le_of_ble_eq_true rfl) (fun r66 n66 h66 q66 => ?_)
    obtain ⟨en66, w66, z66⟩ := q66
    have en2 := Eq.symm en66
    have en2 : n0 = n66 := en2
    subst en2
    have hT66 := hT.same (h' := h66) (fun a _ k2 => w66 a k2)
    have hO66 : ∀ a, (a < q ∨ q + 3 ≤ a) → h66 a = h0 a := fun a ha => (w66 a ha).trans (hO a ha)
    refine v_if_ne (tgt := 74) C dX1_readCommand_69 (by decide) (fun c69 => ?_) (fun c69 => ?_)
    · rcases z66 with ⟨z1, z2, z3⟩ | ⟨z1, z2, z3⟩
      · exact absurd z2 c69
      have z4 : p + 1 < (rd_dg (sg t n) (ks_t k i - 48) (p + 1) 0).1 := by by_cases y : p + 1 < (rd_dg (sg t n) (ks_t k i - 48) (p + 1) 0).1; (exact y); exact absurd (z2.trans (hp_b_f y)) c69
      rw [if_pos z1, if_pos z4] at hz
      refine v_iincN C dX1_readCommand_74 (by decide) rfl ?_
      refine v_goto (tgt := 31) C dX1_readCommand_77 (by decide) ?_
      exact ih (i + 1) _ _ _ (by omega) (rd_dg_n _ _ _ (by by_cases y : p < n; (exact y); rw [sg_0 (by omega)] at z1; exact absurd z1 (by decide))) hz z3 hT66 hO66
    · refine v_iconst (v := nI 0) C dX1_readCommand_72 (by decide) ?_
      rcases z66 with ⟨z1, z2, z3⟩ | ⟨z1, z2, z3⟩
      · rw [if_neg z1] at hz
        subst hz
        exact v_zret C E dX1_readCommand_73 rfl rfl (hp _ z3 hO66)
      · have z4 : ¬ p + 1 < (rd_dg (sg t n) (ks_t k i - 48) (p + 1) 0).1 := fun y => absurd (z2.symm.trans c69) (by rw [hp_b_t y]; decide)
        rw [if_pos z1, if_neg z4] at hz
        subst hz
        exact v_zret C E dX1_readCommand_73 rfl rfl (hp _ z3 hO66)
set_option maxHeartbeats 4000000 in
/-- a command at the place -/
theorem c_X1_readCommand {G : hp_G} {l : Launch} (hl : l.stackTraces = false) {n0 : Nat} {h0 : Nat → Option va_E} {q tq tv : Nat} {cm ar : Nat → Int32} {cnt ps : Nat} {ml : Int32} {t : Nat → Nat} {n m : Nat} (hR : Cr G h0 q cm ar cnt ps) (hT : Rt G h0 q tq tv ml t n m) (hsg : ∀ i, i < n → t i < 256) (hn : n ≤ 60) (hps : ps ≤ n) (hcnt : cnt < 12) : Ct G l yX1_readCommand cX1_readCommand 5 (some .boolean) 7 0 0 [.ref q, .ref tq] (n0, h0) (hp_iq (fun r τ => r = hp_b ((rd_co t n cnt cm ar ps).1 = true) ∧ τ.1 = n0 ∧ Cr G τ.2 q (rd_co t n cnt cm ar ps).2.1 (rd_co t n cnt cm ar ps).2.2.1 cnt (rd_co t n cnt cm ar ps).2.2.2 ∧ ∀ a, (a < q ∨ q + 3 ≤ a) → τ.2 a = h0 a)) := by
  have hbase := hR.base
  have hO : ∀ a, (a < q ∨ q + 3 ≤ a) → h0 a = h0 a := fun _ _ => rfl
  have hbc := hR.bc
  have hnm := hT.1.2.2.1
  have hm3 := hT.1.2.2.2.1
  refine Ct.of rfl hl (by simp [Value.category]) (Nat.le_of_ble_eq_true rfl) (fun K C E hRm hKl => ?_)
  subst hKl
  refine v_aload_n C dX1_readCommand_0 rfl ?_
  refine v_aload_n C dX1_readCommand_1 rfl ?_
  refine v_callVq C (c_X1_readWord hl hR hT hsg hn hps) dX1_readCommand_2 mX1_readWord rfl hR.o rfl wd6_127 rfl rfl (Nat.le_of_ble_eq_true rfl) (hp_rmle hRm (by decide) (by decide)) (Nat.le_of_ble_eq_true rfl) (Nat.le_of_ble_eq_true rfl) (fun r2 n2 h2 q2 => ?_)
  obtain ⟨er2, en2, R2, w2⟩ := q2
  have en3 := Eq.symm en2
  have en3 : n0 = n2 := en3
  subst en3
  subst er2
  have T2 := hT.same (h' := h2) (fun a _ k2 => w2 a k2)
  refine v_istore_n C dX1_readCommand_5 (by decide) ?_
  refine v_iload_n C dX1_readCommand_6 rfl ?_
  refine v_iconst (v := (-1)) C dX1_readCommand_7 (by decide) ?_
  refine v_icmp_ne (tgt := 13) C dX1_readCommand_8 (by decide) (fun c8 => ?_) (fun c8 => ?_)
  · obtain ⟨c, hc, ec⟩ := (rd_ws_num (s := (fun j => sg t n (ps + j))) 8).resolve_left c8
    rw [ec]
    refine v_aload_n C dX1_readCommand_13 rfl ?_
    refine v_get C 0 dX1_readCommand_14 wd1_209 R2.o rfl (by decide) ⟨rfl, rfl, rfl⟩ rfl ?_
    refine v_aload_n C dX1_readCommand_17 rfl ?_
    refine v_get (v := .int (nI (cnt))) C 2 dX1_readCommand_18 wd1_211 R2.o rfl (by decide) ⟨rfl, rfl, rfl⟩ rfl ?_
    refine v_iload_n C dX1_readCommand_21 rfl ?_
    refine v_iastN C dX1_readCommand_22 (by omega) R2.a_cm (by omega) (by decide) (fun h22 e22 g22 => ?_)
    have R22 := R2.s_cm e22 g22
    have T22 := T2.same (h' := h22) (fun a k1 k2 => g22 a (by omega))
    have hO22 : ∀ a, (a < q ∨ q + 3 ≤ a) → h22 a = h0 a := fun a ha => (g22 a (by omega)).trans (w2 a ha)
    refine v_iload_n C dX1_readCommand_23 rfl ?_
    refine v_callSa C (c_X0_digitsOf hl hc) dX1_readCommand_24 mX0_digitsOf wd6_170 rfl rfl (Nat.le_of_ble_eq_true rfl) (hp_rmle hRm (by decide) (by decide)) (Nat.le_of_ble_eq_true rfl) (Nat.le_of_ble_eq_true rfl) (fun r24 n24 h24 q24 => ?_)
    obtain ⟨er24, eh24⟩ := q24
    cases eh24
    subst er24
    refine v_astore_n C dX1_readCommand_27 (by decide) ?_
    refine v_iconst (v := nI 0) C dX1_readCommand_28 (by decide) ?_
    refine v_istore C dX1_readCommand_29 (by decide) ?_
    obtain ⟨dk1, dk2, dk3, dk4⟩ := rd_di_in c hc
    have eco : rd_co t n cnt cm ar ps = (fun R : Bool × Nat × (Nat → Int32) => (R.1, upd cm cnt (nI c), R.2.2, R.2.1)) (rd_ns (sg t n) (fun i => ks_t (rd_di c) i - 48) (cnt * 5) (ks_l (rd_di c)).length 0 (ps + (rd_ws (fun j => sg t n (ps + j)) 8).2.2) ar) := by
      unfold rd_co
      rw [if_neg c8, ec, nI_clamp (by omega)]
    rw [eco] at E
    exact loop_X1_readCommand (k := rd_di c) C E hRm hl hsg hn hcnt dk1 dk2 dk3 dk4 (fun h9 hR9 hO9 => ⟨_, rfl, rfl, rfl, hR9, hO9⟩) _ 0 _ ar _ (Nat.zero_add _) (rd_ws_n (t := t) hps 8 (Nat.le_refl _)) rfl R22 T22 hO22
  · refine v_iconst (v := nI 0) C dX1_readCommand_11 (by decide) ?_
    exact v_zret C E dX1_readCommand_12 rfl rfl ⟨_, rfl, by rw [show rd_co t n cnt cm ar ps = _ from if_pos c8]; rfl, rfl, by rw [show rd_co t n cnt cm ar ps = _ from if_pos c8]; exact R2, w2⟩
set_option maxHeartbeats 8000000 in
theorem loop_X1_read {G : hp_G} {K : hp_C} {P : hp_P} {n0 : Nat} {h0 : Nat → Option va_E} {q tq tv : Nat} {ml : Int32} {t : Nat → Nat} {n m : Nat} {Z : rd_T} (C : hp_Cx G K MX1_read) (E : hp_End G K P) (hRm : hp_Rm K = hp_rm 8 0 0) (hl : K.2.1.stackTraces = false) (hsg : ∀ i, i < n → t i < 256) (hn : n ≤ 60) (hp : ∀ h, Cr G h q Z.2.2.1 Z.2.2.2.1 Z.2.1 Z.2.2.2.2 → (∀ a, (a < q ∨ q + 3 ≤ a) → h a = h0 a) → P (.inl (some (.int (hp_b (Z.1 = true))))) (n0, h)) : ∀ (e c p : Nat) (cm ar : Nat → Int32) (h : Nat → Option va_E), c + e = 12 → p ≤ n → rd_tx t n e c cm ar p = Z → Cr G h q cm ar c p → Rt G h q tq tv ml t n m → (∀ a, (a < q ∨ q + 3 ≤ a) → h a = h0 a) → V G K MX1_read 0 0 (n0, h) 10 [some (.ref q), some (.ref tq)] [] := by
  intro e
  induction e with
  | zero =>
    intro c p cm ar h h1 hpn hz hR hT hO
    have hbc := hR.bc
    have hz2 : (false, c, cm, ar, p) = Z := hz
    subst hz2
    refine v_aload_n C dX1_read_10 rfl ?_
    refine v_get (v := .int (nI (c))) C 2 dX1_read_11 wd1_211 hR.o rfl (by decide) ⟨rfl, rfl, rfl⟩ rfl ?_
    refine v_bipush (v := nI 12) C dX1_read_14 (by decide) ?_
    refine v_icmp_geN (tgt := 80) C dX1_read_16 (by decide) (by omega) (by omega) (fun c16 => ?_) (fun c16 => absurd c16 (by omega))
    refine v_iconst (v := nI 0) C dX1_read_80 (by decide) ?_
    exact v_zret C E dX1_read_81 rfl rfl (hp h hR hO)
  | succ e ih =>
    intro c p cm ar h h1 hpn hz hR hT hO
    have hbase := hR.base
    have hcn := rd_co_n (t := t) (n := n) (cnt := c) (cm := cm) (ar := ar) hpn
    have hnm := hT.1.2.2.1
    have hm3 := hT.1.2.2.2.1
    unfold rd_tx at hz
    replace hz := hz
    have hz : (if (rd_co t n c cm ar p).1 = true then (if (rd_co t n c cm ar p).2.2.2 = n then (true, c + 1, (rd_co t n c cm ar p).2.1, (rd_co t n c cm ar p).2.2.1, (rd_co t n c cm ar p).2.2.2) else if sg t n (rd_co t n c cm ar p).2.2.2 = 59 then rd_tx t n e (c + 1) (rd_co t n c cm ar p).2.1 (rd_co t n c cm ar p).2.2.1 ((rd_co t n c cm ar p).2.2.2 + 1) else (false, c + 1, (rd_co t n c cm ar p).2.1, (rd_co t n c cm ar p).2.2.1, (rd_co t n c cm ar p).2.2.2)) else (false, c, (rd_co t n c cm ar p).2.1, (rd_co t n c cm ar p).2.2.1, (rd_co t n c cm ar p).2.2.2) : rd_T) = Z := hz
    refine v_aload_n C dX1_read_10 rfl ?_
    refine v_get (v := .int (nI (c))) C 2 dX1_read_11 wd1_211 hR.o rfl (by decide) ⟨rfl, rfl, rfl⟩ rfl ?_
    refine v_bipush (v := nI 12) C dX1_read_14 (by decide) ?_
    refine v_icmp_geN (tgt := 80) C dX1_read_16 (by decide) (by omega) (by omega) (fun c16 => absurd c16 (by omega)) (fun c16 => ?_)
    refine v_aload_n C dX1_read_19 rfl ?_
    refine v_aload_n C dX1_read_20 rfl ?_
    refine v_callVq C (c_X1_readCommand hl hR hT hsg hn hpn (by omega)) dX1_read_21 mX1_readCommand rfl hR.o rfl wd6_123 rfl rfl (Nat.le_of_ble_eq_true rfl) (hp_rmle hRm (by decide) (by decide)) (Nat.le_of_ble_eq_true rfl) (Nat.le_of_ble_eq_true rfl) (fun r21 n21 h21 q21 => ?_)
    obtain ⟨er21, en21, R21, w21⟩ := q21
    have en3 := Eq.symm en21
    have en3 : n0 = n21 := en3
    subst en3
    subst er21
    generalize rd_co t n c cm ar p = cc at hz hcn R21 ⊢
    have T21 := hT.same (h' := h21) (fun a _ k2 => w21 a k2)
    have O21 : ∀ a, (a < q ∨ q + 3 ≤ a) → h21 a = h0 a := fun a ha => (w21 a ha).trans (hO a ha)
    refine v_if_neB (tgt := 29) C dX1_read_24 (by decide) (fun c24 => ?_) (fun c24 => ?_)
    · rw [if_pos c24] at hz
      refine v_aload_n C dX1_read_29 rfl ?_
      refine v_dup C dX1_read_30 rfl ?_
      refine v_get (v := .int (nI (c))) C 2 dX1_read_31 wd1_211 R21.o rfl (by decide) ⟨rfl, rfl, rfl⟩ rfl ?_
      refine v_iconst (v := nI 1) C dX1_read_34 (by decide) ?_
      refine v_iaddN C dX1_read_35 ?_
      refine v_put C 2 dX1_read_36 wd1_211 hbase R21.o rfl (by decide) ⟨rfl, rfl, rfl, rfl⟩ rfl rfl rfl (Nat.le_of_ble_eq_true rfl) (fun h36 e36 g36 => ?_)
      have R36 := R21.p_cnt e36 g36 (by omega)
      have T36 := T21.same (h' := h36) (fun a k1 k2 => g36 a (by omega))
      have hO36 : ∀ a, (a < q ∨ q + 3 ≤ a) → h36 a = h0 a := fun a ha => (g36 a (by omega)).trans (O21 a ha)
      refine v_aload_n C dX1_read_39 rfl ?_
      refine v_get (v := .int (nI (cc.2.2.2))) C 3 dX1_read_40 wd1_213 R36.o rfl (by decide) ⟨rfl, rfl, rfl⟩ rfl ?_
      refine v_aload_n C dX1_read_43 rfl ?_
      refine v_callVi C (c_J4_length_8abf5 hl T36.1.1) dX1_read_44 mJ4_length_8abf5 rfl T36.1.1 rfl wd6_151 rfl rfl (Nat.le_of_ble_eq_true rfl) (hp_rmle hRm (by decide) (by decide)) (Nat.le_of_ble_eq_true rfl) (Nat.le_of_ble_eq_true rfl) ?_
      refine v_icmp_neN (tgt := 52) C dX1_read_47 (by decide) (by omega) (by omega) (fun c47 => ?_) (fun c47 => ?_)
      · rw [if_neg c47] at hz
        refine v_aload_n C dX1_read_52 rfl ?_
        refine v_aload_n C dX1_read_53 rfl ?_
        refine v_get (v := .int (nI (cc.2.2.2))) C 3 dX1_read_54 wd1_213 R36.o rfl (by decide) ⟨rfl, rfl, rfl⟩ rfl ?_
        refine v_callSi C (c_X1_signAt hl T36.1 (by omega)) dX1_read_57 mX1_signAt wd6_148 rfl rfl (Nat.le_of_ble_eq_true rfl) (hp_rmle hRm (by decide) (by decide)) (Nat.le_of_ble_eq_true rfl) (Nat.le_of_ble_eq_true rfl) ?_
        have hs57 := sg_256 hsg cc.2.2.2
        refine v_bipush (v := nI 59) C dX1_read_60 (by decide) ?_
        refine v_icmp_eqN (tgt := 67) C dX1_read_62 (by decide) (by omega) (by omega) (fun c62 => ?_) (fun c62 => ?_)
        · rw [if_pos c62] at hz
          refine v_aload_n C dX1_read_67 rfl ?_
          refine v_dup C dX1_read_68 rfl ?_
          refine v_get (v := .int (nI (cc.2.2.2))) C 3 dX1_read_69 wd1_213 R36.o rfl (by decide) ⟨rfl, rfl, rfl⟩ rfl ?_
          refine v_iconst (v := nI 1) C dX1_read_72 (by decide) ?_
          refine v_iaddN C dX1_read_73 ?_
          refine v_put C 3 dX1_read_74 wd1_213 hbase R36.o rfl (by decide) ⟨rfl, rfl, rfl, rfl⟩ rfl rfl rfl (Nat.le_of_ble_eq_true rfl) (fun h74 e74 g74 => ?_)
          have R74 := R36.p_ps e74 g74 (by omega)
          have T74 := T36.same (h' := h74) (fun a k1 k2 => g74 a (by omega))
          have hO74 : ∀ a, (a < q ∨ q + 3 ≤ a) → h74 a = h0 a := fun a ha => (g74 a (by omega)).trans (hO36 a ha)
          refine v_goto (tgt := 10) C dX1_read_77 (by decide) ?_
          exact ih (c + 1) (cc.2.2.2 + 1) _ _ _ (by omega) (by by_cases y : cc.2.2.2 < n; (exact y); rw [sg_0 (by omega)] at c62; exact absurd c62 (by decide)) hz R74 T74 hO74
        · rw [if_neg c62] at hz
          refine v_iconst (v := nI 0) C dX1_read_65 (by decide) ?_
          subst hz
          exact v_zret C E dX1_read_66 rfl rfl (hp _ R36 hO36)
      · rw [if_pos c47] at hz
        refine v_iconst (v := nI 1) C dX1_read_50 (by decide) ?_
        subst hz
        exact v_zret C E dX1_read_51 rfl rfl (hp _ R36 hO36)
    · rw [if_neg c24] at hz
      refine v_iconst (v := nI 0) C dX1_read_27 (by decide) ?_
      subst hz
      exact v_zret C E dX1_read_28 rfl rfl (hp _ R21 O21)
set_option maxHeartbeats 4000000 in
/-- a whole text -/
theorem c_X1_read {G : hp_G} {l : Launch} (hl : l.stackTraces = false) {n0 : Nat} {h0 : Nat → Option va_E} {q tq tv : Nat} {cm ar : Nat → Int32} {cnt ps : Nat} {ml : Int32} {t : Nat → Nat} {n m : Nat} (hR : Cr G h0 q cm ar cnt ps) (hT : Rt G h0 q tq tv ml t n m) (hsg : ∀ i, i < n → t i < 256) (hn : n ≤ 60) : Ct G l yX1_read cX1_read 2 (some .boolean) 8 0 0 [.ref q, .ref tq] (n0, h0) (hp_iq (fun r τ => r = hp_b ((rd_tx t n 12 0 cm ar 0).1 = true) ∧ τ.1 = n0 ∧ Cr G τ.2 q (rd_tx t n 12 0 cm ar 0).2.2.1 (rd_tx t n 12 0 cm ar 0).2.2.2.1 (rd_tx t n 12 0 cm ar 0).2.1 (rd_tx t n 12 0 cm ar 0).2.2.2.2 ∧ ∀ a, (a < q ∨ q + 3 ≤ a) → τ.2 a = h0 a)) := by
  have hbase := hR.base
  have hO : ∀ a, (a < q ∨ q + 3 ≤ a) → h0 a = h0 a := fun _ _ => rfl
  have hbc := hR.bc
  have hnm := hT.1.2.2.1
  have hm3 := hT.1.2.2.2.1
  refine Ct.of rfl hl (by simp [Value.category]) (Nat.le_of_ble_eq_true rfl) (fun K C E hRm hKl => ?_)
  subst hKl
  refine v_aload_n C dX1_read_0 rfl ?_
  refine v_iconst (v := nI 0) C dX1_read_1 (by decide) ?_
  refine v_put C 3 dX1_read_2 wd1_213 hbase hR.o rfl (by decide) ⟨rfl, rfl, rfl, rfl⟩ rfl rfl rfl (Nat.le_of_ble_eq_true rfl) (fun h2 e2 g2 => ?_)
  have R2 := hR.p_ps e2 g2 (by omega)
  have T2 := hT.same (h' := h2) (fun a k1 k2 => g2 a (by omega))
  have hO2 : ∀ a, (a < q ∨ q + 3 ≤ a) → h2 a = h0 a := fun a ha => (g2 a (by omega)).trans (hO a ha)
  refine v_aload_n C dX1_read_5 rfl ?_
  refine v_iconst (v := nI 0) C dX1_read_6 (by decide) ?_
  refine v_put C 2 dX1_read_7 wd1_211 hbase R2.o rfl (by decide) ⟨rfl, rfl, rfl, rfl⟩ rfl rfl rfl (Nat.le_of_ble_eq_true rfl) (fun h7 e7 g7 => ?_)
  have R7 := R2.p_cnt e7 g7 (by omega)
  have T7 := T2.same (h' := h7) (fun a k1 k2 => g7 a (by omega))
  have hO7 : ∀ a, (a < q ∨ q + 3 ≤ a) → h7 a = h0 a := fun a ha => (g7 a (by omega)).trans (hO2 a ha)
  exact loop_X1_read C E hRm hl hsg hn (fun h9 hR9 hO9 => ⟨_, rfl, rfl, rfl, hR9, hO9⟩) 12 0 0 cm ar _ rfl (Nat.zero_le _) rfl R7 T7 hO7
set_option maxHeartbeats 4000000 in
/-- a command of the text -/
theorem c_X1_commandAt {G : hp_G} {l : Launch} (hl : l.stackTraces = false) {n0 : Nat} {h : Nat → Option va_E} {q : Nat} {cm ar : Nat → Int32} {cnt ps : Nat} (hR : Cr G h q cm ar cnt ps) {i : Nat} (hi : i < cnt) : Ct G l yX1_commandAt cX1_commandAt 2 (some .int) 1 0 0 [.ref q, .int (nI i)] (n0, h) (hp_ri (cm i) (n0, h)) := by
  have hbc := hR.bc
  refine Ct.of rfl hl (by simp [Value.category]) (Nat.le_of_ble_eq_true rfl) (fun K C E hRm hKl => ?_)
  subst hKl
  refine v_iload_n C dX1_commandAt_0 rfl ?_
  refine v_aload_n C dX1_commandAt_1 rfl ?_
  refine v_get (v := .int (nI (cnt))) C 2 dX1_commandAt_2 wd1_211 hR.o rfl (by decide) ⟨rfl, rfl, rfl⟩ rfl ?_
  refine v_callSNi C (c_X7_isNumber hl (nI i) cnt) dX1_commandAt_5 mX7_isNumber wd6_152 rfl rfl (Nat.le_of_ble_eq_true rfl) (hp_rmle hRm (by decide) (by decide)) (Nat.le_of_ble_eq_true rfl) (Nat.le_of_ble_eq_true rfl) ?_
  refine v_if_eqB (tgt := 20) C dX1_commandAt_8 (by decide) (fun c8 => absurd c8 (fun z => z (hp_num_nI hi (by omega)))) (fun c8 => ?_)
  refine v_aload_n C dX1_commandAt_11 rfl ?_
  refine v_get C 0 dX1_commandAt_12 wd1_209 hR.o rfl (by decide) ⟨rfl, rfl, rfl⟩ rfl ?_
  refine v_iload_n C dX1_commandAt_15 rfl ?_
  refine v_ialdN C dX1_commandAt_16 hR.a_cm (by omega) (by decide) ?_
  refine v_goto (tgt := 21) C dX1_commandAt_17 (by decide) ?_
  exact v_iret C E dX1_commandAt_21 rfl ⟨rfl, rfl⟩
set_option maxHeartbeats 4000000 in
/-- a parameter of a command -/
theorem c_X1_argumentAt {G : hp_G} {l : Launch} (hl : l.stackTraces = false) {n0 : Nat} {h : Nat → Option va_E} {q : Nat} {cm ar : Nat → Int32} {cnt ps : Nat} (hR : Cr G h q cm ar cnt ps) {i j : Nat} (hi : i < 12) (hj : j < 5) : Ct G l yX1_argumentAt cX1_argumentAt 4 (some .int) 1 0 0 [.ref q, .int (nI i), .int (nI j)] (n0, h) (hp_ri (ar (i * 5 + j)) (n0, h)) := by
  refine Ct.of rfl hl (by simp [Value.category]) (Nat.le_of_ble_eq_true rfl) (fun K C E hRm hKl => ?_)
  subst hKl
  refine v_iload_n C dX1_argumentAt_0 rfl ?_
  refine v_iconst (v := nI 5) C dX1_argumentAt_1 (by decide) ?_
  refine v_imulN C dX1_argumentAt_2 ?_
  refine v_iload_n C dX1_argumentAt_3 rfl ?_
  refine v_iaddN C dX1_argumentAt_4 ?_
  refine v_istore_n C dX1_argumentAt_5 (by decide) ?_
  refine v_iload_n C dX1_argumentAt_6 rfl ?_
  refine v_aload_n C dX1_argumentAt_7 rfl ?_
  refine v_get C 1 dX1_argumentAt_8 wd1_210 hR.o rfl (by decide) ⟨rfl, rfl, rfl⟩ rfl ?_
  refine v_alen C 2 dX1_argumentAt_11 (by decide) hR.a_ar ?_
  refine v_callSNi C (c_X7_isNumber hl (nI (i * 5 + j)) 60) dX1_argumentAt_12 mX7_isNumber wd6_152 rfl rfl (Nat.le_of_ble_eq_true rfl) (hp_rmle hRm (by decide) (by decide)) (Nat.le_of_ble_eq_true rfl) (Nat.le_of_ble_eq_true rfl) ?_
  refine v_if_eqB (tgt := 27) C dX1_argumentAt_15 (by decide) (fun c15 => absurd c15 (fun z => z (hp_num_nI (show i * 5 + j < 60 by omega) (by decide)))) (fun c15 => ?_)
  refine v_aload_n C dX1_argumentAt_18 rfl ?_
  refine v_get C 1 dX1_argumentAt_19 wd1_210 hR.o rfl (by decide) ⟨rfl, rfl, rfl⟩ rfl ?_
  refine v_iload_n C dX1_argumentAt_22 rfl ?_
  refine v_ialdN C dX1_argumentAt_23 hR.a_ar (by omega) (by decide) ?_
  refine v_goto (tgt := 28) C dX1_argumentAt_24 (by decide) ?_
  exact v_iret C E dX1_argumentAt_28 rfl ⟨rfl, rfl⟩
set_option maxHeartbeats 4000000 in
/-- a new reader -/
theorem c_X1_init {G : hp_G} {l : Launch} (hl : l.stackTraces = false) {h0 : Nat → Option va_E} {q : Nat} (hbase : G.2.1 ≤ q) (hob : h0 q = some (.inr (4, [.null, .null, .int 0, .int 0]))) : Ct G l yX1_init cX1_init 1 none 1 2 72 [.ref q] (q + 1, h0) (hp_vq (fun τ => τ.1 = q + 3 ∧ Cr G τ.2 q (fun _ => 0) (fun _ => 0) 0 0 ∧ ∀ a, a < q → τ.2 a = h0 a)) := by
  refine Ct.of rfl hl (by simp [Value.category]) (Nat.le_of_ble_eq_true rfl) (fun K C E hRm hKl => ?_)
  subst hKl
  refine v_aload_n C dX1_init_0 rfl ?_
  refine v_objInit C dX1_init_1 wd1_208 wd1_38 hp_objcode (Nat.le_of_ble_eq_true rfl) (by rw [hRm]; exact ⟨by decide, by decide⟩) ?_
  refine v_aload_n C dX1_init_4 rfl ?_
  refine v_bipush (v := nI 12) C dX1_init_5 (by decide) ?_
  refine v_newa (atype := .int) (N := 12) C 2 (.inl (fun _ => 0)) dX1_init_7 wd1_124 (by decide) rfl (fun _ => rfl) (by decide) (by decide) (by decide) (Nat.le_of_ble_eq_true rfl) (Nat.le_of_ble_eq_true rfl) (fun h7 e7 g7 => ?_)
  refine v_putF C 0 dX1_init_9 wd1_209 hbase ((g7 _ (by omega)).trans hob) rfl (by decide) ⟨rfl, rfl, rfl, rfl⟩ rfl rfl rfl rfl rfl (Nat.le_of_ble_eq_true rfl) (fun h9 e9 g9 => ?_)
  refine v_aload_n C dX1_init_12 rfl ?_
  refine v_bipush (v := nI 60) C dX1_init_13 (by decide) ?_
  refine v_newa (atype := .int) (N := 60) C 2 (.inl (fun _ => 0)) dX1_init_15 wd1_124 (by decide) rfl (fun _ => rfl) (by decide) (by decide) (by decide) (Nat.le_of_ble_eq_true rfl) (Nat.le_of_ble_eq_true rfl) (fun h15 e15 g15 => ?_)
  refine v_putF C 1 dX1_init_17 wd1_210 hbase ((g15 _ (by omega)).trans e9) rfl (by decide) ⟨rfl, rfl, rfl, rfl⟩ rfl rfl rfl rfl rfl (Nat.le_of_ble_eq_true rfl) (fun h17 e17 g17 => ?_)
  exact v_vret C E dX1_init_20 rfl ⟨rfl, rfl, ⟨e17, ((g17 _ (by omega)).trans ((g15 _ (by omega)).trans ((g9 _ (by omega)).trans e7))), ((g17 _ (by omega)).trans e15), hbase, by decide, by decide⟩, fun a ha => ((g17 a (by omega)).trans ((g15 a (by omega)).trans ((g9 a (by omega)).trans (g7 a (by omega)))))⟩

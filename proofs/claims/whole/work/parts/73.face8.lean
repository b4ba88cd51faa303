/-! ===== THE CLASS: a new one ===== -/
set_option maxHeartbeats 8000000 in
/-- a new exchange -/
theorem c_X7_init {G : hp_G} {l : Launch} (hl : l.stackTraces = false) {h0 : Nat → Option va_E} {x : Nat} (hbase : G.2.1 ≤ x) (hob : h0 x = some (.inr (9, [.null, .null, .null, .null, .null, .null, .null, .null, .null, .int (0), .int (0), .int (0)]))) (hK : Kc G h0) : Ct G l yX7_init cX7_init 1 none 3 147 4000 [.ref x] (x + 1, h0) (hp_vq (fun τ => τ.1 = x + 148 ∧ ∃ rk, τ.2 = rk ∧ Ex G τ.2 x (x + 148) mk_0 mk_0 mk_0 (fun _ => mk_0) 0 0 (fun _ => 0) 0 (fun _ => 0) 0 0 (-1) (-1) rk ∧ ∀ a, a < x → τ.2 a = h0 a)) := by
  refine Ct.of rfl hl (by simp [Value.category]) (Nat.le_of_ble_eq_true rfl) (fun K C E hRm hKl => ?_)
  subst hKl
  have XX := hob
  have KC := hK
  have LO : ∀ a, a < x → h0 a = h0 a := fun _ _ => rfl
  refine v_aload_n C dX7_init_0 rfl ?_
  refine v_objInit C dX7_init_1 wd1_37 wd1_38 hp_objcode (Nat.le_of_ble_eq_true rfl) (by rw [hRm]; exact ⟨by decide, by decide⟩) ?_
  refine v_aload_n C dX7_init_4 rfl ?_
  refine v_new (fs := [.int 0, .null, .null, .null, .int 0, .null, .null, .int 0, .null, .null, .null, .null, .null, .int 0, .int 0, .int 0, .long 0, .long 0]) C dX7_init_5 wd1_40 wd1_41 wd1_2 (ci := 6) rfl hp_fsX4 (Nat.le_of_ble_eq_true rfl) (Nat.le_of_ble_eq_true rfl) (fun h5 e5 g5 => ?_)
  refine v_dup C dX7_init_8 rfl ?_
  refine v_callINv C (c_X4_init hl (by omega) e5) dX7_init_9 mX4_init rfl wd1_42 rfl rfl (Nat.le_of_ble_eq_true rfl) (hp_rmle hRm (by decide) (by decide)) (Nat.le_of_ble_eq_true rfl) (Nat.le_of_ble_eq_true rfl) (fun n9 h9 q9 => ?_)
  obtain ⟨k9, F0, u9⟩ := q9
  have z9 : n9 = x + 12 := k9
  clear k9
  subst z9
  have XX : h9 x = _ := (u9 x (by omega)).trans ((g5 x (by omega)).trans XX)
  refine v_putF C 0 dX7_init_12 wd2_17 hbase XX rfl (by decide) ⟨rfl, rfl, rfl, rfl⟩ rfl rfl rfl rfl rfl (Nat.le_of_ble_eq_true rfl) (fun h12 e12 g12 => ?_)
  have U0 : ∀ a, a ≠ x → a < x + 1 → h12 a = _ := fun a k1 k2 => (g12 a k1).trans ((u9 a (by omega)).trans (g5 a (by omega)))
  have XX : h12 x = some (.inr (9, [.ref (x + 1), .null, .null, .null, .null, .null, .null, .null, .null, .int (0), .int (0), .int (0)])) := e12
  have KC := KC.same (fun a k => U0 a (by omega) (by omega))
  have LO := fun a (ha : a < x) => (U0 a (by omega) (by omega)).trans (LO a ha)
  have F0 := F0.same (fun a k1 k2 => g12 a (by omega))
  refine v_aload_n C dX7_init_15 rfl ?_
  refine v_new (fs := [.int 0, .null, .null, .null, .int 0, .null, .null, .int 0, .null, .null, .null, .null, .null, .int 0, .int 0, .int 0, .long 0, .long 0]) C dX7_init_16 wd1_40 wd1_41 wd1_2 (ci := 6) rfl hp_fsX4 (Nat.le_of_ble_eq_true rfl) (Nat.le_of_ble_eq_true rfl) (fun h16 e16 g16 => ?_)
  refine v_dup C dX7_init_19 rfl ?_
  refine v_callINv C (c_X4_init hl (by omega) e16) dX7_init_20 mX4_init rfl wd1_42 rfl rfl (Nat.le_of_ble_eq_true rfl) (hp_rmle hRm (by decide) (by decide)) (Nat.le_of_ble_eq_true rfl) (Nat.le_of_ble_eq_true rfl) (fun n20 h20 q20 => ?_)
  obtain ⟨k20, F1, u20⟩ := q20
  have z20 : n20 = x + 23 := k20
  clear k20
  subst z20
  have XX : h20 x = _ := (u20 x (by omega)).trans ((g16 x (by omega)).trans XX)
  refine v_putF C 1 dX7_init_23 wd2_18 hbase XX rfl (by decide) ⟨rfl, rfl, rfl, rfl⟩ rfl rfl rfl rfl rfl (Nat.le_of_ble_eq_true rfl) (fun h23 e23 g23 => ?_)
  have U1 : ∀ a, a ≠ x → a < x + 12 → h23 a = _ := fun a k1 k2 => (g23 a k1).trans ((u20 a (by omega)).trans (g16 a (by omega)))
  have XX : h23 x = some (.inr (9, [.ref (x + 1), .ref (x + 12), .null, .null, .null, .null, .null, .null, .null, .int (0), .int (0), .int (0)])) := e23
  have F0 := F0.same (fun a k1 k2 => U1 a (by omega) (by omega))
  have KC := KC.same (fun a k => U1 a (by omega) (by omega))
  have LO := fun a (ha : a < x) => (U1 a (by omega) (by omega)).trans (LO a ha)
  have F1 := F1.same (fun a k1 k2 => g23 a (by omega))
  refine v_aload_n C dX7_init_26 rfl ?_
  refine v_new (fs := [.int 0, .null, .null, .null, .int 0, .null, .null, .int 0, .null, .null, .null, .null, .null, .int 0, .int 0, .int 0, .long 0, .long 0]) C dX7_init_27 wd1_40 wd1_41 wd1_2 (ci := 6) rfl hp_fsX4 (Nat.le_of_ble_eq_true rfl) (Nat.le_of_ble_eq_true rfl) (fun h27 e27 g27 => ?_)
  refine v_dup C dX7_init_30 rfl ?_
  refine v_callINv C (c_X4_init hl (by omega) e27) dX7_init_31 mX4_init rfl wd1_42 rfl rfl (Nat.le_of_ble_eq_true rfl) (hp_rmle hRm (by decide) (by decide)) (Nat.le_of_ble_eq_true rfl) (Nat.le_of_ble_eq_true rfl) (fun n31 h31 q31 => ?_)
  obtain ⟨k31, F2, u31⟩ := q31
  have z31 : n31 = x + 34 := k31
  clear k31
  subst z31
  have XX : h31 x = _ := (u31 x (by omega)).trans ((g27 x (by omega)).trans XX)
  refine v_putF C 2 dX7_init_34 wd2_19 hbase XX rfl (by decide) ⟨rfl, rfl, rfl, rfl⟩ rfl rfl rfl rfl rfl (Nat.le_of_ble_eq_true rfl) (fun h34 e34 g34 => ?_)
  have U2 : ∀ a, a ≠ x → a < x + 23 → h34 a = _ := fun a k1 k2 => (g34 a k1).trans ((u31 a (by omega)).trans (g27 a (by omega)))
  have XX : h34 x = some (.inr (9, [.ref (x + 1), .ref (x + 12), .ref (x + 23), .null, .null, .null, .null, .null, .null, .int (0), .int (0), .int (0)])) := e34
  have F0 := F0.same (fun a k1 k2 => U2 a (by omega) (by omega))
  have F1 := F1.same (fun a k1 k2 => U2 a (by omega) (by omega))
  have KC := KC.same (fun a k => U2 a (by omega) (by omega))
  have LO := fun a (ha : a < x) => (U2 a (by omega) (by omega)).trans (LO a ha)
  have F2 := F2.same (fun a k1 k2 => g34 a (by omega))
  refine v_aload_n C dX7_init_37 rfl ?_
  refine v_new (fs := [.null, .int 0, .int 0]) C dX7_init_38 wd1_125 wd1_126 wd1_3 (ci := 5) rfl hp_fsX3 (Nat.le_of_ble_eq_true rfl) (Nat.le_of_ble_eq_true rfl) (fun h38 e38 g38 => ?_)
  refine v_dup C dX7_init_41 rfl ?_
  refine v_callIv C (c_X3_init hl (by omega) e38) dX7_init_42 mX3_init rfl wd1_127 rfl rfl (Nat.le_of_ble_eq_true rfl) (hp_rmle hRm (by decide) (by decide)) (Nat.le_of_ble_eq_true rfl) (Nat.le_of_ble_eq_true rfl) (fun n42 h42 q42 => ?_)
  obtain ⟨k42, F3, u42⟩ := q42
  have z42 : n42 = x + 124 := k42
  clear k42
  subst z42
  have XX : h42 x = _ := (u42 x (by omega)).trans ((g38 x (by omega)).trans XX)
  refine v_putF C 3 dX7_init_45 wd2_20 hbase XX rfl (by decide) ⟨rfl, rfl, rfl, rfl⟩ rfl rfl rfl rfl rfl (Nat.le_of_ble_eq_true rfl) (fun h45 e45 g45 => ?_)
  have U3 : ∀ a, a ≠ x → a < x + 34 → h45 a = _ := fun a k1 k2 => (g45 a k1).trans ((u42 a (by omega)).trans (g38 a (by omega)))
  have XX : h45 x = some (.inr (9, [.ref (x + 1), .ref (x + 12), .ref (x + 23), .ref (x + 34), .null, .null, .null, .null, .null, .int (0), .int (0), .int (0)])) := e45
  have F0 := F0.same (fun a k1 k2 => U3 a (by omega) (by omega))
  have F1 := F1.same (fun a k1 k2 => U3 a (by omega) (by omega))
  have F2 := F2.same (fun a k1 k2 => U3 a (by omega) (by omega))
  have KC := KC.same (fun a k => U3 a (by omega) (by omega))
  have LO := fun a (ha : a < x) => (U3 a (by omega) (by omega)).trans (LO a ha)
  have F3 := F3.same (fun a k1 k2 => g45 a (by omega))
  refine v_aload_n C dX7_init_48 rfl ?_
  refine v_new (fs := [.null, .int 0, .null, .null, .int 0]) C dX7_init_49 wd1_145 wd1_146 wd1_4 (ci := 7) rfl hp_fsX5 (Nat.le_of_ble_eq_true rfl) (Nat.le_of_ble_eq_true rfl) (fun h49 e49 g49 => ?_)
  refine v_dup C dX7_init_52 rfl ?_
  refine v_callINv C (c_X5_init hl (by omega) e49) dX7_init_53 mX5_init rfl wd1_147 rfl rfl (Nat.le_of_ble_eq_true rfl) (hp_rmle hRm (by decide) (by decide)) (Nat.le_of_ble_eq_true rfl) (Nat.le_of_ble_eq_true rfl) (fun n53 h53 q53 => ?_)
  obtain ⟨k53, F4, u53⟩ := q53
  have z53 : n53 = x + 128 := k53
  clear k53
  subst z53
  have XX : h53 x = _ := (u53 x (by omega)).trans ((g49 x (by omega)).trans XX)
  refine v_putF C 4 dX7_init_56 wd2_21 hbase XX rfl (by decide) ⟨rfl, rfl, rfl, rfl⟩ rfl rfl rfl rfl rfl (Nat.le_of_ble_eq_true rfl) (fun h56 e56 g56 => ?_)
  have U4 : ∀ a, a ≠ x → a < x + 124 → h56 a = _ := fun a k1 k2 => (g56 a k1).trans ((u53 a (by omega)).trans (g49 a (by omega)))
  have XX : h56 x = some (.inr (9, [.ref (x + 1), .ref (x + 12), .ref (x + 23), .ref (x + 34), .ref (x + 124), .null, .null, .null, .null, .int (0), .int (0), .int (0)])) := e56
  have F0 := F0.same (fun a k1 k2 => U4 a (by omega) (by omega))
  have F1 := F1.same (fun a k1 k2 => U4 a (by omega) (by omega))
  have F2 := F2.same (fun a k1 k2 => U4 a (by omega) (by omega))
  have F3 := F3.same (fun a k1 k2 => U4 a (by omega) (by omega))
  have KC := KC.same (fun a k => U4 a (by omega) (by omega))
  have LO := fun a (ha : a < x) => (U4 a (by omega) (by omega)).trans (LO a ha)
  have F4 := F4.same (fun a k1 k2 => g56 a (by omega))
  refine v_aload_n C dX7_init_59 rfl ?_
  refine v_new (fs := [.int 0, .null, .int 0, .null, .null, .null, .null, .int 0, .null]) C dX7_init_60 wd1_167 wd1_168 wd1_5 (ci := 8) rfl hp_fsX6 (Nat.le_of_ble_eq_true rfl) (Nat.le_of_ble_eq_true rfl) (fun h60 e60 g60 => ?_)
  refine v_dup C dX7_init_63 rfl ?_
  refine v_callINv C (c_X6_init hl (by omega) e60) dX7_init_64 mX6_init rfl wd1_169 rfl rfl (Nat.le_of_ble_eq_true rfl) (hp_rmle hRm (by decide) (by decide)) (Nat.le_of_ble_eq_true rfl) (Nat.le_of_ble_eq_true rfl) (fun n64 h64 q64 => ?_)
  obtain ⟨k64, F5, u64⟩ := q64
  have z64 : n64 = x + 141 := k64
  clear k64
  subst z64
  have XX : h64 x = _ := (u64 x (by omega)).trans ((g60 x (by omega)).trans XX)
  refine v_putF C 5 dX7_init_67 wd2_22 hbase XX rfl (by decide) ⟨rfl, rfl, rfl, rfl⟩ rfl rfl rfl rfl rfl (Nat.le_of_ble_eq_true rfl) (fun h67 e67 g67 => ?_)
  have U5 : ∀ a, a ≠ x → a < x + 128 → h67 a = _ := fun a k1 k2 => (g67 a k1).trans ((u64 a (by omega)).trans (g60 a (by omega)))
  have XX : h67 x = some (.inr (9, [.ref (x + 1), .ref (x + 12), .ref (x + 23), .ref (x + 34), .ref (x + 124), .ref (x + 128), .null, .null, .null, .int (0), .int (0), .int (0)])) := e67
  have F0 := F0.same (fun a k1 k2 => U5 a (by omega) (by omega))
  have F1 := F1.same (fun a k1 k2 => U5 a (by omega) (by omega))
  have F2 := F2.same (fun a k1 k2 => U5 a (by omega) (by omega))
  have F3 := F3.same (fun a k1 k2 => U5 a (by omega) (by omega))
  have F4 := F4.same (fun a k1 k2 => U5 a (by omega) (by omega))
  have KC := KC.same (fun a k => U5 a (by omega) (by omega))
  have LO := fun a (ha : a < x) => (U5 a (by omega) (by omega)).trans (LO a ha)
  have F5 := F5.same (fun a k1 k2 => g67 a (by omega))
  refine v_aload_n C dX7_init_70 rfl ?_
  refine v_new (fs := [.null, .null, .int 0, .int 0]) C dX7_init_71 wd1_203 wd1_204 wd1_6 (ci := 4) rfl hp_fsX1 (Nat.le_of_ble_eq_true rfl) (Nat.le_of_ble_eq_true rfl) (fun h71 e71 g71 => ?_)
  refine v_dup C dX7_init_74 rfl ?_
  refine v_callINv C (c_X1_init hl (by omega) e71) dX7_init_75 mX1_init rfl wd1_205 rfl rfl (Nat.le_of_ble_eq_true rfl) (hp_rmle hRm (by decide) (by decide)) (Nat.le_of_ble_eq_true rfl) (Nat.le_of_ble_eq_true rfl) (fun n75 h75 q75 => ?_)
  obtain ⟨k75, F6, u75⟩ := q75
  have z75 : n75 = x + 144 := k75
  clear k75
  subst z75
  have XX : h75 x = _ := (u75 x (by omega)).trans ((g71 x (by omega)).trans XX)
  refine v_putF C 6 dX7_init_78 wd2_23 hbase XX rfl (by decide) ⟨rfl, rfl, rfl, rfl⟩ rfl rfl rfl rfl rfl (Nat.le_of_ble_eq_true rfl) (fun h78 e78 g78 => ?_)
  have U6 : ∀ a, a ≠ x → a < x + 141 → h78 a = _ := fun a k1 k2 => (g78 a k1).trans ((u75 a (by omega)).trans (g71 a (by omega)))
  have XX : h78 x = some (.inr (9, [.ref (x + 1), .ref (x + 12), .ref (x + 23), .ref (x + 34), .ref (x + 124), .ref (x + 128), .ref (x + 141), .null, .null, .int (0), .int (0), .int (0)])) := e78
  have F0 := F0.same (fun a k1 k2 => U6 a (by omega) (by omega))
  have F1 := F1.same (fun a k1 k2 => U6 a (by omega) (by omega))
  have F2 := F2.same (fun a k1 k2 => U6 a (by omega) (by omega))
  have F3 := F3.same (fun a k1 k2 => U6 a (by omega) (by omega))
  have F4 := F4.same (fun a k1 k2 => U6 a (by omega) (by omega))
  have F5 := F5.same (fun a k1 k2 => U6 a (by omega) (by omega))
  have KC := KC.same (fun a k => U6 a (by omega) (by omega))
  have LO := fun a (ha : a < x) => (U6 a (by omega) (by omega)).trans (LO a ha)
  have F6 := F6.same (fun a k1 k2 => g78 a (by omega))
  refine v_aload_n C dX7_init_81 rfl ?_
  refine v_new (fs := [.null, .int 0, .int 0, .int 0]) C dX7_init_82 wd1_224 wd1_225 wd1_8 (ci := 1) rfl hp_fsJ4 (Nat.le_of_ble_eq_true rfl) (Nat.le_of_ble_eq_true rfl) (fun h82 e82 g82 => ?_)
  refine v_dup C dX7_init_85 rfl ?_
  refine v_callIv C (c_J4_init_da8c8 hl (by omega) e82) dX7_init_86 mJ4_init_da8c8 rfl wd1_226 rfl rfl (Nat.le_of_ble_eq_true rfl) (hp_rmle hRm (by decide) (by decide)) (Nat.le_of_ble_eq_true rfl) (Nat.le_of_ble_eq_true rfl) (fun n86 h86 q86 => ?_)
  obtain ⟨k86, F7, u86⟩ := q86
  have z86 : n86 = x + 146 := k86
  clear k86
  subst z86
  have XX : h86 x = _ := (u86 x (by omega)).trans ((g82 x (by omega)).trans XX)
  refine v_putF C 7 dX7_init_89 wd2_24 hbase XX rfl (by decide) ⟨rfl, rfl, rfl, rfl⟩ rfl rfl rfl rfl rfl (Nat.le_of_ble_eq_true rfl) (fun h89 e89 g89 => ?_)
  have U7 : ∀ a, a ≠ x → a < x + 144 → h89 a = _ := fun a k1 k2 => (g89 a k1).trans ((u86 a (by omega)).trans (g82 a (by omega)))
  have XX : h89 x = some (.inr (9, [.ref (x + 1), .ref (x + 12), .ref (x + 23), .ref (x + 34), .ref (x + 124), .ref (x + 128), .ref (x + 141), .ref (x + 144), .null, .int (0), .int (0), .int (0)])) := e89
  have F0 := F0.same (fun a k1 k2 => U7 a (by omega) (by omega))
  have F1 := F1.same (fun a k1 k2 => U7 a (by omega) (by omega))
  have F2 := F2.same (fun a k1 k2 => U7 a (by omega) (by omega))
  have F3 := F3.same (fun a k1 k2 => U7 a (by omega) (by omega))
  have F4 := F4.same (fun a k1 k2 => U7 a (by omega) (by omega))
  have F5 := F5.same (fun a k1 k2 => U7 a (by omega) (by omega))
  have F6 := F6.same (fun a k1 k2 => U7 a (by omega) (by omega))
  have KC := KC.same (fun a k => U7 a (by omega) (by omega))
  have LO := fun a (ha : a < x) => (U7 a (by omega) (by omega)).trans (LO a ha)
  have F7 := F7.same (g89 _ (by omega)) (g89 _ (by omega))
  refine v_aload_n C dX7_init_92 rfl ?_
  refine v_new (fs := [.null, .int 0, .int 0, .int 0]) C dX7_init_93 wd1_224 wd1_225 wd1_8 (ci := 1) rfl hp_fsJ4 (Nat.le_of_ble_eq_true rfl) (Nat.le_of_ble_eq_true rfl) (fun h93 e93 g93 => ?_)
  refine v_dup C dX7_init_96 rfl ?_
  refine v_callIv C (c_J4_init_da8c8 hl (by omega) e93) dX7_init_97 mJ4_init_da8c8 rfl wd1_226 rfl rfl (Nat.le_of_ble_eq_true rfl) (hp_rmle hRm (by decide) (by decide)) (Nat.le_of_ble_eq_true rfl) (Nat.le_of_ble_eq_true rfl) (fun n97 h97 q97 => ?_)
  obtain ⟨k97, F8, u97⟩ := q97
  have z97 : n97 = x + 148 := k97
  clear k97
  subst z97
  have XX : h97 x = _ := (u97 x (by omega)).trans ((g93 x (by omega)).trans XX)
  refine v_putF C 8 dX7_init_100 wd2_25 hbase XX rfl (by decide) ⟨rfl, rfl, rfl, rfl⟩ rfl rfl rfl rfl rfl (Nat.le_of_ble_eq_true rfl) (fun h100 e100 g100 => ?_)
  have U8 : ∀ a, a ≠ x → a < x + 146 → h100 a = _ := fun a k1 k2 => (g100 a k1).trans ((u97 a (by omega)).trans (g93 a (by omega)))
  have XX : h100 x = some (.inr (9, [.ref (x + 1), .ref (x + 12), .ref (x + 23), .ref (x + 34), .ref (x + 124), .ref (x + 128), .ref (x + 141), .ref (x + 144), .ref (x + 146), .int (0), .int (0), .int (0)])) := e100
  have F0 := F0.same (fun a k1 k2 => U8 a (by omega) (by omega))
  have F1 := F1.same (fun a k1 k2 => U8 a (by omega) (by omega))
  have F2 := F2.same (fun a k1 k2 => U8 a (by omega) (by omega))
  have F3 := F3.same (fun a k1 k2 => U8 a (by omega) (by omega))
  have F4 := F4.same (fun a k1 k2 => U8 a (by omega) (by omega))
  have F5 := F5.same (fun a k1 k2 => U8 a (by omega) (by omega))
  have F6 := F6.same (fun a k1 k2 => U8 a (by omega) (by omega))
  have F7 := F7.same (U8 _ (by omega) (by omega)) (U8 _ (by omega) (by omega))
  have KC := KC.same (fun a k => U8 a (by omega) (by omega))
  have LO := fun a (ha : a < x) => (U8 a (by omega) (by omega)).trans (LO a ha)
  have F8 := F8.same (g100 _ (by omega)) (g100 _ (by omega))
  refine v_aload_n C dX7_init_103 rfl ?_
  refine v_iconst (v := (-1)) C dX7_init_104 (by decide) ?_
  refine v_put C 10 dX7_init_105 wd2_27 hbase XX rfl (by decide) ⟨rfl, rfl, rfl, rfl⟩ rfl rfl rfl (Nat.le_of_ble_eq_true rfl) (fun h105 e105 g105 => ?_)
  have U105 : ∀ a, a ≠ x → a < x + 148 → h105 a = _ := fun a k1 k2 => g105 a k1
  have XX : h105 x = some (.inr (9, [.ref (x + 1), .ref (x + 12), .ref (x + 23), .ref (x + 34), .ref (x + 124), .ref (x + 128), .ref (x + 141), .ref (x + 144), .ref (x + 146), .int (0), .int (-1), .int (0)])) := e105
  have F0 := F0.same (fun a k1 k2 => U105 a (by omega) (by omega))
  have F1 := F1.same (fun a k1 k2 => U105 a (by omega) (by omega))
  have F2 := F2.same (fun a k1 k2 => U105 a (by omega) (by omega))
  have F3 := F3.same (fun a k1 k2 => U105 a (by omega) (by omega))
  have F4 := F4.same (fun a k1 k2 => U105 a (by omega) (by omega))
  have F5 := F5.same (fun a k1 k2 => U105 a (by omega) (by omega))
  have F6 := F6.same (fun a k1 k2 => U105 a (by omega) (by omega))
  have F7 := F7.same (U105 _ (by omega) (by omega)) (U105 _ (by omega) (by omega))
  have F8 := F8.same (U105 _ (by omega) (by omega)) (U105 _ (by omega) (by omega))
  have KC := KC.same (fun a k => U105 a (by omega) (by omega))
  have LO := fun a (ha : a < x) => (U105 a (by omega) (by omega)).trans (LO a ha)
  refine v_aload_n C dX7_init_108 rfl ?_
  refine v_iconst (v := (-1)) C dX7_init_109 (by decide) ?_
  refine v_put C 11 dX7_init_110 wd2_28 hbase XX rfl (by decide) ⟨rfl, rfl, rfl, rfl⟩ rfl rfl rfl (Nat.le_of_ble_eq_true rfl) (fun h110 e110 g110 => ?_)
  have U110 : ∀ a, a ≠ x → a < x + 148 → h110 a = _ := fun a k1 k2 => g110 a k1
  have XX : h110 x = some (.inr (9, [.ref (x + 1), .ref (x + 12), .ref (x + 23), .ref (x + 34), .ref (x + 124), .ref (x + 128), .ref (x + 141), .ref (x + 144), .ref (x + 146), .int (0), .int (-1), .int (-1)])) := e110
  have F0 := F0.same (fun a k1 k2 => U110 a (by omega) (by omega))
  have F1 := F1.same (fun a k1 k2 => U110 a (by omega) (by omega))
  have F2 := F2.same (fun a k1 k2 => U110 a (by omega) (by omega))
  have F3 := F3.same (fun a k1 k2 => U110 a (by omega) (by omega))
  have F4 := F4.same (fun a k1 k2 => U110 a (by omega) (by omega))
  have F5 := F5.same (fun a k1 k2 => U110 a (by omega) (by omega))
  have F6 := F6.same (fun a k1 k2 => U110 a (by omega) (by omega))
  have F7 := F7.same (U110 _ (by omega) (by omega)) (U110 _ (by omega) (by omega))
  have F8 := F8.same (U110 _ (by omega) (by omega)) (U110 _ (by omega) (by omega))
  have KC := KC.same (fun a k => U110 a (by omega) (by omega))
  have LO := fun a (ha : a < x) => (U110 a (by omega) (by omega)).trans (LO a ha)
  exact v_vret C E dX7_init_113 rfl ⟨rfl, rfl, h110, rfl, ⟨XX, F0, F1, F2, F3, ⟨_, _, _, _, _, F4⟩, ⟨_, _, _, _, _, _, _, _, _, F5⟩, ⟨⟨_, _, _, _, F6⟩, fun a _ _ => rfl⟩, ⟨_, _, _, _, _, _, F7, F8, Or.inl rfl, Or.inl rfl, by omega⟩, KC, hbase, Nat.le_refl _⟩, LO⟩

/-! ===== THE SETTLEMENT ===== -/
def St (G : hp_G) (h : Nat → Option va_E) (q : Nat) (v : Nat → Int32) (cnt : Nat) (gi : Nat → Int32) (su : Nat → Int32) (mg : Nat) : Prop := h q = some (.inr (7, [.ref (q + 1), .int (nI cnt), .ref (q + 2), .ref (q + 3), .int (nI mg)])) ∧ h (q + 1) = some (.inl (G.2.2.1 2, 6, .inl v)) ∧ h (q + 2) = some (.inl (G.2.2.1 2, 64, .inl gi)) ∧ h (q + 3) = some (.inl (G.2.2.1 2, 6, .inl su)) ∧ G.2.1 ≤ q ∧ cnt ≤ 6
theorem St.o {G : hp_G} {h : Nat → Option va_E} {q : Nat} {v : Nat → Int32} {cnt : Nat} {gi : Nat → Int32} {su : Nat → Int32} {mg : Nat} (H : St G h q v cnt gi su mg) : h q = some (.inr (7, [.ref (q + 1), .int (nI cnt), .ref (q + 2), .ref (q + 3), .int (nI mg)])) := H.1
theorem St.a_v {G : hp_G} {h : Nat → Option va_E} {q : Nat} {v : Nat → Int32} {cnt : Nat} {gi : Nat → Int32} {su : Nat → Int32} {mg : Nat} (H : St G h q v cnt gi su mg) : h (q + 1) = some (.inl (G.2.2.1 2, 6, .inl v)) := H.2.1
theorem St.a_gi {G : hp_G} {h : Nat → Option va_E} {q : Nat} {v : Nat → Int32} {cnt : Nat} {gi : Nat → Int32} {su : Nat → Int32} {mg : Nat} (H : St G h q v cnt gi su mg) : h (q + 2) = some (.inl (G.2.2.1 2, 64, .inl gi)) := H.2.2.1
theorem St.a_su {G : hp_G} {h : Nat → Option va_E} {q : Nat} {v : Nat → Int32} {cnt : Nat} {gi : Nat → Int32} {su : Nat → Int32} {mg : Nat} (H : St G h q v cnt gi su mg) : h (q + 3) = some (.inl (G.2.2.1 2, 6, .inl su)) := H.2.2.2.1
theorem St.base {G : hp_G} {h : Nat → Option va_E} {q : Nat} {v : Nat → Int32} {cnt : Nat} {gi : Nat → Int32} {su : Nat → Int32} {mg : Nat} (H : St G h q v cnt gi su mg) : G.2.1 ≤ q := H.2.2.2.2.1
theorem St.bc {G : hp_G} {h : Nat → Option va_E} {q : Nat} {v : Nat → Int32} {cnt : Nat} {gi : Nat → Int32} {su : Nat → Int32} {mg : Nat} (H : St G h q v cnt gi su mg) : cnt ≤ 6 := H.2.2.2.2.2
theorem St.same {G : hp_G} {h h' : Nat → Option va_E} {q : Nat} {v : Nat → Int32} {cnt : Nat} {gi : Nat → Int32} {su : Nat → Int32} {mg : Nat} (H : St G h q v cnt gi su mg) (hs : ∀ a, q ≤ a → a < q + 4 → h' a = h a) : St G h' q v cnt gi su mg := ⟨(hs _ (by omega) (by omega)).trans H.o, (hs _ (by omega) (by omega)).trans H.a_v, (hs _ (by omega) (by omega)).trans H.a_gi, (hs _ (by omega) (by omega)).trans H.a_su, H.base, H.bc⟩
theorem St.s_v {G : hp_G} {h h' : Nat → Option va_E} {q : Nat} {v : Nat → Int32} {cnt : Nat} {gi : Nat → Int32} {su : Nat → Int32} {mg : Nat} {x0 : Nat → Int32} (H : St G h q v cnt gi su mg) (h1 : h' (q + 1) = some (.inl (G.2.2.1 2, 6, .inl x0))) (h2 : ∀ b, b ≠ q + 1 → h' b = h b) : St G h' q x0 cnt gi su mg := ⟨(h2 _ (by omega)).trans H.o, h1, (h2 _ (by omega)).trans H.a_gi, (h2 _ (by omega)).trans H.a_su, H.base, H.bc⟩
theorem St.s_gi {G : hp_G} {h h' : Nat → Option va_E} {q : Nat} {v : Nat → Int32} {cnt : Nat} {gi : Nat → Int32} {su : Nat → Int32} {mg : Nat} {x0 : Nat → Int32} (H : St G h q v cnt gi su mg) (h1 : h' (q + 2) = some (.inl (G.2.2.1 2, 64, .inl x0))) (h2 : ∀ b, b ≠ q + 2 → h' b = h b) : St G h' q v cnt x0 su mg := ⟨(h2 _ (by omega)).trans H.o, (h2 _ (by omega)).trans H.a_v, h1, (h2 _ (by omega)).trans H.a_su, H.base, H.bc⟩
theorem St.s_su {G : hp_G} {h h' : Nat → Option va_E} {q : Nat} {v : Nat → Int32} {cnt : Nat} {gi : Nat → Int32} {su : Nat → Int32} {mg : Nat} {x0 : Nat → Int32} (H : St G h q v cnt gi su mg) (h1 : h' (q + 3) = some (.inl (G.2.2.1 2, 6, .inl x0))) (h2 : ∀ b, b ≠ q + 3 → h' b = h b) : St G h' q v cnt gi x0 mg := ⟨(h2 _ (by omega)).trans H.o, (h2 _ (by omega)).trans H.a_v, (h2 _ (by omega)).trans H.a_gi, h1, H.base, H.bc⟩
theorem St.p_cnt {G : hp_G} {h h' : Nat → Option va_E} {q : Nat} {v : Nat → Int32} {cnt : Nat} {gi : Nat → Int32} {su : Nat → Int32} {mg : Nat} {x0 : Nat} (H : St G h q v cnt gi su mg) (h1 : h' q = some (.inr (7, [.ref (q + 1), .int (nI x0), .ref (q + 2), .ref (q + 3), .int (nI mg)]))) (h2 : ∀ b, b ≠ q → h' b = h b) (k_bc : x0 ≤ 6) : St G h' q v x0 gi su mg := ⟨h1, (h2 _ (by omega)).trans H.a_v, (h2 _ (by omega)).trans H.a_gi, (h2 _ (by omega)).trans H.a_su, H.base, k_bc⟩
theorem St.p_mg {G : hp_G} {h h' : Nat → Option va_E} {q : Nat} {v : Nat → Int32} {cnt : Nat} {gi : Nat → Int32} {su : Nat → Int32} {mg : Nat} {x0 : Nat} (H : St G h q v cnt gi su mg) (h1 : h' q = some (.inr (7, [.ref (q + 1), .int (nI cnt), .ref (q + 2), .ref (q + 3), .int (nI x0)]))) (h2 : ∀ b, b ≠ q → h' b = h b)  : St G h' q v cnt gi su x0 := ⟨h1, (h2 _ (by omega)).trans H.a_v, (h2 _ (by omega)).trans H.a_gi, (h2 _ (by omega)).trans H.a_su, H.base, H.bc⟩
set_option maxHeartbeats 4000000 in
/-- a new settlement -/
theorem c_X5_init {G : hp_G} {l : Launch} (hl : l.stackTraces = false) {h0 : Nat → Option va_E} {q : Nat} (hbase : G.2.1 ≤ q) (hob : h0 q = some (.inr (7, [.null, .int 0, .null, .null, .int 0]))) : Ct G l yX5_init cX5_init 1 none 1 3 76 [.ref q] (q + 1, h0) (hp_vq (fun τ => τ.1 = q + 4 ∧ St G τ.2 q (fun _ => 0) 0 (fun _ => 0) (fun _ => 0) 0 ∧ ∀ a, a < q → τ.2 a = h0 a)) := by
  refine Ct.of rfl hl (by simp [Value.category]) (Nat.le_of_ble_eq_true rfl) (fun K C E hRm hKl => ?_)
  subst hKl
  refine v_aload_n C dX5_init_0 rfl ?_
  refine v_objInit C dX5_init_1 wd1_150 wd1_38 hp_objcode (Nat.le_of_ble_eq_true rfl) (by rw [hRm]; exact ⟨by decide, by decide⟩) ?_
  refine v_aload_n C dX5_init_4 rfl ?_
  refine v_bipush (v := nI 6) C dX5_init_5 (by decide) ?_
  refine v_newa (atype := .int) (N := 6) C 2 (.inl (fun _ => 0)) dX5_init_7 wd1_124 (by decide) rfl (fun _ => rfl) (by decide) (by decide) (by decide) (Nat.le_of_ble_eq_true rfl) (Nat.le_of_ble_eq_true rfl) (fun h7 e7 g7 => ?_)
  refine v_putF C 0 dX5_init_9 wd1_151 hbase ((g7 _ (by omega)).trans hob) rfl (by decide) ⟨rfl, rfl, rfl, rfl⟩ rfl rfl rfl rfl rfl (Nat.le_of_ble_eq_true rfl) (fun h9 e9 g9 => ?_)
  refine v_aload_n C dX5_init_12 rfl ?_
  refine v_bipush (v := nI 64) C dX5_init_13 (by decide) ?_
  refine v_newa (atype := .int) (N := 64) C 2 (.inl (fun _ => 0)) dX5_init_15 wd1_124 (by decide) rfl (fun _ => rfl) (by decide) (by decide) (by decide) (Nat.le_of_ble_eq_true rfl) (Nat.le_of_ble_eq_true rfl) (fun h15 e15 g15 => ?_)
  refine v_putF C 2 dX5_init_17 wd1_153 hbase ((g15 _ (by omega)).trans e9) rfl (by decide) ⟨rfl, rfl, rfl, rfl⟩ rfl rfl rfl rfl rfl (Nat.le_of_ble_eq_true rfl) (fun h17 e17 g17 => ?_)
  refine v_aload_n C dX5_init_20 rfl ?_
  refine v_bipush (v := nI 6) C dX5_init_21 (by decide) ?_
  refine v_newa (atype := .int) (N := 6) C 2 (.inl (fun _ => 0)) dX5_init_23 wd1_124 (by decide) rfl (fun _ => rfl) (by decide) (by decide) (by decide) (Nat.le_of_ble_eq_true rfl) (Nat.le_of_ble_eq_true rfl) (fun h23 e23 g23 => ?_)
  refine v_putF C 3 dX5_init_25 wd1_154 hbase ((g23 _ (by omega)).trans e17) rfl (by decide) ⟨rfl, rfl, rfl, rfl⟩ rfl rfl rfl rfl rfl (Nat.le_of_ble_eq_true rfl) (fun h25 e25 g25 => ?_)
  exact v_vret C E dX5_init_28 rfl ⟨rfl, rfl, ⟨e25, ((g25 _ (by omega)).trans ((g23 _ (by omega)).trans ((g17 _ (by omega)).trans ((g15 _ (by omega)).trans ((g9 _ (by omega)).trans e7))))), ((g25 _ (by omega)).trans ((g23 _ (by omega)).trans ((g17 _ (by omega)).trans e15))), ((g25 _ (by omega)).trans e23), hbase, by decide⟩, fun a ha => ((g25 a (by omega)).trans ((g23 a (by omega)).trans ((g17 a (by omega)).trans ((g15 a (by omega)).trans ((g9 a (by omega)).trans (g7 a (by omega)))))))⟩
/-- the variations that are not 0, of the first t traders -/
def nz (M : mk_T) (t : Nat) : List Int32 := match t with
  | 0 => []
  | t + 1 => if mk_va M (nI t) (mk_hz M) = 0 then nz M t else nz M t ++ [mk_va M (nI t) (mk_hz M)]
theorem nz_len (M : mk_T) : ∀ t, (nz M t).length ≤ t
  | 0 => Nat.le_refl 0
  | t + 1 => by
    have h := nz_len M t
    unfold nz
    split
    · omega
    · rw [List.length_append]
      show _ + 1 ≤ t + 1
      omega
theorem nz_app {l : List Int32} {v : Nat → Int32} {x : Int32} (h : ∀ i, i < l.length → v i = l.getD i 0) : ∀ i, i < (l ++ [x]).length → upd v l.length x i = (l ++ [x]).getD i 0 := by
  intro i hi
  rw [List.length_append] at hi
  have hi : i < l.length + 1 := hi
  by_cases q : i = l.length
  · subst q
    rw [pk_us]
    simp
  · rw [pk_un q, h i (by omega)]
    simp only [List.getD_eq_getElem?_getD]
    rw [List.getElem?_append_left (by omega)]
set_option maxHeartbeats 4000000 in
theorem loop_X5_collect {G : hp_G} {K : hp_C} {n : Nat} {h0 : Nat → Option va_E} {q o : Nat} {M : mk_T} {gi su : Nat → Int32} {mg : Nat} (C : hp_Cx G K MX5_collect) (hRm : hp_Rm K = hp_rm 4 0 0) (hl : K.2.1.stackTraces = false) (hd : o + 11 ≤ q ∨ q + 4 ≤ o) (hk : ∀ (h : Nat → Option va_E) (v : Nat → Int32), St G h q v (nz M (mk_tr M)).length gi su mg → (∀ i, i < (nz M (mk_tr M)).length → v i = (nz M (mk_tr M)).getD i 0) → (∀ a, (a < q ∨ q + 4 ≤ a) → h a = h0 a) → V G K MX5_collect 0 0 (n, h) 51 [some (.ref q), some (.ref o), some (.int (nI (mk_tr M))), none] []) : ∀ (f c : Nat) (h : Nat → Option va_E) (v : Nat → Int32), c ≤ mk_tr M → mk_tr M ≤ c + f → Mk G h o M → St G h q v (nz M c).length gi su mg → (∀ i, i < (nz M c).length → v i = (nz M c).getD i 0) → (∀ a, (a < q ∨ q + 4 ≤ a) → h a = h0 a) → V G K MX5_collect 0 0 (n, h) 7 [some (.ref q), some (.ref o), some (.int (nI c)), none] [] := by
  intro f
  induction f with
  | zero =>
    intro c h v h1 h2 hM hS hv hO
    have htr := hM.tr
    have e : c = mk_tr M := by omega
    subst e
    refine v_iload_n C dX5_collect_7 rfl ?_
    refine v_aload_n C dX5_collect_8 rfl ?_
    refine v_getN C 4 dX5_collect_9 wd1_57 hM.o rfl (by decide) ⟨rfl, rfl, rfl⟩ rfl ?_
    refine v_icmp_geN (tgt := 51) C dX5_collect_12 (by decide) (by omega) (by omega) (fun c12 => ?_) (fun c12 => absurd c12 (by omega))
    exact hk _ _ hS hv hO
  | succ f ih =>
    intro c h v h1 h2 hM hS hv hO
    have htr := hM.tr
    have hbase := hS.base
    have hln := nz_len M c
    refine v_iload_n C dX5_collect_7 rfl ?_
    refine v_aload_n C dX5_collect_8 rfl ?_
    refine v_getN C 4 dX5_collect_9 wd1_57 hM.o rfl (by decide) ⟨rfl, rfl, rfl⟩ rfl ?_
    refine v_icmp_geN (tgt := 51) C dX5_collect_12 (by decide) (by omega) (by omega) (fun c12 => ?_) (fun c12 => ?_)
    · have e : c = mk_tr M := by omega
      subst e
      exact hk _ _ hS hv hO
    · refine v_aload_n C dX5_collect_15 rfl ?_
      refine v_iload_n C dX5_collect_16 rfl ?_
      refine v_callVi C (c_X4_variation hl hM _) dX5_collect_17 mX4_variation rfl hM.o rfl wd3_149 rfl rfl (Nat.le_of_ble_eq_true rfl) (hp_rmle hRm (by decide) (by decide)) (Nat.le_of_ble_eq_true rfl) (Nat.le_of_ble_eq_true rfl) ?_
      refine v_istore_n C dX5_collect_20 (by decide) ?_
      refine v_iload_n C dX5_collect_21 rfl ?_
      refine v_if_eq (tgt := 45) C dX5_collect_22 (by decide) (fun c22 => ?_) (fun c22 => ?_)
      · refine v_iincN C dX5_collect_45 (by decide) rfl ?_
        refine v_goto (tgt := 7) C dX5_collect_48 (by decide) ?_
        refine v_drop 3 ?_
        have en : nz M (c + 1) = nz M c := if_pos c22
        exact ih (c + 1) _ v (by omega) (by omega) hM (by rw [en]; exact hS) (by rw [en]; exact hv) hO
      · refine v_aload_n C dX5_collect_25 rfl ?_
        refine v_get C 0 dX5_collect_26 wd1_151 hS.o rfl (by decide) ⟨rfl, rfl, rfl⟩ rfl ?_
        refine v_aload_n C dX5_collect_29 rfl ?_
        refine v_get C 1 dX5_collect_30 wd1_152 hS.o rfl (by decide) ⟨rfl, rfl, rfl⟩ rfl ?_
        refine v_iload_n C dX5_collect_33 rfl ?_
        refine v_iastN C dX5_collect_34 (by omega) hS.a_v (by omega) (by decide) (fun h34 e34 g34 => ?_)
        have S34 := hS.s_v e34 g34
        have M34 := hM.same (h' := h34) (fun a k1 k2 => g34 a (by omega))
        have hO34 : ∀ a, (a < q ∨ q + 4 ≤ a) → h34 a = h0 a := fun a ha => (g34 a (by omega)).trans (hO a ha)
        refine v_aload_n C dX5_collect_35 rfl ?_
        refine v_dup C dX5_collect_36 rfl ?_
        refine v_get C 1 dX5_collect_37 wd1_152 S34.o rfl (by decide) ⟨rfl, rfl, rfl⟩ rfl ?_
        refine v_iconst (v := nI 1) C dX5_collect_40 (by decide) ?_
        refine v_iaddN C dX5_collect_41 ?_
        refine v_put C 1 dX5_collect_42 wd1_152 hbase S34.o rfl (by decide) ⟨rfl, rfl, rfl, rfl⟩ rfl rfl rfl (Nat.le_of_ble_eq_true rfl) (fun h42 e42 g42 => ?_)
        have S42 := S34.p_cnt e42 g42 (by omega)
        have M42 := M34.same (h' := h42) (fun a k1 k2 => g42 a (by omega))
        have hO42 : ∀ a, (a < q ∨ q + 4 ≤ a) → h42 a = h0 a := fun a ha => (g42 a (by omega)).trans (hO34 a ha)
        refine v_iincN C dX5_collect_45 (by decide) rfl ?_
        refine v_goto (tgt := 7) C dX5_collect_48 (by decide) ?_
        refine v_drop 3 ?_
        have en : nz M (c + 1) = nz M c ++ [mk_va M (nI c) (mk_hz M)] := if_neg c22
        have el : (nz M (c + 1)).length = (nz M c).length + 1 := by rw [en, List.length_append]; rfl
        exact ih (c + 1) _ _ (by omega) (by omega) M42 (by rw [el]; exact S42) (by rw [en]; exact nz_app hv) hO42
set_option maxHeartbeats 4000000 in
theorem c_X5_collect {G : hp_G} {l : Launch} (hl : l.stackTraces = false) {n : Nat} {h0 : Nat → Option va_E} {q o : Nat} {M : mk_T} {v gi su : Nat → Int32} {cnt mg : Nat} (hM : Mk G h0 o M) (hS : St G h0 q v cnt gi su mg) (hd : o + 11 ≤ q ∨ q + 4 ≤ o) : Ct G l yX5_collect cX5_collect 4 none 4 0 0 [.ref q, .ref o] (n, h0) (hp_vq (fun τ => τ.1 = n ∧ ∃ v1, St G τ.2 q v1 (nz M (mk_tr M)).length gi su mg ∧ (∀ i, i < (nz M (mk_tr M)).length → v1 i = (nz M (mk_tr M)).getD i 0) ∧ ∀ a, (a < q ∨ q + 4 ≤ a) → τ.2 a = h0 a)) := by
  have hbase := hS.base
  have hO : ∀ a, (a < q ∨ q + 4 ≤ a) → h0 a = h0 a := fun _ _ => rfl
  refine Ct.of rfl hl (by simp [Value.category]) (Nat.le_of_ble_eq_true rfl) (fun K C E hRm hKl => ?_)
  subst hKl
  refine v_aload_n C dX5_collect_0 rfl ?_
  refine v_iconst (v := nI 0) C dX5_collect_1 (by decide) ?_
  refine v_put C 1 dX5_collect_2 wd1_152 hbase hS.o rfl (by decide) ⟨rfl, rfl, rfl, rfl⟩ rfl rfl rfl (Nat.le_of_ble_eq_true rfl) (fun h2 e2 g2 => ?_)
  have S2 := hS.p_cnt e2 g2 (by omega)
  have M2 := hM.same (h' := h2) (fun a k1 k2 => g2 a (by omega))
  have hO2 : ∀ a, (a < q ∨ q + 4 ≤ a) → h2 a = h0 a := fun a ha => (g2 a (by omega)).trans (hO a ha)
  refine v_iconst (v := nI 0) C dX5_collect_5 (by decide) ?_
  refine v_istore_n C dX5_collect_6 (by decide) ?_
  refine loop_X5_collect C hRm hl hd (fun h1 v1 hS1 hv1 hO1 => ?_) (mk_tr M) 0 _ v (Nat.zero_le _) (Nat.le_of_eq (Nat.zero_add _).symm) M2 S2 (fun i hi => absurd hi (Nat.not_lt_zero i)) hO2
  exact v_vret C E dX5_collect_51 rfl ⟨rfl, rfl, v1, hS1, hv1, hO1⟩

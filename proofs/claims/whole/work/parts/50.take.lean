/-! ===== THE TAKE-OVER ===== -/
section TKMNA
variable {G : hp_G} {K : hp_C} {M : hp_M} {bc bs : Nat} {n : Nat} {h : Nat → Option va_E} {pc : Nat} {lo : List (Option Value)} {st : List Value}
/-- new int[6][4] -/
theorem v_mna (C : hp_Cx G K M) {idx : Nat} (hd : decode M.1 pc = .ok (.multianewarray idx 2, 4)) (hw : Cond.classLink M.2.1 idx "[[I" ∈ lw_tbl) (hb1 : 7 ≤ bc) (hb2 : 30 ≤ bs) (kk : ∀ h' : Nat → Option va_E, h' n = some (.inl (G.2.2.1 6, 6, .inr (.inr (.inr (.inr (fun i => if i < 6 then some (n + 1 + i) else none)))))) → (∀ t, t < 6 → h' (n + 1 + t) = some (.inl (G.2.2.1 2, 4, .inl (fun _ => 0)))) → (∀ b, (b < n ∨ n + 7 ≤ b) → h' b = h b) → V G K M (bc - 7) (bs - 30) (n + 7, h') (pc + 4) lo (.ref n :: st)) : V G K M bc bs (n, h) pc lo (.int (nI 4) :: .int (nI 6) :: st) := by
  obtain ⟨p, l, e, R, s, m, args, below, meth, c, Qf⟩ := K
  intro H locs cells slots ls hR0 hS hl hc hs
  obtain ⟨C1, C2, C3, C4, C5, C6, C7, C8, -, -, C11, -⟩ := C
  have hn : H.size = n := hR0.1
  have e6 : (nI 6).toNatClampNeg = 6 := nI_clamp (by omega)
  have e4 : (nI 4).toNatClampNeg = 4 := nI_clamp (by omega)
  intro T hT Xs
  have harr : (Cond.arrayClass .int).before args s = true := C5 _ (hp_in wd1_124 rfl)
  obtain ⟨vm₁, cA, comp, -, fA, fC, hO, -, X', step⟩ := Xs.multianewarray2F C1 C4 (ty := .int) (C5 _ (hp_in hw rfl)) (va_AOA.use C7.2.2.2.2.2.2.2.2.1) harr (g := F0 m pc ls (.int (nI 4) :: .int (nI 6) :: st)) rfl (by rw [C2]; exact hd) rfl (nI_pos (by omega)) (nI_pos (by omega)) (by rw [e6]; decide) (by rw [e4]; decide) (by rw [e4]; decide) rfl rfl (by rw [e6]; omega) (by rw [e6, e4]; omega)
  rw [e6, e4] at X' step
  have hcomp : comp = G.2.2.1 2 := by
    have h9 : s.vm.findClass ("[" ++ (FieldType.int).toString) = some (G.2.2.1 2) := (C6.2 2 _ (hp_tys_at G (by decide))).2
    exact Option.some.inj (fC.symm.trans h9)
  have hcA : cA = G.2.2.1 6 := by
    have h9 : s.vm.findClass ("[" ++ (FieldType.array .int).toString) = some (G.2.2.1 6) := (C6.2 6 _ (hp_tys_at G (by decide))).2
    exact Option.some.inj (fA.symm.trans h9)
  subst hcomp
  subst hcA
  have hTh : (T.setVm vm₁).heap = H := hT
  obtain ⟨f1, f2, -, -⟩ := Jvm.Free.Multi.fill_facts (T.setVm vm₁) (G.2.2.1 6) (G.2.2.1 2) 6 4 (defaultValue .int) 6
  have hold := fun (x : Nat) (hx : x < H.size) => Jvm.Free.Multi.fill_old (T.setVm vm₁) (G.2.2.1 6) (G.2.2.1 2) 6 4 (defaultValue .int) (a := x) (by rw [hTh]; exact hx) 6
  have hrow := fun (j : Nat) (hj : j < 6) => Jvm.Free.Multi.fill_inner (T.setVm vm₁) (G.2.2.1 6) (G.2.2.1 2) 6 4 (defaultValue .int) 6 j hj
  generalize hF : Jvm.Free.Multi.fill (T.setVm vm₁) (G.2.2.1 6) (G.2.2.1 2) 6 4 (defaultValue .int) 6 = F at X' step f1 f2 hold hrow
  rw [hTh] at f1 f2 hold hrow
  have hout : Jvm.Free.Multi.outerC (G.2.2.1 6) 6 H.size 6 = vp_cell (G.2.2.1 6) (6, .inr (.inr (.inr (.inr (fun i => if i < 6 then some (H.size + 1 + i) else none))))) := by
    rw [vp_cell_q]
    exact vr_outer (G.2.2.1 6) 6 H.size 6
  rw [hout] at f2
  have hin : Jvm.Free.Multi.innerC (G.2.2.1 2) 4 (defaultValue .int) = vp_cell (G.2.2.1 2) (4, .inl (fun _ => 0)) := by
    rw [vp_cell_i]
    exact arrV_new (G.2.2.1 2) 4 (.int 0)
  have hz : F.heap.size = H.size + 7 := by rw [f1]
  have hval : ∀ b : Nat, (fun b => if b = n then some (.inl (G.2.2.1 6, 6, .inr (.inr (.inr (.inr (fun i => if i < 6 then some (n + 1 + i) else none)))))) else if n + 1 ≤ b ∧ b < n + 7 then some (.inl (G.2.2.1 2, 4, .inl (fun _ => 0))) else h b : Nat → Option va_E) b = if b = n then some (.inl (G.2.2.1 6, 6, .inr (.inr (.inr (.inr (fun i => if i < 6 then some (n + 1 + i) else none)))))) else if n + 1 ≤ b ∧ b < n + 7 then some (.inl (G.2.2.1 2, 4, .inl (fun _ => 0))) else h b := fun _ => rfl
  generalize (fun b => if b = n then some (.inl (G.2.2.1 6, 6, .inr (.inr (.inr (.inr (fun i => if i < 6 then some (n + 1 + i) else none)))))) else if n + 1 ≤ b ∧ b < n + 7 then some (.inl (G.2.2.1 2, 4, .inl (fun _ => 0))) else h b : Nat → Option va_E) = h' at hval
  have k1 : h' n = some (.inl (G.2.2.1 6, 6, .inr (.inr (.inr (.inr (fun i => if i < 6 then some (n + 1 + i) else none)))))) := by rw [hval, if_pos rfl]
  have k2 : ∀ t, t < 6 → h' (n + 1 + t) = some (.inl (G.2.2.1 2, 4, .inl (fun _ => 0))) := fun t ht => by rw [hval, if_neg (by omega), if_pos (by omega)]
  have k3 : ∀ b, (b < n ∨ n + 7 ≤ b) → h' b = h b := fun b hb => by rw [hval, if_neg (by omega), if_neg (by omega)]
  have kR : hp_R G (n + 7, h') F.heap := by
    refine ⟨by rw [hz, hn], fun a e2 ha => ?_⟩
    have ha : h' a = some e2 := ha
    by_cases q : a = n
    · rw [q, k1] at ha
      cases ha
      rw [q]
      refine hp_at.of ?_
      show F.heap[n]? = some (vp_cell _ _)
      rw [← hn]
      exact f2
    · by_cases q2 : n + 1 ≤ a ∧ a < n + 7
      · have ea : a = n + 1 + (a - (n + 1)) := by omega
        rw [ea, k2 _ (by omega)] at ha
        cases ha
        refine hp_at.of ?_
        show F.heap[a]? = some (vp_cell _ _)
        have h9 := hrow (a - (n + 1)) (by omega)
        rw [hin, hn, ← ea] at h9
        exact h9
      · rw [k3 a (by omega)] at ha
        have hlt := (hR0.2 a e2 ha).lt
        exact (hR0.2 a e2 ha).kept (hold a hlt)
  obtain ⟨t, a1, b1⟩ := kk h' k1 k2 k3 F.heap locs (cells + 1 + 6) (slots + 6 + 6 * 4) ls kR ⟨Nat.le_trans hS.1 (by omega), fun q g1 g2 => (hold q (Nat.lt_of_lt_of_le g1 hS.1)).trans (hS.2.1 q g1 g2), hS.2.2⟩ hl (by omega) (by omega) F rfl (by first | exact X' | exact stand_widen X' (by omega) (by omega))
  refine ⟨t, step t ?_, b1⟩
  have e : T.heap.size = n := by rw [hT, hn]
  rw [e]
  exact a1
end TKMNA
def tk_fs (q sd nd : Nat) (ls : Int32) : List Value := [.int (nI sd), .ref (q + 1), .int (nI nd), .ref (q + 8), .ref (q + 9), .ref (q + 10), .ref (q + 11), .int ls, .ref (q + 12)]
def Tk (G : hp_G) (h : Nat → Option va_E) (q : Nat) (sd nd : Nat) (af : Nat → Nat → Int32) (hs ps tk bt lf : Nat → Int32) (ls : Int32) : Prop := h q = some (.inr (8, tk_fs q sd nd ls)) ∧ h (q + 1) = some (.inl (G.2.2.1 6, 6, .inr (.inr (.inr (.inr (fun i => if i < 6 then some (q + 2 + i) else none)))))) ∧ (∀ t, t < 6 → h (q + 2 + t) = some (.inl (G.2.2.1 2, 4, .inl (af t)))) ∧ h (q + 8) = some (.inl (G.2.2.1 2, 4, .inl hs)) ∧ h (q + 9) = some (.inl (G.2.2.1 2, 4, .inl ps)) ∧ h (q + 10) = some (.inl (G.2.2.1 2, 4, .inl tk)) ∧ h (q + 11) = some (.inl (G.2.2.1 2, 4, .inl bt)) ∧ h (q + 12) = some (.inl (G.2.2.1 2, 64, .inl lf)) ∧ G.2.1 ≤ q ∧ sd < 64 ∧ nd ≤ 4
section TKX
variable {G : hp_G} {h h' : Nat → Option va_E} {q : Nat} {sd nd : Nat} {af : Nat → Nat → Int32} {hs ps tk bt lf : Nat → Int32} {ls : Int32}
theorem Tk.o (H : Tk G h q sd nd af hs ps tk bt lf ls) : h q = some (.inr (8, [.int (nI sd), .ref (q + 1), .int (nI nd), .ref (q + 8), .ref (q + 9), .ref (q + 10), .ref (q + 11), .int ls, .ref (q + 12)])) := H.1
theorem Tk.a_after (H : Tk G h q sd nd af hs ps tk bt lf ls) : h (q + 1) = some (.inl (G.2.2.1 6, 6, .inr (.inr (.inr (.inr (fun i => if i < 6 then some (q + 2 + i) else none)))))) := H.2.1
theorem Tk.row (H : Tk G h q sd nd af hs ps tk bt lf ls) {t : Nat} (ht : t < 6) : h (q + 2 + t) = some (.inl (G.2.2.1 2, 4, .inl (af t))) := H.2.2.1 t ht
theorem Tk.a_hs (H : Tk G h q sd nd af hs ps tk bt lf ls) : h (q + 8) = some (.inl (G.2.2.1 2, 4, .inl hs)) := H.2.2.2.1
theorem Tk.a_ps (H : Tk G h q sd nd af hs ps tk bt lf ls) : h (q + 9) = some (.inl (G.2.2.1 2, 4, .inl ps)) := H.2.2.2.2.1
theorem Tk.a_tk (H : Tk G h q sd nd af hs ps tk bt lf ls) : h (q + 10) = some (.inl (G.2.2.1 2, 4, .inl tk)) := H.2.2.2.2.2.1
theorem Tk.a_bt (H : Tk G h q sd nd af hs ps tk bt lf ls) : h (q + 11) = some (.inl (G.2.2.1 2, 4, .inl bt)) := H.2.2.2.2.2.2.1
theorem Tk.a_lf (H : Tk G h q sd nd af hs ps tk bt lf ls) : h (q + 12) = some (.inl (G.2.2.1 2, 64, .inl lf)) := H.2.2.2.2.2.2.2.1
theorem Tk.base (H : Tk G h q sd nd af hs ps tk bt lf ls) : G.2.1 ≤ q := H.2.2.2.2.2.2.2.2.1
theorem Tk.bsd (H : Tk G h q sd nd af hs ps tk bt lf ls) : sd < 64 := H.2.2.2.2.2.2.2.2.2.1
theorem Tk.bnd (H : Tk G h q sd nd af hs ps tk bt lf ls) : nd ≤ 4 := H.2.2.2.2.2.2.2.2.2.2
theorem Tk.same (H : Tk G h q sd nd af hs ps tk bt lf ls) (k : ∀ a, q ≤ a → a < q + 13 → h' a = h a) : Tk G h' q sd nd af hs ps tk bt lf ls := ⟨(k _ (by omega) (by omega)).trans H.o, (k _ (by omega) (by omega)).trans H.a_after, fun t ht => (k _ (by omega) (by omega)).trans (H.row ht), (k _ (by omega) (by omega)).trans H.a_hs, (k _ (by omega) (by omega)).trans H.a_ps, (k _ (by omega) (by omega)).trans H.a_tk, (k _ (by omega) (by omega)).trans H.a_bt, (k _ (by omega) (by omega)).trans H.a_lf, H.base, H.bsd, H.bnd⟩
theorem Tk.s_row (H : Tk G h q sd nd af hs ps tk bt lf ls) {t : Nat} {x0 : Nat → Int32} (ht : t < 6) (h1 : h' (q + 2 + t) = some (.inl (G.2.2.1 2, 4, .inl x0))) (h2 : ∀ b, b ≠ q + 2 + t → h' b = h b) : Tk G h' q sd nd (va_up af t x0) hs ps tk bt lf ls := ⟨(h2 _ (by omega)).trans H.o, (h2 _ (by omega)).trans H.a_after, fun i hi => by
    by_cases z : i = t
    · subst z
      rw [h1]
      show _ = some (Sum.inl (_, _, Sum.inl (if i = i then x0 else af i)))
      rw [if_pos rfl]
    · rw [h2 _ (by omega), H.row hi]
      show _ = some (Sum.inl (_, _, Sum.inl (if i = t then x0 else af i)))
      rw [if_neg z], (h2 _ (by omega)).trans H.a_hs, (h2 _ (by omega)).trans H.a_ps, (h2 _ (by omega)).trans H.a_tk, (h2 _ (by omega)).trans H.a_bt, (h2 _ (by omega)).trans H.a_lf, H.base, H.bsd, H.bnd⟩
theorem Tk.s_hs (H : Tk G h q sd nd af hs ps tk bt lf ls) {x0 : Nat → Int32} (h1 : h' (q + 8) = some (.inl (G.2.2.1 2, 4, .inl x0))) (h2 : ∀ b, b ≠ q + 8 → h' b = h b) : Tk G h' q sd nd af x0 ps tk bt lf ls := ⟨(h2 _ (by omega)).trans H.o, (h2 _ (by omega)).trans H.a_after, fun i hi => (h2 _ (by omega)).trans (H.row hi), h1, (h2 _ (by omega)).trans H.a_ps, (h2 _ (by omega)).trans H.a_tk, (h2 _ (by omega)).trans H.a_bt, (h2 _ (by omega)).trans H.a_lf, H.base, H.bsd, H.bnd⟩
theorem Tk.s_ps (H : Tk G h q sd nd af hs ps tk bt lf ls) {x0 : Nat → Int32} (h1 : h' (q + 9) = some (.inl (G.2.2.1 2, 4, .inl x0))) (h2 : ∀ b, b ≠ q + 9 → h' b = h b) : Tk G h' q sd nd af hs x0 tk bt lf ls := ⟨(h2 _ (by omega)).trans H.o, (h2 _ (by omega)).trans H.a_after, fun i hi => (h2 _ (by omega)).trans (H.row hi), (h2 _ (by omega)).trans H.a_hs, h1, (h2 _ (by omega)).trans H.a_tk, (h2 _ (by omega)).trans H.a_bt, (h2 _ (by omega)).trans H.a_lf, H.base, H.bsd, H.bnd⟩
theorem Tk.s_tk (H : Tk G h q sd nd af hs ps tk bt lf ls) {x0 : Nat → Int32} (h1 : h' (q + 10) = some (.inl (G.2.2.1 2, 4, .inl x0))) (h2 : ∀ b, b ≠ q + 10 → h' b = h b) : Tk G h' q sd nd af hs ps x0 bt lf ls := ⟨(h2 _ (by omega)).trans H.o, (h2 _ (by omega)).trans H.a_after, fun i hi => (h2 _ (by omega)).trans (H.row hi), (h2 _ (by omega)).trans H.a_hs, (h2 _ (by omega)).trans H.a_ps, h1, (h2 _ (by omega)).trans H.a_bt, (h2 _ (by omega)).trans H.a_lf, H.base, H.bsd, H.bnd⟩
theorem Tk.s_bt (H : Tk G h q sd nd af hs ps tk bt lf ls) {x0 : Nat → Int32} (h1 : h' (q + 11) = some (.inl (G.2.2.1 2, 4, .inl x0))) (h2 : ∀ b, b ≠ q + 11 → h' b = h b) : Tk G h' q sd nd af hs ps tk x0 lf ls := ⟨(h2 _ (by omega)).trans H.o, (h2 _ (by omega)).trans H.a_after, fun i hi => (h2 _ (by omega)).trans (H.row hi), (h2 _ (by omega)).trans H.a_hs, (h2 _ (by omega)).trans H.a_ps, (h2 _ (by omega)).trans H.a_tk, h1, (h2 _ (by omega)).trans H.a_lf, H.base, H.bsd, H.bnd⟩
theorem Tk.s_lf (H : Tk G h q sd nd af hs ps tk bt lf ls) {x0 : Nat → Int32} (h1 : h' (q + 12) = some (.inl (G.2.2.1 2, 64, .inl x0))) (h2 : ∀ b, b ≠ q + 12 → h' b = h b) : Tk G h' q sd nd af hs ps tk bt x0 ls := ⟨(h2 _ (by omega)).trans H.o, (h2 _ (by omega)).trans H.a_after, fun i hi => (h2 _ (by omega)).trans (H.row hi), (h2 _ (by omega)).trans H.a_hs, (h2 _ (by omega)).trans H.a_ps, (h2 _ (by omega)).trans H.a_tk, (h2 _ (by omega)).trans H.a_bt, h1, H.base, H.bsd, H.bnd⟩
theorem Tk.p_sd (H : Tk G h q sd nd af hs ps tk bt lf ls) {x0 : Nat} (h1 : h' q = some (.inr (8, tk_fs q x0 nd ls))) (h2 : ∀ b, b ≠ q → h' b = h b) (k : x0 < 64) : Tk G h' q x0 nd af hs ps tk bt lf ls := ⟨h1, (h2 _ (by omega)).trans H.a_after, fun i hi => (h2 _ (by omega)).trans (H.row hi), (h2 _ (by omega)).trans H.a_hs, (h2 _ (by omega)).trans H.a_ps, (h2 _ (by omega)).trans H.a_tk, (h2 _ (by omega)).trans H.a_bt, (h2 _ (by omega)).trans H.a_lf, H.base, k, H.bnd⟩
theorem Tk.p_nd (H : Tk G h q sd nd af hs ps tk bt lf ls) {x0 : Nat} (h1 : h' q = some (.inr (8, tk_fs q sd x0 ls))) (h2 : ∀ b, b ≠ q → h' b = h b) (k : x0 ≤ 4) : Tk G h' q sd x0 af hs ps tk bt lf ls := ⟨h1, (h2 _ (by omega)).trans H.a_after, fun i hi => (h2 _ (by omega)).trans (H.row hi), (h2 _ (by omega)).trans H.a_hs, (h2 _ (by omega)).trans H.a_ps, (h2 _ (by omega)).trans H.a_tk, (h2 _ (by omega)).trans H.a_bt, (h2 _ (by omega)).trans H.a_lf, H.base, H.bsd, k⟩
theorem Tk.p_ls (H : Tk G h q sd nd af hs ps tk bt lf ls) {x0 : Int32} (h1 : h' q = some (.inr (8, tk_fs q sd nd x0))) (h2 : ∀ b, b ≠ q → h' b = h b)  : Tk G h' q sd nd af hs ps tk bt lf x0 := ⟨h1, (h2 _ (by omega)).trans H.a_after, fun i hi => (h2 _ (by omega)).trans (H.row hi), (h2 _ (by omega)).trans H.a_hs, (h2 _ (by omega)).trans H.a_ps, (h2 _ (by omega)).trans H.a_tk, (h2 _ (by omega)).trans H.a_bt, (h2 _ (by omega)).trans H.a_lf, H.base, H.bsd, H.bnd⟩
end TKX
set_option maxHeartbeats 8000000 in
/-- a new take-over -/
theorem c_X6_init {G : hp_G} {l : Launch} (hl : l.stackTraces = false) {h0 : Nat → Option va_E} {q : Nat} (hbase : G.2.1 ≤ q) (hob : h0 q = some (.inr (8, [.int 0, .null, .int 0, .null, .null, .null, .null, .int 0, .null]))) : Ct G l yX6_init cX6_init 1 none 1 12 110 [.ref q] (q + 1, h0) (hp_vq (fun τ => τ.1 = q + 13 ∧ Tk G τ.2 q 0 0 (fun _ _ => 0) (fun _ => 0) (fun _ => 0) (fun _ => 0) (fun _ => 0) (fun _ => 0) 0 ∧ ∀ a, a < q → τ.2 a = h0 a)) := by
  refine Ct.of rfl hl (by simp [Value.category]) (Nat.le_of_ble_eq_true rfl) (fun K C E hRm hKl => ?_)
  subst hKl
  refine v_aload_n C dX6_init_0 rfl ?_
  refine v_objInit C dX6_init_1 wd1_172 wd1_38 hp_objcode (Nat.le_of_ble_eq_true rfl) (by rw [hRm]; exact ⟨by decide, by decide⟩) ?_
  refine v_aload_n C dX6_init_4 rfl ?_
  refine v_bipush (v := nI 6) C dX6_init_5 (by decide) ?_
  refine v_iconst (v := nI 4) C dX6_init_7 (by decide) ?_
  refine v_mna C dX6_init_8 wd1_173 (Nat.le_of_ble_eq_true rfl) (Nat.le_of_ble_eq_true rfl) (fun h8 e8 r8 g8 => ?_)
  refine v_putF C 1 dX6_init_12 wd1_176 hbase ((g8 _ (by omega)).trans hob) rfl (by decide) ⟨rfl, rfl, rfl, rfl⟩ rfl rfl rfl rfl rfl (Nat.le_of_ble_eq_true rfl) (fun h12 e12 g12 => ?_)
  refine v_aload_n C dX6_init_15 rfl ?_
  refine v_iconst (v := nI 4) C dX6_init_16 (by decide) ?_
  refine v_newa (atype := .int) (N := 4) C 2 (.inl (fun _ => 0)) dX6_init_17 wd1_124 (by decide) rfl (fun _ => rfl) (by decide) (by decide) (by decide) (Nat.le_of_ble_eq_true rfl) (Nat.le_of_ble_eq_true rfl) (fun h17 e17 g17 => ?_)
  refine v_putF C 3 dX6_init_19 wd1_178 hbase ((g17 _ (by omega)).trans e12) rfl (by decide) ⟨rfl, rfl, rfl, rfl⟩ rfl rfl rfl rfl rfl (Nat.le_of_ble_eq_true rfl) (fun h19 e19 g19 => ?_)
  refine v_aload_n C dX6_init_22 rfl ?_
  refine v_iconst (v := nI 4) C dX6_init_23 (by decide) ?_
  refine v_newa (atype := .int) (N := 4) C 2 (.inl (fun _ => 0)) dX6_init_24 wd1_124 (by decide) rfl (fun _ => rfl) (by decide) (by decide) (by decide) (Nat.le_of_ble_eq_true rfl) (Nat.le_of_ble_eq_true rfl) (fun h24 e24 g24 => ?_)
  refine v_putF C 4 dX6_init_26 wd1_179 hbase ((g24 _ (by omega)).trans e19) rfl (by decide) ⟨rfl, rfl, rfl, rfl⟩ rfl rfl rfl rfl rfl (Nat.le_of_ble_eq_true rfl) (fun h26 e26 g26 => ?_)
  refine v_aload_n C dX6_init_29 rfl ?_
  refine v_iconst (v := nI 4) C dX6_init_30 (by decide) ?_
  refine v_newa (atype := .int) (N := 4) C 2 (.inl (fun _ => 0)) dX6_init_31 wd1_124 (by decide) rfl (fun _ => rfl) (by decide) (by decide) (by decide) (Nat.le_of_ble_eq_true rfl) (Nat.le_of_ble_eq_true rfl) (fun h31 e31 g31 => ?_)
  refine v_putF C 5 dX6_init_33 wd1_180 hbase ((g31 _ (by omega)).trans e26) rfl (by decide) ⟨rfl, rfl, rfl, rfl⟩ rfl rfl rfl rfl rfl (Nat.le_of_ble_eq_true rfl) (fun h33 e33 g33 => ?_)
  refine v_aload_n C dX6_init_36 rfl ?_
  refine v_iconst (v := nI 4) C dX6_init_37 (by decide) ?_
  refine v_newa (atype := .int) (N := 4) C 2 (.inl (fun _ => 0)) dX6_init_38 wd1_124 (by decide) rfl (fun _ => rfl) (by decide) (by decide) (by decide) (Nat.le_of_ble_eq_true rfl) (Nat.le_of_ble_eq_true rfl) (fun h38 e38 g38 => ?_)
  refine v_putF C 6 dX6_init_40 wd1_181 hbase ((g38 _ (by omega)).trans e33) rfl (by decide) ⟨rfl, rfl, rfl, rfl⟩ rfl rfl rfl rfl rfl (Nat.le_of_ble_eq_true rfl) (fun h40 e40 g40 => ?_)
  refine v_aload_n C dX6_init_43 rfl ?_
  refine v_bipush (v := nI 64) C dX6_init_44 (by decide) ?_
  refine v_newa (atype := .int) (N := 64) C 2 (.inl (fun _ => 0)) dX6_init_46 wd1_124 (by decide) rfl (fun _ => rfl) (by decide) (by decide) (by decide) (Nat.le_of_ble_eq_true rfl) (Nat.le_of_ble_eq_true rfl) (fun h46 e46 g46 => ?_)
  refine v_putF C 8 dX6_init_48 wd1_183 hbase ((g46 _ (by omega)).trans e40) rfl (by decide) ⟨rfl, rfl, rfl, rfl⟩ rfl rfl rfl rfl rfl (Nat.le_of_ble_eq_true rfl) (fun h48 e48 g48 => ?_)
  refine v_vret C E dX6_init_51 rfl ⟨rfl, rfl, ⟨e48, ((g48 _ (by omega)).trans ((g46 _ (by omega)).trans ((g40 _ (by omega)).trans ((g38 _ (by omega)).trans ((g33 _ (by omega)).trans ((g31 _ (by omega)).trans ((g26 _ (by omega)).trans ((g24 _ (by omega)).trans ((g19 _ (by omega)).trans ((g17 _ (by omega)).trans ((g12 _ (by omega)).trans e8))))))))))), fun t ht => ((g48 _ (by omega)).trans ((g46 _ (by omega)).trans ((g40 _ (by omega)).trans ((g38 _ (by omega)).trans ((g33 _ (by omega)).trans ((g31 _ (by omega)).trans ((g26 _ (by omega)).trans ((g24 _ (by omega)).trans ((g19 _ (by omega)).trans ((g17 _ (by omega)).trans ((g12 _ (by omega)).trans (r8 t ht)))))))))))), ((g48 _ (by omega)).trans ((g46 _ (by omega)).trans ((g40 _ (by omega)).trans ((g38 _ (by omega)).trans ((g33 _ (by omega)).trans ((g31 _ (by omega)).trans ((g26 _ (by omega)).trans ((g24 _ (by omega)).trans ((g19 _ (by omega)).trans e17))))))))), ((g48 _ (by omega)).trans ((g46 _ (by omega)).trans ((g40 _ (by omega)).trans ((g38 _ (by omega)).trans ((g33 _ (by omega)).trans ((g31 _ (by omega)).trans ((g26 _ (by omega)).trans e24))))))), ((g48 _ (by omega)).trans ((g46 _ (by omega)).trans ((g40 _ (by omega)).trans ((g38 _ (by omega)).trans ((g33 _ (by omega)).trans e31))))), ((g48 _ (by omega)).trans ((g46 _ (by omega)).trans ((g40 _ (by omega)).trans e38))), ((g48 _ (by omega)).trans e46), hbase, by decide, by decide⟩, fun a ha => ((g48 a (by omega)).trans ((g46 a (by omega)).trans ((g40 a (by omega)).trans ((g38 a (by omega)).trans ((g33 a (by omega)).trans ((g31 a (by omega)).trans ((g26 a (by omega)).trans ((g24 a (by omega)).trans ((g19 a (by omega)).trans ((g17 a (by omega)).trans ((g12 a (by omega)).trans (g8 a (by omega)))))))))))))⟩

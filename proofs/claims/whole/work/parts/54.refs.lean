/-! ===== THE SHORT WALK: references in arrays, text constants, static fields ===== -/
section HPREF
variable {G : hp_G} {K : hp_C} {M : hp_M} {bc bs : Nat} {n : Nat} {h : Nat → Option va_E} {pc : Nat} {lo : List (Option Value)} {st : List Value} {P : hp_P}
theorem v_ldcS (C : hp_Cx G K M) {idx : Nat} {tx : String} (kst : Nat) (hd : decode M.1 pc = .ok (.ldc idx, 2)) (hk : hp_kst[kst]? = some (M.2.1, idx, tx)) (k : V G K M bc bs (n, h) (pc + 2) lo (.ref (G.2.2.2 (2 * kst + 2)) :: st)) : V G K M bc bs (n, h) pc lo st := by
  obtain ⟨p, l, e, R, s, m, args, below, meth, c, Qf⟩ := K
  intro H locs cells slots ls hR hS hl hc hs
  obtain ⟨C1, C2, C3, C4, C5, C6, C7, C8, -, -, C11, -⟩ := C
  exact va_ldcS C1 C2 C4 (C7.2.2.2.2.2.1 kst _ hk) hd (k H locs cells slots ls hR hS hl hc hs)
theorem v_fconst0 (C : hp_Cx G K M) (hd : decode M.1 pc = .ok (.fconst 0, 1)) (k : V G K M bc bs (n, h) (pc + 1) lo (.float FP.fconst0 :: st)) : V G K M bc bs (n, h) pc lo st := by
  obtain ⟨p, l, e, R, s, m, args, below, meth, c, Qf⟩ := K
  intro H locs cells slots ls hR hS hl hc hs
  obtain ⟨C1, C2, C3, C4, C5, C6, C7, C8, -, -, C11, -⟩ := C
  exact lv_fconst0 C1 C2 hd (k H locs cells slots ls hR hS hl hc hs)
theorem v_dconst0 (C : hp_Cx G K M) (hd : decode M.1 pc = .ok (.dconst 0, 1)) (k : V G K M bc bs (n, h) (pc + 1) lo (.double FP.dconst0 :: st)) : V G K M bc bs (n, h) pc lo st := by
  obtain ⟨p, l, e, R, s, m, args, below, meth, c, Qf⟩ := K
  intro H locs cells slots ls hR hS hl hc hs
  obtain ⟨C1, C2, C3, C4, C5, C6, C7, C8, -, -, C11, -⟩ := C
  exact lv_dconst0 C1 C2 hd (k H locs cells slots ls hR hS hl hc hs)
/-- the static field of a class, its word a bare link -/
theorem v_gets (C : hp_Cx G K M) {idx : Nat} {Cn nm ds : String} {v : Value} (hd : decode M.1 pc = .ok (.getstatic idx, 3)) (hw : Cond.fieldLink M.2.1 idx Cn nm ds ∈ lw_tbl) (hz : ∀ U H, hp_F G U H → va_Z Cn nm ds v (hp_A G) U H) (k : V G K M bc bs (n, h) (pc + 3) lo (v :: st)) : V G K M bc bs (n, h) pc lo st := by
  obtain ⟨p, l, e, R, s, m, args, below, meth, c, Qf⟩ := K
  intro H locs cells slots ls hR hS hl hc hs
  obtain ⟨C1, C2, C3, C4, C5, C6, C7, C8, -, -, C11, -⟩ := C
  exact va_gets C1 C2 (hz _ _ C7) hS C4 (C5 _ (hp_in hw rfl)) (fun _ hx => hx) hd (k H locs cells slots ls hR hS hl hc hs)
theorem hp_Zc {U : State} {H : Heap} (h : hp_F G U H) : va_Z "java/lang/String" "COMPACT_STRINGS" "Z" (.int 1) (hp_A G) U H := h.2.2.1
theorem hp_Zo {U : State} {H : Heap} (h : hp_F G U H) : va_Z "java/lang/Integer" "DigitOnes" "[B" (.ref (G.2.2.2 0)) (hp_A G) U H := h.2.2.2.1
theorem hp_Zt {U : State} {H : Heap} (h : hp_F G U H) : va_Z "java/lang/Integer" "DigitTens" "[B" (.ref (G.2.2.2 1)) (hp_A G) U H := h.2.2.2.2.1
/-- a cast to a row of bytes -/
theorem v_castB (C : hp_Cx G K M) {idx a z : Nat} {x : (Nat → Int32) ⊕ (Nat → Int64) ⊕ (Nat → UInt32) ⊕ (Nat → UInt64) ⊕ (Nat → Option Nat)} (hd : decode M.1 pc = .ok (.checkcast idx, 3)) (hw : Cond.classLink M.2.1 idx "[B" ∈ lw_tbl) (hh : h a = some (.inl (G.2.2.1 0, z, x))) (k : V G K M bc bs (n, h) (pc + 3) lo (.ref a :: st)) : V G K M bc bs (n, h) pc lo (.ref a :: st) := by
  obtain ⟨p, l, e, R, s, m, args, below, meth, c, Qf⟩ := K
  intro H locs cells slots ls hR hS hl hc hs
  obtain ⟨C1, C2, C3, C4, C5, C6, C7, C8, -, -, C11, -⟩ := C
  obtain ⟨cell, q1, q2, q3, q4, q5⟩ := hR.ar hh
  intro T hT X
  obtain ⟨vm', X', st9⟩ := X.checkcastYes C1 C4 (C5 _ (hp_in hw rfl)) (by rw [hT]; exact q1) q3.1 (C6.2 0 _ (hp_tys_at G (by decide))).2 (by rw [q2]; exact va_asg _ _) (g := F0 m pc ls (.ref a :: st)) rfl rfl (by rw [C2]; exact hd)
  obtain ⟨t, a1, b1⟩ := (k H locs cells slots ls hR hS hl hc hs) (T.setVm vm') hT X'
  exact ⟨t, st9 t a1, b1⟩
/-- a new array of markets -/
theorem v_anewM (C : hp_Cx G K M) {idx N : Nat} {i : Int32} (hd : decode M.1 pc = .ok (.anewarray idx, 3)) (hw : Cond.classLink M.2.1 idx "HorizonExchange$Market" ∈ lw_tbl) (hi : ¬ i < 0) (hN : i.toNatClampNeg = N) (hN2 : N ≤ 60000) (hb1 : 1 ≤ bc) (hb2 : N ≤ bs) (kk : ∀ h' : Nat → Option va_E, h' n = some (.inl (G.2.2.1 5, N, .inr (.inr (.inr (.inr (fun _ => none)))))) → (∀ b, b ≠ n → h' b = h b) → V G K M (bc - 1) (bs - N) (n + 1, h') (pc + 3) lo (.ref n :: st)) : V G K M bc bs (n, h) pc lo (.int i :: st) := by
  obtain ⟨p, l, e, R, s, m, args, below, meth, c, Qf⟩ := K
  intro H locs cells slots ls hR hS hl hc hs
  obtain ⟨C1, C2, C3, C4, C5, C6, C7, C8, -, -, C11, -⟩ := C
  subst hN
  refine W.anew C1 C2 C4 (C5 _ (hp_in hw rfl)) (va_AO.use C7.2.2.2.2.2.2.2.1) rfl hd rfl hi (by omega) (by omega) (by omega) fun cA kA comp f1 f2 f3 f4 => ?_
  obtain ⟨kA9, comp9, -, -, -, h9⟩ := (show va_RA s (G.2.2.1 5) (.object "HorizonExchange$Market") from (C6.2 5 _ (hp_tys_at G (by decide))).2)
  have ec : cA = G.2.2.1 5 := Option.some.inj (f1.symm.trans h9)
  subst ec
  have hn : H.size = n := hR.1
  generalize hH1 : H.push ({ cls := G.2.2.1 5, slots := Array.replicate i.toNatClampNeg .null, vm := .none } : Cell) = H1
  have z1 : H1.size = H.size + 1 := by rw [← hH1, Array.size_push]
  have e1 : H1[H.size]? = some (arrV (G.2.2.1 5) i.toNatClampNeg (fun _ => .null)) := by rw [← hH1, Array.getElem?_push_size, ← arrV_new]
  have o1 : ∀ q : Nat, q < H.size → H1[q]? = H[q]? := fun q hq => by rw [← hH1, Array.getElem?_push, if_neg (Nat.ne_of_lt hq)]
  rw [hn]
  rw [hn] at e1
  refine kk (fun b => if b = n then some (.inl (G.2.2.1 5, i.toNatClampNeg, .inr (.inr (.inr (.inr (fun _ => none)))))) else h b) (if_pos rfl) (fun b hb => if_neg hb) H1 locs (cells + 1) (slots + i.toNatClampNeg) ls (hR.push z1 o1 ?_ (if_pos rfl) (fun b hb => if_neg hb)) ⟨Nat.le_trans hS.1 (by omega), fun x h1 h2 => (o1 x (Nat.lt_of_lt_of_le h1 hS.1)).trans (hS.2.1 x h1 h2), hS.2.2⟩ hl (by omega) (by omega)
  show H1[n]? = some (vp_cell _ _)
  rw [vp_cell_q]
  exact e1
/-- a market into an array -/
theorem v_aastM (C : hp_Cx G K M) {a z v j : Nat} {vs : List Value} {f : Nat → Option Nat} (hd : decode M.1 pc = .ok (.aastore, 1)) (ha : G.2.1 ≤ a) (hh : h a = some (.inl (G.2.2.1 5, z, .inr (.inr (.inr (.inr f)))))) (hv : h v = some (.inr (6, vs))) (hj : j < z) (hz : z ≤ 65536) (kk : ∀ h' : Nat → Option va_E, h' a = some (.inl (G.2.2.1 5, z, .inr (.inr (.inr (.inr (va_up f j (some v))))))) → (∀ b, b ≠ a → h' b = h b) → V G K M bc bs (n, h') (pc + 1) lo st) : V G K M bc bs (n, h) pc lo (.ref v :: .int (nI j) :: .ref a :: st) := by
  obtain ⟨p, l, e, R, s, m, args, below, meth, c, Qf⟩ := K
  intro H locs cells slots ls hR hS hl hc hs
  obtain ⟨C1, C2, C3, C4, C5, C6, C7, C8, -, -, C11, -⟩ := C
  have hcl : (nI j).toNatClampNeg = j := nI_clamp (by omega)
  obtain ⟨r', hr', cellV, g1, g2, g3, -⟩ := hR.ob hv
  have hcls := (C6.1 6 r' hr').2
  have hr6 : r'.1 = "HorizonExchange$Market" := by cases hr'; rfl
  obtain ⟨kA, comp, k1, k2, k3, -⟩ := (show va_RA s (G.2.2.1 5) (.object "HorizonExchange$Market") from (C6.2 5 _ (hp_tys_at G (by decide))).2)
  have hcomp : comp = G.1.1 6 := Option.some.inj (k3.symm.trans (hr6 ▸ hcls.1))
  subst hcomp
  obtain ⟨kC, hkC, -⟩ := hcls.2
  refine W.aast C1 C2 (hR.own ha hh) (fun q h => by cases h) (fun h => by cases h) k1 k2 rfl hkC ⟨fun q => absurd (nI_pos (show j < 2 ^ 31 by omega)) (fun z => z q), by show _ < (arrV _ _ _).slots.size; rw [arrV_size, hcl]; exact hj⟩ g1 (fun q h => by have h9 := g3.1; rw [h] at h9; exact Bool.noConfusion (show true = false from h9)) (by rw [g2]; exact hkC) (by rw [g2]; exact va_assign hcls) rfl rfl hd fun H1 e1 z1 oq => ?_
  rw [hcl] at e1
  refine kk (fun b => if b = a then some (.inl (G.2.2.1 5, z, .inr (.inr (.inr (.inr (va_up f j (some v))))))) else h b) (if_pos rfl) (fun b hb => if_neg hb) H1 _ cells slots ls (hR.upd z1 oq ?_ (if_pos rfl) (fun b hb => if_neg hb)) (hS.put z1 oq ha) hl hc hs
  show H1[a]? = some (vp_cell _ _)
  rw [e1]
  rw [vp_cell_q, vp_cell_q, arrV_store]
  congr 2
  funext q
  by_cases hq : q = j
  · subst hq
    simp [updV, va_up, va_rf]
  · simp [updV, va_up, hq]
end HPREF
/-- a method's contract, its class one of those that natives stand in for, but not for it -/
theorem vx_ofWF {l : Launch} {y : MethodName} {ws ws' : List Cond} {rm : Room} {Pc : Array Value → State → Prop} {Qc : Array Value → State → Outcome → State → Prop} {XC : String → State → State → Prop} {mc ms : Nat} {free : Addr → Prop} {cc : ByteArray} {maxL : Nat} {ret : Option FieldType}
    (hy : plainFor y = true) (hw : ws = Cond.code y cc maxL ret :: ws')
    (body : ∀ p e s m args below meth c s₁, BodyLoose p l y (headSpec ws rm) cc maxL ret e s m args below meth c s₁ → c.maxLocals = maxL → (∀ x ∈ c.exceptionTable.toList, False) → Pc args s →
      W p l e (headSpec ws rm).room s m args below meth c s.heap [] 0 0 (vx_MQ below Qc XC args s mc ms free) (entryFrame m args maxL)) : vx_Met l y ws rm Pc Qc XC mc ms free := by
  refine MetFree.of_bodySF (code := cc) (maxLocals := maxL) (ret := ret) hy ?_ ?_
  · intro args s m h hn
    obtain ⟨meth, c, h1, h2, h3, h4, h5, h6, -, -⟩ := Cond.code_spec hn (atoms_spec (ws := ws) h _ (by rw [hw]; exact List.mem_cons_self))
    exact ⟨meth, c, h1, h2, h3, h4, h5, h6⟩
  · intro p e s m args below meth c s₁ B hml hP _
    have hh0 : s₁.heap = s.heap := by rw [B.state]; rfl
    have ht : ∀ x ∈ c.exceptionTable.toList, False := by
      obtain ⟨meth9, c9, h1, h2, -, -, -, -, h7, -⟩ := Cond.code_spec B.named (atoms_spec (ws := ws) B.pre _ (by rw [hw]; exact List.mem_cons_self))
      cases Option.some.inj (h1.symm.trans B.method)
      cases Option.some.inj (h2.symm.trans (Stand.of_body B).code)
      intro x hx
      rw [Array.isEmpty_iff.mp h7] at hx
      cases hx
    obtain ⟨t, a1, o, b1, b2, b3⟩ := body p e s m args below meth c s₁ B hml ht hP s₁ hh0 (Stand.of_body B)
    exact ⟨t, o, a1, b1, b2, b3⟩

set_option maxHeartbeats 1000000 in
theorem Ct.ofF {G : hp_G} {l : Launch} {y : MethodName} {c : ByteArray} {n : Nat} {ret : Option FieldType} {d mc ms : Nat} {av : List Value} {n0 : Nat} {h : Nat → Option va_E} {P : hp_P} (hy : plainFor y = true) (hl : l.stackTraces = false) (hc : ∀ v ∈ av, v.category = 1) (hn : av.length ≤ n)
    (body : ∀ K : hp_C, hp_Cx G K (c, y.cls, n, ret, y.name) → hp_End G K P → hp_Rm K = hp_rm d mc ms → K.2.1 = l → V G K (c, y.cls, n, ret, y.name) mc ms (n0, h) 0 (av.map some ++ List.replicate (n - av.length) none) []) : Ct G l y c n ret d mc ms av (n0, h) P := by
  refine vx_ofWF (cc := c) (maxL := n) (ret := ret) hy rfl ?_
  intro p e s m args below meth c0 s₁ B hml hex hv
  obtain ⟨rfl, hR, hK, hF, hbase⟩ := hv
  have hown : s.vm.findClass y.cls = some m.cls := findClass_of_methodNamed B.named
  have hnm : meth.name = y.name := (name_of_methodNamed B.named B.method).1
  have hts := atoms_spec (ws := Cond.code y c n ret :: hp_bw) B.pre
  have hlen : ∀ (av : List Value), (∀ v ∈ av, v.category = 1) → (lg_sl av).length = av.length := by
    intro av
    induction av with
    | nil => intro _; rfl
    | cons v vs ih =>
      intro hc
      have h1 := hc v List.mem_cons_self
      have h2 := ih (fun w hw => hc w (List.mem_cons_of_mem _ hw))
      have h3 : lg_sl (v :: vs) = [Slot.val v] ++ lg_sl vs := by simp [lg_sl, h1]
      rw [h3, List.length_append, h2]
      simp; omega
  have hl0 := lv_entry av (n := n) (by rw [hlen av hc]; exact hn)
  rw [lg_entry_eq]
  generalize (lg_sl av ++ List.replicate (n - (lg_sl av).length) Slot.unset).toArray = ls at hl0 ⊢
  have hlo : hp_lo ls n (av.map some ++ List.replicate (n - av.length) none) := by
    refine ⟨hl0.1, hl0.2.1, fun i v hi => ?_⟩
    by_cases q : i < av.length
    · rw [List.getElem?_append_left (by rw [List.length_map]; exact q)] at hi
      have := hp_lo_entry av 0 hc i v hi
      rw [Nat.zero_add] at this
      exact hl0.2.2 _ this
    · rw [List.getElem?_append_right (by rw [List.length_map]; omega)] at hi
      have := List.eq_of_mem_replicate (List.mem_of_getElem? hi)
      cases this
  exact body (p, l, e, (headSpec (Cond.code y c n ret :: hp_bw) (hp_rm d mc ms)).room, s, m, av.toArray, below, meth, c0, vx_MQ below (hp_Qc G P) (hp_XC G P) av.toArray s mc ms (hp_A G)) ⟨B.exec, B.bytes, hml, hown, fun w hw => hts w (List.mem_cons_of_mem _ hw), hK, hF, hbase, B.notSynchronized, B.returns, hnm, hl⟩ ⟨rfl, hex⟩ rfl rfl s.heap [] 0 0 ls hR va_S.rf hlo (by simp [headSpec, hp_rm]) (by simp [headSpec, hp_rm])

theorem hp_fsX1 : ∀ j, j < 4 → ∃ ty, parseFieldDescriptor (TX1 j).2.2.1 = some ty ∧ defaultValue ty = vp_V [.null, .null, .int 0, .int 0] j := by
  intro j hj
  match j, hj with
  | 0, _ => exact ⟨.array (.int), by decide +kernel, rfl⟩
  | 1, _ => exact ⟨.array (.int), by decide +kernel, rfl⟩
  | 2, _ => exact ⟨.int, by decide +kernel, rfl⟩
  | 3, _ => exact ⟨.int, by decide +kernel, rfl⟩
  | k + 4, hj => exact absurd hj (by omega)
theorem hp_fsX3 : ∀ j, j < 3 → ∃ ty, parseFieldDescriptor (TX3 j).2.2.1 = some ty ∧ defaultValue ty = vp_V [.null, .int 0, .int 0] j := by
  intro j hj
  match j, hj with
  | 0, _ => exact ⟨.array (.object "HorizonExchange$Market"), by decide +kernel, rfl⟩
  | 1, _ => exact ⟨.int, by decide +kernel, rfl⟩
  | 2, _ => exact ⟨.int, by decide +kernel, rfl⟩
  | k + 3, hj => exact absurd hj (by omega)
theorem hp_fsX4 : ∀ j, j < 18 → ∃ ty, parseFieldDescriptor (TX4 j).2.2.1 = some ty ∧ defaultValue ty = vp_V [.int 0, .null, .null, .null, .int 0, .null, .null, .int 0, .null, .null, .null, .null, .null, .int 0, .int 0, .int 0, .long 0, .long 0] j := by
  intro j hj
  match j, hj with
  | 0, _ => exact ⟨.int, by decide +kernel, rfl⟩
  | 1, _ => exact ⟨.array (.int), by decide +kernel, rfl⟩
  | 2, _ => exact ⟨.array (.int), by decide +kernel, rfl⟩
  | 3, _ => exact ⟨.array (.int), by decide +kernel, rfl⟩
  | 4, _ => exact ⟨.int, by decide +kernel, rfl⟩
  | 5, _ => exact ⟨.array (.int), by decide +kernel, rfl⟩
  | 6, _ => exact ⟨.array (.int), by decide +kernel, rfl⟩
  | 7, _ => exact ⟨.int, by decide +kernel, rfl⟩
  | 8, _ => exact ⟨.array (.int), by decide +kernel, rfl⟩
  | 9, _ => exact ⟨.array (.int), by decide +kernel, rfl⟩
  | 10, _ => exact ⟨.array (.int), by decide +kernel, rfl⟩
  | 11, _ => exact ⟨.array (.int), by decide +kernel, rfl⟩
  | 12, _ => exact ⟨.array (.int), by decide +kernel, rfl⟩
  | 13, _ => exact ⟨.int, by decide +kernel, rfl⟩
  | 14, _ => exact ⟨.int, by decide +kernel, rfl⟩
  | 15, _ => exact ⟨.int, by decide +kernel, rfl⟩
  | 16, _ => exact ⟨.long, by decide +kernel, rfl⟩
  | 17, _ => exact ⟨.long, by decide +kernel, rfl⟩
  | k + 18, hj => exact absurd hj (by omega)
theorem hp_fsX5 : ∀ j, j < 5 → ∃ ty, parseFieldDescriptor (TX5 j).2.2.1 = some ty ∧ defaultValue ty = vp_V [.null, .int 0, .null, .null, .int 0] j := by
  intro j hj
  match j, hj with
  | 0, _ => exact ⟨.array (.int), by decide +kernel, rfl⟩
  | 1, _ => exact ⟨.int, by decide +kernel, rfl⟩
  | 2, _ => exact ⟨.array (.int), by decide +kernel, rfl⟩
  | 3, _ => exact ⟨.array (.int), by decide +kernel, rfl⟩
  | 4, _ => exact ⟨.int, by decide +kernel, rfl⟩
  | k + 5, hj => exact absurd hj (by omega)
theorem hp_fsX6 : ∀ j, j < 9 → ∃ ty, parseFieldDescriptor (TX6 j).2.2.1 = some ty ∧ defaultValue ty = vp_V [.int 0, .null, .int 0, .null, .null, .null, .null, .int 0, .null] j := by
  intro j hj
  match j, hj with
  | 0, _ => exact ⟨.int, by decide +kernel, rfl⟩
  | 1, _ => exact ⟨.array (.array (.int)), by decide +kernel, rfl⟩
  | 2, _ => exact ⟨.int, by decide +kernel, rfl⟩
  | 3, _ => exact ⟨.array (.int), by decide +kernel, rfl⟩
  | 4, _ => exact ⟨.array (.int), by decide +kernel, rfl⟩
  | 5, _ => exact ⟨.array (.int), by decide +kernel, rfl⟩
  | 6, _ => exact ⟨.array (.int), by decide +kernel, rfl⟩
  | 7, _ => exact ⟨.int, by decide +kernel, rfl⟩
  | 8, _ => exact ⟨.array (.int), by decide +kernel, rfl⟩
  | k + 9, hj => exact absurd hj (by omega)
theorem hp_fsX7 : ∀ j, j < 12 → ∃ ty, parseFieldDescriptor (TX7 j).2.2.1 = some ty ∧ defaultValue ty = vp_V [.null, .null, .null, .null, .null, .null, .null, .null, .null, .int 0, .int 0, .int 0] j := by
  intro j hj
  match j, hj with
  | 0, _ => exact ⟨.object "HorizonExchange$Market", by decide +kernel, rfl⟩
  | 1, _ => exact ⟨.object "HorizonExchange$Market", by decide +kernel, rfl⟩
  | 2, _ => exact ⟨.object "HorizonExchange$Market", by decide +kernel, rfl⟩
  | 3, _ => exact ⟨.object "HorizonExchange$History", by decide +kernel, rfl⟩
  | 4, _ => exact ⟨.object "HorizonExchange$Settlement", by decide +kernel, rfl⟩
  | 5, _ => exact ⟨.object "HorizonExchange$TakeOver", by decide +kernel, rfl⟩
  | 6, _ => exact ⟨.object "HorizonExchange$CommandReader", by decide +kernel, rfl⟩
  | 7, _ => exact ⟨.object "java/lang/StringBuilder", by decide +kernel, rfl⟩
  | 8, _ => exact ⟨.object "java/lang/StringBuilder", by decide +kernel, rfl⟩
  | 9, _ => exact ⟨.boolean, by decide +kernel, rfl⟩
  | 10, _ => exact ⟨.int, by decide +kernel, rfl⟩
  | 11, _ => exact ⟨.int, by decide +kernel, rfl⟩
  | k + 12, hj => exact absurd hj (by omega)
theorem hp_fsX8 : ∀ j, j < 24 → ∃ ty, parseFieldDescriptor (TX8 j).2.2.1 = some ty ∧ defaultValue ty = vp_V [.null, .null, .null, .null, .int 0, .int 0, .int 0, .int 0, .null, .int 0, .int 0, .int 0, .null, .int 0, .null, .null, .int 0, .int 0, .null, .null, .null, .int 0, .null, .int 0] j := by
  intro j hj
  match j, hj with
  | 0, _ => exact ⟨.array (.int), by decide +kernel, rfl⟩
  | 1, _ => exact ⟨.array (.int), by decide +kernel, rfl⟩
  | 2, _ => exact ⟨.array (.int), by decide +kernel, rfl⟩
  | 3, _ => exact ⟨.array (.int), by decide +kernel, rfl⟩
  | 4, _ => exact ⟨.boolean, by decide +kernel, rfl⟩
  | 5, _ => exact ⟨.int, by decide +kernel, rfl⟩
  | 6, _ => exact ⟨.boolean, by decide +kernel, rfl⟩
  | 7, _ => exact ⟨.int, by decide +kernel, rfl⟩
  | 8, _ => exact ⟨.array (.int), by decide +kernel, rfl⟩
  | 9, _ => exact ⟨.int, by decide +kernel, rfl⟩
  | 10, _ => exact ⟨.int, by decide +kernel, rfl⟩
  | 11, _ => exact ⟨.int, by decide +kernel, rfl⟩
  | 12, _ => exact ⟨.array (.char), by decide +kernel, rfl⟩
  | 13, _ => exact ⟨.int, by decide +kernel, rfl⟩
  | 14, _ => exact ⟨.array (.int), by decide +kernel, rfl⟩
  | 15, _ => exact ⟨.array (.int), by decide +kernel, rfl⟩
  | 16, _ => exact ⟨.int, by decide +kernel, rfl⟩
  | 17, _ => exact ⟨.int, by decide +kernel, rfl⟩
  | 18, _ => exact ⟨.array (.int), by decide +kernel, rfl⟩
  | 19, _ => exact ⟨.array (.int), by decide +kernel, rfl⟩
  | 20, _ => exact ⟨.array (.int), by decide +kernel, rfl⟩
  | 21, _ => exact ⟨.int, by decide +kernel, rfl⟩
  | 22, _ => exact ⟨.array (.int), by decide +kernel, rfl⟩
  | 23, _ => exact ⟨.int, by decide +kernel, rfl⟩
  | k + 24, hj => exact absurd hj (by omega)
theorem hp_fsJ4 : ∀ j, j < 4 → ∃ ty, parseFieldDescriptor (TJ4 j).2.2.1 = some ty ∧ defaultValue ty = vp_V [.null, .int 0, .int 0, .int 0] j := by
  intro j hj
  match j, hj with
  | 0, _ => exact ⟨.array (.byte), by decide +kernel, rfl⟩
  | 1, _ => exact ⟨.byte, by decide +kernel, rfl⟩
  | 2, _ => exact ⟨.boolean, by decide +kernel, rfl⟩
  | 3, _ => exact ⟨.int, by decide +kernel, rfl⟩
  | k + 4, hj => exact absurd hj (by omega)

/-! ===== THE SHORT WALK: references in arrays, text constants, static fields ===== -/
section HPREF
variable {G : hp_G} {K : hp_C} {M : hp_M} {bc bs : Nat} {n : Nat} {h : Nat → Option va_E} {pc : Nat} {lo : List (Option Value)} {st : List Value} {P : hp_P}
theorem v_ldcS (C : hp_Cx G K M) {idx : Nat} {tx : String} (kst : Nat) (hd : decode M.1 pc = .ok (.ldc idx, 2)) (hk : hp_kst[kst]? = some (M.2.1, idx, tx)) (k : V G K M bc bs (n, h) (pc + 2) lo (.ref (G.2.2.2 (2 * kst + 2)) :: st)) : V G K M bc bs (n, h) pc lo st := by
  obtain ⟨p, l, e, R, s, m, args, below, meth, c, Qf⟩ := K
  intro H locs cells slots ls hR hS hl hc hs
  obtain ⟨C1, C2, C3, C4, C5, C6, C7, C8, -, -, C11, -⟩ := C
  exact va_ldcS C1 C2 C4 (C7.2.2.2.2.2.1 kst _ hk) hd (k H locs cells slots ls hR hS hl hc hs)
theorem v_fconst0 (C : hp_Cx G K M) (hd : decode M.1 pc = .ok (.fconst 0, 1)) (k : V G K M bc bs (n, h) (pc + 1) lo (.float FP.fconst0 :: st)) : V G K M bc bs (n, h) pc lo st := by
  obtain ⟨p, l, e, R, s, m, args, below, meth, c, Qf⟩ := K
  intro H locs cells slots ls hR hS hl hc hs
  obtain ⟨C1, C2, C3, C4, C5, C6, C7, C8, -, -, C11, -⟩ := C
  exact lv_fconst0 C1 C2 hd (k H locs cells slots ls hR hS hl hc hs)
theorem v_dconst0 (C : hp_Cx G K M) (hd : decode M.1 pc = .ok (.dconst 0, 1)) (k : V G K M bc bs (n, h) (pc + 1) lo (.double FP.dconst0 :: st)) : V G K M bc bs (n, h) pc lo st := by
  obtain ⟨p, l, e, R, s, m, args, below, meth, c, Qf⟩ := K
  intro H locs cells slots ls hR hS hl hc hs
  obtain ⟨C1, C2, C3, C4, C5, C6, C7, C8, -, -, C11, -⟩ := C
  exact lv_dconst0 C1 C2 hd (k H locs cells slots ls hR hS hl hc hs)
/-- the static field of a class, its word a bare link -/
theorem v_gets (C : hp_Cx G K M) {idx : Nat} {Cn nm ds : String} {v : Value} (hd : decode M.1 pc = .ok (.getstatic idx, 3)) (hw : Cond.fieldLink M.2.1 idx Cn nm ds ∈ lw_tbl) (hz : ∀ U H, hp_F G U H → va_Z Cn nm ds v (hp_A G) U H) (k : V G K M bc bs (n, h) (pc + 3) lo (v :: st)) : V G K M bc bs (n, h) pc lo st := by
  obtain ⟨p, l, e, R, s, m, args, below, meth, c, Qf⟩ := K
  intro H locs cells slots ls hR hS hl hc hs
  obtain ⟨C1, C2, C3, C4, C5, C6, C7, C8, -, -, C11, -⟩ := C
  exact va_gets C1 C2 (hz _ _ C7) hS C4 (C5 _ (hp_in hw rfl)) (fun _ hx => hx) hd (k H locs cells slots ls hR hS hl hc hs)
theorem hp_Zc {U : State} {H : Heap} (h : hp_F G U H) : va_Z "java/lang/String" "COMPACT_STRINGS" "Z" (.int 1) (hp_A G) U H := h.2.2.1
theorem hp_Zo {U : State} {H : Heap} (h : hp_F G U H) : va_Z "java/lang/Integer" "DigitOnes" "[B" (.ref (G.2.2.2 0)) (hp_A G) U H := h.2.2.2.1
theorem hp_Zt {U : State} {H : Heap} (h : hp_F G U H) : va_Z "java/lang/Integer" "DigitTens" "[B" (.ref (G.2.2.2 1)) (hp_A G) U H := h.2.2.2.2.1
/-- a cast to a row of bytes -/
theorem v_castB (C : hp_Cx G K M) {idx a z : Nat} {x : (Nat → Int32) ⊕ (Nat → Int64) ⊕ (Nat → UInt32) ⊕ (Nat → UInt64) ⊕ (Nat → Option Nat)} (hd : decode M.1 pc = .ok (.checkcast idx, 3)) (hw : Cond.classLink M.2.1 idx "[B" ∈ lw_tbl) (hh : h a = some (.inl (G.2.2.1 0, z, x))) (k : V G K M bc bs (n, h) (pc + 3) lo (.ref a :: st)) : V G K M bc bs (n, h) pc lo (.ref a :: st) := by
  obtain ⟨p, l, e, R, s, m, args, below, meth, c, Qf⟩ := K
  intro H locs cells slots ls hR hS hl hc hs
  obtain ⟨C1, C2, C3, C4, C5, C6, C7, C8, -, -, C11, -⟩ := C
  exact va_castA (D := G.1) (cl := vwCl) (ws := [(a, .inl (G.2.2.1 0, z, x))]) C1 C2 C4 (C5 _ (hp_in hw rfl)) (fun j q hj => by
    cases j with
    | zero => cases hj; exact hR.2 a _ hh
    | succ j => cases hj) 0 rfl (C6.2 0 _ (hp_tys_at G (by decide))).2 hd (k H locs cells slots ls hR hS hl hc hs)
/-- a new array of markets -/
theorem v_anewM (C : hp_Cx G K M) {idx N : Nat} {i : Int32} (hd : decode M.1 pc = .ok (.anewarray idx, 3)) (hw : Cond.classLink M.2.1 idx "HorizonExchange$Market" ∈ lw_tbl) (hi : ¬ i < 0) (hN : i.toNatClampNeg = N) (hN2 : N ≤ 60000) (hb1 : 1 ≤ bc) (hb2 : N ≤ bs) (kk : ∀ h' : Nat → Option va_E, h' n = some (.inl (G.2.2.1 5, N, .inr (.inr (.inr (.inr (fun _ => none)))))) → (∀ b, b ≠ n → h' b = h b) → V G K M (bc - 1) (bs - N) (n + 1, h') (pc + 3) lo (.ref n :: st)) : V G K M bc bs (n, h) pc lo (.int i :: st) := by
  obtain ⟨p, l, e, R, s, m, args, below, meth, c, Qf⟩ := K
  intro H locs cells slots ls hR hS hl hc hs
  obtain ⟨C1, C2, C3, C4, C5, C6, C7, C8, -, -, C11, -⟩ := C
  subst hN
  refine W.anew C1 C2 C4 (C5 _ (hp_in hw rfl)) (va_AO.use C7.2.2.2.2.2.2.2.1) rfl hd rfl hi (by omega) (by omega) (by omega) fun cA kA comp f1 f2 f3 f4 => ?_
  obtain ⟨kA9, comp9, -, -, -, h9⟩ := (show va_RA s (G.2.2.1 5) (.object "HorizonExchange$Market") from (C6.2 5 _ (hp_tys_at G (by decide))).2)
  have ec : cA = G.2.2.1 5 := Option.some.inj (f1.symm.trans h9)
  subst ec
  have hn : H.size = n := hR.1
  generalize hH1 : H.push ({ cls := G.2.2.1 5, slots := Array.replicate i.toNatClampNeg .null, vm := .none } : Cell) = H1
  have z1 : H1.size = H.size + 1 := by rw [← hH1, Array.size_push]
  have e1 : H1[H.size]? = some (arrV (G.2.2.1 5) i.toNatClampNeg (fun _ => .null)) := by rw [← hH1, Array.getElem?_push_size, ← arrV_new]
  have o1 : ∀ q : Nat, q < H.size → H1[q]? = H[q]? := fun q hq => by rw [← hH1, Array.getElem?_push, if_neg (Nat.ne_of_lt hq)]
  rw [hn]
  rw [hn] at e1
  refine kk (fun b => if b = n then some (.inl (G.2.2.1 5, i.toNatClampNeg, .inr (.inr (.inr (.inr (fun _ => none)))))) else h b) (if_pos rfl) (fun b hb => if_neg hb) H1 locs (cells + 1) (slots + i.toNatClampNeg) ls (hR.push z1 o1 ?_ (if_pos rfl) (fun b hb => if_neg hb)) ⟨Nat.le_trans hS.1 (by omega), fun x h1 h2 => (o1 x (Nat.lt_of_lt_of_le h1 hS.1)).trans (hS.2.1 x h1 h2), hS.2.2⟩ hl (by omega) (by omega)
  show H1[n]? = some (vp_cell _ _)
  rw [vp_cell_q]
  exact e1
/-- a market into an array -/
theorem v_aastM (C : hp_Cx G K M) {a z v j : Nat} {vs : List Value} {f : Nat → Option Nat} (hd : decode M.1 pc = .ok (.aastore, 1)) (ha : G.2.1 ≤ a) (hh : h a = some (.inl (G.2.2.1 5, z, .inr (.inr (.inr (.inr f)))))) (hv : h v = some (.inr (6, vs))) (hj : j < z) (hz : z ≤ 65536) (kk : ∀ h' : Nat → Option va_E, h' a = some (.inl (G.2.2.1 5, z, .inr (.inr (.inr (.inr (va_up f j (some v))))))) → (∀ b, b ≠ a → h' b = h b) → V G K M bc bs (n, h') (pc + 1) lo st) : V G K M bc bs (n, h) pc lo (.ref v :: .int (nI j) :: .ref a :: st) := by
  obtain ⟨p, l, e, R, s, m, args, below, meth, c, Qf⟩ := K
  intro H locs cells slots ls hR hS hl hc hs
  obtain ⟨C1, C2, C3, C4, C5, C6, C7, C8, -, -, C11, -⟩ := C
  have hcl : (nI j).toNatClampNeg = j := nI_clamp (by omega)
  obtain ⟨r', hr', cellV, g1, g2, g3, -⟩ := hR.2 v _ hv
  have hcls := (C6.1 6 r' hr').2
  have hr6 : r'.1 = "HorizonExchange$Market" := by cases hr'; rfl
  obtain ⟨kA, comp, k1, k2, k3, -⟩ := (show va_RA s (G.2.2.1 5) (.object "HorizonExchange$Market") from (C6.2 5 _ (hp_tys_at G (by decide))).2)
  have hcomp : comp = G.1.1 6 := Option.some.inj (k3.symm.trans (hr6 ▸ hcls.1))
  subst hcomp
  obtain ⟨kC, hkC, -⟩ := hcls.2
  refine W.aast C1 C2 (hR.2 a _ hh) (fun q h => by cases h) (fun h => by cases h) k1 k2 rfl hkC ⟨fun q => absurd (nI_pos (show j < 2 ^ 31 by omega)) (fun z => z q), by show _ < (arrV _ _ _).slots.size; rw [arrV_size, hcl]; exact hj⟩ g1 (fun q h => by rw [g3] at h; cases h) (by rw [g2]; exact hkC) (by rw [g2]; exact va_assign hcls) rfl rfl hd fun H1 e1 z1 oq => ?_
  rw [hcl] at e1
  refine kk (fun b => if b = a then some (.inl (G.2.2.1 5, z, .inr (.inr (.inr (.inr (va_up f j (some v))))))) else h b) (if_pos rfl) (fun b hb => if_neg hb) H1 _ cells slots ls (hR.upd z1 oq ?_ (if_pos rfl) (fun b hb => if_neg hb)) (hS.put z1 oq ha) hl hc hs
  show H1[a]? = some (vp_cell _ _)
  rw [e1]
  rw [vp_cell_q, vp_cell_q, arrV_store]
  congr 2
  funext q
  by_cases hq : q = j
  · subst hq
    simp [updV, va_up, va_rf]
  · simp [updV, va_up, hq]
end HPREF

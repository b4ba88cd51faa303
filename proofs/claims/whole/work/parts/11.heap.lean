/-! ===== THE SHORT WALK: fields, arrays, making ===== -/
/-- the classes of the worlds: their field words are among those that stay; their fields' types; their names apart -/
def hp_cls (q : vw_C) : Prop := (∀ w ∈ u_ws q.1 q.2.1 q.2.2, w ∈ hp_bw) ∧ (∃ ty0 : Nat → FieldType, ∀ k, k < q.2.2 → parseFieldDescriptor (q.2.1 k).2.2.1 = some (ty0 k)) ∧ ∀ a, a < q.2.2 → ∀ b, b < q.2.2 → a ≠ b → (q.2.1 a).2.1 ≠ (q.2.1 b).2.1
theorem hp_uin {C : String} {T : u_T} {N : Nat} (h : ∀ w ∈ u_ws C T N, w ∈ lw_tbl) : ∀ w ∈ u_ws C T N, w ∈ hp_bw := by
  intro w hw
  refine hp_in (h w hw) ?_
  obtain ⟨k, -, rfl⟩ := List.mem_map.mp hw
  unfold u_lay
  split <;> rfl
theorem hp_cJ0 : hp_cls (RJ0, TJ0, 4) := ⟨hp_uin (by decide +kernel), ⟨tyJ0, tyJ0_ok⟩, nmJ0⟩
theorem hp_cJ4 : hp_cls (RJ4, TJ4, 4) := ⟨hp_uin (by decide +kernel), ⟨tyJ4, tyJ4_ok⟩, nmJ4⟩
theorem hp_cJx00060 : hp_cls (RJx00060, TJx00060, 6) := ⟨hp_uin (by decide +kernel), ⟨tyJx00060, tyJx00060_ok⟩, nmJx00060⟩
theorem hp_cJx7c733 : hp_cls (RJx7c733, TJx7c733, 6) := ⟨hp_uin (by decide +kernel), ⟨tyJx7c733, tyJx7c733_ok⟩, nmJx7c733⟩
theorem hp_cX1 : hp_cls (RX1, TX1, 4) := ⟨hp_uin (by decide +kernel), ⟨tyX1, tyX1_ok⟩, nmX1⟩
theorem hp_cX3 : hp_cls (RX3, TX3, 3) := ⟨hp_uin (by decide +kernel), ⟨tyX3, tyX3_ok⟩, nmX3⟩
theorem hp_cX4 : hp_cls (RX4, TX4, 18) := ⟨hp_uin (by decide +kernel), ⟨tyX4, tyX4_ok⟩, nmX4⟩
theorem hp_cX5 : hp_cls (RX5, TX5, 5) := ⟨hp_uin (by decide +kernel), ⟨tyX5, tyX5_ok⟩, nmX5⟩
theorem hp_cX6 : hp_cls (RX6, TX6, 9) := ⟨hp_uin (by decide +kernel), ⟨tyX6, tyX6_ok⟩, nmX6⟩
theorem hp_cX7 : hp_cls (RX7, TX7, 12) := ⟨hp_uin (by decide +kernel), ⟨tyX7, tyX7_ok⟩, nmX7⟩
theorem hp_cX8 : hp_cls (RX8, TX8, 24) := ⟨hp_uin (by decide +kernel), ⟨tyX8, tyX8_ok⟩, nmX8⟩
theorem hp_clsat {ci : Nat} {q : vw_C} (h : vwCl[ci]? = some q) : hp_cls q := by
  match ci, h with
  | 0, h => cases h; exact hp_cJ0
  | 1, h => cases h; exact hp_cJ4
  | 2, h => cases h; exact hp_cJx00060
  | 3, h => cases h; exact hp_cJx7c733
  | 4, h => cases h; exact hp_cX1
  | 5, h => cases h; exact hp_cX3
  | 6, h => cases h; exact hp_cX4
  | 7, h => cases h; exact hp_cX5
  | 8, h => cases h; exact hp_cX6
  | 9, h => cases h; exact hp_cX7
  | 10, h => cases h; exact hp_cX8
  | k + 11, h => simp [vwCl] at h
section HPH
variable {G : hp_G} {K : hp_C} {M : hp_M} {bc bs : Nat} {n : Nat} {h : Nat → Option va_E} {pc : Nat} {lo : List (Option Value)} {st : List Value} {P : hp_P}
theorem v_get (C : hp_Cx G K M) {ci N idx a : Nat} {Cn Rf nm0 ds0 : String} {T : u_T} {fs : List Value} {v : Value} (k0 : Nat) (hd : decode M.1 pc = .ok (.getfield idx, 3)) (hw : Cond.fieldLink M.2.1 idx Rf nm0 ds0 ∈ lw_tbl) (hh : h a = some (.inr (ci, fs))) (hci : vwCl[ci]? = some (Cn, T, N)) (hk : k0 < N) (hT : (T k0).1 = Rf ∧ (T k0).2.1 = nm0 ∧ (T k0).2.2.1 = ds0) (hv : fs[k0]? = some v) (k : V G K M bc bs (n, h) (pc + 3) lo (v :: st)) : V G K M bc bs (n, h) pc lo (.ref a :: st) := by
  obtain ⟨p, l, e, R, s, m, args, below, meth, c, Qf⟩ := K
  intro H locs cells slots ls hR hS hl hc hs
  obtain ⟨C1, C2, C3, C4, C5, C6, C7, C8, -, -, C11, -⟩ := C
  obtain ⟨rfl, rfl, rfl⟩ := hT
  have hcl := hp_clsat hci
  obtain ⟨r, h1, cell, q1, q2, q3, q4⟩ := hR.ob hh
  have hr : r = (Cn, T, N) := Option.some.inj (h1.symm.trans hci)
  subst hr
  obtain ⟨hSl, hfc, kC, hkC, hkind⟩ := C6.1 ci _ hci
  obtain ⟨cf, kf, fi, f, hi, hsl⟩ := hSl k0 hk
  have hlink := C5 _ (hp_in hw rfl)

  refine W.getf C1 C2 C4 hlink hi (u_facts hfc hkC (u_lays (fun w hw => C5 w (hcl.1 w hw)) (fun w hw => hw) hk) hi).1 q1 q3.2 (v := v) ?_ rfl rfl hd (k H locs cells slots ls hR hS hl hc hs)
  rw [hsl, q4 k0 hk]
  simp [vp_V, hv]
theorem v_getN (C : hp_Cx G K M) {ci N idx a : Nat} {Cn Rf nm0 ds0 : String} {T : u_T} {fs : List Value} {v : Value} {host : String} (k0 : Nat) (hd : decode M.1 pc = .ok (.getfield idx, 3)) (hw : Cond.fieldLinkNest M.2.1 idx Rf nm0 ds0 host ∈ lw_tbl) (hh : h a = some (.inr (ci, fs))) (hci : vwCl[ci]? = some (Cn, T, N)) (hk : k0 < N) (hT : (T k0).1 = Rf ∧ (T k0).2.1 = nm0 ∧ (T k0).2.2.1 = ds0) (hv : fs[k0]? = some v) (k : V G K M bc bs (n, h) (pc + 3) lo (v :: st)) : V G K M bc bs (n, h) pc lo (.ref a :: st) := by
  obtain ⟨p, l, e, R, s, m, args, below, meth, c, Qf⟩ := K
  intro H locs cells slots ls hR hS hl hc hs
  obtain ⟨C1, C2, C3, C4, C5, C6, C7, C8, -, -, C11, -⟩ := C
  obtain ⟨rfl, rfl, rfl⟩ := hT
  have hcl := hp_clsat hci
  obtain ⟨r, h1, cell, q1, q2, q3, q4⟩ := hR.ob hh
  have hr : r = (Cn, T, N) := Option.some.inj (h1.symm.trans hci)
  subst hr
  obtain ⟨hSl, hfc, kC, hkC, hkind⟩ := C6.1 ci _ hci
  obtain ⟨cf, kf, fi, f, hi, hsl⟩ := hSl k0 hk
  have hlink := C7.nw hw rfl args

  refine va_Wgetf C1 C2 C4 hlink hi (u_facts hfc hkC (u_lays (fun w hw => C5 w (hcl.1 w hw)) (fun w hw => hw) hk) hi).1 q1 q3.2 (v := v) ?_ rfl rfl hd (k H locs cells slots ls hR hS hl hc hs)
  rw [hsl, q4 k0 hk]
  simp [vp_V, hv]
theorem v_put (C : hp_Cx G K M) {ci N idx a : Nat} {Cn Rf nm0 ds0 : String} {T : u_T} {fs : List Value} {v : Value} {ty : FieldType} (k0 : Nat) (hd : decode M.1 pc = .ok (.putfield idx, 3)) (hw : Cond.fieldLink M.2.1 idx Rf nm0 ds0 ∈ lw_tbl) (ha : G.2.1 ≤ a) (hh : h a = some (.inr (ci, fs))) (hci : vwCl[ci]? = some (Cn, T, N)) (hk : k0 < N) (hT : (T k0).1 = Rf ∧ (T k0).2.1 = nm0 ∧ (T k0).2.2.1 = ds0 ∧ (T k0).2.2.2 = false) (hty : parseFieldDescriptor ds0 = some ty) (hn : narrow ty v = v) (hfit : fits ty v = true) (hl0 : k0 < fs.length) (kk : ∀ h' : Nat → Option va_E, h' a = some (.inr (ci, fs.set k0 v)) → (∀ b, b ≠ a → h' b = h b) → V G K M bc bs (n, h') (pc + 3) lo st) : V G K M bc bs (n, h) pc lo (v :: .ref a :: st) := by
  obtain ⟨p, l, e, R, s, m, args, below, meth, c, Qf⟩ := K
  intro H locs cells slots ls hR hS hl hc hs
  obtain ⟨C1, C2, C3, C4, C5, C6, C7, C8, -, -, C11, -⟩ := C
  obtain ⟨rfl, rfl, rfl, hfin⟩ := hT
  have hcl := hp_clsat hci
  obtain ⟨r, h1, cell, q1, q2, q3, q4⟩ := hR.own ha hh
  have hr : r = (Cn, T, N) := Option.some.inj (h1.symm.trans hci)
  subst hr
  obtain ⟨hSl, hfc, kC, hkC, hkind⟩ := C6.1 ci _ hci
  obtain ⟨cf, kf, fi, f, hi, hsl⟩ := hSl k0 hk
  have hlink := C5 _ (hp_in hw rfl)
  have hlay := C5 _ (hcl.1 _ (u_in_lay hk))
  obtain ⟨ty0, hty0⟩ := hcl.2.1
  have hap := va_apart (own := M.2.1) (D := G.1) (cl := vwCl) (tys := hp_tys G) (s := s) (args := args) (fun w hw => C5 w (hcl.1 w hw)) (fun w hw => hw) ty0 hty0 hcl.2.2 C6 hci
  have fin : ∀ H', H'[a]? = some (cell.setSlot f.slot v) → H'.size = H.size → (∀ q, q ≠ a → H'[q]? = H[q]?) → W p l e R s m args below meth c H' (locs ++ [⟨a, f.slot⟩]) cells slots Qf (F0 m (pc + 3) ls st) := by
    intro H' e1 e2 e3
    rw [hsl] at e1 ⊢
    refine kk (fun b => if b = a then some (.inr (ci, fs.set k0 v)) else h b) (if_pos rfl) (fun b hb => if_neg hb) H' _ cells slots ls (hR.upd (e := .inr (ci, fs.set k0 v)) e2 e3 ⟨_, hci, t_OB.to (V := updV (vp_V fs) k0 v) ⟨_, e1, q2, q3, t_set q4 hap hk v⟩ (fun j _ => vp_updV_set hl0 v j)⟩ (if_pos rfl) (fun b hb => if_neg hb)) (hS.put e2 e3 ha) hl hc hs
  unfold u_lay at hlay
  rw [if_neg (by rw [hfin]; decide)] at hlay
  have hst := (u_facts hfc hkC (u_lays (fun w hw => C5 w (hcl.1 w hw)) (fun w hw => hw) hk) hi).1
  have h6 := u_store hfc hkC hkind hlay hi hty hn hfit
  exact W.putK C1 C2 (f := f) ⟨C4, hlink, ⟨_, _, _, hi⟩, hst⟩ (by rw [q2]; exact h6) q1 q3 (by rw [hsl]; exact k2_hasslot (q4 k0 hk)) rfl rfl hd fin
theorem v_putF (C : hp_Cx G K M) {ci N idx a : Nat} {Cn Rf nm0 ds0 : String} {T : u_T} {fs : List Value} {v : Value} {ty : FieldType} (k0 : Nat) (hd : decode M.1 pc = .ok (.putfield idx, 3)) (hw : Cond.fieldLink M.2.1 idx Rf nm0 ds0 ∈ lw_tbl) (ha : G.2.1 ≤ a) (hh : h a = some (.inr (ci, fs))) (hci : vwCl[ci]? = some (Cn, T, N)) (hk : k0 < N) (hT : (T k0).1 = Rf ∧ (T k0).2.1 = nm0 ∧ (T k0).2.2.1 = ds0 ∧ (T k0).2.2.2 = true) (hin2 : M.2.2.2.2 = "<init>") (hdecl : (T k0).1 = M.2.1) (hty : parseFieldDescriptor ds0 = some ty) (hn : narrow ty v = v) (hfit : fits ty v = true) (hl0 : k0 < fs.length) (kk : ∀ h' : Nat → Option va_E, h' a = some (.inr (ci, fs.set k0 v)) → (∀ b, b ≠ a → h' b = h b) → V G K M bc bs (n, h') (pc + 3) lo st) : V G K M bc bs (n, h) pc lo (v :: .ref a :: st) := by
  obtain ⟨p, l, e, R, s, m, args, below, meth, c, Qf⟩ := K
  intro H locs cells slots ls hR hS hl hc hs
  obtain ⟨C1, C2, C3, C4, C5, C6, C7, C8, -, -, C11, -⟩ := C
  obtain ⟨rfl, rfl, rfl, hfin⟩ := hT
  have hcl := hp_clsat hci
  obtain ⟨r, h1, cell, q1, q2, q3, q4⟩ := hR.own ha hh
  have hr : r = (Cn, T, N) := Option.some.inj (h1.symm.trans hci)
  subst hr
  obtain ⟨hSl, hfc, kC, hkC, hkind⟩ := C6.1 ci _ hci
  obtain ⟨cf, kf, fi, f, hi, hsl⟩ := hSl k0 hk
  have hlink := C5 _ (hp_in hw rfl)
  have hlay := C5 _ (hcl.1 _ (u_in_lay hk))
  obtain ⟨ty0, hty0⟩ := hcl.2.1
  have hap := va_apart (own := M.2.1) (D := G.1) (cl := vwCl) (tys := hp_tys G) (s := s) (args := args) (fun w hw => C5 w (hcl.1 w hw)) (fun w hw => hw) ty0 hty0 hcl.2.2 C6 hci
  have fin : ∀ H', H'[a]? = some (cell.setSlot f.slot v) → H'.size = H.size → (∀ q, q ≠ a → H'[q]? = H[q]?) → W p l e R s m args below meth c H' (locs ++ [⟨a, f.slot⟩]) cells slots Qf (F0 m (pc + 3) ls st) := by
    intro H' e1 e2 e3
    rw [hsl] at e1 ⊢
    refine kk (fun b => if b = a then some (.inr (ci, fs.set k0 v)) else h b) (if_pos rfl) (fun b hb => if_neg hb) H' _ cells slots ls (hR.upd (e := .inr (ci, fs.set k0 v)) e2 e3 ⟨_, hci, t_OB.to (V := updV (vp_V fs) k0 v) ⟨_, e1, q2, q3, t_set q4 hap hk v⟩ (fun j _ => vp_updV_set hl0 v j)⟩ (if_pos rfl) (fun b hb => if_neg hb)) (hS.put e2 e3 ha) hl hc hs
  unfold u_lay at hlay
  rw [if_pos hfin] at hlay
  have hst := (u_facts hfc hkC (u_lays (fun w hw => C5 w (hcl.1 w hw)) (fun w hw => hw) hk) hi).1
  have hcf : m.cls = cf := by
    obtain ⟨_, _, c', _, _, _, -, -, hf', -, -, -, hown2, -⟩ := Cond.laysFinal_spec hlay
    have e1 : c' = cf := by have := hi.symm.trans hf'; simp at this; exact this.1.symm
    rw [hdecl] at hown2
    rw [← e1]; exact Option.some.inj (C4.symm.trans hown2)
  have h6 := u_fits hfc hkC hkind (Or.inr hlay) hi hty hn hfit
  exact W.putFinK C1 C2 C4 hlink hi hst hcf (C11.trans hin2) (by rw [q2]; exact h6) q1 q3 (by rw [hsl]; exact k2_hasslot (q4 k0 hk)) rfl rfl hd fin
theorem v_putN (C : hp_Cx G K M) {ci N idx a : Nat} {Cn Rf nm0 ds0 : String} {T : u_T} {fs : List Value} {v : Value} {ty : FieldType} {host : String} (k0 : Nat) (hd : decode M.1 pc = .ok (.putfield idx, 3)) (hw : Cond.fieldLinkNest M.2.1 idx Rf nm0 ds0 host ∈ lw_tbl) (ha : G.2.1 ≤ a) (hh : h a = some (.inr (ci, fs))) (hci : vwCl[ci]? = some (Cn, T, N)) (hk : k0 < N) (hT : (T k0).1 = Rf ∧ (T k0).2.1 = nm0 ∧ (T k0).2.2.1 = ds0 ∧ (T k0).2.2.2 = false) (hty : parseFieldDescriptor ds0 = some ty) (hn : narrow ty v = v) (hfit : fits ty v = true) (hl0 : k0 < fs.length) (kk : ∀ h' : Nat → Option va_E, h' a = some (.inr (ci, fs.set k0 v)) → (∀ b, b ≠ a → h' b = h b) → V G K M bc bs (n, h') (pc + 3) lo st) : V G K M bc bs (n, h) pc lo (v :: .ref a :: st) := by
  obtain ⟨p, l, e, R, s, m, args, below, meth, c, Qf⟩ := K
  intro H locs cells slots ls hR hS hl hc hs
  obtain ⟨C1, C2, C3, C4, C5, C6, C7, C8, -, -, C11, -⟩ := C
  obtain ⟨rfl, rfl, rfl, hfin⟩ := hT
  have hcl := hp_clsat hci
  obtain ⟨r, h1, cell, q1, q2, q3, q4⟩ := hR.own ha hh
  have hr : r = (Cn, T, N) := Option.some.inj (h1.symm.trans hci)
  subst hr
  obtain ⟨hSl, hfc, kC, hkC, hkind⟩ := C6.1 ci _ hci
  obtain ⟨cf, kf, fi, f, hi, hsl⟩ := hSl k0 hk
  have hlink := C7.nw hw rfl args
  have hlay := C5 _ (hcl.1 _ (u_in_lay hk))
  obtain ⟨ty0, hty0⟩ := hcl.2.1
  have hap := va_apart (own := M.2.1) (D := G.1) (cl := vwCl) (tys := hp_tys G) (s := s) (args := args) (fun w hw => C5 w (hcl.1 w hw)) (fun w hw => hw) ty0 hty0 hcl.2.2 C6 hci
  have fin : ∀ H', H'[a]? = some (cell.setSlot f.slot v) → H'.size = H.size → (∀ q, q ≠ a → H'[q]? = H[q]?) → W p l e R s m args below meth c H' (locs ++ [⟨a, f.slot⟩]) cells slots Qf (F0 m (pc + 3) ls st) := by
    intro H' e1 e2 e3
    rw [hsl] at e1 ⊢
    refine kk (fun b => if b = a then some (.inr (ci, fs.set k0 v)) else h b) (if_pos rfl) (fun b hb => if_neg hb) H' _ cells slots ls (hR.upd (e := .inr (ci, fs.set k0 v)) e2 e3 ⟨_, hci, t_OB.to (V := updV (vp_V fs) k0 v) ⟨_, e1, q2, q3, t_set q4 hap hk v⟩ (fun j _ => vp_updV_set hl0 v j)⟩ (if_pos rfl) (fun b hb => if_neg hb)) (hS.put e2 e3 ha) hl hc hs
  unfold u_lay at hlay
  rw [if_neg (by rw [hfin]; decide)] at hlay
  have hst := (u_facts hfc hkC (u_lays (fun w hw => C5 w (hcl.1 w hw)) (fun w hw => hw) hk) hi).1
  have h6 := u_store hfc hkC hkind hlay hi hty hn hfit
  exact va_WputK C1 C2 (f := f) C4 hlink hi hst (by rw [q2]; exact h6) q1 q3 (by rw [hsl]; exact k2_hasslot (q4 k0 hk)) rfl rfl hd fin
theorem v_iald (C : hp_Cx G K M) {a z : Nat} {f : Nat → Int32} {i : Int32} (hd : decode M.1 pc = .ok (.iaload, 1)) (hh : h a = some (.inl (G.2.2.1 2, z, .inl f))) (hin : vp_in i z) (k : V G K M bc bs (n, h) (pc + 1) lo (.int (f i.toNatClampNeg) :: st)) : V G K M bc bs (n, h) pc lo (.int i :: .ref a :: st) := by
  obtain ⟨p, l, e, R, s, m, args, below, meth, c, Qf⟩ := K
  intro H locs cells slots ls hR hS hl hc hs
  obtain ⟨C1, C2, C3, C4, C5, C6, C7, C8, -, -, C11, -⟩ := C
  have hlt : i.toNatClampNeg < z := Nat.not_le.mp fun q => hin (Or.inr q)
  obtain ⟨cell, q1, q2, q3, q4, q5⟩ := hR.ar hh
  exact W.iald (v := .int (f i.toNatClampNeg)) C1 C2 q1 (hp_arrof (C6.2 2 _ (hp_tys_at G (by decide))).1 q2 q3.1) q3.2 (fun q => q.elim (fun h9 => hin (Or.inl h9)) (fun h9 => hin (Or.inr (Nat.le_trans q4.1 h9)))) ((q5 _ hlt).trans (arrV_read _ _ hlt)) rfl rfl hd (k H locs cells slots ls hR hS hl hc hs)
theorem v_sld (C : hp_Cx G K M) {a z : Nat} {f : Nat → Int32} {i : Int32} (hd : decode M.1 pc = .ok (.iaload, 1)) (hh : h a = some (.inl (G.2.2.1 7, z, .inl f))) (hin : vp_in i z) (k : V G K M bc bs (n, h) (pc + 1) lo (.int (f i.toNatClampNeg) :: st)) : V G K M bc bs (n, h) pc lo (.int i :: .ref a :: st) := by
  obtain ⟨p, l, e, R, s, m, args, below, meth, c, Qf⟩ := K
  intro H locs cells slots ls hR hS hl hc hs
  obtain ⟨C1, C2, C3, C4, C5, C6, C7, C8, -, -, C11, -⟩ := C
  have hlt : i.toNatClampNeg < z := Nat.not_le.mp fun q => hin (Or.inr q)
  obtain ⟨cell, q1, q2, q3, q4, q5⟩ := hR.ar hh
  exact W.iald (v := .int (f i.toNatClampNeg)) C1 C2 q1 (hp_arrof C7.2.2.2.2.2.2.2.2.2.2.2.2 q2 q3.1) q3.2 (fun q => q.elim (fun h9 => hin (Or.inl h9)) (fun h9 => hin (Or.inr (Nat.le_trans q4.1 h9)))) ((q5 _ hlt).trans (arrV_read _ _ hlt)) rfl rfl hd (k H locs cells slots ls hR hS hl hc hs)
theorem v_bald (C : hp_Cx G K M) {a z : Nat} {f : Nat → Int32} {i : Int32} (hd : decode M.1 pc = .ok (.baload, 1)) (hh : h a = some (.inl (G.2.2.1 0, z, .inl f))) (hin : vp_in i z) (k : V G K M bc bs (n, h) (pc + 1) lo (.int (f i.toNatClampNeg) :: st)) : V G K M bc bs (n, h) pc lo (.int i :: .ref a :: st) := by
  obtain ⟨p, l, e, R, s, m, args, below, meth, c, Qf⟩ := K
  intro H locs cells slots ls hR hS hl hc hs
  obtain ⟨C1, C2, C3, C4, C5, C6, C7, C8, -, -, C11, -⟩ := C
  have hlt : i.toNatClampNeg < z := Nat.not_le.mp fun q => hin (Or.inr q)
  obtain ⟨cell, q1, q2, q3, q4, q5⟩ := hR.ar hh
  exact W.bald (v := .int (f i.toNatClampNeg)) C1 C2 q1 (hp_arrof (C6.2 0 _ (hp_tys_at G (by decide))).1 q2 q3.1) q3.2 (fun q => q.elim (fun h9 => hin (Or.inl h9)) (fun h9 => hin (Or.inr (Nat.le_trans q4.1 h9)))) ((q5 _ hlt).trans (arrV_read _ _ hlt)) rfl rfl hd (k H locs cells slots ls hR hS hl hc hs)
theorem v_cald (C : hp_Cx G K M) {a z : Nat} {f : Nat → Int32} {i : Int32} (hd : decode M.1 pc = .ok (.caload, 1)) (hh : h a = some (.inl (G.2.2.1 1, z, .inl f))) (hin : vp_in i z) (k : V G K M bc bs (n, h) (pc + 1) lo (.int (f i.toNatClampNeg) :: st)) : V G K M bc bs (n, h) pc lo (.int i :: .ref a :: st) := by
  obtain ⟨p, l, e, R, s, m, args, below, meth, c, Qf⟩ := K
  intro H locs cells slots ls hR hS hl hc hs
  obtain ⟨C1, C2, C3, C4, C5, C6, C7, C8, -, -, C11, -⟩ := C
  have hlt : i.toNatClampNeg < z := Nat.not_le.mp fun q => hin (Or.inr q)
  obtain ⟨cell, q1, q2, q3, q4, q5⟩ := hR.ar hh
  exact W.cald (v := .int (f i.toNatClampNeg)) C1 C2 q1 (hp_arrof (C6.2 1 _ (hp_tys_at G (by decide))).1 q2 q3.1) q3.2 (fun q => q.elim (fun h9 => hin (Or.inl h9)) (fun h9 => hin (Or.inr (Nat.le_trans q4.1 h9)))) ((q5 _ hlt).trans (arrV_read _ _ hlt)) rfl rfl hd (k H locs cells slots ls hR hS hl hc hs)
theorem v_lald (C : hp_Cx G K M) {a z : Nat} {f : Nat → Int64} {i : Int32} (hd : decode M.1 pc = .ok (.laload, 1)) (hh : h a = some (.inl (G.2.2.1 3, z, .inr (.inl f)))) (hin : vp_in i z) (k : V G K M bc bs (n, h) (pc + 1) lo (.long (f i.toNatClampNeg) :: st)) : V G K M bc bs (n, h) pc lo (.int i :: .ref a :: st) := by
  obtain ⟨p, l, e, R, s, m, args, below, meth, c, Qf⟩ := K
  intro H locs cells slots ls hR hS hl hc hs
  obtain ⟨C1, C2, C3, C4, C5, C6, C7, C8, -, -, C11, -⟩ := C
  have hlt : i.toNatClampNeg < z := Nat.not_le.mp fun q => hin (Or.inr q)
  obtain ⟨cell, q1, q2, q3, q4, q5⟩ := hR.ar hh
  exact W.lald (v := .long (f i.toNatClampNeg)) C1 C2 q1 (hp_arrof (C6.2 3 _ (hp_tys_at G (by decide))).1 q2 q3.1) q3.2 (fun q => q.elim (fun h9 => hin (Or.inl h9)) (fun h9 => hin (Or.inr (Nat.le_trans q4.1 h9)))) ((q5 _ hlt).trans (arrV_read _ _ hlt)) rfl rfl hd (k H locs cells slots ls hR hS hl hc hs)
theorem v_dald (C : hp_Cx G K M) {a z : Nat} {f : Nat → UInt64} {i : Int32} (hd : decode M.1 pc = .ok (.daload, 1)) (hh : h a = some (.inl (G.2.2.1 4, z, .inr (.inr (.inr (.inl f)))))) (hin : vp_in i z) (k : V G K M bc bs (n, h) (pc + 1) lo (.double (f i.toNatClampNeg) :: st)) : V G K M bc bs (n, h) pc lo (.int i :: .ref a :: st) := by
  obtain ⟨p, l, e, R, s, m, args, below, meth, c, Qf⟩ := K
  intro H locs cells slots ls hR hS hl hc hs
  obtain ⟨C1, C2, C3, C4, C5, C6, C7, C8, -, -, C11, -⟩ := C
  have hlt : i.toNatClampNeg < z := Nat.not_le.mp fun q => hin (Or.inr q)
  obtain ⟨cell, q1, q2, q3, q4, q5⟩ := hR.ar hh
  exact W.dald (v := .double (f i.toNatClampNeg)) C1 C2 q1 (hp_arrof (C6.2 4 _ (hp_tys_at G (by decide))).1 q2 q3.1) q3.2 (fun q => q.elim (fun h9 => hin (Or.inl h9)) (fun h9 => hin (Or.inr (Nat.le_trans q4.1 h9)))) ((q5 _ hlt).trans (arrV_read _ _ hlt)) rfl rfl hd (k H locs cells slots ls hR hS hl hc hs)
theorem v_aald (C : hp_Cx G K M) {a z : Nat} {f : Nat → Option Nat} {i : Int32} (kd : Nat) (hd : decode M.1 pc = .ok (.aaload, 1)) (hkd : kd = 5 ∨ kd = 6) (hh : h a = some (.inl (G.2.2.1 kd, z, .inr (.inr (.inr (.inr f)))))) (hin : vp_in i z) (k : V G K M bc bs (n, h) (pc + 1) lo (va_rf (f i.toNatClampNeg) :: st)) : V G K M bc bs (n, h) pc lo (.int i :: .ref a :: st) := by
  obtain ⟨p, l, e, R, s, m, args, below, meth, c, Qf⟩ := K
  intro H locs cells slots ls hR hS hl hc hs
  obtain ⟨C1, C2, C3, C4, C5, C6, C7, C8, -, -, C11, -⟩ := C
  have hlt : i.toNatClampNeg < z := Nat.not_le.mp fun q => hin (Or.inr q)
  have hk7 : kd < 7 := by omega
  have hex : ∃ ty : FieldType, hp_ty kd = ty ∧ ((∃ C, ty = .object C) ∨ ∃ t, ty = .array t) := by
    rcases hkd with rfl | rfl
    · exact ⟨_, rfl, Or.inl ⟨_, rfl⟩⟩
    · exact ⟨_, rfl, Or.inr ⟨_, rfl⟩⟩
  obtain ⟨ty, hty, hcs⟩ := hex
  have h9 : ArrOfT s (G.2.2.1 kd) (hp_ty kd) := (C6.2 kd _ (hp_tys_at G hk7)).1
  rw [hty] at h9
  obtain ⟨cell, q1, q2, q3, q4, q5⟩ := hR.ar hh
  rcases hcs with ⟨C0, rfl⟩ | ⟨t0, rfl⟩
  · exact W.aald (v := va_rf (f i.toNatClampNeg)) (ty := .object C0) C1 C2 q1 (hp_arrof h9 q2 q3.1) rfl q3.2 (fun q => q.elim (fun h9 => hin (Or.inl h9)) (fun h9 => hin (Or.inr (Nat.le_trans q4.1 h9)))) ((q5 _ hlt).trans (arrV_read _ _ hlt)) rfl rfl hd (k H locs cells slots ls hR hS hl hc hs)
  · exact W.aald (v := va_rf (f i.toNatClampNeg)) (ty := .array t0) C1 C2 q1 (hp_arrof h9 q2 q3.1) rfl q3.2 (fun q => q.elim (fun h9 => hin (Or.inl h9)) (fun h9 => hin (Or.inr (Nat.le_trans q4.1 h9)))) ((q5 _ hlt).trans (arrV_read _ _ hlt)) rfl rfl hd (k H locs cells slots ls hR hS hl hc hs)
theorem v_iast (C : hp_Cx G K M) {a z : Nat} {f : Nat → Int32} {i : Int32} {x : Int32} (hd : decode M.1 pc = .ok (.iastore, 1)) (ha : G.2.1 ≤ a) (hh : h a = some (.inl (G.2.2.1 2, z, .inl (f)))) (hin : vp_in i z) (kk : ∀ h' : Nat → Option va_E, h' a = some (.inl (G.2.2.1 2, z, .inl (upd f i.toNatClampNeg x))) → (∀ b, b ≠ a → h' b = h b) → V G K M bc bs (n, h') (pc + 1) lo st) : V G K M bc bs (n, h) pc lo (.int x :: .int i :: .ref a :: st) := by
  obtain ⟨p, l, e, R, s, m, args, below, meth, c, Qf⟩ := K
  intro H locs cells slots ls hR hS hl hc hs
  obtain ⟨C1, C2, C3, C4, C5, C6, C7, C8, -, -, C11, -⟩ := C
  refine W.iast C1 C2 (hR.own ha hh) ((C6.2 2 _ (hp_tys_at G (by decide))).1 z (fun j => .int (f j))) (fun q => by cases q) (by show ¬ (i < 0 ∨ (arrV _ _ _).slots.size ≤ _); rw [arrV_size]; exact hin) rfl rfl hd fun H1 e1 z1 oq => ?_
  refine kk (fun b => if b = a then some (.inl (G.2.2.1 2, z, .inl (upd f i.toNatClampNeg x))) else h b) (if_pos rfl) (fun b hb => if_neg hb) H1 _ cells slots ls (hR.upd z1 oq ?_ (if_pos rfl) (fun b hb => if_neg hb)) (hS.put z1 oq ha) hl hc hs
  show H1[a]? = some (vp_cell _ _)
  rw [e1]
  rw [vp_cell_i, vp_cell_i, arrV_store]
  congr 2
  funext q
  by_cases hq : q = i.toNatClampNeg
  · subst hq
    simp [updV, upd, vp_nar]
    try rfl
  · simp [updV, upd, hq]
theorem v_bast (C : hp_Cx G K M) {a z : Nat} {f : Nat → Int32} {i : Int32} {x : Int32} (hd : decode M.1 pc = .ok (.bastore, 1)) (ha : G.2.1 ≤ a) (hh : h a = some (.inl (G.2.2.1 0, z, .inl (f)))) (hin : vp_in i z) (kk : ∀ h' : Nat → Option va_E, h' a = some (.inl (G.2.2.1 0, z, .inl (upd f i.toNatClampNeg (vp_nar .byte x)))) → (∀ b, b ≠ a → h' b = h b) → V G K M bc bs (n, h') (pc + 1) lo st) : V G K M bc bs (n, h) pc lo (.int x :: .int i :: .ref a :: st) := by
  obtain ⟨p, l, e, R, s, m, args, below, meth, c, Qf⟩ := K
  intro H locs cells slots ls hR hS hl hc hs
  obtain ⟨C1, C2, C3, C4, C5, C6, C7, C8, -, -, C11, -⟩ := C
  refine W.bast C1 C2 (hR.own ha hh) ((C6.2 0 _ (hp_tys_at G (by decide))).1 z (fun j => .int (f j))) (fun q => by cases q) (by show ¬ (i < 0 ∨ (arrV _ _ _).slots.size ≤ _); rw [arrV_size]; exact hin) rfl rfl hd fun H1 e1 z1 oq => ?_
  refine kk (fun b => if b = a then some (.inl (G.2.2.1 0, z, .inl (upd f i.toNatClampNeg (vp_nar .byte x)))) else h b) (if_pos rfl) (fun b hb => if_neg hb) H1 _ cells slots ls (hR.upd z1 oq ?_ (if_pos rfl) (fun b hb => if_neg hb)) (hS.put z1 oq ha) hl hc hs
  show H1[a]? = some (vp_cell _ _)
  rw [e1]
  rw [vp_cell_i, vp_cell_i, arrV_store]
  congr 2
  funext q
  by_cases hq : q = i.toNatClampNeg
  · subst hq
    simp [updV, upd, vp_nar]
    try rfl
  · simp [updV, upd, hq]
theorem v_cast (C : hp_Cx G K M) {a z : Nat} {f : Nat → Int32} {i : Int32} {x : Int32} (hd : decode M.1 pc = .ok (.castore, 1)) (ha : G.2.1 ≤ a) (hh : h a = some (.inl (G.2.2.1 1, z, .inl (f)))) (hin : vp_in i z) (kk : ∀ h' : Nat → Option va_E, h' a = some (.inl (G.2.2.1 1, z, .inl (upd f i.toNatClampNeg (vp_nar .char x)))) → (∀ b, b ≠ a → h' b = h b) → V G K M bc bs (n, h') (pc + 1) lo st) : V G K M bc bs (n, h) pc lo (.int x :: .int i :: .ref a :: st) := by
  obtain ⟨p, l, e, R, s, m, args, below, meth, c, Qf⟩ := K
  intro H locs cells slots ls hR hS hl hc hs
  obtain ⟨C1, C2, C3, C4, C5, C6, C7, C8, -, -, C11, -⟩ := C
  refine W.cast C1 C2 (hR.own ha hh) ((C6.2 1 _ (hp_tys_at G (by decide))).1 z (fun j => .int (f j))) (fun q => by cases q) (by show ¬ (i < 0 ∨ (arrV _ _ _).slots.size ≤ _); rw [arrV_size]; exact hin) rfl rfl hd fun H1 e1 z1 oq => ?_
  refine kk (fun b => if b = a then some (.inl (G.2.2.1 1, z, .inl (upd f i.toNatClampNeg (vp_nar .char x)))) else h b) (if_pos rfl) (fun b hb => if_neg hb) H1 _ cells slots ls (hR.upd z1 oq ?_ (if_pos rfl) (fun b hb => if_neg hb)) (hS.put z1 oq ha) hl hc hs
  show H1[a]? = some (vp_cell _ _)
  rw [e1]
  rw [vp_cell_i, vp_cell_i, arrV_store]
  congr 2
  funext q
  by_cases hq : q = i.toNatClampNeg
  · subst hq
    simp [updV, upd, vp_nar]
    try rfl
  · simp [updV, upd, hq]
theorem v_last (C : hp_Cx G K M) {a z : Nat} {f : Nat → Int64} {i : Int32} {x : Int64} (hd : decode M.1 pc = .ok (.lastore, 1)) (ha : G.2.1 ≤ a) (hh : h a = some (.inl (G.2.2.1 3, z, .inr (.inl (f))))) (hin : vp_in i z) (kk : ∀ h' : Nat → Option va_E, h' a = some (.inl (G.2.2.1 3, z, .inr (.inl (vp_updL f i.toNatClampNeg x)))) → (∀ b, b ≠ a → h' b = h b) → V G K M bc bs (n, h') (pc + 1) lo st) : V G K M bc bs (n, h) pc lo (.long x :: .int i :: .ref a :: st) := by
  obtain ⟨p, l, e, R, s, m, args, below, meth, c, Qf⟩ := K
  intro H locs cells slots ls hR hS hl hc hs
  obtain ⟨C1, C2, C3, C4, C5, C6, C7, C8, -, -, C11, -⟩ := C
  refine W.last C1 C2 (hR.own ha hh) ((C6.2 3 _ (hp_tys_at G (by decide))).1 z (fun j => .long (f j))) (fun q => by cases q) (by show ¬ (i < 0 ∨ (arrV _ _ _).slots.size ≤ _); rw [arrV_size]; exact hin) rfl rfl hd fun H1 e1 z1 oq => ?_
  refine kk (fun b => if b = a then some (.inl (G.2.2.1 3, z, .inr (.inl (vp_updL f i.toNatClampNeg x)))) else h b) (if_pos rfl) (fun b hb => if_neg hb) H1 _ cells slots ls (hR.upd z1 oq ?_ (if_pos rfl) (fun b hb => if_neg hb)) (hS.put z1 oq ha) hl hc hs
  show H1[a]? = some (vp_cell _ _)
  rw [e1]
  rw [vp_cell_l, vp_cell_l, arrV_store]
  congr 2
  funext q
  by_cases hq : q = i.toNatClampNeg
  · subst hq
    simp [updV, vp_updL, vp_nar]
    try rfl
  · simp [updV, vp_updL, hq]
theorem v_dast (C : hp_Cx G K M) {a z : Nat} {f : Nat → UInt64} {i : Int32} {x : UInt64} (hd : decode M.1 pc = .ok (.dastore, 1)) (ha : G.2.1 ≤ a) (hh : h a = some (.inl (G.2.2.1 4, z, .inr (.inr (.inr (.inl (f))))))) (hin : vp_in i z) (kk : ∀ h' : Nat → Option va_E, h' a = some (.inl (G.2.2.1 4, z, .inr (.inr (.inr (.inl (vf_upd f i.toNatClampNeg x)))))) → (∀ b, b ≠ a → h' b = h b) → V G K M bc bs (n, h') (pc + 1) lo st) : V G K M bc bs (n, h) pc lo (.double x :: .int i :: .ref a :: st) := by
  obtain ⟨p, l, e, R, s, m, args, below, meth, c, Qf⟩ := K
  intro H locs cells slots ls hR hS hl hc hs
  obtain ⟨C1, C2, C3, C4, C5, C6, C7, C8, -, -, C11, -⟩ := C
  refine W.dast C1 C2 (hR.own ha hh) ((C6.2 4 _ (hp_tys_at G (by decide))).1 z (fun j => .double (f j))) (fun q => by cases q) (by show ¬ (i < 0 ∨ (arrV _ _ _).slots.size ≤ _); rw [arrV_size]; exact hin) rfl rfl hd fun H1 e1 z1 oq => ?_
  refine kk (fun b => if b = a then some (.inl (G.2.2.1 4, z, .inr (.inr (.inr (.inl (vf_upd f i.toNatClampNeg x)))))) else h b) (if_pos rfl) (fun b hb => if_neg hb) H1 _ cells slots ls (hR.upd z1 oq ?_ (if_pos rfl) (fun b hb => if_neg hb)) (hS.put z1 oq ha) hl hc hs
  show H1[a]? = some (vp_cell _ _)
  rw [e1]
  rw [vp_cell_d, vp_cell_d, arrV_store]
  congr 2
  funext q
  by_cases hq : q = i.toNatClampNeg
  · subst hq
    simp [updV, vf_upd, vp_nar]
    try rfl
  · simp [updV, vf_upd, hq]
theorem v_alen (C : hp_Cx G K M) {a z : Nat} {x : (Nat → Int32) ⊕ (Nat → Int64) ⊕ (Nat → UInt32) ⊕ (Nat → UInt64) ⊕ (Nat → Option Nat)} (kd : Nat) (hd : decode M.1 pc = .ok (.arraylength, 1)) (hkd : kd < 7) (hh : h a = some (.inl (G.2.2.1 kd, z, x))) (k : V G K M bc bs (n, h) (pc + 1) lo (.int (nI z) :: st)) : V G K M bc bs (n, h) pc lo (.ref a :: st) := by
  obtain ⟨p, l, e, R, s, m, args, below, meth, c, Qf⟩ := K
  intro H locs cells slots ls hR hS hl hc hs
  obtain ⟨C1, C2, C3, C4, C5, C6, C7, C8, -, -, C11, -⟩ := C
  obtain ⟨cell, q1, q2, q3, q4, q5⟩ := hR.ar hh
  exact W.alen (n := nI z) C1 C2 q1 (hp_arrof (C6.2 kd _ (hp_tys_at G hkd)).1 q2 q3.1) q4.2 rfl rfl hd (k H locs cells slots ls hR hS hl hc hs)
theorem v_slen (C : hp_Cx G K M) {a z : Nat} {f : Nat → Int32} (hd : decode M.1 pc = .ok (.arraylength, 1)) (hh : h a = some (.inl (G.2.2.1 7, z, .inl f))) (k : V G K M bc bs (n, h) (pc + 1) lo (.int (nI z) :: st)) : V G K M bc bs (n, h) pc lo (.ref a :: st) := by
  obtain ⟨p, l, e, R, s, m, args, below, meth, c, Qf⟩ := K
  intro H locs cells slots ls hR hS hl hc hs
  obtain ⟨C1, C2, C3, C4, C5, C6, C7, C8, -, -, C11, -⟩ := C
  obtain ⟨cell, q1, q2, q3, q4, q5⟩ := hR.ar hh
  exact W.alen (n := nI z) C1 C2 q1 (hp_arrof C7.2.2.2.2.2.2.2.2.2.2.2.2 q2 q3.1) q4.2 rfl rfl hd (k H locs cells slots ls hR hS hl hc hs)
/-- new -/
theorem v_new (C : hp_Cx G K M) {ci N idx : Nat} {Cn : String} {T : u_T} {fs : List Value} (hd : decode M.1 pc = .ok (.new idx, 3)) (hw1 : Cond.classLink M.2.1 idx Cn ∈ lw_tbl) (hw2 : Cond.instantiable Cn N ∈ lw_tbl) (hw3 : Cond.initialized Cn ∈ lw_tbl) (hci : vwCl[ci]? = some (Cn, T, N)) (hfs : ∀ j, j < N → ∃ ty, parseFieldDescriptor (T j).2.2.1 = some ty ∧ defaultValue ty = vp_V fs j) (hb1 : 1 ≤ bc) (hb2 : N ≤ bs) (kk : ∀ h' : Nat → Option va_E, h' n = some (.inr (ci, fs)) → (∀ b, b ≠ n → h' b = h b) → V G K M (bc - 1) (bs - N) (n + 1, h') (pc + 3) lo (.ref n :: st)) : V G K M bc bs (n, h) pc lo st := by
  obtain ⟨p, l, e, R, s, m, args, below, meth, c, Qf⟩ := K
  intro H locs cells slots ls hR hS hl hc hs
  obtain ⟨C1, C2, C3, C4, C5, C6, C7, C8, -, -, C11, -⟩ := C
  have hcl := hp_clsat hci
  obtain ⟨ty0, hty0⟩ := hcl.2.1
  have hKn := C6.1 ci _ hci
  refine W.newcK C1 C2 C4 (C5 _ (hp_in hw1 rfl)) (C5 _ (hp_in hw2 rfl)) (C5 _ (hp_in hw3 rfl)) rfl hd (by omega) (by omega) hKn.2.1 rfl fun H1 kC hkC e1 z1 o1 => ?_
  have hn : H.size = n := hR.1
  rw [hn]
  rw [hn] at e1
  refine kk (fun b => if b = n then some (.inr (ci, fs)) else h b) (if_pos rfl) (fun b hb => if_neg hb) H1 locs (cells + 1) (slots + N) ls (hR.push z1 o1 ?_ (if_pos rfl) (fun b hb => if_neg hb)) ⟨Nat.le_trans hS.1 (by omega), fun x h1 h2 => (o1 x (Nat.lt_of_lt_of_le h1 hS.1)).trans (hS.2.1 x h1 h2), hS.2.2⟩ hl (by omega) (by omega)
  exact ⟨_, hci, (u_born ty0 (fun w hw => C5 w (hcl.1 w hw)) (fun w hw => hw) hKn hkC e1 hty0).to (fun j hj => by
    obtain ⟨ty, t1, t2⟩ := hfs j hj
    have t3 := hty0 j hj
    rw [t1] at t3
    cases t3
    exact t2)⟩
/-- a new array of numbers -/
theorem v_newa (C : hp_Cx G K M) {atype : ArrayType} (kd : Nat) {N : Nat} {i : Int32} (x : (Nat → Int32) ⊕ (Nat → Int64) ⊕ (Nat → UInt32) ⊕ (Nat → UInt64) ⊕ (Nat → Option Nat)) (hd : decode M.1 pc = .ok (.newarray atype, 2)) (hw : Cond.arrayClass (newarray.typeOf atype) ∈ lw_tbl) (hkd : kd < 5) (hty : newarray.typeOf atype = hp_ty kd) (hx : ∀ cA : ClassId, vp_cell cA (N, x) = arrV cA N (fun _ => defaultValue (newarray.typeOf atype))) (hi : ¬ i < 0) (hN : i.toNatClampNeg = N) (hN2 : N ≤ 60000) (hb1 : 1 ≤ bc) (hb2 : N ≤ bs) (kk : ∀ h' : Nat → Option va_E, h' n = some (.inl (G.2.2.1 kd, N, x)) → (∀ b, b ≠ n → h' b = h b) → V G K M (bc - 1) (bs - N) (n + 1, h') (pc + 2) lo (.ref n :: st)) : V G K M bc bs (n, h) pc lo (.int i :: st) := by
  obtain ⟨p, l, e, R, s, m, args, below, meth, c, Qf⟩ := K
  intro H locs cells slots ls hR hS hl hc hs
  obtain ⟨C1, C2, C3, C4, C5, C6, C7, C8, -, -, C11, -⟩ := C
  have hbytes : N * componentBytes (newarray.typeOf atype) ≤ 536870912 := by
    have h8 : componentBytes (newarray.typeOf atype) ≤ 8 := by cases atype <;> decide
    have := Nat.mul_le_mul hN2 h8
    omega
  refine va_newaK C1 C2 (C5 _ (hp_in hw rfl)) rfl hd rfl hi hN hbytes (by omega) (by omega) hR.1 fun H1 cA e1 z1 o1 hAr hNm => ?_
  have hcA : cA = G.2.2.1 kd := by
    have h9 := (C6.2 kd _ (hp_tys_at G (by omega))).2
    have h10 : s.vm.findClass ("[" ++ (hp_ty kd).toString) = some (G.2.2.1 kd) := by
      match kd, hkd, h9 with
      | 0, _, h9 => exact h9
      | 1, _, h9 => exact h9
      | 2, _, h9 => exact h9
      | 3, _, h9 => exact h9
      | 4, _, h9 => exact h9
    rw [hty] at hNm
    exact Option.some.inj (hNm.symm.trans h10)
  subst hcA
  refine kk (fun b => if b = n then some (.inl (G.2.2.1 kd, N, x)) else h b) (if_pos rfl) (fun b hb => if_neg hb) H1 locs (cells + 1) (slots + N) ls (hR.push (by rw [z1, hR.1]) (fun q hq => o1 q (by rw [← hR.1]; exact hq)) ?_ (if_pos rfl) (fun b hb => if_neg hb)) ⟨Nat.le_trans hS.1 (by rw [z1]; have := hR.1; omega), fun q h1 h2 => (o1 q (by have := hR.1; have := hS.1; omega)).trans (hS.2.1 q h1 h2), hS.2.2⟩ hl (by omega) (by omega)
  show H1[n]? = some (vp_cell _ _)
  rw [hx]
  exact e1
end HPH

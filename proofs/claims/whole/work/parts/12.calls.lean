/-! ===== THE SHORT WALK: calls and throws ===== -/
/-- what the tables say of a method that is called -/
def hp_Y (y : MethodName) (c : ByteArray) (n : Nat) (ret : Option FieldType) (k : Nat) : Prop := Cond.code y c n ret ∈ lw_tbl ∧ Cond.initialized y.cls ∈ lw_tbl ∧ (y.cls ≠ "java/lang/invoke/MethodHandle" ∧ y.cls ≠ "java/lang/invoke/VarHandle" ∧ (parseMethodDescriptor y.desc).map (fun d => d.parameters.length) = some k)
def hp_YV (y : MethodName) (c : ByteArray) (n : Nat) (ret : Option FieldType) (k : Nat) : Prop := hp_Y y c n ret k ∧ Cond.instanceMethod y ∈ lw_tbl ∧ Cond.selects y.cls y y ∈ lw_tbl
def hp_YS (y : MethodName) (c : ByteArray) (n : Nat) (ret : Option FieldType) (k : Nat) : Prop := hp_Y y c n ret k ∧ Cond.static y ∈ lw_tbl
def hp_YI (y : MethodName) (c : ByteArray) (n : Nat) (k : Nat) : Prop := hp_Y y c n none k ∧ Cond.instanceMethod y ∈ lw_tbl ∧ y.name = "<init>"
section HPQ
variable {p : Program} {l : Launch} {e : Env} {R : Room} {s : State} {m : MethodId} {args : Array Value} {below : List Frame} {meth : Method} {c : Code} {H : Heap} {locs : List Loc} {cells slots : Nat} {Q : State → Prop} {mc ms : Nat} {pc : Nat} {ls : Array Slot} {st0 rest : List Value} {a : Array Value} {G : hp_G} {P : hp_P}
theorem hp_call (hr : va_Run p l e R s m args below meth c H locs cells slots mc ms (F0 m pc ls st0) rest (hp_Qc G P a) (hp_A G)) (hS : va_S (hp_A G) s.heap H locs) (kk : ∀ (v : Option Value) (τ : hp_T) (H1 : Heap) (locs1 : List Loc), P (.inl v) τ → hp_R G τ H1 → va_S (hp_A G) s.heap H1 locs1 → W p l e R s m args below meth c H1 locs1 (cells + mc) (slots + ms) Q (F0 m (pc + 3) ls (v.toList ++ rest))) : W p l e R s m args below meth c H locs cells slots Q (F0 m pc ls st0) := by
  intro T hT X
  obtain ⟨v, st₀, t, T', L, h0, X', hL, e1, e2, ⟨⟨v', τ, hv, hp, hb⟩, hz, hk⟩, st⟩ := hr T hT X
  cases hv
  rw [h0] at hz hk
  obtain ⟨t2, a1, b1⟩ := kk v τ T'.heap (locs ++ L) hp (by rw [e1]; exact hb) ⟨Nat.le_trans hS.1 (by rw [e1]; exact hz), fun q h1 h2 => by rw [e1, hk q (Nat.lt_of_lt_of_le h1 hS.1) h2]; exact hS.2.1 q h1 h2, fun q hq => by
      rcases List.mem_append.mp hq with h | h
      · exact hS.2.2 q h
      · exact hL q h⟩ T' rfl X'
  exact ⟨t2, st t2 a1, b1⟩
theorem hp_callx (hr : vx_Run p l e R s m args below meth c H locs cells slots mc ms (F0 m pc ls st0) rest (hp_Qc G P a) (hp_XC G P) (hp_A G)) (hS : va_S (hp_A G) s.heap H locs) (kx : ∀ (E : String) (τ : hp_T) (H1 : Heap) (locs1 : List Loc) (q : Addr) (ce : Cell), P (.inr E) τ → hp_R G τ H1 → va_S (hp_A G) s.heap H1 locs1 → H1[q]? = some ce → ce.vm = .none → s.vm.findClass E = some ce.cls → vx_W p l e R s m args below meth c H1 locs1 (cells + mc) (slots + ms) Q (F0 m pc ls rest) q)
    (kk : ∀ (v : Option Value) (τ : hp_T) (H1 : Heap) (locs1 : List Loc), P (.inl v) τ → hp_R G τ H1 → va_S (hp_A G) s.heap H1 locs1 → W p l e R s m args below meth c H1 locs1 (cells + mc) (slots + ms) Q (F0 m (pc + 3) ls (v.toList ++ rest))) : W p l e R s m args below meth c H locs cells slots Q (F0 m pc ls st0) := by
  intro T hT X
  have keep : ∀ {st₀ t T' : State} {L : List Loc}, st₀.heap = H → T'.heap = t.heap → va_F (hp_A G) st₀ t → (∀ q ∈ L, (hp_A G) q.base) → va_S (hp_A G) s.heap T'.heap (locs ++ L) := by
    intro st₀ t T' L h0 e1 hF hL
    obtain ⟨hz, hk⟩ := hF
    rw [h0] at hz hk
    exact ⟨Nat.le_trans hS.1 (by rw [e1]; exact hz), fun q h1 h2 => by rw [e1, hk q (Nat.lt_of_lt_of_le h1 hS.1) h2]; exact hS.2.1 q h1 h2, fun q hq => by
      rcases List.mem_append.mp hq with h | h
      · exact hS.2.2 q h
      · exact hL q h⟩
  rcases hr T hT X with ⟨v, st₀, t, T', L, h0, X', hL, e1, e2, ⟨⟨v', τ, hv, hp, hb⟩, hF⟩, st⟩ | ⟨q, st₀, t, T', L, E, ce, h0, X', hL, e1, e2, ⟨⟨τ, hp, hb⟩, hF⟩, hce, hcv, hcl, st⟩
  · cases hv
    obtain ⟨t2, a1, b1⟩ := kk v τ T'.heap (locs ++ L) hp (by rw [e1]; exact hb) (keep h0 e1 hF hL) T' rfl X'
    exact ⟨t2, st t2 a1, b1⟩
  · obtain ⟨t2, a1, b1⟩ := kx E τ T'.heap (locs ++ L) q ce hp (by rw [e1]; exact hb) (keep h0 e1 hF hL) (by rw [e1]; exact hce) hcv hcl T' rfl X'
    exact ⟨t2, st.trans a1, b1⟩
theorem hp_cb {own : String} {idx : Nat} {y : MethodName} {cb : ByteArray} {nn : Nat} {ret : Option FieldType} {d' mc' ms' k : Nat} (C5 : ∀ w ∈ hp_bw, w.before args s = true) (hY : hp_Y y cb nn ret k) (hw : Cond.methodLink own idx y ∈ lw_tbl) (hR : d' + 1 ≤ R.frames ∧ 8 + (nn + 11) + 64 * d' ≤ R.locals) : CallB R s args own idx y cb nn ret (.code y cb nn ret :: hp_bw) (hp_rm d' mc' ms') mc' ms' k :=
  callB_of k C5 (hp_good hY.1) rfl rfl rfl (C5 _ (hp_in hY.2.1 rfl)) (C5 _ (hp_in hw rfl)) hY.2.2 hR
theorem hp_cn {own host : String} {idx : Nat} {y : MethodName} {cb : ByteArray} {nn : Nat} {ret : Option FieldType} {d' mc' ms' k : Nat} (C5 : ∀ w ∈ hp_bw, w.before args s = true) (C7 : hp_F G s H) (hY : hp_Y y cb nn ret k) (hw : Cond.methodLinkNest own idx y host ∈ lw_tbl) (hR : d' + 1 ≤ R.frames ∧ 8 + (nn + 11) + 64 * d' ≤ R.locals) : va_CN R s args own idx y host cb nn ret (.code y cb nn ret :: hp_bw) (hp_rm d' mc' ms') mc' ms' k :=
  va_cnB k C5 (hp_good hY.1) rfl rfl rfl (C7.2.2.2.2.2.2.1 _ hw rfl) (C5 _ (hp_in hY.2.1 rfl)) hY.2.2 hR
theorem hp_pre {σ : hp_T} (C6 : va_K G.1 vwCl (hp_tys G) s) (C7 : hp_F G s s.heap) (C8 : G.2.1 ≤ s.heap.size) (hS : va_S (hp_A G) s.heap H locs) (hR : hp_R G σ H) {U : State} (hU : U.heap = H) (hW : s.WarmedH U.vm) : hp_In G σ U := by
  refine ⟨by rw [hU]; exact hR, va_K.moved hW.alike C6, by rw [hU]; exact C7.moved hW hS.2.1, by rw [hU]; exact Nat.le_trans C8 hS.1⟩
end HPQ
section HPC
variable {G : hp_G} {K : hp_C} {M : hp_M} {bc bs : Nat} {n : Nat} {h : Nat → Option va_E} {pc : Nat} {lo : List (Option Value)} {st : List Value} {P : hp_P}
theorem hp_rmle {d mc ms d' nn : Nat} (h : hp_Rm K = hp_rm d mc ms) (h1 : d' + 1 ≤ d) (h2 : nn ≤ 45) : d' + 1 ≤ (hp_Rm K).frames ∧ 8 + (nn + 11) + 64 * d' ≤ (hp_Rm K).locals := by
  rw [h]
  exact ⟨h1, by show _ ≤ 64 * d; omega⟩
theorem v_xout {σ : hp_T} {E : String} (C : hp_Cx G K M) (En : hp_End G K P) (hp : P (.inr E) σ) : VX G K M bc bs σ pc lo E := by
  obtain ⟨p, l, e, R, s, m, args, below, meth, c, Qf⟩ := K
  intro H locs cells slots ls rest q ce hR hS hl hc hs h1 h2 h3
  obtain ⟨hQ, hex⟩ := En
  obtain ⟨C1, C2, -, -, -, -, -, -, C9, C10, -⟩ := C
  rw [show Qf = _ from hQ]
  exact vx_out (fun x hx => (hex x hx).elim) C9 h1 h2 h3 (fun t ht hW => ⟨⟨σ, hp, by rw [ht]; exact hR⟩, hS.F ht⟩) hS.2.2 (by omega) (by omega)

theorem v_callV (C : hp_Cx G K M) {ci N b : Nat} {Cn : String} {T : u_T} {fs As : List Value} {y : MethodName} {cb : ByteArray} {nn : Nat} {ret : Option FieldType} {d' mc' ms' idx k : Nat} {rest : List Value} {P' : hp_P} (hC : Ct G K.2.1 y cb nn ret d' mc' ms' (.ref b :: As) (n, h) P') (hn : ∀ E τ, ¬ P' (.inr E) τ) (hd : decode M.1 pc = .ok (.invokevirtual idx, 3)) (hY : hp_YV y cb nn ret k) (hy : y.cls = Cn) (hh : h b = some (.inr (ci, fs))) (hci : vwCl[ci]? = some (Cn, T, N)) (hw : Cond.methodLink M.2.1 idx y ∈ lw_tbl) (hst : st = As.reverse ++ .ref b :: rest) (hk : As.length = k) (hrest : (rest.map fun v => v.category).sum ≤ 8) (hR : d' + 1 ≤ (hp_Rm K).frames ∧ 8 + (nn + 11) + 64 * d' ≤ (hp_Rm K).locals) (hb1 : mc' ≤ bc) (hb2 : ms' ≤ bs) (kk : ∀ (v : Option Value) (τ : hp_T), P' (.inl v) τ → V G K M (bc - mc') (bs - ms') τ (pc + 3) lo (v.toList ++ rest)) : V G K M bc bs (n, h) pc lo st := by
  obtain ⟨p, l, e, R, s, m, args, below, meth, c, Qf⟩ := K
  intro H locs cells slots ls hR0 hS hl hc hs
  obtain ⟨C1, C2, C3, C4, C5, C6, C7, C8, -, -, C11, -⟩ := C
  exact hp_call (va_runV (C := y.cls) (As := As) (rest := rest) ⟨C1, C2, C3, C4, C5⟩ (hC.met hn) ⟨hp_cb C5 hY.1 hw hR, C5 _ (hp_in hY.2.1 rfl), C5 _ (hp_in hY.2.2 rfl)⟩ ⟨(hp_blind G _ _), by rw [hy]; exact (by
      obtain ⟨r, h1, cell, q1, q2, q3, q4⟩ := hR0.ob hh
      have hr : r = (Cn, T, N) := Option.some.inj (h1.symm.trans hci)
      subst hr
      exact ⟨cell, q1, q3.1, by rw [q2]; exact (C6.1 ci _ hci).2.1⟩), fun U hU hW => ⟨rfl, hp_pre C6 C7 C8 hS hR0 hU hW⟩⟩ rfl hk hl.1 hst (lv_room hrest) hd ⟨by omega, by omega⟩) hS (fun v τ H1 locs1 hp hR1 hS1 => kk v τ hp H1 locs1 (cells + mc') (slots + ms') ls hR1 hS1 hl (by omega) (by omega))
theorem v_callS (C : hp_Cx G K M) {As : List Value} {y : MethodName} {cb : ByteArray} {nn : Nat} {ret : Option FieldType} {d' mc' ms' idx k : Nat} {rest : List Value} {P' : hp_P} (hC : Ct G K.2.1 y cb nn ret d' mc' ms' As (n, h) P') (hn : ∀ E τ, ¬ P' (.inr E) τ) (hd : decode M.1 pc = .ok (.invokestatic idx, 3)) (hY : hp_YS y cb nn ret k) (hw : Cond.methodLink M.2.1 idx y ∈ lw_tbl) (hst : st = As.reverse ++ rest) (hk : As.length = k) (hrest : (rest.map fun v => v.category).sum ≤ 8) (hR : d' + 1 ≤ (hp_Rm K).frames ∧ 8 + (nn + 11) + 64 * d' ≤ (hp_Rm K).locals) (hb1 : mc' ≤ bc) (hb2 : ms' ≤ bs) (kk : ∀ (v : Option Value) (τ : hp_T), P' (.inl v) τ → V G K M (bc - mc') (bs - ms') τ (pc + 3) lo (v.toList ++ rest)) : V G K M bc bs (n, h) pc lo st := by
  obtain ⟨p, l, e, R, s, m, args, below, meth, c, Qf⟩ := K
  intro H locs cells slots ls hR0 hS hl hc hs
  obtain ⟨C1, C2, C3, C4, C5, C6, C7, C8, -, -, C11, -⟩ := C
  exact hp_call (va_runS (As := As) (rest := rest) ⟨C1, C2, C3, C4, C5⟩ (hC.met hn) ⟨hp_cb C5 hY.1 hw hR, C5 _ (hp_in hY.2 rfl)⟩ ⟨(hp_blind G _ _), fun U hU hW => ⟨rfl, hp_pre C6 C7 C8 hS hR0 hU hW⟩⟩ rfl hk hl.1 hst (lv_room hrest) hd ⟨by omega, by omega⟩) hS (fun v τ H1 locs1 hp hR1 hS1 => kk v τ hp H1 locs1 (cells + mc') (slots + ms') ls hR1 hS1 hl (by omega) (by omega))
theorem v_callVx (C : hp_Cx G K M) {ci N b : Nat} {Cn : String} {T : u_T} {fs As : List Value} {y : MethodName} {cb : ByteArray} {nn : Nat} {ret : Option FieldType} {d' mc' ms' idx k : Nat} {rest : List Value} {P' : hp_P} (hC : Ct G K.2.1 y cb nn ret d' mc' ms' (.ref b :: As) (n, h) P') (hd : decode M.1 pc = .ok (.invokevirtual idx, 3)) (hY : hp_YV y cb nn ret k) (hy : y.cls = Cn) (hh : h b = some (.inr (ci, fs))) (hci : vwCl[ci]? = some (Cn, T, N)) (hw : Cond.methodLink M.2.1 idx y ∈ lw_tbl) (hst : st = As.reverse ++ .ref b :: rest) (hk : As.length = k) (hrest : (rest.map fun v => v.category).sum ≤ 8) (hR : d' + 1 ≤ (hp_Rm K).frames ∧ 8 + (nn + 11) + 64 * d' ≤ (hp_Rm K).locals) (hb1 : mc' ≤ bc) (hb2 : ms' ≤ bs) (kx : ∀ (E : String) (τ : hp_T), P' (.inr E) τ → VX G K M (bc - mc') (bs - ms') τ pc lo E) (kk : ∀ (v : Option Value) (τ : hp_T), P' (.inl v) τ → V G K M (bc - mc') (bs - ms') τ (pc + 3) lo (v.toList ++ rest)) : V G K M bc bs (n, h) pc lo st := by
  obtain ⟨p, l, e, R, s, m, args, below, meth, c, Qf⟩ := K
  intro H locs cells slots ls hR0 hS hl hc hs
  obtain ⟨C1, C2, C3, C4, C5, C6, C7, C8, -, -, C11, -⟩ := C
  exact hp_callx (vx_runV (C := y.cls) (As := As) (rest := rest) ⟨C1, C2, C3, C4, C5⟩ hC ⟨hp_cb C5 hY.1 hw hR, C5 _ (hp_in hY.2.1 rfl), C5 _ (hp_in hY.2.2 rfl)⟩ ⟨(hp_blind G _ _), by rw [hy]; exact (by
      obtain ⟨r, h1, cell, q1, q2, q3, q4⟩ := hR0.ob hh
      have hr : r = (Cn, T, N) := Option.some.inj (h1.symm.trans hci)
      subst hr
      exact ⟨cell, q1, q3.1, by rw [q2]; exact (C6.1 ci _ hci).2.1⟩), fun U hU hW => ⟨rfl, hp_pre C6 C7 C8 hS hR0 hU hW⟩⟩ rfl hk hl.1 hst (lv_room hrest) hd ⟨by omega, by omega⟩) hS (fun E τ H1 locs1 q ce hp hR1 hS1 h1 h2 h3 => kx E τ hp H1 locs1 (cells + mc') (slots + ms') ls rest q ce hR1 hS1 hl (by omega) (by omega) h1 h2 h3) (fun v τ H1 locs1 hp hR1 hS1 => kk v τ hp H1 locs1 (cells + mc') (slots + ms') ls hR1 hS1 hl (by omega) (by omega))
theorem v_callSx (C : hp_Cx G K M) {As : List Value} {y : MethodName} {cb : ByteArray} {nn : Nat} {ret : Option FieldType} {d' mc' ms' idx k : Nat} {rest : List Value} {P' : hp_P} (hC : Ct G K.2.1 y cb nn ret d' mc' ms' As (n, h) P') (hd : decode M.1 pc = .ok (.invokestatic idx, 3)) (hY : hp_YS y cb nn ret k) (hw : Cond.methodLink M.2.1 idx y ∈ lw_tbl) (hst : st = As.reverse ++ rest) (hk : As.length = k) (hrest : (rest.map fun v => v.category).sum ≤ 8) (hR : d' + 1 ≤ (hp_Rm K).frames ∧ 8 + (nn + 11) + 64 * d' ≤ (hp_Rm K).locals) (hb1 : mc' ≤ bc) (hb2 : ms' ≤ bs) (kx : ∀ (E : String) (τ : hp_T), P' (.inr E) τ → VX G K M (bc - mc') (bs - ms') τ pc lo E) (kk : ∀ (v : Option Value) (τ : hp_T), P' (.inl v) τ → V G K M (bc - mc') (bs - ms') τ (pc + 3) lo (v.toList ++ rest)) : V G K M bc bs (n, h) pc lo st := by
  obtain ⟨p, l, e, R, s, m, args, below, meth, c, Qf⟩ := K
  intro H locs cells slots ls hR0 hS hl hc hs
  obtain ⟨C1, C2, C3, C4, C5, C6, C7, C8, -, -, C11, -⟩ := C
  exact hp_callx (vx_runS (As := As) (rest := rest) ⟨C1, C2, C3, C4, C5⟩ hC ⟨hp_cb C5 hY.1 hw hR, C5 _ (hp_in hY.2 rfl)⟩ ⟨(hp_blind G _ _), fun U hU hW => ⟨rfl, hp_pre C6 C7 C8 hS hR0 hU hW⟩⟩ rfl hk hl.1 hst (lv_room hrest) hd ⟨by omega, by omega⟩) hS (fun E τ H1 locs1 q ce hp hR1 hS1 h1 h2 h3 => kx E τ hp H1 locs1 (cells + mc') (slots + ms') ls rest q ce hR1 hS1 hl (by omega) (by omega) h1 h2 h3) (fun v τ H1 locs1 hp hR1 hS1 => kk v τ hp H1 locs1 (cells + mc') (slots + ms') ls hR1 hS1 hl (by omega) (by omega))
theorem v_callI (C : hp_Cx G K M) {b : Nat} {As : List Value} {y : MethodName} {cb : ByteArray} {nn : Nat} {ret : Option FieldType} {d' mc' ms' idx k : Nat} {rest : List Value} {P' : hp_P} (hC : Ct G K.2.1 y cb nn ret d' mc' ms' (.ref b :: As) (n, h) P') (hn : ∀ E τ, ¬ P' (.inr E) τ) (hd : decode M.1 pc = .ok (.invokespecial idx, 3)) (hY : hp_YI y cb nn k) (hret : ret = none) (hw : Cond.methodLink M.2.1 idx y ∈ lw_tbl) (hst : st = As.reverse ++ .ref b :: rest) (hk : As.length = k) (hrest : (rest.map fun v => v.category).sum ≤ 8) (hR : d' + 1 ≤ (hp_Rm K).frames ∧ 8 + (nn + 11) + 64 * d' ≤ (hp_Rm K).locals) (hb1 : mc' ≤ bc) (hb2 : ms' ≤ bs) (kk : ∀ (v : Option Value) (τ : hp_T), P' (.inl v) τ → V G K M (bc - mc') (bs - ms') τ (pc + 3) lo (v.toList ++ rest)) : V G K M bc bs (n, h) pc lo st := by
  obtain ⟨p, l, e, R, s, m, args, below, meth, c, Qf⟩ := K
  intro H locs cells slots ls hR0 hS hl hc hs
  obtain ⟨C1, C2, C3, C4, C5, C6, C7, C8, -, -, C11, -⟩ := C
  subst hret
  exact hp_call (va_runI (b := b) (As := As) (rest := rest) ⟨C1, C2, C3, C4, C5⟩ (hC.met hn) ⟨hp_cb C5 hY.1 hw hR, hY.2.2, C5 _ (hp_in hY.2.1 rfl)⟩ ⟨(hp_blind G _ _), fun U hU hW => ⟨rfl, hp_pre C6 C7 C8 hS hR0 hU hW⟩⟩ rfl hk hl.1 hst (lv_room hrest) hd ⟨by omega, by omega⟩) hS (fun v τ H1 locs1 hp hR1 hS1 => kk v τ hp H1 locs1 (cells + mc') (slots + ms') ls hR1 hS1 hl (by omega) (by omega))
theorem v_callIN (C : hp_Cx G K M) {host : String} {b : Nat} {As : List Value} {y : MethodName} {cb : ByteArray} {nn : Nat} {ret : Option FieldType} {d' mc' ms' idx k : Nat} {rest : List Value} {P' : hp_P} (hC : Ct G K.2.1 y cb nn ret d' mc' ms' (.ref b :: As) (n, h) P') (hn : ∀ E τ, ¬ P' (.inr E) τ) (hd : decode M.1 pc = .ok (.invokespecial idx, 3)) (hY : hp_YI y cb nn k) (hret : ret = none) (hw : Cond.methodLinkNest M.2.1 idx y host ∈ lw_tbl) (hst : st = As.reverse ++ .ref b :: rest) (hk : As.length = k) (hrest : (rest.map fun v => v.category).sum ≤ 8) (hR : d' + 1 ≤ (hp_Rm K).frames ∧ 8 + (nn + 11) + 64 * d' ≤ (hp_Rm K).locals) (hb1 : mc' ≤ bc) (hb2 : ms' ≤ bs) (kk : ∀ (v : Option Value) (τ : hp_T), P' (.inl v) τ → V G K M (bc - mc') (bs - ms') τ (pc + 3) lo (v.toList ++ rest)) : V G K M bc bs (n, h) pc lo st := by
  obtain ⟨p, l, e, R, s, m, args, below, meth, c, Qf⟩ := K
  intro H locs cells slots ls hR0 hS hl hc hs
  obtain ⟨C1, C2, C3, C4, C5, C6, C7, C8, -, -, C11, -⟩ := C
  subst hret
  exact hp_call (va_runIN (b := b) (As := As) (rest := rest) ⟨C1, C2, C3, C4, C5⟩ (hC.met hn) ⟨hp_cn C5 C7 hY.1 hw hR, hY.2.2, C5 _ (hp_in hY.2.1 rfl)⟩ ⟨(hp_blind G _ _), fun U hU hW => ⟨rfl, hp_pre C6 C7 C8 hS hR0 hU hW⟩⟩ rfl hk hl.1 hst (lv_room hrest) hd ⟨by omega, by omega⟩) hS (fun v τ H1 locs1 hp hR1 hS1 => kk v τ hp H1 locs1 (cells + mc') (slots + ms') ls hR1 hS1 hl (by omega) (by omega))
theorem v_callSN (C : hp_Cx G K M) {host : String} {As : List Value} {y : MethodName} {cb : ByteArray} {nn : Nat} {ret : Option FieldType} {d' mc' ms' idx k : Nat} {rest : List Value} {P' : hp_P} (hC : Ct G K.2.1 y cb nn ret d' mc' ms' As (n, h) P') (hn : ∀ E τ, ¬ P' (.inr E) τ) (hd : decode M.1 pc = .ok (.invokestatic idx, 3)) (hY : hp_YS y cb nn ret k) (hw : Cond.methodLinkNest M.2.1 idx y host ∈ lw_tbl) (hst : st = As.reverse ++ rest) (hk : As.length = k) (hrest : (rest.map fun v => v.category).sum ≤ 8) (hR : d' + 1 ≤ (hp_Rm K).frames ∧ 8 + (nn + 11) + 64 * d' ≤ (hp_Rm K).locals) (hb1 : mc' ≤ bc) (hb2 : ms' ≤ bs) (kk : ∀ (v : Option Value) (τ : hp_T), P' (.inl v) τ → V G K M (bc - mc') (bs - ms') τ (pc + 3) lo (v.toList ++ rest)) : V G K M bc bs (n, h) pc lo st := by
  obtain ⟨p, l, e, R, s, m, args, below, meth, c, Qf⟩ := K
  intro H locs cells slots ls hR0 hS hl hc hs
  obtain ⟨C1, C2, C3, C4, C5, C6, C7, C8, -, -, C11, -⟩ := C
  exact hp_call (va_runSN (As := As) (rest := rest) ⟨C1, C2, C3, C4, C5⟩ (hC.met hn) ⟨hp_cn C5 C7 hY.1 hw hR, C5 _ (hp_in hY.2 rfl), trivial⟩ ⟨(hp_blind G _ _), fun U hU hW => ⟨rfl, hp_pre C6 C7 C8 hS hR0 hU hW⟩⟩ rfl hk hl.1 hst (lv_room hrest) hd ⟨by omega, by omega⟩) hS (fun v τ H1 locs1 hp hR1 hS1 => kk v τ hp H1 locs1 (cells + mc') (slots + ms') ls hR1 hS1 hl (by omega) (by omega))
theorem v_callSU (C : hp_Cx G K M) {ci N b : Nat} {Cn : String} {T : u_T} {fs As : List Value} {y : MethodName} {cb : ByteArray} {nn : Nat} {ret : Option FieldType} {d' mc' ms' idx k : Nat} {rest : List Value} {P' : hp_P} (hC : Ct G K.2.1 y cb nn ret d' mc' ms' (.ref b :: As) (n, h) P') (hn : ∀ E τ, ¬ P' (.inr E) τ) (hd : decode M.1 pc = .ok (.invokespecial idx, 3)) (hY : hp_Y y cb nn ret k) (hin : Cond.instanceMethod y ∈ lw_tbl) (hsm : Cond.sameMethod y.cls y.cls y.name y.desc ∈ lw_tbl) (hsu : Cond.superclass M.2.1 y.cls ∈ lw_tbl) (hni : y.name ≠ "<init>") (hh : h b = some (.inr (ci, fs))) (hci : vwCl[ci]? = some (Cn, T, N)) (hw : Cond.methodLink M.2.1 idx y ∈ lw_tbl) (hst : st = As.reverse ++ .ref b :: rest) (hk : As.length = k) (hrest : (rest.map fun v => v.category).sum ≤ 8) (hR : d' + 1 ≤ (hp_Rm K).frames ∧ 8 + (nn + 11) + 64 * d' ≤ (hp_Rm K).locals) (hb1 : mc' ≤ bc) (hb2 : ms' ≤ bs) (kk : ∀ (v : Option Value) (τ : hp_T), P' (.inl v) τ → V G K M (bc - mc') (bs - ms') τ (pc + 3) lo (v.toList ++ rest)) : V G K M bc bs (n, h) pc lo st := by
  obtain ⟨p, l, e, R, s, m, args, below, meth, c, Qf⟩ := K
  intro H locs cells slots ls hR0 hS hl hc hs
  obtain ⟨C1, C2, C3, C4, C5, C6, C7, C8, -, -, C11, -⟩ := C
  exact hp_call (va_runSU (C := Cn) (As := As) (rest := rest) (C6.1 ci _ hci).2 ⟨C1, C2, C3, C4, C5⟩ (hC.met hn) ⟨⟨rfl, rfl, hR.1, hR.2, pay_in C5 (hp_good hY.1), List.mem_cons_self⟩, C5 _ (hp_in hw rfl), C5 _ (hp_in hsm rfl), C5 _ (hp_in hsu rfl), C5 _ (hp_in hin rfl), C5 _ (hp_in hY.2.1 rfl), C5 _ (hp_in hY.1 rfl), hni, fun sig hh => by have h2 := hY.2.2.2.2; rw [hh] at h2; exact (Option.some.inj h2).symm⟩ ⟨(hp_blind G _ _), (by
      obtain ⟨r, h1, cell, q1, q2, q3, q4⟩ := hR0.ob hh
      have hr : r = (Cn, T, N) := Option.some.inj (h1.symm.trans hci)
      subst hr
      exact ⟨cell, q1, q3.1, by rw [q2]; exact (C6.1 ci _ hci).2.1⟩), fun U hU hW => ⟨rfl, hp_pre C6 C7 C8 hS hR0 hU hW⟩⟩ rfl hk hl.1 hst (lv_room hrest) hd ⟨by omega, by omega⟩) hS (fun v τ H1 locs1 hp hR1 hS1 => kk v τ hp H1 locs1 (cells + mc') (slots + ms') ls hR1 hS1 hl (by omega) (by omega))
theorem v_callU (C : hp_Cx G K M) {ci N b : Nat} {Cn : String} {T : u_T} {fs As : List Value} {x : MethodName} {owner : String} {y : MethodName} {cb : ByteArray} {nn : Nat} {ret : Option FieldType} {d' mc' ms' idx k : Nat} {rest : List Value} {P' : hp_P} (hC : Ct G K.2.1 y cb nn ret d' mc' ms' (.ref b :: As) (n, h) P') (hn : ∀ E τ, ¬ P' (.inr E) τ) (hd : decode M.1 pc = .ok (.invokevirtual idx, 3)) (hY : hp_Y y cb nn ret k) (hyx : y = ⟨owner, x.name, x.desc⟩) (hin : Cond.instanceMethod y ∈ lw_tbl) (hse : Cond.selects Cn x y ∈ lw_tbl) (hsm : Cond.sameMethod x.cls owner x.name x.desc ∈ lw_tbl) (hdc : Cond.declares ⟨owner, x.name, x.desc⟩ ∈ lw_tbl) (hh : h b = some (.inr (ci, fs))) (hci : vwCl[ci]? = some (Cn, T, N)) (hw : Cond.methodLink M.2.1 idx x ∈ lw_tbl) (hst : st = As.reverse ++ .ref b :: rest) (hk : As.length = k) (hrest : (rest.map fun v => v.category).sum ≤ 8) (hR : d' + 1 ≤ (hp_Rm K).frames ∧ 8 + (nn + 11) + 64 * d' ≤ (hp_Rm K).locals) (hb1 : mc' ≤ bc) (hb2 : ms' ≤ bs) (kk : ∀ (v : Option Value) (τ : hp_T), P' (.inl v) τ → V G K M (bc - mc') (bs - ms') τ (pc + 3) lo (v.toList ++ rest)) : V G K M bc bs (n, h) pc lo st := by
  obtain ⟨p, l, e, R, s, m, args, below, meth, c, Qf⟩ := K
  intro H locs cells slots ls hR0 hS hl hc hs
  obtain ⟨C1, C2, C3, C4, C5, C6, C7, C8, -, -, C11, -⟩ := C
  exact hp_call (va_runU (C := Cn) (x := x) (owner := owner) (As := As) (rest := rest) ⟨C1, C2, C3, C4, C5⟩ (hC.met hn) ⟨⟨rfl, rfl, hR.1, hR.2, pay_in C5 (hp_good hY.1), List.mem_cons_self⟩, C5 _ (hp_in hY.1 rfl), C5 _ (hp_in hY.2.1 rfl), by have h2 := hY.2.2; rw [hyx] at h2; exact ⟨h2.1, h2.2.1⟩, fun sig hh => by have h2 := hY.2.2.2.2; rw [hyx, hh] at h2; exact (Option.some.inj h2).symm, C5 _ (hp_in hw rfl), C5 _ (hp_in hsm rfl), va_Decl.abs (C7.2.2.2.2.2.2.1 _ hdc rfl), C5 _ (hp_in hse rfl), C5 _ (hp_in hin rfl)⟩ ⟨(hp_blind G _ _), (by
      obtain ⟨r, h1, cell, q1, q2, q3, q4⟩ := hR0.ob hh
      have hr : r = (Cn, T, N) := Option.some.inj (h1.symm.trans hci)
      subst hr
      exact ⟨cell, q1, q3.1, by rw [q2]; exact (C6.1 ci _ hci).2.1⟩), fun U hU hW => ⟨rfl, hp_pre C6 C7 C8 hS hR0 hU hW⟩⟩ rfl hk hl.1 hst (lv_room hrest) hd ⟨by omega, by omega⟩) hS (fun v τ H1 locs1 hp hR1 hS1 => kk v τ hp H1 locs1 (cells + mc') (slots + ms') ls hR1 hS1 hl (by omega) (by omega))
theorem v_objInit (C : hp_Cx G K M) {idx b : Nat} (hd : decode M.1 pc = .ok (.invokespecial idx, 3)) (hw : Cond.methodLink M.2.1 idx Lib.objectInit ∈ lw_tbl) (hin : Cond.instanceMethod Lib.objectInit ∈ lw_tbl) (hco : Cond.code Lib.objectInit ⟨#[0xb1]⟩ 1 none ∈ lw_tbl) (hrest : (st.map fun v => v.category).sum ≤ 8) (hR : 1 ≤ (hp_Rm K).frames ∧ 20 ≤ (hp_Rm K).locals) (k : V G K M bc bs (n, h) (pc + 3) lo st) : V G K M bc bs (n, h) pc lo (.ref b :: st) := by
  obtain ⟨p, l, e, R, s, m, args, below, meth, c, Qf⟩ := K
  intro H locs cells slots ls hR0 hS hl hc hs
  obtain ⟨C1, C2, C3, C4, C5, C6, C7, C8, -, -, C11, -⟩ := C
  refine W.objInit C1 C2 C4 (C5 _ (hp_in hw rfl)) (C5 _ (hp_in hin rfl)) (C5 _ (hp_in hco rfl)) rfl (hl.1.trans C3.symm) rfl hd hR.1 ?_ (k H locs cells slots ls hR0 hS hl hc hs)
  have h1 : 2 * (F0 m pc ls (.ref b :: st)).monitorRoom + (st.map fun v => v.category).sum ≤ 8 := lv_room hrest
  have h2 : 20 ≤ R.locals := hR.2
  omega
/-- throw new E("text") -/
theorem v_throw (C : hp_Cx G K M) (En : hp_End G K P) {cls text : String} {ik is ic : Nat} (names : List String) (kst : Nat) (hcls : Bundle.fit cls = true) (hnames : ∀ n ∈ names, Bundle.fit n = true) (hw1 : Cond.classLink M.2.1 ik cls ∈ lw_tbl) (hw2 : Cond.initialized cls ∈ lw_tbl) (hst : hp_kst[kst]? = some (M.2.1, is, text)) (hat : (vx_atS M.2.1 ic cls names).all (fun w => decide (w ∈ lw_tbl) && (goodWord w || hp_warm w)) = true) (hgood : ∀ w ∈ Cond.classLink M.2.1 ik cls :: Cond.initialized cls :: vx_atS M.2.1 ic cls names, vx_ot w = true)
    (d0 : decode M.1 pc = .ok (.new ik, 3)) (d3 : decode M.1 (pc + 3) = .ok (.dup, 1)) (d4 : decode M.1 (pc + 4) = .ok (.ldc is, 2)) (d6 : decode M.1 (pc + 6) = .ok (.invokespecial ic, 3)) (d9 : decode M.1 (pc + 9) = .ok (.athrow, 1))
    (hnl : names.length ≤ 3) (hR : 7 ≤ (hp_Rm K).frames ∧ 120 ≤ (hp_Rm K).locals) (hrest : (st.map fun v => v.category).sum ≤ 8) (hb1 : 1 ≤ bc) (hb2 : 6 ≤ bs) (hp : ∀ n', n ≤ n' → P (.inr cls) (n', h)) : V G K M bc bs (n, h) pc lo st := by
  obtain ⟨p, l, e, R, s, m, args, below, meth, c, Qf⟩ := K
  intro H locs cells slots ls hR0 hS hl hc hs
  obtain ⟨C1, C2, C3, C4, C5, C6, C7, C8, C9, -, C11, C12⟩ := C
  obtain ⟨hQ, hex⟩ := En
  rw [show Qf = _ from hQ]
  have hF1 : 7 ≤ R.frames := hR.1
  have hF2 : 120 ≤ R.locals := hR.2
  refine vx_throwS C1 C2 C12 (A := hp_A G) C4 hcls hnames (C5 _ (hp_in hw1 rfl)) (C5 _ (hp_in hw2 rfl)) (C7.2.2.2.2.2.1 kst _ hst) (fun w hw => ?_) hgood C7.1 C7.2.1 hS (hl.1.trans C3.symm) d0 d3 d4 d6 d9 (fun x hx => (hex x hx).elim) (by omega) (by omega) (by omega) (by omega) C9 (fun t hA hz hq => ?_) hS.2.2 (by omega) (by omega)
  · have h1 := List.all_eq_true.mp hat w hw
    simp only [Bool.and_eq_true, decide_eq_true_eq, Bool.or_eq_true] at h1
    rcases h1.2 with g | g
    · exact C5 _ (hp_in h1.1 g)
    · exact C7.nw h1.1 g args
  · refine ⟨⟨(t.heap.size, h), hp _ (by have h9 : H.size = n := hR0.1; omega), rfl, fun a e2 ha => ?_⟩, Nat.le_trans hS.1 hz, fun q h1 h2 => (hq q (Nat.lt_of_lt_of_le h1 hS.1)).trans (hS.2.1 q h1 h2)⟩
    exact (hR0.2 a e2 ha).kept (hq a (hR0.2 a e2 ha).lt)
end HPC

/-! ===== THE LAW: methods that catch ===== -/
abbrev hp_hh : Type := List (Nat × Nat × Nat × Nat)
/-- the contract of a method with a table of exceptions -/
def Cw (G : hp_G) (l : Launch) (y : MethodName) (c : ByteArray) (n : Nat) (ret : Option FieldType) (hh : hp_hh) (d mc ms : Nat) (av : List Value) (σ : hp_T) (P : hp_P) : Prop :=
  vx_Met l y (.codeWith y c n ret hh :: hp_bw) (hp_rm d mc ms) (va_Pc av (hp_In G σ)) (hp_Qc G P) (hp_XC G P) mc ms (hp_A G)
def hp_EndW (G : hp_G) (K : hp_C) (P : hp_P) (hh : hp_hh) : Prop := match K with
  | (_, _, _, R, s, _, args, below, _, c, Qf) => Qf = vx_MQ below (hp_Qc G P) (hp_XC G P) args s R.cells R.slots (hp_A G) ∧ c.exceptionTable.toList = tableOf hh
theorem Cw.met {G : hp_G} {l : Launch} {y : MethodName} {c : ByteArray} {n : Nat} {ret : Option FieldType} {hh : hp_hh} {d mc ms : Nat} {av : List Value} {σ : hp_T} {P : hp_P} (h : Cw G l y c n ret hh d mc ms av σ P) (hn : ∀ E τ, ¬ P (.inr E) τ) : Met l y (.codeWith y c n ret hh :: hp_bw) (hp_rm d mc ms) (va_Pc av (hp_In G σ)) (hp_Qc G P) mc ms (hp_A G) := by
  refine MetFree.imp h fun a s o t hq => ?_
  rcases hq with hq | ⟨q, e1, E, ce, L, ⟨⟨τ, e2, e3⟩, e4⟩, e5⟩
  · exact hq
  · exact absurd e2 (hn E τ)
set_option maxHeartbeats 1000000 in
theorem Cw.of {G : hp_G} {l : Launch} {y : MethodName} {c : ByteArray} {n : Nat} {ret : Option FieldType} {hh : hp_hh} {d mc ms : Nat} {av : List Value} {n0 : Nat} {h : Nat → Option va_E} {P : hp_P} (hy : plainName y.cls = true) (hl : l.stackTraces = false) (hc : ∀ v ∈ av, v.category = 1) (hn : av.length ≤ n)
    (body : ∀ K : hp_C, hp_Cx G K (c, y.cls, n, ret, y.name) → hp_EndW G K P hh → hp_Rm K = hp_rm d mc ms → K.2.1 = l → V G K (c, y.cls, n, ret, y.name) mc ms (n0, h) 0 (av.map some ++ List.replicate (n - av.length) none) []) : Cw G l y c n ret hh d mc ms av (n0, h) P := by
  refine vx_ofWH (cc := c) (maxL := n) (ret := ret) (hh := hh) hy rfl ?_
  intro p e s m args below meth c0 s₁ B hml hv
  obtain ⟨rfl, hR, hK, hF, hbase⟩ := hv
  have hown : s.vm.findClass y.cls = some m.cls := findClass_of_methodNamed B.named
  have hnm : meth.name = y.name := (name_of_methodNamed B.named B.method).1
  have hts := atoms_spec (ws := Cond.codeWith y c n ret hh :: hp_bw) B.pre
  have hex := vx_table (x := y) B (hts _ List.mem_cons_self)
  have hlen : ∀ (av : List Value), (∀ v ∈ av, v.category = 1) → (lg_sl av).length = av.length := by
    intro av
    induction av with
    | nil => intro _; rfl
    | cons v vs ih =>
      intro hc
      have h1 := hc v List.mem_cons_self
      have h2 := ih (fun w hw => hc w (List.mem_cons_of_mem _ hw))
      have h3 : lg_sl (v :: vs) = [Slot.val v] ++ lg_sl vs := by simp [lg_sl, h1]
      rw [h3, List.length_append, h2]
      simp; omega
  have hl0 := lv_entry av (n := n) (by rw [hlen av hc]; exact hn)
  rw [lg_entry_eq]
  generalize (lg_sl av ++ List.replicate (n - (lg_sl av).length) Slot.unset).toArray = ls at hl0 ⊢
  have hlo : hp_lo ls n (av.map some ++ List.replicate (n - av.length) none) := by
    refine ⟨hl0.1, hl0.2.1, fun i v hi => ?_⟩
    by_cases q : i < av.length
    · rw [List.getElem?_append_left (by rw [List.length_map]; exact q)] at hi
      have := hp_lo_entry av 0 hc i v hi
      rw [Nat.zero_add] at this
      exact hl0.2.2 _ this
    · rw [List.getElem?_append_right (by rw [List.length_map]; omega)] at hi
      have := List.eq_of_mem_replicate (List.mem_of_getElem? hi)
      cases this
  exact body (p, l, e, (headSpec (Cond.codeWith y c n ret hh :: hp_bw) (hp_rm d mc ms)).room, s, m, av.toArray, below, meth, c0, vx_MQ below (hp_Qc G P) (hp_XC G P) av.toArray s mc ms (hp_A G)) ⟨B.exec, B.bytes, hml, hown, fun w hw => hts w (List.mem_cons_of_mem _ hw), hK, hF, hbase, B.notSynchronized, B.returns, hnm, hl⟩ ⟨rfl, hex⟩ rfl rfl s.heap [] 0 0 ls hR va_S.rf hlo (by simp [headSpec, hp_rm]) (by simp [headSpec, hp_rm])
theorem hp_goodW {y : MethodName} {c : ByteArray} {n : Nat} {ret : Option FieldType} {hh : hp_hh} (h : Cond.codeWith y c n ret hh ∈ lw_tbl) : GoodIn hp_bw (.codeWith y c n ret hh :: hp_bw) := by
  intro w hw
  have h1 : w ∈ hp_bw := by
    rcases List.mem_cons.mp hw with rfl | h2
    · exact hp_in h rfl
    · exact h2
  exact ⟨h1, good_of_word (List.mem_filter.mp h1).2⟩
def hp_YW (y : MethodName) (c : ByteArray) (n : Nat) (ret : Option FieldType) (hh : hp_hh) (k : Nat) : Prop := Cond.codeWith y c n ret hh ∈ lw_tbl ∧ Cond.initialized y.cls ∈ lw_tbl ∧ (y.cls ≠ "java/lang/invoke/MethodHandle" ∧ y.cls ≠ "java/lang/invoke/VarHandle" ∧ (parseMethodDescriptor y.desc).map (fun d => d.parameters.length) = some k) ∧ Cond.static y ∈ lw_tbl
section HPW
variable {G : hp_G} {K : hp_C} {M : hp_M} {bc bs : Nat} {n : Nat} {h : Nat → Option va_E} {pc : Nat} {lo : List (Option Value)} {st : List Value} {P : hp_P} {hh : hp_hh} {σ : hp_T}
theorem w_iret (C : hp_Cx G K M) (E : hp_EndW G K P hh) {v : Int32} (hd : decode M.1 pc = .ok (.ireturn, 1)) (hr : M.2.2.2.1 = some .int) (hp : P (.inl (some (.int v))) σ) : V G K M bc bs σ pc lo [.int v] := by
  obtain ⟨p, l, e, R, s, m, args, below, meth, c, Qf⟩ := K
  intro H locs cells slots ls hR hS hl hc hs
  obtain ⟨hQ, -⟩ := E
  obtain ⟨C1, C2, -, -, -, -, -, -, C9, C10, -⟩ := C
  refine W.widen (k := R.cells) (n := R.slots) (by omega) (by omega) ?_
  rw [show Qf = _ from hQ]
  refine vx_ret ?_
  exact W.iret C1 C2 (C10.trans hr) (fun t ht hW => ⟨⟨_, σ, rfl, hp, by rw [ht]; exact hR⟩, hS.F ht⟩) hS.2.2 hd C9
/-- a handler -/
theorem w_catch (C : hp_Cx G K M) (En : hp_EndW G K P hh) {E : String} (pre : List ExceptionTableEntry) (x : ExceptionTableEntry) (suf : List ExceptionTableEntry) (hs : tableOf hh = pre ++ x :: suf) (hpass : ∀ z ∈ pre, z.catchType ≠ 0 ∧ ∃ nm ∈ hp_ex, E ∈ hp_ex ∧ E ≠ nm ∧ Cond.classLink M.2.1 z.catchType nm ∈ lw_tbl) (hx : covers x pc = true) (h0 : x.catchType ≠ 0) (hl : Cond.classLink M.2.1 x.catchType E ∈ lw_tbl) (hcast : Cond.castable E E ∈ lw_tbl) (kk : ∀ q, V G K M bc bs σ x.handlerPc lo [.ref q]) : VX G K M bc bs σ pc lo E := by
  obtain ⟨p, l, e, R, s, m, args, below, meth, c, Qf⟩ := K
  intro H locs cells slots ls rest q ce hR hS hlo hc hsl h1 h2 h3
  obtain ⟨-, hex⟩ := En
  obtain ⟨C1, C2, C3, C4, C5, C6, C7, -⟩ := C
  have hnc := C7.2.2.2.2.2.2.2.2.2.2.1
  refine vx_catch (own := M.2.1) (name := E) C4 pre x suf (hex.trans hs) (fun z hz => ?_) hx h0 (C5 _ (hp_in hl rfl)) (C7.nw hcast rfl args) h1 h2 h3 (kk q H locs cells slots ls hR hS hlo hc hsl)
  obtain ⟨k1, nm, k2, k3, k4, k5⟩ := hpass z hz
  exact Or.inr ⟨k1, nm, C5 _ (hp_in k5 rfl), hnc E k3 nm k2 k4⟩
theorem hp_cw {p : Program} {l : Launch} {e : Env} {R : Room} {s : State} {args : Array Value} {own : String} {idx : Nat} {y : MethodName} {cb : ByteArray} {nn : Nat} {ret : Option FieldType} {d' mc' ms' k : Nat} (C5 : ∀ w ∈ hp_bw, w.before args s = true) (hY : hp_YW y cb nn ret hh k) (hw : Cond.methodLink own idx y ∈ lw_tbl) (hR : d' + 1 ≤ R.frames ∧ 8 + (nn + 11) + 64 * d' ≤ R.locals) : vx_CSW R s args own idx y cb nn ret hh (.codeWith y cb nn ret hh :: hp_bw) (hp_rm d' mc' ms') mc' ms' k := by
  obtain ⟨h1, h2, ⟨h3, h4, h5⟩, h6⟩ := hY
  refine ⟨⟨rfl, rfl, hR.1, hR.2, pay_in C5 (hp_goodW h1), List.mem_cons_self⟩, C5 _ (hp_in h1 rfl), C5 _ (hp_in h2 rfl), ⟨h3, h4⟩, fun sig hsig => ?_, C5 _ (hp_in hw rfl), C5 _ (hp_in h6 rfl)⟩
  rw [hsig] at h5
  exact (Option.some.inj h5).symm
theorem w_callS (C : hp_Cx G K M) {As : List Value} {y : MethodName} {cb : ByteArray} {nn : Nat} {ret : Option FieldType} {d' mc' ms' idx k : Nat} {rest : List Value} {P' : hp_P} (hC : Cw G K.2.1 y cb nn ret hh d' mc' ms' As (n, h) P') (hn : ∀ E τ, ¬ P' (.inr E) τ) (hd : decode M.1 pc = .ok (.invokestatic idx, 3)) (hY : hp_YW y cb nn ret hh k) (hw : Cond.methodLink M.2.1 idx y ∈ lw_tbl) (hst : st = As.reverse ++ rest) (hk : As.length = k) (hrest : (rest.map fun v => v.category).sum ≤ 8) (hR : d' + 1 ≤ (hp_Rm K).frames ∧ 8 + (nn + 11) + 64 * d' ≤ (hp_Rm K).locals) (hb1 : mc' ≤ bc) (hb2 : ms' ≤ bs) (kk : ∀ (v : Option Value) (τ : hp_T), P' (.inl v) τ → V G K M (bc - mc') (bs - ms') τ (pc + 3) lo (v.toList ++ rest)) : V G K M bc bs (n, h) pc lo st := by
  obtain ⟨p, l, e, R, s, m, args, below, meth, c, Qf⟩ := K
  intro H locs cells slots ls hR0 hS hl hc hs
  obtain ⟨C1, C2, C3, C4, C5, C6, C7, C8, -, -, C11, -⟩ := C
  exact hp_call (vx_runSW (hh := hh) (As := As) (rest := rest) ⟨C1, C2, C3, C4, C5⟩ (hC.met hn) (hp_cw (p := p) (l := l) (e := e) C5 hY hw hR) ⟨(hp_blind G _ _), fun U hU hW => ⟨rfl, hp_pre C6 C7 C8 hS hR0 hU hW⟩⟩ rfl hk hl.1 hst (lv_room hrest) hd ⟨by omega, by omega⟩) hS (fun v τ H1 locs1 hp hR1 hS1 => kk v τ hp H1 locs1 (cells + mc') (slots + ms') ls hR1 hS1 hl (by omega) (by omega))
end HPW

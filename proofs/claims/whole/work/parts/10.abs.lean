/-! ===== THE SHORT WALK: one judgement over a heap seen as a function ===== -/
/-- what is fixed for the whole run: the classes' numbers, the first cell of the law's own, the array classes, the places of old cells -/
abbrev hp_G : Type := va_G × Nat × (Nat → ClassId) × (Nat → Nat)
/-- the heap: its size, and what is known of each cell -/
abbrev hp_T : Type := Nat × (Nat → Option va_E)
/-- how a method ends: with an answer, or with an exception of a class -/
abbrev hp_O : Type := Option Value ⊕ String
abbrev hp_P : Type := hp_O → hp_T → Prop
abbrev hp_C : Type := Program × Launch × Env × Room × State × MethodId × Array Value × List Frame × Method × Code × (State → Prop)
/-- a method: its code, its class, its locals, what it answers, its name -/
abbrev hp_M : Type := ByteArray × String × Nat × Option FieldType × String
def hp_ty (k : Nat) : FieldType := match k with
  | 0 => .byte
  | 1 => .char
  | 2 => .int
  | 3 => .long
  | 4 => .double
  | 5 => .object "HorizonExchange$Market"
  | _ => .array .int
def hp_tys (G : hp_G) : List (ClassId × FieldType) := (List.range 7).map fun k => (G.2.2.1 k, hp_ty k)
theorem hp_tys_at (G : hp_G) {k : Nat} (h : k < 7) : (hp_tys G)[k]? = some (G.2.2.1 k, hp_ty k) := by
  simp [hp_tys, h]
def hp_A (G : hp_G) : Nat → Prop := fun q => G.2.1 ≤ q
theorem hp_cell_vm (cA : ClassId) (a : vp_A) : (vp_cell cA a).vm = .none := by
  obtain ⟨n, f | f | f | f | f⟩ := a <;> rfl
theorem hp_cell_cls (cA : ClassId) (a : vp_A) : (vp_cell cA a).cls = cA := by
  obtain ⟨n, f | f | f | f | f⟩ := a <;> rfl
theorem hp_cell_size (cA : ClassId) (a : vp_A) : (vp_cell cA a).slots.size = a.1 := by
  obtain ⟨n, f | f | f | f | f⟩ := a <;> exact arrV_size _ _ _
/-- a cell as its readers see it -/
def hp_see (D : va_G) (q : Nat × va_E) (H : Heap) : Prop := ∃ cell : Cell, H[q.1]? = some cell ∧ (cell.vm.isStatics = false ∧ cell.vm ≠ .unknown) ∧ match q.2 with
  | .inl a => cell.cls = a.1 ∧ (a.2.1 ≤ cell.slots.size ∧ cell.slots.size.toInt32 = Int32.ofNat a.2.1) ∧ ∀ j, j < a.2.1 → cell.slots[j]? = (vp_cell a.1 a.2).slots[j]?
  | .inr o => cell.cls = D.1 o.1 ∧ ∃ r : vw_C, vwCl[o.1]? = some r ∧ ∀ k, k < r.2.2 → cell.slots[D.2 o.1 k]? = some (vp_V o.2 k)
theorem hp_see.of {D : va_G} {q : Nat × va_E} {H : Heap} (h : va_at D vwCl q H) : hp_see D q H := by
  obtain ⟨a, e⟩ := q
  cases e with
  | inl x => exact ⟨_, h, ⟨by rw [hp_cell_vm]; rfl, by rw [hp_cell_vm]; exact fun h => by cases h⟩, hp_cell_cls _ _, ⟨Nat.le_of_eq (hp_cell_size _ _).symm, congrArg Nat.toInt32 (hp_cell_size _ _)⟩, fun j _ => rfl⟩
  | inr o =>
    obtain ⟨r, h1, cell, q1, q2, q3, q4⟩ := h
    exact ⟨cell, q1, ⟨by rw [q3]; rfl, by rw [q3]; exact fun h => by cases h⟩, q2, r, h1, q4⟩
theorem hp_see.kept {D : va_G} {q : Nat × va_E} {H H1 : Heap} (h : hp_see D q H) (hq : H1[q.1]? = H[q.1]?) : hp_see D q H1 := by
  obtain ⟨cell, h1, h2⟩ := h
  exact ⟨cell, hq.trans h1, h2⟩
theorem hp_see.lt {D : va_G} {q : Nat × va_E} {H : Heap} (h : hp_see D q H) : q.1 < H.size := by
  obtain ⟨cell, h1, h2⟩ := h
  exact (Array.getElem?_eq_some_iff.mp h1).1
/-- a cell of the law's own is as it was written; an older one as it is seen -/
def hp_at (G : hp_G) (q : Nat × va_E) (H : Heap) : Prop := (G.2.1 ≤ q.1 → va_at G.1 vwCl q H) ∧ hp_see G.1 q H
theorem hp_at.of {G : hp_G} {q : Nat × va_E} {H : Heap} (h : va_at G.1 vwCl q H) : hp_at G q H := ⟨fun _ => h, hp_see.of h⟩
theorem hp_at.old {G : hp_G} {q : Nat × va_E} {H : Heap} (hq : q.1 < G.2.1) (h : hp_see G.1 q H) : hp_at G q H := ⟨fun z => absurd hq (Nat.not_lt.mpr z), h⟩
theorem hp_at.kept {G : hp_G} {q : Nat × va_E} {H H1 : Heap} (h : hp_at G q H) (hq : H1[q.1]? = H[q.1]?) : hp_at G q H1 := ⟨fun z => (h.1 z).kept hq, h.2.kept hq⟩
theorem hp_at.lt {G : hp_G} {q : Nat × va_E} {H : Heap} (h : hp_at G q H) : q.1 < H.size := h.2.lt
def hp_R (G : hp_G) (σ : hp_T) (H : Heap) : Prop := H.size = σ.1 ∧ ∀ (a : Nat) (e : va_E), σ.2 a = some e → hp_at G (a, e) H
theorem hp_R.own {G : hp_G} {n : Nat} {h : Nat → Option va_E} {H : Heap} (hR : hp_R G (n, h) H) {a : Nat} {e : va_E} (ha : G.2.1 ≤ a) (hh : h a = some e) : va_at G.1 vwCl (a, e) H := (hR.2 a e hh).1 ha
theorem hp_R.ob {G : hp_G} {n : Nat} {h : Nat → Option va_E} {H : Heap} (hR : hp_R G (n, h) H) {a ci : Nat} {fs : List Value} (hh : h a = some (.inr (ci, fs))) : ∃ r : vw_C, vwCl[ci]? = some r ∧ ∃ cell : Cell, H[a]? = some cell ∧ cell.cls = G.1.1 ci ∧ (cell.vm.isStatics = false ∧ cell.vm ≠ .unknown) ∧ ∀ k, k < r.2.2 → cell.slots[G.1.2 ci k]? = some (vp_V fs k) := by
  obtain ⟨cell, q1, q2, q3, r, q4, q5⟩ := (hR.2 a _ hh).2
  exact ⟨r, q4, cell, q1, q3, q2, q5⟩
theorem hp_R.ar {G : hp_G} {n : Nat} {h : Nat → Option va_E} {H : Heap} (hR : hp_R G (n, h) H) {a : Nat} {cA : ClassId} {x : vp_A} (hh : h a = some (.inl (cA, x))) : ∃ cell : Cell, H[a]? = some cell ∧ cell.cls = cA ∧ (cell.vm.isStatics = false ∧ cell.vm ≠ .unknown) ∧ (x.1 ≤ cell.slots.size ∧ cell.slots.size.toInt32 = Int32.ofNat x.1) ∧ ∀ j, j < x.1 → cell.slots[j]? = (vp_cell cA x).slots[j]? := by
  obtain ⟨cell, q1, q2, q3, q4, q5⟩ := (hR.2 a _ hh).2
  exact ⟨cell, q1, q3, q2, q4, q5⟩
theorem hp_arrof {U : State} {cell : Cell} {cA : ClassId} {ty : FieldType} (h : ArrOfT U cA ty) (hc : cell.cls = cA) (hs : cell.vm.isStatics = false) : U.isArrayOf cell ty := by
  obtain ⟨-, h2⟩ := h 0 (fun _ => .null)
  refine ⟨fun k hk => ?_, ?_⟩
  · rw [hk] at hs
    exact Bool.noConfusion (show true = false from hs)
  · rw [hc]
    exact h2
theorem hp_R.lt {G : hp_G} {n : Nat} {h : Nat → Option va_E} {H : Heap} (hR : hp_R G (n, h) H) {a : Nat} {e : va_E} (ha : h a = some e) : a < n := by
  have h1 := (hR.2 a e ha).lt
  rw [hR.1] at h1
  exact h1
theorem hp_R.upd {G : hp_G} {n : Nat} {h h' : Nat → Option va_E} {H H' : Heap} {a : Nat} {e : va_E} (hR : hp_R G (n, h) H) (hz : H'.size = H.size) (ho : ∀ q, q ≠ a → H'[q]? = H[q]?) (he : va_at G.1 vwCl (a, e) H') (h1 : h' a = some e) (h2 : ∀ b, b ≠ a → h' b = h b) : hp_R G (n, h') H' := by
  refine ⟨hz.trans hR.1, fun b e2 hb => ?_⟩
  by_cases q : b = a
  · subst q
    have := h1.symm.trans hb
    cases this
    exact hp_at.of he
  · exact (hR.2 b e2 ((h2 b q).symm.trans hb)).kept (ho b q)
theorem hp_R.push {G : hp_G} {n : Nat} {h h' : Nat → Option va_E} {H H' : Heap} {e : va_E} (hR : hp_R G (n, h) H) (hz : H'.size = H.size + 1) (ho : ∀ q, q < H.size → H'[q]? = H[q]?) (he : va_at G.1 vwCl (n, e) H') (h1 : h' n = some e) (h2 : ∀ b, b ≠ n → h' b = h b) : hp_R G (n + 1, h') H' := by
  refine ⟨by rw [hz, hR.1], fun b e2 hb => ?_⟩
  by_cases q : b = n
  · subst q
    have := h1.symm.trans hb
    cases this
    exact hp_at.of he
  · have h3 := (h2 b q).symm.trans hb
    exact (hR.2 b e2 h3).kept (ho b (hR.2 b e2 h3).lt)
theorem hp_arrOver {args : Array Value} {first s : State} {o : Option Outcome} {idx : List Nat} {t : FieldType} (h : (Cond.arrayOver (.array t)).holds args first o s idx = true) :
    ∃ comp c k, s.vm.findClass (FieldType.array t).toString = some comp ∧ (s.vm.classes.findIdx? fun x => match x.kind with | .array component _ => component == comp | _ => false) = some c ∧ s.vm.classes[c]? = some k ∧ k.kind = .array comp (.array t) ∧
      s.vm.findClass ("[" ++ (FieldType.array t).toString) = some c := by
  simp only [Cond.holds, Cond.value, beq_iff_eq] at h
  cases hc : s.vm.findClass (FieldType.array t).toString with
  | none => simp [hc] at h
  | some comp =>
    simp only [hc, Option.bind_some, Option.bind_eq_some_iff, Option.map_eq_some_iff] at h
    obtain ⟨c, hi, k, hk, hb⟩ := h
    obtain ⟨hlt, hp, -⟩ := Array.findIdx?_eq_some_iff_getElem.mp hi
    have hkk : s.vm.classes[c] = k := (Array.getElem?_eq_some_iff.mp hk).2
    rw [hkk] at hp
    cases hkind : k.kind with
    | array component ty =>
      rw [hkind] at hb hp
      simp at hb hp
      exact ⟨comp, c, k, rfl, hi, hk, by rw [hkind, hp, hb.1], hb.2⟩
    | _ => rw [hkind] at hb; simp at hb
theorem hp_AOA {t : FieldType} {u U : State} (hvm : u.vm.Alike U.vm) (h : va_AOA t u) : va_AOA t U := by
  obtain ⟨comp, c, k, h1, h2, h3, h4, h5⟩ := hp_arrOver h
  obtain ⟨k', hk', he⟩ := hvm.2.2 _ _ h3
  have hi : (U.vm.classes.findIdx? fun (x : Class) => match x.kind with | .array component _ => component == comp | _ => false) = some c := by
    have e1 : U.vm.bare = u.vm.bare := by first | exact hvm.bare_eq | exact hvm.bare_eq.symm
    have e2 := va_idx_bare U.vm comp
    rw [e1] at e2
    exact e2.symm.trans ((va_idx_bare u.vm comp).trans h2)
  have hkind : k'.kind = .array comp (.array t) := by rw [he]; exact h4
  have f1 : U.vm.findClass (FieldType.array t).toString = some comp := by rw [hvm.findClass]; exact h1
  have f2 : U.vm.findClass ("[" ++ (FieldType.array t).toString) = some c := by rw [hvm.findClass]; exact h5
  unfold va_AOA Cond.before Cond.holds
  simp only [Cond.value]
  rw [f1, Option.bind_some]
  refine (congrArg (fun o : Option Nat => (o.bind (fun c => (U.vm.classes[c]?).map fun (k : Class) => match k.kind with | .array _ ty => decide (ty = FieldType.array t) && decide (U.vm.findClass ("[" ++ (FieldType.array t).toString) = some c) | _ => false) == some true)) hi).trans ?_
  simp [hk', hkind, f2]
/-- words that are kept by warming alone -/
def hp_warm (w : Cond) : Bool := match w with
  | .fieldLinkNest .. => true
  | .methodLinkNest .. => true
  | .declares _ => true
  | .castable .. => true
  | _ => false
theorem hp_warm_on {w : Cond} (h : hp_warm w = true) : w.onTables = true := by
  unfold hp_warm at h
  split at h <;> first | rfl | cases h
theorem hp_warm_moved {w : Cond} (h : hp_warm w = true) {u U : State} (hW : u.WarmedH U.vm) (hw : va_Nw w u) : va_Nw w U := by
  unfold hp_warm at h
  split at h
  · exact va_Nw.warmF hW hw
  · exact va_Nw.warmM hW hw
  · exact va_Nw.warmD hW hw
  · exact va_Nw.warmC hW hw
  · cases h
/-- the exceptions that the class throws and the law catches -/
def hp_ex : List String := ["java/lang/IndexOutOfBoundsException", "java/lang/IllegalArgumentException", "java/lang/IllegalStateException", "java/lang/UnsupportedOperationException", "java/util/NoSuchElementException"]
/-- private methods that a StringBuilder has from its superclass -/
def hp_pm : List MethodName := [⟨"java/lang/AbstractStringBuilder", "ensureCapacityInternal", "(I)V"⟩, ⟨"java/lang/AbstractStringBuilder", "newCapacity", "(I)I"⟩]
/-- statics and string constants, which stay as they are -/
def hp_F (G : hp_G) (U : State) (H : Heap) : Prop :=
  vx_Zq Bundle.tN "UNASSIGNED_STACK" Bundle.steD (hp_A G) U H ∧ vx_Zq Bundle.tN "SUPPRESSED_SENTINEL" Bundle.listD (hp_A G) U H ∧ va_Z "java/lang/String" "COMPACT_STRINGS" "Z" (.int 1) (hp_A G) U H ∧ va_Z "java/lang/Integer" "DigitOnes" "[B" (.ref (G.2.2.2 0)) (hp_A G) U H ∧ va_Z "java/lang/Integer" "DigitTens" "[B" (.ref (G.2.2.2 1)) (hp_A G) U H ∧ (∀ (k : Nat) (q : String × Nat × String), hp_kst[k]? = some q → vk_R q.1 q.2.1 q.2.2 (G.2.2.2 (2 * k + 2)) U) ∧ (∀ w ∈ lw_tbl, hp_warm w = true → va_Nw w U) ∧ va_AO "HorizonExchange$Market" U ∧ va_AOA .int U ∧ va_Zq "jdk/internal/util/Preconditions" "SIOOBE_FORMATTER" "Ljava/util/function/BiFunction;" (hp_A G) U H ∧ (∀ a ∈ hp_ex, ∀ b ∈ hp_ex, a ≠ b → va_Nc a b U) ∧ (∀ y ∈ hp_pm, va_Nw (.selects "java/lang/StringBuilder" y y) U) ∧ ArrOfT U (G.2.2.1 7) .int
theorem hp_F.moved {G : hp_G} {u U : State} {H H1 : Heap} (h : hp_F G u H) (hW : u.WarmedH U.vm) (hq : ∀ a : Nat, a < H.size → ¬ hp_A G a → H1[a]? = H[a]?) : hp_F G U H1 := by
  obtain ⟨h1, h2, h3, h4, h5, h6, h7, h8, h9, h10, h11, h12, h13⟩ := h
  exact ⟨vx_Zq.kept (vx_Zq.moved hW.alike h1) hq, vx_Zq.kept (vx_Zq.moved hW.alike h2) hq, va_Z.kept (va_Z.moved hW.alike h3) hq, va_Z.kept (va_Z.moved hW.alike h4) hq, va_Z.kept (va_Z.moved hW.alike h5) hq, fun k q hk => vk_R.warm hW (h6 k q hk), fun w hw hg => hp_warm_moved hg hW (h7 w hw hg), va_AO.moved hW.alike h8, hp_AOA hW.alike h9, va_Zq.kept (va_Zq.moved hW.alike h10) hq, fun a ha b hb hab => va_Nc.moved hW.alike (h11 a ha b hb hab), fun y hy => word_at hW (Or.inl rfl) (h12 y hy), arrOfT_moved hW.alike h13⟩
theorem hp_F.calling {G : hp_G} {U : State} {H : Heap} {g : JFrame} {mk : MethodId} {a : Array Value} (h : hp_F G U H) : hp_F G (U.calling g mk a) H := by
  obtain ⟨h1, h2, h3, h4, h5, h6, h7, h8, h9, h10, h11, h12, h13⟩ := h
  exact ⟨vx_Zq.moved (U := U.calling g mk a) (Vm.Alike.refl U.vm) h1, vx_Zq.moved (U := U.calling g mk a) (Vm.Alike.refl U.vm) h2, va_Z.moved (U := U.calling g mk a) (Vm.Alike.refl U.vm) h3, va_Z.moved (U := U.calling g mk a) (Vm.Alike.refl U.vm) h4, va_Z.moved (U := U.calling g mk a) (Vm.Alike.refl U.vm) h5, fun k q hk => vk_R.same (U := U.calling g mk a) rfl (h6 k q hk), fun w hw hg => va_Nw.same (u := U) (U := U.calling g mk a) (hp_warm_on hg) rfl (h7 w hw hg), va_AO.moved (u := U) (U := U.calling g mk a) (Vm.Alike.refl U.vm) h8, hp_AOA (u := U) (U := U.calling g mk a) (Vm.Alike.refl U.vm) h9, va_Zq.moved (U := U.calling g mk a) (Vm.Alike.refl U.vm) h10, fun x hx y hy hxy => va_Nc.moved (U := U.calling g mk a) (Vm.Alike.refl U.vm) (h11 x hx y hy hxy), fun y hy => va_Nw.same (u := U) (U := U.calling g mk a) rfl rfl (h12 y hy), arrOfT_moved (u := U) (E := U.calling g mk a) (Vm.Alike.refl U.vm) h13⟩
/-- the words that stay -/
def hp_bw : List Cond := lw_tbl.filter goodWord
theorem hp_in {w : Cond} (h : w ∈ lw_tbl) (g : goodWord w = true) : w ∈ hp_bw := List.mem_filter.mpr ⟨h, g⟩
theorem hp_good {y : MethodName} {c : ByteArray} {n : Nat} {ret : Option FieldType} (h : Cond.code y c n ret ∈ lw_tbl) : GoodIn hp_bw (.code y c n ret :: hp_bw) := by
  intro w hw
  have h1 : w ∈ hp_bw := by
    rcases List.mem_cons.mp hw with rfl | h2
    · exact hp_in h rfl
    · exact h2
  exact ⟨h1, good_of_word (List.mem_filter.mp h1).2⟩
def hp_rm (d mc ms : Nat) : Room := { frames := d, cells := mc, slots := ms, locals := 64 * d }
def hp_Qc (G : hp_G) (P : hp_P) : Array Value → State → Outcome → State → Prop := fun _ st oc t => (∃ (v : Option Value) (τ : hp_T), oc = .returned v ∧ P (.inl v) τ ∧ hp_R G τ t.heap) ∧ va_F (hp_A G) st t
def hp_XC (G : hp_G) (P : hp_P) : String → State → State → Prop := fun E st t => (∃ τ : hp_T, P (.inr E) τ ∧ hp_R G τ t.heap) ∧ va_F (hp_A G) st t
def hp_In (G : hp_G) (σ : hp_T) (U : State) : Prop := hp_R G σ U.heap ∧ va_K G.1 vwCl (hp_tys G) U ∧ hp_F G U U.heap ∧ G.2.1 ≤ U.heap.size
/-- THE CONTRACT of a method at arguments av, from the heap σ: how it ends, and with which heap, P says -/
def Ct (G : hp_G) (l : Launch) (y : MethodName) (c : ByteArray) (n : Nat) (ret : Option FieldType) (d mc ms : Nat) (av : List Value) (σ : hp_T) (P : hp_P) : Prop :=
  vx_Met l y (.code y c n ret :: hp_bw) (hp_rm d mc ms) (va_Pc av (hp_In G σ)) (hp_Qc G P) (hp_XC G P) mc ms (hp_A G)
theorem hp_blind (G : hp_G) (av : List Value) (σ : hp_T) : FrameBlind (va_Pc av (hp_In G σ)) := by
  intro a U g mk h
  obtain ⟨h1, h2, h3, h4, h5⟩ := h
  exact ⟨h1, h2, va_K.moved (u := U) (U := U.calling g mk a) (Vm.Alike.refl U.vm) h3, h4.calling, h5⟩
theorem Ct.imp {G : hp_G} {l : Launch} {y : MethodName} {c : ByteArray} {n : Nat} {ret : Option FieldType} {d mc ms : Nat} {av : List Value} {σ : hp_T} {P P' : hp_P} (h : Ct G l y c n ret d mc ms av σ P) (hp : ∀ o τ, P o τ → P' o τ) : Ct G l y c n ret d mc ms av σ P' := by
  refine MetFree.imp h fun a s o t hq => ?_
  rcases hq with ⟨⟨⟨v, τ, e1, e2, e3⟩, e4⟩, e5⟩ | ⟨q, e1, E, ce, L, ⟨⟨τ, e2, e3⟩, e4⟩, e5⟩
  · exact Or.inl ⟨⟨⟨v, τ, e1, hp _ _ e2, e3⟩, e4⟩, e5⟩
  · exact Or.inr ⟨q, e1, E, ce, L, ⟨⟨τ, hp _ _ e2, e3⟩, e4⟩, e5⟩
theorem Ct.met {G : hp_G} {l : Launch} {y : MethodName} {c : ByteArray} {n : Nat} {ret : Option FieldType} {d mc ms : Nat} {av : List Value} {σ : hp_T} {P : hp_P} (h : Ct G l y c n ret d mc ms av σ P) (hn : ∀ E τ, ¬ P (.inr E) τ) : Met l y (.code y c n ret :: hp_bw) (hp_rm d mc ms) (va_Pc av (hp_In G σ)) (hp_Qc G P) mc ms (hp_A G) := by
  refine MetFree.imp h fun a s o t hq => ?_
  rcases hq with hq | ⟨q, e1, E, ce, L, ⟨⟨τ, e2, e3⟩, e4⟩, e5⟩
  · exact hq
  · exact absurd e2 (hn E τ)
/-- the locals -/
def hp_cl (lo : List (Option Value)) (i : Nat) : List (Option Value) := match i with
  | 0 => lo
  | j + 1 => match lo[j]? with
    | some (some v) => if v.category = 2 then lo.set j none else lo
    | _ => lo
def hp_st1 (lo : List (Option Value)) (i : Nat) (v : Value) : List (Option Value) := (hp_cl lo i).set i (some v)
def hp_st2 (lo : List (Option Value)) (i : Nat) (v : Value) : List (Option Value) := ((hp_cl lo i).set i (some v)).set (i + 1) none
def hp_ps (lo : List (Option Value)) : List (Nat × Value) := (List.range lo.length).filterMap fun i => match lo[i]? with
  | some (some v) => some (i, v)
  | _ => none
theorem hp_ps_in {lo : List (Option Value)} {i : Nat} {v : Value} (h : lo[i]? = some (some v)) : (i, v) ∈ hp_ps lo := by
  have hi : i < lo.length := (List.getElem?_eq_some_iff.mp h).1
  exact List.mem_filterMap.mpr ⟨i, List.mem_range.mpr hi, by rw [h]⟩
def hp_lo (ls : Array Slot) (nL : Nat) (lo : List (Option Value)) : Prop := ls.size = nL ∧ lv_wf ls ∧ ∀ (i : Nat) (v : Value), lo[i]? = some (some v) → ls[i]? = some (.val v)
theorem hp_lo.has {ls : Array Slot} {nL : Nat} {lo : List (Option Value)} (h : hp_lo ls nL lo) : lv_has ls nL (hp_ps lo) := by
  refine ⟨h.1, h.2.1, fun q hq => ?_⟩
  obtain ⟨i, -, hi⟩ := List.mem_filterMap.mp hq
  cases e : lo[i]? with
  | none => rw [e] at hi; cases hi
  | some x =>
    cases x with
    | none => rw [e] at hi; cases hi
    | some v =>
      rw [e] at hi
      cases hi
      exact h.2.2 i v e
theorem hp_cl_at {lo : List (Option Value)} {i j : Nat} {v : Value} (hj : j ≠ i) (h : (hp_cl lo i)[j]? = some (some v)) : lo[j]? = some (some v) ∧ ¬ (j + 1 = i ∧ v.category = 2) := by
  unfold hp_cl at h
  split at h
  · exact ⟨h, fun q => by omega⟩
  · rename_i k
    split at h
    · rename_i w hw
      split at h
      · by_cases e : j = k
        · subst e
          rw [List.getElem?_set_self (List.getElem?_eq_some_iff.mp hw).1] at h
          cases h
        · rw [List.getElem?_set_ne (fun q => e q.symm)] at h
          exact ⟨h, fun q => e (by omega)⟩
      · rename_i hc
        refine ⟨h, fun q => ?_⟩
        have e : j = k := by omega
        subst e
        rw [hw] at h
        cases h
        exact hc q.2
    · rename_i hw
      refine ⟨h, fun q => ?_⟩
      have e : j = k := by omega
      subst e
      exact hw v h
theorem hp_cl_len (lo : List (Option Value)) (i : Nat) : (hp_cl lo i).length = lo.length := by
  unfold hp_cl
  split
  · rfl
  · split
    · split
      · rw [List.length_set]
      · rfl
    · rfl
theorem hp_lo.st1 {ls : Array Slot} {nL i : Nat} {lo : List (Option Value)} {x : Value} (h : lv_has ls nL ((i, x) :: (hp_ps lo).filter (fun q => !(q.1 == i) && !(q.1 + 1 == i && q.2.category == 2)))) : hp_lo ls nL (hp_st1 lo i x) := by
  refine ⟨h.1, h.2.1, fun j v hj => ?_⟩
  unfold hp_st1 at hj
  by_cases e : j = i
  · subst e
    have hl : j < (hp_cl lo j).length := by
      have := (List.getElem?_eq_some_iff.mp hj).1
      rw [List.length_set] at this
      exact this
    rw [List.getElem?_set_self hl] at hj
    cases hj
    exact h.2.2 _ List.mem_cons_self
  · rw [List.getElem?_set_ne (fun q => e q.symm)] at hj
    obtain ⟨h1, h2⟩ := hp_cl_at e hj
    refine h.2.2 (j, v) (List.mem_cons_of_mem _ (List.mem_filter.mpr ⟨hp_ps_in h1, ?_⟩))
    simp only [Bool.and_eq_true, Bool.not_eq_true', beq_eq_false_iff_ne, ne_eq, Bool.and_eq_false_iff]
    refine ⟨e, ?_⟩
    by_cases q : j + 1 = i
    · exact Or.inr fun z => h2 ⟨q, z⟩
    · exact Or.inl q
theorem hp_lo.st2 {ls : Array Slot} {nL i : Nat} {lo : List (Option Value)} {x : Value} (h : lv_has ls nL ((i, x) :: (hp_ps lo).filter (fun q => !(q.1 == i) && (!(q.1 == i + 1) && !(q.1 + 1 == i && q.2.category == 2))))) : hp_lo ls nL (hp_st2 lo i x) := by
  refine ⟨h.1, h.2.1, fun j v hj => ?_⟩
  unfold hp_st2 at hj
  by_cases e1 : j = i + 1
  · subst e1
    have hl := (List.getElem?_eq_some_iff.mp hj).1
    rw [List.length_set] at hl
    rw [List.getElem?_set_self hl] at hj
    cases hj
  · rw [List.getElem?_set_ne (fun q => e1 q.symm)] at hj
    by_cases e : j = i
    · subst e
      have hl : j < (hp_cl lo j).length := by
        have := (List.getElem?_eq_some_iff.mp hj).1
        rw [List.length_set] at this
        exact this
      rw [List.getElem?_set_self hl] at hj
      cases hj
      exact h.2.2 _ List.mem_cons_self
    · rw [List.getElem?_set_ne (fun q => e q.symm)] at hj
      obtain ⟨h1, h2⟩ := hp_cl_at e hj
      refine h.2.2 (j, v) (List.mem_cons_of_mem _ (List.mem_filter.mpr ⟨hp_ps_in h1, ?_⟩))
      simp only [Bool.and_eq_true, Bool.not_eq_true', beq_eq_false_iff_ne, ne_eq, Bool.and_eq_false_iff]
      refine ⟨e, e1, ?_⟩
      by_cases q : j + 1 = i
      · exact Or.inr fun z => h2 ⟨q, z⟩
      · exact Or.inl q
theorem hp_lo_entry : ∀ (av : List Value) (i : Nat), (∀ v ∈ av, v.category = 1) → ∀ (j : Nat) (v : Value), (av.map some)[j]? = some (some v) → (i + j, v) ∈ lv_args i av
  | [], i, _, j, v, h => by simp at h
  | x :: av, i, hc, j, v, h => by
    have hx : ¬ x.category = 2 := by
      have := hc x List.mem_cons_self
      omega
    simp only [lv_args, if_neg hx]
    cases j with
    | zero =>
      simp at h
      subst h
      exact List.mem_cons_self
    | succ j =>
      have h1 : (av.map some)[j]? = some (some v) := by simpa using h
      have := hp_lo_entry av (i + 1) (fun w hw => hc w (List.mem_cons_of_mem _ hw)) j v h1
      rw [show i + 1 + j = i + (j + 1) by omega] at this
      exact List.mem_cons_of_mem _ this
/-- where a walk stands -/
def V (G : hp_G) (K : hp_C) (M : hp_M) (bc bs : Nat) (σ : hp_T) (pc : Nat) (lo : List (Option Value)) (st : List Value) : Prop := match K with
  | (p, l, e, R, s, m, args, below, meth, c, Qf) => ∀ (H : Heap) (locs : List Loc) (cells slots : Nat) (ls : Array Slot), hp_R G σ H → va_S (hp_A G) s.heap H locs → hp_lo ls M.2.2.1 lo → cells + bc ≤ R.cells → slots + bs ≤ R.slots → W p l e R s m args below meth c H locs cells slots Qf (F0 m pc ls st)
/-- where an exception of the class E flies over this frame -/
def VX (G : hp_G) (K : hp_C) (M : hp_M) (bc bs : Nat) (σ : hp_T) (pc : Nat) (lo : List (Option Value)) (E : String) : Prop := match K with
  | (p, l, e, R, s, m, args, below, meth, c, Qf) => ∀ (H : Heap) (locs : List Loc) (cells slots : Nat) (ls : Array Slot) (rest : List Value) (q : Addr) (ce : Cell), hp_R G σ H → va_S (hp_A G) s.heap H locs → hp_lo ls M.2.2.1 lo → cells + bc ≤ R.cells → slots + bs ≤ R.slots → H[q]? = some ce → ce.vm = .none → s.vm.findClass E = some ce.cls → vx_W p l e R s m args below meth c H locs cells slots Qf (F0 m pc ls rest) q
/-- what a method's frame has -/
def hp_Cx (G : hp_G) (K : hp_C) (M : hp_M) : Prop := match K with
  | (p, l, _, _, s, m, args, _, meth, c, _) => p.tables.exec = Jvm.exec ∧ c.code = M.1 ∧ c.maxLocals = M.2.2.1 ∧ s.vm.findClass M.2.1 = some m.cls ∧ (∀ w ∈ hp_bw, w.before args s = true) ∧ va_K G.1 vwCl (hp_tys G) s ∧ hp_F G s s.heap ∧ G.2.1 ≤ s.heap.size ∧ meth.locks = false ∧ meth.sig.returnType = M.2.2.2.1 ∧ meth.name = M.2.2.2.2 ∧ l.stackTraces = false
/-- a method without a table of exceptions, at its contract's end -/
def hp_End (G : hp_G) (K : hp_C) (P : hp_P) : Prop := match K with
  | (_, _, _, R, s, _, args, below, _, c, Qf) => Qf = vx_MQ below (hp_Qc G P) (hp_XC G P) args s R.cells R.slots (hp_A G) ∧ ∀ x ∈ c.exceptionTable.toList, False
def hp_Rm (K : hp_C) : Room := K.2.2.2.1

set_option maxHeartbeats 1000000 in
/-- a contract, from the walk of the body -/
theorem Ct.of {G : hp_G} {l : Launch} {y : MethodName} {c : ByteArray} {n : Nat} {ret : Option FieldType} {d mc ms : Nat} {av : List Value} {n0 : Nat} {h : Nat → Option va_E} {P : hp_P} (hy : plainName y.cls = true) (hl : l.stackTraces = false) (hc : ∀ v ∈ av, v.category = 1) (hn : av.length ≤ n)
    (body : ∀ K : hp_C, hp_Cx G K (c, y.cls, n, ret, y.name) → hp_End G K P → hp_Rm K = hp_rm d mc ms → K.2.1 = l → V G K (c, y.cls, n, ret, y.name) mc ms (n0, h) 0 (av.map some ++ List.replicate (n - av.length) none) []) : Ct G l y c n ret d mc ms av (n0, h) P := by
  refine vx_ofW (cc := c) (maxL := n) (ret := ret) hy rfl ?_
  intro p e s m args below meth c0 s₁ B hml hex hv
  obtain ⟨rfl, hR, hK, hF, hbase⟩ := hv
  have hown : s.vm.findClass y.cls = some m.cls := findClass_of_methodNamed B.named
  have hnm : meth.name = y.name := (name_of_methodNamed B.named B.method).1
  have hts := atoms_spec (ws := Cond.code y c n ret :: hp_bw) B.pre
  have hlen : ∀ (av : List Value), (∀ v ∈ av, v.category = 1) → (lg_sl av).length = av.length := by
    intro av
    induction av with
    | nil => intro _; rfl
    | cons v vs ih =>
      intro hc
      have h1 := hc v List.mem_cons_self
      have h2 := ih (fun w hw => hc w (List.mem_cons_of_mem _ hw))
      have h3 : lg_sl (v :: vs) = [Slot.val v] ++ lg_sl vs := by simp [lg_sl, h1]
      rw [h3, List.length_append, h2]
      simp; omega
  have hl0 := lv_entry av (n := n) (by rw [hlen av hc]; exact hn)
  rw [lg_entry_eq]
  generalize (lg_sl av ++ List.replicate (n - (lg_sl av).length) Slot.unset).toArray = ls at hl0 ⊢
  have hlo : hp_lo ls n (av.map some ++ List.replicate (n - av.length) none) := by
    refine ⟨hl0.1, hl0.2.1, fun i v hi => ?_⟩
    by_cases q : i < av.length
    · rw [List.getElem?_append_left (by rw [List.length_map]; exact q)] at hi
      have := hp_lo_entry av 0 hc i v hi
      rw [Nat.zero_add] at this
      exact hl0.2.2 _ this
    · rw [List.getElem?_append_right (by rw [List.length_map]; omega)] at hi
      have := List.eq_of_mem_replicate (List.mem_of_getElem? hi)
      cases this
  exact body (p, l, e, (headSpec (Cond.code y c n ret :: hp_bw) (hp_rm d mc ms)).room, s, m, av.toArray, below, meth, c0, vx_MQ below (hp_Qc G P) (hp_XC G P) av.toArray s mc ms (hp_A G)) ⟨B.exec, B.bytes, hml, hown, fun w hw => hts w (List.mem_cons_of_mem _ hw), hK, hF, hbase, B.notSynchronized, B.returns, hnm, hl⟩ ⟨rfl, hex⟩ rfl rfl s.heap [] 0 0 ls hR va_S.rf hlo (by simp [headSpec, hp_rm]) (by simp [headSpec, hp_rm])

theorem hp_F.nw {G : hp_G} {U : State} {H : Heap} (h : hp_F G U H) {w : Cond} (hw : w ∈ lw_tbl) (hg : hp_warm w = true) (A : Array Value) : w.before A U = true := va_Nw.use (hp_warm_on hg) (h.2.2.2.2.2.2.1 w hw hg)
section HPR
variable {G : hp_G} {K : hp_C} {M : hp_M} {bc bs : Nat} {σ : hp_T} {pc : Nat} {lo : List (Option Value)} {st : List Value} {P : hp_P}
theorem v_iconst (C : hp_Cx G K M) {n : Int} {v : Int32} (hd : decode M.1 pc = .ok (.iconst n, 1)) (hv : Int32.ofInt n = v) (k : V G K M bc bs σ (pc + 1) lo (.int v :: st)) : V G K M bc bs σ pc lo (st) := by
  obtain ⟨p, l, e, R, s, m, args, below, meth, c, Qf⟩ := K
  intro H locs cells slots ls hR hS hl hc hs
  exact lv_iconst C.1 C.2.1 hd hv (k H locs cells slots ls hR hS hl hc hs)
theorem v_bipush (C : hp_Cx G K M) {n : Int} {v : Int32} (hd : decode M.1 pc = .ok (.bipush n, 2)) (hv : (Int8.ofInt n).toInt32 = v) (k : V G K M bc bs σ (pc + 2) lo (.int v :: st)) : V G K M bc bs σ pc lo (st) := by
  obtain ⟨p, l, e, R, s, m, args, below, meth, c, Qf⟩ := K
  intro H locs cells slots ls hR hS hl hc hs
  exact lv_bipush C.1 C.2.1 hd hv (k H locs cells slots ls hR hS hl hc hs)
theorem v_sipush (C : hp_Cx G K M) {n : Int} {v : Int32} (hd : decode M.1 pc = .ok (.sipush n, 3)) (hv : (Int16.ofInt n).toInt32 = v) (k : V G K M bc bs σ (pc + 3) lo (.int v :: st)) : V G K M bc bs σ pc lo (st) := by
  obtain ⟨p, l, e, R, s, m, args, below, meth, c, Qf⟩ := K
  intro H locs cells slots ls hR hS hl hc hs
  exact lv_sipush C.1 C.2.1 hd hv (k H locs cells slots ls hR hS hl hc hs)
theorem v_lconst (C : hp_Cx G K M) {n : Fin 2} {v : Int64} (hd : decode M.1 pc = .ok (.lconst n, 1)) (hv : Int64.ofNat (n : Nat) = v) (k : V G K M bc bs σ (pc + 1) lo (.long v :: st)) : V G K M bc bs σ pc lo (st) := by
  obtain ⟨p, l, e, R, s, m, args, below, meth, c, Qf⟩ := K
  intro H locs cells slots ls hR hS hl hc hs
  exact lv_lconst C.1 C.2.1 hd hv (k H locs cells slots ls hR hS hl hc hs)
theorem v_iload_n (C : hp_Cx G K M) {i : Fin 4} {x : Int32} (hd : decode M.1 pc = .ok (.iload_n i, 1)) (hx : lo[(i : Nat)]? = some (some (.int x))) (k : V G K M bc bs σ (pc + 1) lo (.int x :: st)) : V G K M bc bs σ pc lo (st) := by
  obtain ⟨p, l, e, R, s, m, args, below, meth, c, Qf⟩ := K
  intro H locs cells slots ls hR hS hl hc hs
  exact lv_iload_n C.1 C.2.1 hd rfl (hl.2.2 _ _ hx) (k H locs cells slots ls hR hS hl hc hs)
theorem v_iload (C : hp_Cx G K M) {i : Nat} {x : Int32} (hd : decode M.1 pc = .ok (.iload i, 2)) (hx : lo[i]? = some (some (.int x))) (k : V G K M bc bs σ (pc + 2) lo (.int x :: st)) : V G K M bc bs σ pc lo (st) := by
  obtain ⟨p, l, e, R, s, m, args, below, meth, c, Qf⟩ := K
  intro H locs cells slots ls hR hS hl hc hs
  exact lv_iload C.1 C.2.1 hd (hl.2.2 _ _ hx) (k H locs cells slots ls hR hS hl hc hs)
theorem v_lload_n (C : hp_Cx G K M) {i : Fin 4} {x : Int64} (hd : decode M.1 pc = .ok (.lload_n i, 1)) (hx : lo[(i : Nat)]? = some (some (.long x))) (k : V G K M bc bs σ (pc + 1) lo (.long x :: st)) : V G K M bc bs σ pc lo (st) := by
  obtain ⟨p, l, e, R, s, m, args, below, meth, c, Qf⟩ := K
  intro H locs cells slots ls hR hS hl hc hs
  exact lv_lload_n C.1 C.2.1 hd rfl (hl.2.2 _ _ hx) (k H locs cells slots ls hR hS hl hc hs)
theorem v_lload (C : hp_Cx G K M) {i : Nat} {x : Int64} (hd : decode M.1 pc = .ok (.lload i, 2)) (hx : lo[i]? = some (some (.long x))) (k : V G K M bc bs σ (pc + 2) lo (.long x :: st)) : V G K M bc bs σ pc lo (st) := by
  obtain ⟨p, l, e, R, s, m, args, below, meth, c, Qf⟩ := K
  intro H locs cells slots ls hR hS hl hc hs
  exact lv_lload C.1 C.2.1 hd (hl.2.2 _ _ hx) (k H locs cells slots ls hR hS hl hc hs)
theorem v_aload_n (C : hp_Cx G K M) {i : Fin 4} {x : Nat} (hd : decode M.1 pc = .ok (.aload_n i, 1)) (hx : lo[(i : Nat)]? = some (some (.ref x))) (k : V G K M bc bs σ (pc + 1) lo (.ref x :: st)) : V G K M bc bs σ pc lo (st) := by
  obtain ⟨p, l, e, R, s, m, args, below, meth, c, Qf⟩ := K
  intro H locs cells slots ls hR hS hl hc hs
  exact lv_aload_n C.1 C.2.1 hd rfl (hl.2.2 _ _ hx) (k H locs cells slots ls hR hS hl hc hs)
theorem v_aload (C : hp_Cx G K M) {i : Nat} {x : Nat} (hd : decode M.1 pc = .ok (.aload i, 2)) (hx : lo[i]? = some (some (.ref x))) (k : V G K M bc bs σ (pc + 2) lo (.ref x :: st)) : V G K M bc bs σ pc lo (st) := by
  obtain ⟨p, l, e, R, s, m, args, below, meth, c, Qf⟩ := K
  intro H locs cells slots ls hR hS hl hc hs
  exact lv_aload C.1 C.2.1 hd (hl.2.2 _ _ hx) (k H locs cells slots ls hR hS hl hc hs)
theorem v_fload_n (C : hp_Cx G K M) {i : Fin 4} {x : UInt32} (hd : decode M.1 pc = .ok (.fload_n i, 1)) (hx : lo[(i : Nat)]? = some (some (.float x))) (k : V G K M bc bs σ (pc + 1) lo (.float x :: st)) : V G K M bc bs σ pc lo (st) := by
  obtain ⟨p, l, e, R, s, m, args, below, meth, c, Qf⟩ := K
  intro H locs cells slots ls hR hS hl hc hs
  exact lv_fload_n C.1 C.2.1 hd rfl (hl.2.2 _ _ hx) (k H locs cells slots ls hR hS hl hc hs)
theorem v_fload (C : hp_Cx G K M) {i : Nat} {x : UInt32} (hd : decode M.1 pc = .ok (.fload i, 2)) (hx : lo[i]? = some (some (.float x))) (k : V G K M bc bs σ (pc + 2) lo (.float x :: st)) : V G K M bc bs σ pc lo (st) := by
  obtain ⟨p, l, e, R, s, m, args, below, meth, c, Qf⟩ := K
  intro H locs cells slots ls hR hS hl hc hs
  exact lv_fload C.1 C.2.1 hd (hl.2.2 _ _ hx) (k H locs cells slots ls hR hS hl hc hs)
theorem v_dload_n (C : hp_Cx G K M) {i : Fin 4} {x : UInt64} (hd : decode M.1 pc = .ok (.dload_n i, 1)) (hx : lo[(i : Nat)]? = some (some (.double x))) (k : V G K M bc bs σ (pc + 1) lo (.double x :: st)) : V G K M bc bs σ pc lo (st) := by
  obtain ⟨p, l, e, R, s, m, args, below, meth, c, Qf⟩ := K
  intro H locs cells slots ls hR hS hl hc hs
  exact lv_dload_n C.1 C.2.1 hd rfl (hl.2.2 _ _ hx) (k H locs cells slots ls hR hS hl hc hs)
theorem v_dload (C : hp_Cx G K M) {i : Nat} {x : UInt64} (hd : decode M.1 pc = .ok (.dload i, 2)) (hx : lo[i]? = some (some (.double x))) (k : V G K M bc bs σ (pc + 2) lo (.double x :: st)) : V G K M bc bs σ pc lo (st) := by
  obtain ⟨p, l, e, R, s, m, args, below, meth, c, Qf⟩ := K
  intro H locs cells slots ls hR hS hl hc hs
  exact lv_dload C.1 C.2.1 hd (hl.2.2 _ _ hx) (k H locs cells slots ls hR hS hl hc hs)
theorem v_istore_n (C : hp_Cx G K M) {i : Fin 4} {x : Int32} (hd : decode M.1 pc = .ok (.istore_n i, 1)) (hi : (i : Nat) < M.2.2.1) (k : V G K M bc bs σ (pc + 1) (hp_st1 lo (i : Nat) (.int x)) st) : V G K M bc bs σ pc lo (.int x :: st) := by
  obtain ⟨p, l, e, R, s, m, args, below, meth, c, Qf⟩ := K
  intro H locs cells slots ls hR hS hl hc hs
  exact lv_istore_n C.1 C.2.1 hd rfl hl.has hi rfl (fun ls' hl' => k H locs cells slots ls' hR hS (hp_lo.st1 hl') hc hs)
theorem v_istore (C : hp_Cx G K M) {i : Nat} {x : Int32} (hd : decode M.1 pc = .ok (.istore i, 2)) (hi : i < M.2.2.1) (k : V G K M bc bs σ (pc + 2) (hp_st1 lo i (.int x)) st) : V G K M bc bs σ pc lo (.int x :: st) := by
  obtain ⟨p, l, e, R, s, m, args, below, meth, c, Qf⟩ := K
  intro H locs cells slots ls hR hS hl hc hs
  exact lv_istore C.1 C.2.1 hd hl.has hi rfl (fun ls' hl' => k H locs cells slots ls' hR hS (hp_lo.st1 hl') hc hs)
theorem v_astore_n (C : hp_Cx G K M) {i : Fin 4} {x : Nat} (hd : decode M.1 pc = .ok (.astore_n i, 1)) (hi : (i : Nat) < M.2.2.1) (k : V G K M bc bs σ (pc + 1) (hp_st1 lo (i : Nat) (.ref x)) st) : V G K M bc bs σ pc lo (.ref x :: st) := by
  obtain ⟨p, l, e, R, s, m, args, below, meth, c, Qf⟩ := K
  intro H locs cells slots ls hR hS hl hc hs
  exact lv_astore_n C.1 C.2.1 hd rfl hl.has hi rfl (fun ls' hl' => k H locs cells slots ls' hR hS (hp_lo.st1 hl') hc hs)
theorem v_astore (C : hp_Cx G K M) {i : Nat} {x : Nat} (hd : decode M.1 pc = .ok (.astore i, 2)) (hi : i < M.2.2.1) (k : V G K M bc bs σ (pc + 2) (hp_st1 lo i (.ref x)) st) : V G K M bc bs σ pc lo (.ref x :: st) := by
  obtain ⟨p, l, e, R, s, m, args, below, meth, c, Qf⟩ := K
  intro H locs cells slots ls hR hS hl hc hs
  exact lv_astore C.1 C.2.1 hd hl.has hi rfl (fun ls' hl' => k H locs cells slots ls' hR hS (hp_lo.st1 hl') hc hs)
theorem v_fstore_n (C : hp_Cx G K M) {i : Fin 4} {x : UInt32} (hd : decode M.1 pc = .ok (.fstore_n i, 1)) (hi : (i : Nat) < M.2.2.1) (k : V G K M bc bs σ (pc + 1) (hp_st1 lo (i : Nat) (.float x)) st) : V G K M bc bs σ pc lo (.float x :: st) := by
  obtain ⟨p, l, e, R, s, m, args, below, meth, c, Qf⟩ := K
  intro H locs cells slots ls hR hS hl hc hs
  exact lv_fstore_n C.1 C.2.1 hd rfl hl.has hi rfl (fun ls' hl' => k H locs cells slots ls' hR hS (hp_lo.st1 hl') hc hs)
theorem v_fstore (C : hp_Cx G K M) {i : Nat} {x : UInt32} (hd : decode M.1 pc = .ok (.fstore i, 2)) (hi : i < M.2.2.1) (k : V G K M bc bs σ (pc + 2) (hp_st1 lo i (.float x)) st) : V G K M bc bs σ pc lo (.float x :: st) := by
  obtain ⟨p, l, e, R, s, m, args, below, meth, c, Qf⟩ := K
  intro H locs cells slots ls hR hS hl hc hs
  exact lv_fstore C.1 C.2.1 hd hl.has hi rfl (fun ls' hl' => k H locs cells slots ls' hR hS (hp_lo.st1 hl') hc hs)
theorem v_lstore_n (C : hp_Cx G K M) {i : Fin 4} {x : Int64} (hd : decode M.1 pc = .ok (.lstore_n i, 1)) (hi : (i : Nat) + 1 < M.2.2.1) (k : V G K M bc bs σ (pc + 1) (hp_st2 lo (i : Nat) (.long x)) st) : V G K M bc bs σ pc lo (.long x :: st) := by
  obtain ⟨p, l, e, R, s, m, args, below, meth, c, Qf⟩ := K
  intro H locs cells slots ls hR hS hl hc hs
  exact lv_lstore_n C.1 C.2.1 hd rfl hl.has hi rfl (fun ls' hl' => k H locs cells slots ls' hR hS (hp_lo.st2 hl') hc hs)
theorem v_lstore (C : hp_Cx G K M) {i : Nat} {x : Int64} (hd : decode M.1 pc = .ok (.lstore i, 2)) (hi : i + 1 < M.2.2.1) (k : V G K M bc bs σ (pc + 2) (hp_st2 lo i (.long x)) st) : V G K M bc bs σ pc lo (.long x :: st) := by
  obtain ⟨p, l, e, R, s, m, args, below, meth, c, Qf⟩ := K
  intro H locs cells slots ls hR hS hl hc hs
  exact lv_lstore C.1 C.2.1 hd hl.has hi rfl (fun ls' hl' => k H locs cells slots ls' hR hS (hp_lo.st2 hl') hc hs)
theorem v_dstore_n (C : hp_Cx G K M) {i : Fin 4} {x : UInt64} (hd : decode M.1 pc = .ok (.dstore_n i, 1)) (hi : (i : Nat) + 1 < M.2.2.1) (k : V G K M bc bs σ (pc + 1) (hp_st2 lo (i : Nat) (.double x)) st) : V G K M bc bs σ pc lo (.double x :: st) := by
  obtain ⟨p, l, e, R, s, m, args, below, meth, c, Qf⟩ := K
  intro H locs cells slots ls hR hS hl hc hs
  exact lv_dstore_n C.1 C.2.1 hd rfl hl.has hi rfl (fun ls' hl' => k H locs cells slots ls' hR hS (hp_lo.st2 hl') hc hs)
theorem v_dstore (C : hp_Cx G K M) {i : Nat} {x : UInt64} (hd : decode M.1 pc = .ok (.dstore i, 2)) (hi : i + 1 < M.2.2.1) (k : V G K M bc bs σ (pc + 2) (hp_st2 lo i (.double x)) st) : V G K M bc bs σ pc lo (.double x :: st) := by
  obtain ⟨p, l, e, R, s, m, args, below, meth, c, Qf⟩ := K
  intro H locs cells slots ls hR hS hl hc hs
  exact lv_dstore C.1 C.2.1 hd hl.has hi rfl (fun ls' hl' => k H locs cells slots ls' hR hS (hp_lo.st2 hl') hc hs)
theorem v_iinc (C : hp_Cx G K M) {i : Nat} {n : Int} {x : Int32} (hd : decode M.1 pc = .ok (.iinc i n, 3)) (hi : i < M.2.2.1) (hx : lo[i]? = some (some (.int x))) (k : V G K M bc bs σ (pc + 3) (hp_st1 lo i (.int (x + Int32.ofInt n))) st) : V G K M bc bs σ pc lo st := by
  obtain ⟨p, l, e, R, s, m, args, below, meth, c, Qf⟩ := K
  intro H locs cells slots ls hR hS hl hc hs
  obtain ⟨j, hj⟩ := List.getElem?_of_mem (hp_ps_in hx)
  exact lv_iinc C.1 C.2.1 hd hl.has hj rfl hi rfl (fun ls' hl' => k H locs cells slots ls' hR hS (hp_lo.st1 hl') hc hs)
theorem v_iadd (C : hp_Cx G K M) {x y : Int32} (hd : decode M.1 pc = .ok (.iadd, 1)) (k : V G K M bc bs σ (pc + 1) lo (.int (x + y) :: st)) : V G K M bc bs σ pc lo (.int y :: .int x :: st) := by
  obtain ⟨p, l, e, R, s, m, args, below, meth, c, Qf⟩ := K
  intro H locs cells slots ls hR hS hl hc hs
  exact lv_iadd C.1 C.2.1 hd (k H locs cells slots ls hR hS hl hc hs)
theorem v_isub (C : hp_Cx G K M) {x y : Int32} (hd : decode M.1 pc = .ok (.isub, 1)) (k : V G K M bc bs σ (pc + 1) lo (.int (x - y) :: st)) : V G K M bc bs σ pc lo (.int y :: .int x :: st) := by
  obtain ⟨p, l, e, R, s, m, args, below, meth, c, Qf⟩ := K
  intro H locs cells slots ls hR hS hl hc hs
  exact lv_isub C.1 C.2.1 hd (k H locs cells slots ls hR hS hl hc hs)
theorem v_imul (C : hp_Cx G K M) {x y : Int32} (hd : decode M.1 pc = .ok (.imul, 1)) (k : V G K M bc bs σ (pc + 1) lo (.int (x * y) :: st)) : V G K M bc bs σ pc lo (.int y :: .int x :: st) := by
  obtain ⟨p, l, e, R, s, m, args, below, meth, c, Qf⟩ := K
  intro H locs cells slots ls hR hS hl hc hs
  exact lv_imul C.1 C.2.1 hd (k H locs cells slots ls hR hS hl hc hs)
theorem v_iand (C : hp_Cx G K M) {x y : Int32} (hd : decode M.1 pc = .ok (.iand, 1)) (k : V G K M bc bs σ (pc + 1) lo (.int (x &&& y) :: st)) : V G K M bc bs σ pc lo (.int y :: .int x :: st) := by
  obtain ⟨p, l, e, R, s, m, args, below, meth, c, Qf⟩ := K
  intro H locs cells slots ls hR hS hl hc hs
  exact lv_iand C.1 C.2.1 hd (k H locs cells slots ls hR hS hl hc hs)
theorem v_ior (C : hp_Cx G K M) {x y : Int32} (hd : decode M.1 pc = .ok (.ior, 1)) (k : V G K M bc bs σ (pc + 1) lo (.int (x ||| y) :: st)) : V G K M bc bs σ pc lo (.int y :: .int x :: st) := by
  obtain ⟨p, l, e, R, s, m, args, below, meth, c, Qf⟩ := K
  intro H locs cells slots ls hR hS hl hc hs
  exact lv_ior C.1 C.2.1 hd (k H locs cells slots ls hR hS hl hc hs)
theorem v_ixor (C : hp_Cx G K M) {x y : Int32} (hd : decode M.1 pc = .ok (.ixor, 1)) (k : V G K M bc bs σ (pc + 1) lo (.int (x ^^^ y) :: st)) : V G K M bc bs σ pc lo (.int y :: .int x :: st) := by
  obtain ⟨p, l, e, R, s, m, args, below, meth, c, Qf⟩ := K
  intro H locs cells slots ls hR hS hl hc hs
  exact lv_ixor C.1 C.2.1 hd (k H locs cells slots ls hR hS hl hc hs)
theorem v_ishl (C : hp_Cx G K M) {x y : Int32} (hd : decode M.1 pc = .ok (.ishl, 1)) (k : V G K M bc bs σ (pc + 1) lo (.int (x <<< (y &&& 31)) :: st)) : V G K M bc bs σ pc lo (.int y :: .int x :: st) := by
  obtain ⟨p, l, e, R, s, m, args, below, meth, c, Qf⟩ := K
  intro H locs cells slots ls hR hS hl hc hs
  exact lv_ishl C.1 C.2.1 hd (k H locs cells slots ls hR hS hl hc hs)
theorem v_ishr (C : hp_Cx G K M) {x y : Int32} (hd : decode M.1 pc = .ok (.ishr, 1)) (k : V G K M bc bs σ (pc + 1) lo (.int (x >>> (y &&& 31)) :: st)) : V G K M bc bs σ pc lo (.int y :: .int x :: st) := by
  obtain ⟨p, l, e, R, s, m, args, below, meth, c, Qf⟩ := K
  intro H locs cells slots ls hR hS hl hc hs
  exact lv_ishr C.1 C.2.1 hd (k H locs cells slots ls hR hS hl hc hs)
theorem v_ineg (C : hp_Cx G K M) {x : Int32} (hd : decode M.1 pc = .ok (.ineg, 1)) (k : V G K M bc bs σ (pc + 1) lo (.int (-x) :: st)) : V G K M bc bs σ pc lo (.int x :: st) := by
  obtain ⟨p, l, e, R, s, m, args, below, meth, c, Qf⟩ := K
  intro H locs cells slots ls hR hS hl hc hs
  exact lv_ineg C.1 C.2.1 hd (k H locs cells slots ls hR hS hl hc hs)
theorem v_iushr (C : hp_Cx G K M) {x y v : Int32} (hd : decode M.1 pc = .ok (.iushr, 1)) (hv : (x.toUInt32 >>> (y.toUInt32 &&& Int32.toUInt32 31)).toInt32 = v) (k : V G K M bc bs σ (pc + 1) lo (.int v :: st)) : V G K M bc bs σ pc lo (.int y :: .int x :: st) := by
  obtain ⟨p, l, e, R, s, m, args, below, meth, c, Qf⟩ := K
  intro H locs cells slots ls hR hS hl hc hs
  exact lv_iushr C.1 C.2.1 hd hv (k H locs cells slots ls hR hS hl hc hs)
theorem v_idiv (C : hp_Cx G K M) {x y : Int32} (hd : decode M.1 pc = .ok (.idiv, 1)) (hne : ¬ y = 0) (k : V G K M bc bs σ (pc + 1) lo (.int (x / y) :: st)) : V G K M bc bs σ pc lo (.int y :: .int x :: st) := by
  obtain ⟨p, l, e, R, s, m, args, below, meth, c, Qf⟩ := K
  intro H locs cells slots ls hR hS hl hc hs
  exact lv_idiv C.1 C.2.1 hd hne (k H locs cells slots ls hR hS hl hc hs)
theorem v_irem (C : hp_Cx G K M) {x y : Int32} (hd : decode M.1 pc = .ok (.irem, 1)) (hne : ¬ y = 0) (k : V G K M bc bs σ (pc + 1) lo (.int (x - x / y * y) :: st)) : V G K M bc bs σ pc lo (.int y :: .int x :: st) := by
  obtain ⟨p, l, e, R, s, m, args, below, meth, c, Qf⟩ := K
  intro H locs cells slots ls hR hS hl hc hs
  exact lv_irem C.1 C.2.1 hd hne (k H locs cells slots ls hR hS hl hc hs)
theorem v_i2l (C : hp_Cx G K M) {x : Int32} (hd : decode M.1 pc = .ok (.i2l, 1)) (k : V G K M bc bs σ (pc + 1) lo (.long x.toInt64 :: st)) : V G K M bc bs σ pc lo (.int x :: st) := by
  obtain ⟨p, l, e, R, s, m, args, below, meth, c, Qf⟩ := K
  intro H locs cells slots ls hR hS hl hc hs
  exact lv_i2l C.1 C.2.1 hd rfl (k H locs cells slots ls hR hS hl hc hs)
theorem v_i2b (C : hp_Cx G K M) {x : Int32} (hd : decode M.1 pc = .ok (.i2b, 1)) (k : V G K M bc bs σ (pc + 1) lo (.int x.toInt8.toInt32 :: st)) : V G K M bc bs σ pc lo (.int x :: st) := by
  obtain ⟨p, l, e, R, s, m, args, below, meth, c, Qf⟩ := K
  intro H locs cells slots ls hR hS hl hc hs
  exact lv_i2b C.1 C.2.1 hd rfl (k H locs cells slots ls hR hS hl hc hs)
theorem v_i2c (C : hp_Cx G K M) {x : Int32} (hd : decode M.1 pc = .ok (.i2c, 1)) (k : V G K M bc bs σ (pc + 1) lo (.int (x.toUInt32 % 65536).toInt32 :: st)) : V G K M bc bs σ pc lo (.int x :: st) := by
  obtain ⟨p, l, e, R, s, m, args, below, meth, c, Qf⟩ := K
  intro H locs cells slots ls hR hS hl hc hs
  exact lv_i2c C.1 C.2.1 hd rfl (k H locs cells slots ls hR hS hl hc hs)
theorem v_i2f (C : hp_Cx G K M) {x : Int32} (hd : decode M.1 pc = .ok (.i2f, 1)) (k : V G K M bc bs σ (pc + 1) lo (.float (FP.i2f x) :: st)) : V G K M bc bs σ pc lo (.int x :: st) := by
  obtain ⟨p, l, e, R, s, m, args, below, meth, c, Qf⟩ := K
  intro H locs cells slots ls hR hS hl hc hs
  exact lv_i2f C.1 C.2.1 hd (k H locs cells slots ls hR hS hl hc hs)
theorem v_i2d (C : hp_Cx G K M) {x : Int32} (hd : decode M.1 pc = .ok (.i2d, 1)) (k : V G K M bc bs σ (pc + 1) lo (.double (FP.i2d x) :: st)) : V G K M bc bs σ pc lo (.int x :: st) := by
  obtain ⟨p, l, e, R, s, m, args, below, meth, c, Qf⟩ := K
  intro H locs cells slots ls hR hS hl hc hs
  exact lv_i2d C.1 C.2.1 hd (k H locs cells slots ls hR hS hl hc hs)
theorem v_f2d (C : hp_Cx G K M) {x : UInt32} (hd : decode M.1 pc = .ok (.f2d, 1)) (hne : vf_n64 (FP.f2d x)) (k : V G K M bc bs σ (pc + 1) lo (.double (FP.f2d x) :: st)) : V G K M bc bs σ pc lo (.float x :: st) := by
  obtain ⟨p, l, e, R, s, m, args, below, meth, c, Qf⟩ := K
  intro H locs cells slots ls hR hS hl hc hs
  exact lv_f2d C.1 C.2.1 hd hne (k H locs cells slots ls hR hS hl hc hs)
theorem v_ladd (C : hp_Cx G K M) {x y : Int64} (hd : decode M.1 pc = .ok (.ladd, 1)) (k : V G K M bc bs σ (pc + 1) lo (.long (x + y) :: st)) : V G K M bc bs σ pc lo (.long y :: .long x :: st) := by
  obtain ⟨p, l, e, R, s, m, args, below, meth, c, Qf⟩ := K
  intro H locs cells slots ls hR hS hl hc hs
  exact lv_ladd C.1 C.2.1 hd (k H locs cells slots ls hR hS hl hc hs)
theorem v_lsub (C : hp_Cx G K M) {x y : Int64} (hd : decode M.1 pc = .ok (.lsub, 1)) (k : V G K M bc bs σ (pc + 1) lo (.long (x - y) :: st)) : V G K M bc bs σ pc lo (.long y :: .long x :: st) := by
  obtain ⟨p, l, e, R, s, m, args, below, meth, c, Qf⟩ := K
  intro H locs cells slots ls hR hS hl hc hs
  exact lv_lsub C.1 C.2.1 hd (k H locs cells slots ls hR hS hl hc hs)
theorem v_fdiv (C : hp_Cx G K M) {x y : UInt32} (hd : decode M.1 pc = .ok (.fdiv, 1)) (hne : vf_n32 (FP.fdiv x y)) (k : V G K M bc bs σ (pc + 1) lo (.float (FP.fdiv x y) :: st)) : V G K M bc bs σ pc lo (.float y :: .float x :: st) := by
  obtain ⟨p, l, e, R, s, m, args, below, meth, c, Qf⟩ := K
  intro H locs cells slots ls hR hS hl hc hs
  exact lv_fdiv C.1 C.2.1 hd hne (k H locs cells slots ls hR hS hl hc hs)
theorem v_ddiv (C : hp_Cx G K M) {x y : UInt64} (hd : decode M.1 pc = .ok (.ddiv, 1)) (hne : vf_n64 (FP.ddiv x y)) (k : V G K M bc bs σ (pc + 1) lo (.double (FP.ddiv x y) :: st)) : V G K M bc bs σ pc lo (.double y :: .double x :: st) := by
  obtain ⟨p, l, e, R, s, m, args, below, meth, c, Qf⟩ := K
  intro H locs cells slots ls hR hS hl hc hs
  exact lv_ddiv C.1 C.2.1 hd hne (k H locs cells slots ls hR hS hl hc hs)
theorem v_fcmp (C : hp_Cx G K M) {x y : UInt32} {op : CmpOp} (hd : decode M.1 pc = .ok (.fcmp op, 1)) (k : V G K M bc bs σ (pc + 1) lo (.int (Op.cmpValue (FP.fcmp x y) op) :: st)) : V G K M bc bs σ pc lo (.float y :: .float x :: st) := by
  obtain ⟨p, l, e, R, s, m, args, below, meth, c, Qf⟩ := K
  intro H locs cells slots ls hR hS hl hc hs
  exact lv_fcmp C.1 C.2.1 hd (k H locs cells slots ls hR hS hl hc hs)
theorem v_dcmp (C : hp_Cx G K M) {x y : UInt64} {op : CmpOp} (hd : decode M.1 pc = .ok (.dcmp op, 1)) (k : V G K M bc bs σ (pc + 1) lo (.int (Op.cmpValue (FP.dcmp x y) op) :: st)) : V G K M bc bs σ pc lo (.double y :: .double x :: st) := by
  obtain ⟨p, l, e, R, s, m, args, below, meth, c, Qf⟩ := K
  intro H locs cells slots ls hR hS hl hc hs
  exact lv_dcmp C.1 C.2.1 hd (k H locs cells slots ls hR hS hl hc hs)
theorem v_dup (C : hp_Cx G K M) {va : Value} (hd : decode M.1 pc = .ok (.dup, 1)) (hva : va.category = 1) (k : V G K M bc bs σ (pc + 1) lo (va :: va :: st)) : V G K M bc bs σ pc lo (va :: st) := by
  obtain ⟨p, l, e, R, s, m, args, below, meth, c, Qf⟩ := K
  intro H locs cells slots ls hR hS hl hc hs
  exact lv_dup C.1 C.2.1 hd hva (k H locs cells slots ls hR hS hl hc hs)
theorem v_pop (C : hp_Cx G K M) {va : Value} (hd : decode M.1 pc = .ok (.pop, 1)) (hva : va.category = 1) (k : V G K M bc bs σ (pc + 1) lo (st)) : V G K M bc bs σ pc lo (va :: st) := by
  obtain ⟨p, l, e, R, s, m, args, below, meth, c, Qf⟩ := K
  intro H locs cells slots ls hR hS hl hc hs
  exact lv_pop C.1 C.2.1 hd hva (k H locs cells slots ls hR hS hl hc hs)
theorem v_dup_x1 (C : hp_Cx G K M) {va vb : Value} (hd : decode M.1 pc = .ok (.dup_x1, 1)) (hva : va.category = 1) (hvb : vb.category = 1) (k : V G K M bc bs σ (pc + 1) lo (va :: vb :: va :: st)) : V G K M bc bs σ pc lo (va :: vb :: st) := by
  obtain ⟨p, l, e, R, s, m, args, below, meth, c, Qf⟩ := K
  intro H locs cells slots ls hR hS hl hc hs
  exact lv_dup_x1 C.1 C.2.1 hd hva hvb (k H locs cells slots ls hR hS hl hc hs)
theorem v_dup2 (C : hp_Cx G K M) {va vb : Value} (hd : decode M.1 pc = .ok (.dup2, 1)) (hva : va.category = 1) (hvb : vb.category = 1) (k : V G K M bc bs σ (pc + 1) lo (va :: vb :: va :: vb :: st)) : V G K M bc bs σ pc lo (va :: vb :: st) := by
  obtain ⟨p, l, e, R, s, m, args, below, meth, c, Qf⟩ := K
  intro H locs cells slots ls hR hS hl hc hs
  exact lv_dup2_11 C.1 C.2.1 hd hva hvb (k H locs cells slots ls hR hS hl hc hs)
theorem v_if_eq (C : hp_Cx G K M) {x : Int32} {off : Int} {tgt : Nat} (hd : decode M.1 pc = .ok (.ifCond .eq off, 3)) (ht : (pc : Int) + off = (tgt : Int)) (kt : x = 0 → V G K M bc bs σ tgt lo st) (kf : ¬ (x = 0) → V G K M bc bs σ (pc + 3) lo st) : V G K M bc bs σ pc lo (.int x :: st) := by
  obtain ⟨p, l, e, R, s, m, args, below, meth, c, Qf⟩ := K
  intro H locs cells slots ls hR hS hl hc hs
  exact lv_if_eq C.1 C.2.1 hd ht (fun q => kt q H locs cells slots ls hR hS hl hc hs) (fun q => kf q H locs cells slots ls hR hS hl hc hs)
theorem v_icmp_eq (C : hp_Cx G K M) {x y : Int32} {off : Int} {tgt : Nat} (hd : decode M.1 pc = .ok (.if_icmp .eq off, 3)) (ht : (pc : Int) + off = (tgt : Int)) (kt : x = y → V G K M bc bs σ tgt lo st) (kf : ¬ (x = y) → V G K M bc bs σ (pc + 3) lo st) : V G K M bc bs σ pc lo (.int y :: .int x :: st) := by
  obtain ⟨p, l, e, R, s, m, args, below, meth, c, Qf⟩ := K
  intro H locs cells slots ls hR hS hl hc hs
  exact lv_icmp_eq C.1 C.2.1 hd ht (fun q => kt q H locs cells slots ls hR hS hl hc hs) (fun q => kf q H locs cells slots ls hR hS hl hc hs)
theorem v_if_ne (C : hp_Cx G K M) {x : Int32} {off : Int} {tgt : Nat} (hd : decode M.1 pc = .ok (.ifCond .ne off, 3)) (ht : (pc : Int) + off = (tgt : Int)) (kt : ¬ x = 0 → V G K M bc bs σ tgt lo st) (kf : x = 0 → V G K M bc bs σ (pc + 3) lo st) : V G K M bc bs σ pc lo (.int x :: st) := by
  obtain ⟨p, l, e, R, s, m, args, below, meth, c, Qf⟩ := K
  intro H locs cells slots ls hR hS hl hc hs
  exact lv_if_ne C.1 C.2.1 hd ht (fun q => kt q H locs cells slots ls hR hS hl hc hs) (fun q => kf q H locs cells slots ls hR hS hl hc hs)
theorem v_icmp_ne (C : hp_Cx G K M) {x y : Int32} {off : Int} {tgt : Nat} (hd : decode M.1 pc = .ok (.if_icmp .ne off, 3)) (ht : (pc : Int) + off = (tgt : Int)) (kt : ¬ x = y → V G K M bc bs σ tgt lo st) (kf : x = y → V G K M bc bs σ (pc + 3) lo st) : V G K M bc bs σ pc lo (.int y :: .int x :: st) := by
  obtain ⟨p, l, e, R, s, m, args, below, meth, c, Qf⟩ := K
  intro H locs cells slots ls hR hS hl hc hs
  exact lv_icmp_ne C.1 C.2.1 hd ht (fun q => kt q H locs cells slots ls hR hS hl hc hs) (fun q => kf q H locs cells slots ls hR hS hl hc hs)
theorem v_if_lt (C : hp_Cx G K M) {x : Int32} {off : Int} {tgt : Nat} (hd : decode M.1 pc = .ok (.ifCond .lt off, 3)) (ht : (pc : Int) + off = (tgt : Int)) (kt : x < 0 → V G K M bc bs σ tgt lo st) (kf : ¬ (x < 0) → V G K M bc bs σ (pc + 3) lo st) : V G K M bc bs σ pc lo (.int x :: st) := by
  obtain ⟨p, l, e, R, s, m, args, below, meth, c, Qf⟩ := K
  intro H locs cells slots ls hR hS hl hc hs
  exact lv_if_lt C.1 C.2.1 hd ht (fun q => kt q H locs cells slots ls hR hS hl hc hs) (fun q => kf q H locs cells slots ls hR hS hl hc hs)
theorem v_icmp_lt (C : hp_Cx G K M) {x y : Int32} {off : Int} {tgt : Nat} (hd : decode M.1 pc = .ok (.if_icmp .lt off, 3)) (ht : (pc : Int) + off = (tgt : Int)) (kt : x < y → V G K M bc bs σ tgt lo st) (kf : ¬ (x < y) → V G K M bc bs σ (pc + 3) lo st) : V G K M bc bs σ pc lo (.int y :: .int x :: st) := by
  obtain ⟨p, l, e, R, s, m, args, below, meth, c, Qf⟩ := K
  intro H locs cells slots ls hR hS hl hc hs
  exact lv_icmp_lt C.1 C.2.1 hd ht (fun q => kt q H locs cells slots ls hR hS hl hc hs) (fun q => kf q H locs cells slots ls hR hS hl hc hs)
theorem v_if_ge (C : hp_Cx G K M) {x : Int32} {off : Int} {tgt : Nat} (hd : decode M.1 pc = .ok (.ifCond .ge off, 3)) (ht : (pc : Int) + off = (tgt : Int)) (kt : 0 ≤ x → V G K M bc bs σ tgt lo st) (kf : ¬ (0 ≤ x) → V G K M bc bs σ (pc + 3) lo st) : V G K M bc bs σ pc lo (.int x :: st) := by
  obtain ⟨p, l, e, R, s, m, args, below, meth, c, Qf⟩ := K
  intro H locs cells slots ls hR hS hl hc hs
  exact lv_if_ge C.1 C.2.1 hd ht (fun q => kt q H locs cells slots ls hR hS hl hc hs) (fun q => kf q H locs cells slots ls hR hS hl hc hs)
theorem v_icmp_ge (C : hp_Cx G K M) {x y : Int32} {off : Int} {tgt : Nat} (hd : decode M.1 pc = .ok (.if_icmp .ge off, 3)) (ht : (pc : Int) + off = (tgt : Int)) (kt : y ≤ x → V G K M bc bs σ tgt lo st) (kf : ¬ (y ≤ x) → V G K M bc bs σ (pc + 3) lo st) : V G K M bc bs σ pc lo (.int y :: .int x :: st) := by
  obtain ⟨p, l, e, R, s, m, args, below, meth, c, Qf⟩ := K
  intro H locs cells slots ls hR hS hl hc hs
  exact lv_icmp_ge C.1 C.2.1 hd ht (fun q => kt q H locs cells slots ls hR hS hl hc hs) (fun q => kf q H locs cells slots ls hR hS hl hc hs)
theorem v_if_gt (C : hp_Cx G K M) {x : Int32} {off : Int} {tgt : Nat} (hd : decode M.1 pc = .ok (.ifCond .gt off, 3)) (ht : (pc : Int) + off = (tgt : Int)) (kt : 0 < x → V G K M bc bs σ tgt lo st) (kf : ¬ (0 < x) → V G K M bc bs σ (pc + 3) lo st) : V G K M bc bs σ pc lo (.int x :: st) := by
  obtain ⟨p, l, e, R, s, m, args, below, meth, c, Qf⟩ := K
  intro H locs cells slots ls hR hS hl hc hs
  exact lv_if_gt C.1 C.2.1 hd ht (fun q => kt q H locs cells slots ls hR hS hl hc hs) (fun q => kf q H locs cells slots ls hR hS hl hc hs)
theorem v_icmp_gt (C : hp_Cx G K M) {x y : Int32} {off : Int} {tgt : Nat} (hd : decode M.1 pc = .ok (.if_icmp .gt off, 3)) (ht : (pc : Int) + off = (tgt : Int)) (kt : y < x → V G K M bc bs σ tgt lo st) (kf : ¬ (y < x) → V G K M bc bs σ (pc + 3) lo st) : V G K M bc bs σ pc lo (.int y :: .int x :: st) := by
  obtain ⟨p, l, e, R, s, m, args, below, meth, c, Qf⟩ := K
  intro H locs cells slots ls hR hS hl hc hs
  exact lv_icmp_gt C.1 C.2.1 hd ht (fun q => kt q H locs cells slots ls hR hS hl hc hs) (fun q => kf q H locs cells slots ls hR hS hl hc hs)
theorem v_if_le (C : hp_Cx G K M) {x : Int32} {off : Int} {tgt : Nat} (hd : decode M.1 pc = .ok (.ifCond .le off, 3)) (ht : (pc : Int) + off = (tgt : Int)) (kt : x ≤ 0 → V G K M bc bs σ tgt lo st) (kf : ¬ (x ≤ 0) → V G K M bc bs σ (pc + 3) lo st) : V G K M bc bs σ pc lo (.int x :: st) := by
  obtain ⟨p, l, e, R, s, m, args, below, meth, c, Qf⟩ := K
  intro H locs cells slots ls hR hS hl hc hs
  exact lv_if_le C.1 C.2.1 hd ht (fun q => kt q H locs cells slots ls hR hS hl hc hs) (fun q => kf q H locs cells slots ls hR hS hl hc hs)
theorem v_icmp_le (C : hp_Cx G K M) {x y : Int32} {off : Int} {tgt : Nat} (hd : decode M.1 pc = .ok (.if_icmp .le off, 3)) (ht : (pc : Int) + off = (tgt : Int)) (kt : x ≤ y → V G K M bc bs σ tgt lo st) (kf : ¬ (x ≤ y) → V G K M bc bs σ (pc + 3) lo st) : V G K M bc bs σ pc lo (.int y :: .int x :: st) := by
  obtain ⟨p, l, e, R, s, m, args, below, meth, c, Qf⟩ := K
  intro H locs cells slots ls hR hS hl hc hs
  exact lv_icmp_le C.1 C.2.1 hd ht (fun q => kt q H locs cells slots ls hR hS hl hc hs) (fun q => kf q H locs cells slots ls hR hS hl hc hs)
theorem v_goto (C : hp_Cx G K M) {off : Int} {tgt : Nat} (hd : decode M.1 pc = .ok (.goto off, 3)) (ht : (pc : Int) + off = (tgt : Int)) (k : V G K M bc bs σ tgt lo st) : V G K M bc bs σ pc lo st := by
  obtain ⟨p, l, e, R, s, m, args, below, meth, c, Qf⟩ := K
  intro H locs cells slots ls hR hS hl hc hs
  exact lv_goto C.1 C.2.1 hd ht (k H locs cells slots ls hR hS hl hc hs)
theorem v_ifnonnull (C : hp_Cx G K M) {x : Nat} {off : Int} {tgt : Nat} (hd : decode M.1 pc = .ok (.ifnonnull off, 3)) (ht : (pc : Int) + off = (tgt : Int)) (k : V G K M bc bs σ tgt lo st) : V G K M bc bs σ pc lo (.ref x :: st) := by
  obtain ⟨p, l, e, R, s, m, args, below, meth, c, Qf⟩ := K
  intro H locs cells slots ls hR hS hl hc hs
  exact lv_ifnonnull C.1 C.2.1 hd ht (k H locs cells slots ls hR hS hl hc hs)
theorem v_ifnull (C : hp_Cx G K M) {x : Nat} {off : Int} (hd : decode M.1 pc = .ok (.ifnull off, 3)) (k : V G K M bc bs σ (pc + 3) lo st) : V G K M bc bs σ pc lo (.ref x :: st) := by
  obtain ⟨p, l, e, R, s, m, args, below, meth, c, Qf⟩ := K
  intro H locs cells slots ls hR hS hl hc hs
  exact lv_ifnull C.1 C.2.1 hd (k H locs cells slots ls hR hS hl hc hs)
theorem v_tableOut (C : hp_Cx G K M) {dflt lo0 hi : Int} {offs : Array Int} {len : Nat} {x : Int32} {tgt : Nat} (hd : decode M.1 pc = .ok (.tableswitch dflt lo0 hi offs, len)) (h : x.toInt < lo0 ∨ hi < x.toInt) (ht : (pc : Int) + dflt = (tgt : Int)) (k : V G K M bc bs σ tgt lo st) : V G K M bc bs σ pc lo (.int x :: st) := by
  obtain ⟨p, l, e, R, s, m, args, below, meth, c, Qf⟩ := K
  intro H locs cells slots ls hR hS hl hc hs
  exact lv_tableOut C.1 C.2.1 hd h ht (k H locs cells slots ls hR hS hl hc hs)
theorem v_tableIn (C : hp_Cx G K M) {dflt lo0 hi : Int} {offs : Array Int} {len : Nat} {x : Int32} {off : Int} {tgt : Nat} (hd : decode M.1 pc = .ok (.tableswitch dflt lo0 hi offs, len)) (h1 : ¬ x.toInt < lo0) (h2 : ¬ hi < x.toInt) (ho : offs[(x.toInt - lo0).toNat]? = some off) (ht : (pc : Int) + off = (tgt : Int)) (k : V G K M bc bs σ tgt lo st) : V G K M bc bs σ pc lo (.int x :: st) := by
  obtain ⟨p, l, e, R, s, m, args, below, meth, c, Qf⟩ := K
  intro H locs cells slots ls hR hS hl hc hs
  exact lv_tableIn C.1 C.2.1 hd h1 h2 ho ht (k H locs cells slots ls hR hS hl hc hs)
theorem v_widen {bc' bs' : Nat} (h1 : bc' ≤ bc) (h2 : bs' ≤ bs) (k : V G K M bc' bs' σ pc lo st) : V G K M bc bs σ pc lo st := by
  obtain ⟨p, l, e, R, s, m, args, below, meth, c, Qf⟩ := K
  intro H locs cells slots ls hR hS hl hc hs
  exact k H locs cells slots ls hR hS hl (by omega) (by omega)
theorem v_lo {lo' : List (Option Value)} (h : ∀ (i : Nat) (v : Value), lo'[i]? = some (some v) → lo[i]? = some (some v)) (k : V G K M bc bs σ pc lo' st) : V G K M bc bs σ pc lo st := by
  obtain ⟨p, l, e, R, s, m, args, below, meth, c, Qf⟩ := K
  intro H locs cells slots ls hR hS hl hc hs
  exact k H locs cells slots ls hR hS ⟨hl.1, hl.2.1, fun i v hi => hl.2.2 i v (h i v hi)⟩ hc hs
theorem v_topi {x : Int32} (k : ∀ y : Int32, y = x → V G K M bc bs σ pc lo (.int y :: st)) : V G K M bc bs σ pc lo (.int x :: st) := k x rfl
theorem v_iret (C : hp_Cx G K M) (E : hp_End G K P) {v : Int32} (hd : decode M.1 pc = .ok (.ireturn, 1)) (hr : M.2.2.2.1 = some .int) (hp : P (.inl (some (.int v))) σ) : V G K M bc bs σ pc lo [.int v] := by
  obtain ⟨p, l, e, R, s, m, args, below, meth, c, Qf⟩ := K
  intro H locs cells slots ls hR hS hl hc hs
  obtain ⟨hQ, -⟩ := E
  obtain ⟨C1, C2, -, -, -, -, -, -, C9, C10, -⟩ := C
  refine W.widen (k := R.cells) (n := R.slots) (by omega) (by omega) ?_
  rw [show Qf = _ from hQ]
  refine vx_ret ?_
  exact W.iret C1 C2 (C10.trans hr) (fun t ht hW => ⟨⟨_, σ, rfl, hp, by rw [ht]; exact hR⟩, hS.F ht⟩) hS.2.2 hd C9
theorem v_zret (C : hp_Cx G K M) (E : hp_End G K P) {v : Int32} {ty : FieldType} (hd : decode M.1 pc = .ok (.ireturn, 1)) (hr : M.2.2.2.1 = some ty) (hn : narrow ty (.int v) = .int v) (hp : P (.inl (some (.int v))) σ) : V G K M bc bs σ pc lo [.int v] := by
  obtain ⟨p, l, e, R, s, m, args, below, meth, c, Qf⟩ := K
  intro H locs cells slots ls hR hS hl hc hs
  obtain ⟨hQ, -⟩ := E
  obtain ⟨C1, C2, -, -, -, -, -, -, C9, C10, -⟩ := C
  refine W.widen (k := R.cells) (n := R.slots) (by omega) (by omega) ?_
  rw [show Qf = _ from hQ]
  refine vx_ret ?_
  exact W.zret C1 C2 (C10.trans hr) hn (fun t ht hW => ⟨⟨_, σ, rfl, hp, by rw [ht]; exact hR⟩, hS.F ht⟩) hS.2.2 hd C9
theorem v_lret (C : hp_Cx G K M) (E : hp_End G K P) {v : Int64} (hd : decode M.1 pc = .ok (.lreturn, 1)) (hr : M.2.2.2.1 = some .long) (hp : P (.inl (some (.long v))) σ) : V G K M bc bs σ pc lo [.long v] := by
  obtain ⟨p, l, e, R, s, m, args, below, meth, c, Qf⟩ := K
  intro H locs cells slots ls hR hS hl hc hs
  obtain ⟨hQ, -⟩ := E
  obtain ⟨C1, C2, -, -, -, -, -, -, C9, C10, -⟩ := C
  refine W.widen (k := R.cells) (n := R.slots) (by omega) (by omega) ?_
  rw [show Qf = _ from hQ]
  refine vx_ret ?_
  exact W.lret C1 C2 (C10.trans hr) (fun t ht hW => ⟨⟨_, σ, rfl, hp, by rw [ht]; exact hR⟩, hS.F ht⟩) hS.2.2 hd C9
theorem v_fret (C : hp_Cx G K M) (E : hp_End G K P) {v : UInt32} (hd : decode M.1 pc = .ok (.freturn, 1)) (hr : M.2.2.2.1 = some .float) (hp : P (.inl (some (.float v))) σ) : V G K M bc bs σ pc lo [.float v] := by
  obtain ⟨p, l, e, R, s, m, args, below, meth, c, Qf⟩ := K
  intro H locs cells slots ls hR hS hl hc hs
  obtain ⟨hQ, -⟩ := E
  obtain ⟨C1, C2, -, -, -, -, -, -, C9, C10, -⟩ := C
  refine W.widen (k := R.cells) (n := R.slots) (by omega) (by omega) ?_
  rw [show Qf = _ from hQ]
  refine vx_ret ?_
  exact W.fret C1 C2 (C10.trans hr) (fun t ht hW => ⟨⟨_, σ, rfl, hp, by rw [ht]; exact hR⟩, hS.F ht⟩) hS.2.2 hd C9
theorem v_dret (C : hp_Cx G K M) (E : hp_End G K P) {v : UInt64} (hd : decode M.1 pc = .ok (.dreturn, 1)) (hr : M.2.2.2.1 = some .double) (hp : P (.inl (some (.double v))) σ) : V G K M bc bs σ pc lo [.double v] := by
  obtain ⟨p, l, e, R, s, m, args, below, meth, c, Qf⟩ := K
  intro H locs cells slots ls hR hS hl hc hs
  obtain ⟨hQ, -⟩ := E
  obtain ⟨C1, C2, -, -, -, -, -, -, C9, C10, -⟩ := C
  refine W.widen (k := R.cells) (n := R.slots) (by omega) (by omega) ?_
  rw [show Qf = _ from hQ]
  refine vx_ret ?_
  exact W.dret C1 C2 (C10.trans hr) (fun t ht hW => ⟨⟨_, σ, rfl, hp, by rw [ht]; exact hR⟩, hS.F ht⟩) hS.2.2 hd C9
theorem v_vret (C : hp_Cx G K M) (E : hp_End G K P) (hd : decode M.1 pc = .ok (.return_, 1)) (hr : M.2.2.2.1 = none) (hp : P (.inl none) σ) : V G K M bc bs σ pc lo [] := by
  obtain ⟨p, l, e, R, s, m, args, below, meth, c, Qf⟩ := K
  intro H locs cells slots ls hR hS hl hc hs
  obtain ⟨hQ, -⟩ := E
  obtain ⟨C1, C2, -, -, -, -, -, -, C9, C10, -⟩ := C
  refine W.widen (k := R.cells) (n := R.slots) (by omega) (by omega) ?_
  rw [show Qf = _ from hQ]
  refine vx_ret ?_
  exact W.vret C1 C2 (C10.trans hr) (fun t ht hW => ⟨⟨_, σ, rfl, hp, by rw [ht]; exact hR⟩, hS.F ht⟩) hS.2.2 hd C9
theorem v_aret (C : hp_Cx G K M) (E : hp_End G K P) {v : Nat} {rt : FieldType} (hd : decode M.1 pc = .ok (.areturn, 1)) (hr : M.2.2.2.1 = some rt) (hrt : (∃ n, rt = .object n) ∨ ∃ t, rt = .array t) (hp : P (.inl (some (.ref v))) σ) : V G K M bc bs σ pc lo [.ref v] := by
  obtain ⟨p, l, e, R, s, m, args, below, meth, c, Qf⟩ := K
  intro H locs cells slots ls hR hS hl hc hs
  obtain ⟨hQ, -⟩ := E
  obtain ⟨C1, C2, -, -, -, -, -, -, C9, C10, -⟩ := C
  refine W.widen (k := R.cells) (n := R.slots) (by omega) (by omega) ?_
  rw [show Qf = _ from hQ]
  refine vx_ret ?_
  exact W.aret C1 C2 (C10.trans hr) hrt (Or.inr ⟨v, rfl⟩) (fun t ht hW => ⟨⟨_, σ, rfl, hp, by rw [ht]; exact hR⟩, hS.F ht⟩) hS.2.2 hd C9
end HPR

/-! ===== THE LAW: its end ===== -/
theorem law_end {G : hp_G} {p : Program} {l : Launch} {e : Env} {s : State} {m : MethodId} {below : List Frame} {meth : Method} {c : Code} {b : Nat} {d0 : Drawn} (hd0 : s.drawn.sameBut d0 lw_cs) (C : hp_Cx G (p, l, e, room_1, s.setDrawn d0, m, #[Value.ref b], below, meth, c, lw_Z below #[Value.ref b] s) (ML_law (p, l, e, room_1, s.setDrawn d0, m, #[Value.ref b], below, meth, c, lw_Z below #[Value.ref b] s))) (hA : G.2.1 = s.heap.size) : ∀ bc bs n h lo, V G (p, l, e, room_1, s.setDrawn d0, m, #[Value.ref b], below, meth, c, lw_Z below #[Value.ref b] s) (ML_law (p, l, e, room_1, s.setDrawn d0, m, #[Value.ref b], below, meth, c, lw_Z below #[Value.ref b] s)) bc bs (n, h) 2677 lo [.int 1] := by
  intro bc bs n h lo H locs cells slots ls hR hS hlo hc hs
  obtain ⟨C1, C2, -, -, -, -, -, -, C9, C10, -⟩ := C
  refine va_forget (fun q hq => ?_) ?_
  · have := hS.2.2 q hq
    exact hA ▸ this
  · refine W.widen (k := 603072) (n := 7170153) (Nat.le_trans (Nat.le_add_right _ _) hc) (Nat.le_trans (Nat.le_add_right _ _) hs) ?_
    exact lw_ret hd0 C1 C2 C10 C9 dL_law_2677

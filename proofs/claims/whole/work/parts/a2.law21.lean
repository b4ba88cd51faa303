/-! ===== THE LAW: from its entry, in a world ===== -/
set_option maxHeartbeats 2000000 in
theorem whole_from {p : Program} {e : Env} {s : State} {m : MethodId} {below : List Frame} {meth : Method} {c : Code} (l : Launch) (hl : l.stackTraces = false) {b L : Nat} {xs : Nat → Int32} (hL : L ≤ 3072) (C0 : lw_At p s m meth c b L xs) {G : hp_G} {h : Nat → Option va_E} (hA : G.2.1 = s.heap.size) (hK : va_K G.1 vwCl (hp_tys G) s) (hF : hp_F G s s.heap) (hKc : Kc G h) (hR : hp_R G (s.heap.size, h) s.heap) (hsc : h b = some (.inl (G.2.2.1 7, L, .inl xs))) : W p l e room_1 s m #[Value.ref b] below meth c s.heap [] 0 0 (lw_Z below #[Value.ref b] s) (entryFrame m ([Value.ref b] : List Value).toArray 9) := by
  obtain ⟨hx, hb, hr, hml, hown, hts, hX, hbl, hlocks, hgv⟩ := id C0
  have hd0 := Drawn.sameBut.refl s.drawn lw_cs
  refine W.base ?_
  have hl0 := lv_entry ([.ref b]) (n := 9) (Nat.le_of_ble_eq_true rfl)
  rw [lg_entry_eq]
  generalize (lg_sl ([.ref b]) ++ List.replicate (9 - (lg_sl ([.ref b])).length) Slot.unset).toArray = ls at hl0 ⊢
  have C : hp_Cx G (p, l, e, room_1, s.setDrawn s.drawn, m, #[Value.ref b], below, meth, c, lw_Z below #[Value.ref b] s) (ML_law (p, l, e, room_1, s.setDrawn s.drawn, m, #[Value.ref b], below, meth, c, lw_Z below #[Value.ref b] s)) := ⟨hx, hb, hml, hown, fun w hw => hts w (List.mem_filter.mp hw).1, hK, hF, Nat.le_of_eq hA, hlocks, hr, rfl, hl⟩
  have hlo : hp_lo ls 9 [some (.ref b), none, none, none, none, none, none, none, none] := by
    refine ⟨hl0.1, hl0.2.1, fun i v hi => ?_⟩
    match i, hi with
    | 0, hi =>
      cases hi
      exact hl0.2.2 (0, .ref b) (by simp [lv_args, Value.category])
    | 1, hi => cases hi
    | 2, hi => cases hi
    | 3, hi => cases hi
    | 4, hi => cases hi
    | 5, hi => cases hi
    | 6, hi => cases hi
    | 7, hi => cases hi
    | 8, hi => cases hi
    | i + 9, hi => cases hi
  exact law_body C hl (fun d nn h1 h2 => ⟨show d + 1 ≤ 2048 by omega, show 8 + (nn + 11) + 64 * d ≤ 94400 by omega⟩) (hA ▸ hbl) (Nat.le_of_eq hA) hL hKc hsc (law_end hd0 C hA) (bc := 603072) (bs := 7170153) (by decide) (by decide) s.heap [] 0 0 ls hR va_S.rf hlo (by decide) (by decide)

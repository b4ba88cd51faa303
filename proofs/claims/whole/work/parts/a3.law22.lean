/-! ===== THE LAW: the classes at the start ===== -/
theorem wi_RJ0 : ∀ w ∈ u_ws RJ0 TJ0 4, w ∈ lw_tbl := by decide +kernel
theorem wi_RJ4 : ∀ w ∈ u_ws RJ4 TJ4 4, w ∈ lw_tbl := by decide +kernel
theorem wi_RJx00060 : ∀ w ∈ u_ws RJx00060 TJx00060 6, w ∈ lw_tbl := by decide +kernel
theorem wi_RJx7c733 : ∀ w ∈ u_ws RJx7c733 TJx7c733 6, w ∈ lw_tbl := by decide +kernel
theorem wi_RX1 : ∀ w ∈ u_ws RX1 TX1 4, w ∈ lw_tbl := by decide +kernel
theorem wi_RX3 : ∀ w ∈ u_ws RX3 TX3 3, w ∈ lw_tbl := by decide +kernel
theorem wi_RX4 : ∀ w ∈ u_ws RX4 TX4 18, w ∈ lw_tbl := by decide +kernel
theorem wi_RX5 : ∀ w ∈ u_ws RX5 TX5 5, w ∈ lw_tbl := by decide +kernel
theorem wi_RX6 : ∀ w ∈ u_ws RX6 TX6 9, w ∈ lw_tbl := by decide +kernel
theorem wi_RX7 : ∀ w ∈ u_ws RX7 TX7 12, w ∈ lw_tbl := by decide +kernel
theorem wi_RX8 : ∀ w ∈ u_ws RX8 TX8 24, w ∈ lw_tbl := by decide +kernel
theorem cl_known {s : State} {args : Array Value} (hts : ∀ w ∈ lw_tbl, w.before args s = true) : ∃ D : va_G, ∀ (c : Nat) (q : vw_C), vwCl[c]? = some q → u_Kn s q.1 q.2.1 q.2.2 (D.1 c) (D.2 c) := by
  obtain ⟨c0, i0, k0⟩ := u_known (C := RJ0) (T := TJ0) (N := 4) (n := 4) hts wi_RJ0 (hts _ wd4_37)
  obtain ⟨c1, i1, k1⟩ := u_known (C := RJ4) (T := TJ4) (N := 4) (n := 4) hts wi_RJ4 (hts _ wd1_225)
  obtain ⟨c2, i2, k2⟩ := u_known (C := RJx00060) (T := TJx00060) (N := 6) (n := 6) hts wi_RJx00060 (hts _ wd4_22)
  obtain ⟨c3, i3, k3⟩ := u_known (C := RJx7c733) (T := TJx7c733) (N := 6) (n := 6) hts wi_RJx7c733 (hts _ wd5_52)
  obtain ⟨c4, i4, k4⟩ := u_known (C := RX1) (T := TX1) (N := 4) (n := 4) hts wi_RX1 (hts _ wd1_204)
  obtain ⟨c5, i5, k5⟩ := u_known (C := RX3) (T := TX3) (N := 3) (n := 3) hts wi_RX3 (hts _ wd1_126)
  obtain ⟨c6, i6, k6⟩ := u_known (C := RX4) (T := TX4) (N := 18) (n := 18) hts wi_RX4 (hts _ wd1_41)
  obtain ⟨c7, i7, k7⟩ := u_known (C := RX5) (T := TX5) (N := 5) (n := 5) hts wi_RX5 (hts _ wd1_146)
  obtain ⟨c8, i8, k8⟩ := u_known (C := RX6) (T := TX6) (N := 9) (n := 9) hts wi_RX6 (hts _ wd1_168)
  obtain ⟨c9, i9, k9⟩ := u_known (C := RX7) (T := TX7) (N := 12) (n := 12) hts wi_RX7 (hts _ wd1_33)
  obtain ⟨c10, i10, k10⟩ := u_known (C := RX8) (T := TX8) (N := 24) (n := 24) hts wi_RX8 (hts _ wd6_232)
  refine ⟨(fun k => match k with | 0 => c0 | 1 => c1 | 2 => c2 | 3 => c3 | 4 => c4 | 5 => c5 | 6 => c6 | 7 => c7 | 8 => c8 | 9 => c9 | _ => c10, fun k => match k with | 0 => i0 | 1 => i1 | 2 => i2 | 3 => i3 | 4 => i4 | 5 => i5 | 6 => i6 | 7 => i7 | 8 => i8 | 9 => i9 | _ => i10), fun c q hq => ?_⟩
  match c, hq with
  | 0, hq => cases hq; exact k0
  | 1, hq => cases hq; exact k1
  | 2, hq => cases hq; exact k2
  | 3, hq => cases hq; exact k3
  | 4, hq => cases hq; exact k4
  | 5, hq => cases hq; exact k5
  | 6, hq => cases hq; exact k6
  | 7, hq => cases hq; exact k7
  | 8, hq => cases hq; exact k8
  | 9, hq => cases hq; exact k9
  | 10, hq => cases hq; exact k10
  | c + 11, hq => cases hq

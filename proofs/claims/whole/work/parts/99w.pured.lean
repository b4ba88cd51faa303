/-! ===== PURE: the least margins by sets ===== -/
def td_md (s d c : Nat) : Bool := decide (s &&& d = s → (¬ (d ^^^ s) / 2 ^ c % 2 = 0 ↔ ¬ d / 2 ^ c % 2 = 0 ∧ s / 2 ^ c % 2 = 0))
theorem tb_md0 : ∀ s, s < 64 → ∀ d, d < 64 → ∀ c, c < 6 → td_md s d c = true := by decide +kernel
def td_me (s d c : Nat) : Bool := decide (s &&& d = s → ¬ d / 2 ^ c % 2 = 0 → s / 2 ^ c % 2 = 0 → (s ^^^ 2 ^ c) &&& d = s ^^^ 2 ^ c ∧ ¬ (s ^^^ 2 ^ c) / 2 ^ c % 2 = 0 ∧ (s ^^^ 2 ^ c) ^^^ 2 ^ c = s)
theorem tb_me0 : ∀ s, s < 64 → ∀ d, d < 64 → ∀ c, c < 6 → td_me s d c = true := by decide +kernel
def td_mf (s d c : Nat) : Bool := decide (s &&& d = s → ¬ s / 2 ^ c % 2 = 0 → ¬ d / 2 ^ c % 2 = 0 ∧ (s ^^^ 2 ^ c) / 2 ^ c % 2 = 0 ∧ (s ^^^ 2 ^ c) ^^^ 2 ^ c = s)
theorem tb_mf0 : ∀ s, s < 64 → ∀ d, d < 64 → ∀ c, c < 6 → td_mf s d c = true := by decide +kernel
theorem tb_md (s : Nat) (hs : s < 64) (d : Nat) (hd : d < 64) (h : s &&& d = s) (c : Nat) (hc : c < 6) : (¬ (d ^^^ s) / 2 ^ c % 2 = 0 ↔ ¬ d / 2 ^ c % 2 = 0 ∧ s / 2 ^ c % 2 = 0) := of_decide_eq_true (tb_md0 s hs d hd c hc) h
theorem tb_me (s : Nat) (hs : s < 64) (d : Nat) (hd : d < 64) (h : s &&& d = s) (c : Nat) (hc : c < 6) : ¬ d / 2 ^ c % 2 = 0 → s / 2 ^ c % 2 = 0 → (s ^^^ 2 ^ c) &&& d = s ^^^ 2 ^ c ∧ ¬ (s ^^^ 2 ^ c) / 2 ^ c % 2 = 0 ∧ (s ^^^ 2 ^ c) ^^^ 2 ^ c = s := of_decide_eq_true (tb_me0 s hs d hd c hc) h
theorem tb_mf (s : Nat) (hs : s < 64) (d : Nat) (hd : d < 64) (h : s &&& d = s) (c : Nat) (hc : c < 6) : ¬ s / 2 ^ c % 2 = 0 → ¬ d / 2 ^ c % 2 = 0 ∧ (s ^^^ 2 ^ c) / 2 ^ c % 2 = 0 ∧ (s ^^^ 2 ^ c) ^^^ 2 ^ c = s := of_decide_eq_true (tb_mf0 s hs d hd c hc) h
theorem bc_z : ∀ s, s < 64 → tk_bc s = 0 → s = 0 := by decide +kernel
theorem i_x6 {a c : Nat} (ha : a < 64) (hc : c < 6) : a ^^^ 2 ^ c < 64 := Nat.xor_lt_two_pow (n := 6) ha (Nat.pow_lt_pow_right (by decide) hc)
/-- the sum of a trader's margins, as a number -/
def rowS (M : mk_T) (af : Nat → Nat → Int32) (t n : Nat) : Int := sI (fun k => iab (af t k).toInt * (mk_ar M 2 k).toInt) n
theorem s1_i {M : mk_T} (H : Ic M) {af : Nat → Nat → Int32} (haf : ∀ t c, -800 ≤ (af t c).toInt ∧ (af t c).toInt ≤ 800) {t : Nat} {x : Int32} {m : Int} (hx : 0 ≤ x.toInt ∧ x.toInt ≤ m) (hm : m ≤ 1000000) : ∀ c, c ≤ mk_hz M → (tk_s1 af (mk_ar M 2) t x c).toInt = x.toInt + rowS M af t c
  | 0, _ => (Int.add_zero _).symm
  | c + 1, hc => by
    have ih := s1_i H haf (t := t) hx hm c (by omega)
    have hb0 := s1_bd H haf (t := t) hx hm c (by omega)
    have hr := rg_bd H (c := c) (by omega)
    have ha := haf t c
    have h4 := H.1.1
    have eb := i_abs (a := af t c) (by omega)
    have ei : (hp_abs (af t c)).toInt = iab (af t c).toInt := eb
    have hb : 0 ≤ (hp_abs (af t c)).toInt ∧ (hp_abs (af t c)).toInt ≤ 800 := by
      rw [eb]
      split <;> omega
    have hm2 := ml_bd hb.1 hb.2 hr.1 hr.2
    have em := i_mul (a := hp_abs (af t c)) (b := mk_ar M 2 c) (m := 16000) (by omega) (by decide)
    show (tk_s1 af (mk_ar M 2) t x c + hp_abs (af t c) * mk_ar M 2 c).toInt = x.toInt + (rowS M af t c + iab (af t c).toInt * (mk_ar M 2 c).toInt)
    rw [i_add (m := m + 16000 * (c : Int)) (n := 16000) (by omega) (by omega) (by omega), em, ih, ei]
    omega
theorem sm_i {M : mk_T} (H : Ic M) {sd : Nat} (hsd : sd < 64) {af : Nat → Nat → Int32} (haf : ∀ t c, -800 ≤ (af t c).toInt ∧ (af t c).toInt ≤ 800) : ∀ c, c ≤ 6 → (tk_sm sd af (mk_ar M 2) (mk_hz M) c).toInt = sI (fun t => if sd / 2 ^ t % 2 = 0 then 0 else rowS M af t (mk_hz M)) c
  | 0, _ => by
    show (nI 0).toInt = 0
    decide
  | c + 1, hc => by
    have ih := sm_i H hsd haf c (by omega)
    have hb := sm_bd H (sd := sd) haf c (by omega)
    have ht := tb_i sd hsd c (by omega)
    unfold tk_sm sI
    by_cases z : sd / 2 ^ c % 2 = 0
    · rw [if_pos (ht.mpr z), if_pos z, ih, Int.add_zero]
    · rw [if_neg (fun y => z (ht.mp y)), if_neg z, s1_i H haf hb (by omega) _ (Nat.le_refl _), ih]
/-- what the margins grow by when t takes the position on h -/
def grw (M : mk_T) (d t h : Nat) : Int := (iab (tk_ag M d t h + mk_po M (nI d) (nI h)).toInt - iab (tk_ag M d t h).toInt) * (mk_ar M 2 h).toInt
theorem grw_bd {M : mk_T} (H : Ic M) (d t : Nat) {h : Nat} (hh : h < mk_hz M) : -16000 ≤ grw M d t h ∧ grw M d t h ≤ 16000 := by
  have h1 := ag_bd H d t h
  have h2 := po_bd H (nI d) (nI h)
  have hr := rg_bd H hh
  have e := i_add (a := tk_ag M d t h) (b := mk_po M (nI d) (nI h)) (m := 400) (n := 400) h1 h2 (by decide)
  have hx : -800 ≤ iab (tk_ag M d t h + mk_po M (nI d) (nI h)).toInt - iab (tk_ag M d t h).toInt ∧ iab (tk_ag M d t h + mk_po M (nI d) (nI h)).toInt - iab (tk_ag M d t h).toInt ≤ 800 := by
    rw [e]
    unfold iab
    split <;> split <;> omega
  unfold grw
  generalize iab (tk_ag M d t h + mk_po M (nI d) (nI h)).toInt - iab (tk_ag M d t h).toInt = a at hx
  by_cases z : 0 ≤ a
  · have := ml_bd z hx.2 hr.1 hr.2
    omega
  · have := ml_bd (a := -a) (m := 800) (by omega) (by omega) hr.1 hr.2
    rw [Int.neg_mul] at this
    omega
/-- the sum when the positions below h are given away by D -/
def sD (M : mk_T) (d h : Nat) (D : Nat → Nat) : Int := (tk_sm (tk_sd M d) (afD M d h D) (mk_ar M 2) (mk_hz M) (mk_tr M)).toInt
theorem sD_z {M : mk_T} {d h : Nat} {D : Nat → Nat} {x : Nat} (z : zp M d h) : sD M d (h + 1) (va_up D h x) = sD M d h D := by
  unfold sD
  rw [afD_z z]
theorem sD_s {M : mk_T} (H : Ic M) {d h : Nat} {D : Nat → Nat} {c : Nat} (hh : h < mk_hz M) (z : ¬ zp M d h) (hc : c < mk_tr M) (hb : ¬ tk_sd M d / 2 ^ c % 2 = 0) : sD M d (h + 1) (va_up D h c) = sD M d h D + grw M d c h := by
  have h6 := H.1.2.1
  have hsd := tk_sd_lt (d := d) h6
  unfold sD
  rw [sm_i H hsd (afD_bd H d (h + 1) (va_up D h c)) _ h6, sm_i H hsd (afD_bd H d h D) _ h6]
  have af0 : afD M d h D c h = tk_ag M d c h := if_neg (fun y => Nat.lt_irrefl _ y.1)
  have af1 : afD M d (h + 1) (va_up D h c) c h = tk_ag M d c h + mk_po M (nI d) (nI h) := if_pos ⟨Nat.lt_succ_self _, z, if_pos rfl⟩
  have same : ∀ t k, (t ≠ c ∨ k ≠ h) → afD M d (h + 1) (va_up D h c) t k = afD M d h D t k := fun t k hk => by
    rw [← afD_s z]
    show va_up (afD M d h D) c (upd (afD M d h D c) h _) t k = _
    unfold va_up
    by_cases q : t = c
    · subst q
      rw [if_pos rfl, pk_un (hk.resolve_left (fun y => y rfl))]
    · rw [if_neg q]
  have row : rowS M (afD M d (h + 1) (va_up D h c)) c (mk_hz M) = rowS M (afD M d h D) c (mk_hz M) + grw M d c h := by
    unfold rowS
    rw [sI_up (f := fun k => iab (afD M d h D c k).toInt * (mk_ar M 2 k).toInt) (t := h) (fun k hk => by rw [same c k (Or.inr hk)]) _ hh]
    rw [af0, af1]
    unfold grw
    rw [Int.sub_mul]
    omega
  rw [sI_up (f := fun t => if tk_sd M d / 2 ^ t % 2 = 0 then 0 else rowS M (afD M d h D) t (mk_hz M)) (t := c) (fun t ht => by
    rw [show rowS M (afD M d (h + 1) (va_up D h c)) t (mk_hz M) = rowS M (afD M d h D) t (mk_hz M) from sI_c _ (fun k _ => by rw [same t k (Or.inl ht)])]) _ hc]
  rw [if_neg hb, if_neg hb, row]
  omega
/-! what can be reached -/
def Rc (M : mk_T) (d k h free : Nat) (acc v : Int) : Prop := match k with
  | 0 => v = acc
  | k + 1 => (zp M d h → Rc M d k (h + 1) free acc v) ∧ (¬ zp M d h → ∃ c, c < mk_tr M ∧ ¬ free / 2 ^ c % 2 = 0 ∧ Rc M d k (h + 1) (free ^^^ 2 ^ c) (acc + grw M d c h) v)
theorem sr_rc {M : mk_T} (H : Ic M) {d : Nat} : ∀ k h free D (b : Int32 × (Nat → Nat)), h + k = mk_hz M → free < 64 → (∀ c, c < 6 → ¬ free / 2 ^ c % 2 = 0 → ¬ tk_sd M d / 2 ^ c % 2 = 0) → (sr (sF M d) M d k h free D b).1.toInt ≤ b.1.toInt ∧ (∀ v, Rc M d k h free (sD M d h D) v → (sr (sF M d) M d k h free D b).1.toInt ≤ v) ∧ ((sr (sF M d) M d k h free D b).1.toInt = b.1.toInt ∨ Rc M d k h free (sD M d h D) (sr (sF M d) M d k h free D b).1.toInt)
  | 0, h, free, D, b, hh, hf, hs => by
    have e : h = mk_hz M := by omega
    subst e
    have es : (sS M d D).toInt = sD M d (mk_hz M) D := rfl
    show (if sS M d D < b.1 then (sS M d D, D) else b).1.toInt ≤ b.1.toInt ∧ (∀ v, v = sD M d (mk_hz M) D → (if sS M d D < b.1 then (sS M d D, D) else b).1.toInt ≤ v) ∧ ((if sS M d D < b.1 then (sS M d D, D) else b).1.toInt = b.1.toInt ∨ (if sS M d D < b.1 then (sS M d D, D) else b).1.toInt = sD M d (mk_hz M) D)
    by_cases z : sS M d D < b.1
    · have z2 := Int32.lt_iff_toInt_lt.mp z
      rw [if_pos z]
      exact ⟨Int.le_of_lt z2, fun v hv => by rw [hv, ← es]; exact Int.le_refl _, Or.inr es⟩
    · have z2 := Int32.le_iff_toInt_le.mp (Int32.not_lt.mp z)
      rw [if_neg z]
      exact ⟨Int.le_refl _, fun v hv => by rw [hv, ← es]; exact z2, Or.inl rfl⟩
  | k + 1, h, free, D, b, hh, hf, hs => by
    have h6 := H.1.2.1
    have hh2 : h < mk_hz M := by omega
    unfold sr
    by_cases z : zp M d h
    · rw [if_pos z]
      obtain ⟨a1, a2, a3⟩ := sr_rc H k (h + 1) free (va_up D h 0) b (by omega) hf hs
      rw [sD_z z] at a2 a3
      exact ⟨a1, fun v hv => a2 v (hv.1 z), a3.imp id (fun y => ⟨fun _ => y, fun u => absurd z u⟩)⟩
    · rw [if_neg z]
      have inv : ∀ n, n ≤ mk_tr M → (fun x : Int32 × (Nat → Nat) => x.1.toInt ≤ b.1.toInt ∧ (∀ c v, c < n → ¬ free / 2 ^ c % 2 = 0 → Rc M d k (h + 1) (free ^^^ 2 ^ c) (sD M d h D + grw M d c h) v → x.1.toInt ≤ v) ∧ (x.1.toInt = b.1.toInt ∨ ∃ c, c < n ∧ ¬ free / 2 ^ c % 2 = 0 ∧ Rc M d k (h + 1) (free ^^^ 2 ^ c) (sD M d h D + grw M d c h) x.1.toInt)) (tk_lp (fun c b => if free / 2 ^ c % 2 = 0 then b else sr (sF M d) M d k (h + 1) (free ^^^ 2 ^ c) (va_up D h c) b) n b) := by
        intro n
        induction n with
        | zero => exact fun _ => ⟨Int.le_refl _, fun c v hc => absurd hc (Nat.not_lt_zero _), Or.inl rfl⟩
        | succ n ih =>
          intro hn
          obtain ⟨i1, i2, i3⟩ := ih (by omega)
          show (fun x : Int32 × (Nat → Nat) => x.1.toInt ≤ b.1.toInt ∧ (∀ c v, c < n + 1 → ¬ free / 2 ^ c % 2 = 0 → Rc M d k (h + 1) (free ^^^ 2 ^ c) (sD M d h D + grw M d c h) v → x.1.toInt ≤ v) ∧ (x.1.toInt = b.1.toInt ∨ ∃ c, c < n + 1 ∧ ¬ free / 2 ^ c % 2 = 0 ∧ Rc M d k (h + 1) (free ^^^ 2 ^ c) (sD M d h D + grw M d c h) x.1.toInt)) (if free / 2 ^ n % 2 = 0 then _ else _)
          by_cases y : free / 2 ^ n % 2 = 0
          · rw [if_pos y]
            refine ⟨i1, fun c v hc hb hr => ?_, i3.imp id (fun ⟨c, c1, c2, c3⟩ => ⟨c, by omega, c2, c3⟩)⟩
            have q : c ≠ n := fun u => hb (u ▸ y)
            exact i2 c v (by omega) hb hr
          · rw [if_neg y]
            obtain ⟨a1, a2, a3⟩ := sr_rc H k (h + 1) (free ^^^ 2 ^ n) (va_up D h n) (tk_lp (fun c b => if free / 2 ^ c % 2 = 0 then b else sr (sF M d) M d k (h + 1) (free ^^^ 2 ^ c) (va_up D h c) b) n b) (by omega) (i_x6 hf (by omega)) (fun c hc hb => hs c hc (fun u => hb ((tb_xo free hf n (by omega) y c hc).mpr (Or.inl u))))
            rw [sD_s H hh2 z (by omega) (hs n (by omega) y)] at a2 a3
            refine ⟨Int.le_trans a1 i1, fun c v hc hb hr => ?_, ?_⟩
            · by_cases q : c = n
              · subst q
                exact a2 v hr
              · exact Int.le_trans a1 (i2 c v (by omega) hb hr)
            · rcases a3 with a3 | a3
              · rw [a3]
                exact i3.imp id (fun ⟨c, c1, c2, c3⟩ => ⟨c, by omega, c2, c3⟩)
              · exact Or.inr ⟨n, Nat.lt_succ_self _, y, a3⟩
      obtain ⟨a1, a2, a3⟩ := inv _ (Nat.le_refl _)
      refine ⟨a1, fun v hv => ?_, a3.imp id (fun y => ⟨fun u => absurd u z, fun _ => y⟩)⟩
      obtain ⟨c, c1, c2, c3⟩ := hv.2 z
      exact a2 c v c1 c2 c3
def Rh (M : mk_T) (d : Nat) (base : Int) (h s : Nat) (v : Int) : Prop := match h with
  | 0 => s = 0 ∧ v = base
  | h + 1 => (zp M d h → Rh M d base h s v) ∧ (¬ zp M d h → ∃ t, t < mk_tr M ∧ ¬ s / 2 ^ t % 2 = 0 ∧ Rh M d base h (s ^^^ 2 ^ t) (v - grw M d t h))
theorem Rh_z {M : mk_T} {d : Nat} {base : Int} {h s : Nat} {v : Int} (z : zp M d h) : Rh M d base (h + 1) s v ↔ Rh M d base h s v := ⟨fun a => a.1 z, fun a => ⟨fun _ => a, fun u => absurd z u⟩⟩
theorem Rh_s {M : mk_T} {d : Nat} {base : Int} {h s : Nat} {v : Int} (z : ¬ zp M d h) : Rh M d base (h + 1) s v ↔ ∃ t, t < mk_tr M ∧ ¬ s / 2 ^ t % 2 = 0 ∧ Rh M d base h (s ^^^ 2 ^ t) (v - grw M d t h) := ⟨fun a => a.2 z, fun a => ⟨fun u => absurd u z, fun _ => a⟩⟩
theorem Rh_p {M : mk_T} {d : Nat} {base : Int} {s : Nat} {v : Int} : ∀ k h, pl M d h = pl M d (h + k) → (Rh M d base (h + k) s v ↔ Rh M d base h s v)
  | 0, h, _ => Iff.rfl
  | k + 1, h, e => by
    have m1 := pl_le (M := M) (d := d) k h
    have m2 := pl_le (M := M) (d := d) 1 (h + k)
    have e1 : pl M d (h + k + 1) = pl M d h := e.symm
    have z : zp M d (h + k) := Decidable.byContradiction fun y => by
      have := pl_1 y
      omega
    rw [← Nat.add_assoc, Rh_z z]
    exact Rh_p k h (by omega)
theorem Rh_q {M : mk_T} {d : Nat} {base : Int} {s : Nat} {v : Int} {h h' : Nat} (e : pl M d h = pl M d h') : Rh M d base h s v ↔ Rh M d base h' s v := by
  by_cases z : h ≤ h'
  · have := Rh_p (M := M) (d := d) (base := base) (s := s) (v := v) (h' - h) h (by rw [show h + (h' - h) = h' by omega]; exact e)
    rw [show h + (h' - h) = h' by omega] at this
    exact this.symm
  · have := Rh_p (M := M) (d := d) (base := base) (s := s) (v := v) (h - h') h' (by rw [show h' + (h - h') = h by omega]; exact e.symm)
    rw [show h' + (h - h') = h by omega] at this
    exact this
theorem Rh_b {M : mk_T} (H : Ic M) {d : Nat} {base : Int} : ∀ h, h ≤ mk_hz M → ∀ s v, s < 64 → Rh M d base h s v → tk_bc s = pl M d h ∧ base - 16000 * (h : Int) ≤ v ∧ v ≤ base + 16000 * (h : Int)
  | 0, _, s, v, hs, hr => by
    obtain ⟨a, b⟩ := hr
    subst a b
    exact ⟨rfl, by omega, by omega⟩
  | h + 1, hh, s, v, hs, hr => by
    have h6 := H.1.2.1
    by_cases z : zp M d h
    · obtain ⟨a, b, c⟩ := Rh_b H h (by omega) s v hs (hr.1 z)
      rw [pl_0 z]
      exact ⟨a, by omega, by omega⟩
    · obtain ⟨t, t1, t2, t3⟩ := hr.2 z
      obtain ⟨a, b, c⟩ := Rh_b H h (by omega) _ _ (i_x6 hs (by omega)) t3
      have hg := grw_bd H d t (h := h) (by omega)
      have tx := (tb_x s hs t (by omega) t2).2
      rw [pl_1 z]
      exact ⟨by omega, by omega, by omega⟩
/-- the two ways to reach a sum meet -/
theorem mid {M : mk_T} (H : Ic M) {d : Nat} {base v : Int} (ht6 : mk_tr M ≤ 6) : ∀ h, h ≤ mk_hz M → ((∃ s acc, s < 64 ∧ s &&& tk_sd M d = s ∧ Rh M d base h s acc ∧ Rc M d (mk_hz M - h) h (tk_sd M d ^^^ s) acc v) ↔ Rc M d (mk_hz M) 0 (tk_sd M d) base v)
  | 0, _ => by
    constructor
    · rintro ⟨s, acc, h1, h2, ⟨h3, h4⟩, h5⟩
      subst h3 h4
      rw [Nat.xor_zero] at h5
      exact h5
    · intro h5
      refine ⟨0, base, by decide, Nat.zero_and _, ⟨rfl, rfl⟩, ?_⟩
      rw [Nat.xor_zero]
      exact h5
  | h + 1, hh => by
    have hsd := tk_sd_lt (d := d) ht6
    rw [← mid H ht6 h (by omega)]
    have e : mk_hz M - h = (mk_hz M - (h + 1)) + 1 := by omega
    rw [e]
    by_cases z : zp M d h
    · constructor
      · rintro ⟨s, acc, h1, h2, h3, h4⟩
        exact ⟨s, acc, h1, h2, (Rh_z z).mp h3, ⟨fun _ => h4, fun u => absurd z u⟩⟩
      · rintro ⟨s, acc, h1, h2, h3, h4⟩
        exact ⟨s, acc, h1, h2, (Rh_z z).mpr h3, h4.1 z⟩
    · constructor
      · rintro ⟨s, acc, h1, h2, h3, h4⟩
        obtain ⟨t, t1, t2, t3⟩ := (Rh_s z).mp h3
        obtain ⟨g1, g2, g3⟩ := tb_mf s h1 _ hsd h2 t (by omega) t2
        have g4 := tb_sx s h1 t (by omega) t2 _ hsd h2
        refine ⟨s ^^^ 2 ^ t, acc - grw M d t h, i_x6 h1 (by omega), g4, t3, ⟨fun u => absurd u z, fun _ => ⟨t, t1, ?_, ?_⟩⟩⟩
        · exact (tb_md _ (i_x6 h1 (by omega)) _ hsd g4 t (by omega)).mpr ⟨g1, g2⟩
        · rw [Nat.xor_assoc, g3, show acc - grw M d t h + grw M d t h = acc by omega]
          exact h4
      · rintro ⟨s, acc, h1, h2, h3, h4⟩
        obtain ⟨c, c1, c2, c3⟩ := h4.2 z
        obtain ⟨g1, g2⟩ := (tb_md s h1 _ hsd h2 c (by omega)).mp c2
        obtain ⟨k1, k2, k3⟩ := tb_me s h1 _ hsd h2 c (by omega) g1 g2
        refine ⟨s ^^^ 2 ^ c, acc + grw M d c h, i_x6 h1 (by omega), k1, (Rh_s z).mpr ⟨c, c1, k2, ?_⟩, ?_⟩
        · rw [k3, show acc + grw M d c h - grw M d c h = acc by omega]
          exact h3
        · rw [← Nat.xor_assoc]
          exact c3
/-! the class's sums by sets -/
def gdS (M : mk_T) (d : Nat) (s : Nat) (x : Int32) : Prop := ∀ h, h ≤ mk_hz M → pl M d h = tk_bc s → (∀ v, Rh M d (sD M d 0 (fun _ => 0)) h s v → x.toInt ≤ v) ∧ Rh M d (sD M d 0 (fun _ => 0)) h s x.toInt
theorem base_bd {M : mk_T} (H : Ic M) (d : Nat) : 0 ≤ sD M d 0 (fun _ => 0) ∧ sD M d 0 (fun _ => 0) ≤ 384000 := by
  have h := sm_bd H (sd := tk_sd M d) (afD_bd H d 0 (fun _ => 0)) (mk_tr M) H.1.2.1
  have h6 := H.1.2.1
  unfold sD
  omega
theorem wl_i_ {M : mk_T} (H : Ic M) {d hh s : Nat} {lf : Nat → Int32} (hhz : hh < mk_hz M) (hs : s < 64) (hlf : ∀ t, t < mk_tr M → ¬ s / 2 ^ t % 2 = 0 → -64000 ≤ (lf (s ^^^ 2 ^ t)).toInt ∧ (lf (s ^^^ 2 ^ t)).toInt ≤ 448000) : ∀ c, c ≤ mk_tr M → (tk_wl (tk_ag M d) (mk_ar M 2) hh (mk_po M (nI d) (nI hh)) lf s c).toInt ≤ 1000000000 ∧ (∀ t, t < c → ¬ s / 2 ^ t % 2 = 0 → (tk_wl (tk_ag M d) (mk_ar M 2) hh (mk_po M (nI d) (nI hh)) lf s c).toInt ≤ (lf (s ^^^ 2 ^ t)).toInt + grw M d t hh) ∧ ((tk_wl (tk_ag M d) (mk_ar M 2) hh (mk_po M (nI d) (nI hh)) lf s c).toInt = 1000000000 ∨ ∃ t, t < c ∧ ¬ s / 2 ^ t % 2 = 0 ∧ (tk_wl (tk_ag M d) (mk_ar M 2) hh (mk_po M (nI d) (nI hh)) lf s c).toInt = (lf (s ^^^ 2 ^ t)).toInt + grw M d t hh)
  | 0, _ => ⟨by
      show (1000000000 : Int32).toInt ≤ 1000000000
      decide, fun t ht => absurd ht (Nat.not_lt_zero _), Or.inl (by
      show (1000000000 : Int32).toInt = 1000000000
      decide)⟩
  | c + 1, hc => by
    obtain ⟨i1, i2, i3⟩ := wl_i_ H hhz hs hlf (d := d) c (by omega)
    have h6 := H.1.2.1
    have hb := tb_i s hs c (by omega)
    unfold tk_wl
    by_cases z : s / 2 ^ c % 2 = 0
    · rw [if_pos (hb.mpr z)]
      refine ⟨i1, fun t ht hbt => ?_, i3.imp id (fun ⟨t, a, b, e⟩ => ⟨t, by omega, b, e⟩)⟩
      have q : t ≠ c := fun u => hbt (u ▸ z)
      exact i2 t (by omega) hbt
    · rw [if_neg (fun y => z (hb.mp y))]
      have hl := hlf c (by omega) z
      have h1 := ag_bd H d c hh
      have h2 := po_bd H (nI d) (nI hh)
      have hr := rg_bd H hhz
      have e0 := i_add (a := tk_ag M d c hh) (b := mk_po M (nI d) (nI hh)) (m := 400) (n := 400) h1 h2 (by decide)
      have a1 : (hp_abs (tk_ag M d c hh + mk_po M (nI d) (nI hh))).toInt = iab (tk_ag M d c hh + mk_po M (nI d) (nI hh)).toInt := i_abs (by omega)
      have a2 : (hp_abs (tk_ag M d c hh)).toInt = iab (tk_ag M d c hh).toInt := i_abs (by omega)
      have b1 : 0 ≤ iab (tk_ag M d c hh + mk_po M (nI d) (nI hh)).toInt ∧ iab (tk_ag M d c hh + mk_po M (nI d) (nI hh)).toInt ≤ 800 := ⟨iab_0 _, by unfold iab; split <;> omega⟩
      have b2 : 0 ≤ iab (tk_ag M d c hh).toInt ∧ iab (tk_ag M d c hh).toInt ≤ 400 := ⟨iab_0 _, by unfold iab; split <;> omega⟩
      have a3 : (hp_abs (tk_ag M d c hh + mk_po M (nI d) (nI hh)) - hp_abs (tk_ag M d c hh)).toInt = iab (tk_ag M d c hh + mk_po M (nI d) (nI hh)).toInt - iab (tk_ag M d c hh).toInt := by
        rw [i_sub (m := 800) (n := 400) (by omega) (by omega) (by decide), a1, a2]
      have hg := grw_bd H d c hhz
      have a4 : ((hp_abs (tk_ag M d c hh + mk_po M (nI d) (nI hh)) - hp_abs (tk_ag M d c hh)) * mk_ar M 2 hh).toInt = grw M d c hh := by
        have e9 : (iab (tk_ag M d c hh + mk_po M (nI d) (nI hh)).toInt - iab (tk_ag M d c hh).toInt) * (mk_ar M 2 hh).toInt = grw M d c hh := rfl
        rw [i_mul (m := 16000) (by rw [a3, e9]; exact hg) (by decide), a3, e9]
      have a5 : (lf (s ^^^ 2 ^ c) + (hp_abs (tk_ag M d c hh + mk_po M (nI d) (nI hh)) - hp_abs (tk_ag M d c hh)) * mk_ar M 2 hh).toInt = (lf (s ^^^ 2 ^ c)).toInt + grw M d c hh := by
        rw [i_add (m := 448000) (n := 16000) (by omega) (by omega) (by decide), a4]
      by_cases y : lf (s ^^^ 2 ^ c) + (hp_abs (tk_ag M d c hh + mk_po M (nI d) (nI hh)) - hp_abs (tk_ag M d c hh)) * mk_ar M 2 hh < tk_wl (tk_ag M d) (mk_ar M 2) hh (mk_po M (nI d) (nI hh)) lf s c
      · have y2 := Int32.lt_iff_toInt_lt.mp y
        rw [if_pos y, a5]
        rw [a5] at y2
        refine ⟨by omega, fun t ht hbt => ?_, Or.inr ⟨c, Nat.lt_succ_self _, z, rfl⟩⟩
        by_cases q : t = c
        · subst q
          exact Int.le_refl _
        · have := i2 t (by omega) hbt
          omega
      · have y2 := Int32.le_iff_toInt_le.mp (Int32.not_lt.mp y)
        rw [a5] at y2
        rw [if_neg y]
        refine ⟨i1, fun t ht hbt => ?_, i3.imp id (fun ⟨t, a, b, e⟩ => ⟨t, by omega, b, e⟩)⟩
        by_cases q : t = c
        · subst q
          exact y2
        · exact i2 t (by omega) hbt
abbrev Sl (M : mk_T) (d c : Nat) (x : tk_B) : Prop := (∀ s, s < c → s &&& tk_sd M d = s → tk_bc s ≤ tk_nd M d → gdS M d s (x.2 s)) ∧ x.1.toInt ≤ 1000000000 ∧ (∀ s, s < c → s &&& tk_sd M d = s → tk_bc s = tk_nd M d → x.1.toInt ≤ (x.2 s).toInt) ∧ (x.1.toInt = 1000000000 ∨ ∃ s, s < c ∧ s &&& tk_sd M d = s ∧ tk_bc s = tk_nd M d ∧ x.1 = x.2 s)
theorem sl_gd {M : mk_T} (H : Ic M) {d : Nat} : ∀ c, c ≤ 64 → Sl M d c (tk_sl (tk_sd M d) (mk_tr M) (mk_hz M) (tk_nd M d) (mk_ar M 2) (tk_h0 M d) (tk_p0 M d) (tk_ag M d) c (1000000000, fun _ => 0))
  | 0, _ => ⟨fun s hs => absurd hs (Nat.not_lt_zero _), by
      show (1000000000 : Int32).toInt ≤ 1000000000
      decide, fun s hs => absurd hs (Nat.not_lt_zero _), Or.inl (by
      show (1000000000 : Int32).toInt = 1000000000
      decide)⟩
  | c + 1, hc => by
    obtain ⟨i1, i0, i2, i3⟩ := sl_gd H (d := d) c (by omega)
    have h6 := H.1.2.1
    have h4 := H.1.1
    have hsd := tk_sd_lt (d := d) h6
    have hbb := base_bd H d
    obtain ⟨x, hx⟩ : ∃ x, x = tk_sl (tk_sd M d) (mk_tr M) (mk_hz M) (tk_nd M d) (mk_ar M 2) (tk_h0 M d) (tk_p0 M d) (tk_ag M d) c (1000000000, fun _ => 0) := ⟨_, rfl⟩
    rw [← hx] at i0 i1 i2 i3
    show Sl M d (c + 1) (tk_ss (tk_sd M d) (mk_tr M) (mk_hz M) (tk_nd M d) (mk_ar M 2) (tk_h0 M d) (tk_p0 M d) (tk_ag M d) c (tk_sl (tk_sd M d) (mk_tr M) (mk_hz M) (tk_nd M d) (mk_ar M 2) (tk_h0 M d) (tk_p0 M d) (tk_ag M d) c (1000000000, fun _ => 0)))
    rw [← hx]
    have hsub := tb_sub c (by omega) _ hsd
    by_cases z : (nI c &&& (nI (tk_sd M d) ^^^ -1)) = 0 ∧ tk_bc c ≤ tk_nd M d
    · have zs := hsub.mp z.1
      -- the value for the set c
      have val : ∀ v : Int32, v = (if tk_bc c = 0 then tk_sm (tk_sd M d) (tk_ag M d) (mk_ar M 2) (mk_hz M) (mk_tr M) else tk_wl (tk_ag M d) (mk_ar M 2) (tk_h0 M d (tk_bc c - 1)).toNatClampNeg (tk_p0 M d (tk_bc c - 1)) x.2 c (mk_tr M)) → gdS M d c v := by
        intro v hv
        by_cases b0 : tk_bc c = 0
        · rw [if_pos b0] at hv
          have c0 := bc_z c (by omega) b0
          have ev : v.toInt = sD M d 0 (fun _ => 0) := by
            rw [hv]
            unfold sD
            rw [afD_0]
          intro h hh hp
          have eq : ∀ v, Rh M d (sD M d 0 (fun _ => 0)) h c v ↔ (c = 0 ∧ v = sD M d 0 (fun _ => 0)) := fun v => Rh_q (h' := 0) (show pl M d h = pl M d 0 from hp.trans b0)
          exact ⟨fun u hu => by rw [((eq u).mp hu).2, ev]; exact Int.le_refl _, (eq _).mpr ⟨c0, ev⟩⟩
        · rw [if_neg b0] at hv
          obtain ⟨hh, k1, k2, k3, k4⟩ := pz_inv (M := M) (d := d) (mk_hz M) (tk_bc c - 1) (show tk_bc c - 1 < tk_nd M d by omega)
          have e1 : (tk_h0 M d (tk_bc c - 1)).toNatClampNeg = hh := by
            show (nI ((tk_pz M d (mk_hz M)).getD (tk_bc c - 1) (0, 0)).1).toNatClampNeg = hh
            rw [k4]
            exact nI_clamp (by omega)
          have e2 : tk_p0 M d (tk_bc c - 1) = mk_po M (nI d) (nI hh) := by
            show ((tk_pz M d (mk_hz M)).getD (tk_bc c - 1) (0, 0)).2 = _
            rw [← k3, pz_at k2 _ k1]
          rw [e1, e2] at hv
          have sub : ∀ t, t < mk_tr M → ¬ c / 2 ^ t % 2 = 0 → gdS M d (c ^^^ 2 ^ t) (x.2 (c ^^^ 2 ^ t)) ∧ pl M d hh = tk_bc (c ^^^ 2 ^ t) := fun t ht hb => by
            have tx := tb_x c (by omega) t (by omega) hb
            exact ⟨i1 _ tx.1 (tb_sx c (by omega) t (by omega) hb _ hsd zs) (by omega), by omega⟩
          have hlf : ∀ t, t < mk_tr M → ¬ c / 2 ^ t % 2 = 0 → -64000 ≤ (x.2 (c ^^^ 2 ^ t)).toInt ∧ (x.2 (c ^^^ 2 ^ t)).toInt ≤ 448000 := fun t ht hb => by
            obtain ⟨g, p⟩ := sub t ht hb
            obtain ⟨-, r⟩ := g hh (by omega) p
            have := (Rh_b H hh (by omega) _ _ (i_x6 (by omega) (by omega)) r).2
            omega
          obtain ⟨w0, w1, w2⟩ := wl_i_ H (d := d) k1 (show c < 64 by omega) hlf (mk_tr M) (Nat.le_refl _)
          rw [← hv] at w0 w1 w2
          obtain ⟨t0, t1, t2⟩ := bc_1 c (by omega) (by omega)
          have t3 : t0 < mk_tr M := by
            have g := (tb_mf c (by omega) _ hsd zs t0 t1 t2).1
            have sb := so_bit (M := M) (d := d) h6 (mk_tr M) (Nat.le_refl _) t0 t1
            exact (Decidable.not_not.mp (fun k => g (sb.mpr k))).1
          have hgr := grw_bd H d t0 k1
          have hl0 := hlf t0 t3 t2
          have wt := w1 t0 t3 t2
          obtain ⟨tm, m1, m2, m3⟩ := w2.resolve_left (by omega)
          intro h hhz hp
          have eq : ∀ u, Rh M d (sD M d 0 (fun _ => 0)) h c u ↔ ∃ t, t < mk_tr M ∧ ¬ c / 2 ^ t % 2 = 0 ∧ Rh M d (sD M d 0 (fun _ => 0)) hh (c ^^^ 2 ^ t) (u - grw M d t hh) := fun u => by
            exact (Rh_q (h := h) (h' := hh + 1) (by rw [hp, pl_1 k2, k3]; exact (Nat.sub_add_cancel (Nat.pos_of_ne_zero b0)).symm)).trans (Rh_s k2)
          refine ⟨fun u hu => ?_, (eq _).mpr ⟨tm, m1, m2, ?_⟩⟩
          · obtain ⟨t, q1, q2, q3⟩ := (eq u).mp hu
            obtain ⟨g, p⟩ := sub t q1 q2
            have h1 := (g hh (by omega) p).1 _ q3
            have h2 := w1 t q1 q2
            omega
          · obtain ⟨g, p⟩ := sub tm m1 m2
            rw [m3, show (x.2 (c ^^^ 2 ^ tm)).toInt + grw M d tm hh - grw M d tm hh = (x.2 (c ^^^ 2 ^ tm)).toInt by omega]
            exact (g hh (by omega) p).2
      obtain ⟨v, hv⟩ : ∃ v, v = (if tk_bc c = 0 then tk_sm (tk_sd M d) (tk_ag M d) (mk_ar M 2) (mk_hz M) (mk_tr M) else tk_wl (tk_ag M d) (mk_ar M 2) (tk_h0 M d (tk_bc c - 1)).toNatClampNeg (tk_p0 M d (tk_bc c - 1)) x.2 c (mk_tr M)) := ⟨_, rfl⟩
      have gv := val v hv
      have es : tk_ss (tk_sd M d) (mk_tr M) (mk_hz M) (tk_nd M d) (mk_ar M 2) (tk_h0 M d) (tk_p0 M d) (tk_ag M d) c x = (if tk_bc c = tk_nd M d then (if v < x.1 then v else x.1) else x.1, upd x.2 c v) := by
        unfold tk_ss
        rw [if_pos z, ← hv]
      rw [es]
      refine ⟨fun s hs h1 h2 => ?_, ?_, fun s hs h1 h2 => ?_, ?_⟩
      · show gdS M d s (upd x.2 c v s)
        by_cases q : s = c
        · subst q
          rw [pk_us]
          exact gv
        · rw [pk_un q]
          exact i1 s (by omega) h1 h2
      · show (if tk_bc c = tk_nd M d then (if v < x.1 then v else x.1) else x.1 : Int32).toInt ≤ 1000000000
        split
        · split
          · rename_i y
            have := Int32.lt_iff_toInt_lt.mp y
            omega
          · exact i0
        · exact i0
      · show (if tk_bc c = tk_nd M d then (if v < x.1 then v else x.1) else x.1 : Int32).toInt ≤ (upd x.2 c v s).toInt
        by_cases q : s = c
        · subst q
          rw [pk_us, if_pos h2]
          split
          · exact Int.le_refl _
          · rename_i y
            exact Int32.le_iff_toInt_le.mp (Int32.not_lt.mp y)
        · have hi := i2 s (by omega) h1 h2
          rw [pk_un q]
          split
          · split
            · rename_i y
              have := Int32.lt_iff_toInt_lt.mp y
              omega
            · exact hi
          · exact hi
      · show (if tk_bc c = tk_nd M d then (if v < x.1 then v else x.1) else x.1 : Int32).toInt = 1000000000 ∨ ∃ s, s < c + 1 ∧ s &&& tk_sd M d = s ∧ tk_bc s = tk_nd M d ∧ (if tk_bc c = tk_nd M d then (if v < x.1 then v else x.1) else x.1) = upd x.2 c v s
        by_cases y : tk_bc c = tk_nd M d
        · rw [if_pos y]
          by_cases u : v < x.1
          · rw [if_pos u]
            exact Or.inr ⟨c, Nat.lt_succ_self _, zs, y, pk_us.symm⟩
          · rw [if_neg u]
            refine i3.imp id (fun ⟨s, s1, s2, s3, s4⟩ => ⟨s, by omega, s2, s3, ?_⟩)
            rw [pk_un (by omega)]
            exact s4
        · rw [if_neg y]
          refine i3.imp id (fun ⟨s, s1, s2, s3, s4⟩ => ⟨s, by omega, s2, s3, ?_⟩)
          rw [pk_un (by omega)]
          exact s4
    · rw [tk_ss_n z]
      refine ⟨fun s hs h1 h2 => ?_, i0, fun s hs h1 h2 => ?_, i3.imp id (fun ⟨s, s1, s2, s3, s4⟩ => ⟨s, by omega, s2, s3, s4⟩)⟩
      · have q : s ≠ c := fun y => z ⟨hsub.mpr (y ▸ h1), y ▸ h2⟩
        exact i1 s (by omega) h1 h2
      · have q : s ≠ c := fun y => z ⟨hsub.mpr (y ▸ h1), by rw [← y]; omega⟩
        exact i2 s (by omega) h1 h2
theorem and_le_ (s d : Nat) (h : s &&& d = s) : s ≤ d := by
  have := Nat.and_le_right (n := s) (m := d)
  omega
/-- the least margins by sets are the least margins over ways -/
theorem rs_res {M : mk_T} (H : Ic M) {d : Nat} (hc : tk_can M d) : tk_rs M d = (tk_res M d).1 := by
  have h6 := H.1.2.1
  have h4 := H.1.1
  have hsd := tk_sd_lt (d := d) h6
  have hp := hp_p6 h6
  have hl := sB_lo H hc
  have hbb := base_bd H d
  have hlt : tk_sd M d < 2 ^ mk_tr M := tk_so_lt M d (mk_tr M)
  rw [(res_sB (d := d) h4 h6).1]
  obtain ⟨a1, a2, a3⟩ := sr_rc H (d := d) (mk_hz M) 0 (tk_sd M d) (fun _ => 0) (1000000000, fun _ => 0) (Nat.zero_add _) hsd (fun _ _ h => h)
  obtain ⟨i1, i0, i2, i3⟩ := sl_gd H (d := d) (2 ^ mk_tr M) hp
  have e1 : (1000000000 : Int32).toInt = 1000000000 := by decide
  have ml : (sB M d).1.toInt ≤ 384000 := hl
  have a3 := a3.resolve_left (fun y => by
    have y2 : (sB M d).1.toInt = (1000000000 : Int32).toInt := y
    rw [e1] at y2
    omega)
  -- the best way is reached by a set
  obtain ⟨s, acc, s1, s2, s3, s4⟩ := (mid H h6 (mk_hz M) (Nat.le_refl _)).mpr a3
  rw [Nat.sub_self] at s4
  have s4 : (sB M d).1.toInt = acc := s4
  have hbc := (Rh_b H _ (Nat.le_refl _) s acc s1 s3).1
  have hslt : s < 2 ^ mk_tr M := by
    have := and_le_ _ _ s2
    omega
  have up : (tk_rs M d).toInt ≤ (sB M d).1.toInt := by
    have h1 := i2 s hslt s2 hbc
    have h2 := (i1 s hslt s2 (by rw [hbc]; exact Nat.le_refl _) (mk_hz M) (Nat.le_refl _) hbc.symm).1 acc s3
    rw [s4]
    exact Int.le_trans h1 h2
  have lo : (sB M d).1.toInt ≤ (tk_rs M d).toInt := by
    obtain ⟨r, r1, r2, r3, r4⟩ := i3.resolve_left (fun y => by
      have y2 : (tk_rs M d).toInt = 1000000000 := y
      omega)
    have h2 := (i1 r r1 r2 (by rw [r3]; exact Nat.le_refl _) (mk_hz M) (Nat.le_refl _) r3.symm).2
    rw [← r4] at h2
    have h3 := (mid H (v := (tk_rs M d).toInt) h6 (mk_hz M) (Nat.le_refl _)).mp ⟨r, (tk_rs M d).toInt, by omega, r2, h2, by rw [Nat.sub_self]; rfl⟩
    exact a2 _ h3
  exact Int32.toInt.inj (by omega)

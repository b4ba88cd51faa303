/-! ===== THE MODEL: commands, texts ===== -/
def pc_2 (s : Nat → Nat) (cnt wh k d1 d2 pl p : Nat) (T : Nat → Int32) : pq_T := pq_a (pq_w s cnt wh k p T) (fun p T => pq_a (pq_f s d1 pl p T) (fun p T => pq_f s d2 (pl + 1) p T))
def pc_r (s : Nat → Nat) (cnt pl p : Nat) (T : Nat → Int32) : pq_T := pq_a (pq_w s cnt 1 37 p T) (fun p T => pq_f s 4 pl p T)
def pc_t (s : Nat → Nat) (pl p : Nat) (T : Nat → Int32) : pq_T := pq_a (pq_f s 1 pl p T) (fun p T => pq_a (pq_f s 1 (pl + 1) p T) (fun p T => pq_a (pq_f s 1 (pl + 2) p T) (fun p T => pq_a (pq_f s 2 (pl + 3) p T) (fun p T => pq_f s 1 (pl + 4) p T))))
def pc_T (s : Nat → Nat) (cnt pl p : Nat) (T : Nat → Int32) : pq_T := pq_a (pq_w s cnt 2 36 p T) (fun p T => if s p = 114 then pc_r s cnt pl (p + 1) T else pc_t s pl p T)
def pc_D (s : Nat → Nat) (cnt pl p : Nat) (T : Nat → Int32) : pq_T := if s p = 97 then pq_w s cnt 4 39 (p + 1) T else pc_2 s cnt 6 40 1 4 pl p T
def pc_C (s : Nat → Nat) (cnt pl p : Nat) (T : Nat → Int32) : pq_T := if s p = 104 then pc_2 s cnt 0 35 2 2 pl (p + 1) T else if s p = 116 then pc_T s cnt pl (p + 1) T else if s p = 113 then pc_2 s cnt 3 38 1 2 pl (p + 1) T else if s p = 100 then pc_D s cnt pl (p + 1) T else if s p = 112 then pc_2 s cnt 5 41 1 4 pl (p + 1) T else if s p = 103 then pc_2 s cnt 7 42 1 4 pl (p + 1) T else (false, p, T)
theorem pq_a_le {A : pq_T} {n : Nat} {f : Nat → (Nat → Int32) → pq_T} (h : A.2.1 ≤ n) (hf : ∀ p T, p ≤ n → (f p T).2.1 ≤ n) : (pq_a A f).2.1 ≤ n := by
  unfold pq_a
  split
  · exact hf _ _ h
  · exact h
section PCLE
variable {t : Nat → Nat} {n cnt pl p : Nat} {T : Nat → Int32}
theorem pc_2_le {wh k d1 d2 : Nat} (hk : 35 ≤ k) (hk2 : k < 43) (h : p ≤ n) : (pc_2 (sg t n) cnt wh k d1 d2 pl p T).2.1 ≤ n := pq_a_le (pq_w_le hk hk2 h) (fun p T h => pq_a_le (pq_f_le h) (fun p T h => pq_f_le h))
theorem pc_r_le (h : p ≤ n) : (pc_r (sg t n) cnt pl p T).2.1 ≤ n := pq_a_le (pq_w_le (by decide) (by decide) h) (fun p T h => pq_f_le h)
theorem pc_t_le (h : p ≤ n) : (pc_t (sg t n) pl p T).2.1 ≤ n := pq_a_le (pq_f_le h) (fun p T h => pq_a_le (pq_f_le h) (fun p T h => pq_a_le (pq_f_le h) (fun p T h => pq_a_le (pq_f_le h) (fun p T h => pq_f_le h))))
theorem pc_T_le (h : p ≤ n) : (pc_T (sg t n) cnt pl p T).2.1 ≤ n := pq_a_le (pq_w_le (by decide) (by decide) h) (fun p T h => by
  show (if _ then _ else _ : pq_T).2.1 ≤ n
  split
  · rename_i z
    have := sg_in z (by decide)
    exact pc_r_le (by omega)
  · exact pc_t_le h)
theorem pc_D_le (h : p ≤ n) : (pc_D (sg t n) cnt pl p T).2.1 ≤ n := by
  unfold pc_D
  split
  · rename_i z
    have := sg_in z (by decide)
    exact pq_w_le (by decide) (by decide) (by omega)
  · exact pc_2_le (by decide) (by decide) h
theorem pc_C_le (h : p ≤ n) : (pc_C (sg t n) cnt pl p T).2.1 ≤ n := by
  unfold pc_C
  split
  · rename_i z
    have := sg_in z (by decide)
    exact pc_2_le (by decide) (by decide) (by omega)
  · split
    · rename_i z
      have := sg_in z (by decide)
      exact pc_T_le (by omega)
    · split
      · rename_i z
        have := sg_in z (by decide)
        exact pc_2_le (by decide) (by decide) (by omega)
      · split
        · rename_i z
          have := sg_in z (by decide)
          exact pc_D_le (by omega)
        · split
          · rename_i z
            have := sg_in z (by decide)
            exact pc_2_le (by decide) (by decide) (by omega)
          · split
            · rename_i z
              have := sg_in z (by decide)
              exact pc_2_le (by decide) (by decide) (by omega)
            · exact h
end PCLE
set_option maxHeartbeats 8000000 in
/-- behind a t -/
theorem c_X8_withT {G : hp_G} {l : Launch} (hl : l.stackTraces = false) {n0 : Nat} {h0 : Nat → Option va_E} {y : Nat} {S : mo_T} {t : Nat → Nat} {n : Nat} (hI : Tp S t n) {p cnt : Nat} {T : Nat → Int32} (hS : Mo G h0 y (mo_pr S p cnt T)) (hp : p ≤ n) (hKc : Kc G h0) (hcnt : cnt ≤ 30) {pl : Nat} (hpl : pl + 5 ≤ 186) : Ct G l yX8_withT cX8_withT 2 (some .boolean) 5 0 0 [.ref y, .int (nI pl)] (n0, h0) (hp_iq (fun r τ => r = hp_b ((pc_T (sg t n) cnt pl p T).1 = true) ∧ τ.1 = n0 ∧ Mo G τ.2 y (mo_pr S (pc_T (sg t n) cnt pl p T).2.1 cnt (pc_T (sg t n) cnt pl p T).2.2) ∧ ∀ a, (a < y ∨ y + 13 ≤ a) → τ.2 a = h0 a)) := by
  have hbase := hS.base
  have hn60 := hI.2.1
  have hO0 : ∀ a, (a < y ∨ y + 13 ≤ a) → h0 a = h0 a := fun _ _ => rfl
  refine Ct.of rfl hl (by simp [Value.category]) (Nat.le_of_ble_eq_true rfl) (fun K C E hRm hKl => ?_)
  subst hKl
  refine v_aload_n C dX8_withT_0 rfl ?_
  refine v_iconst (v := nI 2) C dX8_withT_1 (by decide) ?_
  refine v_ldcS C (kst := 36) dX8_withT_2 rfl ?_
  refine v_callVq C (c_X8_isWord hl hI hS (by omega) (k := 36) (wh := 2) (by decide) (by decide) (hKc.same (fun a ha => hO0 a (by omega))) hcnt) dX8_withT_4 mX8_isWord rfl hS.o rfl wd8_173 rfl rfl (Nat.le_of_ble_eq_true rfl) (hp_rmle hRm (by decide) (by decide)) (Nat.le_of_ble_eq_true rfl) (Nat.le_of_ble_eq_true rfl) (fun r4 n4 h4 q4 => ?_)
  have b4 : (pq_w (sg t n) cnt 2 36 p T).2.1 ≤ n := (pq_w_le (by decide) (by decide) (by omega))
  obtain ⟨A4, hA4⟩ : ∃ A, A = pq_w (sg t n) cnt 2 36 p T := ⟨_, rfl⟩
  rw [← hA4] at q4 b4
  obtain ⟨e4, k4, Y4, W4⟩ := q4
  have z4 := Eq.symm k4
  have z4 : n0 = n4 := z4
  subst z4
  subst e4
  have W4 : ∀ a, (a < y ∨ y + 13 ≤ a) → h4 a = h0 a := fun a ha => (W4 a ha).trans (hO0 a ha)
  refine v_if_neB (tgt := 12) C dX8_withT_7 (by decide) (fun c7 => ?_) (fun c7 => ?_)
  · have v7 : pc_T (sg t n) cnt pl p T = if sg t n A4.2.1 = 114 then pc_r (sg t n) cnt pl (A4.2.1 + 1) A4.2.2 else pc_t (sg t n) pl A4.2.1 A4.2.2 := (show pq_a (pq_w (sg t n) cnt 2 36 p T) _ = _ by rw [← hA4]; exact if_pos c7)
    refine v_aload_n C dX8_withT_12 rfl ?_
    refine v_bipush (v := nI 114) C dX8_withT_13 (by decide) ?_
    refine v_callVq C (c_X8_skips hl Y4 (p := A4.2.1) (len := n) (mo_pr_10 _ _ _ _) (hI.pr _ _ _).1 (by omega) hI.2.1 (nI 114)) dX8_withT_15 mX8_skips rfl Y4.o rfl wd8_164 rfl rfl (Nat.le_of_ble_eq_true rfl) (hp_rmle hRm (by decide) (by decide)) (Nat.le_of_ble_eq_true rfl) (Nat.le_of_ble_eq_true rfl) (fun r15 n15 h15 q15 => ?_)
    obtain ⟨e15, k15, Y15, W15⟩ := q15
    have z15 := Eq.symm k15
    have z15 : n0 = n15 := z15
    subst z15
    have e15 : r15 = hp_b (sg t n (A4.2.1) = 114) := e15.trans (hp_b_iff (hr_eq (hI.pr _ _ _) (by decide) (by decide)))
    subst e15
    have X15 := Y15.to (sk_pr hI (by decide) (by decide))
    have W15 : ∀ a, (a < y ∨ y + 13 ≤ a) → h15 a = h0 a := fun a ha => (W15 a ha).trans (W4 a ha)
    refine v_if_eqB (tgt := 46) C dX8_withT_18 (by decide) (fun c18 => ?_) (fun c18 => ?_)
    · rw [if_neg c18] at X15
      have vs : pc_T (sg t n) cnt pl p T = pq_a (pq_f (sg t n) 1 pl A4.2.1 A4.2.2) (fun p T => pq_a (pq_f (sg t n) 1 (pl + 1) p T) (fun p T => pq_a (pq_f (sg t n) 1 (pl + 2) p T) (fun p T => pq_a (pq_f (sg t n) 2 (pl + 3) p T) (fun p T => pq_f (sg t n) 1 (pl + 4) p T)))) := v7.trans (if_neg c18)
      refine v_aload_n C dX8_withT_46 rfl ?_
      refine v_iload_n C dX8_withT_47 rfl ?_
      refine v_iconst (v := nI 1) C dX8_withT_48 (by decide) ?_
      refine v_callVq C (c_X8_figures hl hI X15 (by omega) (pl := pl) (dg := 1) (by omega) (by decide)) dX8_withT_49 mX8_figures rfl X15.o rfl wd8_179 rfl rfl (Nat.le_of_ble_eq_true rfl) (hp_rmle hRm (by decide) (by decide)) (Nat.le_of_ble_eq_true rfl) (Nat.le_of_ble_eq_true rfl) (fun r49 n49 h49 q49 => ?_)
      have b49 : (pq_f (sg t n) 1 pl A4.2.1 A4.2.2).2.1 ≤ n := (pq_f_le (by omega))
      obtain ⟨A49, hA49⟩ : ∃ A, A = pq_f (sg t n) 1 pl A4.2.1 A4.2.2 := ⟨_, rfl⟩
      rw [← hA49] at q49 b49
      obtain ⟨e49, k49, Y49, W49⟩ := q49
      have z49 := Eq.symm k49
      have z49 : n0 = n49 := z49
      subst z49
      subst e49
      have W49 : ∀ a, (a < y ∨ y + 13 ≤ a) → h49 a = h0 a := fun a ha => (W49 a ha).trans (W15 a ha)
      refine v_if_eqB (tgt := 103) C dX8_withT_52 (by decide) (fun c52 => ?_) (fun c52 => ?_)
      · have v52 := vs.trans (show pq_a (pq_f (sg t n) 1 pl A4.2.1 A4.2.2) (fun p T => pq_a (pq_f (sg t n) 1 (pl + 1) p T) (fun p T => pq_a (pq_f (sg t n) 1 (pl + 2) p T) (fun p T => pq_a (pq_f (sg t n) 2 (pl + 3) p T) (fun p T => pq_f (sg t n) 1 (pl + 4) p T)))) = A49 by rw [← hA49]; exact if_neg c52)
        refine v_iconst (v := nI 0) C dX8_withT_103 (by decide) ?_
        exact v_zret C E dX8_withT_104 rfl rfl ⟨_, rfl, by rw [v52, hp_b_f c52]; rfl, rfl, by rw [v52]; exact Y49, W49⟩
      · have v52 := vs.trans (show pq_a (pq_f (sg t n) 1 pl A4.2.1 A4.2.2) (fun p T => pq_a (pq_f (sg t n) 1 (pl + 1) p T) (fun p T => pq_a (pq_f (sg t n) 1 (pl + 2) p T) (fun p T => pq_a (pq_f (sg t n) 2 (pl + 3) p T) (fun p T => pq_f (sg t n) 1 (pl + 4) p T)))) = pq_a (pq_f (sg t n) 1 (pl + 1) A49.2.1 A49.2.2) (fun p T => pq_a (pq_f (sg t n) 1 (pl + 2) p T) (fun p T => pq_a (pq_f (sg t n) 2 (pl + 3) p T) (fun p T => pq_f (sg t n) 1 (pl + 4) p T))) by rw [← hA49]; exact if_pos c52)
        refine v_aload_n C dX8_withT_55 rfl ?_
        refine v_iload_n C dX8_withT_56 rfl ?_
        refine v_iconst (v := nI 1) C dX8_withT_57 (by decide) ?_
        refine v_iaddN C dX8_withT_58 ?_
        refine v_iconst (v := nI 1) C dX8_withT_59 (by decide) ?_
        refine v_callVq C (c_X8_figures hl hI Y49 (by omega) (pl := (pl + 1)) (dg := 1) (by omega) (by decide)) dX8_withT_60 mX8_figures rfl Y49.o rfl wd8_179 rfl rfl (Nat.le_of_ble_eq_true rfl) (hp_rmle hRm (by decide) (by decide)) (Nat.le_of_ble_eq_true rfl) (Nat.le_of_ble_eq_true rfl) (fun r60 n60 h60 q60 => ?_)
        have b60 : (pq_f (sg t n) 1 (pl + 1) A49.2.1 A49.2.2).2.1 ≤ n := (pq_f_le (by omega))
        obtain ⟨A60, hA60⟩ : ∃ A, A = pq_f (sg t n) 1 (pl + 1) A49.2.1 A49.2.2 := ⟨_, rfl⟩
        rw [← hA60] at q60 b60
        obtain ⟨e60, k60, Y60, W60⟩ := q60
        have z60 := Eq.symm k60
        have z60 : n0 = n60 := z60
        subst z60
        subst e60
        have W60 : ∀ a, (a < y ∨ y + 13 ≤ a) → h60 a = h0 a := fun a ha => (W60 a ha).trans (W49 a ha)
        refine v_if_eqB (tgt := 103) C dX8_withT_63 (by decide) (fun c63 => ?_) (fun c63 => ?_)
        · have v63 := v52.trans (show pq_a (pq_f (sg t n) 1 (pl + 1) A49.2.1 A49.2.2) (fun p T => pq_a (pq_f (sg t n) 1 (pl + 2) p T) (fun p T => pq_a (pq_f (sg t n) 2 (pl + 3) p T) (fun p T => pq_f (sg t n) 1 (pl + 4) p T))) = A60 by rw [← hA60]; exact if_neg c63)
          refine v_iconst (v := nI 0) C dX8_withT_103 (by decide) ?_
          exact v_zret C E dX8_withT_104 rfl rfl ⟨_, rfl, by rw [v63, hp_b_f c63]; rfl, rfl, by rw [v63]; exact Y60, W60⟩
        · have v63 := v52.trans (show pq_a (pq_f (sg t n) 1 (pl + 1) A49.2.1 A49.2.2) (fun p T => pq_a (pq_f (sg t n) 1 (pl + 2) p T) (fun p T => pq_a (pq_f (sg t n) 2 (pl + 3) p T) (fun p T => pq_f (sg t n) 1 (pl + 4) p T))) = pq_a (pq_f (sg t n) 1 (pl + 2) A60.2.1 A60.2.2) (fun p T => pq_a (pq_f (sg t n) 2 (pl + 3) p T) (fun p T => pq_f (sg t n) 1 (pl + 4) p T)) by rw [← hA60]; exact if_pos c63)
          refine v_aload_n C dX8_withT_66 rfl ?_
          refine v_iload_n C dX8_withT_67 rfl ?_
          refine v_iconst (v := nI 2) C dX8_withT_68 (by decide) ?_
          refine v_iaddN C dX8_withT_69 ?_
          refine v_iconst (v := nI 1) C dX8_withT_70 (by decide) ?_
          refine v_callVq C (c_X8_figures hl hI Y60 (by omega) (pl := (pl + 2)) (dg := 1) (by omega) (by decide)) dX8_withT_71 mX8_figures rfl Y60.o rfl wd8_179 rfl rfl (Nat.le_of_ble_eq_true rfl) (hp_rmle hRm (by decide) (by decide)) (Nat.le_of_ble_eq_true rfl) (Nat.le_of_ble_eq_true rfl) (fun r71 n71 h71 q71 => ?_)
          have b71 : (pq_f (sg t n) 1 (pl + 2) A60.2.1 A60.2.2).2.1 ≤ n := (pq_f_le (by omega))
          obtain ⟨A71, hA71⟩ : ∃ A, A = pq_f (sg t n) 1 (pl + 2) A60.2.1 A60.2.2 := ⟨_, rfl⟩
          rw [← hA71] at q71 b71
          obtain ⟨e71, k71, Y71, W71⟩ := q71
          have z71 := Eq.symm k71
          have z71 : n0 = n71 := z71
          subst z71
          subst e71
          have W71 : ∀ a, (a < y ∨ y + 13 ≤ a) → h71 a = h0 a := fun a ha => (W71 a ha).trans (W60 a ha)
          refine v_if_eqB (tgt := 103) C dX8_withT_74 (by decide) (fun c74 => ?_) (fun c74 => ?_)
          · have v74 := v63.trans (show pq_a (pq_f (sg t n) 1 (pl + 2) A60.2.1 A60.2.2) (fun p T => pq_a (pq_f (sg t n) 2 (pl + 3) p T) (fun p T => pq_f (sg t n) 1 (pl + 4) p T)) = A71 by rw [← hA71]; exact if_neg c74)
            refine v_iconst (v := nI 0) C dX8_withT_103 (by decide) ?_
            exact v_zret C E dX8_withT_104 rfl rfl ⟨_, rfl, by rw [v74, hp_b_f c74]; rfl, rfl, by rw [v74]; exact Y71, W71⟩
          · have v74 := v63.trans (show pq_a (pq_f (sg t n) 1 (pl + 2) A60.2.1 A60.2.2) (fun p T => pq_a (pq_f (sg t n) 2 (pl + 3) p T) (fun p T => pq_f (sg t n) 1 (pl + 4) p T)) = pq_a (pq_f (sg t n) 2 (pl + 3) A71.2.1 A71.2.2) (fun p T => pq_f (sg t n) 1 (pl + 4) p T) by rw [← hA71]; exact if_pos c74)
            refine v_aload_n C dX8_withT_77 rfl ?_
            refine v_iload_n C dX8_withT_78 rfl ?_
            refine v_iconst (v := nI 3) C dX8_withT_79 (by decide) ?_
            refine v_iaddN C dX8_withT_80 ?_
            refine v_iconst (v := nI 2) C dX8_withT_81 (by decide) ?_
            refine v_callVq C (c_X8_figures hl hI Y71 (by omega) (pl := (pl + 3)) (dg := 2) (by omega) (by decide)) dX8_withT_82 mX8_figures rfl Y71.o rfl wd8_179 rfl rfl (Nat.le_of_ble_eq_true rfl) (hp_rmle hRm (by decide) (by decide)) (Nat.le_of_ble_eq_true rfl) (Nat.le_of_ble_eq_true rfl) (fun r82 n82 h82 q82 => ?_)
            have b82 : (pq_f (sg t n) 2 (pl + 3) A71.2.1 A71.2.2).2.1 ≤ n := (pq_f_le (by omega))
            obtain ⟨A82, hA82⟩ : ∃ A, A = pq_f (sg t n) 2 (pl + 3) A71.2.1 A71.2.2 := ⟨_, rfl⟩
            rw [← hA82] at q82 b82
            obtain ⟨e82, k82, Y82, W82⟩ := q82
            have z82 := Eq.symm k82
            have z82 : n0 = n82 := z82
            subst z82
            subst e82
            have W82 : ∀ a, (a < y ∨ y + 13 ≤ a) → h82 a = h0 a := fun a ha => (W82 a ha).trans (W71 a ha)
            refine v_if_eqB (tgt := 103) C dX8_withT_85 (by decide) (fun c85 => ?_) (fun c85 => ?_)
            · have v85 := v74.trans (show pq_a (pq_f (sg t n) 2 (pl + 3) A71.2.1 A71.2.2) (fun p T => pq_f (sg t n) 1 (pl + 4) p T) = A82 by rw [← hA82]; exact if_neg c85)
              refine v_iconst (v := nI 0) C dX8_withT_103 (by decide) ?_
              exact v_zret C E dX8_withT_104 rfl rfl ⟨_, rfl, by rw [v85, hp_b_f c85]; rfl, rfl, by rw [v85]; exact Y82, W82⟩
            · have v85 := v74.trans (show pq_a (pq_f (sg t n) 2 (pl + 3) A71.2.1 A71.2.2) (fun p T => pq_f (sg t n) 1 (pl + 4) p T) = pq_f (sg t n) 1 (pl + 4) A82.2.1 A82.2.2 by rw [← hA82]; exact if_pos c85)
              refine v_aload_n C dX8_withT_88 rfl ?_
              refine v_iload_n C dX8_withT_89 rfl ?_
              refine v_iconst (v := nI 4) C dX8_withT_90 (by decide) ?_
              refine v_iaddN C dX8_withT_91 ?_
              refine v_iconst (v := nI 1) C dX8_withT_92 (by decide) ?_
              refine v_callVq C (c_X8_figures hl hI Y82 (by omega) (pl := (pl + 4)) (dg := 1) (by omega) (by decide)) dX8_withT_93 mX8_figures rfl Y82.o rfl wd8_179 rfl rfl (Nat.le_of_ble_eq_true rfl) (hp_rmle hRm (by decide) (by decide)) (Nat.le_of_ble_eq_true rfl) (Nat.le_of_ble_eq_true rfl) (fun r93 n93 h93 q93 => ?_)
              have b93 : (pq_f (sg t n) 1 (pl + 4) A82.2.1 A82.2.2).2.1 ≤ n := (pq_f_le (by omega))
              obtain ⟨A93, hA93⟩ : ∃ A, A = pq_f (sg t n) 1 (pl + 4) A82.2.1 A82.2.2 := ⟨_, rfl⟩
              rw [← hA93] at q93 b93
              obtain ⟨e93, k93, Y93, W93⟩ := q93
              have z93 := Eq.symm k93
              have z93 : n0 = n93 := z93
              subst z93
              subst e93
              have W93 : ∀ a, (a < y ∨ y + 13 ≤ a) → h93 a = h0 a := fun a ha => (W93 a ha).trans (W82 a ha)
              refine v_if_eqB (tgt := 103) C dX8_withT_96 (by decide) (fun c96 => ?_) (fun c96 => ?_)
              · have v96 := v85.trans hA93.symm
                refine v_iconst (v := nI 0) C dX8_withT_103 (by decide) ?_
                exact v_zret C E dX8_withT_104 rfl rfl ⟨_, rfl, by rw [v96, hp_b_f c96]; rfl, rfl, by rw [v96]; exact Y93, W93⟩
              · have v96 := v85.trans hA93.symm
                refine v_iconst (v := nI 1) C dX8_withT_99 (by decide) ?_
                refine v_goto (tgt := 104) C dX8_withT_100 (by decide) ?_
                exact v_zret C E dX8_withT_104 rfl rfl ⟨_, rfl, by rw [v96, hp_b_t c96]; rfl, rfl, by rw [v96]; exact Y93, W93⟩
    · rw [if_pos c18] at X15
      have hp18 := sg_in c18 (by decide)
      have vs : pc_T (sg t n) cnt pl p T = pq_a (pq_w (sg t n) cnt 1 37 (A4.2.1 + 1) A4.2.2) (fun p T => pq_f (sg t n) 4 pl p T) := v7.trans (if_pos c18)
      refine v_aload_n C dX8_withT_21 rfl ?_
      refine v_iconst (v := nI 1) C dX8_withT_22 (by decide) ?_
      refine v_ldcS C (kst := 37) dX8_withT_23 rfl ?_
      refine v_callVq C (c_X8_isWord hl hI X15 (by omega) (k := 37) (wh := 1) (by decide) (by decide) (hKc.same (fun a ha => W15 a (by omega))) hcnt) dX8_withT_25 mX8_isWord rfl X15.o rfl wd8_173 rfl rfl (Nat.le_of_ble_eq_true rfl) (hp_rmle hRm (by decide) (by decide)) (Nat.le_of_ble_eq_true rfl) (Nat.le_of_ble_eq_true rfl) (fun r25 n25 h25 q25 => ?_)
      have b25 : (pq_w (sg t n) cnt 1 37 (A4.2.1 + 1) A4.2.2).2.1 ≤ n := (pq_w_le (by decide) (by decide) (by omega))
      obtain ⟨A25, hA25⟩ : ∃ A, A = pq_w (sg t n) cnt 1 37 (A4.2.1 + 1) A4.2.2 := ⟨_, rfl⟩
      rw [← hA25] at q25 b25
      obtain ⟨e25, k25, Y25, W25⟩ := q25
      have z25 := Eq.symm k25
      have z25 : n0 = n25 := z25
      subst z25
      subst e25
      have W25 : ∀ a, (a < y ∨ y + 13 ≤ a) → h25 a = h0 a := fun a ha => (W25 a ha).trans (W15 a ha)
      refine v_if_eqB (tgt := 44) C dX8_withT_28 (by decide) (fun c28 => ?_) (fun c28 => ?_)
      · have v28 := vs.trans (show pq_a (pq_w (sg t n) cnt 1 37 (A4.2.1 + 1) A4.2.2) (fun p T => pq_f (sg t n) 4 pl p T) = A25 by rw [← hA25]; exact if_neg c28)
        refine v_iconst (v := nI 0) C dX8_withT_44 (by decide) ?_
        exact v_zret C E dX8_withT_45 rfl rfl ⟨_, rfl, by rw [v28, hp_b_f c28]; rfl, rfl, by rw [v28]; exact Y25, W25⟩
      · have v28 := vs.trans (show pq_a (pq_w (sg t n) cnt 1 37 (A4.2.1 + 1) A4.2.2) (fun p T => pq_f (sg t n) 4 pl p T) = pq_f (sg t n) 4 pl A25.2.1 A25.2.2 by rw [← hA25]; exact if_pos c28)
        refine v_aload_n C dX8_withT_31 rfl ?_
        refine v_iload_n C dX8_withT_32 rfl ?_
        refine v_iconst (v := nI 4) C dX8_withT_33 (by decide) ?_
        refine v_callVq C (c_X8_figures hl hI Y25 (by omega) (pl := pl) (dg := 4) (by omega) (by decide)) dX8_withT_34 mX8_figures rfl Y25.o rfl wd8_179 rfl rfl (Nat.le_of_ble_eq_true rfl) (hp_rmle hRm (by decide) (by decide)) (Nat.le_of_ble_eq_true rfl) (Nat.le_of_ble_eq_true rfl) (fun r34 n34 h34 q34 => ?_)
        have b34 : (pq_f (sg t n) 4 pl A25.2.1 A25.2.2).2.1 ≤ n := (pq_f_le (by omega))
        obtain ⟨A34, hA34⟩ : ∃ A, A = pq_f (sg t n) 4 pl A25.2.1 A25.2.2 := ⟨_, rfl⟩
        rw [← hA34] at q34 b34
        obtain ⟨e34, k34, Y34, W34⟩ := q34
        have z34 := Eq.symm k34
        have z34 : n0 = n34 := z34
        subst z34
        subst e34
        have W34 : ∀ a, (a < y ∨ y + 13 ≤ a) → h34 a = h0 a := fun a ha => (W34 a ha).trans (W25 a ha)
        refine v_if_eqB (tgt := 44) C dX8_withT_37 (by decide) (fun c37 => ?_) (fun c37 => ?_)
        · have v37 := v28.trans hA34.symm
          refine v_iconst (v := nI 0) C dX8_withT_44 (by decide) ?_
          exact v_zret C E dX8_withT_45 rfl rfl ⟨_, rfl, by rw [v37, hp_b_f c37]; rfl, rfl, by rw [v37]; exact Y34, W34⟩
        · have v37 := v28.trans hA34.symm
          refine v_iconst (v := nI 1) C dX8_withT_40 (by decide) ?_
          refine v_goto (tgt := 45) C dX8_withT_41 (by decide) ?_
          exact v_zret C E dX8_withT_45 rfl rfl ⟨_, rfl, by rw [v37, hp_b_t c37]; rfl, rfl, by rw [v37]; exact Y34, W34⟩
  · have v7 : pc_T (sg t n) cnt pl p T = A4 := (show pq_a (pq_w (sg t n) cnt 2 36 p T) _ = _ by rw [← hA4]; exact if_neg c7)
    refine v_iconst (v := nI 0) C dX8_withT_10 (by decide) ?_
    exact v_zret C E dX8_withT_11 rfl rfl ⟨_, rfl, by rw [v7, hp_b_f c7]; rfl, rfl, by rw [v7]; exact Y4, W4⟩
set_option maxHeartbeats 8000000 in
/-- behind a d -/
theorem c_X8_withD {G : hp_G} {l : Launch} (hl : l.stackTraces = false) {n0 : Nat} {h0 : Nat → Option va_E} {y : Nat} {S : mo_T} {t : Nat → Nat} {n : Nat} (hI : Tp S t n) {p cnt : Nat} {T : Nat → Int32} (hS : Mo G h0 y (mo_pr S p cnt T)) (hp : p ≤ n) (hKc : Kc G h0) (hcnt : cnt ≤ 30) {pl : Nat} (hpl : pl + 5 ≤ 186) : Ct G l yX8_withD cX8_withD 2 (some .boolean) 5 0 0 [.ref y, .int (nI pl)] (n0, h0) (hp_iq (fun r τ => r = hp_b ((pc_D (sg t n) cnt pl p T).1 = true) ∧ τ.1 = n0 ∧ Mo G τ.2 y (mo_pr S (pc_D (sg t n) cnt pl p T).2.1 cnt (pc_D (sg t n) cnt pl p T).2.2) ∧ ∀ a, (a < y ∨ y + 13 ≤ a) → τ.2 a = h0 a)) := by
  have hbase := hS.base
  have hn60 := hI.2.1
  have hO0 : ∀ a, (a < y ∨ y + 13 ≤ a) → h0 a = h0 a := fun _ _ => rfl
  refine Ct.of rfl hl (by simp [Value.category]) (Nat.le_of_ble_eq_true rfl) (fun K C E hRm hKl => ?_)
  subst hKl
  refine v_aload_n C dX8_withD_0 rfl ?_
  refine v_bipush (v := nI 97) C dX8_withD_1 (by decide) ?_
  refine v_callVq C (c_X8_skips hl hS (p := p) (len := n) (mo_pr_10 _ _ _ _) (hI.pr _ _ _).1 (by omega) hI.2.1 (nI 97)) dX8_withD_3 mX8_skips rfl hS.o rfl wd8_164 rfl rfl (Nat.le_of_ble_eq_true rfl) (hp_rmle hRm (by decide) (by decide)) (Nat.le_of_ble_eq_true rfl) (Nat.le_of_ble_eq_true rfl) (fun r3 n3 h3 q3 => ?_)
  obtain ⟨e3, k3, Y3, W3⟩ := q3
  have z3 := Eq.symm k3
  have z3 : n0 = n3 := z3
  subst z3
  have e3 : r3 = hp_b (sg t n (p) = 97) := e3.trans (hp_b_iff (hr_eq (hI.pr _ _ _) (by decide) (by decide)))
  subst e3
  have X3 := Y3.to (sk_pr hI (by decide) (by decide))
  have W3 : ∀ a, (a < y ∨ y + 13 ≤ a) → h3 a = h0 a := fun a ha => (W3 a ha).trans (hO0 a ha)
  refine v_if_eqB (tgt := 17) C dX8_withD_6 (by decide) (fun c6 => ?_) (fun c6 => ?_)
  · rw [if_neg c6] at X3
    have vs : pc_D (sg t n) cnt pl p T = pq_a (pq_w (sg t n) cnt 6 40 p T) (fun p T => pq_a (pq_f (sg t n) 1 pl p T) (fun p T => pq_f (sg t n) 4 (pl + 1) p T)) := if_neg c6
    refine v_aload_n C dX8_withD_17 rfl ?_
    refine v_bipush (v := nI 6) C dX8_withD_18 (by decide) ?_
    refine v_ldcS C (kst := 40) dX8_withD_20 rfl ?_
    refine v_callVq C (c_X8_isWord hl hI X3 (by omega) (k := 40) (wh := 6) (by decide) (by decide) (hKc.same (fun a ha => W3 a (by omega))) hcnt) dX8_withD_22 mX8_isWord rfl X3.o rfl wd8_173 rfl rfl (Nat.le_of_ble_eq_true rfl) (hp_rmle hRm (by decide) (by decide)) (Nat.le_of_ble_eq_true rfl) (Nat.le_of_ble_eq_true rfl) (fun r22 n22 h22 q22 => ?_)
    have b22 : (pq_w (sg t n) cnt 6 40 p T).2.1 ≤ n := (pq_w_le (by decide) (by decide) (by omega))
    obtain ⟨A22, hA22⟩ : ∃ A, A = pq_w (sg t n) cnt 6 40 p T := ⟨_, rfl⟩
    rw [← hA22] at q22 b22
    obtain ⟨e22, k22, Y22, W22⟩ := q22
    have z22 := Eq.symm k22
    have z22 : n0 = n22 := z22
    subst z22
    subst e22
    have W22 : ∀ a, (a < y ∨ y + 13 ≤ a) → h22 a = h0 a := fun a ha => (W22 a ha).trans (W3 a ha)
    refine v_if_eqB (tgt := 52) C dX8_withD_25 (by decide) (fun c25 => ?_) (fun c25 => ?_)
    · have v25 := vs.trans (show pq_a (pq_w (sg t n) cnt 6 40 p T) (fun p T => pq_a (pq_f (sg t n) 1 pl p T) (fun p T => pq_f (sg t n) 4 (pl + 1) p T)) = A22 by rw [← hA22]; exact if_neg c25)
      refine v_iconst (v := nI 0) C dX8_withD_52 (by decide) ?_
      exact v_zret C E dX8_withD_53 rfl rfl ⟨_, rfl, by rw [v25, hp_b_f c25]; rfl, rfl, by rw [v25]; exact Y22, W22⟩
    · have v25 := vs.trans (show pq_a (pq_w (sg t n) cnt 6 40 p T) (fun p T => pq_a (pq_f (sg t n) 1 pl p T) (fun p T => pq_f (sg t n) 4 (pl + 1) p T)) = pq_a (pq_f (sg t n) 1 pl A22.2.1 A22.2.2) (fun p T => pq_f (sg t n) 4 (pl + 1) p T) by rw [← hA22]; exact if_pos c25)
      refine v_aload_n C dX8_withD_28 rfl ?_
      refine v_iload_n C dX8_withD_29 rfl ?_
      refine v_iconst (v := nI 1) C dX8_withD_30 (by decide) ?_
      refine v_callVq C (c_X8_figures hl hI Y22 (by omega) (pl := pl) (dg := 1) (by omega) (by decide)) dX8_withD_31 mX8_figures rfl Y22.o rfl wd8_179 rfl rfl (Nat.le_of_ble_eq_true rfl) (hp_rmle hRm (by decide) (by decide)) (Nat.le_of_ble_eq_true rfl) (Nat.le_of_ble_eq_true rfl) (fun r31 n31 h31 q31 => ?_)
      have b31 : (pq_f (sg t n) 1 pl A22.2.1 A22.2.2).2.1 ≤ n := (pq_f_le (by omega))
      obtain ⟨A31, hA31⟩ : ∃ A, A = pq_f (sg t n) 1 pl A22.2.1 A22.2.2 := ⟨_, rfl⟩
      rw [← hA31] at q31 b31
      obtain ⟨e31, k31, Y31, W31⟩ := q31
      have z31 := Eq.symm k31
      have z31 : n0 = n31 := z31
      subst z31
      subst e31
      have W31 : ∀ a, (a < y ∨ y + 13 ≤ a) → h31 a = h0 a := fun a ha => (W31 a ha).trans (W22 a ha)
      refine v_if_eqB (tgt := 52) C dX8_withD_34 (by decide) (fun c34 => ?_) (fun c34 => ?_)
      · have v34 := v25.trans (show pq_a (pq_f (sg t n) 1 pl A22.2.1 A22.2.2) (fun p T => pq_f (sg t n) 4 (pl + 1) p T) = A31 by rw [← hA31]; exact if_neg c34)
        refine v_iconst (v := nI 0) C dX8_withD_52 (by decide) ?_
        exact v_zret C E dX8_withD_53 rfl rfl ⟨_, rfl, by rw [v34, hp_b_f c34]; rfl, rfl, by rw [v34]; exact Y31, W31⟩
      · have v34 := v25.trans (show pq_a (pq_f (sg t n) 1 pl A22.2.1 A22.2.2) (fun p T => pq_f (sg t n) 4 (pl + 1) p T) = pq_f (sg t n) 4 (pl + 1) A31.2.1 A31.2.2 by rw [← hA31]; exact if_pos c34)
        refine v_aload_n C dX8_withD_37 rfl ?_
        refine v_iload_n C dX8_withD_38 rfl ?_
        refine v_iconst (v := nI 1) C dX8_withD_39 (by decide) ?_
        refine v_iaddN C dX8_withD_40 ?_
        refine v_iconst (v := nI 4) C dX8_withD_41 (by decide) ?_
        refine v_callVq C (c_X8_figures hl hI Y31 (by omega) (pl := (pl + 1)) (dg := 4) (by omega) (by decide)) dX8_withD_42 mX8_figures rfl Y31.o rfl wd8_179 rfl rfl (Nat.le_of_ble_eq_true rfl) (hp_rmle hRm (by decide) (by decide)) (Nat.le_of_ble_eq_true rfl) (Nat.le_of_ble_eq_true rfl) (fun r42 n42 h42 q42 => ?_)
        have b42 : (pq_f (sg t n) 4 (pl + 1) A31.2.1 A31.2.2).2.1 ≤ n := (pq_f_le (by omega))
        obtain ⟨A42, hA42⟩ : ∃ A, A = pq_f (sg t n) 4 (pl + 1) A31.2.1 A31.2.2 := ⟨_, rfl⟩
        rw [← hA42] at q42 b42
        obtain ⟨e42, k42, Y42, W42⟩ := q42
        have z42 := Eq.symm k42
        have z42 : n0 = n42 := z42
        subst z42
        subst e42
        have W42 : ∀ a, (a < y ∨ y + 13 ≤ a) → h42 a = h0 a := fun a ha => (W42 a ha).trans (W31 a ha)
        refine v_if_eqB (tgt := 52) C dX8_withD_45 (by decide) (fun c45 => ?_) (fun c45 => ?_)
        · have v45 := v34.trans hA42.symm
          refine v_iconst (v := nI 0) C dX8_withD_52 (by decide) ?_
          exact v_zret C E dX8_withD_53 rfl rfl ⟨_, rfl, by rw [v45, hp_b_f c45]; rfl, rfl, by rw [v45]; exact Y42, W42⟩
        · have v45 := v34.trans hA42.symm
          refine v_iconst (v := nI 1) C dX8_withD_48 (by decide) ?_
          refine v_goto (tgt := 53) C dX8_withD_49 (by decide) ?_
          exact v_zret C E dX8_withD_53 rfl rfl ⟨_, rfl, by rw [v45, hp_b_t c45]; rfl, rfl, by rw [v45]; exact Y42, W42⟩
  · rw [if_pos c6] at X3
    have hp6 := sg_in c6 (by decide)
    have vs : pc_D (sg t n) cnt pl p T = pq_w (sg t n) cnt 4 39 (p + 1) T := if_pos c6
    refine v_aload_n C dX8_withD_9 rfl ?_
    refine v_iconst (v := nI 4) C dX8_withD_10 (by decide) ?_
    refine v_ldcS C (kst := 39) dX8_withD_11 rfl ?_
    refine v_callVq C (c_X8_isWord hl hI X3 (by omega) (k := 39) (wh := 4) (by decide) (by decide) (hKc.same (fun a ha => W3 a (by omega))) hcnt) dX8_withD_13 mX8_isWord rfl X3.o rfl wd8_173 rfl rfl (Nat.le_of_ble_eq_true rfl) (hp_rmle hRm (by decide) (by decide)) (Nat.le_of_ble_eq_true rfl) (Nat.le_of_ble_eq_true rfl) (fun r13 n13 h13 q13 => ?_)
    have b13 : (pq_w (sg t n) cnt 4 39 (p + 1) T).2.1 ≤ n := (pq_w_le (by decide) (by decide) (by omega))
    obtain ⟨A13, hA13⟩ : ∃ A, A = pq_w (sg t n) cnt 4 39 (p + 1) T := ⟨_, rfl⟩
    rw [← hA13] at q13 b13
    obtain ⟨e13, k13, Y13, W13⟩ := q13
    have z13 := Eq.symm k13
    have z13 : n0 = n13 := z13
    subst z13
    subst e13
    have W13 : ∀ a, (a < y ∨ y + 13 ≤ a) → h13 a = h0 a := fun a ha => (W13 a ha).trans (W3 a ha)
    have v16 := vs.trans hA13.symm
    exact v_zret C E dX8_withD_16 rfl (hp_nb _) ⟨_, rfl, by rw [v16], rfl, by rw [v16]; exact Y13, W13⟩
set_option maxHeartbeats 8000000 in
/-- a command -/
theorem c_X8_commandHere {G : hp_G} {l : Launch} (hl : l.stackTraces = false) {n0 : Nat} {h0 : Nat → Option va_E} {y : Nat} {S : mo_T} {t : Nat → Nat} {n : Nat} (hI : Tp S t n) {p cnt : Nat} {T : Nat → Int32} (hS : Mo G h0 y (mo_pr S p cnt T)) (hp : p ≤ n) (hKc : Kc G h0) (hcnt : cnt ≤ 30)  : Ct G l yX8_commandHere cX8_commandHere 2 (some .boolean) 6 0 0 [.ref y] (n0, h0) (hp_iq (fun r τ => r = hp_b ((pc_C (sg t n) cnt (6 * cnt + 1) p T).1 = true) ∧ τ.1 = n0 ∧ Mo G τ.2 y (mo_pr S (pc_C (sg t n) cnt (6 * cnt + 1) p T).2.1 cnt (pc_C (sg t n) cnt (6 * cnt + 1) p T).2.2) ∧ ∀ a, (a < y ∨ y + 13 ≤ a) → τ.2 a = h0 a)) := by
  have hbase := hS.base
  have hn60 := hI.2.1
  have hO0 : ∀ a, (a < y ∨ y + 13 ≤ a) → h0 a = h0 a := fun _ _ => rfl
  refine Ct.of rfl hl (by simp [Value.category]) (Nat.le_of_ble_eq_true rfl) (fun K C E hRm hKl => ?_)
  subst hKl
  refine v_bipush (v := nI 6) C dX8_commandHere_0 (by decide) ?_
  refine v_aload_n C dX8_commandHere_2 rfl ?_
  refine v_get (v := .int (nI (cnt))) C 23 dX8_commandHere_3 wd7_20 hS.o rfl (by decide) ⟨rfl, rfl, rfl⟩ rfl ?_
  refine v_imulN C dX8_commandHere_6 ?_
  refine v_iconst (v := nI 1) C dX8_commandHere_7 (by decide) ?_
  refine v_iaddN C dX8_commandHere_8 ?_
  refine v_istore_n C dX8_commandHere_9 (by decide) ?_
  refine v_aload_n C dX8_commandHere_10 rfl ?_
  refine v_bipush (v := nI 104) C dX8_commandHere_11 (by decide) ?_
  refine v_callVq C (c_X8_skips hl hS (p := p) (len := n) (mo_pr_10 _ _ _ _) (hI.pr _ _ _).1 (by omega) hI.2.1 (nI 104)) dX8_commandHere_13 mX8_skips rfl hS.o rfl wd8_164 rfl rfl (Nat.le_of_ble_eq_true rfl) (hp_rmle hRm (by decide) (by decide)) (Nat.le_of_ble_eq_true rfl) (Nat.le_of_ble_eq_true rfl) (fun r13 n13 h13 q13 => ?_)
  obtain ⟨e13, k13, Y13, W13⟩ := q13
  have z13 := Eq.symm k13
  have z13 : n0 = n13 := z13
  subst z13
  have e13 : r13 = hp_b (sg t n (p) = 104) := e13.trans (hp_b_iff (hr_eq (hI.pr _ _ _) (by decide) (by decide)))
  subst e13
  have X13 := Y13.to (sk_pr hI (by decide) (by decide))
  have W13 : ∀ a, (a < y ∨ y + 13 ≤ a) → h13 a = h0 a := fun a ha => (W13 a ha).trans (hO0 a ha)
  refine v_if_eqB (tgt := 55) C dX8_commandHere_16 (by decide) (fun c16 => ?_) (fun c16 => ?_)
  · rw [if_neg c16] at X13
    refine v_aload_n C dX8_commandHere_55 rfl ?_
    refine v_bipush (v := nI 116) C dX8_commandHere_56 (by decide) ?_
    refine v_callVq C (c_X8_skips hl X13 (p := p) (len := n) (mo_pr_10 _ _ _ _) (hI.pr _ _ _).1 (by omega) hI.2.1 (nI 116)) dX8_commandHere_58 mX8_skips rfl X13.o rfl wd8_164 rfl rfl (Nat.le_of_ble_eq_true rfl) (hp_rmle hRm (by decide) (by decide)) (Nat.le_of_ble_eq_true rfl) (Nat.le_of_ble_eq_true rfl) (fun r58 n58 h58 q58 => ?_)
    obtain ⟨e58, k58, Y58, W58⟩ := q58
    have z58 := Eq.symm k58
    have z58 : n0 = n58 := z58
    subst z58
    have e58 : r58 = hp_b (sg t n (p) = 116) := e58.trans (hp_b_iff (hr_eq (hI.pr _ _ _) (by decide) (by decide)))
    subst e58
    have X58 := Y58.to (sk_pr hI (by decide) (by decide))
    have W58 : ∀ a, (a < y ∨ y + 13 ≤ a) → h58 a = h0 a := fun a ha => (W58 a ha).trans (W13 a ha)
    refine v_if_eqB (tgt := 70) C dX8_commandHere_61 (by decide) (fun c61 => ?_) (fun c61 => ?_)
    · rw [if_neg c61] at X58
      refine v_aload_n C dX8_commandHere_70 rfl ?_
      refine v_bipush (v := nI 113) C dX8_commandHere_71 (by decide) ?_
      refine v_callVq C (c_X8_skips hl X58 (p := p) (len := n) (mo_pr_10 _ _ _ _) (hI.pr _ _ _).1 (by omega) hI.2.1 (nI 113)) dX8_commandHere_73 mX8_skips rfl X58.o rfl wd8_164 rfl rfl (Nat.le_of_ble_eq_true rfl) (hp_rmle hRm (by decide) (by decide)) (Nat.le_of_ble_eq_true rfl) (Nat.le_of_ble_eq_true rfl) (fun r73 n73 h73 q73 => ?_)
      obtain ⟨e73, k73, Y73, W73⟩ := q73
      have z73 := Eq.symm k73
      have z73 : n0 = n73 := z73
      subst z73
      have e73 : r73 = hp_b (sg t n (p) = 113) := e73.trans (hp_b_iff (hr_eq (hI.pr _ _ _) (by decide) (by decide)))
      subst e73
      have X73 := Y73.to (sk_pr hI (by decide) (by decide))
      have W73 : ∀ a, (a < y ∨ y + 13 ≤ a) → h73 a = h0 a := fun a ha => (W73 a ha).trans (W58 a ha)
      refine v_if_eqB (tgt := 115) C dX8_commandHere_76 (by decide) (fun c76 => ?_) (fun c76 => ?_)
      · rw [if_neg c76] at X73
        refine v_aload_n C dX8_commandHere_115 rfl ?_
        refine v_bipush (v := nI 100) C dX8_commandHere_116 (by decide) ?_
        refine v_callVq C (c_X8_skips hl X73 (p := p) (len := n) (mo_pr_10 _ _ _ _) (hI.pr _ _ _).1 (by omega) hI.2.1 (nI 100)) dX8_commandHere_118 mX8_skips rfl X73.o rfl wd8_164 rfl rfl (Nat.le_of_ble_eq_true rfl) (hp_rmle hRm (by decide) (by decide)) (Nat.le_of_ble_eq_true rfl) (Nat.le_of_ble_eq_true rfl) (fun r118 n118 h118 q118 => ?_)
        obtain ⟨e118, k118, Y118, W118⟩ := q118
        have z118 := Eq.symm k118
        have z118 : n0 = n118 := z118
        subst z118
        have e118 : r118 = hp_b (sg t n (p) = 100) := e118.trans (hp_b_iff (hr_eq (hI.pr _ _ _) (by decide) (by decide)))
        subst e118
        have X118 := Y118.to (sk_pr hI (by decide) (by decide))
        have W118 : ∀ a, (a < y ∨ y + 13 ≤ a) → h118 a = h0 a := fun a ha => (W118 a ha).trans (W73 a ha)
        refine v_if_eqB (tgt := 130) C dX8_commandHere_121 (by decide) (fun c121 => ?_) (fun c121 => ?_)
        · rw [if_neg c121] at X118
          refine v_aload_n C dX8_commandHere_130 rfl ?_
          refine v_bipush (v := nI 112) C dX8_commandHere_131 (by decide) ?_
          refine v_callVq C (c_X8_skips hl X118 (p := p) (len := n) (mo_pr_10 _ _ _ _) (hI.pr _ _ _).1 (by omega) hI.2.1 (nI 112)) dX8_commandHere_133 mX8_skips rfl X118.o rfl wd8_164 rfl rfl (Nat.le_of_ble_eq_true rfl) (hp_rmle hRm (by decide) (by decide)) (Nat.le_of_ble_eq_true rfl) (Nat.le_of_ble_eq_true rfl) (fun r133 n133 h133 q133 => ?_)
          obtain ⟨e133, k133, Y133, W133⟩ := q133
          have z133 := Eq.symm k133
          have z133 : n0 = n133 := z133
          subst z133
          have e133 : r133 = hp_b (sg t n (p) = 112) := e133.trans (hp_b_iff (hr_eq (hI.pr _ _ _) (by decide) (by decide)))
          subst e133
          have X133 := Y133.to (sk_pr hI (by decide) (by decide))
          have W133 : ∀ a, (a < y ∨ y + 13 ≤ a) → h133 a = h0 a := fun a ha => (W133 a ha).trans (W118 a ha)
          refine v_if_eqB (tgt := 175) C dX8_commandHere_136 (by decide) (fun c136 => ?_) (fun c136 => ?_)
          · rw [if_neg c136] at X133
            refine v_aload_n C dX8_commandHere_175 rfl ?_
            refine v_bipush (v := nI 103) C dX8_commandHere_176 (by decide) ?_
            refine v_callVq C (c_X8_skips hl X133 (p := p) (len := n) (mo_pr_10 _ _ _ _) (hI.pr _ _ _).1 (by omega) hI.2.1 (nI 103)) dX8_commandHere_178 mX8_skips rfl X133.o rfl wd8_164 rfl rfl (Nat.le_of_ble_eq_true rfl) (hp_rmle hRm (by decide) (by decide)) (Nat.le_of_ble_eq_true rfl) (Nat.le_of_ble_eq_true rfl) (fun r178 n178 h178 q178 => ?_)
            obtain ⟨e178, k178, Y178, W178⟩ := q178
            have z178 := Eq.symm k178
            have z178 : n0 = n178 := z178
            subst z178
            have e178 : r178 = hp_b (sg t n (p) = 103) := e178.trans (hp_b_iff (hr_eq (hI.pr _ _ _) (by decide) (by decide)))
            subst e178
            have X178 := Y178.to (sk_pr hI (by decide) (by decide))
            have W178 : ∀ a, (a < y ∨ y + 13 ≤ a) → h178 a = h0 a := fun a ha => (W178 a ha).trans (W133 a ha)
            refine v_if_eqB (tgt := 219) C dX8_commandHere_181 (by decide) (fun c181 => ?_) (fun c181 => ?_)
            · rw [if_neg c181] at X178
              have vs : pc_C (sg t n) cnt (6 * cnt + 1) p T = (false, p, T) := (if_neg c16).trans ((if_neg c61).trans ((if_neg c76).trans ((if_neg c121).trans ((if_neg c136).trans (if_neg c181)))))
              refine v_iconst (v := nI 0) C dX8_commandHere_219 (by decide) ?_
              exact v_zret C E dX8_commandHere_220 rfl rfl ⟨_, rfl, by rw [vs, hp_b_f (fun z => by cases z)]; rfl, rfl, by rw [vs]; exact X178, W178⟩
            · rw [if_pos c181] at X178
              have hp181 := sg_in c181 (by decide)
              have vs : pc_C (sg t n) cnt (6 * cnt + 1) p T = pq_a (pq_w (sg t n) cnt 7 42 (p + 1) T) (fun p T => pq_a (pq_f (sg t n) 1 (6 * cnt + 1) p T) (fun p T => pq_f (sg t n) 4 ((6 * cnt + 1) + 1) p T)) := (if_neg c16).trans ((if_neg c61).trans ((if_neg c76).trans ((if_neg c121).trans ((if_neg c136).trans (if_pos c181)))))
              refine v_aload_n C dX8_commandHere_184 rfl ?_
              refine v_bipush (v := nI 7) C dX8_commandHere_185 (by decide) ?_
              refine v_ldcS C (kst := 42) dX8_commandHere_187 rfl ?_
              refine v_callVq C (c_X8_isWord hl hI X178 (by omega) (k := 42) (wh := 7) (by decide) (by decide) (hKc.same (fun a ha => W178 a (by omega))) hcnt) dX8_commandHere_189 mX8_isWord rfl X178.o rfl wd8_173 rfl rfl (Nat.le_of_ble_eq_true rfl) (hp_rmle hRm (by decide) (by decide)) (Nat.le_of_ble_eq_true rfl) (Nat.le_of_ble_eq_true rfl) (fun r189 n189 h189 q189 => ?_)
              have b189 : (pq_w (sg t n) cnt 7 42 (p + 1) T).2.1 ≤ n := (pq_w_le (by decide) (by decide) (by omega))
              obtain ⟨A189, hA189⟩ : ∃ A, A = pq_w (sg t n) cnt 7 42 (p + 1) T := ⟨_, rfl⟩
              rw [← hA189] at q189 b189
              obtain ⟨e189, k189, Y189, W189⟩ := q189
              have z189 := Eq.symm k189
              have z189 : n0 = n189 := z189
              subst z189
              subst e189
              have W189 : ∀ a, (a < y ∨ y + 13 ≤ a) → h189 a = h0 a := fun a ha => (W189 a ha).trans (W178 a ha)
              refine v_if_eqB (tgt := 219) C dX8_commandHere_192 (by decide) (fun c192 => ?_) (fun c192 => ?_)
              · have v192 := vs.trans (show pq_a (pq_w (sg t n) cnt 7 42 (p + 1) T) (fun p T => pq_a (pq_f (sg t n) 1 (6 * cnt + 1) p T) (fun p T => pq_f (sg t n) 4 ((6 * cnt + 1) + 1) p T)) = A189 by rw [← hA189]; exact if_neg c192)
                refine v_iconst (v := nI 0) C dX8_commandHere_219 (by decide) ?_
                exact v_zret C E dX8_commandHere_220 rfl rfl ⟨_, rfl, by rw [v192, hp_b_f c192]; rfl, rfl, by rw [v192]; exact Y189, W189⟩
              · have v192 := vs.trans (show pq_a (pq_w (sg t n) cnt 7 42 (p + 1) T) (fun p T => pq_a (pq_f (sg t n) 1 (6 * cnt + 1) p T) (fun p T => pq_f (sg t n) 4 ((6 * cnt + 1) + 1) p T)) = pq_a (pq_f (sg t n) 1 (6 * cnt + 1) A189.2.1 A189.2.2) (fun p T => pq_f (sg t n) 4 ((6 * cnt + 1) + 1) p T) by rw [← hA189]; exact if_pos c192)
                refine v_aload_n C dX8_commandHere_195 rfl ?_
                refine v_iload_n C dX8_commandHere_196 rfl ?_
                refine v_iconst (v := nI 1) C dX8_commandHere_197 (by decide) ?_
                refine v_callVq C (c_X8_figures hl hI Y189 (by omega) (pl := (6 * cnt + 1)) (dg := 1) (by omega) (by decide)) dX8_commandHere_198 mX8_figures rfl Y189.o rfl wd8_179 rfl rfl (Nat.le_of_ble_eq_true rfl) (hp_rmle hRm (by decide) (by decide)) (Nat.le_of_ble_eq_true rfl) (Nat.le_of_ble_eq_true rfl) (fun r198 n198 h198 q198 => ?_)
                have b198 : (pq_f (sg t n) 1 (6 * cnt + 1) A189.2.1 A189.2.2).2.1 ≤ n := (pq_f_le (by omega))
                obtain ⟨A198, hA198⟩ : ∃ A, A = pq_f (sg t n) 1 (6 * cnt + 1) A189.2.1 A189.2.2 := ⟨_, rfl⟩
                rw [← hA198] at q198 b198
                obtain ⟨e198, k198, Y198, W198⟩ := q198
                have z198 := Eq.symm k198
                have z198 : n0 = n198 := z198
                subst z198
                subst e198
                have W198 : ∀ a, (a < y ∨ y + 13 ≤ a) → h198 a = h0 a := fun a ha => (W198 a ha).trans (W189 a ha)
                refine v_if_eqB (tgt := 219) C dX8_commandHere_201 (by decide) (fun c201 => ?_) (fun c201 => ?_)
                · have v201 := v192.trans (show pq_a (pq_f (sg t n) 1 (6 * cnt + 1) A189.2.1 A189.2.2) (fun p T => pq_f (sg t n) 4 ((6 * cnt + 1) + 1) p T) = A198 by rw [← hA198]; exact if_neg c201)
                  refine v_iconst (v := nI 0) C dX8_commandHere_219 (by decide) ?_
                  exact v_zret C E dX8_commandHere_220 rfl rfl ⟨_, rfl, by rw [v201, hp_b_f c201]; rfl, rfl, by rw [v201]; exact Y198, W198⟩
                · have v201 := v192.trans (show pq_a (pq_f (sg t n) 1 (6 * cnt + 1) A189.2.1 A189.2.2) (fun p T => pq_f (sg t n) 4 ((6 * cnt + 1) + 1) p T) = pq_f (sg t n) 4 ((6 * cnt + 1) + 1) A198.2.1 A198.2.2 by rw [← hA198]; exact if_pos c201)
                  refine v_aload_n C dX8_commandHere_204 rfl ?_
                  refine v_iload_n C dX8_commandHere_205 rfl ?_
                  refine v_iconst (v := nI 1) C dX8_commandHere_206 (by decide) ?_
                  refine v_iaddN C dX8_commandHere_207 ?_
                  refine v_iconst (v := nI 4) C dX8_commandHere_208 (by decide) ?_
                  refine v_callVq C (c_X8_figures hl hI Y198 (by omega) (pl := ((6 * cnt + 1) + 1)) (dg := 4) (by omega) (by decide)) dX8_commandHere_209 mX8_figures rfl Y198.o rfl wd8_179 rfl rfl (Nat.le_of_ble_eq_true rfl) (hp_rmle hRm (by decide) (by decide)) (Nat.le_of_ble_eq_true rfl) (Nat.le_of_ble_eq_true rfl) (fun r209 n209 h209 q209 => ?_)
                  have b209 : (pq_f (sg t n) 4 ((6 * cnt + 1) + 1) A198.2.1 A198.2.2).2.1 ≤ n := (pq_f_le (by omega))
                  obtain ⟨A209, hA209⟩ : ∃ A, A = pq_f (sg t n) 4 ((6 * cnt + 1) + 1) A198.2.1 A198.2.2 := ⟨_, rfl⟩
                  rw [← hA209] at q209 b209
                  obtain ⟨e209, k209, Y209, W209⟩ := q209
                  have z209 := Eq.symm k209
                  have z209 : n0 = n209 := z209
                  subst z209
                  subst e209
                  have W209 : ∀ a, (a < y ∨ y + 13 ≤ a) → h209 a = h0 a := fun a ha => (W209 a ha).trans (W198 a ha)
                  refine v_if_eqB (tgt := 219) C dX8_commandHere_212 (by decide) (fun c212 => ?_) (fun c212 => ?_)
                  · have v212 := v201.trans hA209.symm
                    refine v_iconst (v := nI 0) C dX8_commandHere_219 (by decide) ?_
                    exact v_zret C E dX8_commandHere_220 rfl rfl ⟨_, rfl, by rw [v212, hp_b_f c212]; rfl, rfl, by rw [v212]; exact Y209, W209⟩
                  · have v212 := v201.trans hA209.symm
                    refine v_iconst (v := nI 1) C dX8_commandHere_215 (by decide) ?_
                    refine v_goto (tgt := 220) C dX8_commandHere_216 (by decide) ?_
                    exact v_zret C E dX8_commandHere_220 rfl rfl ⟨_, rfl, by rw [v212, hp_b_t c212]; rfl, rfl, by rw [v212]; exact Y209, W209⟩
          · rw [if_pos c136] at X133
            have hp136 := sg_in c136 (by decide)
            have vs : pc_C (sg t n) cnt (6 * cnt + 1) p T = pq_a (pq_w (sg t n) cnt 5 41 (p + 1) T) (fun p T => pq_a (pq_f (sg t n) 1 (6 * cnt + 1) p T) (fun p T => pq_f (sg t n) 4 ((6 * cnt + 1) + 1) p T)) := (if_neg c16).trans ((if_neg c61).trans ((if_neg c76).trans ((if_neg c121).trans (if_pos c136))))
            refine v_aload_n C dX8_commandHere_139 rfl ?_
            refine v_iconst (v := nI 5) C dX8_commandHere_140 (by decide) ?_
            refine v_ldcS C (kst := 41) dX8_commandHere_141 rfl ?_
            refine v_callVq C (c_X8_isWord hl hI X133 (by omega) (k := 41) (wh := 5) (by decide) (by decide) (hKc.same (fun a ha => W133 a (by omega))) hcnt) dX8_commandHere_143 mX8_isWord rfl X133.o rfl wd8_173 rfl rfl (Nat.le_of_ble_eq_true rfl) (hp_rmle hRm (by decide) (by decide)) (Nat.le_of_ble_eq_true rfl) (Nat.le_of_ble_eq_true rfl) (fun r143 n143 h143 q143 => ?_)
            have b143 : (pq_w (sg t n) cnt 5 41 (p + 1) T).2.1 ≤ n := (pq_w_le (by decide) (by decide) (by omega))
            obtain ⟨A143, hA143⟩ : ∃ A, A = pq_w (sg t n) cnt 5 41 (p + 1) T := ⟨_, rfl⟩
            rw [← hA143] at q143 b143
            obtain ⟨e143, k143, Y143, W143⟩ := q143
            have z143 := Eq.symm k143
            have z143 : n0 = n143 := z143
            subst z143
            subst e143
            have W143 : ∀ a, (a < y ∨ y + 13 ≤ a) → h143 a = h0 a := fun a ha => (W143 a ha).trans (W133 a ha)
            refine v_if_eqB (tgt := 173) C dX8_commandHere_146 (by decide) (fun c146 => ?_) (fun c146 => ?_)
            · have v146 := vs.trans (show pq_a (pq_w (sg t n) cnt 5 41 (p + 1) T) (fun p T => pq_a (pq_f (sg t n) 1 (6 * cnt + 1) p T) (fun p T => pq_f (sg t n) 4 ((6 * cnt + 1) + 1) p T)) = A143 by rw [← hA143]; exact if_neg c146)
              refine v_iconst (v := nI 0) C dX8_commandHere_173 (by decide) ?_
              exact v_zret C E dX8_commandHere_174 rfl rfl ⟨_, rfl, by rw [v146, hp_b_f c146]; rfl, rfl, by rw [v146]; exact Y143, W143⟩
            · have v146 := vs.trans (show pq_a (pq_w (sg t n) cnt 5 41 (p + 1) T) (fun p T => pq_a (pq_f (sg t n) 1 (6 * cnt + 1) p T) (fun p T => pq_f (sg t n) 4 ((6 * cnt + 1) + 1) p T)) = pq_a (pq_f (sg t n) 1 (6 * cnt + 1) A143.2.1 A143.2.2) (fun p T => pq_f (sg t n) 4 ((6 * cnt + 1) + 1) p T) by rw [← hA143]; exact if_pos c146)
              refine v_aload_n C dX8_commandHere_149 rfl ?_
              refine v_iload_n C dX8_commandHere_150 rfl ?_
              refine v_iconst (v := nI 1) C dX8_commandHere_151 (by decide) ?_
              refine v_callVq C (c_X8_figures hl hI Y143 (by omega) (pl := (6 * cnt + 1)) (dg := 1) (by omega) (by decide)) dX8_commandHere_152 mX8_figures rfl Y143.o rfl wd8_179 rfl rfl (Nat.le_of_ble_eq_true rfl) (hp_rmle hRm (by decide) (by decide)) (Nat.le_of_ble_eq_true rfl) (Nat.le_of_ble_eq_true rfl) (fun r152 n152 h152 q152 => ?_)
              have b152 : (pq_f (sg t n) 1 (6 * cnt + 1) A143.2.1 A143.2.2).2.1 ≤ n := (pq_f_le (by omega))
              obtain ⟨A152, hA152⟩ : ∃ A, A = pq_f (sg t n) 1 (6 * cnt + 1) A143.2.1 A143.2.2 := ⟨_, rfl⟩
              rw [← hA152] at q152 b152
              obtain ⟨e152, k152, Y152, W152⟩ := q152
              have z152 := Eq.symm k152
              have z152 : n0 = n152 := z152
              subst z152
              subst e152
              have W152 : ∀ a, (a < y ∨ y + 13 ≤ a) → h152 a = h0 a := fun a ha => (W152 a ha).trans (W143 a ha)
              refine v_if_eqB (tgt := 173) C dX8_commandHere_155 (by decide) (fun c155 => ?_) (fun c155 => ?_)
              · have v155 := v146.trans (show pq_a (pq_f (sg t n) 1 (6 * cnt + 1) A143.2.1 A143.2.2) (fun p T => pq_f (sg t n) 4 ((6 * cnt + 1) + 1) p T) = A152 by rw [← hA152]; exact if_neg c155)
                refine v_iconst (v := nI 0) C dX8_commandHere_173 (by decide) ?_
                exact v_zret C E dX8_commandHere_174 rfl rfl ⟨_, rfl, by rw [v155, hp_b_f c155]; rfl, rfl, by rw [v155]; exact Y152, W152⟩
              · have v155 := v146.trans (show pq_a (pq_f (sg t n) 1 (6 * cnt + 1) A143.2.1 A143.2.2) (fun p T => pq_f (sg t n) 4 ((6 * cnt + 1) + 1) p T) = pq_f (sg t n) 4 ((6 * cnt + 1) + 1) A152.2.1 A152.2.2 by rw [← hA152]; exact if_pos c155)
                refine v_aload_n C dX8_commandHere_158 rfl ?_
                refine v_iload_n C dX8_commandHere_159 rfl ?_
                refine v_iconst (v := nI 1) C dX8_commandHere_160 (by decide) ?_
                refine v_iaddN C dX8_commandHere_161 ?_
                refine v_iconst (v := nI 4) C dX8_commandHere_162 (by decide) ?_
                refine v_callVq C (c_X8_figures hl hI Y152 (by omega) (pl := ((6 * cnt + 1) + 1)) (dg := 4) (by omega) (by decide)) dX8_commandHere_163 mX8_figures rfl Y152.o rfl wd8_179 rfl rfl (Nat.le_of_ble_eq_true rfl) (hp_rmle hRm (by decide) (by decide)) (Nat.le_of_ble_eq_true rfl) (Nat.le_of_ble_eq_true rfl) (fun r163 n163 h163 q163 => ?_)
                have b163 : (pq_f (sg t n) 4 ((6 * cnt + 1) + 1) A152.2.1 A152.2.2).2.1 ≤ n := (pq_f_le (by omega))
                obtain ⟨A163, hA163⟩ : ∃ A, A = pq_f (sg t n) 4 ((6 * cnt + 1) + 1) A152.2.1 A152.2.2 := ⟨_, rfl⟩
                rw [← hA163] at q163 b163
                obtain ⟨e163, k163, Y163, W163⟩ := q163
                have z163 := Eq.symm k163
                have z163 : n0 = n163 := z163
                subst z163
                subst e163
                have W163 : ∀ a, (a < y ∨ y + 13 ≤ a) → h163 a = h0 a := fun a ha => (W163 a ha).trans (W152 a ha)
                refine v_if_eqB (tgt := 173) C dX8_commandHere_166 (by decide) (fun c166 => ?_) (fun c166 => ?_)
                · have v166 := v155.trans hA163.symm
                  refine v_iconst (v := nI 0) C dX8_commandHere_173 (by decide) ?_
                  exact v_zret C E dX8_commandHere_174 rfl rfl ⟨_, rfl, by rw [v166, hp_b_f c166]; rfl, rfl, by rw [v166]; exact Y163, W163⟩
                · have v166 := v155.trans hA163.symm
                  refine v_iconst (v := nI 1) C dX8_commandHere_169 (by decide) ?_
                  refine v_goto (tgt := 174) C dX8_commandHere_170 (by decide) ?_
                  exact v_zret C E dX8_commandHere_174 rfl rfl ⟨_, rfl, by rw [v166, hp_b_t c166]; rfl, rfl, by rw [v166]; exact Y163, W163⟩
        · rw [if_pos c121] at X118
          have hp121 := sg_in c121 (by decide)
          have vs : pc_C (sg t n) cnt (6 * cnt + 1) p T = pc_D (sg t n) cnt (6 * cnt + 1) (p + 1) T := (if_neg c16).trans ((if_neg c61).trans ((if_neg c76).trans (if_pos c121)))
          refine v_aload_n C dX8_commandHere_124 rfl ?_
          refine v_iload_n C dX8_commandHere_125 rfl ?_
          refine v_callVq C (c_X8_withD hl hI X118 (by omega) (hKc.same (fun a ha => W118 a (by omega))) hcnt (pl := (6 * cnt + 1)) (by omega)) dX8_commandHere_126 mX8_withD rfl X118.o rfl wd8_190 rfl rfl (Nat.le_of_ble_eq_true rfl) (hp_rmle hRm (by decide) (by decide)) (Nat.le_of_ble_eq_true rfl) (Nat.le_of_ble_eq_true rfl) (fun r126 n126 h126 q126 => ?_)
          obtain ⟨e126, k126, Y126, W126⟩ := q126
          have z126 := Eq.symm k126
          have z126 : n0 = n126 := z126
          subst z126
          subst e126
          have W126 : ∀ a, (a < y ∨ y + 13 ≤ a) → h126 a = h0 a := fun a ha => (W126 a ha).trans (W118 a ha)
          exact v_zret C E dX8_commandHere_129 rfl (hp_nb _) ⟨_, rfl, by rw [vs], rfl, by rw [vs]; exact Y126, W126⟩
      · rw [if_pos c76] at X73
        have hp76 := sg_in c76 (by decide)
        have vs : pc_C (sg t n) cnt (6 * cnt + 1) p T = pq_a (pq_w (sg t n) cnt 3 38 (p + 1) T) (fun p T => pq_a (pq_f (sg t n) 1 (6 * cnt + 1) p T) (fun p T => pq_f (sg t n) 2 ((6 * cnt + 1) + 1) p T)) := (if_neg c16).trans ((if_neg c61).trans (if_pos c76))
        refine v_aload_n C dX8_commandHere_79 rfl ?_
        refine v_iconst (v := nI 3) C dX8_commandHere_80 (by decide) ?_
        refine v_ldcS C (kst := 38) dX8_commandHere_81 rfl ?_
        refine v_callVq C (c_X8_isWord hl hI X73 (by omega) (k := 38) (wh := 3) (by decide) (by decide) (hKc.same (fun a ha => W73 a (by omega))) hcnt) dX8_commandHere_83 mX8_isWord rfl X73.o rfl wd8_173 rfl rfl (Nat.le_of_ble_eq_true rfl) (hp_rmle hRm (by decide) (by decide)) (Nat.le_of_ble_eq_true rfl) (Nat.le_of_ble_eq_true rfl) (fun r83 n83 h83 q83 => ?_)
        have b83 : (pq_w (sg t n) cnt 3 38 (p + 1) T).2.1 ≤ n := (pq_w_le (by decide) (by decide) (by omega))
        obtain ⟨A83, hA83⟩ : ∃ A, A = pq_w (sg t n) cnt 3 38 (p + 1) T := ⟨_, rfl⟩
        rw [← hA83] at q83 b83
        obtain ⟨e83, k83, Y83, W83⟩ := q83
        have z83 := Eq.symm k83
        have z83 : n0 = n83 := z83
        subst z83
        subst e83
        have W83 : ∀ a, (a < y ∨ y + 13 ≤ a) → h83 a = h0 a := fun a ha => (W83 a ha).trans (W73 a ha)
        refine v_if_eqB (tgt := 113) C dX8_commandHere_86 (by decide) (fun c86 => ?_) (fun c86 => ?_)
        · have v86 := vs.trans (show pq_a (pq_w (sg t n) cnt 3 38 (p + 1) T) (fun p T => pq_a (pq_f (sg t n) 1 (6 * cnt + 1) p T) (fun p T => pq_f (sg t n) 2 ((6 * cnt + 1) + 1) p T)) = A83 by rw [← hA83]; exact if_neg c86)
          refine v_iconst (v := nI 0) C dX8_commandHere_113 (by decide) ?_
          exact v_zret C E dX8_commandHere_114 rfl rfl ⟨_, rfl, by rw [v86, hp_b_f c86]; rfl, rfl, by rw [v86]; exact Y83, W83⟩
        · have v86 := vs.trans (show pq_a (pq_w (sg t n) cnt 3 38 (p + 1) T) (fun p T => pq_a (pq_f (sg t n) 1 (6 * cnt + 1) p T) (fun p T => pq_f (sg t n) 2 ((6 * cnt + 1) + 1) p T)) = pq_a (pq_f (sg t n) 1 (6 * cnt + 1) A83.2.1 A83.2.2) (fun p T => pq_f (sg t n) 2 ((6 * cnt + 1) + 1) p T) by rw [← hA83]; exact if_pos c86)
          refine v_aload_n C dX8_commandHere_89 rfl ?_
          refine v_iload_n C dX8_commandHere_90 rfl ?_
          refine v_iconst (v := nI 1) C dX8_commandHere_91 (by decide) ?_
          refine v_callVq C (c_X8_figures hl hI Y83 (by omega) (pl := (6 * cnt + 1)) (dg := 1) (by omega) (by decide)) dX8_commandHere_92 mX8_figures rfl Y83.o rfl wd8_179 rfl rfl (Nat.le_of_ble_eq_true rfl) (hp_rmle hRm (by decide) (by decide)) (Nat.le_of_ble_eq_true rfl) (Nat.le_of_ble_eq_true rfl) (fun r92 n92 h92 q92 => ?_)
          have b92 : (pq_f (sg t n) 1 (6 * cnt + 1) A83.2.1 A83.2.2).2.1 ≤ n := (pq_f_le (by omega))
          obtain ⟨A92, hA92⟩ : ∃ A, A = pq_f (sg t n) 1 (6 * cnt + 1) A83.2.1 A83.2.2 := ⟨_, rfl⟩
          rw [← hA92] at q92 b92
          obtain ⟨e92, k92, Y92, W92⟩ := q92
          have z92 := Eq.symm k92
          have z92 : n0 = n92 := z92
          subst z92
          subst e92
          have W92 : ∀ a, (a < y ∨ y + 13 ≤ a) → h92 a = h0 a := fun a ha => (W92 a ha).trans (W83 a ha)
          refine v_if_eqB (tgt := 113) C dX8_commandHere_95 (by decide) (fun c95 => ?_) (fun c95 => ?_)
          · have v95 := v86.trans (show pq_a (pq_f (sg t n) 1 (6 * cnt + 1) A83.2.1 A83.2.2) (fun p T => pq_f (sg t n) 2 ((6 * cnt + 1) + 1) p T) = A92 by rw [← hA92]; exact if_neg c95)
            refine v_iconst (v := nI 0) C dX8_commandHere_113 (by decide) ?_
            exact v_zret C E dX8_commandHere_114 rfl rfl ⟨_, rfl, by rw [v95, hp_b_f c95]; rfl, rfl, by rw [v95]; exact Y92, W92⟩
          · have v95 := v86.trans (show pq_a (pq_f (sg t n) 1 (6 * cnt + 1) A83.2.1 A83.2.2) (fun p T => pq_f (sg t n) 2 ((6 * cnt + 1) + 1) p T) = pq_f (sg t n) 2 ((6 * cnt + 1) + 1) A92.2.1 A92.2.2 by rw [← hA92]; exact if_pos c95)
            refine v_aload_n C dX8_commandHere_98 rfl ?_
            refine v_iload_n C dX8_commandHere_99 rfl ?_
            refine v_iconst (v := nI 1) C dX8_commandHere_100 (by decide) ?_
            refine v_iaddN C dX8_commandHere_101 ?_
            refine v_iconst (v := nI 2) C dX8_commandHere_102 (by decide) ?_
            refine v_callVq C (c_X8_figures hl hI Y92 (by omega) (pl := ((6 * cnt + 1) + 1)) (dg := 2) (by omega) (by decide)) dX8_commandHere_103 mX8_figures rfl Y92.o rfl wd8_179 rfl rfl (Nat.le_of_ble_eq_true rfl) (hp_rmle hRm (by decide) (by decide)) (Nat.le_of_ble_eq_true rfl) (Nat.le_of_ble_eq_true rfl) (fun r103 n103 h103 q103 => ?_)
            have b103 : (pq_f (sg t n) 2 ((6 * cnt + 1) + 1) A92.2.1 A92.2.2).2.1 ≤ n := (pq_f_le (by omega))
            obtain ⟨A103, hA103⟩ : ∃ A, A = pq_f (sg t n) 2 ((6 * cnt + 1) + 1) A92.2.1 A92.2.2 := ⟨_, rfl⟩
            rw [← hA103] at q103 b103
            obtain ⟨e103, k103, Y103, W103⟩ := q103
            have z103 := Eq.symm k103
            have z103 : n0 = n103 := z103
            subst z103
            subst e103
            have W103 : ∀ a, (a < y ∨ y + 13 ≤ a) → h103 a = h0 a := fun a ha => (W103 a ha).trans (W92 a ha)
            refine v_if_eqB (tgt := 113) C dX8_commandHere_106 (by decide) (fun c106 => ?_) (fun c106 => ?_)
            · have v106 := v95.trans hA103.symm
              refine v_iconst (v := nI 0) C dX8_commandHere_113 (by decide) ?_
              exact v_zret C E dX8_commandHere_114 rfl rfl ⟨_, rfl, by rw [v106, hp_b_f c106]; rfl, rfl, by rw [v106]; exact Y103, W103⟩
            · have v106 := v95.trans hA103.symm
              refine v_iconst (v := nI 1) C dX8_commandHere_109 (by decide) ?_
              refine v_goto (tgt := 114) C dX8_commandHere_110 (by decide) ?_
              exact v_zret C E dX8_commandHere_114 rfl rfl ⟨_, rfl, by rw [v106, hp_b_t c106]; rfl, rfl, by rw [v106]; exact Y103, W103⟩
    · rw [if_pos c61] at X58
      have hp61 := sg_in c61 (by decide)
      have vs : pc_C (sg t n) cnt (6 * cnt + 1) p T = pc_T (sg t n) cnt (6 * cnt + 1) (p + 1) T := (if_neg c16).trans (if_pos c61)
      refine v_aload_n C dX8_commandHere_64 rfl ?_
      refine v_iload_n C dX8_commandHere_65 rfl ?_
      refine v_callVq C (c_X8_withT hl hI X58 (by omega) (hKc.same (fun a ha => W58 a (by omega))) hcnt (pl := (6 * cnt + 1)) (by omega)) dX8_commandHere_66 mX8_withT rfl X58.o rfl wd8_183 rfl rfl (Nat.le_of_ble_eq_true rfl) (hp_rmle hRm (by decide) (by decide)) (Nat.le_of_ble_eq_true rfl) (Nat.le_of_ble_eq_true rfl) (fun r66 n66 h66 q66 => ?_)
      obtain ⟨e66, k66, Y66, W66⟩ := q66
      have z66 := Eq.symm k66
      have z66 : n0 = n66 := z66
      subst z66
      subst e66
      have W66 : ∀ a, (a < y ∨ y + 13 ≤ a) → h66 a = h0 a := fun a ha => (W66 a ha).trans (W58 a ha)
      exact v_zret C E dX8_commandHere_69 rfl (hp_nb _) ⟨_, rfl, by rw [vs], rfl, by rw [vs]; exact Y66, W66⟩
  · rw [if_pos c16] at X13
    have hp16 := sg_in c16 (by decide)
    have vs : pc_C (sg t n) cnt (6 * cnt + 1) p T = pq_a (pq_w (sg t n) cnt 0 35 (p + 1) T) (fun p T => pq_a (pq_f (sg t n) 2 (6 * cnt + 1) p T) (fun p T => pq_f (sg t n) 2 ((6 * cnt + 1) + 1) p T)) := if_pos c16
    refine v_aload_n C dX8_commandHere_19 rfl ?_
    refine v_iconst (v := nI 0) C dX8_commandHere_20 (by decide) ?_
    refine v_ldcS C (kst := 35) dX8_commandHere_21 rfl ?_
    refine v_callVq C (c_X8_isWord hl hI X13 (by omega) (k := 35) (wh := 0) (by decide) (by decide) (hKc.same (fun a ha => W13 a (by omega))) hcnt) dX8_commandHere_23 mX8_isWord rfl X13.o rfl wd8_173 rfl rfl (Nat.le_of_ble_eq_true rfl) (hp_rmle hRm (by decide) (by decide)) (Nat.le_of_ble_eq_true rfl) (Nat.le_of_ble_eq_true rfl) (fun r23 n23 h23 q23 => ?_)
    have b23 : (pq_w (sg t n) cnt 0 35 (p + 1) T).2.1 ≤ n := (pq_w_le (by decide) (by decide) (by omega))
    obtain ⟨A23, hA23⟩ : ∃ A, A = pq_w (sg t n) cnt 0 35 (p + 1) T := ⟨_, rfl⟩
    rw [← hA23] at q23 b23
    obtain ⟨e23, k23, Y23, W23⟩ := q23
    have z23 := Eq.symm k23
    have z23 : n0 = n23 := z23
    subst z23
    subst e23
    have W23 : ∀ a, (a < y ∨ y + 13 ≤ a) → h23 a = h0 a := fun a ha => (W23 a ha).trans (W13 a ha)
    refine v_if_eqB (tgt := 53) C dX8_commandHere_26 (by decide) (fun c26 => ?_) (fun c26 => ?_)
    · have v26 := vs.trans (show pq_a (pq_w (sg t n) cnt 0 35 (p + 1) T) (fun p T => pq_a (pq_f (sg t n) 2 (6 * cnt + 1) p T) (fun p T => pq_f (sg t n) 2 ((6 * cnt + 1) + 1) p T)) = A23 by rw [← hA23]; exact if_neg c26)
      refine v_iconst (v := nI 0) C dX8_commandHere_53 (by decide) ?_
      exact v_zret C E dX8_commandHere_54 rfl rfl ⟨_, rfl, by rw [v26, hp_b_f c26]; rfl, rfl, by rw [v26]; exact Y23, W23⟩
    · have v26 := vs.trans (show pq_a (pq_w (sg t n) cnt 0 35 (p + 1) T) (fun p T => pq_a (pq_f (sg t n) 2 (6 * cnt + 1) p T) (fun p T => pq_f (sg t n) 2 ((6 * cnt + 1) + 1) p T)) = pq_a (pq_f (sg t n) 2 (6 * cnt + 1) A23.2.1 A23.2.2) (fun p T => pq_f (sg t n) 2 ((6 * cnt + 1) + 1) p T) by rw [← hA23]; exact if_pos c26)
      refine v_aload_n C dX8_commandHere_29 rfl ?_
      refine v_iload_n C dX8_commandHere_30 rfl ?_
      refine v_iconst (v := nI 2) C dX8_commandHere_31 (by decide) ?_
      refine v_callVq C (c_X8_figures hl hI Y23 (by omega) (pl := (6 * cnt + 1)) (dg := 2) (by omega) (by decide)) dX8_commandHere_32 mX8_figures rfl Y23.o rfl wd8_179 rfl rfl (Nat.le_of_ble_eq_true rfl) (hp_rmle hRm (by decide) (by decide)) (Nat.le_of_ble_eq_true rfl) (Nat.le_of_ble_eq_true rfl) (fun r32 n32 h32 q32 => ?_)
      have b32 : (pq_f (sg t n) 2 (6 * cnt + 1) A23.2.1 A23.2.2).2.1 ≤ n := (pq_f_le (by omega))
      obtain ⟨A32, hA32⟩ : ∃ A, A = pq_f (sg t n) 2 (6 * cnt + 1) A23.2.1 A23.2.2 := ⟨_, rfl⟩
      rw [← hA32] at q32 b32
      obtain ⟨e32, k32, Y32, W32⟩ := q32
      have z32 := Eq.symm k32
      have z32 : n0 = n32 := z32
      subst z32
      subst e32
      have W32 : ∀ a, (a < y ∨ y + 13 ≤ a) → h32 a = h0 a := fun a ha => (W32 a ha).trans (W23 a ha)
      refine v_if_eqB (tgt := 53) C dX8_commandHere_35 (by decide) (fun c35 => ?_) (fun c35 => ?_)
      · have v35 := v26.trans (show pq_a (pq_f (sg t n) 2 (6 * cnt + 1) A23.2.1 A23.2.2) (fun p T => pq_f (sg t n) 2 ((6 * cnt + 1) + 1) p T) = A32 by rw [← hA32]; exact if_neg c35)
        refine v_iconst (v := nI 0) C dX8_commandHere_53 (by decide) ?_
        exact v_zret C E dX8_commandHere_54 rfl rfl ⟨_, rfl, by rw [v35, hp_b_f c35]; rfl, rfl, by rw [v35]; exact Y32, W32⟩
      · have v35 := v26.trans (show pq_a (pq_f (sg t n) 2 (6 * cnt + 1) A23.2.1 A23.2.2) (fun p T => pq_f (sg t n) 2 ((6 * cnt + 1) + 1) p T) = pq_f (sg t n) 2 ((6 * cnt + 1) + 1) A32.2.1 A32.2.2 by rw [← hA32]; exact if_pos c35)
        refine v_aload_n C dX8_commandHere_38 rfl ?_
        refine v_iload_n C dX8_commandHere_39 rfl ?_
        refine v_iconst (v := nI 1) C dX8_commandHere_40 (by decide) ?_
        refine v_iaddN C dX8_commandHere_41 ?_
        refine v_iconst (v := nI 2) C dX8_commandHere_42 (by decide) ?_
        refine v_callVq C (c_X8_figures hl hI Y32 (by omega) (pl := ((6 * cnt + 1) + 1)) (dg := 2) (by omega) (by decide)) dX8_commandHere_43 mX8_figures rfl Y32.o rfl wd8_179 rfl rfl (Nat.le_of_ble_eq_true rfl) (hp_rmle hRm (by decide) (by decide)) (Nat.le_of_ble_eq_true rfl) (Nat.le_of_ble_eq_true rfl) (fun r43 n43 h43 q43 => ?_)
        have b43 : (pq_f (sg t n) 2 ((6 * cnt + 1) + 1) A32.2.1 A32.2.2).2.1 ≤ n := (pq_f_le (by omega))
        obtain ⟨A43, hA43⟩ : ∃ A, A = pq_f (sg t n) 2 ((6 * cnt + 1) + 1) A32.2.1 A32.2.2 := ⟨_, rfl⟩
        rw [← hA43] at q43 b43
        obtain ⟨e43, k43, Y43, W43⟩ := q43
        have z43 := Eq.symm k43
        have z43 : n0 = n43 := z43
        subst z43
        subst e43
        have W43 : ∀ a, (a < y ∨ y + 13 ≤ a) → h43 a = h0 a := fun a ha => (W43 a ha).trans (W32 a ha)
        refine v_if_eqB (tgt := 53) C dX8_commandHere_46 (by decide) (fun c46 => ?_) (fun c46 => ?_)
        · have v46 := v35.trans hA43.symm
          refine v_iconst (v := nI 0) C dX8_commandHere_53 (by decide) ?_
          exact v_zret C E dX8_commandHere_54 rfl rfl ⟨_, rfl, by rw [v46, hp_b_f c46]; rfl, rfl, by rw [v46]; exact Y43, W43⟩
        · have v46 := v35.trans hA43.symm
          refine v_iconst (v := nI 1) C dX8_commandHere_49 (by decide) ?_
          refine v_goto (tgt := 54) C dX8_commandHere_50 (by decide) ?_
          exact v_zret C E dX8_commandHere_54 rfl rfl ⟨_, rfl, by rw [v46, hp_b_t c46]; rfl, rfl, by rw [v46]; exact Y43, W43⟩

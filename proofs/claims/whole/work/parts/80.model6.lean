/-! ===== THE MODEL: what is kept, undone, typed ===== -/
theorem mo_si_eq {S : mo_T} {j : Nat} {v : Int32} (h : S.2 j = v) : S = mo_si S j v := by
  refine Prod.ext rfl (funext fun i => ?_)
  show S.2 i = upd S.2 j v i
  by_cases q : i = j
  · rw [q, pk_us]
    exact h
  · rw [pk_un q]
theorem mo_uu (f : Nat → Int32) (j : Nat) (a b : Int32) : upd (upd f j a) j b = upd f j b := by
  refine funext fun i => ?_
  by_cases q : i = j
  · rw [q, pk_us, pk_us]
  · rw [pk_un q, pk_un q, pk_un q]
theorem mo_uc (f : Nat → Int32) {j k : Nat} (h : j ≠ k) (a b : Int32) : upd (upd f j a) k b = upd (upd f k b) j a := by
  refine funext fun i => ?_
  by_cases q : i = k
  · rw [q, pk_us, pk_un (Ne.symm h), pk_us]
  · rw [pk_un q]
    by_cases p : i = j
    · rw [p, pk_us, pk_us]
    · rw [pk_un p, pk_un p, pk_un q]
/-- the first n of what is kept are moved down by one row -/
def mo_sh (S : mo_T) (n : Nat) : mo_T := (fun j => if j = 1 then (fun i => if i < n then S.1 1 (i + 138) else S.1 1 i) else S.1 j, S.2)
theorem mo_sh_0 (S : mo_T) : mo_sh S 0 = S := by
  refine Prod.ext (funext fun j => ?_) rfl
  show (if j = 1 then _ else _) = _
  by_cases q : j = 1
  · rw [if_pos q, q]
    refine funext fun i => ?_
    show (if i < 0 then _ else _) = _
    exact if_neg (by omega)
  · exact if_neg q
theorem mo_sh_s {S : mo_T} {n : Nat} : mo_sa (mo_sh S n) 1 n ((mo_sh S n).1 1 (n + 138)) = mo_sh S (n + 1) := by
  have e : (mo_sh S n).1 1 = fun i => if i < n then S.1 1 (i + 138) else S.1 1 i := rfl
  refine Prod.ext (funext fun j => ?_) rfl
  show (if j = 1 then upd ((mo_sh S n).1 1) n ((mo_sh S n).1 1 (n + 138)) else (if j = 1 then _ else _)) = (if j = 1 then _ else _)
  by_cases q : j = 1
  · rw [if_pos q, if_pos q, e]
    refine funext fun i => ?_
    by_cases p : i = n
    · rw [p, pk_us]
      show (if n + 138 < n then _ else _) = (if n < n + 1 then _ else _)
      rw [if_neg (by omega), if_pos (by omega)]
    · rw [pk_un p]
      show (if i < n then _ else _) = (if i < n + 1 then _ else _)
      by_cases z : i < n
      · rw [if_pos z, if_pos (by omega)]
      · rw [if_neg z, if_neg (by omega)]
  · rw [if_neg q, if_neg q, if_neg q]
/-- a row is kept -/
def mo_kp (S : mo_T) (kf ch : Nat) : mo_T := if ¬ S.2 2 = 0 then mo_si S 3 (nI 0) else if ch = 8 then mo_si (mo_cp (mo_sh (mo_si S 3 (nI 0)) 966) kf 0 1 966 138) 1 (nI 8) else mo_si (mo_cp (mo_si S 3 (nI 0)) kf 0 1 (138 * ch) 138) 1 (nI (ch + 1))
set_option maxHeartbeats 4000000 in
theorem loop_X8_keeps {G : hp_G} {K : hp_C} {n0 r : Nat} {h0 : Nat → Option va_E} {y : Nat} {S : mo_T} (C : hp_Cx G K MX8_keeps) (hbase : G.2.1 ≤ y) (hk : ∀ h, Mo G h y (mo_sh S 966) → (∀ a, (a < y ∨ y + 13 ≤ a) → h a = h0 a) → V G K MX8_keeps 0 0 (n0, h) 53 [some (.ref y), some (.ref r), some (.int (nI 966))] []) : ∀ (e c : Nat) (h : Nat → Option va_E), c + e = 966 → Mo G h y (mo_sh S c) → (∀ a, (a < y ∨ y + 13 ≤ a) → h a = h0 a) → V G K MX8_keeps 0 0 (n0, h) 24 [some (.ref y), some (.ref r), some (.int (nI c))] [] := by
  intro e
  induction e with
  | zero =>
    intro c h hc H hO
    have e : c = 966 := by omega
    subst e
    refine v_iload_n C dX8_keeps_24 rfl ?_
    refine v_sipush (v := nI 966) C dX8_keeps_25 (by decide) ?_
    refine v_icmp_geN (tgt := 53) C dX8_keeps_28 (by decide) (by omega) (by omega) (fun c28 => ?_) (fun c28 => absurd c28 (by omega))
    exact hk _ H hO
  | succ e ih =>
    intro c h hc H hO
    refine v_iload_n C dX8_keeps_24 rfl ?_
    refine v_sipush (v := nI 966) C dX8_keeps_25 (by decide) ?_
    refine v_icmp_geN (tgt := 53) C dX8_keeps_28 (by decide) (by omega) (by omega) (fun c28 => absurd c28 (by omega)) (fun c28 => ?_)
    refine v_aload_n C dX8_keeps_31 rfl ?_
    refine v_get C 1 dX8_keeps_32 wd6_238 H.o rfl (by decide) ⟨rfl, rfl, rfl⟩ rfl ?_
    refine v_iload_n C dX8_keeps_35 rfl ?_
    refine v_aload_n C dX8_keeps_36 rfl ?_
    refine v_get C 1 dX8_keeps_37 wd6_238 H.o rfl (by decide) ⟨rfl, rfl, rfl⟩ rfl ?_
    refine v_iload_n C dX8_keeps_40 rfl ?_
    refine v_sipush (v := nI 138) C dX8_keeps_41 (by decide) ?_
    refine v_iaddN C dX8_keeps_44 ?_
    refine v_ialdN C dX8_keeps_45 H.a1 (by omega) (by decide) ?_
    refine v_iastN C dX8_keeps_46 (by omega) H.a1 (by omega) (by decide) (fun h46 e46 g46 => ?_)
    have Y46 := H.s1 e46 g46
    have W46 : ∀ a, (a < y ∨ y + 13 ≤ a) → h46 a = _ := fun a ha => (g46 a (by omega)).trans (hO a ha)
    refine v_iincN C dX8_keeps_47 (by decide) rfl ?_
    refine v_goto (tgt := 24) C dX8_keeps_50 (by decide) ?_
    exact ih (c + 1) _ (by omega) (Y46.to mo_sh_s) W46
set_option maxHeartbeats 8000000 in
/-- a row is kept -/
theorem c_X8_keeps0 {G : hp_G} {l : Launch} (hl : l.stackTraces = false) {n0 : Nat} {h0 : Nat → Option va_E} {y : Nat} {S : mo_T} (hS : Mo G h0 y S) {ch : Nat} (hch : S.2 1 = nI ch) (h8 : ch ≤ 8) : Ct G l yX8_keeps cX8_keeps 3 none 1 0 0 [.ref y, .ref (y + (0 + 1))] (n0, h0) (hp_vq (fun τ => τ.1 = n0 ∧ Mo G τ.2 y (mo_kp S 0 ch) ∧ ∀ a, (a < y ∨ y + 13 ≤ a) → τ.2 a = h0 a)) := by
  have hbase := hS.base
  have hS1 := hS.to (mo_si_eq hch)
  refine Ct.of rfl hl (by simp [Value.category]) (Nat.le_of_ble_eq_true rfl) (fun K C E hRm hKl => ?_)
  subst hKl
  refine v_aload_n C dX8_keeps_0 rfl ?_
  refine v_iconst (v := nI 0) C dX8_keeps_1 (by decide) ?_
  refine v_put C 7 dX8_keeps_2 wd7_4 hbase hS1.o rfl (by decide) ⟨rfl, rfl, rfl, rfl⟩ rfl rfl rfl (Nat.le_of_ble_eq_true rfl) (fun h2 e2 g2 => ?_)
  have Y2 := hS1.i3 e2 g2
  have W2 : ∀ a, (a < y ∨ y + 13 ≤ a) → h2 a = _ := fun a ha => g2 a (by omega)
  refine v_aload_n C dX8_keeps_5 rfl ?_
  refine v_get C 6 dX8_keeps_6 wd7_3 Y2.o rfl (by decide) ⟨rfl, rfl, rfl⟩ rfl ?_
  refine v_if_eq (tgt := 13) C dX8_keeps_9 (by decide) (fun c9 => ?_) (fun c9 => ?_)
  · have c9s : S.2 2 = 0 := c9
    refine v_aload_n C dX8_keeps_13 rfl ?_
    refine v_get (v := .int (nI (ch))) C 5 dX8_keeps_14 wd7_2 Y2.o rfl (by decide) ⟨rfl, rfl, rfl⟩ rfl ?_
    refine v_bipush (v := nI 8) C dX8_keeps_17 (by decide) ?_
    refine v_icmp_neN (tgt := 63) C dX8_keeps_19 (by decide) (by omega) (by omega) (fun c19 => ?_) (fun c19 => ?_)
    · refine v_aload_n C dX8_keeps_63 rfl ?_
      refine v_iconst (v := nI 0) C dX8_keeps_64 (by decide) ?_
      refine v_aload_n C dX8_keeps_65 rfl ?_
      refine v_get C 1 dX8_keeps_66 wd6_238 Y2.o rfl (by decide) ⟨rfl, rfl, rfl⟩ rfl ?_
      refine v_sipush (v := nI 138) C dX8_keeps_69 (by decide) ?_
      refine v_aload_n C dX8_keeps_72 rfl ?_
      refine v_get (v := .int (nI (ch))) C 5 dX8_keeps_73 wd7_2 Y2.o rfl (by decide) ⟨rfl, rfl, rfl⟩ rfl ?_
      refine v_imulN C dX8_keeps_76 ?_
      refine v_callSv C (c_X8_copies hl (kf := 0) (kt := 1) (a := 0) (b := 138 * ch) (by decide) (by decide) (by decide) (by decide) (show 138 * ch + 138 ≤ 1104 by omega) Y2) dX8_keeps_77 mX8_copies wd7_90 rfl rfl (Nat.le_of_ble_eq_true rfl) (hp_rmle hRm (by decide) (by decide)) (Nat.le_of_ble_eq_true rfl) (Nat.le_of_ble_eq_true rfl) (fun n77 h77 q77 => ?_)
      obtain ⟨k77, Y77, W77⟩ := q77
      have z77 := Eq.symm k77
      have z77 : n0 = n77 := z77
      subst z77
      have W77 : ∀ a, (a < y ∨ y + 13 ≤ a) → h77 a = _ := fun a ha => (W77 a ha).trans (W2 a ha)
      refine v_aload_n C dX8_keeps_80 rfl ?_
      refine v_dup C dX8_keeps_81 rfl ?_
      refine v_get (v := .int (nI (ch))) C 5 dX8_keeps_82 wd7_2 Y77.o rfl (by decide) ⟨rfl, rfl, rfl⟩ rfl ?_
      refine v_iconst (v := nI 1) C dX8_keeps_85 (by decide) ?_
      refine v_iaddN C dX8_keeps_86 ?_
      refine v_put C 5 dX8_keeps_87 wd7_2 hbase Y77.o rfl (by decide) ⟨rfl, rfl, rfl, rfl⟩ rfl rfl rfl (Nat.le_of_ble_eq_true rfl) (fun h87 e87 g87 => ?_)
      have Y87 := Y77.i1 e87 g87
      have W87 : ∀ a, (a < y ∨ y + 13 ≤ a) → h87 a = _ := fun a ha => (g87 a (by omega)).trans (W77 a ha)
      exact v_vret C E dX8_keeps_90 rfl ⟨rfl, rfl, Y87.to (by unfold mo_kp; rw [if_neg (fun z => z c9s), if_neg c19]; exact Prod.ext rfl (by show upd (upd (upd S.2 1 _) 3 _) 1 _ = upd (upd S.2 3 _) 1 _; rw [mo_uc S.2 (show (1 : Nat) ≠ 3 by decide), mo_uu])), W87⟩
    · refine v_iconst (v := nI 0) C dX8_keeps_22 (by decide) ?_
      refine v_istore_n C dX8_keeps_23 (by decide) ?_
      subst c19
      refine loop_X8_keeps (S := mo_si (mo_si S 1 (nI 8)) 3 (nI 0)) C hbase (fun h9 Y9 W9 => ?_) 966 0 _ rfl (Y2.to (mo_sh_0 _).symm) W2
      refine v_aload_n C dX8_keeps_53 rfl ?_
      refine v_dup C dX8_keeps_54 rfl ?_
      refine v_get (v := .int (nI (8))) C 5 dX8_keeps_55 wd7_2 Y9.o rfl (by decide) ⟨rfl, rfl, rfl⟩ rfl ?_
      refine v_iconst (v := nI 1) C dX8_keeps_58 (by decide) ?_
      refine v_isubN C dX8_keeps_59 (by omega) ?_
      refine v_put C 5 dX8_keeps_60 wd7_2 hbase Y9.o rfl (by decide) ⟨rfl, rfl, rfl, rfl⟩ rfl rfl rfl (Nat.le_of_ble_eq_true rfl) (fun h60 e60 g60 => ?_)
      have Y60 := Y9.i1 e60 g60
      have W60 : ∀ a, (a < y ∨ y + 13 ≤ a) → h60 a = _ := fun a ha => (g60 a (by omega)).trans (W9 a ha)
      refine v_aload_n C dX8_keeps_63 rfl ?_
      refine v_iconst (v := nI 0) C dX8_keeps_64 (by decide) ?_
      refine v_aload_n C dX8_keeps_65 rfl ?_
      refine v_get C 1 dX8_keeps_66 wd6_238 Y60.o rfl (by decide) ⟨rfl, rfl, rfl⟩ rfl ?_
      refine v_sipush (v := nI 138) C dX8_keeps_69 (by decide) ?_
      refine v_aload_n C dX8_keeps_72 rfl ?_
      refine v_get (v := .int (nI ((8 - 1)))) C 5 dX8_keeps_73 wd7_2 Y60.o rfl (by decide) ⟨rfl, rfl, rfl⟩ rfl ?_
      refine v_imulN C dX8_keeps_76 ?_
      refine v_callSv C (c_X8_copies hl (kf := 0) (kt := 1) (a := 0) (b := 138 * (8 - 1)) (by decide) (by decide) (by decide) (by decide) (by decide) Y60) dX8_keeps_77 mX8_copies wd7_90 rfl rfl (Nat.le_of_ble_eq_true rfl) (hp_rmle hRm (by decide) (by decide)) (Nat.le_of_ble_eq_true rfl) (Nat.le_of_ble_eq_true rfl) (fun n77 h77 q77 => ?_)
      obtain ⟨k77, Y77, W77⟩ := q77
      have z77 := Eq.symm k77
      have z77 : n0 = n77 := z77
      subst z77
      have W77 : ∀ a, (a < y ∨ y + 13 ≤ a) → h77 a = _ := fun a ha => (W77 a ha).trans (W60 a ha)
      refine v_aload_n C dX8_keeps_80 rfl ?_
      refine v_dup C dX8_keeps_81 rfl ?_
      refine v_get (v := .int (nI ((8 - 1)))) C 5 dX8_keeps_82 wd7_2 Y77.o rfl (by decide) ⟨rfl, rfl, rfl⟩ rfl ?_
      refine v_iconst (v := nI 1) C dX8_keeps_85 (by decide) ?_
      refine v_iaddN C dX8_keeps_86 ?_
      refine v_put C 5 dX8_keeps_87 wd7_2 hbase Y77.o rfl (by decide) ⟨rfl, rfl, rfl, rfl⟩ rfl rfl rfl (Nat.le_of_ble_eq_true rfl) (fun h87 e87 g87 => ?_)
      have Y87 := Y77.i1 e87 g87
      have W87 : ∀ a, (a < y ∨ y + 13 ≤ a) → h87 a = _ := fun a ha => (g87 a (by omega)).trans (W77 a ha)
      exact v_vret C E dX8_keeps_90 rfl ⟨rfl, rfl, Y87.to (by unfold mo_kp; rw [if_neg (fun z => z c9s), if_pos rfl]; exact Prod.ext rfl (by show upd (upd (upd (upd S.2 1 _) 3 _) 1 _) 1 _ = upd (upd S.2 3 _) 1 _; rw [mo_uu, mo_uc S.2 (show (1 : Nat) ≠ 3 by decide), mo_uu])), W87⟩
  · have c9s : ¬ S.2 2 = 0 := c9
    exact v_vret C E dX8_keeps_12 rfl ⟨rfl, rfl, Y2.to (by unfold mo_kp; rw [if_pos c9s]; exact Prod.ext rfl (by show upd (upd S.2 1 _) 3 _ = upd S.2 3 _; rw [← hch, show upd S.2 1 (S.2 1) = S.2 from (congrArg (fun z => z.2) (mo_si_eq (S := S) (j := 1) rfl)).symm])), W2⟩
set_option maxHeartbeats 8000000 in
/-- a row is kept -/
theorem c_X8_keeps3 {G : hp_G} {l : Launch} (hl : l.stackTraces = false) {n0 : Nat} {h0 : Nat → Option va_E} {y : Nat} {S : mo_T} (hS : Mo G h0 y S) {ch : Nat} (hch : S.2 1 = nI ch) (h8 : ch ≤ 8) : Ct G l yX8_keeps cX8_keeps 3 none 1 0 0 [.ref y, .ref (y + (3 + 1))] (n0, h0) (hp_vq (fun τ => τ.1 = n0 ∧ Mo G τ.2 y (mo_kp S 3 ch) ∧ ∀ a, (a < y ∨ y + 13 ≤ a) → τ.2 a = h0 a)) := by
  have hbase := hS.base
  have hS1 := hS.to (mo_si_eq hch)
  refine Ct.of rfl hl (by simp [Value.category]) (Nat.le_of_ble_eq_true rfl) (fun K C E hRm hKl => ?_)
  subst hKl
  refine v_aload_n C dX8_keeps_0 rfl ?_
  refine v_iconst (v := nI 0) C dX8_keeps_1 (by decide) ?_
  refine v_put C 7 dX8_keeps_2 wd7_4 hbase hS1.o rfl (by decide) ⟨rfl, rfl, rfl, rfl⟩ rfl rfl rfl (Nat.le_of_ble_eq_true rfl) (fun h2 e2 g2 => ?_)
  have Y2 := hS1.i3 e2 g2
  have W2 : ∀ a, (a < y ∨ y + 13 ≤ a) → h2 a = _ := fun a ha => g2 a (by omega)
  refine v_aload_n C dX8_keeps_5 rfl ?_
  refine v_get C 6 dX8_keeps_6 wd7_3 Y2.o rfl (by decide) ⟨rfl, rfl, rfl⟩ rfl ?_
  refine v_if_eq (tgt := 13) C dX8_keeps_9 (by decide) (fun c9 => ?_) (fun c9 => ?_)
  · have c9s : S.2 2 = 0 := c9
    refine v_aload_n C dX8_keeps_13 rfl ?_
    refine v_get (v := .int (nI (ch))) C 5 dX8_keeps_14 wd7_2 Y2.o rfl (by decide) ⟨rfl, rfl, rfl⟩ rfl ?_
    refine v_bipush (v := nI 8) C dX8_keeps_17 (by decide) ?_
    refine v_icmp_neN (tgt := 63) C dX8_keeps_19 (by decide) (by omega) (by omega) (fun c19 => ?_) (fun c19 => ?_)
    · refine v_aload_n C dX8_keeps_63 rfl ?_
      refine v_iconst (v := nI 0) C dX8_keeps_64 (by decide) ?_
      refine v_aload_n C dX8_keeps_65 rfl ?_
      refine v_get C 1 dX8_keeps_66 wd6_238 Y2.o rfl (by decide) ⟨rfl, rfl, rfl⟩ rfl ?_
      refine v_sipush (v := nI 138) C dX8_keeps_69 (by decide) ?_
      refine v_aload_n C dX8_keeps_72 rfl ?_
      refine v_get (v := .int (nI (ch))) C 5 dX8_keeps_73 wd7_2 Y2.o rfl (by decide) ⟨rfl, rfl, rfl⟩ rfl ?_
      refine v_imulN C dX8_keeps_76 ?_
      refine v_callSv C (c_X8_copies hl (kf := 3) (kt := 1) (a := 0) (b := 138 * ch) (by decide) (by decide) (by decide) (by decide) (show 138 * ch + 138 ≤ 1104 by omega) Y2) dX8_keeps_77 mX8_copies wd7_90 rfl rfl (Nat.le_of_ble_eq_true rfl) (hp_rmle hRm (by decide) (by decide)) (Nat.le_of_ble_eq_true rfl) (Nat.le_of_ble_eq_true rfl) (fun n77 h77 q77 => ?_)
      obtain ⟨k77, Y77, W77⟩ := q77
      have z77 := Eq.symm k77
      have z77 : n0 = n77 := z77
      subst z77
      have W77 : ∀ a, (a < y ∨ y + 13 ≤ a) → h77 a = _ := fun a ha => (W77 a ha).trans (W2 a ha)
      refine v_aload_n C dX8_keeps_80 rfl ?_
      refine v_dup C dX8_keeps_81 rfl ?_
      refine v_get (v := .int (nI (ch))) C 5 dX8_keeps_82 wd7_2 Y77.o rfl (by decide) ⟨rfl, rfl, rfl⟩ rfl ?_
      refine v_iconst (v := nI 1) C dX8_keeps_85 (by decide) ?_
      refine v_iaddN C dX8_keeps_86 ?_
      refine v_put C 5 dX8_keeps_87 wd7_2 hbase Y77.o rfl (by decide) ⟨rfl, rfl, rfl, rfl⟩ rfl rfl rfl (Nat.le_of_ble_eq_true rfl) (fun h87 e87 g87 => ?_)
      have Y87 := Y77.i1 e87 g87
      have W87 : ∀ a, (a < y ∨ y + 13 ≤ a) → h87 a = _ := fun a ha => (g87 a (by omega)).trans (W77 a ha)
      exact v_vret C E dX8_keeps_90 rfl ⟨rfl, rfl, Y87.to (by unfold mo_kp; rw [if_neg (fun z => z c9s), if_neg c19]; exact Prod.ext rfl (by show upd (upd (upd S.2 1 _) 3 _) 1 _ = upd (upd S.2 3 _) 1 _; rw [mo_uc S.2 (show (1 : Nat) ≠ 3 by decide), mo_uu])), W87⟩
    · refine v_iconst (v := nI 0) C dX8_keeps_22 (by decide) ?_
      refine v_istore_n C dX8_keeps_23 (by decide) ?_
      subst c19
      refine loop_X8_keeps (S := mo_si (mo_si S 1 (nI 8)) 3 (nI 0)) C hbase (fun h9 Y9 W9 => ?_) 966 0 _ rfl (Y2.to (mo_sh_0 _).symm) W2
      refine v_aload_n C dX8_keeps_53 rfl ?_
      refine v_dup C dX8_keeps_54 rfl ?_
      refine v_get (v := .int (nI (8))) C 5 dX8_keeps_55 wd7_2 Y9.o rfl (by decide) ⟨rfl, rfl, rfl⟩ rfl ?_
      refine v_iconst (v := nI 1) C dX8_keeps_58 (by decide) ?_
      refine v_isubN C dX8_keeps_59 (by omega) ?_
      refine v_put C 5 dX8_keeps_60 wd7_2 hbase Y9.o rfl (by decide) ⟨rfl, rfl, rfl, rfl⟩ rfl rfl rfl (Nat.le_of_ble_eq_true rfl) (fun h60 e60 g60 => ?_)
      have Y60 := Y9.i1 e60 g60
      have W60 : ∀ a, (a < y ∨ y + 13 ≤ a) → h60 a = _ := fun a ha => (g60 a (by omega)).trans (W9 a ha)
      refine v_aload_n C dX8_keeps_63 rfl ?_
      refine v_iconst (v := nI 0) C dX8_keeps_64 (by decide) ?_
      refine v_aload_n C dX8_keeps_65 rfl ?_
      refine v_get C 1 dX8_keeps_66 wd6_238 Y60.o rfl (by decide) ⟨rfl, rfl, rfl⟩ rfl ?_
      refine v_sipush (v := nI 138) C dX8_keeps_69 (by decide) ?_
      refine v_aload_n C dX8_keeps_72 rfl ?_
      refine v_get (v := .int (nI ((8 - 1)))) C 5 dX8_keeps_73 wd7_2 Y60.o rfl (by decide) ⟨rfl, rfl, rfl⟩ rfl ?_
      refine v_imulN C dX8_keeps_76 ?_
      refine v_callSv C (c_X8_copies hl (kf := 3) (kt := 1) (a := 0) (b := 138 * (8 - 1)) (by decide) (by decide) (by decide) (by decide) (by decide) Y60) dX8_keeps_77 mX8_copies wd7_90 rfl rfl (Nat.le_of_ble_eq_true rfl) (hp_rmle hRm (by decide) (by decide)) (Nat.le_of_ble_eq_true rfl) (Nat.le_of_ble_eq_true rfl) (fun n77 h77 q77 => ?_)
      obtain ⟨k77, Y77, W77⟩ := q77
      have z77 := Eq.symm k77
      have z77 : n0 = n77 := z77
      subst z77
      have W77 : ∀ a, (a < y ∨ y + 13 ≤ a) → h77 a = _ := fun a ha => (W77 a ha).trans (W60 a ha)
      refine v_aload_n C dX8_keeps_80 rfl ?_
      refine v_dup C dX8_keeps_81 rfl ?_
      refine v_get (v := .int (nI ((8 - 1)))) C 5 dX8_keeps_82 wd7_2 Y77.o rfl (by decide) ⟨rfl, rfl, rfl⟩ rfl ?_
      refine v_iconst (v := nI 1) C dX8_keeps_85 (by decide) ?_
      refine v_iaddN C dX8_keeps_86 ?_
      refine v_put C 5 dX8_keeps_87 wd7_2 hbase Y77.o rfl (by decide) ⟨rfl, rfl, rfl, rfl⟩ rfl rfl rfl (Nat.le_of_ble_eq_true rfl) (fun h87 e87 g87 => ?_)
      have Y87 := Y77.i1 e87 g87
      have W87 : ∀ a, (a < y ∨ y + 13 ≤ a) → h87 a = _ := fun a ha => (g87 a (by omega)).trans (W77 a ha)
      exact v_vret C E dX8_keeps_90 rfl ⟨rfl, rfl, Y87.to (by unfold mo_kp; rw [if_neg (fun z => z c9s), if_pos rfl]; exact Prod.ext rfl (by show upd (upd (upd (upd S.2 1 _) 3 _) 1 _) 1 _ = upd (upd S.2 3 _) 1 _; rw [mo_uu, mo_uc S.2 (show (1 : Nat) ≠ 3 by decide), mo_uu])), W87⟩
  · have c9s : ¬ S.2 2 = 0 := c9
    exact v_vret C E dX8_keeps_12 rfl ⟨rfl, rfl, Y2.to (by unfold mo_kp; rw [if_pos c9s]; exact Prod.ext rfl (by show upd (upd S.2 1 _) 3 _ = upd S.2 3 _; rw [← hch, show upd S.2 1 (S.2 1) = S.2 from (congrArg (fun z => z.2) (mo_si_eq (S := S) (j := 1) rfl)).symm])), W2⟩
def mo_un (S : mo_T) (ch : Nat) : mo_T := if ch = 0 then mo_si S 3 (nI 1) else mo_cp (mo_si (mo_si S 3 (nI 0)) 1 (nI (ch - 1))) 1 (138 * (ch - 1)) 0 0 138
set_option maxHeartbeats 8000000 in
/-- undo -/
theorem c_X8_undo {G : hp_G} {l : Launch} (hl : l.stackTraces = false) {n0 : Nat} {h0 : Nat → Option va_E} {y : Nat} {S : mo_T} (hS : Mo G h0 y S) {ch : Nat} (hch : S.2 1 = nI ch) (h8 : ch ≤ 8) : Ct G l yX8_undo cX8_undo 1 (some .int) 1 0 0 [.ref y] (n0, h0) (hp_iq (fun r τ => r = (if ch = 0 then nI 0 else nI (ch - 1)) ∧ τ.1 = n0 ∧ Mo G τ.2 y (mo_un S ch) ∧ ∀ a, (a < y ∨ y + 13 ≤ a) → τ.2 a = h0 a)) := by
  have hbase := hS.base
  have hS1 := hS.to (mo_si_eq hch)
  refine Ct.of rfl hl (by simp [Value.category]) (Nat.le_of_ble_eq_true rfl) (fun K C E hRm hKl => ?_)
  subst hKl
  refine v_aload_n C dX8_undo_0 rfl ?_
  refine v_aload_n C dX8_undo_1 rfl ?_
  refine v_get (v := .int (nI (ch))) C 5 dX8_undo_2 wd7_2 hS1.o rfl (by decide) ⟨rfl, rfl, rfl⟩ rfl ?_
  refine v_if_ne (tgt := 12) C dX8_undo_5 (by decide) (fun c5 => ?_) (fun c5 => ?_)
  · have hz : ¬ ch = 0 := fun z => c5 (by rw [z]; rfl)
    refine v_iconst (v := nI 0) C dX8_undo_12 (by decide) ?_
    refine v_callVq C (c_X8_fails hl hS1 (nI 0)) dX8_undo_13 mX8_fails rfl hS1.o rfl wd7_82 rfl rfl (Nat.le_of_ble_eq_true rfl) (hp_rmle hRm (by decide) (by decide)) (Nat.le_of_ble_eq_true rfl) (Nat.le_of_ble_eq_true rfl) (fun r13 n13 h13 q13 => ?_)
    obtain ⟨e13, k13, Y13, W13⟩ := q13
    have z13 := Eq.symm k13
    have z13 : n0 = n13 := z13
    subst z13
    subst e13
    refine v_if_eqB (tgt := 21) C dX8_undo_16 (by decide) (fun c16 => ?_) (fun c16 => absurd c16 (by decide))
    refine v_aload_n C dX8_undo_21 rfl ?_
    refine v_dup C dX8_undo_22 rfl ?_
    refine v_get (v := .int (nI (ch))) C 5 dX8_undo_23 wd7_2 Y13.o rfl (by decide) ⟨rfl, rfl, rfl⟩ rfl ?_
    refine v_iconst (v := nI 1) C dX8_undo_26 (by decide) ?_
    refine v_isubN C dX8_undo_27 (by omega) ?_
    refine v_put C 5 dX8_undo_28 wd7_2 hbase Y13.o rfl (by decide) ⟨rfl, rfl, rfl, rfl⟩ rfl rfl rfl (Nat.le_of_ble_eq_true rfl) (fun h28 e28 g28 => ?_)
    have Y28 := Y13.i1 e28 g28
    have W28 : ∀ a, (a < y ∨ y + 13 ≤ a) → h28 a = _ := fun a ha => (g28 a (by omega)).trans (W13 a ha)
    refine v_aload_n C dX8_undo_31 rfl ?_
    refine v_get C 1 dX8_undo_32 wd6_238 Y28.o rfl (by decide) ⟨rfl, rfl, rfl⟩ rfl ?_
    refine v_sipush (v := nI 138) C dX8_undo_35 (by decide) ?_
    refine v_aload_n C dX8_undo_38 rfl ?_
    refine v_get (v := .int (nI ((ch - 1)))) C 5 dX8_undo_39 wd7_2 Y28.o rfl (by decide) ⟨rfl, rfl, rfl⟩ rfl ?_
    refine v_imulN C dX8_undo_42 ?_
    refine v_aload_n C dX8_undo_43 rfl ?_
    refine v_get C 0 dX8_undo_44 wd6_237 Y28.o rfl (by decide) ⟨rfl, rfl, rfl⟩ rfl ?_
    refine v_iconst (v := nI 0) C dX8_undo_47 (by decide) ?_
    refine v_callSv C (c_X8_copies hl (kf := 1) (kt := 0) (a := 138 * (ch - 1)) (b := 0) (by decide) (by decide) (by decide) (show 138 * (ch - 1) + 138 ≤ 1104 by omega) (by decide) Y28) dX8_undo_48 mX8_copies wd7_90 rfl rfl (Nat.le_of_ble_eq_true rfl) (hp_rmle hRm (by decide) (by decide)) (Nat.le_of_ble_eq_true rfl) (Nat.le_of_ble_eq_true rfl) (fun n48 h48 q48 => ?_)
    obtain ⟨k48, Y48, W48⟩ := q48
    have z48 := Eq.symm k48
    have z48 : n0 = n48 := z48
    subst z48
    have W48 : ∀ a, (a < y ∨ y + 13 ≤ a) → h48 a = _ := fun a ha => (W48 a ha).trans (W28 a ha)
    refine v_aload_n C dX8_undo_51 rfl ?_
    refine v_get (v := .int (nI ((ch - 1)))) C 5 dX8_undo_52 wd7_2 Y48.o rfl (by decide) ⟨rfl, rfl, rfl⟩ rfl ?_
    exact v_iret C E dX8_undo_55 rfl ⟨_, rfl, (if_neg hz).symm, rfl, Y48.to (by unfold mo_un; rw [if_neg hz]; exact Prod.ext rfl (by show upd (upd (upd S.2 1 _) 3 _) 1 _ = upd (upd S.2 3 _) 1 _; rw [mo_uc S.2 (show (1 : Nat) ≠ 3 by decide), mo_uu])), W48⟩
  · have hz : ch = 0 := (nI_eq (b := 0) (by omega) (by decide)).mp c5
    refine v_iconst (v := nI 1) C dX8_undo_8 (by decide) ?_
    refine v_goto (tgt := 13) C dX8_undo_9 (by decide) ?_
    refine v_callVq C (c_X8_fails hl hS1 (nI 1)) dX8_undo_13 mX8_fails rfl hS1.o rfl wd7_82 rfl rfl (Nat.le_of_ble_eq_true rfl) (hp_rmle hRm (by decide) (by decide)) (Nat.le_of_ble_eq_true rfl) (Nat.le_of_ble_eq_true rfl) (fun r13 n13 h13 q13 => ?_)
    obtain ⟨e13, k13, Y13, W13⟩ := q13
    have z13 := Eq.symm k13
    have z13 : n0 = n13 := z13
    subst z13
    subst e13
    refine v_if_eqB (tgt := 21) C dX8_undo_16 (by decide) (fun c16 => absurd c16 (fun z => z (by decide))) (fun c16 => ?_)
    refine v_iconst (v := nI 0) C dX8_undo_19 (by decide) ?_
    exact v_iret C E dX8_undo_20 rfl ⟨_, rfl, (if_pos hz).symm, rfl, Y13.to (by unfold mo_un; rw [if_pos hz]; exact Prod.ext rfl (by show upd (upd S.2 1 _) 3 _ = upd S.2 3 _; rw [← hch, show upd S.2 1 (S.2 1) = S.2 from (congrArg (fun z => z.2) (mo_si_eq (S := S) (j := 1) rfl)).symm])), W13⟩

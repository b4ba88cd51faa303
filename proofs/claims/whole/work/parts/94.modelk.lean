/-! ===== THE MODEL: the best way ===== -/
def mo_s67 (S : mo_T) (T B : Nat → Int32) : mo_T := (fun j => if j = 6 then T else if j = 7 then B else S.1 j, S.2)
theorem mo_s67_eq (S : mo_T) : S = mo_s67 S (S.1 6) (S.1 7) := by
  refine Prod.ext (funext fun j => ?_) rfl
  show S.1 j = (if j = 6 then S.1 6 else if j = 7 then S.1 7 else S.1 j)
  by_cases q : j = 6
  · rw [if_pos q, q]
  · rw [if_neg q]
    by_cases p : j = 7
    · rw [if_pos p, p]
    · rw [if_neg p]
theorem mo_s67_t {S : mo_T} {T B T' : Nat → Int32} : mo_sr (mo_s67 S T B) 6 T' = mo_s67 S T' B := by
  refine Prod.ext (funext fun j => ?_) rfl
  show (if j = 6 then T' else if j = 6 then T else if j = 7 then B else S.1 j) = (if j = 6 then T' else if j = 7 then B else S.1 j)
  by_cases q : j = 6
  · rw [if_pos q, if_pos q]
  · rw [if_neg q, if_neg q, if_neg q]
theorem mo_s67_b {S : mo_T} {T B : Nat → Int32} {i : Nat} {v : Int32} : mo_sa (mo_s67 S T B) 7 i v = mo_s67 S T (upd B i v) := by
  refine Prod.ext (funext fun j => ?_) rfl
  show (if j = 7 then upd B i v else if j = 6 then T else if j = 7 then B else S.1 j) = (if j = 6 then T else if j = 7 then upd B i v else S.1 j)
  by_cases q : j = 7
  · rw [if_pos q, if_neg (by omega), if_pos q]
  · rw [if_neg q, if_neg q, if_neg q]
def ls_b (T B : Nat → Int32) (n : Nat) : Nat → Int32 := fun i => if i < n then T i else B i
theorem ls_b0 (T B : Nat → Int32) : ls_b T B 0 = B := funext fun i => if_neg (by omega)
theorem ls_bs (T B : Nat → Int32) (n : Nat) : upd (ls_b T B n) n (T n) = ls_b T B (n + 1) := by
  refine funext fun i => ?_
  by_cases q : i = n
  · rw [q, pk_us]
    exact (if_pos (by omega)).symm
  · rw [pk_un q]
    show (if i < n then _ else _) = (if i < n + 1 then _ else _)
    by_cases z : i < n
    · rw [if_pos z, if_pos (by omega)]
    · rw [if_neg z, if_neg (by omega)]
abbrev ls_T : Type := Int32 × (Nat → Int32) × (Nat → Int32)
/-- one way more is looked at -/
def ls_1 (M : mk_T) (d way : Nat) (R : ls_T) : ls_T := (fun Q : Bool × (Nat → Int32) => if Q.1 = true then (if 0 ≤ R.1 ∧ R.1 ≤ mo_mt M Q.2 d (mk_tr M) then (R.1, Q.2, R.2.2) else (mo_mt M Q.2 d (mk_tr M), Q.2, ls_b Q.2 R.2.2 4)) else (R.1, Q.2, R.2.2)) (mo_lw M d (mk_hz M) way 0 R.2.1)
def ls_r (M : mk_T) (d e way : Nat) (R : ls_T) : ls_T := match e with
  | 0 => R
  | e + 1 => ls_r M d e (way + 1) (ls_1 M d way R)
set_option maxHeartbeats 4000000 in
theorem loop4_X8_least {G : hp_G} {K : hp_C} {n0 : Nat} {h0 : Nat → Option va_E} {y : Nat} {S : mo_T} {T B : Nat → Int32} {d ways way : Nat} {ls sm : Int32} (hbase : G.2.1 ≤ y) (C : hp_Cx G K MX8_least) (hk : ∀ h, Mo G h y (mo_s67 S T (ls_b T B 4)) → (∀ a, (a < y ∨ y + 13 ≤ a) → h a = h0 a) → V G K MX8_least 0 0 (n0, h) 210 [some (.ref y), some (.int (nI d)), some (.int (nI ways)), some (.int ls), some (.int (nI way)), some (.int sm), some (.int (nI 4))] []) : ∀ (e c : Nat) (h : Nat → Option va_E), c + e = 4 → Mo G h y (mo_s67 S T (ls_b T B c)) → (∀ a, (a < y ∨ y + 13 ≤ a) → h a = h0 a) → V G K MX8_least 0 0 (n0, h) 184 [some (.ref y), some (.int (nI d)), some (.int (nI ways)), some (.int ls), some (.int (nI way)), some (.int sm), some (.int (nI c))] [] := by
  intro e
  induction e with
  | zero =>
    intro c h hc H hO
    have e : c = 4 := by omega
    subst e
    refine v_iload C dX8_least_184 rfl ?_
    refine v_iconst (v := nI 4) C dX8_least_186 (by decide) ?_
    refine v_icmp_geN (tgt := 210) C dX8_least_187 (by decide) (by omega) (by omega) (fun c187 => ?_) (fun c187 => absurd c187 (by omega))
    exact hk _ H hO
  | succ e ih =>
    intro c h hc H hO
    refine v_iload C dX8_least_184 rfl ?_
    refine v_iconst (v := nI 4) C dX8_least_186 (by decide) ?_
    refine v_icmp_geN (tgt := 210) C dX8_least_187 (by decide) (by omega) (by omega) (fun c187 => absurd c187 (by omega)) (fun c187 => ?_)
    refine v_aload_n C dX8_least_190 rfl ?_
    refine v_get C 15 dX8_least_191 wd7_12 H.o rfl (by decide) ⟨rfl, rfl, rfl⟩ rfl ?_
    refine v_iload C dX8_least_194 rfl ?_
    refine v_aload_n C dX8_least_196 rfl ?_
    refine v_get C 14 dX8_least_197 wd7_11 H.o rfl (by decide) ⟨rfl, rfl, rfl⟩ rfl ?_
    refine v_iload C dX8_least_200 rfl ?_
    refine v_ialdN C dX8_least_202 H.a6 (by omega) (by decide) ?_
    refine v_iastN C dX8_least_203 (by omega) H.a7 (by omega) (by decide) (fun h203 e203 g203 => ?_)
    have Y203 := H.s7 e203 g203
    have W203 : ∀ a, (a < y ∨ y + 13 ≤ a) → h203 a = _ := fun a ha => (g203 a (by omega)).trans (hO a ha)
    refine v_iincN C dX8_least_204 (by decide) rfl ?_
    refine v_goto (tgt := 184) C dX8_least_207 (by decide) ?_
    exact ih (c + 1) _ (by omega) ((Y203.to mo_s67_b).to (congrArg (mo_s67 S T) (ls_bs T B c))) W203

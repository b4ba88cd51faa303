/-! ===== THE LAW: a sign is typed ===== -/
theorem i2c_k (x : Int32) : ∃ k, k < 65536 ∧ (x.toUInt32 % 65536).toInt32 = nI k := by
  refine ⟨(x.toUInt32 % 65536).toNat, ?_, ?_⟩
  · rw [UInt32.toNat_mod]
    exact Nat.mod_lt _ (by decide)
  · apply Int32.toBitVec_inj.mp
    show (x.toUInt32 % 65536).toBitVec = BitVec.ofNat 32 (x.toUInt32 % 65536).toNat
    rw [show (x.toUInt32 % 65536).toNat = (x.toUInt32 % 65536).toBitVec.toNat from rfl, BitVec.ofNat_toNat, BitVec.setWidth_eq]
theorem ty_x (k n : Nat) (hk : k < 65536) (hn : n ≤ 60) (t : Nat → Nat) : (ty_a k n = .inr "java/lang/IllegalArgumentException" ∧ mo_ty k n = nI 1 ∧ ty_n k n = n ∧ ty_t k t n = t) ∨ (ty_a k n = .inr "java/lang/IllegalStateException" ∧ mo_ty k n = nI 2 ∧ ty_n k n = n ∧ ty_t k t n = t) ∨ (ty_a k n = rI (nI (n + 1)) ∧ mo_ty k n = nI 0 ∧ ty_n k n = n + 1 ∧ ty_t k t n = sb_cat t n (fun _ => k) ∧ 32 ≤ k ∧ k ≤ 126 ∧ n < 60) := by
  have e1 : (nI k).toInt = (k : Int) := nI_toInt (by omega)
  have wi : hp_wi (nI k) (nI 32) (nI 126) ↔ ¬ (k < 32 ∨ 126 < k) := by
    unfold hp_wi
    rw [Int32.le_iff_toInt_le, Int32.le_iff_toInt_le, e1, show (nI 32).toInt = 32 by decide, show (nI 126).toInt = 126 by decide]
    omega
  unfold ty_a mo_ty ty_n ty_t ty_ok
  by_cases z : k < 32 ∨ 126 < k
  · rw [if_pos (c := k < 32 ∨ 126 < k) z, if_pos (c := ¬ hp_wi (nI k) (nI 32) (nI 126)) (fun y => wi.mp y z), if_neg (c := ¬ (k < 32 ∨ 126 < k) ∧ ¬ 60 ≤ n) (fun y => y.1 z), if_neg (c := ¬ (k < 32 ∨ 126 < k) ∧ ¬ 60 ≤ n) (fun y => y.1 z)]
    exact Or.inl ⟨rfl, rfl, rfl, rfl⟩
  · rw [if_neg (c := k < 32 ∨ 126 < k) z, if_neg (c := ¬ hp_wi (nI k) (nI 32) (nI 126)) (fun y => y (wi.mpr z))]
    by_cases y : 60 ≤ n
    · rw [if_pos (c := 60 ≤ n) y, if_pos (c := n = 60) (by omega), if_neg (c := ¬ (k < 32 ∨ 126 < k) ∧ ¬ 60 ≤ n) (fun u => u.2 y), if_neg (c := ¬ (k < 32 ∨ 126 < k) ∧ ¬ 60 ≤ n) (fun u => u.2 y)]
      exact Or.inr (Or.inl ⟨rfl, rfl, rfl, rfl⟩)
    · rw [if_neg (c := 60 ≤ n) y, if_neg (c := n = 60) (by omega), if_pos (c := ¬ (k < 32 ∨ 126 < k) ∧ ¬ 60 ≤ n) ⟨z, y⟩, if_pos (c := ¬ (k < 32 ∨ 126 < k) ∧ ¬ 60 ≤ n) ⟨z, y⟩]
      exact Or.inr (Or.inr ⟨rfl, rfl, rfl, rfl, by omega, by omega, by omega⟩)
theorem Md.ty {S : mo_T} {M : mk_T} {K : Nat → mk_T} {ch : Nat} {hs : Int32} {Z : mk_T} {t : Nat → Nat} {n : Nat} {P : wl_T} {fl fd : Int32} (H : Md S M K ch hs Z t n P fl fd) {k : Nat} (hk : k < 65536) : Md (mo_tS S k n) M K ch hs Z (ty_t k t n) (ty_n k n) P fl fd ∧ (mo_tS S k n).2 3 = mo_ty k n ∧ ty_n k n ≤ 60 ∧ ty_n k n ≤ n + 1 := by
  have H0 := H
  obtain ⟨a, b, c, d, e, f, g, i, j⟩ := H
  unfold mo_tS
  rcases ty_x k n hk f.2.1 t with ⟨-, z2, z3, z4⟩ | ⟨-, z2, z3, z4⟩ | ⟨-, z2, z3, z4, z5, z6, z7⟩
  · rw [z2, z3, z4, if_neg (by decide)]
    exact ⟨(H0.s3 _).1, (H0.s3 _).2, f.2.1, Nat.le_succ n⟩
  · rw [z2, z3, z4, if_neg (by decide)]
    exact ⟨(H0.s3 _).1, (H0.s3 _).2, f.2.1, Nat.le_succ n⟩
  · rw [z2, z3, z4, if_pos rfl]
    have I : ∀ q, q ≠ 3 → q ≠ 4 → (mo_si (mo_sa (mo_si S 3 (nI 0)) 4 n (nI k)) 4 (nI (n + 1))).2 q = S.2 q := fun q h3 h4 => (show upd (upd S.2 3 (nI 0)) 4 (nI (n + 1)) q = S.2 q from (pk_un h4).trans (pk_un h3))
    have R : ∀ q, q ≠ 4 → (mo_si (mo_sa (mo_si S 3 (nI 0)) 4 n (nI k)) 4 (nI (n + 1))).1 q = S.1 q := fun q h4 => if_neg h4
    refine ⟨⟨by rw [R 0 (by decide)]; exact a, b.eq (R 1 (by decide)) (I 1 (by decide) (by decide)), (I 0 (by decide) (by decide)).trans c, fun y => by rw [R 2 (by decide)]; exact d y, (I 2 (by decide) (by decide)).trans e, ⟨?_, by omega, fun q hq => ?_⟩, ⟨(I 7 (by decide) (by decide)).trans g.1, g.2.1, by rw [R 5 (by decide)]; exact g.2.2⟩, (I 5 (by decide) (by decide)).trans i, (I 6 (by decide) (by decide)).trans j⟩, ?_, by omega, Nat.le_refl _⟩
    · show upd (upd S.2 3 (nI 0)) 4 (nI (n + 1)) 4 = nI (n + 1)
      exact pk_us
    · show (if (4 : Nat) = 4 then upd (S.1 4) n (nI k) else S.1 4) q = nI (sb_cat t n (fun _ => k) q) ∧ 0 < sb_cat t n (fun _ => k) q ∧ sb_cat t n (fun _ => k) q < 128
      rw [if_pos rfl]
      unfold sb_cat
      by_cases y : q < n
      · rw [pk_un (by omega), if_pos y]
        exact f.2.2 q y
      · have e : q = n := by omega
        subst e
        rw [pk_us, if_neg y]
        exact ⟨rfl, (by show 0 < k; omega), (by show k < 128; omega)⟩
    · show upd (upd S.2 3 (nI 0)) 4 (nI (n + 1)) 3 = nI 0
      exact (pk_un (by decide)).trans pk_us
set_option maxHeartbeats 4000000 in
/-- case 44: type -/
theorem law_c44 {G : hp_G} {K : hp_C} {sc L : Nat} {xs : Nat → Int32} {x w i n bc bs : Nat} {h : Nat → Option va_E} (B : Lb G K sc L x w i n bc bs) (J : Jo G sc L xs x w h) (kk : Lk G K sc L xs x w i bc bs) : V G K (ML_law K) bc bs (n, h) 2379 [some (.ref sc), some (.ref x), some (.ref (x + 148)), some (.ref (x + 161)), some (.ref (x + 162)), some (.int (nI i)), none, none, none] [] := by
  obtain ⟨C, hl, hR, hx, hi, hL, hw, hn, hbc, hbs⟩ := B
  obtain ⟨M, B, Z, mk, nx, cnt, t, n0, lt, ln, hs, ma, fa, rk, S, KL, v, E, hS, D, P, Jm0, hv, hsc, ⟨f, hO⟩, ⟨f2, hD⟩⟩ := J
  have hbase := E.base
  have H := P.2.1.1
  obtain ⟨k, hk, ek⟩ := i2c_k (xs (i + 1))
  have n60 := D.2.2.2.2.2.1.2.1
  have hA : (∃ r, ty_a k n0 = rI r) ∨ ty_a k n0 = .inr "java/lang/IllegalArgumentException" ∨ ty_a k n0 = .inr "java/lang/IllegalStateException" := by
    rcases ty_x k n0 hk n60 t with z | z | z
    · exact Or.inr (Or.inl z.1)
    · exact Or.inr (Or.inr z.1)
    · exact Or.inl ⟨_, z.1⟩
  refine v_aload_n C dL_law_2379 rfl ?_
  refine l_arg C (j := 1) (i := i) hsc (by omega) hL rfl rfl (by decide) dL_law_2380 dL_law_2381 dL_law_2383 dL_law_2384 dL_law_2385 ?_
  refine v_i2c C dL_law_2386 ?_
  rw [ek]
  refine v_aload_n C dL_law_2387 rfl ?_
  refine l_call C (x := x) (L0 := x + 163) (bO := x + 161) (c_L_type hl (Nat.le_trans hbase (Nat.le_add_right _ _)) E.o (c_X7_type hl E hn hk) (fun τ hF => (hF.2.2.2 _ (Or.inr ⟨by omega, by omega⟩)).trans hO) hA) (by omega) (by omega) hO (fun τ hF => ⟨_, hF⟩) dL_law_2388 mL_type wd6_103 rfl rfl (Nat.le_of_ble_eq_true rfl) (hR _ _ (by decide) (by decide)) (Nat.le_trans (by decide) hbc) (Nat.le_trans (by decide) hbs) (fun code f' n1 h1 E1 hn1 k1 k2 k3 k4 => ?_)
  obtain ⟨rk1, E1⟩ := E1
  refine v_istore C dL_law_2391 (Nat.le_of_ble_eq_true rfl) ?_
  show V G K _ _ _ (n1, h1) 2393 [some (.ref sc), some (.ref x), some (.ref (x + 148)), some (.ref (x + 161)), some (.ref (x + 162)), some (.int (nI i)), some (.int code), none, none] []
  have hS1 : Mo G h1 (x + 148) S := hS.same (fun a k5 k6 => k1 a (by omega) (by omega) (by omega))
  have hsc1 := (k2 sc hx).trans hsc
  have hD1 := (k1 (x + 162) (by omega) (by omega) (by omega)).trans hD
  refine v_aload_n C dL_law_2393 rfl ?_
  refine l_arg C (j := 1) (i := i) hsc1 (by omega) hL rfl rfl (by decide) dL_law_2394 dL_law_2395 dL_law_2397 dL_law_2398 dL_law_2399 ?_
  refine v_i2c C dL_law_2400 ?_
  rw [ek]
  refine v_callVq C (c_X8_type hl hS1 D.2.2.2.2.2.1.1 n60 hk) dL_law_2401 mX8_type rfl hS1.o rfl wd8_148 rfl rfl (Nat.le_of_ble_eq_true rfl) (hR _ _ (by decide) (by decide)) (Nat.zero_le _) (Nat.zero_le _) (fun r n2 h2 q => ?_)
  obtain ⟨q1, q2, q3, q4⟩ := q
  obtain ⟨D2, t6, u1, u2⟩ := D.ty hk
  have cc : (mo_tS S k n0).2 3 = code ∧ (code = nI 0 → f' 0 = r.toInt64) := by
    rw [t6, q1]
    rcases ty_x k n0 hk n60 t with ⟨z1, z2, -⟩ | ⟨z1, z2, -⟩ | ⟨z1, z2, -⟩
    · rw [z1] at k4
      obtain ⟨i9, h1, h3⟩ := lr_i k4
      rw [z2]
      match i9, h1, h3 with
      | 0, _, h3 => exact ⟨h3.symm, fun y => absurd (h3.symm.trans y) (by decide)⟩
      | 1, h1, _ => exact absurd h1 (by decide)
      | i9 + 2, h1, _ => cases h1
    · rw [z1] at k4
      obtain ⟨i9, h1, h3⟩ := lr_i k4
      rw [z2]
      match i9, h1, h3 with
      | 0, h1, _ => exact absurd h1 (by decide)
      | 1, _, h3 => exact ⟨h3.symm, fun y => absurd (h3.symm.trans y) (by decide)⟩
      | i9 + 2, h1, _ => cases h1
    · rw [z1] at k4
      obtain ⟨h1, h2⟩ := lr_v k4
      rw [z2, if_pos rfl]
      exact ⟨h1.symm, fun _ => h2⟩
  refine l_tailI C hl q3 ((q4 _ (by omega)).trans k3) cc.1 (fun z => ?_) rfl rfl (hR 0 1 (by decide) (by decide)) dL_law_2404 dL_law_2406 dL_law_2407 dL_law_2410 dL_law_2412 dL_law_2417 dL_law_2419 dL_law_2422 dL_law_2423 dL_law_2424 dL_law_2425 dL_law_2427 dL_law_2428 dL_law_2429 dL_law_2434 (by decide) ?_
  · exact cc.2 z
  · exact v_widen (by omega) (by omega) (kk n2 h2 _ _ _ (by omega) (Jo.mk2 E1 q4 q3 D2 ⟨P.1, P.2.1, P.2.2.1, P.2.2.2.1, P.2.2.2.2.1, u1⟩ Jm0 (by omega) hx hsc1 k3 hD1))

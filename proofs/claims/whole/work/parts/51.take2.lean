/-! ===== THE TAKE-OVER: its methods that change no heap ===== -/
section TKLDC
variable {G : hp_G} {K : hp_C} {M : hp_M} {bc bs : Nat} {σ : hp_T} {pc : Nat} {lo : List (Option Value)} {st : List Value}
theorem v_ldc (C : hp_Cx G K M) {idx : Nat} {v : Int32} (hd : decode M.1 pc = .ok (.ldc idx, 2)) (hw : Cond.constant M.2.1 idx v ∈ lw_tbl) (k : V G K M bc bs σ (pc + 2) lo (.int v :: st)) : V G K M bc bs σ pc lo st := by
  obtain ⟨p, l, e, R, s, m, args, below, meth, c, Qf⟩ := K
  intro H locs cells slots ls hR hS hl hc hs
  obtain ⟨C1, C2, C3, C4, C5, -⟩ := C
  exact lv_ldc C1 C2 C4 (C5 _ (hp_in hw rfl)) hd (k H locs cells slots ls hR hS hl hc hs)
theorem v_ldc_w (C : hp_Cx G K M) {idx : Nat} {v : Int32} (hd : decode M.1 pc = .ok (.ldc_w idx, 3)) (hw : Cond.constant M.2.1 idx v ∈ lw_tbl) (k : V G K M bc bs σ (pc + 3) lo (.int v :: st)) : V G K M bc bs σ pc lo st := by
  obtain ⟨p, l, e, R, s, m, args, below, meth, c, Qf⟩ := K
  intro H locs cells slots ls hR hS hl hc hs
  obtain ⟨C1, C2, C3, C4, C5, -⟩ := C
  exact lv_ldcw C1 C2 C4 (C5 _ (hp_in hw rfl)) hd (k H locs cells slots ls hR hS hl hc hs)
end TKLDC
/-- how many ones -/
def tk_bc (s : Nat) : Nat := s % 2 + s / 2 % 2 + s / 4 % 2 + s / 8 % 2 + s / 16 % 2 + s / 32 % 2
theorem tk_bc_le (s : Nat) : tk_bc s ≤ 6 := by unfold tk_bc; omega
/-- whether a trader is in a set -/
abbrev tk_in (s t : Nat) : Prop := ¬ (nI s >>> (nI t &&& 31)) &&& nI 1 = 0
def tk_s1 (af : Nat → Nat → Int32) (rg : Nat → Int32) (t : Nat) (x : Int32) (c : Nat) : Int32 := match c with
  | 0 => x
  | c + 1 => tk_s1 af rg t x c + hp_abs (af t c) * rg c
def tk_sm (sd : Nat) (af : Nat → Nat → Int32) (rg : Nat → Int32) (hz : Nat) (c : Nat) : Int32 := match c with
  | 0 => nI 0
  | c + 1 => if (nI sd >>> (nI c &&& 31)) &&& nI 1 = 0 then tk_sm sd af rg hz c else tk_s1 af rg c (tk_sm sd af rg hz c) hz
def tk_to (hs bt : Nat → Int32) (on : Int32) (f c : Nat) : Int32 := match f with
  | 0 => -1
  | f + 1 => if hs c = on then bt c else tk_to hs bt on f (c + 1)
def tk_wl (af : Nat → Nat → Int32) (rg : Nat → Int32) (hj : Nat) (pj : Int32) (lf : Nat → Int32) (s c : Nat) : Int32 := match c with
  | 0 => 1000000000
  | c + 1 => if (nI s >>> (nI c &&& 31)) &&& nI 1 = 0 then tk_wl af rg hj pj lf s c else if lf (s ^^^ 2 ^ c) + (hp_abs (af c hj + pj) - hp_abs (af c hj)) * rg hj < tk_wl af rg hj pj lf s c then lf (s ^^^ 2 ^ c) + (hp_abs (af c hj + pj) - hp_abs (af c hj)) * rg hj else tk_wl af rg hj pj lf s c
set_option maxRecDepth 100000 in
theorem tk_bcE : ∀ s, s < 64 → (fun x : Int32 => (fun y : Int32 => (fun z : Int32 => (fun u : Int32 => (u + (u.toUInt32 >>> ((nI 16).toUInt32 &&& Int32.toUInt32 31)).toInt32) &&& nI 63) (z + (z.toUInt32 >>> ((nI 8).toUInt32 &&& Int32.toUInt32 31)).toInt32)) ((y + (y.toUInt32 >>> ((nI 4).toUInt32 &&& Int32.toUInt32 31)).toInt32) &&& 252645135)) ((x &&& 858993459) + ((x.toUInt32 >>> ((nI 2).toUInt32 &&& Int32.toUInt32 31)).toInt32 &&& 858993459))) (nI s - ((((nI s).toUInt32 >>> ((nI 1).toUInt32 &&& Int32.toUInt32 31)).toInt32) &&& 1431655765)) = nI (tk_bc s) := by decide +kernel
set_option maxHeartbeats 4000000 in
/-- the ones of a set -/
theorem c_J6_bitCount_0f7a4 {G : hp_G} {l : Launch} (hl : l.stackTraces = false) {σ : hp_T} {s : Nat} (hs : s < 64) : Ct G l yJ6_bitCount_0f7a4 cJ6_bitCount_0f7a4 1 (some .int) 0 0 0 [.int (nI s)] σ (hp_ri (nI (tk_bc s)) σ) := by
  refine Ct.of rfl hl (by simp [Value.category]) (Nat.le_of_ble_eq_true rfl) (fun K C E hRm hKl => ?_)
  subst hKl
  refine v_iload_n C dJ6_bitCount_0f7a4_0 rfl ?_
  refine v_iload_n C dJ6_bitCount_0f7a4_1 rfl ?_
  refine v_iconst (v := nI 1) C dJ6_bitCount_0f7a4_2 (by decide) ?_
  refine v_iushr C dJ6_bitCount_0f7a4_3 rfl ?_
  refine v_ldc_w (v := 1431655765) C dJ6_bitCount_0f7a4_4 wd3_81 ?_
  refine v_iand C dJ6_bitCount_0f7a4_7 ?_
  refine v_isub C dJ6_bitCount_0f7a4_8 ?_
  refine v_istore_n C dJ6_bitCount_0f7a4_9 (by decide) ?_
  refine v_iload_n C dJ6_bitCount_0f7a4_10 rfl ?_
  refine v_ldc_w (v := 858993459) C dJ6_bitCount_0f7a4_11 wd3_82 ?_
  refine v_iand C dJ6_bitCount_0f7a4_14 ?_
  refine v_iload_n C dJ6_bitCount_0f7a4_15 rfl ?_
  refine v_iconst (v := nI 2) C dJ6_bitCount_0f7a4_16 (by decide) ?_
  refine v_iushr C dJ6_bitCount_0f7a4_17 rfl ?_
  refine v_ldc_w (v := 858993459) C dJ6_bitCount_0f7a4_18 wd3_82 ?_
  refine v_iand C dJ6_bitCount_0f7a4_21 ?_
  refine v_iadd C dJ6_bitCount_0f7a4_22 ?_
  refine v_istore_n C dJ6_bitCount_0f7a4_23 (by decide) ?_
  refine v_iload_n C dJ6_bitCount_0f7a4_24 rfl ?_
  refine v_iload_n C dJ6_bitCount_0f7a4_25 rfl ?_
  refine v_iconst (v := nI 4) C dJ6_bitCount_0f7a4_26 (by decide) ?_
  refine v_iushr C dJ6_bitCount_0f7a4_27 rfl ?_
  refine v_iadd C dJ6_bitCount_0f7a4_28 ?_
  refine v_ldc_w (v := 252645135) C dJ6_bitCount_0f7a4_29 wd3_83 ?_
  refine v_iand C dJ6_bitCount_0f7a4_32 ?_
  refine v_istore_n C dJ6_bitCount_0f7a4_33 (by decide) ?_
  refine v_iload_n C dJ6_bitCount_0f7a4_34 rfl ?_
  refine v_iload_n C dJ6_bitCount_0f7a4_35 rfl ?_
  refine v_bipush (v := nI 8) C dJ6_bitCount_0f7a4_36 (by decide) ?_
  refine v_iushr C dJ6_bitCount_0f7a4_38 rfl ?_
  refine v_iadd C dJ6_bitCount_0f7a4_39 ?_
  refine v_istore_n C dJ6_bitCount_0f7a4_40 (by decide) ?_
  refine v_iload_n C dJ6_bitCount_0f7a4_41 rfl ?_
  refine v_iload_n C dJ6_bitCount_0f7a4_42 rfl ?_
  refine v_bipush (v := nI 16) C dJ6_bitCount_0f7a4_43 (by decide) ?_
  refine v_iushr C dJ6_bitCount_0f7a4_45 rfl ?_
  refine v_iadd C dJ6_bitCount_0f7a4_46 ?_
  refine v_istore_n C dJ6_bitCount_0f7a4_47 (by decide) ?_
  refine v_iload_n C dJ6_bitCount_0f7a4_48 rfl ?_
  refine v_bipush (v := nI 63) C dJ6_bitCount_0f7a4_49 (by decide) ?_
  refine v_iand C dJ6_bitCount_0f7a4_51 ?_
  exact v_iret C E dJ6_bitCount_0f7a4_52 rfl ⟨congrArg (fun v => Sum.inl (some (Value.int v))) (tk_bcE s hs), rfl⟩
set_option maxHeartbeats 4000000 in
theorem loop_X6_sumOfMargins1 {G : hp_G} {K : hp_C} {n : Nat} {h : Nat → Option va_E} {q o : Nat} {M : mk_T} {sd nd : Nat} {af : Nat → Nat → Int32} {hs ps tk bt lf : Nat → Int32} {ls : Int32} (C : hp_Cx G K MX6_sumOfMargins) (hRm : hp_Rm K = hp_rm 1 0 0) (hT : Tk G h q sd nd af hs ps tk bt lf ls) (hM : Mk G h o M) {t : Nat} (ht : t < 6) {x0 : Int32} (hk : V G K MX6_sumOfMargins 0 0 (n, h) 76 [some (.ref q), some (.ref o), some (.int (tk_s1 af (mk_ar M 2) t x0 (mk_hz M))), some (.int (nI t)), some (.int (nI (mk_hz M))), none] []) : ∀ (f c : Nat) (x : Int32), c ≤ mk_hz M → mk_hz M ≤ c + f → x = tk_s1 af (mk_ar M 2) t x0 c → V G K MX6_sumOfMargins 0 0 (n, h) 26 [some (.ref q), some (.ref o), some (.int x), some (.int (nI t)), some (.int (nI c)), none] [] := by
  have hhz := hM.hz
  intro f
  induction f with
  | zero =>
    intro c x h1 h2 ex
    have e : c = mk_hz M := by omega
    subst e
    subst ex
    refine v_iload C dX6_sumOfMargins_26 rfl ?_
    refine v_aload_n C dX6_sumOfMargins_28 rfl ?_
    refine v_getN (v := .int (nI (mk_hz M))) C 0 dX6_sumOfMargins_29 wd1_47 hM.o rfl (by decide) ⟨rfl, rfl, rfl⟩ rfl ?_
    refine v_icmp_geN (tgt := 76) C dX6_sumOfMargins_32 (by decide) (by omega) (by omega) (fun c32 => ?_) (fun c32 => absurd c32 (by omega))
    exact hk
  | succ f ih =>
    intro c x h1 h2 ex
    refine v_iload C dX6_sumOfMargins_26 rfl ?_
    refine v_aload_n C dX6_sumOfMargins_28 rfl ?_
    refine v_getN (v := .int (nI (mk_hz M))) C 0 dX6_sumOfMargins_29 wd1_47 hM.o rfl (by decide) ⟨rfl, rfl, rfl⟩ rfl ?_
    refine v_icmp_geN (tgt := 76) C dX6_sumOfMargins_32 (by decide) (by omega) (by omega) (fun c32 => ?_) (fun c32 => ?_)
    · have e : c = mk_hz M := by omega
      subst e
      subst ex
      exact hk
    · refine v_aload_n C dX6_sumOfMargins_35 rfl ?_
      refine v_get C 1 dX6_sumOfMargins_36 wd1_176 hT.o rfl (by decide) ⟨rfl, rfl, rfl⟩ rfl ?_
      refine v_iload_n C dX6_sumOfMargins_39 rfl ?_
      refine v_aaldN C 6 dX6_sumOfMargins_40 (by decide) hT.a_after (by omega) (by decide) (if_pos (by omega)) ?_
      refine v_iload C dX6_sumOfMargins_41 rfl ?_
      refine v_ialdN C dX6_sumOfMargins_43 (hT.row (by omega)) (by omega) (by decide) ?_
      refine v_istore C dX6_sumOfMargins_44 (by decide) ?_
      refine v_iload_n C dX6_sumOfMargins_46 rfl ?_
      refine v_iload C dX6_sumOfMargins_47 rfl ?_
      refine v_if_ge (tgt := 58) C dX6_sumOfMargins_49 (by decide) (fun c49 => ?_) (fun c49 => ?_)
      · refine v_iload C dX6_sumOfMargins_58 rfl ?_
        refine v_aload_n C dX6_sumOfMargins_60 rfl ?_
        refine v_getN C 3 dX6_sumOfMargins_61 wf0 hM.o rfl (by decide) ⟨rfl, rfl, rfl⟩ rfl ?_
        refine v_iload C dX6_sumOfMargins_64 rfl ?_
        refine v_ialdN C dX6_sumOfMargins_66 hM.a2 (by omega) (by decide) ?_
        refine v_imul C dX6_sumOfMargins_67 ?_
        refine v_iadd C dX6_sumOfMargins_68 ?_
        refine v_istore_n C dX6_sumOfMargins_69 (by decide) ?_
        refine v_iincN C dX6_sumOfMargins_70 (by decide) rfl ?_
        refine v_goto (tgt := 26) C dX6_sumOfMargins_73 (by decide) ?_
        exact v_drop 5 (ih (c + 1) _ (by omega) (by omega) (by rw [ex]; show _ = tk_s1 af (mk_ar M 2) t x0 c + hp_abs (af t c) * mk_ar M 2 c; first | (rw [hp_abs, if_pos c49]; done) | (rw [hp_abs, if_neg c49, Int32.zero_sub])))
      · refine v_iload C dX6_sumOfMargins_52 rfl ?_
        refine v_ineg C dX6_sumOfMargins_54 ?_
        refine v_goto (tgt := 60) C dX6_sumOfMargins_55 (by decide) ?_
        refine v_aload_n C dX6_sumOfMargins_60 rfl ?_
        refine v_getN C 3 dX6_sumOfMargins_61 wf0 hM.o rfl (by decide) ⟨rfl, rfl, rfl⟩ rfl ?_
        refine v_iload C dX6_sumOfMargins_64 rfl ?_
        refine v_ialdN C dX6_sumOfMargins_66 hM.a2 (by omega) (by decide) ?_
        refine v_imul C dX6_sumOfMargins_67 ?_
        refine v_iadd C dX6_sumOfMargins_68 ?_
        refine v_istore_n C dX6_sumOfMargins_69 (by decide) ?_
        refine v_iincN C dX6_sumOfMargins_70 (by decide) rfl ?_
        refine v_goto (tgt := 26) C dX6_sumOfMargins_73 (by decide) ?_
        exact v_drop 5 (ih (c + 1) _ (by omega) (by omega) (by rw [ex]; show _ = tk_s1 af (mk_ar M 2) t x0 c + hp_abs (af t c) * mk_ar M 2 c; first | (rw [hp_abs, if_pos c49]; done) | (rw [hp_abs, if_neg c49, Int32.zero_sub])))
set_option maxHeartbeats 4000000 in
theorem loop_X6_sumOfMargins2 {G : hp_G} {K : hp_C} {n : Nat} {h : Nat → Option va_E} {q o : Nat} {M : mk_T} {sd nd : Nat} {af : Nat → Nat → Int32} {hs ps tk bt lf : Nat → Int32} {ls : Int32} {P : hp_P} (C : hp_Cx G K MX6_sumOfMargins) (E : hp_End G K P) (hRm : hp_Rm K = hp_rm 1 0 0) (hT : Tk G h q sd nd af hs ps tk bt lf ls) (hM : Mk G h o M) (hp : P (.inl (some (.int (tk_sm sd af (mk_ar M 2) (mk_hz M) (mk_tr M))))) (n, h)) : ∀ (f c : Nat) (x : Int32), c ≤ mk_tr M → mk_tr M ≤ c + f → x = tk_sm sd af (mk_ar M 2) (mk_hz M) c → V G K MX6_sumOfMargins 0 0 (n, h) 4 [some (.ref q), some (.ref o), some (.int x), some (.int (nI c)), none, none] [] := by
  have htr := hM.tr
  intro f
  induction f with
  | zero =>
    intro c x h1 h2 ex
    have e : c = mk_tr M := by omega
    subst e
    subst ex
    refine v_iload_n C dX6_sumOfMargins_4 rfl ?_
    refine v_aload_n C dX6_sumOfMargins_5 rfl ?_
    refine v_getN (v := .int (nI (mk_tr M))) C 4 dX6_sumOfMargins_6 wd1_56 hM.o rfl (by decide) ⟨rfl, rfl, rfl⟩ rfl ?_
    refine v_icmp_geN (tgt := 82) C dX6_sumOfMargins_9 (by decide) (by omega) (by omega) (fun c9 => ?_) (fun c9 => absurd c9 (by omega))
    refine v_iload_n C dX6_sumOfMargins_82 rfl ?_
    exact v_iret C E dX6_sumOfMargins_83 rfl hp
  | succ f ih =>
    intro c x h1 h2 ex
    refine v_iload_n C dX6_sumOfMargins_4 rfl ?_
    refine v_aload_n C dX6_sumOfMargins_5 rfl ?_
    refine v_getN (v := .int (nI (mk_tr M))) C 4 dX6_sumOfMargins_6 wd1_56 hM.o rfl (by decide) ⟨rfl, rfl, rfl⟩ rfl ?_
    refine v_icmp_geN (tgt := 82) C dX6_sumOfMargins_9 (by decide) (by omega) (by omega) (fun c9 => ?_) (fun c9 => ?_)
    · have e : c = mk_tr M := by omega
      subst e
      subst ex
      refine v_iload_n C dX6_sumOfMargins_82 rfl ?_
      exact v_iret C E dX6_sumOfMargins_83 rfl hp
    · refine v_aload_n C dX6_sumOfMargins_12 rfl ?_
      refine v_get C 0 dX6_sumOfMargins_13 wd1_175 hT.o rfl (by decide) ⟨rfl, rfl, rfl⟩ rfl ?_
      refine v_iload_n C dX6_sumOfMargins_16 rfl ?_
      refine v_ishr C dX6_sumOfMargins_17 ?_
      refine v_iconst (v := nI 1) C dX6_sumOfMargins_18 (by decide) ?_
      refine v_iand C dX6_sumOfMargins_19 ?_
      refine v_if_eq (tgt := 76) C dX6_sumOfMargins_20 (by decide) (fun c20 => ?_) (fun c20 => ?_)
      · refine v_iincN C dX6_sumOfMargins_76 (by decide) rfl ?_
        refine v_goto (tgt := 4) C dX6_sumOfMargins_79 (by decide) ?_
        exact ih (c + 1) _ (by omega) (by omega) (by rw [ex]; simp only [tk_sm]; first | rw [if_pos c20] | rw [if_neg c20])
      · refine v_iconst (v := nI 0) C dX6_sumOfMargins_23 (by decide) ?_
        refine v_istore C dX6_sumOfMargins_24 (by decide) ?_
        refine loop_X6_sumOfMargins1 C hRm hT hM (by omega) ?_ (mk_hz M) 0 _ (Nat.zero_le _) (by omega) rfl
        refine v_iincN C dX6_sumOfMargins_76 (by decide) rfl ?_
        refine v_goto (tgt := 4) C dX6_sumOfMargins_79 (by decide) ?_
        refine v_drop 4 ?_
        exact ih (c + 1) _ (by omega) (by omega) (by rw [ex]; simp only [tk_sm]; first | rw [if_pos c20] | rw [if_neg c20])
set_option maxHeartbeats 4000000 in
/-- the sum of the margins -/
theorem c_X6_sumOfMargins {G : hp_G} {l : Launch} (hl : l.stackTraces = false) {n : Nat} {h : Nat → Option va_E} {q : Nat} {sd nd : Nat} {af : Nat → Nat → Int32} {hs ps tk bt lf : Nat → Int32} {ls : Int32} (hT : Tk G h q sd nd af hs ps tk bt lf ls) {o : Nat} {M : mk_T} (hM : Mk G h o M) : Ct G l yX6_sumOfMargins cX6_sumOfMargins 6 (some .int) 1 0 0 [.ref q, .ref o] (n, h) (hp_ri (tk_sm sd af (mk_ar M 2) (mk_hz M) (mk_tr M)) (n, h)) := by
  refine Ct.of rfl hl (by simp [Value.category]) (Nat.le_of_ble_eq_true rfl) (fun K C E hRm hKl => ?_)
  subst hKl
  refine v_iconst (v := nI 0) C dX6_sumOfMargins_0 (by decide) ?_
  refine v_istore_n C dX6_sumOfMargins_1 (by decide) ?_
  refine v_iconst (v := nI 0) C dX6_sumOfMargins_2 (by decide) ?_
  refine v_istore_n C dX6_sumOfMargins_3 (by decide) ?_
  exact loop_X6_sumOfMargins2 C E hRm hT hM ⟨rfl, rfl⟩ (mk_tr M) 0 _ (Nat.zero_le _) (by omega) rfl
set_option maxHeartbeats 4000000 in
theorem loop_X6_takerOn {G : hp_G} {K : hp_C} {n : Nat} {h : Nat → Option va_E} {q : Nat} {sd nd : Nat} {af : Nat → Nat → Int32} {hs ps tk bt lf : Nat → Int32} {ls : Int32} {P : hp_P} (C : hp_Cx G K MX6_takerOn) (E : hp_End G K P) (hT : Tk G h q sd nd af hs ps tk bt lf ls) {on : Int32} : ∀ (f c : Nat), c + f = nd → P (.inl (some (.int (tk_to hs bt on f c)))) (n, h) → V G K MX6_takerOn 0 0 (n, h) 2 [some (.ref q), some (.int on), some (.int (nI c))] [] := by
  have hnd := hT.bnd
  intro f
  induction f with
  | zero =>
    intro c h1 hp
    have e : c = nd := by omega
    subst e
    refine v_iload_n C dX6_takerOn_2 rfl ?_
    refine v_aload_n C dX6_takerOn_3 rfl ?_
    refine v_get C 2 dX6_takerOn_4 wd1_177 hT.o rfl (by decide) ⟨rfl, rfl, rfl⟩ rfl ?_
    refine v_icmp_geN (tgt := 33) C dX6_takerOn_7 (by decide) (by omega) (by omega) (fun c7 => ?_) (fun c7 => absurd c7 (by omega))
    refine v_iconst (v := (-1)) C dX6_takerOn_33 (by decide) ?_
    exact v_iret C E dX6_takerOn_34 rfl hp
  | succ f ih =>
    intro c h1 hp
    refine v_iload_n C dX6_takerOn_2 rfl ?_
    refine v_aload_n C dX6_takerOn_3 rfl ?_
    refine v_get C 2 dX6_takerOn_4 wd1_177 hT.o rfl (by decide) ⟨rfl, rfl, rfl⟩ rfl ?_
    refine v_icmp_geN (tgt := 33) C dX6_takerOn_7 (by decide) (by omega) (by omega) (fun c7 => absurd c7 (by omega)) (fun c7 => ?_)
    refine v_aload_n C dX6_takerOn_10 rfl ?_
    refine v_get C 3 dX6_takerOn_11 wd1_178 hT.o rfl (by decide) ⟨rfl, rfl, rfl⟩ rfl ?_
    refine v_iload_n C dX6_takerOn_14 rfl ?_
    refine v_ialdN C dX6_takerOn_15 hT.a_hs (by omega) (by decide) ?_
    refine v_iload_n C dX6_takerOn_16 rfl ?_
    refine v_icmp_ne (tgt := 27) C dX6_takerOn_17 (by decide) (fun c17 => ?_) (fun c17 => ?_)
    · refine v_iincN C dX6_takerOn_27 (by decide) rfl ?_
      refine v_goto (tgt := 2) C dX6_takerOn_30 (by decide) ?_
      exact ih (c + 1) (by omega) (by unfold tk_to at hp; rw [if_neg c17] at hp; exact hp)
    · refine v_aload_n C dX6_takerOn_20 rfl ?_
      refine v_get C 6 dX6_takerOn_21 wd1_181 hT.o rfl (by decide) ⟨rfl, rfl, rfl⟩ rfl ?_
      refine v_iload_n C dX6_takerOn_24 rfl ?_
      refine v_ialdN C dX6_takerOn_25 hT.a_bt (by omega) (by decide) ?_
      exact v_iret C E dX6_takerOn_26 rfl (by unfold tk_to at hp; rw [if_pos c17] at hp; exact hp)
set_option maxHeartbeats 4000000 in
/-- who takes a position on -/
theorem c_X6_takerOn {G : hp_G} {l : Launch} (hl : l.stackTraces = false) {n : Nat} {h : Nat → Option va_E} {q : Nat} {sd nd : Nat} {af : Nat → Nat → Int32} {hs ps tk bt lf : Nat → Int32} {ls : Int32} (hT : Tk G h q sd nd af hs ps tk bt lf ls) (on : Int32) : Ct G l yX6_takerOn cX6_takerOn 3 (some .int) 0 0 0 [.ref q, .int on] (n, h) (hp_ri (tk_to hs bt on nd 0) (n, h)) := by
  refine Ct.of rfl hl (by simp [Value.category]) (Nat.le_of_ble_eq_true rfl) (fun K C E hRm hKl => ?_)
  subst hKl
  refine v_iconst (v := nI 0) C dX6_takerOn_0 (by decide) ?_
  refine v_istore_n C dX6_takerOn_1 (by decide) ?_
  exact loop_X6_takerOn C E hT nd 0 (Nat.zero_add _) ⟨rfl, rfl⟩
set_option maxHeartbeats 4000000 in
/-- whether there are takers enough -/
theorem c_X6_isPossible {G : hp_G} {l : Launch} (hl : l.stackTraces = false) {n : Nat} {h : Nat → Option va_E} {q : Nat} {sd nd : Nat} {af : Nat → Nat → Int32} {hs ps tk bt lf : Nat → Int32} {ls : Int32} (hT : Tk G h q sd nd af hs ps tk bt lf ls) : Ct G l yX6_isPossible cX6_isPossible 1 (some .boolean) 1 0 0 [.ref q] (n, h) (hp_ri (hp_b (nd ≤ tk_bc sd)) (n, h)) := by
  refine Ct.of rfl hl (by simp [Value.category]) (Nat.le_of_ble_eq_true rfl) (fun K C E hRm hKl => ?_)
  subst hKl
  have hnd := hT.bnd
  have hbc := tk_bc_le sd
  refine v_aload_n C dX6_isPossible_0 rfl ?_
  refine v_get C 0 dX6_isPossible_1 wd1_175 hT.o rfl (by decide) ⟨rfl, rfl, rfl⟩ rfl ?_
  refine v_callSi C (c_J6_bitCount_0f7a4 hl hT.bsd) dX6_isPossible_4 mJ6_bitCount_0f7a4 wd3_78 rfl rfl (Nat.le_of_ble_eq_true rfl) (hp_rmle hRm (by decide) (by decide)) (Nat.le_of_ble_eq_true rfl) (Nat.le_of_ble_eq_true rfl) ?_
  refine v_aload_n C dX6_isPossible_7 rfl ?_
  refine v_get C 2 dX6_isPossible_8 wd1_177 hT.o rfl (by decide) ⟨rfl, rfl, rfl⟩ rfl ?_
  refine v_icmp_ltN (tgt := 18) C dX6_isPossible_11 (by decide) (by omega) (by omega) (fun c11 => ?_) (fun c11 => ?_)
  · refine v_iconst (v := nI 0) C dX6_isPossible_18 (by decide) ?_
    exact v_zret C E dX6_isPossible_19 rfl rfl ⟨by simp [c11, hp_b, nI], rfl⟩
  · refine v_iconst (v := nI 1) C dX6_isPossible_14 (by decide) ?_
    refine v_goto (tgt := 19) C dX6_isPossible_15 (by decide) ?_
    exact v_zret C E dX6_isPossible_19 rfl rfl ⟨by simp [c11, hp_b, nI], rfl⟩
set_option maxHeartbeats 4000000 in
theorem loop_X6_leastWithLast {G : hp_G} {K : hp_C} {n : Nat} {h : Nat → Option va_E} {q o : Nat} {M : mk_T} {sd nd : Nat} {af : Nat → Nat → Int32} {hs ps tk bt lf : Nat → Int32} {ls : Int32} {P : hp_P} (C : hp_Cx G K MX6_leastWithLast) (E : hp_End G K P) (hRm : hp_Rm K = hp_rm 1 0 0) (hT : Tk G h q sd nd af hs ps tk bt lf ls) (hM : Mk G h o M) {s j hj : Nat} (hs6 : s < 64) (hj4 : j < 4) (hhj : hs j = nI hj) (hh4 : hj < 4) (hp : P (.inl (some (.int (tk_wl af (mk_ar M 2) hj (ps j) lf s (mk_tr M))))) (n, h)) : ∀ (f c : Nat) (x : Int32), c ≤ mk_tr M → mk_tr M ≤ c + f → x = tk_wl af (mk_ar M 2) hj (ps j) lf s c → V G K MX6_leastWithLast 0 0 (n, h) 7 [some (.ref q), some (.ref o), some (.int (nI s)), some (.int (nI j)), some (.int x), some (.int (nI c)), none, none, none] [] := by
  have htr := hM.tr
  intro f
  induction f with
  | zero =>
    intro c x h1 h2 ex
    have e : c = mk_tr M := by omega
    subst e
    subst ex
    refine v_iload C dX6_leastWithLast_7 rfl ?_
    refine v_aload_n C dX6_leastWithLast_9 rfl ?_
    refine v_getN (v := .int (nI (mk_tr M))) C 4 dX6_leastWithLast_10 wd1_56 hM.o rfl (by decide) ⟨rfl, rfl, rfl⟩ rfl ?_
    refine v_icmp_geN (tgt := 104) C dX6_leastWithLast_13 (by decide) (by omega) (by omega) (fun c13 => ?_) (fun c13 => absurd c13 (by omega))
    refine v_iload C dX6_leastWithLast_104 rfl ?_
    exact v_iret C E dX6_leastWithLast_106 rfl hp
  | succ f ih =>
    intro c x h1 h2 ex
    refine v_iload C dX6_leastWithLast_7 rfl ?_
    refine v_aload_n C dX6_leastWithLast_9 rfl ?_
    refine v_getN (v := .int (nI (mk_tr M))) C 4 dX6_leastWithLast_10 wd1_56 hM.o rfl (by decide) ⟨rfl, rfl, rfl⟩ rfl ?_
    refine v_icmp_geN (tgt := 104) C dX6_leastWithLast_13 (by decide) (by omega) (by omega) (fun c13 => ?_) (fun c13 => ?_)
    · have e : c = mk_tr M := by omega
      subst e
      subst ex
      refine v_iload C dX6_leastWithLast_104 rfl ?_
      exact v_iret C E dX6_leastWithLast_106 rfl hp
    · have xl := hp_xorlt (k := 6) (c := c) hs6 (by omega)
      refine v_iload_n C dX6_leastWithLast_16 rfl ?_
      refine v_iload C dX6_leastWithLast_17 rfl ?_
      refine v_ishr C dX6_leastWithLast_19 ?_
      refine v_iconst (v := nI 1) C dX6_leastWithLast_20 (by decide) ?_
      refine v_iand C dX6_leastWithLast_21 ?_
      refine v_if_eq (tgt := 98) C dX6_leastWithLast_22 (by decide) (fun c22 => ?_) (fun c22 => ?_)
      · refine v_iincN C dX6_leastWithLast_98 (by decide) rfl ?_
        refine v_goto (tgt := 7) C dX6_leastWithLast_101 (by decide) ?_
        exact ih (c + 1) _ (by omega) (by omega) (by rw [ex]; simp only [tk_wl]; rw [if_pos c22])
      · refine v_aload_n C dX6_leastWithLast_25 rfl ?_
        refine v_get C 1 dX6_leastWithLast_26 wd1_176 hT.o rfl (by decide) ⟨rfl, rfl, rfl⟩ rfl ?_
        refine v_iload C dX6_leastWithLast_29 rfl ?_
        refine v_aaldN C 6 dX6_leastWithLast_31 (by decide) hT.a_after (by omega) (by decide) (if_pos (by omega)) ?_
        refine v_aload_n C dX6_leastWithLast_32 rfl ?_
        refine v_get C 3 dX6_leastWithLast_33 wd1_178 hT.o rfl (by decide) ⟨rfl, rfl, rfl⟩ rfl ?_
        refine v_iload_n C dX6_leastWithLast_36 rfl ?_
        refine v_ialdN C dX6_leastWithLast_37 hT.a_hs (by omega) (by decide) ?_
        rw [hhj]
        refine v_ialdN C dX6_leastWithLast_38 (hT.row (by omega)) (by omega) (by decide) ?_
        refine v_istore C dX6_leastWithLast_39 (by decide) ?_
        refine v_iload C dX6_leastWithLast_41 rfl ?_
        refine v_aload_n C dX6_leastWithLast_43 rfl ?_
        refine v_get C 4 dX6_leastWithLast_44 wd1_179 hT.o rfl (by decide) ⟨rfl, rfl, rfl⟩ rfl ?_
        refine v_iload_n C dX6_leastWithLast_47 rfl ?_
        refine v_ialdN C dX6_leastWithLast_48 hT.a_ps (by omega) (by decide) ?_
        refine v_iadd C dX6_leastWithLast_49 ?_
        refine v_mabs C dX6_leastWithLast_50 wf20 (Nat.le_of_ble_eq_true rfl) (hp_rmm hRm) ?_
        refine v_iload C dX6_leastWithLast_53 rfl ?_
        refine v_mabs C dX6_leastWithLast_55 wf20 (Nat.le_of_ble_eq_true rfl) (hp_rmm hRm) ?_
        refine v_isub C dX6_leastWithLast_58 ?_
        refine v_istore C dX6_leastWithLast_59 (by decide) ?_
        refine v_aload_n C dX6_leastWithLast_61 rfl ?_
        refine v_get C 8 dX6_leastWithLast_62 wd1_183 hT.o rfl (by decide) ⟨rfl, rfl, rfl⟩ rfl ?_
        refine v_iload_n C dX6_leastWithLast_65 rfl ?_
        refine v_iconst (v := nI 1) C dX6_leastWithLast_66 (by decide) ?_
        refine v_iload C dX6_leastWithLast_67 rfl ?_
        refine v_ishl C dX6_leastWithLast_69 ?_
        rw [hp_sh1 _ (by omega)]
        refine v_ixor C dX6_leastWithLast_70 ?_
        rw [hp_xor]
        refine v_ialdN C dX6_leastWithLast_71 hT.a_lf (by omega) (by decide) ?_
        refine v_iload C dX6_leastWithLast_72 rfl ?_
        refine v_aload_n C dX6_leastWithLast_74 rfl ?_
        refine v_getN C 3 dX6_leastWithLast_75 wf0 hM.o rfl (by decide) ⟨rfl, rfl, rfl⟩ rfl ?_
        refine v_aload_n C dX6_leastWithLast_78 rfl ?_
        refine v_get C 3 dX6_leastWithLast_79 wd1_178 hT.o rfl (by decide) ⟨rfl, rfl, rfl⟩ rfl ?_
        refine v_iload_n C dX6_leastWithLast_82 rfl ?_
        refine v_ialdN C dX6_leastWithLast_83 hT.a_hs (by omega) (by decide) ?_
        rw [hhj]
        refine v_ialdN C dX6_leastWithLast_84 hM.a2 (by omega) (by decide) ?_
        refine v_imul C dX6_leastWithLast_85 ?_
        refine v_iadd C dX6_leastWithLast_86 ?_
        refine v_istore C dX6_leastWithLast_87 (by decide) ?_
        refine v_iload C dX6_leastWithLast_89 rfl ?_
        refine v_iload C dX6_leastWithLast_91 rfl ?_
        refine v_mmin C dX6_leastWithLast_93 wf21 (Nat.le_of_ble_eq_true rfl) (hp_rmm hRm) ?_
        refine v_istore C dX6_leastWithLast_96 (by decide) ?_
        refine v_iincN C dX6_leastWithLast_98 (by decide) rfl ?_
        refine v_goto (tgt := 7) C dX6_leastWithLast_101 (by decide) ?_
        refine v_drop 6 (v_drop 7 (v_drop 8 ?_))
        exact ih (c + 1) _ (by omega) (by omega) (by rw [ex]; simp only [tk_wl]; first | rw [if_pos c22] | rw [if_neg c22]; rfl)
set_option maxHeartbeats 4000000 in
/-- the least margins of a set, its last position by each -/
theorem c_X6_leastWithLast {G : hp_G} {l : Launch} (hl : l.stackTraces = false) {n : Nat} {h : Nat → Option va_E} {q : Nat} {sd nd : Nat} {af : Nat → Nat → Int32} {hs ps tk bt lf : Nat → Int32} {ls : Int32} (hT : Tk G h q sd nd af hs ps tk bt lf ls) {o : Nat} {M : mk_T} (hM : Mk G h o M) {s j hj : Nat} (hs6 : s < 64) (hj4 : j < 4) (hhj : hs j = nI hj) (hh4 : hj < 4) : Ct G l yX6_leastWithLast cX6_leastWithLast 9 (some .int) 1 0 0 [.ref q, .ref o, .int (nI s), .int (nI j)] (n, h) (hp_ri (tk_wl af (mk_ar M 2) hj (ps j) lf s (mk_tr M)) (n, h)) := by
  refine Ct.of rfl hl (by simp [Value.category]) (Nat.le_of_ble_eq_true rfl) (fun K C E hRm hKl => ?_)
  subst hKl
  refine v_ldc (v := 1000000000) C dX6_leastWithLast_0 wd3_88 ?_
  refine v_istore C dX6_leastWithLast_2 (by decide) ?_
  refine v_iconst (v := nI 0) C dX6_leastWithLast_4 (by decide) ?_
  refine v_istore C dX6_leastWithLast_5 (by decide) ?_
  exact loop_X6_leastWithLast C E hRm hT hM hs6 hj4 hhj hh4 ⟨rfl, rfl⟩ (mk_tr M) 0 _ (Nat.zero_le _) (by omega) rfl

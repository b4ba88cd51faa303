/-! ===== THE CLASS: texts ===== -/
def ex_a (T : rd_T) (M : mk_T) : hp_O := if T.1 = true then (match xe_f T M T.2.1 0 with | none => rI (nI T.2.1) | some _ => .inr xS) else .inr xA
abbrev ex_ok (T : rd_T) (M : mk_T) : Prop := T.1 = true ∧ xe_f T M T.2.1 0 = none
def ex_M (T : rd_T) (M : mk_T) : mk_T := if ex_ok T M then xe_M T M T.2.1 else M
def ex_B (T : rd_T) (M B : mk_T) : mk_T := if T.1 = true then M else B
def ex_K (T : rd_T) (M : mk_T) (mk : Nat → mk_T) (nx : Nat) : Nat → mk_T := if ex_ok T M then va_up mk nx M else mk
def ex_X (T : rd_T) (M : mk_T) (nx : Nat) : Nat := if ex_ok T M then (nx + 1) % 8 else nx
def ex_C (T : rd_T) (M : mk_T) (cnt : Nat) : Nat := if ex_ok T M then min (cnt + 1) 8 else cnt
def ex_ma (T : rd_T) (ma : Int32) : Int32 := if T.1 = true then ma else nI T.2.2.2.2
def ex_fa (T : rd_T) (M : mk_T) (fa : Int32) : Int32 := if T.1 = true then (match xe_f T M T.2.1 0 with | none => fa | some i => nI i) else fa
/-- the nights of a text find their ways -/
def ex_hok (T : rd_T) (M : mk_T) : Prop := ∀ i, i < T.2.1 → xe_c T i = 4 → (∀ k, k < i → xe_o T M k = nI 0) → pn_ok (xe_M T M i)
set_option maxHeartbeats 4000000 in
theorem loop_X7_execute {G : hp_G} {K : hp_C} {P : hp_P} {n0 : Nat} {h0 : Nat → Option va_E} {x L0 : Nat} {M : mk_T} {B : mk_T} {Z : mk_T} {mk : Nat → mk_T} {nx : Nat} {cnt : Nat} {t : Nat → Nat} {n : Nat} {lt : Nat → Nat} {ln : Nat} {hs : Int32} {ma : Int32} {fa : Int32} {rk : Nat → Option va_E} {bv : Int32} {rk1 : Nat → Option va_E} {cm ar : Nat → Int32} {q c0 : Nat} {T : rd_T} (C : hp_Cx G K MX7_execute) (E : hp_End G K P) (hRm : hp_Rm K = hp_rm 11 1 6) (hl : K.2.1.stackTraces = false) (hc0 : T.2.1 = c0) (hR : Cr G rk1 (x + 141) cm ar c0 q) (hre : rd_re c0 cm ar T.2.2.1 T.2.2.2.1) (hok : ex_hok T M) (hbase : G.2.1 ≤ x) (hl0 : x + 148 ≤ L0) (hp1 : ∀ n' h', xe_f T M c0 0 = none → Fx G n0 h0 x L0 (xe_M T M c0) M Z (va_up mk nx M) ((nx + 1) % 8) (min (cnt + 1) 8) t 0 lt ln hs ma fa rk1 n' h' → P (rI (nI c0)) (n', h')) (hp2 : ∀ i n' h', xe_f T M c0 0 = some i → Fx G n0 h0 x L0 M M Z mk nx cnt t 0 lt ln hs ma (nI i) rk1 n' h' → P (.inr xS) (n', h')) : ∀ (e i : Nat) (h : Nat → Option va_E), i + e = c0 → xe_f T M e i = xe_f T M c0 0 → (∀ k, k < i → xe_o T M k = nI 0) → Fx G n0 h0 x L0 (xe_M T M i) M Z mk nx cnt t 0 lt ln hs ma fa rk1 n0 h → V G K MX7_execute 1 6 (n0, h) 58 [some (.ref x), some (.int bv), some (.int (nI i)), none, none, none, none, none, none] [] := by
  have hbc := hR.bc
  intro e
  induction e with
  | zero =>
    intro i h h1 hx ha F
    have e : i = c0 := by omega
    subst e
    have R := hR.same (h' := h) (fun a k1 k2 => F.1.cr.2 a k1 (by omega))
    refine v_iload_n C dX7_execute_58 rfl ?_
    refine v_aload_n C dX7_execute_59 rfl ?_
    refine v_get C 6 dX7_execute_60 wd2_23 F.1.o rfl (by decide) ⟨rfl, rfl, rfl⟩ rfl ?_
    refine v_getN (v := .int (nI (i))) C 2 dX7_execute_63 wd1_212 R.o rfl (by decide) ⟨rfl, rfl, rfl⟩ rfl ?_
    refine v_icmp_geN (tgt := 200) C dX7_execute_66 (by decide) (by omega) (by omega) (fun c66 => ?_) (fun c66 => absurd c66 (by omega))
    refine v_aload_n C dX7_execute_200 rfl ?_
    refine v_get C 3 dX7_execute_201 wd2_20 F.1.o rfl (by decide) ⟨rfl, rfl, rfl⟩ rfl ?_
    refine v_aload_n C dX7_execute_204 rfl ?_
    refine v_get C 1 dX7_execute_205 wd2_18 F.1.o rfl (by decide) ⟨rfl, rfl, rfl⟩ rfl ?_
    refine v_callVv C (c_X3_keep hl F.1.hh F.1.b (by omega)) dX7_execute_208 mX3_keep rfl F.1.hh.o rfl wd3_3 rfl rfl (Nat.le_of_ble_eq_true rfl) (hp_rmle hRm (by decide) (by decide)) (Nat.le_of_ble_eq_true rfl) (Nat.le_of_ble_eq_true rfl) (fun n208 h208 q208 => ?_)
    obtain ⟨k208, H208, B208, u208⟩ := q208
    have z208 := Eq.symm k208
    have z208 : n0 = n208 := z208
    subst z208
    have F208 := F.uhb H208 B208 u208
    have R208 := hR.same (h' := h208) (fun a k1 k2 => F208.1.cr.2 a k1 (by omega))
    refine v_aload_n C dX7_execute_211 rfl ?_
    refine v_get C 6 dX7_execute_212 wd2_23 F208.1.o rfl (by decide) ⟨rfl, rfl, rfl⟩ rfl ?_
    refine v_getN (v := .int (nI (i))) C 2 dX7_execute_215 wd1_212 R208.o rfl (by decide) ⟨rfl, rfl, rfl⟩ rfl ?_
    exact v_iret C E dX7_execute_218 rfl (hp1 _ _ hx.symm F208)
  | succ e ih =>
    intro i h h1 hx ha F
    have R := hR.same (h' := h) (fun a k1 k2 => F.1.cr.2 a k1 (by omega))
    obtain ⟨c, hc8, ec1, ec2, ear⟩ := hre i (by omega)
    have ec : xe_c T i = c := by unfold xe_c; rw [ec2]; exact nI_clamp (by omega)
    have fd := fo_dep (M := xe_M T M i) hc8 (a := ar (i * 5 + 0)) (b := ar (i * 5 + 1)) (k := ar (i * 5 + 2)) (d := ar (i * 5 + 3)) (e := ar (i * 5 + 4)) (a' := xe_a T i 0) (b' := xe_a T i 1) (k' := xe_a T i 2) (d' := xe_a T i 3) (e' := xe_a T i 4) (ear 0) (ear 1) (ear 2) (ear 3) (ear 4)
    have eo : fo (xe_M T M i) c (ar (i * 5 + 0)) (ar (i * 5 + 1)) (ar (i * 5 + 2)) (ar (i * 5 + 3)) (ar (i * 5 + 4)) = xe_o T M i := fd.1.trans (by unfold xe_o; rw [ec])
    have eM : po_M (xe_M T M i) c (ar (i * 5 + 0)) (ar (i * 5 + 1)) (ar (i * 5 + 2)) (ar (i * 5 + 3)) (ar (i * 5 + 4)) = xe_M T M (i + 1) := fd.2.1.trans (by rw [← ec]; rfl)
    refine v_iload_n C dX7_execute_58 rfl ?_
    refine v_aload_n C dX7_execute_59 rfl ?_
    refine v_get C 6 dX7_execute_60 wd2_23 F.1.o rfl (by decide) ⟨rfl, rfl, rfl⟩ rfl ?_
    refine v_getN (v := .int (nI (c0))) C 2 dX7_execute_63 wd1_212 R.o rfl (by decide) ⟨rfl, rfl, rfl⟩ rfl ?_
    refine v_icmp_geN (tgt := 200) C dX7_execute_66 (by decide) (by omega) (by omega) (fun c66 => absurd c66 (by omega)) (fun c66 => ?_)
    refine v_aload_n C dX7_execute_69 rfl ?_
    refine v_get C 6 dX7_execute_70 wd2_23 F.1.o rfl (by decide) ⟨rfl, rfl, rfl⟩ rfl ?_
    refine v_iload_n C dX7_execute_73 rfl ?_
    refine v_callVi C (c_X1_commandAt hl R (i := i) (by omega)) dX7_execute_74 mX1_commandAt rfl R.o rfl wd6_186 rfl rfl (Nat.le_of_ble_eq_true rfl) (hp_rmle hRm (by decide) (by decide)) (Nat.le_of_ble_eq_true rfl) (Nat.le_of_ble_eq_true rfl) ?_
    rw [ec1]
    refine v_istore_n C dX7_execute_77 (by decide) ?_
    show V G K MX7_execute _ _ (n0, h) 78 [some (.ref x), some (.int bv), some (.int (nI i)), some (.int (nI c)), none, none, none, none, none] []
    refine v_aload_n C dX7_execute_78 rfl ?_
    refine v_get C 6 dX7_execute_79 wd2_23 F.1.o rfl (by decide) ⟨rfl, rfl, rfl⟩ rfl ?_
    refine v_iload_n C dX7_execute_82 rfl ?_
    refine v_iconst (v := nI 0) C dX7_execute_83 (by decide) ?_
    refine v_callVi C (c_X1_argumentAt hl R (i := i) (j := 0) (by omega) (by omega)) dX7_execute_84 mX1_argumentAt rfl R.o rfl wd6_190 rfl rfl (Nat.le_of_ble_eq_true rfl) (hp_rmle hRm (by decide) (by decide)) (Nat.le_of_ble_eq_true rfl) (Nat.le_of_ble_eq_true rfl) ?_
    refine v_istore C dX7_execute_87 (by decide) ?_
    show V G K MX7_execute _ _ (n0, h) 89 [some (.ref x), some (.int bv), some (.int (nI i)), some (.int (nI c)), some (.int (ar (i * 5 + 0))), none, none, none, none] []
    refine v_aload_n C dX7_execute_89 rfl ?_
    refine v_get C 6 dX7_execute_90 wd2_23 F.1.o rfl (by decide) ⟨rfl, rfl, rfl⟩ rfl ?_
    refine v_iload_n C dX7_execute_93 rfl ?_
    refine v_iconst (v := nI 1) C dX7_execute_94 (by decide) ?_
    refine v_callVi C (c_X1_argumentAt hl R (i := i) (j := 1) (by omega) (by omega)) dX7_execute_95 mX1_argumentAt rfl R.o rfl wd6_190 rfl rfl (Nat.le_of_ble_eq_true rfl) (hp_rmle hRm (by decide) (by decide)) (Nat.le_of_ble_eq_true rfl) (Nat.le_of_ble_eq_true rfl) ?_
    refine v_istore C dX7_execute_98 (by decide) ?_
    show V G K MX7_execute _ _ (n0, h) 100 [some (.ref x), some (.int bv), some (.int (nI i)), some (.int (nI c)), some (.int (ar (i * 5 + 0))), some (.int (ar (i * 5 + 1))), none, none, none] []
    refine v_aload_n C dX7_execute_100 rfl ?_
    refine v_get C 6 dX7_execute_101 wd2_23 F.1.o rfl (by decide) ⟨rfl, rfl, rfl⟩ rfl ?_
    refine v_iload_n C dX7_execute_104 rfl ?_
    refine v_iconst (v := nI 2) C dX7_execute_105 (by decide) ?_
    refine v_callVi C (c_X1_argumentAt hl R (i := i) (j := 2) (by omega) (by omega)) dX7_execute_106 mX1_argumentAt rfl R.o rfl wd6_190 rfl rfl (Nat.le_of_ble_eq_true rfl) (hp_rmle hRm (by decide) (by decide)) (Nat.le_of_ble_eq_true rfl) (Nat.le_of_ble_eq_true rfl) ?_
    refine v_istore C dX7_execute_109 (by decide) ?_
    show V G K MX7_execute _ _ (n0, h) 111 [some (.ref x), some (.int bv), some (.int (nI i)), some (.int (nI c)), some (.int (ar (i * 5 + 0))), some (.int (ar (i * 5 + 1))), some (.int (ar (i * 5 + 2))), none, none] []
    refine v_aload_n C dX7_execute_111 rfl ?_
    refine v_get C 6 dX7_execute_112 wd2_23 F.1.o rfl (by decide) ⟨rfl, rfl, rfl⟩ rfl ?_
    refine v_iload_n C dX7_execute_115 rfl ?_
    refine v_iconst (v := nI 3) C dX7_execute_116 (by decide) ?_
    refine v_callVi C (c_X1_argumentAt hl R (i := i) (j := 3) (by omega) (by omega)) dX7_execute_117 mX1_argumentAt rfl R.o rfl wd6_190 rfl rfl (Nat.le_of_ble_eq_true rfl) (hp_rmle hRm (by decide) (by decide)) (Nat.le_of_ble_eq_true rfl) (Nat.le_of_ble_eq_true rfl) ?_
    refine v_istore C dX7_execute_120 (by decide) ?_
    show V G K MX7_execute _ _ (n0, h) 122 [some (.ref x), some (.int bv), some (.int (nI i)), some (.int (nI c)), some (.int (ar (i * 5 + 0))), some (.int (ar (i * 5 + 1))), some (.int (ar (i * 5 + 2))), some (.int (ar (i * 5 + 3))), none] []
    refine v_aload_n C dX7_execute_122 rfl ?_
    refine v_get C 6 dX7_execute_123 wd2_23 F.1.o rfl (by decide) ⟨rfl, rfl, rfl⟩ rfl ?_
    refine v_iload_n C dX7_execute_126 rfl ?_
    refine v_iconst (v := nI 4) C dX7_execute_127 (by decide) ?_
    refine v_callVi C (c_X1_argumentAt hl R (i := i) (j := 4) (by omega) (by omega)) dX7_execute_128 mX1_argumentAt rfl R.o rfl wd6_190 rfl rfl (Nat.le_of_ble_eq_true rfl) (hp_rmle hRm (by decide) (by decide)) (Nat.le_of_ble_eq_true rfl) (Nat.le_of_ble_eq_true rfl) ?_
    refine v_istore C dX7_execute_131 (by decide) ?_
    show V G K MX7_execute _ _ (n0, h) 133 [some (.ref x), some (.int bv), some (.int (nI i)), some (.int (nI c)), some (.int (ar (i * 5 + 0))), some (.int (ar (i * 5 + 1))), some (.int (ar (i * 5 + 2))), some (.int (ar (i * 5 + 3))), some (.int (ar (i * 5 + 4)))] []
    refine v_aload_n C dX7_execute_133 rfl ?_
    refine v_iload_n C dX7_execute_134 rfl ?_
    refine v_iload C dX7_execute_135 rfl ?_
    refine v_iload C dX7_execute_137 rfl ?_
    refine v_iload C dX7_execute_139 rfl ?_
    refine v_iload C dX7_execute_141 rfl ?_
    refine v_iload C dX7_execute_143 rfl ?_
    refine v_callVi C (c_X7_faultOf hl F.1 F.lo hc8 _ _ _ _ _) dX7_execute_145 mX7_faultOf rfl F.1.o rfl wd2_62 rfl rfl (Nat.le_of_ble_eq_true rfl) (hp_rmle hRm (by decide) (by decide)) (Nat.le_of_ble_eq_true rfl) (Nat.le_of_ble_eq_true rfl) ?_
    rw [eo]
    refine v_if_eq (tgt := 178) C dX7_execute_148 (by decide) (fun c148 => ?_) (fun c148 => ?_)
    · refine v_aload_n C dX7_execute_178 rfl ?_
      refine v_iload_n C dX7_execute_179 rfl ?_
      refine v_iload C dX7_execute_180 rfl ?_
      refine v_iload C dX7_execute_182 rfl ?_
      refine v_iload C dX7_execute_184 rfl ?_
      refine v_iload C dX7_execute_186 rfl ?_
      refine v_iload C dX7_execute_188 rfl ?_
      refine v_callVq C (c_X7_perform hl F.1 F.lo hc8 _ _ _ _ _ (eo.trans c148) (fun z => hok i (by omega) (ec.trans z) ha)) dX7_execute_190 mX7_perform rfl F.1.o rfl wd3_20 rfl rfl (Nat.le_of_ble_eq_true rfl) (hp_rmle hRm (by decide) (by decide)) (Nat.le_of_ble_eq_true rfl) (Nat.le_of_ble_eq_true rfl) (fun r190 n190 h190 q190 => ?_)
      obtain ⟨e190, k190, F190⟩ := q190
      have z190 := Eq.symm k190
      have z190 : n0 = n190 := z190
      subst z190
      rw [eM] at F190
      have F190 := F.trans F190
      refine v_pop C dX7_execute_193 rfl ?_
      refine v_iincN C dX7_execute_194 (by decide) rfl ?_
      refine v_goto (tgt := 58) C dX7_execute_197 (by decide) ?_
      refine v_drop 3 ?_
      refine v_drop 4 ?_
      refine v_drop 5 ?_
      refine v_drop 6 ?_
      refine v_drop 7 ?_
      refine v_drop 8 ?_
      exact ih (i + 1) _ (by omega) (by rw [← hx]; exact (if_pos c148).symm) (fun k hk => by by_cases z : k = i; (subst z; exact c148); exact ha k (by omega)) F190
    · refine v_aload_n C dX7_execute_151 rfl ?_
      refine v_get C 0 dX7_execute_152 wd2_17 F.1.o rfl (by decide) ⟨rfl, rfl, rfl⟩ rfl ?_
      refine v_aload_n C dX7_execute_155 rfl ?_
      refine v_get C 1 dX7_execute_156 wd2_18 F.1.o rfl (by decide) ⟨rfl, rfl, rfl⟩ rfl ?_
      refine v_callVv C (c_X4_copyFrom hl F.1.m F.1.b (by omega)) dX7_execute_159 mX4_copyFrom rfl F.1.m.o rfl wd4_1 rfl rfl (Nat.le_of_ble_eq_true rfl) (hp_rmle hRm (by decide) (by decide)) (Nat.le_of_ble_eq_true rfl) (Nat.le_of_ble_eq_true rfl) (fun n159 h159 q159 => ?_)
      obtain ⟨k159, M159, u159⟩ := q159
      have z159 := Eq.symm k159
      have z159 : n0 = n159 := z159
      subst z159
      have F159 := F.um M159 u159
      refine v_aload_n C dX7_execute_162 rfl ?_
      refine v_iload_n C dX7_execute_163 rfl ?_
      refine v_put C 11 dX7_execute_164 wd2_28 hbase F159.1.o rfl (by decide) ⟨rfl, rfl, rfl, rfl⟩ rfl rfl rfl (Nat.le_of_ble_eq_true rfl) (fun h164 e164 g164 => ?_)
      have F164 := F159.uo (hs1 := hs) (ma1 := ma) (fa1 := nI i) e164 (fun a ha => g164 a (by omega))
      exact v_throwW (cls := "java/lang/IllegalStateException") C E ["java/lang/RuntimeException", "java/lang/Exception"] 30 (by decide) (by decide) wd2_211 wd1_18 rfl hp_taISE hp_tbISE dX7_execute_167 dX7_execute_170 dX7_execute_171 dX7_execute_174 dX7_execute_177 (by decide) (by rw [hRm]; exact ⟨by decide, by decide⟩) (by decide) (by decide) (by decide) (fun n' hn => hp2 i n' _ (hx.symm.trans (by unfold xe_f; exact if_neg (fun z => c148 z))) (F164.up hn))
set_option maxHeartbeats 8000000 in
/-- the text is carried out -/
theorem c_X7_execute {G : hp_G} {l : Launch} (hl : l.stackTraces = false) {n0 : Nat} {h0 : Nat → Option va_E} {x L0 : Nat} {M : mk_T} {B : mk_T} {Z : mk_T} {mk : Nat → mk_T} {nx : Nat} {cnt : Nat} {t : Nat → Nat} {n : Nat} {lt : Nat → Nat} {ln : Nat} {hs : Int32} {ma : Int32} {fa : Int32} {rk : Nat → Option va_E} (E0 : Ex G h0 x L0 M B Z mk nx cnt t n lt ln hs ma fa rk) (hL : L0 ≤ n0) (hn : n ≤ 60) {T : rd_T} (hT : tx_p t n = T) (hok : ex_hok T M) : Ct G l yX7_execute cX7_execute 9 (some .int) 11 1 6 [.ref x] (n0, h0) (fun o τ => ∃ rk1, o = ex_a T M ∧ Fx G n0 h0 x L0 (ex_M T M) (ex_B T M B) Z (ex_K T M mk nx) (ex_X T M nx) (ex_C T M cnt) t 0 lt ln hs (ex_ma T ma) (ex_fa T M fa) rk1 τ.1 τ.2) := by
  have F0 := Fx.start E0 hL
  have hhz := E0.m.hz
  have htr := E0.m.tr
  have hct := E0.m.ct
  have hbase := E0.base
  have hl0 := E0.l0
  obtain ⟨vt, mlt, mt, vl, mll, m2, ST, SL, z3, z4, z5⟩ := E0.sb
  obtain ⟨⟨cm, ar, rc, rp, hR⟩, -⟩ := E0.cr
  have hsg : ∀ i, i < n → t i < 256 := fun i hi => (ST.2.1.choose_spec.2.1 i hi).1
  obtain ⟨al, hal, -⟩ := SL.2.1
  obtain ⟨ZZ, hZ⟩ : ∃ ZZ : rd_T, rd_tx t n 12 0 cm ar 0 = ZZ := ⟨_, rfl⟩
  have hread := c_X1_read (n0 := n0) hl hR (⟨ST, E0.kc, by omega, by omega, by omega⟩ : Rt G h0 (x + 141) (x + 144) vt mlt t n mt) hsg hn
  rw [hZ] at hread
  have dd := tx_dep (t := t) (n := n) cm ar
  rw [hZ, hT] at dd
  obtain ⟨d1, d2, d3, d4⟩ := dd
  have hc12 := tx_c12 t n
  rw [hT] at hc12
  clear hZ
  refine Ct.of rfl hl (by simp [Value.category]) (Nat.le_of_ble_eq_true rfl) (fun K C E hRm hKl => ?_)
  subst hKl
  refine v_lt hal (fun hvl => ?_)
  refine v_aload_n C dX7_execute_0 rfl ?_
  refine v_get C 6 dX7_execute_1 wd2_23 F0.1.o rfl (by decide) ⟨rfl, rfl, rfl⟩ rfl ?_
  refine v_aload_n C dX7_execute_4 rfl ?_
  refine v_get C 7 dX7_execute_5 wd2_24 F0.1.o rfl (by decide) ⟨rfl, rfl, rfl⟩ rfl ?_
  refine v_callVq C hread dX7_execute_8 mX1_read rfl hR.o rfl wd6_119 rfl rfl (Nat.le_of_ble_eq_true rfl) (hp_rmle hRm (by decide) (by decide)) (Nat.le_of_ble_eq_true rfl) (Nat.le_of_ble_eq_true rfl) (fun r8 n8 h8 q8 => ?_)
  obtain ⟨e8, k8, R8, u8⟩ := q8
  have z8 := Eq.symm k8
  have z8 : n0 = n8 := z8
  subst z8
  have F8 := F0.ur (rk1 := h8) ⟨⟨_, _, _, _, R8⟩, fun a _ _ => rfl⟩ (fun a ha => u8 a (by omega))
  rw [d2, d3] at R8
  have e8 : r8 = hp_b (T.1 = true) := e8.trans (by rw [d1])
  subst e8
  have ST8 := ST.same (u8 _ (by omega)) (u8 _ (by omega))
  have SL8 := SL.same (u8 _ (by omega)) (u8 _ (by omega))
  refine v_istore_n C dX7_execute_11 (by decide) ?_
  refine v_aload_n C dX7_execute_12 rfl ?_
  refine v_get C 7 dX7_execute_13 wd2_24 F8.1.o rfl (by decide) ⟨rfl, rfl, rfl⟩ rfl ?_
  refine v_iconst (v := nI 0) C dX7_execute_16 (by decide) ?_
  refine v_callVv C (c_J4_setLength_d00df hl ST8) dX7_execute_17 mJ4_setLength_d00df rfl ST8.1 rfl wd5_44 rfl rfl (Nat.le_of_ble_eq_true rfl) (hp_rmle hRm (by decide) (by decide)) (Nat.le_of_ble_eq_true rfl) (Nat.le_of_ble_eq_true rfl) (fun n17 h17 q17 => ?_)
  obtain ⟨ml17, S17, k17, u17⟩ := q17
  have z17 := Eq.symm k17
  have z17 : n0 = n17 := z17
  subst z17
  have F17 := F8.uq (n' := n0) ST8 SL8 z3 z4 z5 S17 (Or.inl rfl) hvl (Nat.le_refl _) (fun b k1 _ _ => u17 b k1)
  have R17 := R8.same (h' := h17) (fun a k1 k2 => u17 a (by omega))
  refine v_iload_n C dX7_execute_20 rfl ?_
  refine v_if_neB (tgt := 45) C dX7_execute_21 (by decide) (fun c21 => ?_) (fun c21 => ?_)
  · refine v_aload_n C dX7_execute_45 rfl ?_
    refine v_get C 1 dX7_execute_46 wd2_18 F17.1.o rfl (by decide) ⟨rfl, rfl, rfl⟩ rfl ?_
    refine v_aload_n C dX7_execute_49 rfl ?_
    refine v_get C 0 dX7_execute_50 wd2_17 F17.1.o rfl (by decide) ⟨rfl, rfl, rfl⟩ rfl ?_
    refine v_callVv C (c_X4_copyFrom hl F17.1.b F17.1.m (by omega)) dX7_execute_53 mX4_copyFrom rfl F17.1.b.o rfl wd4_1 rfl rfl (Nat.le_of_ble_eq_true rfl) (hp_rmle hRm (by decide) (by decide)) (Nat.le_of_ble_eq_true rfl) (Nat.le_of_ble_eq_true rfl) (fun n53 h53 q53 => ?_)
    obtain ⟨k53, B53, u53⟩ := q53
    have z53 := Eq.symm k53
    have z53 : n0 = n53 := z53
    subst z53
    have F53 := F17.ub B53 u53
    refine v_iconst (v := nI 0) C dX7_execute_56 (by decide) ?_
    refine v_istore_n C dX7_execute_57 (by decide) ?_
    refine loop_X7_execute (T := T) (n := n) (rk := rk) (M := M) (B := B) C E hRm hl rfl R8 (d4 c21) hok hbase hl0 (fun n' h' hx F1 => ?_) (fun i n' h' hx F1 => ?_) _ 0 _ (Nat.zero_add _) rfl (fun k hk => absurd hk (Nat.not_lt_zero k)) F53
    · have hk : ex_ok T M := ⟨c21, hx⟩
      exact ⟨h8, by unfold ex_a; rw [if_pos c21, hx], by unfold ex_M ex_B ex_K ex_X ex_C ex_ma ex_fa; rw [if_pos hk, if_pos c21, if_pos hk, if_pos hk, if_pos hk, if_pos c21, if_pos c21, hx]; exact F1⟩
    · have hk : ¬ ex_ok T M := fun z => by have y := z.2; rw [hx] at y; cases y
      exact ⟨h8, by unfold ex_a; rw [if_pos c21, hx], by unfold ex_M ex_B ex_K ex_X ex_C ex_ma ex_fa; rw [if_neg hk, if_pos c21, if_neg hk, if_neg hk, if_neg hk, if_pos c21, if_pos c21, hx]; exact F1⟩
  · refine v_aload_n C dX7_execute_24 rfl ?_
    refine v_aload_n C dX7_execute_25 rfl ?_
    refine v_get C 6 dX7_execute_26 wd2_23 F17.1.o rfl (by decide) ⟨rfl, rfl, rfl⟩ rfl ?_
    refine v_getN (v := .int (nI (T.2.2.2.2))) C 3 dX7_execute_29 wd1_214 R17.o rfl (by decide) ⟨rfl, rfl, rfl⟩ rfl ?_
    refine v_put C 10 dX7_execute_32 wd2_27 hbase F17.1.o rfl (by decide) ⟨rfl, rfl, rfl, rfl⟩ rfl rfl rfl (Nat.le_of_ble_eq_true rfl) (fun h32 e32 g32 => ?_)
    have F32 := F17.uo (hs1 := hs) (ma1 := nI T.2.2.2.2) (fa1 := fa) e32 (fun a ha => g32 a (by omega))
    exact v_throw (cls := "java/lang/IllegalArgumentException") C E ["java/lang/RuntimeException", "java/lang/Exception"] 29 (by decide) (by decide) wd2_195 wd1_17 rfl hp_taIAE hp_tbIAE dX7_execute_35 dX7_execute_38 dX7_execute_39 dX7_execute_41 dX7_execute_44 (by decide) (by rw [hRm]; exact ⟨by decide, by decide⟩) (by decide) (by decide) (by decide) (fun n' hn => ⟨h8, (if_neg c21).symm, by unfold ex_M ex_B ex_K ex_X ex_C ex_ma ex_fa; rw [if_neg (fun z => c21 z.1), if_neg c21, if_neg (fun z => c21 z.1), if_neg (fun z => c21 z.1), if_neg (fun z => c21 z.1), if_neg c21, if_neg c21]; exact F32.up hn⟩)
/-- what typing answers; the text behind it -/
def ty_a (k n : Nat) : hp_O := if k < 32 ∨ 126 < k then .inr xA else if 60 ≤ n then .inr xS else rI (nI (n + 1))
abbrev ty_ok (k n : Nat) : Prop := ¬ (k < 32 ∨ 126 < k) ∧ ¬ 60 ≤ n
def ty_t (k : Nat) (t : Nat → Nat) (n : Nat) : Nat → Nat := if ty_ok k n then sb_cat t n (fun _ => k) else t
def ty_n (k n : Nat) : Nat := if ty_ok k n then n + 1 else n
set_option maxHeartbeats 8000000 in
/-- a sign is typed -/
theorem c_X7_type {G : hp_G} {l : Launch} (hl : l.stackTraces = false) {n0 : Nat} {h0 : Nat → Option va_E} {x L0 : Nat} {M : mk_T} {B : mk_T} {Z : mk_T} {mk : Nat → mk_T} {nx : Nat} {cnt : Nat} {t : Nat → Nat} {n : Nat} {lt : Nat → Nat} {ln : Nat} {hs : Int32} {ma : Int32} {fa : Int32} {rk : Nat → Option va_E} (E0 : Ex G h0 x L0 M B Z mk nx cnt t n lt ln hs ma fa rk) (hL : L0 ≤ n0) {k : Nat} (hk : k < 65536) : Ct G l yX7_type cX7_type 2 (some .int) 7 1 602 [.ref x, .int (nI k)] (n0, h0) (fun o τ => o = ty_a k n ∧ Fx G n0 h0 x L0 M B Z mk nx cnt (ty_t k t n) (ty_n k n) lt ln hs ma fa rk τ.1 τ.2) := by
  have F0 := Fx.start E0 hL
  have hhz := E0.m.hz
  have htr := E0.m.tr
  have hct := E0.m.ct
  have hbase := E0.base
  have hl0 := E0.l0
  obtain ⟨vt, mlt, mt, vl, mll, m2, ST, SL, z3, z4, z5⟩ := E0.sb
  obtain ⟨al, hal, -⟩ := SL.2.1
  have hn1 := ST.2.2.1
  have hn2 := ST.2.2.2.1
  refine Ct.of rfl hl (by simp [Value.category]) (Nat.le_of_ble_eq_true rfl) (fun K C E hRm hKl => ?_)
  subst hKl
  refine v_lt hal (fun hvl => ?_)
  refine v_iload_n C dX7_type_0 rfl ?_
  refine v_bipush (v := nI 32) C dX7_type_1 (by decide) ?_
  refine v_icmp_ltN (tgt := 12) C dX7_type_3 (by decide) (by omega) (by omega) (fun c3 => ?_) (fun c3 => ?_)
  · exact v_throw (cls := "java/lang/IllegalArgumentException") C E ["java/lang/RuntimeException", "java/lang/Exception"] 13 (by decide) (by decide) wd2_195 wd1_17 rfl hp_taIAE hp_tbIAE dX7_type_12 dX7_type_15 dX7_type_16 dX7_type_18 dX7_type_21 (by decide) (by rw [hRm]; exact ⟨by decide, by decide⟩) (by decide) (by decide) (by decide) (fun n' hn => ⟨(if_pos (by omega)).symm, by unfold ty_t ty_n; rw [if_neg (fun z => z.1 (by omega)), if_neg (fun z => z.1 (by omega))]; exact F0.up hn⟩)
  · refine v_iload_n C dX7_type_6 rfl ?_
    refine v_bipush (v := nI 126) C dX7_type_7 (by decide) ?_
    refine v_icmp_leN (tgt := 22) C dX7_type_9 (by decide) (by omega) (by omega) (fun c9 => ?_) (fun c9 => ?_)
    · refine v_aload_n C dX7_type_22 rfl ?_
      refine v_get C 7 dX7_type_23 wd2_24 F0.1.o rfl (by decide) ⟨rfl, rfl, rfl⟩ rfl ?_
      refine v_callVi C (c_J4_length_8abf5 hl ST.1) dX7_type_26 mJ4_length_8abf5 rfl ST.1 rfl wd6_78 rfl rfl (Nat.le_of_ble_eq_true rfl) (hp_rmle hRm (by decide) (by decide)) (Nat.le_of_ble_eq_true rfl) (Nat.le_of_ble_eq_true rfl) ?_
      refine v_bipush (v := nI 60) C dX7_type_29 (by decide) ?_
      refine v_icmp_ltN (tgt := 44) C dX7_type_31 (by decide) (by omega) (by omega) (fun c31 => ?_) (fun c31 => ?_)
      · refine v_aload_n C dX7_type_44 rfl ?_
        refine v_get C 7 dX7_type_45 wd2_24 F0.1.o rfl (by decide) ⟨rfl, rfl, rfl⟩ rfl ?_
        refine v_iload_n C dX7_type_48 rfl ?_
        refine v_callVa C (c_J4_append_cf468 hl ST (c := k) (by omega) (by omega)) dX7_type_49 mJ4_append_cf468 rfl ST.1 rfl wd6_56 rfl rfl (Nat.le_of_ble_eq_true rfl) (hp_rmle hRm (by decide) (by decide)) (Nat.le_of_ble_eq_true rfl) (Nat.le_of_ble_eq_true rfl) (fun r49 n49 h49 q49 => ?_)
        obtain ⟨e49, v1, ml1, m1, S49, hx1, hx2, hx3⟩ := q49
        subst e49
        have F49 := F0.uq (n' := n49) ST SL z3 z4 z5 S49 hx2 hvl hx1 hx3
        refine v_pop C dX7_type_52 rfl ?_
        refine v_aload_n C dX7_type_53 rfl ?_
        refine v_get C 7 dX7_type_54 wd2_24 F49.1.o rfl (by decide) ⟨rfl, rfl, rfl⟩ rfl ?_
        refine v_callVi C (c_J4_length_8abf5 hl S49.1) dX7_type_57 mJ4_length_8abf5 rfl S49.1 rfl wd6_78 rfl rfl (Nat.le_of_ble_eq_true rfl) (hp_rmle hRm (by decide) (by decide)) (Nat.le_of_ble_eq_true rfl) (Nat.le_of_ble_eq_true rfl) ?_
        exact v_iret C E dX7_type_60 rfl ⟨by unfold ty_a; rw [if_neg (by omega), if_neg (by omega)], by unfold ty_t ty_n; rw [if_pos ⟨by omega, by omega⟩, if_pos ⟨by omega, by omega⟩]; exact F49⟩
      · exact v_throw (cls := "java/lang/IllegalStateException") C E ["java/lang/RuntimeException", "java/lang/Exception"] 14 (by decide) (by decide) wd2_211 wd1_18 rfl hp_taISE hp_tbISE dX7_type_34 dX7_type_37 dX7_type_38 dX7_type_40 dX7_type_43 (by decide) (by rw [hRm]; exact ⟨by decide, by decide⟩) (by decide) (by decide) (by decide) (fun n' hn => ⟨by unfold ty_a; rw [if_neg (by omega), if_pos (by omega)], by unfold ty_t ty_n; rw [if_neg (fun z => z.2 (by omega)), if_neg (fun z => z.2 (by omega))]; exact F0.up hn⟩)
    · exact v_throw (cls := "java/lang/IllegalArgumentException") C E ["java/lang/RuntimeException", "java/lang/Exception"] 13 (by decide) (by decide) wd2_195 wd1_17 rfl hp_taIAE hp_tbIAE dX7_type_12 dX7_type_15 dX7_type_16 dX7_type_18 dX7_type_21 (by decide) (by rw [hRm]; exact ⟨by decide, by decide⟩) (by decide) (by decide) (by decide) (fun n' hn => ⟨(if_pos (by omega)).symm, by unfold ty_t ty_n; rw [if_neg (fun z => z.1 (by omega)), if_neg (fun z => z.1 (by omega))]; exact F0.up hn⟩)

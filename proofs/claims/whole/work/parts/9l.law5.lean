/-! ===== THE LAW: what the loop does again and again ===== -/
section LWL
variable {G : hp_G} {K : hp_C} {M : hp_M} {bc bs : Nat} {n : Nat} {h : Nat → Option va_E} {pc : Nat} {lo : List (Option Value)} {st : List Value}
/-- a number of the script -/
theorem l_arg (C : hp_Cx G K M) {b L i j : Nat} {jz : Int} {xs : Nat → Int32} (hb : h b = some (.inl (G.2.2.1 7, L, .inl xs))) (hi : i + j < L) (hL : L ≤ 3072) (h0 : lo[0]? = some (some (.ref b))) (h5 : lo[5]? = some (some (.int (nI i)))) (hj : Int32.ofInt jz = nI j) (d0 : decode M.1 pc = .ok (.aload_n 0, 1)) (d1 : decode M.1 (pc + 1) = .ok (.iload 5, 2)) (d3 : decode M.1 (pc + 3) = .ok (.iconst jz, 1)) (d4 : decode M.1 (pc + 4) = .ok (.iadd, 1)) (d5 : decode M.1 (pc + 5) = .ok (.iaload, 1)) (kk : V G K M bc bs (n, h) (pc + 6) lo (.int (xs (i + j)) :: st)) : V G K M bc bs (n, h) pc lo st := by
  refine v_aload_n C d0 h0 ?_
  refine v_iload C d1 h5 ?_
  refine v_iconst (v := nI j) C d3 hj ?_
  refine v_iaddN C d4 ?_
  refine v_sld C d5 hb (vp_in_nI hi (by omega)) ?_
  rw [nI_clamp (by omega)]
  exact kk
/-- a call of one of the law's own methods: its number, the object behind it, the row -/
theorem l_call (C : hp_Cx G K M) {hh : hp_hh} {bO : Nat} {f : Nat → Int64} {g : Int32 → Int64} {ans : hp_O} {ex : List String} {F : hp_T → Prop} {x L0 : Nat} {M1 : mk_T} {B1 : mk_T} {Z1 : mk_T} {mk1 : Nat → mk_T} {nx1 : Nat} {cnt1 : Nat} {t1 : Nat → Nat} {n1 : Nat} {lt1 : Nat → Nat} {ln1 : Nat} {hs1 : Int32} {ma1 : Int32} {fa1 : Int32} {As : List Value} {y : MethodName} {cb : ByteArray} {nn : Nat} {ret : Option FieldType} {d' mc' ms' idx k : Nat} {rest : List Value} (hC : Cw G K.2.1 y cb nn ret hh d' mc' ms' As (n, h) (Lw G bO f g ans ex F)) (hb1 : x + 148 ≤ bO) (hb2 : bO < L0) (hb0 : h bO = some (.inl (G.2.2.1 3, 1, .inr (.inl f)))) (hF : ∀ τ, F τ → ∃ rk, Fx G n h x L0 M1 B1 Z1 mk1 nx1 cnt1 t1 n1 lt1 ln1 hs1 ma1 fa1 rk τ.1 τ.2) (hd : decode M.1 pc = .ok (.invokestatic idx, 3)) (hY : hp_YW y cb nn ret hh k) (hw : Cond.methodLink M.2.1 idx y ∈ lw_tbl) (hst : st = As.reverse ++ rest) (hk : As.length = k) (hrest : (rest.map fun v => v.category).sum ≤ 8) (hR : d' + 1 ≤ (hp_Rm K).frames ∧ 8 + (nn + 11) + 64 * d' ≤ (hp_Rm K).locals) (hc1 : mc' ≤ bc) (hc2 : ms' ≤ bs) (kk : ∀ code f' n' h', (∃ rk, Ex G h' x L0 M1 B1 Z1 mk1 nx1 cnt1 t1 n1 lt1 ln1 hs1 ma1 fa1 rk) → n ≤ n' → (∀ a, x + 148 ≤ a → a < L0 → a ≠ bO → h' a = h a) → (∀ a, a < x → h' a = h a) → h' bO = some (.inl (G.2.2.1 3, 1, .inr (.inl f'))) → Lr ans ex code (fun r => f' 0 = g r) → V G K M (bc - mc') (bs - ms') (n', h') (pc + 3) lo (.int code :: rest)) : V G K M bc bs (n, h) pc lo st := by
  refine w_callS C hC Lw_n hd hY hw hst hk hrest hR hc1 hc2 (fun v τ hp => ?_)
  obtain ⟨code, f', h1, h2, h3, h4, h5, h6, h7⟩ := Lw_u hb1 hb2 hb0 hF hp
  cases h1
  obtain ⟨n', h'⟩ := τ
  exact kk code f' n' h' h2 h3 h4 h5 h6 h7
/-- the comparison behind a call that answers a number -/
theorem l_tailI (C : hp_Cx G K M) (hl : K.2.1.stackTraces = false) {sc x y oo od : Nat} {i code r : Int32} {S : mo_T} {f' : Nat → Int64} {off : Int} (hS : Mo G h y S) (ho : h oo = some (.inl (G.2.2.1 3, 1, .inr (.inl f')))) (e1 : S.2 3 = code) (e2 : code = nI 0 → f' 0 = r.toInt64) (hM : M.2.2.1 = 9) (hMc : M.2.1 = "HorizonExchangeLaw") (hR : 0 + 1 ≤ (hp_Rm K).frames ∧ 8 + (1 + 11) + 64 * 0 ≤ (hp_Rm K).locals)
    (d0 : decode M.1 pc = .ok (.istore 7, 2)) (d2 : decode M.1 (pc + 2) = .ok (.aload_n 2, 1)) (d3 : decode M.1 (pc + 3) = .ok (.invokevirtual 154, 3)) (d6 : decode M.1 (pc + 6) = .ok (.iload 6, 2)) (d8 : decode M.1 (pc + 8) = .ok (.if_icmp .eq 5, 3)) (d13 : decode M.1 (pc + 13) = .ok (.iload 6, 2)) (d15 : decode M.1 (pc + 15) = .ok (.ifCond .ne 15, 3)) (d18 : decode M.1 (pc + 18) = .ok (.aload_n 3, 1)) (d19 : decode M.1 (pc + 19) = .ok (.iconst 0, 1)) (d20 : decode M.1 (pc + 20) = .ok (.laload, 1)) (d21 : decode M.1 (pc + 21) = .ok (.iload 7, 2)) (d23 : decode M.1 (pc + 23) = .ok (.i2l, 1)) (d24 : decode M.1 (pc + 24) = .ok (.lcmp, 1)) (d25 : decode M.1 (pc + 25) = .ok (.ifCond .eq 5, 3)) (d30 : decode M.1 (pc + 30) = .ok (.goto off, 3)) (ht : ((pc + 30 : Nat) : Int) + off = ((2670 : Nat) : Int))
    (kk : V G K M bc bs (n, h) 2670 [some (.ref sc), some (.ref x), some (.ref y), some (.ref oo), some (.ref od), some (.int i), some (.int code), some (.int r), none] []) : V G K M bc bs (n, h) pc [some (.ref sc), some (.ref x), some (.ref y), some (.ref oo), some (.ref od), some (.int i), some (.int code), none, none] [.int r] := by
  refine v_istore C d0 (by rw [hM]; decide) ?_
  show V G K M bc bs (n, h) (pc + 2) [some (.ref sc), some (.ref x), some (.ref y), some (.ref oo), some (.ref od), some (.int i), some (.int code), some (.int r), none] []
  refine v_aload_n C d2 rfl ?_
  refine v_callVi C (c_X8_thrown hl hS) d3 mX8_thrown rfl hS.o rfl (by rw [hMc]; exact wd7_71) rfl rfl (Nat.le_of_ble_eq_true rfl) hR (Nat.zero_le _) (Nat.zero_le _) ?_
  refine v_iload C d6 rfl ?_
  refine v_icmp_eq (tgt := pc + 13) C d8 (by omega) (fun _ => ?_) (fun z => absurd e1 z)
  have out : V G K M bc bs (n, h) (pc + 30) [some (.ref sc), some (.ref x), some (.ref y), some (.ref oo), some (.ref od), some (.int i), some (.int code), some (.int r), none] [] := v_goto (tgt := 2670) C d30 ht kk
  refine v_iload C d13 rfl ?_
  refine v_if_ne (tgt := pc + 30) C d15 (by omega) (fun _ => out) (fun z => ?_)
  refine v_aload_n C d18 rfl ?_
  refine v_iconst (v := nI 0) C d19 (by decide) ?_
  refine v_lald C d20 ho (vp_in_nI (n := 0) (N := 1) (by decide) (by decide)) ?_
  refine v_iload C d21 rfl ?_
  refine v_i2l C d23 ?_
  refine v_lcmp C d24 ?_
  refine v_if_eq (tgt := pc + 30) C d25 (by omega) (fun _ => out) (fun y => absurd ((hp_lcmp0 _ _).mpr ?_) y)
  exact e2 z
end LWL

/-! ===== THE MODEL: a new one ===== -/
def mo_0 : mo_T := (fun _ _ => 0, fun k => if k = 5 ∨ k = 6 then -1 else 0)
theorem Gr.z : Gr (fun _ => 0) mk_0 := ⟨⟨rfl, rfl, rfl, rfl, rfl, rfl, rfl, rfl⟩, fun i hi => absurd hi (Nat.not_lt_zero i), fun s hs => absurd hs (Nat.not_lt_zero s), fun c hc => absurd hc (Nat.not_lt_zero c), by decide, by decide, by decide⟩
theorem Md.z : Md mo_0 mk_0 (fun _ => mk_0) 0 0 mk_0 (fun _ => 0) 0 wl_0 (-1) (-1) := ⟨Gr.z, ⟨rfl, by decide, fun i hi => absurd hi (Nat.not_lt_zero i)⟩, rfl, fun z => absurd rfl z, rfl, Tp.z rfl _, ⟨rfl, by decide, fun i hi => absurd hi (Nat.not_lt_zero i)⟩, rfl, rfl⟩
set_option maxHeartbeats 8000000 in
/-- a new model -/
theorem c_X8_init {G : hp_G} {l : Launch} (hl : l.stackTraces = false) {h0 : Nat → Option va_E} {y : Nat} (hbase : G.2.1 ≤ y) (hob : h0 y = some (.inr (10, [.null, .null, .null, .null, .int 0, .int 0, .int 0, .int 0, .null, .int 0, .int 0, .int 0, .null, .int 0, .null, .null, .int 0, .int 0, .null, .null, .null, .int 0, .null, .int 0]))) : Ct G l yX8_init cX8_init 1 none 1 12 1966 [.ref y] (y + 1, h0) (hp_vq (fun τ => τ.1 = y + 13 ∧ Mo G τ.2 y mo_0 ∧ ∀ a, a < y → τ.2 a = h0 a)) := by
  refine Ct.of rfl hl (by simp [Value.category]) (Nat.le_of_ble_eq_true rfl) (fun K C E hRm hKl => ?_)
  subst hKl
  refine v_aload_n C dX8_init_0 rfl ?_
  refine v_objInit C dX8_init_1 wd6_236 wd1_38 hp_objcode (Nat.le_of_ble_eq_true rfl) (by rw [hRm]; exact ⟨by decide, by decide⟩) ?_
  refine v_aload_n C dX8_init_4 rfl ?_
  refine v_sipush (v := nI 138) C dX8_init_5 (by decide) ?_
  refine v_newa (atype := .int) (N := 138) C 2 (.inl (fun _ => 0)) dX8_init_8 wd1_124 (by decide) rfl (fun _ => rfl) (by decide) (by decide) (by decide) (Nat.le_of_ble_eq_true rfl) (Nat.le_of_ble_eq_true rfl) (fun h8 e8 g8 => ?_)
  refine v_putF C 0 dX8_init_10 wd6_237 hbase ((g8 _ (by omega)).trans hob) rfl (by decide) ⟨rfl, rfl, rfl, rfl⟩ rfl rfl rfl rfl rfl (Nat.le_of_ble_eq_true rfl) (fun h10 e10 g10 => ?_)
  refine v_aload_n C dX8_init_13 rfl ?_
  refine v_sipush (v := nI 1104) C dX8_init_14 (by decide) ?_
  refine v_newa (atype := .int) (N := 1104) C 2 (.inl (fun _ => 0)) dX8_init_17 wd1_124 (by decide) rfl (fun _ => rfl) (by decide) (by decide) (by decide) (Nat.le_of_ble_eq_true rfl) (Nat.le_of_ble_eq_true rfl) (fun h17 e17 g17 => ?_)
  refine v_putF C 1 dX8_init_19 wd6_238 hbase ((g17 _ (by omega)).trans e10) rfl (by decide) ⟨rfl, rfl, rfl, rfl⟩ rfl rfl rfl rfl rfl (Nat.le_of_ble_eq_true rfl) (fun h19 e19 g19 => ?_)
  refine v_aload_n C dX8_init_22 rfl ?_
  refine v_sipush (v := nI 138) C dX8_init_23 (by decide) ?_
  refine v_newa (atype := .int) (N := 138) C 2 (.inl (fun _ => 0)) dX8_init_26 wd1_124 (by decide) rfl (fun _ => rfl) (by decide) (by decide) (by decide) (Nat.le_of_ble_eq_true rfl) (Nat.le_of_ble_eq_true rfl) (fun h26 e26 g26 => ?_)
  refine v_putF C 2 dX8_init_28 wd6_239 hbase ((g26 _ (by omega)).trans e19) rfl (by decide) ⟨rfl, rfl, rfl, rfl⟩ rfl rfl rfl rfl rfl (Nat.le_of_ble_eq_true rfl) (fun h28 e28 g28 => ?_)
  refine v_aload_n C dX8_init_31 rfl ?_
  refine v_sipush (v := nI 138) C dX8_init_32 (by decide) ?_
  refine v_newa (atype := .int) (N := 138) C 2 (.inl (fun _ => 0)) dX8_init_35 wd1_124 (by decide) rfl (fun _ => rfl) (by decide) (by decide) (by decide) (Nat.le_of_ble_eq_true rfl) (Nat.le_of_ble_eq_true rfl) (fun h35 e35 g35 => ?_)
  refine v_putF C 3 dX8_init_37 wd7_0 hbase ((g35 _ (by omega)).trans e28) rfl (by decide) ⟨rfl, rfl, rfl, rfl⟩ rfl rfl rfl rfl rfl (Nat.le_of_ble_eq_true rfl) (fun h37 e37 g37 => ?_)
  refine v_aload_n C dX8_init_40 rfl ?_
  refine v_bipush (v := nI 60) C dX8_init_41 (by decide) ?_
  refine v_newa (atype := .int) (N := 60) C 2 (.inl (fun _ => 0)) dX8_init_43 wd1_124 (by decide) rfl (fun _ => rfl) (by decide) (by decide) (by decide) (Nat.le_of_ble_eq_true rfl) (Nat.le_of_ble_eq_true rfl) (fun h43 e43 g43 => ?_)
  refine v_putF C 8 dX8_init_45 wd7_5 hbase ((g43 _ (by omega)).trans e37) rfl (by decide) ⟨rfl, rfl, rfl, rfl⟩ rfl rfl rfl rfl rfl (Nat.le_of_ble_eq_true rfl) (fun h45 e45 g45 => ?_)
  refine v_aload_n C dX8_init_48 rfl ?_
  refine v_iconst (v := (-1)) C dX8_init_49 (by decide) ?_
  refine v_put C 10 dX8_init_50 wd7_7 hbase e45 rfl (by decide) ⟨rfl, rfl, rfl, rfl⟩ rfl rfl rfl (Nat.le_of_ble_eq_true rfl) (fun h50 e50 g50 => ?_)
  refine v_aload_n C dX8_init_53 rfl ?_
  refine v_iconst (v := (-1)) C dX8_init_54 (by decide) ?_
  refine v_put C 11 dX8_init_55 wd7_8 hbase e50 rfl (by decide) ⟨rfl, rfl, rfl, rfl⟩ rfl rfl rfl (Nat.le_of_ble_eq_true rfl) (fun h55 e55 g55 => ?_)
  refine v_aload_n C dX8_init_58 rfl ?_
  refine v_bipush (v := nI 60) C dX8_init_59 (by decide) ?_
  refine v_newa (atype := .char) (N := 60) C 1 (.inl (fun _ => 0)) dX8_init_61 wd7_70 (by decide) rfl (fun _ => rfl) (by decide) (by decide) (by decide) (Nat.le_of_ble_eq_true rfl) (Nat.le_of_ble_eq_true rfl) (fun h61 e61 g61 => ?_)
  refine v_putF C 12 dX8_init_63 wd7_9 hbase ((g61 _ (by omega)).trans e55) rfl (by decide) ⟨rfl, rfl, rfl, rfl⟩ rfl rfl rfl rfl rfl (Nat.le_of_ble_eq_true rfl) (fun h63 e63 g63 => ?_)
  refine v_aload_n C dX8_init_66 rfl ?_
  refine v_iconst (v := nI 4) C dX8_init_67 (by decide) ?_
  refine v_newa (atype := .int) (N := 4) C 2 (.inl (fun _ => 0)) dX8_init_68 wd1_124 (by decide) rfl (fun _ => rfl) (by decide) (by decide) (by decide) (Nat.le_of_ble_eq_true rfl) (Nat.le_of_ble_eq_true rfl) (fun h68 e68 g68 => ?_)
  refine v_putF C 14 dX8_init_70 wd7_11 hbase ((g68 _ (by omega)).trans e63) rfl (by decide) ⟨rfl, rfl, rfl, rfl⟩ rfl rfl rfl rfl rfl (Nat.le_of_ble_eq_true rfl) (fun h70 e70 g70 => ?_)
  refine v_aload_n C dX8_init_73 rfl ?_
  refine v_iconst (v := nI 4) C dX8_init_74 (by decide) ?_
  refine v_newa (atype := .int) (N := 4) C 2 (.inl (fun _ => 0)) dX8_init_75 wd1_124 (by decide) rfl (fun _ => rfl) (by decide) (by decide) (by decide) (Nat.le_of_ble_eq_true rfl) (Nat.le_of_ble_eq_true rfl) (fun h75 e75 g75 => ?_)
  refine v_putF C 15 dX8_init_77 wd7_12 hbase ((g75 _ (by omega)).trans e70) rfl (by decide) ⟨rfl, rfl, rfl, rfl⟩ rfl rfl rfl rfl rfl (Nat.le_of_ble_eq_true rfl) (fun h77 e77 g77 => ?_)
  refine v_aload_n C dX8_init_80 rfl ?_
  refine v_bipush (v := nI 6) C dX8_init_81 (by decide) ?_
  refine v_newa (atype := .int) (N := 6) C 2 (.inl (fun _ => 0)) dX8_init_83 wd1_124 (by decide) rfl (fun _ => rfl) (by decide) (by decide) (by decide) (Nat.le_of_ble_eq_true rfl) (Nat.le_of_ble_eq_true rfl) (fun h83 e83 g83 => ?_)
  refine v_putF C 18 dX8_init_85 wd7_15 hbase ((g83 _ (by omega)).trans e77) rfl (by decide) ⟨rfl, rfl, rfl, rfl⟩ rfl rfl rfl rfl rfl (Nat.le_of_ble_eq_true rfl) (fun h85 e85 g85 => ?_)
  refine v_aload_n C dX8_init_88 rfl ?_
  refine v_bipush (v := nI 64) C dX8_init_89 (by decide) ?_
  refine v_newa (atype := .int) (N := 64) C 2 (.inl (fun _ => 0)) dX8_init_91 wd1_124 (by decide) rfl (fun _ => rfl) (by decide) (by decide) (by decide) (Nat.le_of_ble_eq_true rfl) (Nat.le_of_ble_eq_true rfl) (fun h91 e91 g91 => ?_)
  refine v_putF C 19 dX8_init_93 wd7_16 hbase ((g91 _ (by omega)).trans e85) rfl (by decide) ⟨rfl, rfl, rfl, rfl⟩ rfl rfl rfl rfl rfl (Nat.le_of_ble_eq_true rfl) (fun h93 e93 g93 => ?_)
  refine v_aload_n C dX8_init_96 rfl ?_
  refine v_bipush (v := nI 64) C dX8_init_97 (by decide) ?_
  refine v_newa (atype := .int) (N := 64) C 2 (.inl (fun _ => 0)) dX8_init_99 wd1_124 (by decide) rfl (fun _ => rfl) (by decide) (by decide) (by decide) (Nat.le_of_ble_eq_true rfl) (Nat.le_of_ble_eq_true rfl) (fun h99 e99 g99 => ?_)
  refine v_putF C 20 dX8_init_101 wd7_17 hbase ((g99 _ (by omega)).trans e93) rfl (by decide) ⟨rfl, rfl, rfl, rfl⟩ rfl rfl rfl rfl rfl (Nat.le_of_ble_eq_true rfl) (fun h101 e101 g101 => ?_)
  refine v_aload_n C dX8_init_104 rfl ?_
  refine v_sipush (v := nI 186) C dX8_init_105 (by decide) ?_
  refine v_newa (atype := .int) (N := 186) C 2 (.inl (fun _ => 0)) dX8_init_108 wd1_124 (by decide) rfl (fun _ => rfl) (by decide) (by decide) (by decide) (Nat.le_of_ble_eq_true rfl) (Nat.le_of_ble_eq_true rfl) (fun h108 e108 g108 => ?_)
  refine v_putF C 22 dX8_init_110 wd7_19 hbase ((g108 _ (by omega)).trans e101) rfl (by decide) ⟨rfl, rfl, rfl, rfl⟩ rfl rfl rfl rfl rfl (Nat.le_of_ble_eq_true rfl) (fun h110 e110 g110 => ?_)
  refine v_vret C E dX8_init_113 rfl ⟨rfl, rfl, ⟨e110, fun k hk => ?_, hbase⟩, fun a ha => ?_⟩
  · match k, hk with
    | 0, _ => exact ((g110 _ (by omega)).trans ((g108 _ (by omega)).trans ((g101 _ (by omega)).trans ((g99 _ (by omega)).trans ((g93 _ (by omega)).trans ((g91 _ (by omega)).trans ((g85 _ (by omega)).trans ((g83 _ (by omega)).trans ((g77 _ (by omega)).trans ((g75 _ (by omega)).trans ((g70 _ (by omega)).trans ((g68 _ (by omega)).trans ((g63 _ (by omega)).trans ((g61 _ (by omega)).trans ((g55 _ (by omega)).trans ((g50 _ (by omega)).trans ((g45 _ (by omega)).trans ((g43 _ (by omega)).trans ((g37 _ (by omega)).trans ((g35 _ (by omega)).trans ((g28 _ (by omega)).trans ((g26 _ (by omega)).trans ((g19 _ (by omega)).trans ((g17 _ (by omega)).trans ((g10 _ (by omega)).trans e8)))))))))))))))))))))))))
    | 1, _ => exact ((g110 _ (by omega)).trans ((g108 _ (by omega)).trans ((g101 _ (by omega)).trans ((g99 _ (by omega)).trans ((g93 _ (by omega)).trans ((g91 _ (by omega)).trans ((g85 _ (by omega)).trans ((g83 _ (by omega)).trans ((g77 _ (by omega)).trans ((g75 _ (by omega)).trans ((g70 _ (by omega)).trans ((g68 _ (by omega)).trans ((g63 _ (by omega)).trans ((g61 _ (by omega)).trans ((g55 _ (by omega)).trans ((g50 _ (by omega)).trans ((g45 _ (by omega)).trans ((g43 _ (by omega)).trans ((g37 _ (by omega)).trans ((g35 _ (by omega)).trans ((g28 _ (by omega)).trans ((g26 _ (by omega)).trans ((g19 _ (by omega)).trans e17)))))))))))))))))))))))
    | 2, _ => exact ((g110 _ (by omega)).trans ((g108 _ (by omega)).trans ((g101 _ (by omega)).trans ((g99 _ (by omega)).trans ((g93 _ (by omega)).trans ((g91 _ (by omega)).trans ((g85 _ (by omega)).trans ((g83 _ (by omega)).trans ((g77 _ (by omega)).trans ((g75 _ (by omega)).trans ((g70 _ (by omega)).trans ((g68 _ (by omega)).trans ((g63 _ (by omega)).trans ((g61 _ (by omega)).trans ((g55 _ (by omega)).trans ((g50 _ (by omega)).trans ((g45 _ (by omega)).trans ((g43 _ (by omega)).trans ((g37 _ (by omega)).trans ((g35 _ (by omega)).trans ((g28 _ (by omega)).trans e26)))))))))))))))))))))
    | 3, _ => exact ((g110 _ (by omega)).trans ((g108 _ (by omega)).trans ((g101 _ (by omega)).trans ((g99 _ (by omega)).trans ((g93 _ (by omega)).trans ((g91 _ (by omega)).trans ((g85 _ (by omega)).trans ((g83 _ (by omega)).trans ((g77 _ (by omega)).trans ((g75 _ (by omega)).trans ((g70 _ (by omega)).trans ((g68 _ (by omega)).trans ((g63 _ (by omega)).trans ((g61 _ (by omega)).trans ((g55 _ (by omega)).trans ((g50 _ (by omega)).trans ((g45 _ (by omega)).trans ((g43 _ (by omega)).trans ((g37 _ (by omega)).trans e35)))))))))))))))))))
    | 4, _ => exact ((g110 _ (by omega)).trans ((g108 _ (by omega)).trans ((g101 _ (by omega)).trans ((g99 _ (by omega)).trans ((g93 _ (by omega)).trans ((g91 _ (by omega)).trans ((g85 _ (by omega)).trans ((g83 _ (by omega)).trans ((g77 _ (by omega)).trans ((g75 _ (by omega)).trans ((g70 _ (by omega)).trans ((g68 _ (by omega)).trans ((g63 _ (by omega)).trans ((g61 _ (by omega)).trans ((g55 _ (by omega)).trans ((g50 _ (by omega)).trans ((g45 _ (by omega)).trans e43)))))))))))))))))
    | 5, _ => exact ((g110 _ (by omega)).trans ((g108 _ (by omega)).trans ((g101 _ (by omega)).trans ((g99 _ (by omega)).trans ((g93 _ (by omega)).trans ((g91 _ (by omega)).trans ((g85 _ (by omega)).trans ((g83 _ (by omega)).trans ((g77 _ (by omega)).trans ((g75 _ (by omega)).trans ((g70 _ (by omega)).trans ((g68 _ (by omega)).trans ((g63 _ (by omega)).trans e61)))))))))))))
    | 6, _ => exact ((g110 _ (by omega)).trans ((g108 _ (by omega)).trans ((g101 _ (by omega)).trans ((g99 _ (by omega)).trans ((g93 _ (by omega)).trans ((g91 _ (by omega)).trans ((g85 _ (by omega)).trans ((g83 _ (by omega)).trans ((g77 _ (by omega)).trans ((g75 _ (by omega)).trans ((g70 _ (by omega)).trans e68)))))))))))
    | 7, _ => exact ((g110 _ (by omega)).trans ((g108 _ (by omega)).trans ((g101 _ (by omega)).trans ((g99 _ (by omega)).trans ((g93 _ (by omega)).trans ((g91 _ (by omega)).trans ((g85 _ (by omega)).trans ((g83 _ (by omega)).trans ((g77 _ (by omega)).trans e75)))))))))
    | 8, _ => exact ((g110 _ (by omega)).trans ((g108 _ (by omega)).trans ((g101 _ (by omega)).trans ((g99 _ (by omega)).trans ((g93 _ (by omega)).trans ((g91 _ (by omega)).trans ((g85 _ (by omega)).trans e83)))))))
    | 9, _ => exact ((g110 _ (by omega)).trans ((g108 _ (by omega)).trans ((g101 _ (by omega)).trans ((g99 _ (by omega)).trans ((g93 _ (by omega)).trans e91)))))
    | 10, _ => exact ((g110 _ (by omega)).trans ((g108 _ (by omega)).trans ((g101 _ (by omega)).trans e99)))
    | 11, _ => exact ((g110 _ (by omega)).trans e108)
  · exact ((g110 a (by omega)).trans ((g108 a (by omega)).trans ((g101 a (by omega)).trans ((g99 a (by omega)).trans ((g93 a (by omega)).trans ((g91 a (by omega)).trans ((g85 a (by omega)).trans ((g83 a (by omega)).trans ((g77 a (by omega)).trans ((g75 a (by omega)).trans ((g70 a (by omega)).trans ((g68 a (by omega)).trans ((g63 a (by omega)).trans ((g61 a (by omega)).trans ((g55 a (by omega)).trans ((g50 a (by omega)).trans ((g45 a (by omega)).trans ((g43 a (by omega)).trans ((g37 a (by omega)).trans ((g35 a (by omega)).trans ((g28 a (by omega)).trans ((g26 a (by omega)).trans ((g19 a (by omega)).trans ((g17 a (by omega)).trans ((g10 a (by omega)).trans (g8 a (by omega)))))))))))))))))))))))))))

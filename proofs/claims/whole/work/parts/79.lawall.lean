/-! the law from its entry -/
theorem R9_463 : clr2 R9 463 none = R9 := by
  funext i
  unfold clr2
  by_cases h : i = 463
  · subst h
    rw [if_pos rfl]
    funext k
    rfl
  · rw [if_neg h]
set_option maxRecDepth 100000 in
set_option maxHeartbeats 4000000 in
theorem ct_w_all {l : Launch} {X : XT} {N : Nat} {xs : Nat → Int32} {A : KT} (C : Cl (tL_law N xs) (fun r _ => r = some (.int 1), CT l X, 480) A) (W : Wk A) (hN : N ≤ 2048) : A 0 [some (.retAddr 0), none, none, none] [] (fun _ _ => 0, fun _ _ => 0, fun _ _ => none, 0) := by
  apply C.vc (fun pc => pc == 7 || pc == 15 || pc == 18) 80; (simp only [↓vk kL_law_0, ↓vk kL_law_3, ↓vk kL_law_4, ↓vk kL_law_7, ↓vk kL_law_8, ↓vk kL_law_11, ↓vk kL_law_12, ↓vk kL_law_15, ↓vk kL_law_16, ↓vk kL_law_17, ↓x_astore, ↓x_callI, ↓x_dup, ↓x_istore, ↓x_new, ↓x_push, ↓reduceIte, List.getElem?_cons_zero, List.getElem?_cons_succ, List.getD_cons_zero, List.getD_cons_succ, List.getD_nil, List.set_cons_zero, List.set_cons_succ, lset, lset2, isL, noD, cond_true, cond_false, if_true, if_false, Bool.false_eq_true, true_and, and_true, Nat.reduceAdd, Nat.reduceBEq, Nat.reduceSub, Nat.reduceEqDiff, Nat.reduceLT, Nat.reduceLeDiff, Bool.or_false, Bool.false_or, Bool.or_true, Bool.true_or, List.append_nil, List.nil_append, List.cons_append, Option.toList_some, Option.toList_none, lo0, List.replicate, List.length_cons, List.length_nil, muI, muL, callK, catS, List.map_cons, List.map_nil, List.sum_cons, List.sum_nil, vrf, swK, ofN, Value.category, reduceCtorEq, rf_0_0, rf_0_1, rf_0_2, rf_0_3, rf_0_4, rf_0_5, rf_0_6, rf_0_7, rf_0_8, rf_0_9, rf_1_0, rf_3_2, rf_3_3, rf_3_4, rf_7_1, rf_9_0, rf_9_1, rf_60_0, rf_60_1, rf_60_3, rf_60_4, rf_60_5, rf_60_7, rf_60_8, rf_60_11, rf_69_0, rf_69_2, rf_69_3, rf_69_4, rf_69_5, rf_69_6, rf_344_0, rf_344_1, rf_344_2, rf_344_3, rf_450_2, rf_450_3, rf_450_4, rf_454_0, rf_454_1, rf_454_3, rf_454_4, rf_454_5, rf_454_7, rf_454_8, rf_454_11, sh_0, sh_1, sh_2, sh_3, sh_4, sh_5, sh_6, sh_7, sh_8, sh_9, sh_10, sh_11, sh_60, sh_61, sh_62, sh_63, sh_64, sh_65, sh_66, sh_67, sh_68, sh_69, sh_70, sh_71, sh_72, sh_73, sh_74, sh_75, sh_344, sh_345, sh_346, sh_347, sh_348, sh_449, sh_450, sh_451, sh_452, sh_453, sh_454, sh_455, sh_456, sh_457, sh_458, sh_459, sh_460, sh_461, sh_462, al_2, al_4, al_5, al_6, al_10, al_11, al_62, al_63, al_64, al_65, al_66, al_67, al_70, al_71, al_72, al_73, al_345, al_346, al_347, al_451, al_452, al_453, al_456, al_457, al_458, al_459, al_460, al_461]); (try simp (discharger := omega) only [↓ni_bI1, ↓ni_bI1o, ↓ni_bI0, ↓ni_bI0n, ↓ni_bIe, ni_bIb, Nat.reduceEqDiff, Nat.reduceLT, Nat.reduceLeDiff, Nat.reduceAdd, Nat.reduceMul, not_true_eq_false, not_false_eq_true, true_implies, false_implies, and_true, true_and, lg_cmp_eq, nI_add, pk_mul, nI_clamp, ni_le, ni_lt, ni_eq, ni_lt0, ni_0le, ni_eq0, ni_0lt, ni_le0, ni_in, ni_m9, ni_9m, up2_ne, up2_eq, up2_kn, vnar0, vnar1, Nat.add_zero, Nat.zero_add, Nat.mul_zero, List.map_nil, List.map_cons, List.sum_nil, List.sum_cons, List.append_nil, Nat.zero_le, ty3, ty4, ty5, newMu, muR])
  trace_state
  sorry

def RF (i k : Nat) : Option Nat :=
  if i = 463 then [some 464, none, some 465, none, some 466, none, some 467, some 468, some 469, none, some 470, some 471, none, some 472, some 473, some 474, some 475, some 476, none, none, none, none, some 477, some 478, some 479].getD k none
  else none
abbrev mk (I : Nat → Nat → Int32) (L : Nat → Nat → Int64) : Mu := (I, L, RF, 480)
theorem rf_page : RF 463 0 = some 464 := rfl
theorem sh_463 : shp 463 = 10 := rfl
theorem sh_464 : shp 464 = 20 := rfl
theorem al_464 : alen 464 = 2030 := rfl
theorem ct_of {l : Launch} {X : XT} {I : Nat → Nat → Int32} {L : Nat → Nat → Int64} {a w : Int32} {Q : QT} (h : vp_in (2 + 3 * a + w) 2030) (hQ : Q (some (.int (I 464 (2 + 3 * a + w).toNatClampNeg))) (mk I L)) : CT l X mX10_of 0 [.ref 463, .int a, .int w] (mk I L) Q := by
  refine ct_intro okX10_of (by decide +kernel) (Or.inr (Or.inl rfl)) (by decide) fun A C _ => ?_
  apply C.vc (fun _ => false) 20
  simp only [vcK, List.getElem?_cons_zero, List.getElem?_cons_succ, List.getD_cons_zero, List.getD_cons_succ, List.getD_nil, List.set_cons_zero, List.set_cons_succ, lset, lset2, isL, noD, cond_true, cond_false, if_true, if_false, Bool.false_eq_true, true_and, and_true, Nat.reduceAdd, Nat.reduceBEq, Nat.reduceSub, Nat.reduceEqDiff, Nat.reduceLT, Nat.reduceLeDiff, Bool.or_false, Bool.false_or, Bool.or_true, Bool.true_or, List.append_nil, List.nil_append, List.cons_append, Option.toList_some, Option.toList_none, lo0, List.replicate, List.length_cons, List.length_nil, muI, muL, callK, catS, List.map_cons, List.map_nil, List.sum_cons, List.sum_nil, vrf, swK, Value.category, reduceCtorEq, kX10_of_0, kX10_of_1, kX10_of_4, kX10_of_5, kX10_of_6, kX10_of_7, kX10_of_8, kX10_of_9, kX10_of_10, kX10_of_11, kX10_of_12, x_aload, x_getR, x_iald, x_ii, x_iload, x_iret, x_push, rf_page, sh_463, sh_464, al_464]
  trace_state
  exact ⟨h, hQ⟩

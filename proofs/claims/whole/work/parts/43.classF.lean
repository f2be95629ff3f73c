/-! the class: runs, one bit of a pair -/
theorem l_sh : ∀ p, p < 64 → ((nI p).toInt64.toUInt64 &&& Int64.toUInt64 63).toNat = p := by decide +kernel
theorem l_one (y : Int64) : (y &&& 1 = 0) = (y.toBitVec.getLsbD 0 = false) := by
  have h1 : (1 : Int64).toBitVec = 1#64 := rfl
  have h0 : (0 : Int64).toBitVec = 0#64 := rfl
  apply propext
  rw [← Int64.toBitVec_inj, Int64.toBitVec_and, h1, h0]
  constructor
  · intro h
    have := congrArg (fun v => v.getLsbD 0) h
    simpa using this
  · intro h
    apply BitVec.eq_of_getLsbD_eq
    intro i hi
    rw [BitVec.getLsbD_and]
    by_cases h2 : i = 0
    · subst h2; rw [h]; simp
    · simp [BitVec.getLsbD_one, h2]
theorem l_has (x : Int64) {p : Nat} (hp : p < 64) : ((x.toUInt64 >>> ((nI p).toInt64.toUInt64 &&& Int64.toUInt64 63)).toInt64 &&& 1 = 0) = (x.toBitVec.getLsbD p = false) := by
  rw [l_one]
  have h := l_sh p hp
  have e : (x.toUInt64 >>> ((nI p).toInt64.toUInt64 &&& Int64.toUInt64 63)).toInt64.toBitVec.getLsbD 0 = x.toBitVec.getLsbD p := by
    show (x.toUInt64 >>> ((nI p).toInt64.toUInt64 &&& Int64.toUInt64 63)).toBitVec.getLsbD 0 = _
    have h2 : (x.toUInt64 >>> ((nI p).toInt64.toUInt64 &&& Int64.toUInt64 63)).toNat = x.toUInt64.toNat >>> p := by
      rw [UInt64.toNat_shiftRight, h, Nat.mod_eq_of_lt hp]
    rw [BitVec.getLsbD, BitVec.getLsbD]
    show (x.toUInt64 >>> ((nI p).toInt64.toUInt64 &&& Int64.toUInt64 63)).toNat.testBit 0 = _
    rw [h2, Nat.testBit_shiftRight]
    rfl
  rw [e]
section BT3
variable {l : Launch} {X : XT} {I : Nat → Nat → Int32} {L : Nat → Nat → Int64} {Q : QT} {a b : Nat}
set_option maxRecDepth 100000 in
set_option maxHeartbeats 4000000 in
theorem ct_b_has {p : Nat} (ha : shp a = 1) (ha2 : a < 480) (hp : p < 128) (hQ : Q (some (.int (nI (bI (bitM (BV L a) p))))) (mk I L)) : CT l X mX1_has 0 [.ref a, .int (nI p)] (mk I L) Q := by
  refine ct_intro okX1_has (by decide +kernel) (Or.inr (Or.inr (Or.inl rfl))) (Nat.le_of_ble_eq_true rfl) fun A C W => ?_
  show A 0 [some (.ref a), some (.int (nI p)), none, none] [] _
  have c0 : (a < 480) = True := eq_true ha2
  have h38 : ∀ (q : Option Value) c, c = bitM (BV L a) p → A 38 [some (.ref a), some (.int (nI p)), q, none] [.int (nI (bI c))] (mk I L) := by
    intro q c hc
    rw [← hc] at hQ
    have h0 : A 38 [some (.ref a), some (.int (nI p)), none, none] [.int (nI (bI c))] (mk I L) := by
      apply C.vc (fun pc => false) 80; (simp only [↓vk kX1_has_0, ↓vk kX1_has_1, ↓vk kX1_has_3, ↓vk kX1_has_6, ↓vk kX1_has_7, ↓vk kX1_has_10, ↓vk kX1_has_11, ↓vk kX1_has_12, ↓vk kX1_has_15, ↓vk kX1_has_16, ↓vk kX1_has_19, ↓vk kX1_has_20, ↓vk kX1_has_22, ↓vk kX1_has_23, ↓vk kX1_has_24, ↓vk kX1_has_25, ↓vk kX1_has_26, ↓vk kX1_has_27, ↓vk kX1_has_28, ↓vk kX1_has_29, ↓vk kX1_has_30, ↓vk kX1_has_33, ↓vk kX1_has_34, ↓vk kX1_has_37, ↓vk kX1_has_38, ↓x_aload, ↓x_getL, ↓x_goto, ↓x_icmp, ↓x_if, ↓x_ii, ↓x_iload, ↓x_lcmp, ↓x_li, ↓x_ll, ↓x_lload, ↓x_lstore, ↓x_push, ↓x_zret, ↓reduceIte, List.getElem?_cons_zero, List.getElem?_cons_succ, List.getD_cons_zero, List.getD_cons_succ, List.getD_nil, List.set_cons_zero, List.set_cons_succ, lset, lset2, isL, noD, cond_true, cond_false, if_true, if_false, Bool.false_eq_true, true_and, and_true, Nat.reduceAdd, Nat.reduceBEq, Nat.reduceSub, Nat.reduceEqDiff, Nat.reduceLT, Nat.reduceLeDiff, Bool.or_false, Bool.false_or, Bool.or_true, Bool.true_or, List.append_nil, List.nil_append, List.cons_append, Option.toList_some, Option.toList_none, lo0, List.replicate, List.length_cons, List.length_nil, muI, muL, callK, catS, List.map_cons, List.map_nil, List.sum_cons, List.sum_nil, vrf, swK, ofN, Value.category, reduceCtorEq, rf_0_0, rf_0_1, rf_0_2, rf_0_3, rf_0_4, rf_0_5, rf_0_6, rf_0_7, rf_0_8, rf_0_9, rf_1_0, rf_3_2, rf_3_3, rf_3_4, rf_7_1, rf_9_0, rf_9_1, rf_60_0, rf_60_1, rf_60_3, rf_60_4, rf_60_5, rf_60_7, rf_60_8, rf_60_11, rf_69_0, rf_69_2, rf_69_3, rf_69_4, rf_69_5, rf_69_6, rf_344_0, rf_344_1, rf_344_2, rf_344_3, rf_450_2, rf_450_3, rf_450_4, rf_454_0, rf_454_1, rf_454_3, rf_454_4, rf_454_5, rf_454_7, rf_454_8, rf_454_11, sh_0, sh_1, sh_2, sh_3, sh_4, sh_5, sh_6, sh_7, sh_8, sh_9, sh_10, sh_11, sh_60, sh_61, sh_62, sh_63, sh_64, sh_65, sh_66, sh_67, sh_68, sh_69, sh_70, sh_71, sh_72, sh_73, sh_74, sh_75, sh_344, sh_345, sh_346, sh_347, sh_348, sh_449, sh_450, sh_451, sh_452, sh_453, sh_454, sh_455, sh_456, sh_457, sh_458, sh_459, sh_460, sh_461, sh_462, al_2, al_4, al_5, al_6, al_10, al_11, al_62, al_63, al_64, al_65, al_66, al_67, al_70, al_71, al_72, al_73, al_345, al_346, al_347, al_451, al_452, al_453, al_456, al_457, al_458, al_459, al_460, al_461]); (try simp (discharger := omega) only [↓ni_bI1, ↓ni_bI1o, ↓ni_bI0, ↓ni_bI0n, ↓ni_bIe, ni_bIb, Nat.reduceEqDiff, Nat.reduceLT, Nat.reduceLeDiff, Nat.reduceAdd, Nat.reduceMul, not_true_eq_false, not_false_eq_true, true_implies, false_implies, and_true, true_and, lg_cmp_eq, nI_add, pk_mul, nI_clamp, ni_le, ni_lt, ni_eq, ni_lt0, ni_0le, ni_eq0, ni_0lt, ni_le0, ni_in, ni_m9, ni_9m, up2_ne, up2_eq, up2_kn, vnar0, vnar1, Nat.add_zero, Nat.zero_add, Nat.mul_zero])
      exact ⟨bft c, hQ⟩
    exact W.le h0 (by simp only [leO, and_self])
  unfold bitM BV at h38
  apply C.vc (fun pc => pc == 38) 80; (simp only [↓vk kX1_has_0, ↓vk kX1_has_1, ↓vk kX1_has_3, ↓vk kX1_has_6, ↓vk kX1_has_7, ↓vk kX1_has_10, ↓vk kX1_has_11, ↓vk kX1_has_12, ↓vk kX1_has_15, ↓vk kX1_has_16, ↓vk kX1_has_19, ↓vk kX1_has_20, ↓vk kX1_has_22, ↓vk kX1_has_23, ↓vk kX1_has_24, ↓vk kX1_has_25, ↓vk kX1_has_26, ↓vk kX1_has_27, ↓vk kX1_has_28, ↓vk kX1_has_29, ↓vk kX1_has_30, ↓vk kX1_has_33, ↓vk kX1_has_34, ↓vk kX1_has_37, ↓vk kX1_has_38, ↓x_aload, ↓x_getL, ↓x_goto, ↓x_icmp, ↓x_if, ↓x_ii, ↓x_iload, ↓x_lcmp, ↓x_li, ↓x_ll, ↓x_lload, ↓x_lstore, ↓x_push, ↓x_zret, ↓reduceIte, List.getElem?_cons_zero, List.getElem?_cons_succ, List.getD_cons_zero, List.getD_cons_succ, List.getD_nil, List.set_cons_zero, List.set_cons_succ, lset, lset2, isL, noD, cond_true, cond_false, if_true, if_false, Bool.false_eq_true, true_and, and_true, Nat.reduceAdd, Nat.reduceBEq, Nat.reduceSub, Nat.reduceEqDiff, Nat.reduceLT, Nat.reduceLeDiff, Bool.or_false, Bool.false_or, Bool.or_true, Bool.true_or, List.append_nil, List.nil_append, List.cons_append, Option.toList_some, Option.toList_none, lo0, List.replicate, List.length_cons, List.length_nil, muI, muL, callK, catS, List.map_cons, List.map_nil, List.sum_cons, List.sum_nil, vrf, swK, ofN, Value.category, reduceCtorEq, rf_0_0, rf_0_1, rf_0_2, rf_0_3, rf_0_4, rf_0_5, rf_0_6, rf_0_7, rf_0_8, rf_0_9, rf_1_0, rf_3_2, rf_3_3, rf_3_4, rf_7_1, rf_9_0, rf_9_1, rf_60_0, rf_60_1, rf_60_3, rf_60_4, rf_60_5, rf_60_7, rf_60_8, rf_60_11, rf_69_0, rf_69_2, rf_69_3, rf_69_4, rf_69_5, rf_69_6, rf_344_0, rf_344_1, rf_344_2, rf_344_3, rf_450_2, rf_450_3, rf_450_4, rf_454_0, rf_454_1, rf_454_3, rf_454_4, rf_454_5, rf_454_7, rf_454_8, rf_454_11, sh_0, sh_1, sh_2, sh_3, sh_4, sh_5, sh_6, sh_7, sh_8, sh_9, sh_10, sh_11, sh_60, sh_61, sh_62, sh_63, sh_64, sh_65, sh_66, sh_67, sh_68, sh_69, sh_70, sh_71, sh_72, sh_73, sh_74, sh_75, sh_344, sh_345, sh_346, sh_347, sh_348, sh_449, sh_450, sh_451, sh_452, sh_453, sh_454, sh_455, sh_456, sh_457, sh_458, sh_459, sh_460, sh_461, sh_462, al_2, al_4, al_5, al_6, al_10, al_11, al_62, al_63, al_64, al_65, al_66, al_67, al_70, al_71, al_72, al_73, al_345, al_346, al_347, al_451, al_452, al_453, al_456, al_457, al_458, al_459, al_460, al_461]); (try simp (discharger := omega) only [↓ni_bI1, ↓ni_bI1o, ↓ni_bI0, ↓ni_bI0n, ↓ni_bIe, ni_bIb, Nat.reduceEqDiff, Nat.reduceLT, Nat.reduceLeDiff, Nat.reduceAdd, Nat.reduceMul, not_true_eq_false, not_false_eq_true, true_implies, false_implies, and_true, true_and, lg_cmp_eq, nI_add, pk_mul, nI_clamp, ni_le, ni_lt, ni_eq, ni_lt0, ni_0le, ni_eq0, ni_0lt, ni_le0, ni_in, ni_m9, ni_9m, up2_ne, up2_eq, up2_kn, vnar0, vnar1, Nat.add_zero, Nat.zero_add, Nat.mul_zero, ha, c0])
  refine ⟨fun h => ?_, fun h => ?_⟩
  · rw [if_neg (by omega)] at h38
    rw [pk_sub (by omega), l_has _ (by omega)]
    exact ⟨fun g => h38 _ false g.symm, fun g => h38 _ true (by simpa using g)⟩
  · rw [if_pos (by omega)] at h38
    rw [l_has _ (by omega)]
    exact ⟨fun g => h38 _ false g.symm, fun g => h38 _ true (by simpa using g)⟩
end BT3

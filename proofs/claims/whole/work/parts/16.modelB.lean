/-! the reference's small tests -/
def inB (x : Int32) (m : Nat) : Bool := decide (0 ≤ x.toInt ∧ x.toInt < m)
theorem inB_nI {j m : Nat} (hj : j < 2 ^ 31) : inB (nI j) m = decide (j < m) := by
  unfold inB
  rw [nI_toInt hj]
  by_cases h : j < m <;> simp [h] <;> omega
theorem inB_t {x : Int32} {m : Nat} (h : inB x m = true) (hm : m < 2 ^ 31) : ∃ j, j < m ∧ x = nI j := by
  unfold inB at h
  have h1 := of_decide_eq_true h
  refine ⟨x.toInt.toNat, by omega, ?_⟩
  apply Int32.toInt_inj.mp
  rw [nI_toInt (by omega)]
  omega
theorem i32_le (x y : Int32) : (x ≤ y) = (x.toInt ≤ y.toInt) := propext Int32.le_iff_toInt_le
theorem i32_lt (x y : Int32) : (x < y) = (x.toInt < y.toInt) := propext Int32.lt_iff_toInt_lt
set_option maxRecDepth 100000 in
set_option maxHeartbeats 4000000 in
theorem ct_in {l : Launch} {X : XT} {I : Nat → Nat → Int32} {L : Nat → Nat → Int64} {v lo hi : Int32} {Q : QT} (hQ : Q (some (.int (nI (bI (decide (lo ≤ v ∧ v ≤ hi)))))) (mk I L)) : CT l X mX10_in 0 [.int v, .int lo, .int hi] (mk I L) Q := by
  refine ct_intro okX10_in (by decide +kernel) (Or.inr (Or.inr (Or.inl rfl))) (Nat.le_of_ble_eq_true rfl) fun A C W => ?_
  show A 0 [some (.int (v)), some (.int (lo)), some (.int (hi))] [] _
  apply C.vc (fun pc => false) 80; (simp only [↓vk kX10_in_0, ↓vk kX10_in_1, ↓vk kX10_in_2, ↓vk kX10_in_5, ↓vk kX10_in_6, ↓vk kX10_in_7, ↓vk kX10_in_10, ↓vk kX10_in_11, ↓vk kX10_in_14, ↓vk kX10_in_15, ↓x_goto, ↓x_icmp, ↓x_iload, ↓x_push, ↓x_zret, ↓reduceIte, List.getElem?_cons_zero, List.getElem?_cons_succ, List.getD_cons_zero, List.getD_cons_succ, List.getD_nil, List.set_cons_zero, List.set_cons_succ, lset, lset2, isL, noD, cond_true, cond_false, if_true, if_false, Bool.false_eq_true, true_and, and_true, Nat.reduceAdd, Nat.reduceBEq, Nat.reduceSub, Nat.reduceEqDiff, Nat.reduceLT, Nat.reduceLeDiff, Bool.or_false, Bool.false_or, Bool.or_true, Bool.true_or, List.append_nil, List.nil_append, List.cons_append, Option.toList_some, Option.toList_none, lo0, List.replicate, List.length_cons, List.length_nil, muI, muL, callK, catS, List.map_cons, List.map_nil, List.sum_cons, List.sum_nil, vrf, swK, ofN, Value.category, reduceCtorEq, rf_463_0, rf_463_2, rf_463_4, rf_463_6, rf_463_7, rf_463_8, rf_463_10, rf_463_11, rf_463_13, rf_463_14, rf_463_15, rf_463_16, rf_463_17, rf_463_22, rf_463_23, rf_463_24, sh_463, sh_464, sh_465, sh_466, sh_467, sh_468, sh_469, sh_470, sh_471, sh_472, sh_473, sh_474, sh_475, sh_476, sh_477, sh_478, sh_479, al_464, al_465, al_466, al_467, al_468, al_469, al_470, al_471, al_472, al_473, al_474, al_475, al_476, al_477, al_478, al_479]); (try simp (discharger := omega) only [lg_cmp_eq, nI_add, pk_mul, nI_clamp, ni_le, ni_lt, ni_eq, ni_lt0, ni_0le, ni_eq0, ni_0lt, ni_le0, ni_in, ni_m9, ni_9m, up2_ne, up2_eq, up2_kn, vnar0, vnar1, Nat.add_zero, Nat.zero_add, Nat.mul_zero])
  by_cases h1 : v < lo
  · have h2 : ¬ (lo ≤ v ∧ v ≤ hi) := by
      rw [i32_lt] at h1
      rw [i32_le, i32_le]
      omega
    rw [decide_eq_false h2] at hQ
    exact ⟨fun _ => ⟨Or.inl trivial, hQ⟩, fun q => absurd h1 q⟩
  · refine ⟨fun q => absurd q h1, fun _ => ?_⟩
    by_cases h3 : hi < v
    · have h2 : ¬ (lo ≤ v ∧ v ≤ hi) := by
        rw [i32_lt] at h3
        rw [i32_le, i32_le]
        omega
      rw [decide_eq_false h2] at hQ
      exact ⟨fun _ => ⟨Or.inl trivial, hQ⟩, fun q => absurd h3 q⟩
    · have h2 : lo ≤ v ∧ v ≤ hi := by
        rw [i32_lt] at h1 h3
        rw [i32_le, i32_le]
        omega
      rw [decide_eq_true h2] at hQ
      exact ⟨fun q => absurd q h3, fun _ => ⟨Or.inr rfl, hQ⟩⟩
theorem in_inB {x : Int32} {m : Nat} (hm : m < 2 ^ 31) : decide (nI 0 ≤ x ∧ x ≤ nI m - nI 1) = inB x m := by
  unfold inB
  congr 1
  apply propext
  rw [i32_le, i32_le, nI_toInt (by omega), pk_sub_toInt' hm]
  omega
set_option maxRecDepth 100000 in
set_option maxHeartbeats 4000000 in
theorem ct_isState {l : Launch} {X : XT} {I : Nat → Nat → Int32} {L : Nat → Nat → Int64} {x : Int32} {n : Nat} {Q : QT} (hn : I 464 0 = nI n) (hn1 : n < 2 ^ 31) (hQ : Q (some (.int (nI (bI (inB x n))))) (mk I L)) : CT l X mX10_isState 0 [.ref 463, .int x] (mk I L) Q := by
  refine ct_intro okX10_isState (by decide +kernel) (Or.inr (Or.inr (Or.inl rfl))) (Nat.le_of_ble_eq_true rfl) fun A C W => ?_
  show A 0 [some (.ref 463), some (.int (x))] [] _
  apply C.vc (fun pc => pc == 13) 80; (simp only [↓vk kX10_isState_0, ↓vk kX10_isState_1, ↓vk kX10_isState_2, ↓vk kX10_isState_3, ↓vk kX10_isState_6, ↓vk kX10_isState_7, ↓vk kX10_isState_8, ↓vk kX10_isState_9, ↓vk kX10_isState_10, ↓vk kX10_isState_13, ↓x_aload, ↓x_callS3, ↓x_getR, ↓x_iald, ↓x_ii, ↓x_iload, ↓x_push, ↓x_zret, ↓reduceIte, List.getElem?_cons_zero, List.getElem?_cons_succ, List.getD_cons_zero, List.getD_cons_succ, List.getD_nil, List.set_cons_zero, List.set_cons_succ, lset, lset2, isL, noD, cond_true, cond_false, if_true, if_false, Bool.false_eq_true, true_and, and_true, Nat.reduceAdd, Nat.reduceBEq, Nat.reduceSub, Nat.reduceEqDiff, Nat.reduceLT, Nat.reduceLeDiff, Bool.or_false, Bool.false_or, Bool.or_true, Bool.true_or, List.append_nil, List.nil_append, List.cons_append, Option.toList_some, Option.toList_none, lo0, List.replicate, List.length_cons, List.length_nil, muI, muL, callK, catS, List.map_cons, List.map_nil, List.sum_cons, List.sum_nil, vrf, swK, ofN, Value.category, reduceCtorEq, rf_463_0, rf_463_2, rf_463_4, rf_463_6, rf_463_7, rf_463_8, rf_463_10, rf_463_11, rf_463_13, rf_463_14, rf_463_15, rf_463_16, rf_463_17, rf_463_22, rf_463_23, rf_463_24, sh_463, sh_464, sh_465, sh_466, sh_467, sh_468, sh_469, sh_470, sh_471, sh_472, sh_473, sh_474, sh_475, sh_476, sh_477, sh_478, sh_479, al_464, al_465, al_466, al_467, al_468, al_469, al_470, al_471, al_472, al_473, al_474, al_475, al_476, al_477, al_478, al_479]); (try simp (discharger := omega) only [lg_cmp_eq, nI_add, pk_mul, nI_clamp, ni_le, ni_lt, ni_eq, ni_lt0, ni_0le, ni_eq0, ni_0lt, ni_le0, ni_in, ni_m9, ni_9m, up2_ne, up2_eq, up2_kn, vnar0, vnar1, Nat.add_zero, Nat.zero_add, Nat.mul_zero, hn])
  refine ⟨by omega, ct_in ?_⟩
  rw [in_inB hn1]
  apply C.vc (fun pc => pc == 13) 80; (simp only [↓vk kX10_isState_0, ↓vk kX10_isState_1, ↓vk kX10_isState_2, ↓vk kX10_isState_3, ↓vk kX10_isState_6, ↓vk kX10_isState_7, ↓vk kX10_isState_8, ↓vk kX10_isState_9, ↓vk kX10_isState_10, ↓vk kX10_isState_13, ↓x_aload, ↓x_callS3, ↓x_getR, ↓x_iald, ↓x_ii, ↓x_iload, ↓x_push, ↓x_zret, ↓reduceIte, List.getElem?_cons_zero, List.getElem?_cons_succ, List.getD_cons_zero, List.getD_cons_succ, List.getD_nil, List.set_cons_zero, List.set_cons_succ, lset, lset2, isL, noD, cond_true, cond_false, if_true, if_false, Bool.false_eq_true, true_and, and_true, Nat.reduceAdd, Nat.reduceBEq, Nat.reduceSub, Nat.reduceEqDiff, Nat.reduceLT, Nat.reduceLeDiff, Bool.or_false, Bool.false_or, Bool.or_true, Bool.true_or, List.append_nil, List.nil_append, List.cons_append, Option.toList_some, Option.toList_none, lo0, List.replicate, List.length_cons, List.length_nil, muI, muL, callK, catS, List.map_cons, List.map_nil, List.sum_cons, List.sum_nil, vrf, swK, ofN, Value.category, reduceCtorEq, rf_463_0, rf_463_2, rf_463_4, rf_463_6, rf_463_7, rf_463_8, rf_463_10, rf_463_11, rf_463_13, rf_463_14, rf_463_15, rf_463_16, rf_463_17, rf_463_22, rf_463_23, rf_463_24, sh_463, sh_464, sh_465, sh_466, sh_467, sh_468, sh_469, sh_470, sh_471, sh_472, sh_473, sh_474, sh_475, sh_476, sh_477, sh_478, sh_479, al_464, al_465, al_466, al_467, al_468, al_469, al_470, al_471, al_472, al_473, al_474, al_475, al_476, al_477, al_478, al_479]); (try simp (discharger := omega) only [lg_cmp_eq, nI_add, pk_mul, nI_clamp, ni_le, ni_lt, ni_eq, ni_lt0, ni_0le, ni_eq0, ni_0lt, ni_le0, ni_in, ni_m9, ni_9m, up2_ne, up2_eq, up2_kn, vnar0, vnar1, Nat.add_zero, Nat.zero_add, Nat.mul_zero])
  refine ⟨?_, hQ⟩
  cases inB x n
  · exact Or.inl rfl
  · exact Or.inr rfl
set_option maxRecDepth 100000 in
set_option maxHeartbeats 4000000 in
theorem ct_isArc {l : Launch} {X : XT} {I : Nat → Nat → Int32} {L : Nat → Nat → Int64} {x : Int32} {n : Nat} {Q : QT} (hn : I 464 1 = nI n) (hn1 : n < 2 ^ 31) (hQ : Q (some (.int (nI (bI (inB x n))))) (mk I L)) : CT l X mX10_isArc 0 [.ref 463, .int x] (mk I L) Q := by
  refine ct_intro okX10_isArc (by decide +kernel) (Or.inr (Or.inr (Or.inl rfl))) (Nat.le_of_ble_eq_true rfl) fun A C W => ?_
  show A 0 [some (.ref 463), some (.int (x))] [] _
  apply C.vc (fun pc => pc == 13) 80; (simp only [↓vk kX10_isArc_0, ↓vk kX10_isArc_1, ↓vk kX10_isArc_2, ↓vk kX10_isArc_3, ↓vk kX10_isArc_6, ↓vk kX10_isArc_7, ↓vk kX10_isArc_8, ↓vk kX10_isArc_9, ↓vk kX10_isArc_10, ↓vk kX10_isArc_13, ↓x_aload, ↓x_callS3, ↓x_getR, ↓x_iald, ↓x_ii, ↓x_iload, ↓x_push, ↓x_zret, ↓reduceIte, List.getElem?_cons_zero, List.getElem?_cons_succ, List.getD_cons_zero, List.getD_cons_succ, List.getD_nil, List.set_cons_zero, List.set_cons_succ, lset, lset2, isL, noD, cond_true, cond_false, if_true, if_false, Bool.false_eq_true, true_and, and_true, Nat.reduceAdd, Nat.reduceBEq, Nat.reduceSub, Nat.reduceEqDiff, Nat.reduceLT, Nat.reduceLeDiff, Bool.or_false, Bool.false_or, Bool.or_true, Bool.true_or, List.append_nil, List.nil_append, List.cons_append, Option.toList_some, Option.toList_none, lo0, List.replicate, List.length_cons, List.length_nil, muI, muL, callK, catS, List.map_cons, List.map_nil, List.sum_cons, List.sum_nil, vrf, swK, ofN, Value.category, reduceCtorEq, rf_463_0, rf_463_2, rf_463_4, rf_463_6, rf_463_7, rf_463_8, rf_463_10, rf_463_11, rf_463_13, rf_463_14, rf_463_15, rf_463_16, rf_463_17, rf_463_22, rf_463_23, rf_463_24, sh_463, sh_464, sh_465, sh_466, sh_467, sh_468, sh_469, sh_470, sh_471, sh_472, sh_473, sh_474, sh_475, sh_476, sh_477, sh_478, sh_479, al_464, al_465, al_466, al_467, al_468, al_469, al_470, al_471, al_472, al_473, al_474, al_475, al_476, al_477, al_478, al_479]); (try simp (discharger := omega) only [lg_cmp_eq, nI_add, pk_mul, nI_clamp, ni_le, ni_lt, ni_eq, ni_lt0, ni_0le, ni_eq0, ni_0lt, ni_le0, ni_in, ni_m9, ni_9m, up2_ne, up2_eq, up2_kn, vnar0, vnar1, Nat.add_zero, Nat.zero_add, Nat.mul_zero, hn])
  refine ⟨by omega, ct_in ?_⟩
  rw [in_inB hn1]
  apply C.vc (fun pc => pc == 13) 80; (simp only [↓vk kX10_isArc_0, ↓vk kX10_isArc_1, ↓vk kX10_isArc_2, ↓vk kX10_isArc_3, ↓vk kX10_isArc_6, ↓vk kX10_isArc_7, ↓vk kX10_isArc_8, ↓vk kX10_isArc_9, ↓vk kX10_isArc_10, ↓vk kX10_isArc_13, ↓x_aload, ↓x_callS3, ↓x_getR, ↓x_iald, ↓x_ii, ↓x_iload, ↓x_push, ↓x_zret, ↓reduceIte, List.getElem?_cons_zero, List.getElem?_cons_succ, List.getD_cons_zero, List.getD_cons_succ, List.getD_nil, List.set_cons_zero, List.set_cons_succ, lset, lset2, isL, noD, cond_true, cond_false, if_true, if_false, Bool.false_eq_true, true_and, and_true, Nat.reduceAdd, Nat.reduceBEq, Nat.reduceSub, Nat.reduceEqDiff, Nat.reduceLT, Nat.reduceLeDiff, Bool.or_false, Bool.false_or, Bool.or_true, Bool.true_or, List.append_nil, List.nil_append, List.cons_append, Option.toList_some, Option.toList_none, lo0, List.replicate, List.length_cons, List.length_nil, muI, muL, callK, catS, List.map_cons, List.map_nil, List.sum_cons, List.sum_nil, vrf, swK, ofN, Value.category, reduceCtorEq, rf_463_0, rf_463_2, rf_463_4, rf_463_6, rf_463_7, rf_463_8, rf_463_10, rf_463_11, rf_463_13, rf_463_14, rf_463_15, rf_463_16, rf_463_17, rf_463_22, rf_463_23, rf_463_24, sh_463, sh_464, sh_465, sh_466, sh_467, sh_468, sh_469, sh_470, sh_471, sh_472, sh_473, sh_474, sh_475, sh_476, sh_477, sh_478, sh_479, al_464, al_465, al_466, al_467, al_468, al_469, al_470, al_471, al_472, al_473, al_474, al_475, al_476, al_477, al_478, al_479]); (try simp (discharger := omega) only [lg_cmp_eq, nI_add, pk_mul, nI_clamp, ni_le, ni_lt, ni_eq, ni_lt0, ni_0le, ni_eq0, ni_0lt, ni_le0, ni_in, ni_m9, ni_9m, up2_ne, up2_eq, up2_kn, vnar0, vnar1, Nat.add_zero, Nat.zero_add, Nat.mul_zero])
  refine ⟨?_, hQ⟩
  cases inB x n
  · exact Or.inl rfl
  · exact Or.inr rfl
set_option maxRecDepth 100000 in
set_option maxHeartbeats 4000000 in
theorem ct_isEvent {l : Launch} {X : XT} {I : Nat → Nat → Int32} {L : Nat → Nat → Int64} {x : Int32} {Q : QT} (hQ : Q (some (.int (nI (bI (inB x 8))))) (mk I L)) : CT l X mX10_isEvent 0 [.int x] (mk I L) Q := by
  refine ct_intro okX10_isEvent (by decide +kernel) (Or.inr (Or.inr (Or.inl rfl))) (Nat.le_of_ble_eq_true rfl) fun A C W => ?_
  show A 0 [some (.int (x))] [] _
  apply C.vc (fun pc => pc == 7) 80; (simp only [↓vk kX10_isEvent_0, ↓vk kX10_isEvent_1, ↓vk kX10_isEvent_2, ↓vk kX10_isEvent_4, ↓vk kX10_isEvent_7, ↓x_callS3, ↓x_iload, ↓x_push, ↓x_zret, ↓reduceIte, List.getElem?_cons_zero, List.getElem?_cons_succ, List.getD_cons_zero, List.getD_cons_succ, List.getD_nil, List.set_cons_zero, List.set_cons_succ, lset, lset2, isL, noD, cond_true, cond_false, if_true, if_false, Bool.false_eq_true, true_and, and_true, Nat.reduceAdd, Nat.reduceBEq, Nat.reduceSub, Nat.reduceEqDiff, Nat.reduceLT, Nat.reduceLeDiff, Bool.or_false, Bool.false_or, Bool.or_true, Bool.true_or, List.append_nil, List.nil_append, List.cons_append, Option.toList_some, Option.toList_none, lo0, List.replicate, List.length_cons, List.length_nil, muI, muL, callK, catS, List.map_cons, List.map_nil, List.sum_cons, List.sum_nil, vrf, swK, ofN, Value.category, reduceCtorEq, rf_463_0, rf_463_2, rf_463_4, rf_463_6, rf_463_7, rf_463_8, rf_463_10, rf_463_11, rf_463_13, rf_463_14, rf_463_15, rf_463_16, rf_463_17, rf_463_22, rf_463_23, rf_463_24, sh_463, sh_464, sh_465, sh_466, sh_467, sh_468, sh_469, sh_470, sh_471, sh_472, sh_473, sh_474, sh_475, sh_476, sh_477, sh_478, sh_479, al_464, al_465, al_466, al_467, al_468, al_469, al_470, al_471, al_472, al_473, al_474, al_475, al_476, al_477, al_478, al_479]); (try simp (discharger := omega) only [lg_cmp_eq, nI_add, pk_mul, nI_clamp, ni_le, ni_lt, ni_eq, ni_lt0, ni_0le, ni_eq0, ni_0lt, ni_le0, ni_in, ni_m9, ni_9m, up2_ne, up2_eq, up2_kn, vnar0, vnar1, Nat.add_zero, Nat.zero_add, Nat.mul_zero])
  refine ct_in ?_
  rw [show (nI 7 : Int32) = nI 8 - nI 1 from rfl, in_inB (by omega)]
  apply C.vc (fun pc => pc == 7) 80; (simp only [↓vk kX10_isEvent_0, ↓vk kX10_isEvent_1, ↓vk kX10_isEvent_2, ↓vk kX10_isEvent_4, ↓vk kX10_isEvent_7, ↓x_callS3, ↓x_iload, ↓x_push, ↓x_zret, ↓reduceIte, List.getElem?_cons_zero, List.getElem?_cons_succ, List.getD_cons_zero, List.getD_cons_succ, List.getD_nil, List.set_cons_zero, List.set_cons_succ, lset, lset2, isL, noD, cond_true, cond_false, if_true, if_false, Bool.false_eq_true, true_and, and_true, Nat.reduceAdd, Nat.reduceBEq, Nat.reduceSub, Nat.reduceEqDiff, Nat.reduceLT, Nat.reduceLeDiff, Bool.or_false, Bool.false_or, Bool.or_true, Bool.true_or, List.append_nil, List.nil_append, List.cons_append, Option.toList_some, Option.toList_none, lo0, List.replicate, List.length_cons, List.length_nil, muI, muL, callK, catS, List.map_cons, List.map_nil, List.sum_cons, List.sum_nil, vrf, swK, ofN, Value.category, reduceCtorEq, rf_463_0, rf_463_2, rf_463_4, rf_463_6, rf_463_7, rf_463_8, rf_463_10, rf_463_11, rf_463_13, rf_463_14, rf_463_15, rf_463_16, rf_463_17, rf_463_22, rf_463_23, rf_463_24, sh_463, sh_464, sh_465, sh_466, sh_467, sh_468, sh_469, sh_470, sh_471, sh_472, sh_473, sh_474, sh_475, sh_476, sh_477, sh_478, sh_479, al_464, al_465, al_466, al_467, al_468, al_469, al_470, al_471, al_472, al_473, al_474, al_475, al_476, al_477, al_478, al_479]); (try simp (discharger := omega) only [lg_cmp_eq, nI_add, pk_mul, nI_clamp, ni_le, ni_lt, ni_eq, ni_lt0, ni_0le, ni_eq0, ni_0lt, ni_le0, ni_in, ni_m9, ni_9m, up2_ne, up2_eq, up2_kn, vnar0, vnar1, Nat.add_zero, Nat.zero_add, Nat.mul_zero])
  refine ⟨?_, hQ⟩
  cases inB x 8
  · exact Or.inl rfl
  · exact Or.inr rfl
def arcsN (al : List Arc) (e : Nat) : Nat := al.countP (fun x => x.2.1 == e)
theorem arcsN_le (al : List Arc) (e : Nat) : arcsN al e ≤ al.length := List.countP_le_length
set_option maxRecDepth 100000 in
set_option maxHeartbeats 4000000 in
theorem ct_arcsOf {l : Launch} {X : XT} {I : Nat → Nat → Int32} {L : Nat → Nat → Int64} {al : List Arc} {e : Nat} {Q : QT} (hg : GM I al) (ho : AOK al) (he : e < 2 ^ 31) (hQ : Q (some (.int (nI (arcsN al e)))) (mk I L)) : CT l X mX10_arcsOf 0 [.ref 463, .int (nI e)] (mk I L) Q := by
  refine ct_intro okX10_arcsOf (by decide +kernel) (Or.inr (Or.inl rfl)) (Nat.le_of_ble_eq_true rfl) fun A C W => ?_
  show A 0 [some (.ref 463), some (.int (nI e)), none, none] [] _
  obtain ⟨hg1, hg2⟩ := hg
  have hl := ho.1
  have loop : ∀ a, a ≤ al.length → A 4 [some (.ref 463), some (.int (nI e)), some (.int (nI (arcsN (al.take a) e))), some (.int (nI a))] [] (mk I L) := by
    refine down fun a ha ih => ?_
    apply C.vc (fun pc => pc == 4 || pc == 21) 80; (simp only [↓vk kX10_arcsOf_0, ↓vk kX10_arcsOf_1, ↓vk kX10_arcsOf_2, ↓vk kX10_arcsOf_3, ↓vk kX10_arcsOf_4, ↓vk kX10_arcsOf_5, ↓vk kX10_arcsOf_6, ↓vk kX10_arcsOf_9, ↓vk kX10_arcsOf_10, ↓vk kX10_arcsOf_11, ↓vk kX10_arcsOf_14, ↓vk kX10_arcsOf_15, ↓vk kX10_arcsOf_16, ↓vk kX10_arcsOf_17, ↓vk kX10_arcsOf_18, ↓vk kX10_arcsOf_21, ↓vk kX10_arcsOf_22, ↓vk kX10_arcsOf_25, ↓vk kX10_arcsOf_26, ↓vk kX10_arcsOf_29, ↓vk kX10_arcsOf_30, ↓vk kX10_arcsOf_31, ↓vk kX10_arcsOf_32, ↓vk kX10_arcsOf_35, ↓vk kX10_arcsOf_38, ↓vk kX10_arcsOf_39, ↓x_aload, ↓x_callV2, ↓x_getR, ↓x_goto, ↓x_iald, ↓x_icmp, ↓x_icmpn, ↓x_ii, ↓x_iinc, ↓x_iload, ↓x_iret, ↓x_istore, ↓x_push, ↓reduceIte, List.getElem?_cons_zero, List.getElem?_cons_succ, List.getD_cons_zero, List.getD_cons_succ, List.getD_nil, List.set_cons_zero, List.set_cons_succ, lset, lset2, isL, noD, cond_true, cond_false, if_true, if_false, Bool.false_eq_true, true_and, and_true, Nat.reduceAdd, Nat.reduceBEq, Nat.reduceSub, Nat.reduceEqDiff, Nat.reduceLT, Nat.reduceLeDiff, Bool.or_false, Bool.false_or, Bool.or_true, Bool.true_or, List.append_nil, List.nil_append, List.cons_append, Option.toList_some, Option.toList_none, lo0, List.replicate, List.length_cons, List.length_nil, muI, muL, callK, catS, List.map_cons, List.map_nil, List.sum_cons, List.sum_nil, vrf, swK, ofN, Value.category, reduceCtorEq, rf_463_0, rf_463_2, rf_463_4, rf_463_6, rf_463_7, rf_463_8, rf_463_10, rf_463_11, rf_463_13, rf_463_14, rf_463_15, rf_463_16, rf_463_17, rf_463_22, rf_463_23, rf_463_24, sh_463, sh_464, sh_465, sh_466, sh_467, sh_468, sh_469, sh_470, sh_471, sh_472, sh_473, sh_474, sh_475, sh_476, sh_477, sh_478, sh_479, al_464, al_465, al_466, al_467, al_468, al_469, al_470, al_471, al_472, al_473, al_474, al_475, al_476, al_477, al_478, al_479]); (try simp (discharger := omega) only [lg_cmp_eq, nI_add, pk_mul, nI_clamp, ni_le, ni_lt, ni_eq, ni_lt0, ni_0le, ni_eq0, ni_0lt, ni_le0, ni_in, ni_m9, ni_9m, up2_ne, up2_eq, up2_kn, vnar0, vnar1, Nat.add_zero, Nat.zero_add, Nat.mul_zero, hg1])
    refine ⟨by omega, fun hx => ?_, fun hx => ct_of (by omega) ?_⟩
    · rw [List.take_of_length_le hx]
      exact hQ
    · obtain ⟨f1, f2, f3⟩ := hg2 a (by omega)
      obtain ⟨b1, b2, b3⟩ := ho.at (a := a) (by omega)
      have next := ih (by omega)
      rw [take_arc (by omega)] at next
      unfold arcsN at next ⊢
      rw [List.countP_append, List.countP_singleton] at next
      apply C.vc (fun pc => pc == 4 || pc == 21) 80; (simp only [↓vk kX10_arcsOf_0, ↓vk kX10_arcsOf_1, ↓vk kX10_arcsOf_2, ↓vk kX10_arcsOf_3, ↓vk kX10_arcsOf_4, ↓vk kX10_arcsOf_5, ↓vk kX10_arcsOf_6, ↓vk kX10_arcsOf_9, ↓vk kX10_arcsOf_10, ↓vk kX10_arcsOf_11, ↓vk kX10_arcsOf_14, ↓vk kX10_arcsOf_15, ↓vk kX10_arcsOf_16, ↓vk kX10_arcsOf_17, ↓vk kX10_arcsOf_18, ↓vk kX10_arcsOf_21, ↓vk kX10_arcsOf_22, ↓vk kX10_arcsOf_25, ↓vk kX10_arcsOf_26, ↓vk kX10_arcsOf_29, ↓vk kX10_arcsOf_30, ↓vk kX10_arcsOf_31, ↓vk kX10_arcsOf_32, ↓vk kX10_arcsOf_35, ↓vk kX10_arcsOf_38, ↓vk kX10_arcsOf_39, ↓x_aload, ↓x_callV2, ↓x_getR, ↓x_goto, ↓x_iald, ↓x_icmp, ↓x_icmpn, ↓x_ii, ↓x_iinc, ↓x_iload, ↓x_iret, ↓x_istore, ↓x_push, ↓reduceIte, List.getElem?_cons_zero, List.getElem?_cons_succ, List.getD_cons_zero, List.getD_cons_succ, List.getD_nil, List.set_cons_zero, List.set_cons_succ, lset, lset2, isL, noD, cond_true, cond_false, if_true, if_false, Bool.false_eq_true, true_and, and_true, Nat.reduceAdd, Nat.reduceBEq, Nat.reduceSub, Nat.reduceEqDiff, Nat.reduceLT, Nat.reduceLeDiff, Bool.or_false, Bool.false_or, Bool.or_true, Bool.true_or, List.append_nil, List.nil_append, List.cons_append, Option.toList_some, Option.toList_none, lo0, List.replicate, List.length_cons, List.length_nil, muI, muL, callK, catS, List.map_cons, List.map_nil, List.sum_cons, List.sum_nil, vrf, swK, ofN, Value.category, reduceCtorEq, rf_463_0, rf_463_2, rf_463_4, rf_463_6, rf_463_7, rf_463_8, rf_463_10, rf_463_11, rf_463_13, rf_463_14, rf_463_15, rf_463_16, rf_463_17, rf_463_22, rf_463_23, rf_463_24, sh_463, sh_464, sh_465, sh_466, sh_467, sh_468, sh_469, sh_470, sh_471, sh_472, sh_473, sh_474, sh_475, sh_476, sh_477, sh_478, sh_479, al_464, al_465, al_466, al_467, al_468, al_469, al_470, al_471, al_472, al_473, al_474, al_475, al_476, al_477, al_478, al_479]); (try simp (discharger := omega) only [lg_cmp_eq, nI_add, pk_mul, nI_clamp, ni_le, ni_lt, ni_eq, ni_lt0, ni_0le, ni_eq0, ni_0lt, ni_le0, ni_in, ni_m9, ni_9m, up2_ne, up2_eq, up2_kn, vnar0, vnar1, Nat.add_zero, Nat.zero_add, Nat.mul_zero, f2])
      refine ⟨fun q1 => ?_, fun q1 => ?_⟩
      · rw [q1] at next
        simpa using next
      · have h0 : ((arc al a).2.1 == e) = false := by simpa using q1
        rw [h0] at next
        simpa using next
  apply C.vc (fun pc => pc == 4 || pc == 21) 80; (simp only [↓vk kX10_arcsOf_0, ↓vk kX10_arcsOf_1, ↓vk kX10_arcsOf_2, ↓vk kX10_arcsOf_3, ↓vk kX10_arcsOf_4, ↓vk kX10_arcsOf_5, ↓vk kX10_arcsOf_6, ↓vk kX10_arcsOf_9, ↓vk kX10_arcsOf_10, ↓vk kX10_arcsOf_11, ↓vk kX10_arcsOf_14, ↓vk kX10_arcsOf_15, ↓vk kX10_arcsOf_16, ↓vk kX10_arcsOf_17, ↓vk kX10_arcsOf_18, ↓vk kX10_arcsOf_21, ↓vk kX10_arcsOf_22, ↓vk kX10_arcsOf_25, ↓vk kX10_arcsOf_26, ↓vk kX10_arcsOf_29, ↓vk kX10_arcsOf_30, ↓vk kX10_arcsOf_31, ↓vk kX10_arcsOf_32, ↓vk kX10_arcsOf_35, ↓vk kX10_arcsOf_38, ↓vk kX10_arcsOf_39, ↓x_aload, ↓x_callV2, ↓x_getR, ↓x_goto, ↓x_iald, ↓x_icmp, ↓x_icmpn, ↓x_ii, ↓x_iinc, ↓x_iload, ↓x_iret, ↓x_istore, ↓x_push, ↓reduceIte, List.getElem?_cons_zero, List.getElem?_cons_succ, List.getD_cons_zero, List.getD_cons_succ, List.getD_nil, List.set_cons_zero, List.set_cons_succ, lset, lset2, isL, noD, cond_true, cond_false, if_true, if_false, Bool.false_eq_true, true_and, and_true, Nat.reduceAdd, Nat.reduceBEq, Nat.reduceSub, Nat.reduceEqDiff, Nat.reduceLT, Nat.reduceLeDiff, Bool.or_false, Bool.false_or, Bool.or_true, Bool.true_or, List.append_nil, List.nil_append, List.cons_append, Option.toList_some, Option.toList_none, lo0, List.replicate, List.length_cons, List.length_nil, muI, muL, callK, catS, List.map_cons, List.map_nil, List.sum_cons, List.sum_nil, vrf, swK, ofN, Value.category, reduceCtorEq, rf_463_0, rf_463_2, rf_463_4, rf_463_6, rf_463_7, rf_463_8, rf_463_10, rf_463_11, rf_463_13, rf_463_14, rf_463_15, rf_463_16, rf_463_17, rf_463_22, rf_463_23, rf_463_24, sh_463, sh_464, sh_465, sh_466, sh_467, sh_468, sh_469, sh_470, sh_471, sh_472, sh_473, sh_474, sh_475, sh_476, sh_477, sh_478, sh_479, al_464, al_465, al_466, al_467, al_468, al_469, al_470, al_471, al_472, al_473, al_474, al_475, al_476, al_477, al_478, al_479]); (try simp (discharger := omega) only [lg_cmp_eq, nI_add, pk_mul, nI_clamp, ni_le, ni_lt, ni_eq, ni_lt0, ni_0le, ni_eq0, ni_0lt, ni_le0, ni_in, ni_m9, ni_9m, up2_ne, up2_eq, up2_kn, vnar0, vnar1, Nat.add_zero, Nat.zero_add, Nat.mul_zero])
  exact loop 0 (by omega)
def unusedN (al : List Arc) : Nat := ((List.range 8).find? (fun e => arcsN al e == 0)).getD 8
theorem unusedN_at {al : List Arc} {e : Nat} (he : e ≤ 8) (h : ∀ i, i < e → 0 < arcsN al i) (h2 : e = 8 ∨ arcsN al e = 0) : unusedN al = e := by
  unfold unusedN
  by_cases h8 : e = 8
  · rw [List.find?_eq_none.mpr]
    · exact h8.symm
    · intro x hx
      have := h x (by have := List.mem_range.mp hx; omega)
      simp; omega
  · have h3 : arcsN al e = 0 := h2.resolve_left h8
    rw [find_at (k := e) (by simp; omega)]
    · simp
    · intro i hi
      have := h i hi
      simp; omega
    · simp [h3]
set_option maxRecDepth 100000 in
set_option maxHeartbeats 4000000 in
theorem ct_unused {l : Launch} {X : XT} {I : Nat → Nat → Int32} {L : Nat → Nat → Int64} {al : List Arc} {Q : QT} (hg : GM I al) (ho : AOK al) (hQ : Q (some (.int (nI (unusedN al)))) (mk I L)) : CT l X mX10_unused 0 [.ref 463] (mk I L) Q := by
  refine ct_intro okX10_unused (by decide +kernel) (Or.inr (Or.inl rfl)) (Nat.le_of_ble_eq_true rfl) fun A C W => ?_
  show A 0 [some (.ref 463), none] [] _
  have hl := ho.1
  have loop : ∀ e, e ≤ 8 → (∀ i, i < e → 0 < arcsN al i) → A 2 [some (.ref 463), some (.int (nI e))] [] (mk I L) := by
    refine down fun e he ih hb => ?_
    apply C.vc (fun pc => pc == 2 || pc == 13) 80; (simp only [↓vk kX10_unused_0, ↓vk kX10_unused_1, ↓vk kX10_unused_2, ↓vk kX10_unused_3, ↓vk kX10_unused_5, ↓vk kX10_unused_8, ↓vk kX10_unused_9, ↓vk kX10_unused_10, ↓vk kX10_unused_13, ↓vk kX10_unused_16, ↓vk kX10_unused_19, ↓vk kX10_unused_22, ↓vk kX10_unused_23, ↓x_aload, ↓x_callV1, ↓x_goto, ↓x_icmp, ↓x_if, ↓x_iinc, ↓x_iload, ↓x_iret, ↓x_istore, ↓x_push, ↓reduceIte, List.getElem?_cons_zero, List.getElem?_cons_succ, List.getD_cons_zero, List.getD_cons_succ, List.getD_nil, List.set_cons_zero, List.set_cons_succ, lset, lset2, isL, noD, cond_true, cond_false, if_true, if_false, Bool.false_eq_true, true_and, and_true, Nat.reduceAdd, Nat.reduceBEq, Nat.reduceSub, Nat.reduceEqDiff, Nat.reduceLT, Nat.reduceLeDiff, Bool.or_false, Bool.false_or, Bool.or_true, Bool.true_or, List.append_nil, List.nil_append, List.cons_append, Option.toList_some, Option.toList_none, lo0, List.replicate, List.length_cons, List.length_nil, muI, muL, callK, catS, List.map_cons, List.map_nil, List.sum_cons, List.sum_nil, vrf, swK, ofN, Value.category, reduceCtorEq, rf_463_0, rf_463_2, rf_463_4, rf_463_6, rf_463_7, rf_463_8, rf_463_10, rf_463_11, rf_463_13, rf_463_14, rf_463_15, rf_463_16, rf_463_17, rf_463_22, rf_463_23, rf_463_24, sh_463, sh_464, sh_465, sh_466, sh_467, sh_468, sh_469, sh_470, sh_471, sh_472, sh_473, sh_474, sh_475, sh_476, sh_477, sh_478, sh_479, al_464, al_465, al_466, al_467, al_468, al_469, al_470, al_471, al_472, al_473, al_474, al_475, al_476, al_477, al_478, al_479]); (try simp (discharger := omega) only [lg_cmp_eq, nI_add, pk_mul, nI_clamp, ni_le, ni_lt, ni_eq, ni_lt0, ni_0le, ni_eq0, ni_0lt, ni_le0, ni_in, ni_m9, ni_9m, up2_ne, up2_eq, up2_kn, vnar0, vnar1, Nat.add_zero, Nat.zero_add, Nat.mul_zero])
    refine ⟨fun hx => ?_, fun hx => ct_arcsOf hg ho (by omega) ?_⟩
    · rw [unusedN_at he hb (Or.inl (by omega))] at hQ
      exact hQ
    · have := arcsN_le al e
      apply C.vc (fun pc => pc == 2 || pc == 13) 80; (simp only [↓vk kX10_unused_0, ↓vk kX10_unused_1, ↓vk kX10_unused_2, ↓vk kX10_unused_3, ↓vk kX10_unused_5, ↓vk kX10_unused_8, ↓vk kX10_unused_9, ↓vk kX10_unused_10, ↓vk kX10_unused_13, ↓vk kX10_unused_16, ↓vk kX10_unused_19, ↓vk kX10_unused_22, ↓vk kX10_unused_23, ↓x_aload, ↓x_callV1, ↓x_goto, ↓x_icmp, ↓x_if, ↓x_iinc, ↓x_iload, ↓x_iret, ↓x_istore, ↓x_push, ↓reduceIte, List.getElem?_cons_zero, List.getElem?_cons_succ, List.getD_cons_zero, List.getD_cons_succ, List.getD_nil, List.set_cons_zero, List.set_cons_succ, lset, lset2, isL, noD, cond_true, cond_false, if_true, if_false, Bool.false_eq_true, true_and, and_true, Nat.reduceAdd, Nat.reduceBEq, Nat.reduceSub, Nat.reduceEqDiff, Nat.reduceLT, Nat.reduceLeDiff, Bool.or_false, Bool.false_or, Bool.or_true, Bool.true_or, List.append_nil, List.nil_append, List.cons_append, Option.toList_some, Option.toList_none, lo0, List.replicate, List.length_cons, List.length_nil, muI, muL, callK, catS, List.map_cons, List.map_nil, List.sum_cons, List.sum_nil, vrf, swK, ofN, Value.category, reduceCtorEq, rf_463_0, rf_463_2, rf_463_4, rf_463_6, rf_463_7, rf_463_8, rf_463_10, rf_463_11, rf_463_13, rf_463_14, rf_463_15, rf_463_16, rf_463_17, rf_463_22, rf_463_23, rf_463_24, sh_463, sh_464, sh_465, sh_466, sh_467, sh_468, sh_469, sh_470, sh_471, sh_472, sh_473, sh_474, sh_475, sh_476, sh_477, sh_478, sh_479, al_464, al_465, al_466, al_467, al_468, al_469, al_470, al_471, al_472, al_473, al_474, al_475, al_476, al_477, al_478, al_479]); (try simp (discharger := omega) only [lg_cmp_eq, nI_add, pk_mul, nI_clamp, ni_le, ni_lt, ni_eq, ni_lt0, ni_0le, ni_eq0, ni_0lt, ni_le0, ni_in, ni_m9, ni_9m, up2_ne, up2_eq, up2_kn, vnar0, vnar1, Nat.add_zero, Nat.zero_add, Nat.mul_zero])
      refine ⟨fun q => ?_, fun q => ?_⟩
      · rw [unusedN_at he hb (Or.inr q)] at hQ
        exact hQ
      · exact ih (by omega) (fun i hi => by
          by_cases hie : i = e
          · rw [hie]; omega
          · exact hb i (by omega))
  apply C.vc (fun pc => pc == 2 || pc == 13) 80; (simp only [↓vk kX10_unused_0, ↓vk kX10_unused_1, ↓vk kX10_unused_2, ↓vk kX10_unused_3, ↓vk kX10_unused_5, ↓vk kX10_unused_8, ↓vk kX10_unused_9, ↓vk kX10_unused_10, ↓vk kX10_unused_13, ↓vk kX10_unused_16, ↓vk kX10_unused_19, ↓vk kX10_unused_22, ↓vk kX10_unused_23, ↓x_aload, ↓x_callV1, ↓x_goto, ↓x_icmp, ↓x_if, ↓x_iinc, ↓x_iload, ↓x_iret, ↓x_istore, ↓x_push, ↓reduceIte, List.getElem?_cons_zero, List.getElem?_cons_succ, List.getD_cons_zero, List.getD_cons_succ, List.getD_nil, List.set_cons_zero, List.set_cons_succ, lset, lset2, isL, noD, cond_true, cond_false, if_true, if_false, Bool.false_eq_true, true_and, and_true, Nat.reduceAdd, Nat.reduceBEq, Nat.reduceSub, Nat.reduceEqDiff, Nat.reduceLT, Nat.reduceLeDiff, Bool.or_false, Bool.false_or, Bool.or_true, Bool.true_or, List.append_nil, List.nil_append, List.cons_append, Option.toList_some, Option.toList_none, lo0, List.replicate, List.length_cons, List.length_nil, muI, muL, callK, catS, List.map_cons, List.map_nil, List.sum_cons, List.sum_nil, vrf, swK, ofN, Value.category, reduceCtorEq, rf_463_0, rf_463_2, rf_463_4, rf_463_6, rf_463_7, rf_463_8, rf_463_10, rf_463_11, rf_463_13, rf_463_14, rf_463_15, rf_463_16, rf_463_17, rf_463_22, rf_463_23, rf_463_24, sh_463, sh_464, sh_465, sh_466, sh_467, sh_468, sh_469, sh_470, sh_471, sh_472, sh_473, sh_474, sh_475, sh_476, sh_477, sh_478, sh_479, al_464, al_465, al_466, al_467, al_468, al_469, al_470, al_471, al_472, al_473, al_474, al_475, al_476, al_477, al_478, al_479]); (try simp (discharger := omega) only [lg_cmp_eq, nI_add, pk_mul, nI_clamp, ni_le, ni_lt, ni_eq, ni_lt0, ni_0le, ni_eq0, ni_0lt, ni_le0, ni_in, ni_m9, ni_9m, up2_ne, up2_eq, up2_kn, vnar0, vnar1, Nat.add_zero, Nat.zero_add, Nat.mul_zero])
  exact loop 0 (by omega) (fun i hi => by omega)
set_option maxRecDepth 100000 in
set_option maxHeartbeats 4000000 in
theorem ct_all {l : Launch} {X : XT} {I : Nat → Nat → Int32} {L : Nat → Nat → Int64} {n : Nat} {Q : QT} (hn : I 464 0 = nI n) (hn1 : n ≤ 10) (hQ : Q (some (.int (nI (2 ^ n - 1)))) (mk I L)) : CT l X mX10_all 0 [.ref 463] (mk I L) Q := by
  refine ct_intro okX10_all (by decide +kernel) (Or.inr (Or.inl rfl)) (Nat.le_of_ble_eq_true rfl) fun A C W => ?_
  show A 0 [some (.ref 463)] [] _
  have h1 : 2 ^ n ≤ 2 ^ 10 := Nat.pow_le_pow_right (by omega) hn1
  have h2 : 0 < 2 ^ n := Nat.pow_pos (by omega)
  apply C.vc (fun pc => false) 80; (simp only [↓vk kX10_all_0, ↓vk kX10_all_1, ↓vk kX10_all_2, ↓vk kX10_all_5, ↓vk kX10_all_6, ↓vk kX10_all_7, ↓vk kX10_all_8, ↓vk kX10_all_9, ↓vk kX10_all_10, ↓x_aload, ↓x_getR, ↓x_iald, ↓x_ii, ↓x_iret, ↓x_push, ↓reduceIte, List.getElem?_cons_zero, List.getElem?_cons_succ, List.getD_cons_zero, List.getD_cons_succ, List.getD_nil, List.set_cons_zero, List.set_cons_succ, lset, lset2, isL, noD, cond_true, cond_false, if_true, if_false, Bool.false_eq_true, true_and, and_true, Nat.reduceAdd, Nat.reduceBEq, Nat.reduceSub, Nat.reduceEqDiff, Nat.reduceLT, Nat.reduceLeDiff, Bool.or_false, Bool.false_or, Bool.or_true, Bool.true_or, List.append_nil, List.nil_append, List.cons_append, Option.toList_some, Option.toList_none, lo0, List.replicate, List.length_cons, List.length_nil, muI, muL, callK, catS, List.map_cons, List.map_nil, List.sum_cons, List.sum_nil, vrf, swK, ofN, Value.category, reduceCtorEq, rf_463_0, rf_463_2, rf_463_4, rf_463_6, rf_463_7, rf_463_8, rf_463_10, rf_463_11, rf_463_13, rf_463_14, rf_463_15, rf_463_16, rf_463_17, rf_463_22, rf_463_23, rf_463_24, sh_463, sh_464, sh_465, sh_466, sh_467, sh_468, sh_469, sh_470, sh_471, sh_472, sh_473, sh_474, sh_475, sh_476, sh_477, sh_478, sh_479, al_464, al_465, al_466, al_467, al_468, al_469, al_470, al_471, al_472, al_473, al_474, al_475, al_476, al_477, al_478, al_479]); (try simp (discharger := omega) only [lg_cmp_eq, nI_add, pk_mul, nI_clamp, ni_le, ni_lt, ni_eq, ni_lt0, ni_0le, ni_eq0, ni_0lt, ni_le0, ni_in, ni_m9, ni_9m, up2_ne, up2_eq, up2_kn, vnar0, vnar1, Nat.add_zero, Nat.zero_add, Nat.mul_zero, hn])
  refine ⟨by omega, ?_⟩
  rw [ni_shl (by omega) (by omega), Nat.one_mul, pk_sub (by omega)]
  exact hQ
def isRegB (al : List Arc) (set : Nat) : Bool := (List.range 8).all (fun e => decide (crossM al set e < 3))
set_option maxRecDepth 100000 in
set_option maxHeartbeats 4000000 in
theorem ct_isRegion {l : Launch} {X : XT} {I : Nat → Nat → Int32} {L : Nat → Nat → Int64} {al : List Arc} {set : Nat} {Q : QT} (hg : GM I al) (ho : AOK al) (hs : set < 2 ^ 31) (hQ : Q (some (.int (nI (bI (isRegB al set))))) (mk I L)) : CT l X mX10_isRegion 0 [.ref 463, .int (nI set)] (mk I L) Q := by
  refine ct_intro okX10_isRegion (by decide +kernel) (Or.inr (Or.inr (Or.inl rfl))) (Nat.le_of_ble_eq_true rfl) fun A C W => ?_
  show A 0 [some (.ref 463), some (.int (nI set)), none, none] [] _
  have loop : ∀ e, e ≤ 8 → A 4 [some (.ref 463), some (.int (nI set)), some (.int (nI (bI ((List.range e).all (fun e => decide (crossM al set e < 3)))))), some (.int (nI e))] [] (mk I L) := by
    refine down fun e he ih => ?_
    have hb := bI_lt ((List.range e).all (fun e => decide (crossM al set e < 3)))
    apply C.vc (fun pc => pc == 4 || pc == 20) 80; (simp only [↓vk kX10_isRegion_0, ↓vk kX10_isRegion_1, ↓vk kX10_isRegion_2, ↓vk kX10_isRegion_3, ↓vk kX10_isRegion_4, ↓vk kX10_isRegion_5, ↓vk kX10_isRegion_7, ↓vk kX10_isRegion_10, ↓vk kX10_isRegion_11, ↓vk kX10_isRegion_14, ↓vk kX10_isRegion_15, ↓vk kX10_isRegion_16, ↓vk kX10_isRegion_17, ↓vk kX10_isRegion_20, ↓vk kX10_isRegion_21, ↓vk kX10_isRegion_24, ↓vk kX10_isRegion_25, ↓vk kX10_isRegion_28, ↓vk kX10_isRegion_29, ↓vk kX10_isRegion_30, ↓vk kX10_isRegion_33, ↓vk kX10_isRegion_36, ↓vk kX10_isRegion_37, ↓x_aload, ↓x_callV2, ↓x_goto, ↓x_icmp, ↓x_if, ↓x_iinc, ↓x_iload, ↓x_istore, ↓x_push, ↓x_zret, ↓reduceIte, List.getElem?_cons_zero, List.getElem?_cons_succ, List.getD_cons_zero, List.getD_cons_succ, List.getD_nil, List.set_cons_zero, List.set_cons_succ, lset, lset2, isL, noD, cond_true, cond_false, if_true, if_false, Bool.false_eq_true, true_and, and_true, Nat.reduceAdd, Nat.reduceBEq, Nat.reduceSub, Nat.reduceEqDiff, Nat.reduceLT, Nat.reduceLeDiff, Bool.or_false, Bool.false_or, Bool.or_true, Bool.true_or, List.append_nil, List.nil_append, List.cons_append, Option.toList_some, Option.toList_none, lo0, List.replicate, List.length_cons, List.length_nil, muI, muL, callK, catS, List.map_cons, List.map_nil, List.sum_cons, List.sum_nil, vrf, swK, ofN, Value.category, reduceCtorEq, rf_463_0, rf_463_2, rf_463_4, rf_463_6, rf_463_7, rf_463_8, rf_463_10, rf_463_11, rf_463_13, rf_463_14, rf_463_15, rf_463_16, rf_463_17, rf_463_22, rf_463_23, rf_463_24, sh_463, sh_464, sh_465, sh_466, sh_467, sh_468, sh_469, sh_470, sh_471, sh_472, sh_473, sh_474, sh_475, sh_476, sh_477, sh_478, sh_479, al_464, al_465, al_466, al_467, al_468, al_469, al_470, al_471, al_472, al_473, al_474, al_475, al_476, al_477, al_478, al_479]); (try simp (discharger := omega) only [lg_cmp_eq, nI_add, pk_mul, nI_clamp, ni_le, ni_lt, ni_eq, ni_lt0, ni_0le, ni_eq0, ni_0lt, ni_le0, ni_in, ni_m9, ni_9m, up2_ne, up2_eq, up2_kn, vnar0, vnar1, Nat.add_zero, Nat.zero_add, Nat.mul_zero])
    refine ⟨fun hx => ⟨?_, ?_⟩, fun hx => ⟨fun q => ⟨?_, ?_⟩, fun q => ct_crossing hg ho hs (by omega) ?_⟩⟩
    · cases (List.range e).all (fun e => decide (crossM al set e < 3))
      · exact Or.inl rfl
      · exact Or.inr rfl
    · have h8 : e = 8 := by omega
      subst h8
      exact hQ
    · left
      rw [q]
    · have h1 : (List.range e).all (fun e => decide (crossM al set e < 3)) = false := by
        cases h : (List.range e).all (fun e => decide (crossM al set e < 3))
        · rfl
        · rw [h] at q; cases q
      have h2 : isRegB al set = false := by
        unfold isRegB
        rw [List.all_eq_false] at h1 ⊢
        obtain ⟨x, hx1, hx2⟩ := h1
        exact ⟨x, List.mem_range.mpr (by have := List.mem_range.mp hx1; omega), hx2⟩
      rw [h1]
      rw [h2] at hQ
      exact hQ
    · have h1 : (List.range e).all (fun e => decide (crossM al set e < 3)) = true := by
        cases h : (List.range e).all (fun e => decide (crossM al set e < 3))
        · rw [h] at q; exact absurd rfl q
        · rfl
      have next := ih (by omega)
      rw [List.range_succ, List.all_append, h1] at next
      simp only [List.all_cons, List.all_nil, Bool.and_true, Bool.true_and] at next
      have := crossM_le al set e
      apply C.vc (fun pc => pc == 4 || pc == 20) 80; (simp only [↓vk kX10_isRegion_0, ↓vk kX10_isRegion_1, ↓vk kX10_isRegion_2, ↓vk kX10_isRegion_3, ↓vk kX10_isRegion_4, ↓vk kX10_isRegion_5, ↓vk kX10_isRegion_7, ↓vk kX10_isRegion_10, ↓vk kX10_isRegion_11, ↓vk kX10_isRegion_14, ↓vk kX10_isRegion_15, ↓vk kX10_isRegion_16, ↓vk kX10_isRegion_17, ↓vk kX10_isRegion_20, ↓vk kX10_isRegion_21, ↓vk kX10_isRegion_24, ↓vk kX10_isRegion_25, ↓vk kX10_isRegion_28, ↓vk kX10_isRegion_29, ↓vk kX10_isRegion_30, ↓vk kX10_isRegion_33, ↓vk kX10_isRegion_36, ↓vk kX10_isRegion_37, ↓x_aload, ↓x_callV2, ↓x_goto, ↓x_icmp, ↓x_if, ↓x_iinc, ↓x_iload, ↓x_istore, ↓x_push, ↓x_zret, ↓reduceIte, List.getElem?_cons_zero, List.getElem?_cons_succ, List.getD_cons_zero, List.getD_cons_succ, List.getD_nil, List.set_cons_zero, List.set_cons_succ, lset, lset2, isL, noD, cond_true, cond_false, if_true, if_false, Bool.false_eq_true, true_and, and_true, Nat.reduceAdd, Nat.reduceBEq, Nat.reduceSub, Nat.reduceEqDiff, Nat.reduceLT, Nat.reduceLeDiff, Bool.or_false, Bool.false_or, Bool.or_true, Bool.true_or, List.append_nil, List.nil_append, List.cons_append, Option.toList_some, Option.toList_none, lo0, List.replicate, List.length_cons, List.length_nil, muI, muL, callK, catS, List.map_cons, List.map_nil, List.sum_cons, List.sum_nil, vrf, swK, ofN, Value.category, reduceCtorEq, rf_463_0, rf_463_2, rf_463_4, rf_463_6, rf_463_7, rf_463_8, rf_463_10, rf_463_11, rf_463_13, rf_463_14, rf_463_15, rf_463_16, rf_463_17, rf_463_22, rf_463_23, rf_463_24, sh_463, sh_464, sh_465, sh_466, sh_467, sh_468, sh_469, sh_470, sh_471, sh_472, sh_473, sh_474, sh_475, sh_476, sh_477, sh_478, sh_479, al_464, al_465, al_466, al_467, al_468, al_469, al_470, al_471, al_472, al_473, al_474, al_475, al_476, al_477, al_478, al_479]); (try simp (discharger := omega) only [lg_cmp_eq, nI_add, pk_mul, nI_clamp, ni_le, ni_lt, ni_eq, ni_lt0, ni_0le, ni_eq0, ni_0lt, ni_le0, ni_in, ni_m9, ni_9m, up2_ne, up2_eq, up2_kn, vnar0, vnar1, Nat.add_zero, Nat.zero_add, Nat.mul_zero])
      refine ⟨fun q2 => ?_, fun q2 => ?_⟩
      · rw [decide_eq_false (by omega)] at next
        exact next
      · rw [decide_eq_true (by omega)] at next
        exact next
  apply C.vc (fun pc => pc == 4 || pc == 20) 80; (simp only [↓vk kX10_isRegion_0, ↓vk kX10_isRegion_1, ↓vk kX10_isRegion_2, ↓vk kX10_isRegion_3, ↓vk kX10_isRegion_4, ↓vk kX10_isRegion_5, ↓vk kX10_isRegion_7, ↓vk kX10_isRegion_10, ↓vk kX10_isRegion_11, ↓vk kX10_isRegion_14, ↓vk kX10_isRegion_15, ↓vk kX10_isRegion_16, ↓vk kX10_isRegion_17, ↓vk kX10_isRegion_20, ↓vk kX10_isRegion_21, ↓vk kX10_isRegion_24, ↓vk kX10_isRegion_25, ↓vk kX10_isRegion_28, ↓vk kX10_isRegion_29, ↓vk kX10_isRegion_30, ↓vk kX10_isRegion_33, ↓vk kX10_isRegion_36, ↓vk kX10_isRegion_37, ↓x_aload, ↓x_callV2, ↓x_goto, ↓x_icmp, ↓x_if, ↓x_iinc, ↓x_iload, ↓x_istore, ↓x_push, ↓x_zret, ↓reduceIte, List.getElem?_cons_zero, List.getElem?_cons_succ, List.getD_cons_zero, List.getD_cons_succ, List.getD_nil, List.set_cons_zero, List.set_cons_succ, lset, lset2, isL, noD, cond_true, cond_false, if_true, if_false, Bool.false_eq_true, true_and, and_true, Nat.reduceAdd, Nat.reduceBEq, Nat.reduceSub, Nat.reduceEqDiff, Nat.reduceLT, Nat.reduceLeDiff, Bool.or_false, Bool.false_or, Bool.or_true, Bool.true_or, List.append_nil, List.nil_append, List.cons_append, Option.toList_some, Option.toList_none, lo0, List.replicate, List.length_cons, List.length_nil, muI, muL, callK, catS, List.map_cons, List.map_nil, List.sum_cons, List.sum_nil, vrf, swK, ofN, Value.category, reduceCtorEq, rf_463_0, rf_463_2, rf_463_4, rf_463_6, rf_463_7, rf_463_8, rf_463_10, rf_463_11, rf_463_13, rf_463_14, rf_463_15, rf_463_16, rf_463_17, rf_463_22, rf_463_23, rf_463_24, sh_463, sh_464, sh_465, sh_466, sh_467, sh_468, sh_469, sh_470, sh_471, sh_472, sh_473, sh_474, sh_475, sh_476, sh_477, sh_478, sh_479, al_464, al_465, al_466, al_467, al_468, al_469, al_470, al_471, al_472, al_473, al_474, al_475, al_476, al_477, al_478, al_479]); (try simp (discharger := omega) only [lg_cmp_eq, nI_add, pk_mul, nI_clamp, ni_le, ni_lt, ni_eq, ni_lt0, ni_0le, ni_eq0, ni_0lt, ni_le0, ni_in, ni_m9, ni_9m, up2_ne, up2_eq, up2_kn, vnar0, vnar1, Nat.add_zero, Nat.zero_add, Nat.mul_zero])
  exact loop 0 (by omega)

/-! the class: sizes of pairs, reachable states -/
def cB (m : MK) : Nat := cL m.1 64 + cL m.2 64
theorem cntB_lo (m : MK) : ∀ k, k ≤ 64 → cntB m k = cL m.1 k
  | 0, _ => rfl
  | k + 1, h => by
    show cntB m k + bI (bitM m k) = cL m.1 k + bI (m.1.toBitVec.getLsbD k)
    rw [cntB_lo m k (by omega)]
    unfold bitM
    rw [if_pos (by omega)]
theorem cntB_hi (m : MK) : ∀ k, cntB m (64 + k) = cL m.1 64 + cL m.2 k
  | 0 => cntB_lo m 64 (Nat.le_refl _)
  | k + 1 => by
    show cntB m (64 + k) + bI (bitM m (64 + k)) = cL m.1 64 + (cL m.2 k + bI (m.2.toBitVec.getLsbD k))
    rw [cntB_hi m k]
    unfold bitM
    rw [if_neg (by omega), Nat.add_sub_cancel_left]
    omega
theorem cB_cntB (m : MK) : cB m = cntB m 128 := (cntB_hi m 64).symm
theorem cntB_le (m : MK) : ∀ k, cntB m k ≤ k
  | 0 => Nat.le_refl _
  | k + 1 => by
    have := cntB_le m k
    have := bI_le (bitM m k)
    show cntB m k + bI (bitM m k) ≤ k + 1
    omega
theorem cB_le (m : MK) : cB m ≤ 128 := by rw [cB_cntB]; exact cntB_le m 128
def p32 (v : Int32) : Int32 :=
  let a := v - ((v.toUInt32 >>> ((nI 1).toUInt32 &&& Int32.toUInt32 31)).toInt32 &&& 1431655765)
  let b := (a &&& 858993459) + ((a.toUInt32 >>> ((nI 2).toUInt32 &&& Int32.toUInt32 31)).toInt32 &&& 858993459)
  let c := (b + (b.toUInt32 >>> ((nI 4).toUInt32 &&& Int32.toUInt32 31)).toInt32) &&& 252645135
  let d := c + (c.toUInt32 >>> ((nI 8).toUInt32 &&& Int32.toUInt32 31)).toInt32
  let e := d + (d.toUInt32 >>> ((nI 16).toUInt32 &&& Int32.toUInt32 31)).toInt32
  e &&& nI 63
theorem p32_all : ∀ x, x < 1024 → p32 (nI x) = nI (popN x) := by decide +kernel
theorem rSt_bit (r : Nat) (x : Arc) (i : Nat) : (rSt r x).testBit i = (r.testBit i || (r.testBit x.1 && decide (x.2.2 = i))) := by
  unfold rSt
  rw [Nat.testBit_or]
  cases h : r.testBit x.1
  · rw [show bI false * 2 ^ x.2.2 = 0 from Nat.zero_mul _, Nat.zero_testBit]; rfl
  · rw [show bI true * 2 ^ x.2.2 = 2 ^ x.2.2 from Nat.one_mul _, Nat.testBit_two_pow]; rfl
theorem rPass_mono : ∀ (al : List Arc) (r i : Nat), r.testBit i = true → (rPass al r).testBit i = true
  | [], r, i, h => h
  | x :: al, r, i, h => rPass_mono al (rSt r x) i (by rw [rSt_bit, h]; rfl)
theorem rPass_ltn {n : Nat} : ∀ (al : List Arc) (_ : ∀ x ∈ al, x.2.2 < n) (r : Nat), r < 2 ^ n → rPass al r < 2 ^ n
  | [], _, r, h => h
  | x :: al, hx, r, h => by
    refine rPass_ltn al (fun y hy => hx y (List.mem_cons_of_mem _ hy)) (rSt r x) ?_
    unfold rSt
    have h2 : 2 ^ x.2.2 < 2 ^ n := Nat.pow_lt_pow_right (by omega) (hx x List.mem_cons_self)
    refine Nat.or_lt_two_pow h ?_
    cases r.testBit x.1
    · rw [show bI false * 2 ^ x.2.2 = 0 from Nat.zero_mul _]; omega
    · rw [show bI true * 2 ^ x.2.2 = 2 ^ x.2.2 from Nat.one_mul _]; exact h2
theorem rN_ltn {n : Nat} (hn : 1 ≤ n) {al : List Arc} (hx : ∀ x ∈ al, x.2.2 < n) : ∀ k, rN al k < 2 ^ n
  | 0 => by
    have : 2 ^ 1 ≤ 2 ^ n := Nat.pow_le_pow_right (by omega) hn
    show 1 < 2 ^ n
    omega
  | k + 1 => rPass_ltn al hx _ (rN_ltn hn hx k)
theorem popTo_mono {a b : Nat} (h : ∀ i, a.testBit i = true → b.testBit i = true) : ∀ k, popTo a k ≤ popTo b k
  | 0 => Nat.le_refl _
  | k + 1 => by
    rw [popTo_succ, popTo_succ]
    have h1 := popTo_mono h k
    have h2 := h k
    cases ha : a.testBit k <;> cases hb : b.testBit k <;> simp_all [bI] <;> omega
theorem popTo_more {a b i : Nat} (h : ∀ i, a.testBit i = true → b.testBit i = true) (h1 : a.testBit i = false) (h2 : b.testBit i = true) : ∀ k, i < k → popTo a k + 1 ≤ popTo b k
  | 0, hk => absurd hk (Nat.not_lt_zero _)
  | k + 1, hk => by
    rw [popTo_succ, popTo_succ]
    by_cases hik : i = k
    · subst hik
      have h3 := popTo_mono h i
      rw [h1, h2]
      show popTo a i + 0 + 1 ≤ popTo b i + 1
      omega
    · have h3 := popTo_more h h1 h2 k (by omega)
      have h4 := h k
      cases ha : a.testBit k <;> cases hb : b.testBit k <;> simp_all [bI] <;> omega
theorem rN_grow {n : Nat} (hn : 1 ≤ n) {al : List Arc} (hx : ∀ x ∈ al, x.2.2 < n) : ∀ k, rN al (k + 1) = rN al k ∨ k + 1 ≤ popTo (rN al k) n
  | 0 => by
    right
    have h := popTo_more (a := 0) (b := 1) (i := 0) (fun i h => by simp at h) (by simp) (by decide) n (by omega)
    show 1 ≤ popTo 1 n
    omega
  | k + 1 => by
    rcases rN_grow hn hx k with h | h
    · left
      show rPass al (rN al (k + 1)) = rN al (k + 1)
      rw [h]
      exact h
    · by_cases he : rN al (k + 1) = rN al k
      · left
        show rPass al (rN al (k + 1)) = rN al (k + 1)
        rw [he]
        exact he
      · right
        have hm : ∀ i, (rN al k).testBit i = true → (rN al (k + 1)).testBit i = true := fun i hi => rPass_mono al _ i hi
        have hex : ∃ i, (rN al k).testBit i ≠ (rN al (k + 1)).testBit i := by
          refine Classical.byContradiction fun hc => he ?_
          apply Nat.eq_of_testBit_eq
          intro i
          refine Classical.byContradiction fun hi => hc ⟨i, fun q => hi q.symm⟩
        obtain ⟨i, hi⟩ := hex
        have hm2 := hm i
        have h1 : (rN al k).testBit i = false := by
          cases h1 : (rN al k).testBit i
          · rfl
          · rw [h1] at hi
            rw [hm2 h1] at hi
            exact absurd rfl hi
        have h2 : (rN al (k + 1)).testBit i = true := by
          rw [h1] at hi
          cases h2 : (rN al (k + 1)).testBit i
          · rw [h2] at hi; exact absurd rfl hi
          · rfl
        have hin : i < n := by
          refine Classical.byContradiction fun hc => ?_
          have h3 : (rN al (k + 1)).testBit i = false := Nat.testBit_lt_two_pow (Nat.lt_of_lt_of_le (rN_ltn hn hx (k + 1)) (Nat.pow_le_pow_right (by omega) (by omega)))
          rw [h2] at h3
          cases h3
        have := popTo_more hm h1 h2 n hin
        omega
theorem rN_stop {al : List Arc} {k : Nat} (h : rN al (k + 1) = rN al k) : ∀ j, rN al (k + j) = rN al k
  | 0 => rfl
  | j + 1 => by
    show rPass al (rN al (k + j)) = rN al k
    rw [rN_stop h j]
    exact h
theorem rN_ten {n : Nat} (hn : 1 ≤ n) (hn1 : n ≤ 10) {al : List Arc} (hx : ∀ x ∈ al, x.2.2 < n) : rN al 10 = rN al n := by
  rcases rN_grow hn hx n with h | h
  · have := rN_stop h (10 - n)
    rwa [show n + (10 - n) = 10 by omega] at this
  · have := popTo_le (rN al n) n
    omega
section BT4
variable {l : Launch} {X : XT} {I : Nat → Nat → Int32} {L : Nat → Nat → Int64} {Q : QT} {a b g n : Nat} {al : List Arc}
set_option maxRecDepth 100000 in
set_option maxHeartbeats 4000000 in
theorem ct_bits32 {x : Nat} (hx : x < 1024) (hQ : Q (some (.int (nI (popN x)))) (mk I L)) : CT l X mJ6_bitCount_0f7a4 0 [.int (nI x)] (mk I L) Q := by
  refine ct_introF okJ6_bitCount_0f7a4 (by decide +kernel) (Or.inr (Or.inl rfl)) (Nat.le_of_ble_eq_true rfl) fun A C W => ?_
  show A 0 [some (.int (nI x))] [] _
  have e := p32_all x hx
  generalize nI x = v at e ⊢
  apply C.vc (fun pc => false) 80; (simp only [↓vk kJ6_bitCount_0f7a4_0, ↓vk kJ6_bitCount_0f7a4_1, ↓vk kJ6_bitCount_0f7a4_2, ↓vk kJ6_bitCount_0f7a4_3, ↓vk kJ6_bitCount_0f7a4_4, ↓vk kJ6_bitCount_0f7a4_7, ↓vk kJ6_bitCount_0f7a4_8, ↓vk kJ6_bitCount_0f7a4_9, ↓vk kJ6_bitCount_0f7a4_10, ↓vk kJ6_bitCount_0f7a4_11, ↓vk kJ6_bitCount_0f7a4_14, ↓vk kJ6_bitCount_0f7a4_15, ↓vk kJ6_bitCount_0f7a4_16, ↓vk kJ6_bitCount_0f7a4_17, ↓vk kJ6_bitCount_0f7a4_18, ↓vk kJ6_bitCount_0f7a4_21, ↓vk kJ6_bitCount_0f7a4_22, ↓vk kJ6_bitCount_0f7a4_23, ↓vk kJ6_bitCount_0f7a4_24, ↓vk kJ6_bitCount_0f7a4_25, ↓vk kJ6_bitCount_0f7a4_26, ↓vk kJ6_bitCount_0f7a4_27, ↓vk kJ6_bitCount_0f7a4_28, ↓vk kJ6_bitCount_0f7a4_29, ↓vk kJ6_bitCount_0f7a4_32, ↓vk kJ6_bitCount_0f7a4_33, ↓vk kJ6_bitCount_0f7a4_34, ↓vk kJ6_bitCount_0f7a4_35, ↓vk kJ6_bitCount_0f7a4_36, ↓vk kJ6_bitCount_0f7a4_38, ↓vk kJ6_bitCount_0f7a4_39, ↓vk kJ6_bitCount_0f7a4_40, ↓vk kJ6_bitCount_0f7a4_41, ↓vk kJ6_bitCount_0f7a4_42, ↓vk kJ6_bitCount_0f7a4_43, ↓vk kJ6_bitCount_0f7a4_45, ↓vk kJ6_bitCount_0f7a4_46, ↓vk kJ6_bitCount_0f7a4_47, ↓vk kJ6_bitCount_0f7a4_48, ↓vk kJ6_bitCount_0f7a4_49, ↓vk kJ6_bitCount_0f7a4_51, ↓vk kJ6_bitCount_0f7a4_52, ↓x_ii, ↓x_iload, ↓x_iret, ↓x_istore, ↓x_push, ↓reduceIte, List.getElem?_cons_zero, List.getElem?_cons_succ, List.getD_cons_zero, List.getD_cons_succ, List.getD_nil, List.set_cons_zero, List.set_cons_succ, lset, lset2, isL, noD, cond_true, cond_false, if_true, if_false, Bool.false_eq_true, true_and, and_true, Nat.reduceAdd, Nat.reduceBEq, Nat.reduceSub, Nat.reduceEqDiff, Nat.reduceLT, Nat.reduceLeDiff, Bool.or_false, Bool.false_or, Bool.or_true, Bool.true_or, List.append_nil, List.nil_append, List.cons_append, Option.toList_some, Option.toList_none, lo0, List.replicate, List.length_cons, List.length_nil, muI, muL, callK, catS, List.map_cons, List.map_nil, List.sum_cons, List.sum_nil, vrf, swK, ofN, Value.category, reduceCtorEq, rf_0_0, rf_0_1, rf_0_2, rf_0_3, rf_0_4, rf_0_5, rf_0_6, rf_0_7, rf_0_8, rf_0_9, rf_1_0, rf_3_2, rf_3_3, rf_3_4, rf_7_1, rf_9_0, rf_9_1, rf_60_0, rf_60_1, rf_60_3, rf_60_4, rf_60_5, rf_60_7, rf_60_8, rf_60_11, rf_69_0, rf_69_2, rf_69_3, rf_69_4, rf_69_5, rf_69_6, rf_344_0, rf_344_1, rf_344_2, rf_344_3, rf_450_2, rf_450_3, rf_450_4, rf_454_0, rf_454_1, rf_454_3, rf_454_4, rf_454_5, rf_454_7, rf_454_8, rf_454_11, sh_0, sh_1, sh_2, sh_3, sh_4, sh_5, sh_6, sh_7, sh_8, sh_9, sh_10, sh_11, sh_60, sh_61, sh_62, sh_63, sh_64, sh_65, sh_66, sh_67, sh_68, sh_69, sh_70, sh_71, sh_72, sh_73, sh_74, sh_75, sh_344, sh_345, sh_346, sh_347, sh_348, sh_449, sh_450, sh_451, sh_452, sh_453, sh_454, sh_455, sh_456, sh_457, sh_458, sh_459, sh_460, sh_461, sh_462, al_2, al_4, al_5, al_6, al_10, al_11, al_62, al_63, al_64, al_65, al_66, al_67, al_70, al_71, al_72, al_73, al_345, al_346, al_347, al_451, al_452, al_453, al_456, al_457, al_458, al_459, al_460, al_461]); (try simp (discharger := omega) only [↓ni_bI1, ↓ni_bI1o, ↓ni_bI0, ↓ni_bI0n, ↓ni_bIe, ni_bIb, Nat.reduceEqDiff, Nat.reduceLT, Nat.reduceLeDiff, Nat.reduceAdd, Nat.reduceMul, not_true_eq_false, not_false_eq_true, true_implies, false_implies, and_true, true_and, lg_cmp_eq, nI_add, pk_mul, nI_clamp, ni_le, ni_lt, ni_eq, ni_lt0, ni_0le, ni_eq0, ni_0lt, ni_le0, ni_in, ni_m9, ni_9m, up2_ne, up2_eq, up2_kn, vnar0, vnar1, Nat.add_zero, Nat.zero_add, Nat.mul_zero])
  show Q (some (.int (p32 v))) _
  rw [e]
  exact hQ
set_option maxRecDepth 100000 in
set_option maxHeartbeats 4000000 in
theorem ct_b_size (ha : shp a = 1) (ha2 : a < 480) (hQ : Q (some (.int (nI (cB (BV L a))))) (mk I L)) : CT l X mX1_size 0 [.ref a] (mk I L) Q := by
  refine ct_intro okX1_size (by decide +kernel) (Or.inr (Or.inl rfl)) (Nat.le_of_ble_eq_true rfl) fun A C W => ?_
  show A 0 [some (.ref a)] [] _
  have c0 : (a < 480) = True := eq_true ha2
  apply C.vc (fun pc => pc == 7 || pc == 14) 80; (simp only [↓vk kX1_size_0, ↓vk kX1_size_1, ↓vk kX1_size_4, ↓vk kX1_size_7, ↓vk kX1_size_8, ↓vk kX1_size_11, ↓vk kX1_size_14, ↓vk kX1_size_15, ↓x_aload, ↓x_callS1, ↓x_getL, ↓x_ii, ↓x_iret, ↓reduceIte, List.getElem?_cons_zero, List.getElem?_cons_succ, List.getD_cons_zero, List.getD_cons_succ, List.getD_nil, List.set_cons_zero, List.set_cons_succ, lset, lset2, isL, noD, cond_true, cond_false, if_true, if_false, Bool.false_eq_true, true_and, and_true, Nat.reduceAdd, Nat.reduceBEq, Nat.reduceSub, Nat.reduceEqDiff, Nat.reduceLT, Nat.reduceLeDiff, Bool.or_false, Bool.false_or, Bool.or_true, Bool.true_or, List.append_nil, List.nil_append, List.cons_append, Option.toList_some, Option.toList_none, lo0, List.replicate, List.length_cons, List.length_nil, muI, muL, callK, catS, List.map_cons, List.map_nil, List.sum_cons, List.sum_nil, vrf, swK, ofN, Value.category, reduceCtorEq, rf_0_0, rf_0_1, rf_0_2, rf_0_3, rf_0_4, rf_0_5, rf_0_6, rf_0_7, rf_0_8, rf_0_9, rf_1_0, rf_3_2, rf_3_3, rf_3_4, rf_7_1, rf_9_0, rf_9_1, rf_60_0, rf_60_1, rf_60_3, rf_60_4, rf_60_5, rf_60_7, rf_60_8, rf_60_11, rf_69_0, rf_69_2, rf_69_3, rf_69_4, rf_69_5, rf_69_6, rf_344_0, rf_344_1, rf_344_2, rf_344_3, rf_450_2, rf_450_3, rf_450_4, rf_454_0, rf_454_1, rf_454_3, rf_454_4, rf_454_5, rf_454_7, rf_454_8, rf_454_11, sh_0, sh_1, sh_2, sh_3, sh_4, sh_5, sh_6, sh_7, sh_8, sh_9, sh_10, sh_11, sh_60, sh_61, sh_62, sh_63, sh_64, sh_65, sh_66, sh_67, sh_68, sh_69, sh_70, sh_71, sh_72, sh_73, sh_74, sh_75, sh_344, sh_345, sh_346, sh_347, sh_348, sh_449, sh_450, sh_451, sh_452, sh_453, sh_454, sh_455, sh_456, sh_457, sh_458, sh_459, sh_460, sh_461, sh_462, al_2, al_4, al_5, al_6, al_10, al_11, al_62, al_63, al_64, al_65, al_66, al_67, al_70, al_71, al_72, al_73, al_345, al_346, al_347, al_451, al_452, al_453, al_456, al_457, al_458, al_459, al_460, al_461]); (try simp (discharger := omega) only [↓ni_bI1, ↓ni_bI1o, ↓ni_bI0, ↓ni_bI0n, ↓ni_bIe, ni_bIb, Nat.reduceEqDiff, Nat.reduceLT, Nat.reduceLeDiff, Nat.reduceAdd, Nat.reduceMul, not_true_eq_false, not_false_eq_true, true_implies, false_implies, and_true, true_and, lg_cmp_eq, nI_add, pk_mul, nI_clamp, ni_le, ni_lt, ni_eq, ni_lt0, ni_0le, ni_eq0, ni_0lt, ni_le0, ni_in, ni_m9, ni_9m, up2_ne, up2_eq, up2_kn, vnar0, vnar1, Nat.add_zero, Nat.zero_add, Nat.mul_zero, ha, c0])
  refine ct_bits64 ?_
  apply C.vc (fun pc => pc == 7 || pc == 14) 80; (simp only [↓vk kX1_size_0, ↓vk kX1_size_1, ↓vk kX1_size_4, ↓vk kX1_size_7, ↓vk kX1_size_8, ↓vk kX1_size_11, ↓vk kX1_size_14, ↓vk kX1_size_15, ↓x_aload, ↓x_callS1, ↓x_getL, ↓x_ii, ↓x_iret, ↓reduceIte, List.getElem?_cons_zero, List.getElem?_cons_succ, List.getD_cons_zero, List.getD_cons_succ, List.getD_nil, List.set_cons_zero, List.set_cons_succ, lset, lset2, isL, noD, cond_true, cond_false, if_true, if_false, Bool.false_eq_true, true_and, and_true, Nat.reduceAdd, Nat.reduceBEq, Nat.reduceSub, Nat.reduceEqDiff, Nat.reduceLT, Nat.reduceLeDiff, Bool.or_false, Bool.false_or, Bool.or_true, Bool.true_or, List.append_nil, List.nil_append, List.cons_append, Option.toList_some, Option.toList_none, lo0, List.replicate, List.length_cons, List.length_nil, muI, muL, callK, catS, List.map_cons, List.map_nil, List.sum_cons, List.sum_nil, vrf, swK, ofN, Value.category, reduceCtorEq, rf_0_0, rf_0_1, rf_0_2, rf_0_3, rf_0_4, rf_0_5, rf_0_6, rf_0_7, rf_0_8, rf_0_9, rf_1_0, rf_3_2, rf_3_3, rf_3_4, rf_7_1, rf_9_0, rf_9_1, rf_60_0, rf_60_1, rf_60_3, rf_60_4, rf_60_5, rf_60_7, rf_60_8, rf_60_11, rf_69_0, rf_69_2, rf_69_3, rf_69_4, rf_69_5, rf_69_6, rf_344_0, rf_344_1, rf_344_2, rf_344_3, rf_450_2, rf_450_3, rf_450_4, rf_454_0, rf_454_1, rf_454_3, rf_454_4, rf_454_5, rf_454_7, rf_454_8, rf_454_11, sh_0, sh_1, sh_2, sh_3, sh_4, sh_5, sh_6, sh_7, sh_8, sh_9, sh_10, sh_11, sh_60, sh_61, sh_62, sh_63, sh_64, sh_65, sh_66, sh_67, sh_68, sh_69, sh_70, sh_71, sh_72, sh_73, sh_74, sh_75, sh_344, sh_345, sh_346, sh_347, sh_348, sh_449, sh_450, sh_451, sh_452, sh_453, sh_454, sh_455, sh_456, sh_457, sh_458, sh_459, sh_460, sh_461, sh_462, al_2, al_4, al_5, al_6, al_10, al_11, al_62, al_63, al_64, al_65, al_66, al_67, al_70, al_71, al_72, al_73, al_345, al_346, al_347, al_451, al_452, al_453, al_456, al_457, al_458, al_459, al_460, al_461]); (try simp (discharger := omega) only [↓ni_bI1, ↓ni_bI1o, ↓ni_bI0, ↓ni_bI0n, ↓ni_bIe, ni_bIb, Nat.reduceEqDiff, Nat.reduceLT, Nat.reduceLeDiff, Nat.reduceAdd, Nat.reduceMul, not_true_eq_false, not_false_eq_true, true_implies, false_implies, and_true, true_and, lg_cmp_eq, nI_add, pk_mul, nI_clamp, ni_le, ni_lt, ni_eq, ni_lt0, ni_0le, ni_eq0, ni_0lt, ni_le0, ni_in, ni_m9, ni_9m, up2_ne, up2_eq, up2_kn, vnar0, vnar1, Nat.add_zero, Nat.zero_add, Nat.mul_zero, ha, c0])
  refine ct_bits64 ?_
  apply C.vc (fun pc => pc == 7 || pc == 14) 80; (simp only [↓vk kX1_size_0, ↓vk kX1_size_1, ↓vk kX1_size_4, ↓vk kX1_size_7, ↓vk kX1_size_8, ↓vk kX1_size_11, ↓vk kX1_size_14, ↓vk kX1_size_15, ↓x_aload, ↓x_callS1, ↓x_getL, ↓x_ii, ↓x_iret, ↓reduceIte, List.getElem?_cons_zero, List.getElem?_cons_succ, List.getD_cons_zero, List.getD_cons_succ, List.getD_nil, List.set_cons_zero, List.set_cons_succ, lset, lset2, isL, noD, cond_true, cond_false, if_true, if_false, Bool.false_eq_true, true_and, and_true, Nat.reduceAdd, Nat.reduceBEq, Nat.reduceSub, Nat.reduceEqDiff, Nat.reduceLT, Nat.reduceLeDiff, Bool.or_false, Bool.false_or, Bool.or_true, Bool.true_or, List.append_nil, List.nil_append, List.cons_append, Option.toList_some, Option.toList_none, lo0, List.replicate, List.length_cons, List.length_nil, muI, muL, callK, catS, List.map_cons, List.map_nil, List.sum_cons, List.sum_nil, vrf, swK, ofN, Value.category, reduceCtorEq, rf_0_0, rf_0_1, rf_0_2, rf_0_3, rf_0_4, rf_0_5, rf_0_6, rf_0_7, rf_0_8, rf_0_9, rf_1_0, rf_3_2, rf_3_3, rf_3_4, rf_7_1, rf_9_0, rf_9_1, rf_60_0, rf_60_1, rf_60_3, rf_60_4, rf_60_5, rf_60_7, rf_60_8, rf_60_11, rf_69_0, rf_69_2, rf_69_3, rf_69_4, rf_69_5, rf_69_6, rf_344_0, rf_344_1, rf_344_2, rf_344_3, rf_450_2, rf_450_3, rf_450_4, rf_454_0, rf_454_1, rf_454_3, rf_454_4, rf_454_5, rf_454_7, rf_454_8, rf_454_11, sh_0, sh_1, sh_2, sh_3, sh_4, sh_5, sh_6, sh_7, sh_8, sh_9, sh_10, sh_11, sh_60, sh_61, sh_62, sh_63, sh_64, sh_65, sh_66, sh_67, sh_68, sh_69, sh_70, sh_71, sh_72, sh_73, sh_74, sh_75, sh_344, sh_345, sh_346, sh_347, sh_348, sh_449, sh_450, sh_451, sh_452, sh_453, sh_454, sh_455, sh_456, sh_457, sh_458, sh_459, sh_460, sh_461, sh_462, al_2, al_4, al_5, al_6, al_10, al_11, al_62, al_63, al_64, al_65, al_66, al_67, al_70, al_71, al_72, al_73, al_345, al_346, al_347, al_451, al_452, al_453, al_456, al_457, al_458, al_459, al_460, al_461]); (try simp (discharger := omega) only [↓ni_bI1, ↓ni_bI1o, ↓ni_bI0, ↓ni_bI0n, ↓ni_bIe, ni_bIb, Nat.reduceEqDiff, Nat.reduceLT, Nat.reduceLeDiff, Nat.reduceAdd, Nat.reduceMul, not_true_eq_false, not_false_eq_true, true_implies, false_implies, and_true, true_and, lg_cmp_eq, nI_add, pk_mul, nI_clamp, ni_le, ni_lt, ni_eq, ni_lt0, ni_0le, ni_eq0, ni_0lt, ni_le0, ni_in, ni_m9, ni_9m, up2_ne, up2_eq, up2_kn, vnar0, vnar1, Nat.add_zero, Nat.zero_add, Nat.mul_zero])
  exact hQ
set_option maxRecDepth 100000 in
set_option maxHeartbeats 4000000 in
theorem ct_b_sizeShared (ha : shp a = 1) (ha2 : a < 480) (hb : shp b = 1) (hb2 : b < 480) (hQ : Q (some (.int (nI (cB (L a 0 &&& L b 0, L a 1 &&& L b 1))))) (mk I L)) : CT l X mX1_sizeShared 0 [.ref a, .ref b] (mk I L) Q := by
  refine ct_intro okX1_sizeShared (by decide +kernel) (Or.inr (Or.inl rfl)) (Nat.le_of_ble_eq_true rfl) fun A C W => ?_
  show A 0 [some (.ref a), some (.ref b)] [] _
  have c0 : (a < 480) = True := eq_true ha2
  have c1 : (b < 480) = True := eq_true hb2
  apply C.vc (fun pc => pc == 12 || pc == 24) 80; (simp only [↓vk kX1_sizeShared_0, ↓vk kX1_sizeShared_1, ↓vk kX1_sizeShared_4, ↓vk kX1_sizeShared_5, ↓vk kX1_sizeShared_8, ↓vk kX1_sizeShared_9, ↓vk kX1_sizeShared_12, ↓vk kX1_sizeShared_13, ↓vk kX1_sizeShared_16, ↓vk kX1_sizeShared_17, ↓vk kX1_sizeShared_20, ↓vk kX1_sizeShared_21, ↓vk kX1_sizeShared_24, ↓vk kX1_sizeShared_25, ↓x_aload, ↓x_callS1, ↓x_getL, ↓x_ii, ↓x_iret, ↓x_ll, ↓reduceIte, List.getElem?_cons_zero, List.getElem?_cons_succ, List.getD_cons_zero, List.getD_cons_succ, List.getD_nil, List.set_cons_zero, List.set_cons_succ, lset, lset2, isL, noD, cond_true, cond_false, if_true, if_false, Bool.false_eq_true, true_and, and_true, Nat.reduceAdd, Nat.reduceBEq, Nat.reduceSub, Nat.reduceEqDiff, Nat.reduceLT, Nat.reduceLeDiff, Bool.or_false, Bool.false_or, Bool.or_true, Bool.true_or, List.append_nil, List.nil_append, List.cons_append, Option.toList_some, Option.toList_none, lo0, List.replicate, List.length_cons, List.length_nil, muI, muL, callK, catS, List.map_cons, List.map_nil, List.sum_cons, List.sum_nil, vrf, swK, ofN, Value.category, reduceCtorEq, rf_0_0, rf_0_1, rf_0_2, rf_0_3, rf_0_4, rf_0_5, rf_0_6, rf_0_7, rf_0_8, rf_0_9, rf_1_0, rf_3_2, rf_3_3, rf_3_4, rf_7_1, rf_9_0, rf_9_1, rf_60_0, rf_60_1, rf_60_3, rf_60_4, rf_60_5, rf_60_7, rf_60_8, rf_60_11, rf_69_0, rf_69_2, rf_69_3, rf_69_4, rf_69_5, rf_69_6, rf_344_0, rf_344_1, rf_344_2, rf_344_3, rf_450_2, rf_450_3, rf_450_4, rf_454_0, rf_454_1, rf_454_3, rf_454_4, rf_454_5, rf_454_7, rf_454_8, rf_454_11, sh_0, sh_1, sh_2, sh_3, sh_4, sh_5, sh_6, sh_7, sh_8, sh_9, sh_10, sh_11, sh_60, sh_61, sh_62, sh_63, sh_64, sh_65, sh_66, sh_67, sh_68, sh_69, sh_70, sh_71, sh_72, sh_73, sh_74, sh_75, sh_344, sh_345, sh_346, sh_347, sh_348, sh_449, sh_450, sh_451, sh_452, sh_453, sh_454, sh_455, sh_456, sh_457, sh_458, sh_459, sh_460, sh_461, sh_462, al_2, al_4, al_5, al_6, al_10, al_11, al_62, al_63, al_64, al_65, al_66, al_67, al_70, al_71, al_72, al_73, al_345, al_346, al_347, al_451, al_452, al_453, al_456, al_457, al_458, al_459, al_460, al_461]); (try simp (discharger := omega) only [↓ni_bI1, ↓ni_bI1o, ↓ni_bI0, ↓ni_bI0n, ↓ni_bIe, ni_bIb, Nat.reduceEqDiff, Nat.reduceLT, Nat.reduceLeDiff, Nat.reduceAdd, Nat.reduceMul, not_true_eq_false, not_false_eq_true, true_implies, false_implies, and_true, true_and, lg_cmp_eq, nI_add, pk_mul, nI_clamp, ni_le, ni_lt, ni_eq, ni_lt0, ni_0le, ni_eq0, ni_0lt, ni_le0, ni_in, ni_m9, ni_9m, up2_ne, up2_eq, up2_kn, vnar0, vnar1, Nat.add_zero, Nat.zero_add, Nat.mul_zero, ha, hb, c0, c1])
  refine ct_bits64 ?_
  apply C.vc (fun pc => pc == 12 || pc == 24) 80; (simp only [↓vk kX1_sizeShared_0, ↓vk kX1_sizeShared_1, ↓vk kX1_sizeShared_4, ↓vk kX1_sizeShared_5, ↓vk kX1_sizeShared_8, ↓vk kX1_sizeShared_9, ↓vk kX1_sizeShared_12, ↓vk kX1_sizeShared_13, ↓vk kX1_sizeShared_16, ↓vk kX1_sizeShared_17, ↓vk kX1_sizeShared_20, ↓vk kX1_sizeShared_21, ↓vk kX1_sizeShared_24, ↓vk kX1_sizeShared_25, ↓x_aload, ↓x_callS1, ↓x_getL, ↓x_ii, ↓x_iret, ↓x_ll, ↓reduceIte, List.getElem?_cons_zero, List.getElem?_cons_succ, List.getD_cons_zero, List.getD_cons_succ, List.getD_nil, List.set_cons_zero, List.set_cons_succ, lset, lset2, isL, noD, cond_true, cond_false, if_true, if_false, Bool.false_eq_true, true_and, and_true, Nat.reduceAdd, Nat.reduceBEq, Nat.reduceSub, Nat.reduceEqDiff, Nat.reduceLT, Nat.reduceLeDiff, Bool.or_false, Bool.false_or, Bool.or_true, Bool.true_or, List.append_nil, List.nil_append, List.cons_append, Option.toList_some, Option.toList_none, lo0, List.replicate, List.length_cons, List.length_nil, muI, muL, callK, catS, List.map_cons, List.map_nil, List.sum_cons, List.sum_nil, vrf, swK, ofN, Value.category, reduceCtorEq, rf_0_0, rf_0_1, rf_0_2, rf_0_3, rf_0_4, rf_0_5, rf_0_6, rf_0_7, rf_0_8, rf_0_9, rf_1_0, rf_3_2, rf_3_3, rf_3_4, rf_7_1, rf_9_0, rf_9_1, rf_60_0, rf_60_1, rf_60_3, rf_60_4, rf_60_5, rf_60_7, rf_60_8, rf_60_11, rf_69_0, rf_69_2, rf_69_3, rf_69_4, rf_69_5, rf_69_6, rf_344_0, rf_344_1, rf_344_2, rf_344_3, rf_450_2, rf_450_3, rf_450_4, rf_454_0, rf_454_1, rf_454_3, rf_454_4, rf_454_5, rf_454_7, rf_454_8, rf_454_11, sh_0, sh_1, sh_2, sh_3, sh_4, sh_5, sh_6, sh_7, sh_8, sh_9, sh_10, sh_11, sh_60, sh_61, sh_62, sh_63, sh_64, sh_65, sh_66, sh_67, sh_68, sh_69, sh_70, sh_71, sh_72, sh_73, sh_74, sh_75, sh_344, sh_345, sh_346, sh_347, sh_348, sh_449, sh_450, sh_451, sh_452, sh_453, sh_454, sh_455, sh_456, sh_457, sh_458, sh_459, sh_460, sh_461, sh_462, al_2, al_4, al_5, al_6, al_10, al_11, al_62, al_63, al_64, al_65, al_66, al_67, al_70, al_71, al_72, al_73, al_345, al_346, al_347, al_451, al_452, al_453, al_456, al_457, al_458, al_459, al_460, al_461]); (try simp (discharger := omega) only [↓ni_bI1, ↓ni_bI1o, ↓ni_bI0, ↓ni_bI0n, ↓ni_bIe, ni_bIb, Nat.reduceEqDiff, Nat.reduceLT, Nat.reduceLeDiff, Nat.reduceAdd, Nat.reduceMul, not_true_eq_false, not_false_eq_true, true_implies, false_implies, and_true, true_and, lg_cmp_eq, nI_add, pk_mul, nI_clamp, ni_le, ni_lt, ni_eq, ni_lt0, ni_0le, ni_eq0, ni_0lt, ni_le0, ni_in, ni_m9, ni_9m, up2_ne, up2_eq, up2_kn, vnar0, vnar1, Nat.add_zero, Nat.zero_add, Nat.mul_zero, ha, hb, c0, c1])
  refine ct_bits64 ?_
  apply C.vc (fun pc => pc == 12 || pc == 24) 80; (simp only [↓vk kX1_sizeShared_0, ↓vk kX1_sizeShared_1, ↓vk kX1_sizeShared_4, ↓vk kX1_sizeShared_5, ↓vk kX1_sizeShared_8, ↓vk kX1_sizeShared_9, ↓vk kX1_sizeShared_12, ↓vk kX1_sizeShared_13, ↓vk kX1_sizeShared_16, ↓vk kX1_sizeShared_17, ↓vk kX1_sizeShared_20, ↓vk kX1_sizeShared_21, ↓vk kX1_sizeShared_24, ↓vk kX1_sizeShared_25, ↓x_aload, ↓x_callS1, ↓x_getL, ↓x_ii, ↓x_iret, ↓x_ll, ↓reduceIte, List.getElem?_cons_zero, List.getElem?_cons_succ, List.getD_cons_zero, List.getD_cons_succ, List.getD_nil, List.set_cons_zero, List.set_cons_succ, lset, lset2, isL, noD, cond_true, cond_false, if_true, if_false, Bool.false_eq_true, true_and, and_true, Nat.reduceAdd, Nat.reduceBEq, Nat.reduceSub, Nat.reduceEqDiff, Nat.reduceLT, Nat.reduceLeDiff, Bool.or_false, Bool.false_or, Bool.or_true, Bool.true_or, List.append_nil, List.nil_append, List.cons_append, Option.toList_some, Option.toList_none, lo0, List.replicate, List.length_cons, List.length_nil, muI, muL, callK, catS, List.map_cons, List.map_nil, List.sum_cons, List.sum_nil, vrf, swK, ofN, Value.category, reduceCtorEq, rf_0_0, rf_0_1, rf_0_2, rf_0_3, rf_0_4, rf_0_5, rf_0_6, rf_0_7, rf_0_8, rf_0_9, rf_1_0, rf_3_2, rf_3_3, rf_3_4, rf_7_1, rf_9_0, rf_9_1, rf_60_0, rf_60_1, rf_60_3, rf_60_4, rf_60_5, rf_60_7, rf_60_8, rf_60_11, rf_69_0, rf_69_2, rf_69_3, rf_69_4, rf_69_5, rf_69_6, rf_344_0, rf_344_1, rf_344_2, rf_344_3, rf_450_2, rf_450_3, rf_450_4, rf_454_0, rf_454_1, rf_454_3, rf_454_4, rf_454_5, rf_454_7, rf_454_8, rf_454_11, sh_0, sh_1, sh_2, sh_3, sh_4, sh_5, sh_6, sh_7, sh_8, sh_9, sh_10, sh_11, sh_60, sh_61, sh_62, sh_63, sh_64, sh_65, sh_66, sh_67, sh_68, sh_69, sh_70, sh_71, sh_72, sh_73, sh_74, sh_75, sh_344, sh_345, sh_346, sh_347, sh_348, sh_449, sh_450, sh_451, sh_452, sh_453, sh_454, sh_455, sh_456, sh_457, sh_458, sh_459, sh_460, sh_461, sh_462, al_2, al_4, al_5, al_6, al_10, al_11, al_62, al_63, al_64, al_65, al_66, al_67, al_70, al_71, al_72, al_73, al_345, al_346, al_347, al_451, al_452, al_453, al_456, al_457, al_458, al_459, al_460, al_461]); (try simp (discharger := omega) only [↓ni_bI1, ↓ni_bI1o, ↓ni_bI0, ↓ni_bI0n, ↓ni_bIe, ni_bIb, Nat.reduceEqDiff, Nat.reduceLT, Nat.reduceLeDiff, Nat.reduceAdd, Nat.reduceMul, not_true_eq_false, not_false_eq_true, true_implies, false_implies, and_true, true_and, lg_cmp_eq, nI_add, pk_mul, nI_clamp, ni_le, ni_lt, ni_eq, ni_lt0, ni_0le, ni_eq0, ni_0lt, ni_le0, ni_in, ni_m9, ni_9m, up2_ne, up2_eq, up2_kn, vnar0, vnar1, Nat.add_zero, Nat.zero_add, Nat.mul_zero])
  exact hQ
set_option maxRecDepth 100000 in
set_option maxHeartbeats 4000000 in
theorem ct_g_reach (hs : GS g) (hg : GC I g n al) (ho : AOK al) (hQ : Q (some (.int (nI (rN al 10)))) (mk I L)) : CT l X mX3_reachableStates 0 [.ref g] (mk I L) Q := by
  refine ct_intro okX3_reachableStates (by decide +kernel) (Or.inr (Or.inl rfl)) (Nat.le_of_ble_eq_true rfl) fun A C W => ?_
  show A 0 [some (.ref g), none, none, none] [] _
  obtain ⟨s0, s1, s2, s3, s4, s5, s6, s7, s8, s9, s10⟩ := hs
  have b0 : (g < 480) = True := eq_true (by omega)
  have b1 : (g + 1 < 480) = True := eq_true (by omega)
  have b2 : (g + 2 < 480) = True := eq_true (by omega)
  have b3 : (g + 3 < 480) = True := eq_true (by omega)
  obtain ⟨g0, g1, g2⟩ := hg
  have hl := ho.1
  have loop : ∀ k, k ≤ 10 → A 4 [some (.ref g), some (.int (nI (rN al k))), some (.int (nI k)), none] [] (mk I L) := by
    refine down fun k hk ih => ?_
    apply C.vc (fun pc => pc == 4 || pc == 12) 80; (simp only [↓vk kX3_reachableStates_0, ↓vk kX3_reachableStates_1, ↓vk kX3_reachableStates_2, ↓vk kX3_reachableStates_3, ↓vk kX3_reachableStates_4, ↓vk kX3_reachableStates_5, ↓vk kX3_reachableStates_7, ↓vk kX3_reachableStates_10, ↓vk kX3_reachableStates_11, ↓vk kX3_reachableStates_12, ↓vk kX3_reachableStates_13, ↓vk kX3_reachableStates_14, ↓vk kX3_reachableStates_17, ↓vk kX3_reachableStates_20, ↓vk kX3_reachableStates_21, ↓vk kX3_reachableStates_22, ↓vk kX3_reachableStates_25, ↓vk kX3_reachableStates_26, ↓vk kX3_reachableStates_27, ↓vk kX3_reachableStates_28, ↓vk kX3_reachableStates_29, ↓vk kX3_reachableStates_30, ↓vk kX3_reachableStates_33, ↓vk kX3_reachableStates_34, ↓vk kX3_reachableStates_35, ↓vk kX3_reachableStates_36, ↓vk kX3_reachableStates_39, ↓vk kX3_reachableStates_40, ↓vk kX3_reachableStates_41, ↓vk kX3_reachableStates_42, ↓vk kX3_reachableStates_43, ↓vk kX3_reachableStates_44, ↓vk kX3_reachableStates_47, ↓vk kX3_reachableStates_50, ↓vk kX3_reachableStates_53, ↓vk kX3_reachableStates_56, ↓vk kX3_reachableStates_57, ↓x_aload, ↓x_getI, ↓x_getR, ↓x_goto, ↓x_iald, ↓x_icmp, ↓x_if, ↓x_ii, ↓x_iinc, ↓x_iload, ↓x_iret, ↓x_istore, ↓x_push, ↓reduceIte, List.getElem?_cons_zero, List.getElem?_cons_succ, List.getD_cons_zero, List.getD_cons_succ, List.getD_nil, List.set_cons_zero, List.set_cons_succ, lset, lset2, isL, noD, cond_true, cond_false, if_true, if_false, Bool.false_eq_true, true_and, and_true, Nat.reduceAdd, Nat.reduceBEq, Nat.reduceSub, Nat.reduceEqDiff, Nat.reduceLT, Nat.reduceLeDiff, Bool.or_false, Bool.false_or, Bool.or_true, Bool.true_or, List.append_nil, List.nil_append, List.cons_append, Option.toList_some, Option.toList_none, lo0, List.replicate, List.length_cons, List.length_nil, muI, muL, callK, catS, List.map_cons, List.map_nil, List.sum_cons, List.sum_nil, vrf, swK, ofN, Value.category, reduceCtorEq, rf_0_0, rf_0_1, rf_0_2, rf_0_3, rf_0_4, rf_0_5, rf_0_6, rf_0_7, rf_0_8, rf_0_9, rf_1_0, rf_3_2, rf_3_3, rf_3_4, rf_7_1, rf_9_0, rf_9_1, rf_60_0, rf_60_1, rf_60_3, rf_60_4, rf_60_5, rf_60_7, rf_60_8, rf_60_11, rf_69_0, rf_69_2, rf_69_3, rf_69_4, rf_69_5, rf_69_6, rf_344_0, rf_344_1, rf_344_2, rf_344_3, rf_450_2, rf_450_3, rf_450_4, rf_454_0, rf_454_1, rf_454_3, rf_454_4, rf_454_5, rf_454_7, rf_454_8, rf_454_11, sh_0, sh_1, sh_2, sh_3, sh_4, sh_5, sh_6, sh_7, sh_8, sh_9, sh_10, sh_11, sh_60, sh_61, sh_62, sh_63, sh_64, sh_65, sh_66, sh_67, sh_68, sh_69, sh_70, sh_71, sh_72, sh_73, sh_74, sh_75, sh_344, sh_345, sh_346, sh_347, sh_348, sh_449, sh_450, sh_451, sh_452, sh_453, sh_454, sh_455, sh_456, sh_457, sh_458, sh_459, sh_460, sh_461, sh_462, al_2, al_4, al_5, al_6, al_10, al_11, al_62, al_63, al_64, al_65, al_66, al_67, al_70, al_71, al_72, al_73, al_345, al_346, al_347, al_451, al_452, al_453, al_456, al_457, al_458, al_459, al_460, al_461]); (try simp (discharger := omega) only [↓ni_bI1, ↓ni_bI1o, ↓ni_bI0, ↓ni_bI0n, ↓ni_bIe, ni_bIb, Nat.reduceEqDiff, Nat.reduceLT, Nat.reduceLeDiff, Nat.reduceAdd, Nat.reduceMul, not_true_eq_false, not_false_eq_true, true_implies, false_implies, and_true, true_and, lg_cmp_eq, nI_add, pk_mul, nI_clamp, ni_le, ni_lt, ni_eq, ni_lt0, ni_0le, ni_eq0, ni_0lt, ni_le0, ni_in, ni_m9, ni_9m, up2_ne, up2_eq, up2_kn, vnar0, vnar1, Nat.add_zero, Nat.zero_add, Nat.mul_zero])
    refine ⟨fun h => ?_, fun h => ?_⟩
    · have he : k = 10 := by omega
      subst he
      exact hQ
    · have next := ih (by omega)
      have inner : ∀ j, j ≤ al.length → A 12 [some (.ref g), some (.int (nI (rPass (al.take j) (rN al k)))), some (.int (nI k)), some (.int (nI j))] [] (mk I L) := by
        refine down fun j hj ihj => ?_
        have hr : rPass (al.take j) (rN al k) < 1024 := rPass_lt (fun x hx => (ho.2 x (List.mem_of_mem_take hx)).2.2) (rN_lt ho k)
        apply C.vc (fun pc => pc == 4 || pc == 12 || pc == 44) 80; (simp only [↓vk kX3_reachableStates_0, ↓vk kX3_reachableStates_1, ↓vk kX3_reachableStates_2, ↓vk kX3_reachableStates_3, ↓vk kX3_reachableStates_4, ↓vk kX3_reachableStates_5, ↓vk kX3_reachableStates_7, ↓vk kX3_reachableStates_10, ↓vk kX3_reachableStates_11, ↓vk kX3_reachableStates_12, ↓vk kX3_reachableStates_13, ↓vk kX3_reachableStates_14, ↓vk kX3_reachableStates_17, ↓vk kX3_reachableStates_20, ↓vk kX3_reachableStates_21, ↓vk kX3_reachableStates_22, ↓vk kX3_reachableStates_25, ↓vk kX3_reachableStates_26, ↓vk kX3_reachableStates_27, ↓vk kX3_reachableStates_28, ↓vk kX3_reachableStates_29, ↓vk kX3_reachableStates_30, ↓vk kX3_reachableStates_33, ↓vk kX3_reachableStates_34, ↓vk kX3_reachableStates_35, ↓vk kX3_reachableStates_36, ↓vk kX3_reachableStates_39, ↓vk kX3_reachableStates_40, ↓vk kX3_reachableStates_41, ↓vk kX3_reachableStates_42, ↓vk kX3_reachableStates_43, ↓vk kX3_reachableStates_44, ↓vk kX3_reachableStates_47, ↓vk kX3_reachableStates_50, ↓vk kX3_reachableStates_53, ↓vk kX3_reachableStates_56, ↓vk kX3_reachableStates_57, ↓x_aload, ↓x_getI, ↓x_getR, ↓x_goto, ↓x_iald, ↓x_icmp, ↓x_if, ↓x_ii, ↓x_iinc, ↓x_iload, ↓x_iret, ↓x_istore, ↓x_push, ↓reduceIte, List.getElem?_cons_zero, List.getElem?_cons_succ, List.getD_cons_zero, List.getD_cons_succ, List.getD_nil, List.set_cons_zero, List.set_cons_succ, lset, lset2, isL, noD, cond_true, cond_false, if_true, if_false, Bool.false_eq_true, true_and, and_true, Nat.reduceAdd, Nat.reduceBEq, Nat.reduceSub, Nat.reduceEqDiff, Nat.reduceLT, Nat.reduceLeDiff, Bool.or_false, Bool.false_or, Bool.or_true, Bool.true_or, List.append_nil, List.nil_append, List.cons_append, Option.toList_some, Option.toList_none, lo0, List.replicate, List.length_cons, List.length_nil, muI, muL, callK, catS, List.map_cons, List.map_nil, List.sum_cons, List.sum_nil, vrf, swK, ofN, Value.category, reduceCtorEq, rf_0_0, rf_0_1, rf_0_2, rf_0_3, rf_0_4, rf_0_5, rf_0_6, rf_0_7, rf_0_8, rf_0_9, rf_1_0, rf_3_2, rf_3_3, rf_3_4, rf_7_1, rf_9_0, rf_9_1, rf_60_0, rf_60_1, rf_60_3, rf_60_4, rf_60_5, rf_60_7, rf_60_8, rf_60_11, rf_69_0, rf_69_2, rf_69_3, rf_69_4, rf_69_5, rf_69_6, rf_344_0, rf_344_1, rf_344_2, rf_344_3, rf_450_2, rf_450_3, rf_450_4, rf_454_0, rf_454_1, rf_454_3, rf_454_4, rf_454_5, rf_454_7, rf_454_8, rf_454_11, sh_0, sh_1, sh_2, sh_3, sh_4, sh_5, sh_6, sh_7, sh_8, sh_9, sh_10, sh_11, sh_60, sh_61, sh_62, sh_63, sh_64, sh_65, sh_66, sh_67, sh_68, sh_69, sh_70, sh_71, sh_72, sh_73, sh_74, sh_75, sh_344, sh_345, sh_346, sh_347, sh_348, sh_449, sh_450, sh_451, sh_452, sh_453, sh_454, sh_455, sh_456, sh_457, sh_458, sh_459, sh_460, sh_461, sh_462, al_2, al_4, al_5, al_6, al_10, al_11, al_62, al_63, al_64, al_65, al_66, al_67, al_70, al_71, al_72, al_73, al_345, al_346, al_347, al_451, al_452, al_453, al_456, al_457, al_458, al_459, al_460, al_461]); (try simp (discharger := omega) only [↓ni_bI1, ↓ni_bI1o, ↓ni_bI0, ↓ni_bI0n, ↓ni_bIe, ni_bIb, Nat.reduceEqDiff, Nat.reduceLT, Nat.reduceLeDiff, Nat.reduceAdd, Nat.reduceMul, not_true_eq_false, not_false_eq_true, true_implies, false_implies, and_true, true_and, lg_cmp_eq, nI_add, pk_mul, nI_clamp, ni_le, ni_lt, ni_eq, ni_lt0, ni_0le, ni_eq0, ni_0lt, ni_le0, ni_in, ni_m9, ni_9m, up2_ne, up2_eq, up2_kn, vnar0, vnar1, Nat.add_zero, Nat.zero_add, Nat.mul_zero, s0, s1, s2, s3, s4, s5, s6, s7, s8, s9, b0, b1, b2, b3, g1])
        refine ⟨fun h2 => ?_, fun h2 => ⟨by omega, ?_⟩⟩
        · rw [List.take_of_length_le h2]
          exact W.le next ⟨rfl, rfl, rfl, trivial⟩
        · obtain ⟨q1, q2, q3⟩ := g2 j (by omega)
          obtain ⟨o1, o2, o3⟩ := ho.at (show j < al.length by omega)
          have nx := ihj (by omega)
          rw [rPass_take (by omega)] at nx
          unfold rSt at nx
          generalize rPass (al.take j) (rN al k) = r at *
          have h44 : ∀ v, v = nI (r ||| bI (r.testBit (arc al j).1) * 2 ^ (arc al j).2.2) → A 44 [some (.ref g), some (.int v), some (.int (nI k)), some (.int (nI j))] [] (mk I L) := by
            intro v hv
            rw [← hv] at nx
            apply C.vc (fun pc => pc == 4 || pc == 12) 80; (simp only [↓vk kX3_reachableStates_0, ↓vk kX3_reachableStates_1, ↓vk kX3_reachableStates_2, ↓vk kX3_reachableStates_3, ↓vk kX3_reachableStates_4, ↓vk kX3_reachableStates_5, ↓vk kX3_reachableStates_7, ↓vk kX3_reachableStates_10, ↓vk kX3_reachableStates_11, ↓vk kX3_reachableStates_12, ↓vk kX3_reachableStates_13, ↓vk kX3_reachableStates_14, ↓vk kX3_reachableStates_17, ↓vk kX3_reachableStates_20, ↓vk kX3_reachableStates_21, ↓vk kX3_reachableStates_22, ↓vk kX3_reachableStates_25, ↓vk kX3_reachableStates_26, ↓vk kX3_reachableStates_27, ↓vk kX3_reachableStates_28, ↓vk kX3_reachableStates_29, ↓vk kX3_reachableStates_30, ↓vk kX3_reachableStates_33, ↓vk kX3_reachableStates_34, ↓vk kX3_reachableStates_35, ↓vk kX3_reachableStates_36, ↓vk kX3_reachableStates_39, ↓vk kX3_reachableStates_40, ↓vk kX3_reachableStates_41, ↓vk kX3_reachableStates_42, ↓vk kX3_reachableStates_43, ↓vk kX3_reachableStates_44, ↓vk kX3_reachableStates_47, ↓vk kX3_reachableStates_50, ↓vk kX3_reachableStates_53, ↓vk kX3_reachableStates_56, ↓vk kX3_reachableStates_57, ↓x_aload, ↓x_getI, ↓x_getR, ↓x_goto, ↓x_iald, ↓x_icmp, ↓x_if, ↓x_ii, ↓x_iinc, ↓x_iload, ↓x_iret, ↓x_istore, ↓x_push, ↓reduceIte, List.getElem?_cons_zero, List.getElem?_cons_succ, List.getD_cons_zero, List.getD_cons_succ, List.getD_nil, List.set_cons_zero, List.set_cons_succ, lset, lset2, isL, noD, cond_true, cond_false, if_true, if_false, Bool.false_eq_true, true_and, and_true, Nat.reduceAdd, Nat.reduceBEq, Nat.reduceSub, Nat.reduceEqDiff, Nat.reduceLT, Nat.reduceLeDiff, Bool.or_false, Bool.false_or, Bool.or_true, Bool.true_or, List.append_nil, List.nil_append, List.cons_append, Option.toList_some, Option.toList_none, lo0, List.replicate, List.length_cons, List.length_nil, muI, muL, callK, catS, List.map_cons, List.map_nil, List.sum_cons, List.sum_nil, vrf, swK, ofN, Value.category, reduceCtorEq, rf_0_0, rf_0_1, rf_0_2, rf_0_3, rf_0_4, rf_0_5, rf_0_6, rf_0_7, rf_0_8, rf_0_9, rf_1_0, rf_3_2, rf_3_3, rf_3_4, rf_7_1, rf_9_0, rf_9_1, rf_60_0, rf_60_1, rf_60_3, rf_60_4, rf_60_5, rf_60_7, rf_60_8, rf_60_11, rf_69_0, rf_69_2, rf_69_3, rf_69_4, rf_69_5, rf_69_6, rf_344_0, rf_344_1, rf_344_2, rf_344_3, rf_450_2, rf_450_3, rf_450_4, rf_454_0, rf_454_1, rf_454_3, rf_454_4, rf_454_5, rf_454_7, rf_454_8, rf_454_11, sh_0, sh_1, sh_2, sh_3, sh_4, sh_5, sh_6, sh_7, sh_8, sh_9, sh_10, sh_11, sh_60, sh_61, sh_62, sh_63, sh_64, sh_65, sh_66, sh_67, sh_68, sh_69, sh_70, sh_71, sh_72, sh_73, sh_74, sh_75, sh_344, sh_345, sh_346, sh_347, sh_348, sh_449, sh_450, sh_451, sh_452, sh_453, sh_454, sh_455, sh_456, sh_457, sh_458, sh_459, sh_460, sh_461, sh_462, al_2, al_4, al_5, al_6, al_10, al_11, al_62, al_63, al_64, al_65, al_66, al_67, al_70, al_71, al_72, al_73, al_345, al_346, al_347, al_451, al_452, al_453, al_456, al_457, al_458, al_459, al_460, al_461]); (try simp (discharger := omega) only [↓ni_bI1, ↓ni_bI1o, ↓ni_bI0, ↓ni_bI0n, ↓ni_bIe, ni_bIb, Nat.reduceEqDiff, Nat.reduceLT, Nat.reduceLeDiff, Nat.reduceAdd, Nat.reduceMul, not_true_eq_false, not_false_eq_true, true_implies, false_implies, and_true, true_and, lg_cmp_eq, nI_add, pk_mul, nI_clamp, ni_le, ni_lt, ni_eq, ni_lt0, ni_0le, ni_eq0, ni_0lt, ni_le0, ni_in, ni_m9, ni_9m, up2_ne, up2_eq, up2_kn, vnar0, vnar1, Nat.add_zero, Nat.zero_add, Nat.mul_zero])
            exact nx
          rw [q1, q3, ni_bit (by omega) (by omega)]
          simp (discharger := omega) only [↓ni_bI1, ↓ni_bI1o, ↓ni_bI0, ↓ni_bI0n, ↓ni_bIe, ni_bIb, Nat.reduceEqDiff, Nat.reduceLT, Nat.reduceLeDiff, Nat.reduceAdd, Nat.reduceMul, not_true_eq_false, not_false_eq_true, true_implies, false_implies, and_true, true_and, lg_cmp_eq, nI_add, pk_mul, nI_clamp, ni_le, ni_lt, ni_eq, ni_lt0, ni_0le, ni_eq0, ni_0lt, ni_le0, ni_in, ni_m9, ni_9m, up2_ne, up2_eq, up2_kn, vnar0, vnar1]
          have hp : 2 ^ (arc al j).2.2 ≤ 2 ^ 10 := Nat.pow_le_pow_right (by omega) (by omega)
          refine ⟨fun z => h44 _ ?_, fun z => ⟨by omega, h44 _ ?_⟩⟩
          · rw [z, show bI false * 2 ^ (arc al j).2.2 = 0 from Nat.zero_mul _, Nat.or_zero]
          · have z : r.testBit (arc al j).1 = true := by simpa using z
            rw [z, ni_shl (by omega) (by omega), nx_or]
            rfl
      exact inner 0 (by omega)
  apply C.vc (fun pc => pc == 4 || pc == 12) 80; (simp only [↓vk kX3_reachableStates_0, ↓vk kX3_reachableStates_1, ↓vk kX3_reachableStates_2, ↓vk kX3_reachableStates_3, ↓vk kX3_reachableStates_4, ↓vk kX3_reachableStates_5, ↓vk kX3_reachableStates_7, ↓vk kX3_reachableStates_10, ↓vk kX3_reachableStates_11, ↓vk kX3_reachableStates_12, ↓vk kX3_reachableStates_13, ↓vk kX3_reachableStates_14, ↓vk kX3_reachableStates_17, ↓vk kX3_reachableStates_20, ↓vk kX3_reachableStates_21, ↓vk kX3_reachableStates_22, ↓vk kX3_reachableStates_25, ↓vk kX3_reachableStates_26, ↓vk kX3_reachableStates_27, ↓vk kX3_reachableStates_28, ↓vk kX3_reachableStates_29, ↓vk kX3_reachableStates_30, ↓vk kX3_reachableStates_33, ↓vk kX3_reachableStates_34, ↓vk kX3_reachableStates_35, ↓vk kX3_reachableStates_36, ↓vk kX3_reachableStates_39, ↓vk kX3_reachableStates_40, ↓vk kX3_reachableStates_41, ↓vk kX3_reachableStates_42, ↓vk kX3_reachableStates_43, ↓vk kX3_reachableStates_44, ↓vk kX3_reachableStates_47, ↓vk kX3_reachableStates_50, ↓vk kX3_reachableStates_53, ↓vk kX3_reachableStates_56, ↓vk kX3_reachableStates_57, ↓x_aload, ↓x_getI, ↓x_getR, ↓x_goto, ↓x_iald, ↓x_icmp, ↓x_if, ↓x_ii, ↓x_iinc, ↓x_iload, ↓x_iret, ↓x_istore, ↓x_push, ↓reduceIte, List.getElem?_cons_zero, List.getElem?_cons_succ, List.getD_cons_zero, List.getD_cons_succ, List.getD_nil, List.set_cons_zero, List.set_cons_succ, lset, lset2, isL, noD, cond_true, cond_false, if_true, if_false, Bool.false_eq_true, true_and, and_true, Nat.reduceAdd, Nat.reduceBEq, Nat.reduceSub, Nat.reduceEqDiff, Nat.reduceLT, Nat.reduceLeDiff, Bool.or_false, Bool.false_or, Bool.or_true, Bool.true_or, List.append_nil, List.nil_append, List.cons_append, Option.toList_some, Option.toList_none, lo0, List.replicate, List.length_cons, List.length_nil, muI, muL, callK, catS, List.map_cons, List.map_nil, List.sum_cons, List.sum_nil, vrf, swK, ofN, Value.category, reduceCtorEq, rf_0_0, rf_0_1, rf_0_2, rf_0_3, rf_0_4, rf_0_5, rf_0_6, rf_0_7, rf_0_8, rf_0_9, rf_1_0, rf_3_2, rf_3_3, rf_3_4, rf_7_1, rf_9_0, rf_9_1, rf_60_0, rf_60_1, rf_60_3, rf_60_4, rf_60_5, rf_60_7, rf_60_8, rf_60_11, rf_69_0, rf_69_2, rf_69_3, rf_69_4, rf_69_5, rf_69_6, rf_344_0, rf_344_1, rf_344_2, rf_344_3, rf_450_2, rf_450_3, rf_450_4, rf_454_0, rf_454_1, rf_454_3, rf_454_4, rf_454_5, rf_454_7, rf_454_8, rf_454_11, sh_0, sh_1, sh_2, sh_3, sh_4, sh_5, sh_6, sh_7, sh_8, sh_9, sh_10, sh_11, sh_60, sh_61, sh_62, sh_63, sh_64, sh_65, sh_66, sh_67, sh_68, sh_69, sh_70, sh_71, sh_72, sh_73, sh_74, sh_75, sh_344, sh_345, sh_346, sh_347, sh_348, sh_449, sh_450, sh_451, sh_452, sh_453, sh_454, sh_455, sh_456, sh_457, sh_458, sh_459, sh_460, sh_461, sh_462, al_2, al_4, al_5, al_6, al_10, al_11, al_62, al_63, al_64, al_65, al_66, al_67, al_70, al_71, al_72, al_73, al_345, al_346, al_347, al_451, al_452, al_453, al_456, al_457, al_458, al_459, al_460, al_461]); (try simp (discharger := omega) only [↓ni_bI1, ↓ni_bI1o, ↓ni_bI0, ↓ni_bI0n, ↓ni_bIe, ni_bIb, Nat.reduceEqDiff, Nat.reduceLT, Nat.reduceLeDiff, Nat.reduceAdd, Nat.reduceMul, not_true_eq_false, not_false_eq_true, true_implies, false_implies, and_true, true_and, lg_cmp_eq, nI_add, pk_mul, nI_clamp, ni_le, ni_lt, ni_eq, ni_lt0, ni_0le, ni_eq0, ni_0lt, ni_le0, ni_in, ni_m9, ni_9m, up2_ne, up2_eq, up2_kn, vnar0, vnar1, Nat.add_zero, Nat.zero_add, Nat.mul_zero])
  exact W.le (loop 0 (by omega)) ⟨rfl, rfl, rfl, trivial⟩
end BT4

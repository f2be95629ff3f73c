/-! the reference's pages -/
abbrev Mo : Type := Nat × List Arc × Nat × MK
def PG (I : Nat → Nat → Int32) (b : Nat) (o : Mo) : Prop := I 464 b = nI o.1 ∧ I 464 (b + 1) = nI o.2.1.length ∧ (∀ a, a < o.2.1.length → I 464 (b + (2 + 3 * a)) = nI (arc o.2.1 a).1 ∧ I 464 (b + (2 + 3 * a + 1)) = nI (arc o.2.1 a).2.1 ∧ I 464 (b + (2 + 3 * a + 2)) = nI (arc o.2.1 a).2.2) ∧ I 464 (b + 74) = nI o.2.2.1 ∧ ∀ p, p < 128 → I 464 (b + (75 + p)) = nI (bI (bitM o.2.2.2 p))
def MoOK (o : Mo) : Prop := 1 ≤ o.1 ∧ o.1 ≤ 10 ∧ o.2.1.length ≤ 24 ∧ (∀ x ∈ o.2.1, x.1 < o.1 ∧ x.2.1 < 8 ∧ x.2.2 < o.1) ∧ (o.2.2.1 = 0 → o.2.2.2 = initM (placesM o.1 o.2.1))
theorem MoOK.a {o : Mo} (h : MoOK o) : AOK o.2.1 := ⟨h.2.2.1, fun x hx => by have := h.2.2.2.1 x hx; have := h.2.1; omega⟩
def SL (I' : Nat → Nat → Int32) (b : Nat) (I : Nat → Nat → Int32) (a : Nat) : Prop := ∀ k, k < 203 → I' 464 (203 * b + k) = I 464 (203 * a + k)
theorem SL.pg {I I' : Nat → Nat → Int32} {a b : Nat} {o : Mo} (h : SL I' b I a) (ho : o.2.1.length ≤ 24) (hp : PG I (203 * a) o) : PG I' (203 * b) o := by
  obtain ⟨h1, h2, h3, h4, h5⟩ := hp
  refine ⟨?_, ?_, fun x hx => ?_, ?_, fun p hp => ?_⟩
  · have := h 0 (by omega)
    rw [Nat.add_zero, Nat.add_zero] at this
    rw [this]; exact h1
  · rw [h 1 (by omega)]; exact h2
  · rw [h (2 + 3 * x) (by omega), h (2 + 3 * x + 1) (by omega), h (2 + 3 * x + 2) (by omega)]; exact h3 x hx
  · rw [h 74 (by omega)]; exact h4
  · rw [h (75 + p) (by omega)]; exact h5 p hp
theorem PG.gm {I : Nat → Nat → Int32} {o : Mo} (h : PG I 0 o) : GM I o.2.1 := by
  obtain ⟨h1, h2, h3, h4, h5⟩ := h
  simp only [Nat.zero_add] at h2 h3
  exact ⟨h2, h3⟩
set_option maxRecDepth 100000 in
set_option maxHeartbeats 4000000 in
theorem ct_copies {l : Launch} {X : XT} {I : Nat → Nat → Int32} {L : Nat → Nat → Int64} {a b : Nat} {Q : QT} (ha : a ≤ 9) (hb : b ≤ 9) (hab : a ≠ b)
    (hQ : ∀ I', (∀ i, i ≠ 464 → I' i = I i) → (∀ s, s ≠ b → SL I' s I s) → SL I' b I a → Q none (mk I' L)) : CT l X mX10_copies 0 [.ref 463, .int (nI a), .int (nI b)] (mk I L) Q := by
  refine ct_intro okX10_copies (by decide +kernel) (Or.inl rfl) (Nat.le_of_ble_eq_true rfl) fun A C W => ?_
  show A 0 [some (.ref 463), some (.int (nI a)), some (.int (nI b)), none] [] _
  have loop : ∀ k, k ≤ 203 → ∀ I', (∀ i, i ≠ 464 → I' i = I i) → (∀ j, (j < 203 * b ∨ 203 * b + k ≤ j) → I' 464 j = I 464 j) → (∀ j, j < k → I' 464 (203 * b + j) = I 464 (203 * a + j)) → A 2 [some (.ref 463), some (.int (nI a)), some (.int (nI b)), some (.int (nI k))] [] (mk I' L) := by
    refine down fun k hk ih I' k1 k2 k3 => ?_
    apply C.vc (fun pc => pc == 2) 80; (simp only [↓vk kX10_copies_0, ↓vk kX10_copies_1, ↓vk kX10_copies_2, ↓vk kX10_copies_3, ↓vk kX10_copies_6, ↓vk kX10_copies_9, ↓vk kX10_copies_10, ↓vk kX10_copies_13, ↓vk kX10_copies_16, ↓vk kX10_copies_17, ↓vk kX10_copies_18, ↓vk kX10_copies_19, ↓vk kX10_copies_20, ↓vk kX10_copies_21, ↓vk kX10_copies_24, ↓vk kX10_copies_27, ↓vk kX10_copies_28, ↓vk kX10_copies_29, ↓vk kX10_copies_30, ↓vk kX10_copies_31, ↓vk kX10_copies_32, ↓vk kX10_copies_33, ↓vk kX10_copies_36, ↓vk kX10_copies_39, ↓x_aload, ↓x_getR, ↓x_goto, ↓x_iald, ↓x_iast, ↓x_icmp, ↓x_ii, ↓x_iinc, ↓x_iload, ↓x_istore, ↓x_push, ↓x_vret, ↓reduceIte, List.getElem?_cons_zero, List.getElem?_cons_succ, List.getD_cons_zero, List.getD_cons_succ, List.getD_nil, List.set_cons_zero, List.set_cons_succ, lset, lset2, isL, noD, cond_true, cond_false, if_true, if_false, Bool.false_eq_true, true_and, and_true, Nat.reduceAdd, Nat.reduceBEq, Nat.reduceSub, Nat.reduceEqDiff, Nat.reduceLT, Nat.reduceLeDiff, Bool.or_false, Bool.false_or, Bool.or_true, Bool.true_or, List.append_nil, List.nil_append, List.cons_append, Option.toList_some, Option.toList_none, lo0, List.replicate, List.length_cons, List.length_nil, muI, muL, callK, catS, List.map_cons, List.map_nil, List.sum_cons, List.sum_nil, vrf, swK, ofN, Value.category, reduceCtorEq, rf_463_0, rf_463_2, rf_463_4, rf_463_6, rf_463_7, rf_463_8, rf_463_10, rf_463_11, rf_463_13, rf_463_14, rf_463_15, rf_463_16, rf_463_17, rf_463_22, rf_463_23, rf_463_24, sh_463, sh_464, sh_465, sh_466, sh_467, sh_468, sh_469, sh_470, sh_471, sh_472, sh_473, sh_474, sh_475, sh_476, sh_477, sh_478, sh_479, al_464, al_465, al_466, al_467, al_468, al_469, al_470, al_471, al_472, al_473, al_474, al_475, al_476, al_477, al_478, al_479]); (try simp (discharger := omega) only [↓ni_bI1, ↓ni_bI1o, ↓ni_bI0, ↓ni_bI0n, ↓ni_bIe, ni_bIb, Nat.reduceEqDiff, Nat.reduceLT, Nat.reduceLeDiff, Nat.reduceAdd, Nat.reduceMul, not_true_eq_false, not_false_eq_true, true_implies, false_implies, and_true, true_and, lg_cmp_eq, nI_add, pk_mul, nI_clamp, ni_le, ni_lt, ni_eq, ni_lt0, ni_0le, ni_eq0, ni_0lt, ni_le0, ni_in, ni_m9, ni_9m, up2_ne, up2_eq, up2_kn, vnar0, vnar1, Nat.add_zero, Nat.zero_add, Nat.mul_zero])
    refine ⟨fun hx => ?_, fun hx => ⟨by omega, by omega, ?_⟩⟩
    · have he : k = 203 := by omega
      subst he
      refine hQ I' k1 (fun s hs j hj => k2 _ ?_) k3
      omega
    · refine ih (by omega) _ (fun i i1 => ?_) (fun j hj => ?_) (fun j hj => ?_)
      · rw [up2_ne i1]; exact k1 i i1
      · rw [up2_kn (by omega)]; exact k2 j (by omega)
      · by_cases hjk : j = k
        · rw [hjk, up2_eq]
          exact k2 _ (by omega)
        · rw [up2_kn (by omega)]; exact k3 j (by omega)
  apply C.vc (fun pc => pc == 2) 80; (simp only [↓vk kX10_copies_0, ↓vk kX10_copies_1, ↓vk kX10_copies_2, ↓vk kX10_copies_3, ↓vk kX10_copies_6, ↓vk kX10_copies_9, ↓vk kX10_copies_10, ↓vk kX10_copies_13, ↓vk kX10_copies_16, ↓vk kX10_copies_17, ↓vk kX10_copies_18, ↓vk kX10_copies_19, ↓vk kX10_copies_20, ↓vk kX10_copies_21, ↓vk kX10_copies_24, ↓vk kX10_copies_27, ↓vk kX10_copies_28, ↓vk kX10_copies_29, ↓vk kX10_copies_30, ↓vk kX10_copies_31, ↓vk kX10_copies_32, ↓vk kX10_copies_33, ↓vk kX10_copies_36, ↓vk kX10_copies_39, ↓x_aload, ↓x_getR, ↓x_goto, ↓x_iald, ↓x_iast, ↓x_icmp, ↓x_ii, ↓x_iinc, ↓x_iload, ↓x_istore, ↓x_push, ↓x_vret, ↓reduceIte, List.getElem?_cons_zero, List.getElem?_cons_succ, List.getD_cons_zero, List.getD_cons_succ, List.getD_nil, List.set_cons_zero, List.set_cons_succ, lset, lset2, isL, noD, cond_true, cond_false, if_true, if_false, Bool.false_eq_true, true_and, and_true, Nat.reduceAdd, Nat.reduceBEq, Nat.reduceSub, Nat.reduceEqDiff, Nat.reduceLT, Nat.reduceLeDiff, Bool.or_false, Bool.false_or, Bool.or_true, Bool.true_or, List.append_nil, List.nil_append, List.cons_append, Option.toList_some, Option.toList_none, lo0, List.replicate, List.length_cons, List.length_nil, muI, muL, callK, catS, List.map_cons, List.map_nil, List.sum_cons, List.sum_nil, vrf, swK, ofN, Value.category, reduceCtorEq, rf_463_0, rf_463_2, rf_463_4, rf_463_6, rf_463_7, rf_463_8, rf_463_10, rf_463_11, rf_463_13, rf_463_14, rf_463_15, rf_463_16, rf_463_17, rf_463_22, rf_463_23, rf_463_24, sh_463, sh_464, sh_465, sh_466, sh_467, sh_468, sh_469, sh_470, sh_471, sh_472, sh_473, sh_474, sh_475, sh_476, sh_477, sh_478, sh_479, al_464, al_465, al_466, al_467, al_468, al_469, al_470, al_471, al_472, al_473, al_474, al_475, al_476, al_477, al_478, al_479]); (try simp (discharger := omega) only [↓ni_bI1, ↓ni_bI1o, ↓ni_bI0, ↓ni_bI0n, ↓ni_bIe, ni_bIb, Nat.reduceEqDiff, Nat.reduceLT, Nat.reduceLeDiff, Nat.reduceAdd, Nat.reduceMul, not_true_eq_false, not_false_eq_true, true_implies, false_implies, and_true, true_and, lg_cmp_eq, nI_add, pk_mul, nI_clamp, ni_le, ni_lt, ni_eq, ni_lt0, ni_0le, ni_eq0, ni_0lt, ni_le0, ni_in, ni_m9, ni_9m, up2_ne, up2_eq, up2_kn, vnar0, vnar1, Nat.add_zero, Nat.zero_add, Nat.mul_zero])
  exact loop 0 (by omega) I (fun _ _ => rfl) (fun _ _ => rfl) (fun j hj => absurd hj (Nat.not_lt_zero _))
theorem SL.rfl' {I : Nat → Nat → Int32} {s : Nat} : SL I s I s := fun _ _ => rfl
theorem SL.tr {I I' I'' : Nat → Nat → Int32} {a b c : Nat} (h : SL I'' c I' b) (h2 : SL I' b I a) : SL I'' c I a := fun k hk => (h k hk).trans (h2 k hk)
set_option maxRecDepth 100000 in
set_option maxHeartbeats 4000000 in
theorem ct_records {l : Launch} {X : XT} {I : Nat → Nat → Int32} {L : Nat → Nat → Int64} {h : Nat} {Q : QT} (hh : h ≤ 8) (h1 : I 463 1 = nI h)
    (hQ : ∀ I', (∀ i, i ≠ 463 → i ≠ 464 → I' i = I i) → (∀ k, k ≠ 1 → I' 463 k = I 463 k) → SL I' 0 I 0 → SL I' 9 I 9 → I' 463 1 = nI (if h = 8 then 8 else h + 1) → (∀ s, 1 ≤ s → s ≤ h → h < 8 → SL I' s I s) → (∀ s, 1 ≤ s → s ≤ 7 → h = 8 → SL I' s I (s + 1)) → SL I' (if h = 8 then 8 else h + 1) I 0 → Q none (mk I' L)) : CT l X mX10_records 0 [.ref 463] (mk I L) Q := by
  refine ct_intro okX10_records (by decide +kernel) (Or.inl rfl) (Nat.le_of_ble_eq_true rfl) fun A C W => ?_
  show A 0 [some (.ref 463), none] [] _
  have fin : ∀ (g : Nat) (I' : Nat → Nat → Int32) (q : Option Value), g = (if h = 8 then 7 else h) → (∀ i, i ≠ 463 → i ≠ 464 → I' i = I i) → (∀ k, k ≠ 1 → I' 463 k = I 463 k) → I' 463 1 = nI g → SL I' 0 I 0 → SL I' 9 I 9 → (∀ s, 1 ≤ s → s ≤ h → h < 8 → SL I' s I s) → (∀ s, 1 ≤ s → s ≤ 7 → h = 8 → SL I' s I (s + 1)) → A 41 [some (.ref 463), q] [] (mk I' L) := by
    intro g I' q hg k1 k2 e1 s0 s9 c1 c2
    have hg7 : g ≤ 7 := by rw [hg]; split <;> omega
    have hg1 : g + 1 = (if h = 8 then 8 else h + 1) := by rw [hg]; split <;> rfl
    have h0 : A 41 [some (.ref 463), none] [] (mk I' L) := by
      apply C.vc (fun pc => pc == 11 || pc == 25 || pc == 60) 80; (simp only [↓vk kX10_records_0, ↓vk kX10_records_1, ↓vk kX10_records_4, ↓vk kX10_records_6, ↓vk kX10_records_9, ↓vk kX10_records_10, ↓vk kX10_records_11, ↓vk kX10_records_12, ↓vk kX10_records_14, ↓vk kX10_records_17, ↓vk kX10_records_18, ↓vk kX10_records_19, ↓vk kX10_records_20, ↓vk kX10_records_21, ↓vk kX10_records_22, ↓vk kX10_records_25, ↓vk kX10_records_28, ↓vk kX10_records_31, ↓vk kX10_records_32, ↓vk kX10_records_33, ↓vk kX10_records_36, ↓vk kX10_records_37, ↓vk kX10_records_38, ↓vk kX10_records_41, ↓vk kX10_records_42, ↓vk kX10_records_43, ↓vk kX10_records_46, ↓vk kX10_records_47, ↓vk kX10_records_48, ↓vk kX10_records_51, ↓vk kX10_records_52, ↓vk kX10_records_53, ↓vk kX10_records_54, ↓vk kX10_records_57, ↓vk kX10_records_60, ↓x_aload, ↓x_callV2, ↓x_dup, ↓x_getI, ↓x_goto, ↓x_icmp, ↓x_icmpn, ↓x_ii, ↓x_iinc, ↓x_iload, ↓x_istore, ↓x_push, ↓x_putI, ↓x_vret, ↓reduceIte, List.getElem?_cons_zero, List.getElem?_cons_succ, List.getD_cons_zero, List.getD_cons_succ, List.getD_nil, List.set_cons_zero, List.set_cons_succ, lset, lset2, isL, noD, cond_true, cond_false, if_true, if_false, Bool.false_eq_true, true_and, and_true, Nat.reduceAdd, Nat.reduceBEq, Nat.reduceSub, Nat.reduceEqDiff, Nat.reduceLT, Nat.reduceLeDiff, Bool.or_false, Bool.false_or, Bool.or_true, Bool.true_or, List.append_nil, List.nil_append, List.cons_append, Option.toList_some, Option.toList_none, lo0, List.replicate, List.length_cons, List.length_nil, muI, muL, callK, catS, List.map_cons, List.map_nil, List.sum_cons, List.sum_nil, vrf, swK, ofN, Value.category, reduceCtorEq, rf_463_0, rf_463_2, rf_463_4, rf_463_6, rf_463_7, rf_463_8, rf_463_10, rf_463_11, rf_463_13, rf_463_14, rf_463_15, rf_463_16, rf_463_17, rf_463_22, rf_463_23, rf_463_24, sh_463, sh_464, sh_465, sh_466, sh_467, sh_468, sh_469, sh_470, sh_471, sh_472, sh_473, sh_474, sh_475, sh_476, sh_477, sh_478, sh_479, al_464, al_465, al_466, al_467, al_468, al_469, al_470, al_471, al_472, al_473, al_474, al_475, al_476, al_477, al_478, al_479]); (try simp (discharger := omega) only [↓ni_bI1, ↓ni_bI1o, ↓ni_bI0, ↓ni_bI0n, ↓ni_bIe, ni_bIb, Nat.reduceEqDiff, Nat.reduceLT, Nat.reduceLeDiff, Nat.reduceAdd, Nat.reduceMul, not_true_eq_false, not_false_eq_true, true_implies, false_implies, and_true, true_and, lg_cmp_eq, nI_add, pk_mul, nI_clamp, ni_le, ni_lt, ni_eq, ni_lt0, ni_0le, ni_eq0, ni_0lt, ni_le0, ni_in, ni_m9, ni_9m, up2_ne, up2_eq, up2_kn, vnar0, vnar1, Nat.add_zero, Nat.zero_add, Nat.mul_zero, e1])
      refine ct_copies (by omega) (by omega) (by omega) fun I'' d1 d2 d3 => ?_
      apply C.vc (fun pc => pc == 11 || pc == 25 || pc == 60) 80; (simp only [↓vk kX10_records_0, ↓vk kX10_records_1, ↓vk kX10_records_4, ↓vk kX10_records_6, ↓vk kX10_records_9, ↓vk kX10_records_10, ↓vk kX10_records_11, ↓vk kX10_records_12, ↓vk kX10_records_14, ↓vk kX10_records_17, ↓vk kX10_records_18, ↓vk kX10_records_19, ↓vk kX10_records_20, ↓vk kX10_records_21, ↓vk kX10_records_22, ↓vk kX10_records_25, ↓vk kX10_records_28, ↓vk kX10_records_31, ↓vk kX10_records_32, ↓vk kX10_records_33, ↓vk kX10_records_36, ↓vk kX10_records_37, ↓vk kX10_records_38, ↓vk kX10_records_41, ↓vk kX10_records_42, ↓vk kX10_records_43, ↓vk kX10_records_46, ↓vk kX10_records_47, ↓vk kX10_records_48, ↓vk kX10_records_51, ↓vk kX10_records_52, ↓vk kX10_records_53, ↓vk kX10_records_54, ↓vk kX10_records_57, ↓vk kX10_records_60, ↓x_aload, ↓x_callV2, ↓x_dup, ↓x_getI, ↓x_goto, ↓x_icmp, ↓x_icmpn, ↓x_ii, ↓x_iinc, ↓x_iload, ↓x_istore, ↓x_push, ↓x_putI, ↓x_vret, ↓reduceIte, List.getElem?_cons_zero, List.getElem?_cons_succ, List.getD_cons_zero, List.getD_cons_succ, List.getD_nil, List.set_cons_zero, List.set_cons_succ, lset, lset2, isL, noD, cond_true, cond_false, if_true, if_false, Bool.false_eq_true, true_and, and_true, Nat.reduceAdd, Nat.reduceBEq, Nat.reduceSub, Nat.reduceEqDiff, Nat.reduceLT, Nat.reduceLeDiff, Bool.or_false, Bool.false_or, Bool.or_true, Bool.true_or, List.append_nil, List.nil_append, List.cons_append, Option.toList_some, Option.toList_none, lo0, List.replicate, List.length_cons, List.length_nil, muI, muL, callK, catS, List.map_cons, List.map_nil, List.sum_cons, List.sum_nil, vrf, swK, ofN, Value.category, reduceCtorEq, rf_463_0, rf_463_2, rf_463_4, rf_463_6, rf_463_7, rf_463_8, rf_463_10, rf_463_11, rf_463_13, rf_463_14, rf_463_15, rf_463_16, rf_463_17, rf_463_22, rf_463_23, rf_463_24, sh_463, sh_464, sh_465, sh_466, sh_467, sh_468, sh_469, sh_470, sh_471, sh_472, sh_473, sh_474, sh_475, sh_476, sh_477, sh_478, sh_479, al_464, al_465, al_466, al_467, al_468, al_469, al_470, al_471, al_472, al_473, al_474, al_475, al_476, al_477, al_478, al_479]); (try simp (discharger := omega) only [↓ni_bI1, ↓ni_bI1o, ↓ni_bI0, ↓ni_bI0n, ↓ni_bIe, ni_bIb, Nat.reduceEqDiff, Nat.reduceLT, Nat.reduceLeDiff, Nat.reduceAdd, Nat.reduceMul, not_true_eq_false, not_false_eq_true, true_implies, false_implies, and_true, true_and, lg_cmp_eq, nI_add, pk_mul, nI_clamp, ni_le, ni_lt, ni_eq, ni_lt0, ni_0le, ni_eq0, ni_0lt, ni_le0, ni_in, ni_m9, ni_9m, up2_ne, up2_eq, up2_kn, vnar0, vnar1, Nat.add_zero, Nat.zero_add, Nat.mul_zero])
      have sl : ∀ s, s ≠ g + 1 → SL I'' s I' s := fun s hs k hk => by
        rw [d2 s hs k hk, up2_ne (by decide)]
      refine hQ I'' (fun i i1 i2 => ?_) (fun k kk => ?_) ((sl 0 (by omega)).tr s0) ((sl 9 (by omega)).tr s9) ?_ (fun s a b c => ?_) (fun s a b c => ?_) ?_
      · rw [d1 i i2, up2_ne i1]; exact k1 i i1 i2
      · rw [d1 463 (by decide), up2_kn kk]; exact k2 k kk
      · rw [d1 463 (by decide), up2_eq, hg1]
      · refine (sl s ?_).tr (c1 s a b c)
        rw [hg1, if_neg (by omega)]; omega
      · refine (sl s ?_).tr (c2 s a b c)
        rw [hg1, if_pos c]; omega
      · rw [← hg1]
        intro k hk
        rw [d3 k hk, up2_ne (by decide)]
        exact s0 k hk
    exact W.le h0 (by simp only [leO, and_self])
  apply C.vc (fun pc => pc == 11 || pc == 25 || pc == 41 || pc == 60) 80; (simp only [↓vk kX10_records_0, ↓vk kX10_records_1, ↓vk kX10_records_4, ↓vk kX10_records_6, ↓vk kX10_records_9, ↓vk kX10_records_10, ↓vk kX10_records_11, ↓vk kX10_records_12, ↓vk kX10_records_14, ↓vk kX10_records_17, ↓vk kX10_records_18, ↓vk kX10_records_19, ↓vk kX10_records_20, ↓vk kX10_records_21, ↓vk kX10_records_22, ↓vk kX10_records_25, ↓vk kX10_records_28, ↓vk kX10_records_31, ↓vk kX10_records_32, ↓vk kX10_records_33, ↓vk kX10_records_36, ↓vk kX10_records_37, ↓vk kX10_records_38, ↓vk kX10_records_41, ↓vk kX10_records_42, ↓vk kX10_records_43, ↓vk kX10_records_46, ↓vk kX10_records_47, ↓vk kX10_records_48, ↓vk kX10_records_51, ↓vk kX10_records_52, ↓vk kX10_records_53, ↓vk kX10_records_54, ↓vk kX10_records_57, ↓vk kX10_records_60, ↓x_aload, ↓x_callV2, ↓x_dup, ↓x_getI, ↓x_goto, ↓x_icmp, ↓x_icmpn, ↓x_ii, ↓x_iinc, ↓x_iload, ↓x_istore, ↓x_push, ↓x_putI, ↓x_vret, ↓reduceIte, List.getElem?_cons_zero, List.getElem?_cons_succ, List.getD_cons_zero, List.getD_cons_succ, List.getD_nil, List.set_cons_zero, List.set_cons_succ, lset, lset2, isL, noD, cond_true, cond_false, if_true, if_false, Bool.false_eq_true, true_and, and_true, Nat.reduceAdd, Nat.reduceBEq, Nat.reduceSub, Nat.reduceEqDiff, Nat.reduceLT, Nat.reduceLeDiff, Bool.or_false, Bool.false_or, Bool.or_true, Bool.true_or, List.append_nil, List.nil_append, List.cons_append, Option.toList_some, Option.toList_none, lo0, List.replicate, List.length_cons, List.length_nil, muI, muL, callK, catS, List.map_cons, List.map_nil, List.sum_cons, List.sum_nil, vrf, swK, ofN, Value.category, reduceCtorEq, rf_463_0, rf_463_2, rf_463_4, rf_463_6, rf_463_7, rf_463_8, rf_463_10, rf_463_11, rf_463_13, rf_463_14, rf_463_15, rf_463_16, rf_463_17, rf_463_22, rf_463_23, rf_463_24, sh_463, sh_464, sh_465, sh_466, sh_467, sh_468, sh_469, sh_470, sh_471, sh_472, sh_473, sh_474, sh_475, sh_476, sh_477, sh_478, sh_479, al_464, al_465, al_466, al_467, al_468, al_469, al_470, al_471, al_472, al_473, al_474, al_475, al_476, al_477, al_478, al_479]); (try simp (discharger := omega) only [↓ni_bI1, ↓ni_bI1o, ↓ni_bI0, ↓ni_bI0n, ↓ni_bIe, ni_bIb, Nat.reduceEqDiff, Nat.reduceLT, Nat.reduceLeDiff, Nat.reduceAdd, Nat.reduceMul, not_true_eq_false, not_false_eq_true, true_implies, false_implies, and_true, true_and, lg_cmp_eq, nI_add, pk_mul, nI_clamp, ni_le, ni_lt, ni_eq, ni_lt0, ni_0le, ni_eq0, ni_0lt, ni_le0, ni_in, ni_m9, ni_9m, up2_ne, up2_eq, up2_kn, vnar0, vnar1, Nat.add_zero, Nat.zero_add, Nat.mul_zero, h1])
  refine ⟨fun g8 => ?_, fun g8 => ?_⟩
  · subst g8
    have loop : ∀ k, k ≤ 8 → 1 ≤ k → ∀ I', (∀ i, i ≠ 464 → I' i = I i) → (∀ s, 1 ≤ s → s < k → SL I' s I (s + 1)) → (∀ s, s = 0 ∨ k ≤ s → SL I' s I s) → A 11 [some (.ref 463), some (.int (nI k))] [] (mk I' L) := by
      refine down fun k hk ih hk1 I' k1 k2 k3 => ?_
      apply C.vc (fun pc => pc == 11 || pc == 25 || pc == 31 || pc == 41 || pc == 60) 80; (simp only [↓vk kX10_records_0, ↓vk kX10_records_1, ↓vk kX10_records_4, ↓vk kX10_records_6, ↓vk kX10_records_9, ↓vk kX10_records_10, ↓vk kX10_records_11, ↓vk kX10_records_12, ↓vk kX10_records_14, ↓vk kX10_records_17, ↓vk kX10_records_18, ↓vk kX10_records_19, ↓vk kX10_records_20, ↓vk kX10_records_21, ↓vk kX10_records_22, ↓vk kX10_records_25, ↓vk kX10_records_28, ↓vk kX10_records_31, ↓vk kX10_records_32, ↓vk kX10_records_33, ↓vk kX10_records_36, ↓vk kX10_records_37, ↓vk kX10_records_38, ↓vk kX10_records_41, ↓vk kX10_records_42, ↓vk kX10_records_43, ↓vk kX10_records_46, ↓vk kX10_records_47, ↓vk kX10_records_48, ↓vk kX10_records_51, ↓vk kX10_records_52, ↓vk kX10_records_53, ↓vk kX10_records_54, ↓vk kX10_records_57, ↓vk kX10_records_60, ↓x_aload, ↓x_callV2, ↓x_dup, ↓x_getI, ↓x_goto, ↓x_icmp, ↓x_icmpn, ↓x_ii, ↓x_iinc, ↓x_iload, ↓x_istore, ↓x_push, ↓x_putI, ↓x_vret, ↓reduceIte, List.getElem?_cons_zero, List.getElem?_cons_succ, List.getD_cons_zero, List.getD_cons_succ, List.getD_nil, List.set_cons_zero, List.set_cons_succ, lset, lset2, isL, noD, cond_true, cond_false, if_true, if_false, Bool.false_eq_true, true_and, and_true, Nat.reduceAdd, Nat.reduceBEq, Nat.reduceSub, Nat.reduceEqDiff, Nat.reduceLT, Nat.reduceLeDiff, Bool.or_false, Bool.false_or, Bool.or_true, Bool.true_or, List.append_nil, List.nil_append, List.cons_append, Option.toList_some, Option.toList_none, lo0, List.replicate, List.length_cons, List.length_nil, muI, muL, callK, catS, List.map_cons, List.map_nil, List.sum_cons, List.sum_nil, vrf, swK, ofN, Value.category, reduceCtorEq, rf_463_0, rf_463_2, rf_463_4, rf_463_6, rf_463_7, rf_463_8, rf_463_10, rf_463_11, rf_463_13, rf_463_14, rf_463_15, rf_463_16, rf_463_17, rf_463_22, rf_463_23, rf_463_24, sh_463, sh_464, sh_465, sh_466, sh_467, sh_468, sh_469, sh_470, sh_471, sh_472, sh_473, sh_474, sh_475, sh_476, sh_477, sh_478, sh_479, al_464, al_465, al_466, al_467, al_468, al_469, al_470, al_471, al_472, al_473, al_474, al_475, al_476, al_477, al_478, al_479]); (try simp (discharger := omega) only [↓ni_bI1, ↓ni_bI1o, ↓ni_bI0, ↓ni_bI0n, ↓ni_bIe, ni_bIb, Nat.reduceEqDiff, Nat.reduceLT, Nat.reduceLeDiff, Nat.reduceAdd, Nat.reduceMul, not_true_eq_false, not_false_eq_true, true_implies, false_implies, and_true, true_and, lg_cmp_eq, nI_add, pk_mul, nI_clamp, ni_le, ni_lt, ni_eq, ni_lt0, ni_0le, ni_eq0, ni_0lt, ni_le0, ni_in, ni_m9, ni_9m, up2_ne, up2_eq, up2_kn, vnar0, vnar1, Nat.add_zero, Nat.zero_add, Nat.mul_zero])
      refine ⟨fun hx => ?_, fun hx => ?_⟩
      · have e1 : I' 463 1 = nI 8 := by rw [k1 463 (by decide)]; exact h1
        have h31 : A 31 [some (.ref 463), some (.int (nI k))] [] (mk I' L) := by
          apply C.vc (fun pc => pc == 11 || pc == 25 || pc == 41 || pc == 60) 80; (simp only [↓vk kX10_records_0, ↓vk kX10_records_1, ↓vk kX10_records_4, ↓vk kX10_records_6, ↓vk kX10_records_9, ↓vk kX10_records_10, ↓vk kX10_records_11, ↓vk kX10_records_12, ↓vk kX10_records_14, ↓vk kX10_records_17, ↓vk kX10_records_18, ↓vk kX10_records_19, ↓vk kX10_records_20, ↓vk kX10_records_21, ↓vk kX10_records_22, ↓vk kX10_records_25, ↓vk kX10_records_28, ↓vk kX10_records_31, ↓vk kX10_records_32, ↓vk kX10_records_33, ↓vk kX10_records_36, ↓vk kX10_records_37, ↓vk kX10_records_38, ↓vk kX10_records_41, ↓vk kX10_records_42, ↓vk kX10_records_43, ↓vk kX10_records_46, ↓vk kX10_records_47, ↓vk kX10_records_48, ↓vk kX10_records_51, ↓vk kX10_records_52, ↓vk kX10_records_53, ↓vk kX10_records_54, ↓vk kX10_records_57, ↓vk kX10_records_60, ↓x_aload, ↓x_callV2, ↓x_dup, ↓x_getI, ↓x_goto, ↓x_icmp, ↓x_icmpn, ↓x_ii, ↓x_iinc, ↓x_iload, ↓x_istore, ↓x_push, ↓x_putI, ↓x_vret, ↓reduceIte, List.getElem?_cons_zero, List.getElem?_cons_succ, List.getD_cons_zero, List.getD_cons_succ, List.getD_nil, List.set_cons_zero, List.set_cons_succ, lset, lset2, isL, noD, cond_true, cond_false, if_true, if_false, Bool.false_eq_true, true_and, and_true, Nat.reduceAdd, Nat.reduceBEq, Nat.reduceSub, Nat.reduceEqDiff, Nat.reduceLT, Nat.reduceLeDiff, Bool.or_false, Bool.false_or, Bool.or_true, Bool.true_or, List.append_nil, List.nil_append, List.cons_append, Option.toList_some, Option.toList_none, lo0, List.replicate, List.length_cons, List.length_nil, muI, muL, callK, catS, List.map_cons, List.map_nil, List.sum_cons, List.sum_nil, vrf, swK, ofN, Value.category, reduceCtorEq, rf_463_0, rf_463_2, rf_463_4, rf_463_6, rf_463_7, rf_463_8, rf_463_10, rf_463_11, rf_463_13, rf_463_14, rf_463_15, rf_463_16, rf_463_17, rf_463_22, rf_463_23, rf_463_24, sh_463, sh_464, sh_465, sh_466, sh_467, sh_468, sh_469, sh_470, sh_471, sh_472, sh_473, sh_474, sh_475, sh_476, sh_477, sh_478, sh_479, al_464, al_465, al_466, al_467, al_468, al_469, al_470, al_471, al_472, al_473, al_474, al_475, al_476, al_477, al_478, al_479]); (try simp (discharger := omega) only [↓ni_bI1, ↓ni_bI1o, ↓ni_bI0, ↓ni_bI0n, ↓ni_bIe, ni_bIb, Nat.reduceEqDiff, Nat.reduceLT, Nat.reduceLeDiff, Nat.reduceAdd, Nat.reduceMul, not_true_eq_false, not_false_eq_true, true_implies, false_implies, and_true, true_and, lg_cmp_eq, nI_add, pk_mul, nI_clamp, ni_le, ni_lt, ni_eq, ni_lt0, ni_0le, ni_eq0, ni_0lt, ni_le0, ni_in, ni_m9, ni_9m, up2_ne, up2_eq, up2_kn, vnar0, vnar1, Nat.add_zero, Nat.zero_add, Nat.mul_zero, e1, pk_sub])
          refine fin 7 _ _ rfl (fun i i1 i2 => ?_) (fun k kk => ?_) ?_ (fun j hj => ?_) (fun j hj => ?_) (fun s a b c => by omega) (fun s a b _ j hj => ?_)
          · rw [up2_ne i1]; exact k1 i i2
          · rw [up2_kn kk, k1 463 (by decide)]
          · rw [up2_eq]
          · rw [up2_ne (by decide)]; exact k3 0 (Or.inl rfl) j hj
          · rw [up2_ne (by decide)]; exact k3 9 (Or.inr (by omega)) j hj
          · rw [up2_ne (by decide)]; exact k2 s a (by omega) j hj
        exact h31
      · refine ct_copies (by omega) (by omega) (by omega) fun I'' d1 d2 d3 => ?_
        apply C.vc (fun pc => pc == 11 || pc == 25 || pc == 60) 80; (simp only [↓vk kX10_records_0, ↓vk kX10_records_1, ↓vk kX10_records_4, ↓vk kX10_records_6, ↓vk kX10_records_9, ↓vk kX10_records_10, ↓vk kX10_records_11, ↓vk kX10_records_12, ↓vk kX10_records_14, ↓vk kX10_records_17, ↓vk kX10_records_18, ↓vk kX10_records_19, ↓vk kX10_records_20, ↓vk kX10_records_21, ↓vk kX10_records_22, ↓vk kX10_records_25, ↓vk kX10_records_28, ↓vk kX10_records_31, ↓vk kX10_records_32, ↓vk kX10_records_33, ↓vk kX10_records_36, ↓vk kX10_records_37, ↓vk kX10_records_38, ↓vk kX10_records_41, ↓vk kX10_records_42, ↓vk kX10_records_43, ↓vk kX10_records_46, ↓vk kX10_records_47, ↓vk kX10_records_48, ↓vk kX10_records_51, ↓vk kX10_records_52, ↓vk kX10_records_53, ↓vk kX10_records_54, ↓vk kX10_records_57, ↓vk kX10_records_60, ↓x_aload, ↓x_callV2, ↓x_dup, ↓x_getI, ↓x_goto, ↓x_icmp, ↓x_icmpn, ↓x_ii, ↓x_iinc, ↓x_iload, ↓x_istore, ↓x_push, ↓x_putI, ↓x_vret, ↓reduceIte, List.getElem?_cons_zero, List.getElem?_cons_succ, List.getD_cons_zero, List.getD_cons_succ, List.getD_nil, List.set_cons_zero, List.set_cons_succ, lset, lset2, isL, noD, cond_true, cond_false, if_true, if_false, Bool.false_eq_true, true_and, and_true, Nat.reduceAdd, Nat.reduceBEq, Nat.reduceSub, Nat.reduceEqDiff, Nat.reduceLT, Nat.reduceLeDiff, Bool.or_false, Bool.false_or, Bool.or_true, Bool.true_or, List.append_nil, List.nil_append, List.cons_append, Option.toList_some, Option.toList_none, lo0, List.replicate, List.length_cons, List.length_nil, muI, muL, callK, catS, List.map_cons, List.map_nil, List.sum_cons, List.sum_nil, vrf, swK, ofN, Value.category, reduceCtorEq, rf_463_0, rf_463_2, rf_463_4, rf_463_6, rf_463_7, rf_463_8, rf_463_10, rf_463_11, rf_463_13, rf_463_14, rf_463_15, rf_463_16, rf_463_17, rf_463_22, rf_463_23, rf_463_24, sh_463, sh_464, sh_465, sh_466, sh_467, sh_468, sh_469, sh_470, sh_471, sh_472, sh_473, sh_474, sh_475, sh_476, sh_477, sh_478, sh_479, al_464, al_465, al_466, al_467, al_468, al_469, al_470, al_471, al_472, al_473, al_474, al_475, al_476, al_477, al_478, al_479]); (try simp (discharger := omega) only [↓ni_bI1, ↓ni_bI1o, ↓ni_bI0, ↓ni_bI0n, ↓ni_bIe, ni_bIb, Nat.reduceEqDiff, Nat.reduceLT, Nat.reduceLeDiff, Nat.reduceAdd, Nat.reduceMul, not_true_eq_false, not_false_eq_true, true_implies, false_implies, and_true, true_and, lg_cmp_eq, nI_add, pk_mul, nI_clamp, ni_le, ni_lt, ni_eq, ni_lt0, ni_0le, ni_eq0, ni_0lt, ni_le0, ni_in, ni_m9, ni_9m, up2_ne, up2_eq, up2_kn, vnar0, vnar1, Nat.add_zero, Nat.zero_add, Nat.mul_zero])
        refine ih (by omega) (by omega) I'' (fun i i1 => (d1 i i1).trans (k1 i i1)) (fun s a b => ?_) (fun s a => ?_)
        · by_cases hsk : s = k
          · rw [hsk]
            exact d3.tr (k3 (k + 1) (Or.inr (by omega)))
          · exact (d2 s hsk).tr (k2 s a (by omega))
        · exact (d2 s (by omega)).tr (k3 s (by omega))
    exact loop 1 (by omega) (by omega) I (fun _ _ => rfl) (fun s a b => by omega) (fun s _ => SL.rfl')
  · exact fin h I _ (by rw [if_neg g8]) (fun _ _ _ => rfl) (fun _ _ => rfl) h1 SL.rfl' SL.rfl' (fun s _ _ _ => SL.rfl') (fun s _ _ c => absurd c g8)

abbrev SS : Type := Mo × List Mo × List Nat × Nat
/-- what the reference holds: the graph and run, the remembered ones, the text, the fault -/
def CoreM (I : Nat → Nat → Int32) (S : SS) : Prop := PG I 0 S.1 ∧ (∀ j, j < S.2.1.length → PG I (203 * (j + 1)) (S.2.1.getD j S.1)) ∧ I 463 1 = nI S.2.1.length ∧ I 463 25 = nI S.2.2.1.length ∧ Hold (I 479) S.2.2.1 ∧ I 463 26 = nI S.2.2.2
def RM (I : Nat → Nat → Int32) (L : Nat → Nat → Int64) (S : SS) : Prop := CoreM I S ∧ DM I L S.1.1 S.1.2.1
def SOK (S : SS) : Prop := MoOK S.1 ∧ (∀ o ∈ S.2.1, MoOK o) ∧ S.2.1.length ≤ 8 ∧ S.2.2.1.length ≤ 80 ∧ (∀ c ∈ S.2.2.1, 32 ≤ c ∧ c ≤ 126) ∧ S.2.2.2 ≤ 2
def pushH (hs : List Mo) (o : Mo) : List Mo := if hs.length = 8 then hs.tail ++ [o] else hs ++ [o]
theorem pushH_len {hs : List Mo} {o : Mo} (h : hs.length ≤ 8) : (pushH hs o).length = if hs.length = 8 then 8 else hs.length + 1 := by
  unfold pushH
  split
  · rw [List.length_append, List.length_tail]
    simp; omega
  · simp
theorem pushH_ok {hs : List Mo} {o : Mo} (h : ∀ x ∈ hs, MoOK x) (ho : MoOK o) : ∀ x ∈ pushH hs o, MoOK x := by
  intro x hx
  unfold pushH at hx
  split at hx
  · rcases List.mem_append.mp hx with hx | hx
    · exact h x (List.mem_of_mem_tail hx)
    · rw [List.mem_singleton.mp hx]; exact ho
  · rcases List.mem_append.mp hx with hx | hx
    · exact h x hx
    · rw [List.mem_singleton.mp hx]; exact ho
/-- recording, over the whole: page 0 stays, the remembered ones are pushed -/
theorem rec_core {l : Launch} {X : XT} {I : Nat → Nat → Int32} {L : Nat → Nat → Int64} {S : SS} {Q : QT} (hc : CoreM I S) (hs : SOK S)
    (hQ : ∀ I', (∀ i, i ≠ 463 → i ≠ 464 → I' i = I i) → (∀ k, k ≠ 1 → I' 463 k = I 463 k) → SL I' 0 I 0 → SL I' 9 I 9 → CoreM I' (S.1, pushH S.2.1 S.1, S.2.2) → Q none (mk I' L)) : CT l X mX10_records 0 [.ref 463] (mk I L) Q := by
  obtain ⟨c1, c2, c3, c4, c5, c6⟩ := hc
  obtain ⟨s1, s2, s3, s4, s5, s6⟩ := hs
  refine ct_records s3 c3 fun I' k1 k2 a0 a9 a1 b1 b2 b3 => hQ I' k1 k2 a0 a9 ⟨?_, fun j hj => ?_, ?_, ?_, ?_, ?_⟩
  · exact a0.pg s1.2.2.1 c1
  · show PG I' (203 * (j + 1)) ((pushH S.2.1 S.1).getD j S.1)
    have hj : j < (pushH S.2.1 S.1).length := hj
    rw [pushH_len s3] at hj
    unfold pushH
    by_cases h8 : S.2.1.length = 8
    · rw [if_pos h8] at hj b3 ⊢
      by_cases hj7 : j < 7
      · have e : (S.2.1.tail ++ [S.1]).getD j S.1 = S.2.1.getD (j + 1) S.1 := by
          rw [getD_app (by rw [List.length_tail]; omega), List.getD_eq_getElem?_getD, List.getD_eq_getElem?_getD, List.getElem?_tail]
        rw [e]
        have hm : S.2.1.getD (j + 1) S.1 ∈ S.2.1 := by
          rw [List.getD_eq_getElem?_getD, List.getElem?_eq_getElem (by omega)]
          exact List.getElem_mem _
        exact (b2 (j + 1) (by omega) (by omega) h8).pg (s2 _ hm).2.2.1 (c2 (j + 1) (by omega))
      · have hj7 : j = 7 := by omega
        subst hj7
        have e : (S.2.1.tail ++ [S.1]).getD 7 S.1 = S.1 := by
          rw [List.getD_eq_getElem?_getD, List.getElem?_append_right (by rw [List.length_tail]; omega), List.length_tail, h8]
          rfl
        rw [e]
        exact b3.pg s1.2.2.1 c1
    · rw [if_neg h8] at hj b3 ⊢
      by_cases hjl : j < S.2.1.length
      · rw [getD_app hjl]
        have hm : S.2.1.getD j S.1 ∈ S.2.1 := by
          rw [List.getD_eq_getElem?_getD, List.getElem?_eq_getElem (by omega)]
          exact List.getElem_mem _
        exact (b1 (j + 1) (by omega) (by omega) (by omega)).pg (s2 _ hm).2.2.1 (c2 j hjl)
      · have hje : j = S.2.1.length := by omega
        subst hje
        have e : (S.2.1 ++ [S.1]).getD S.2.1.length S.1 = S.1 := by
          rw [List.getD_eq_getElem?_getD, List.getElem?_append_right (Nat.le_refl _), Nat.sub_self]
          rfl
        rw [e]
        exact b3.pg s1.2.2.1 c1
  · show I' 463 1 = nI (pushH S.2.1 S.1).length
    rw [pushH_len s3]; exact a1
  · show I' 463 25 = _
    rw [k2 25 (by decide)]; exact c4
  · show Hold (I' 479) _
    rw [k1 479 (by decide) (by decide)]; exact c5
  · show I' 463 26 = _
    rw [k2 26 (by decide)]; exact c6
/-- a change of page 0 alone -/
theorem CoreM.page {I I' : Nat → Nat → Int32} {S : SS} {o : Mo} (hc : CoreM I S) (hs : ∀ o ∈ S.2.1, MoOK o) (k1 : ∀ i, i ≠ 464 → I' i = I i) (k2 : ∀ j, 203 ≤ j → I' 464 j = I 464 j) (hp : PG I' 0 o) : CoreM I' (o, S.2) := by
  obtain ⟨c1, c2, c3, c4, c5, c6⟩ := hc
  refine ⟨hp, fun j hj => ?_, ?_, ?_, ?_, ?_⟩
  · have hj : j < S.2.1.length := hj
    have e : S.2.1.getD j o = S.2.1.getD j S.1 := by
      rw [List.getD_eq_getElem?_getD, List.getD_eq_getElem?_getD, List.getElem?_eq_getElem hj]
      rfl
    show PG I' (203 * (j + 1)) (S.2.1.getD j o)
    rw [e]
    have hm : S.2.1.getD j S.1 ∈ S.2.1 := by
      rw [List.getD_eq_getElem?_getD, List.getElem?_eq_getElem hj]
      exact List.getElem_mem _
    have hsl : SL I' (j + 1) I (j + 1) := fun k hk => k2 _ (by omega)
    exact hsl.pg (hs _ hm).2.2.1 (c2 j hj)
  · show I' 463 1 = _
    rw [k1 463 (by decide)]; exact c3
  · show I' 463 25 = _
    rw [k1 463 (by decide)]; exact c4
  · show Hold (I' 479) _
    rw [k1 479 (by decide)]; exact c5
  · show I' 463 26 = _
    rw [k1 463 (by decide)]; exact c6
theorem CoreM.keepD {I I' : Nat → Nat → Int32} {L L' : Nat → Nat → Int64} {S : SS} (hc : CoreM I S) (hk : KeepD I I' L L') : CoreM I' S := by
  obtain ⟨c1, c2, c3, c4, c5, c6⟩ := hc
  have e464 : I' 464 = I 464 := hk.1 464 (by decide)
  refine ⟨?_, fun j hj => ?_, ?_, ?_, ?_, ?_⟩
  · unfold PG; rw [e464]; exact c1
  · unfold PG; rw [e464]; exact c2 j hj
  · rw [hk.2.1 1 (by decide)]; exact c3
  · rw [hk.2.1 25 (by decide)]; exact c4
  · rw [hk.1 479 (by decide)]; exact c5
  · rw [hk.2.1 26 (by decide)]; exact c6
theorem DM.keep {I I' : Nat → Nat → Int32} {L L' : Nat → Nat → Int64} {n : Nat} {al : List Arc} (h : DM I L n al) (k1 : ∀ i, i ∈ dI → i ≠ 463 → I' i = I i) (k2 : ∀ k, k ∈ dF → I' 463 k = I 463 k) (k3 : ∀ i, i ∈ dL → L' i = L i) : DM I' L' n al := by
  obtain ⟨d1, d2, d3, d4, d5, d6, d7, d8, d9, d10⟩ := h
  refine ⟨?_, ?_, ?_, ?_, ?_, ?_, ?_, ?_, ?_, ?_⟩
  · rw [k2 3 (by decide)]; exact d1
  · rw [k1 465 (by decide) (by decide)]; exact d2
  · rw [k2 5 (by decide)]; exact d3
  · rw [k1 466 (by decide) (by decide)]; exact d4
  · exact d5.keep (k2 9 (by decide)) (k1 467 (by decide) (by decide)) (k1 468 (by decide) (by decide)) (k1 469 (by decide) (by decide)) (k1 470 (by decide) (by decide))
  · rw [k2 12 (by decide)]; exact d6
  · rw [k1 471 (by decide) (by decide)]; exact d7
  · intro k hk; rw [k1 472 (by decide) (by decide)]; exact d8 k hk
  · intro e he; rw [k3 473 (by decide), k3 474 (by decide)]; exact d9 e he
  · unfold EX; rw [k2 18 (by decide), k2 19 (by decide), k2 20 (by decide), k2 21 (by decide)]; exact d10
set_option maxRecDepth 100000 in
set_option maxHeartbeats 4000000 in
theorem ct_changes {l : Launch} {X : XT} {I : Nat → Nat → Int32} {L : Nat → Nat → Int64} {S : SS} {n : Nat} {al : List Arc} {Q : QT} (hc : CoreM I S) (hs : ∀ o ∈ S.2.1, MoOK o) (he : S.1.1 = n ∧ S.1.2.1 = al) (hn0 : 1 ≤ n) (hn1 : n ≤ 10) (ho : AOK al)
    (hQ : ∀ I' L', (∀ i, i ∉ dI → i ≠ 464 → I' i = I i) → (∀ k, k ∉ dF → I' 463 k = I 463 k) → (∀ i, i ∉ dL → L' i = L i) → (∀ j, 203 ≤ j → I' 464 j = I 464 j) → RM I' L' ((n, al, 0, initM (placesM n al)), S.2) → Q none (mk I' L')) : CT l X mX10_changes 0 [.ref 463] (mk I L) Q := by
  obtain ⟨rfl, rfl⟩ := he
  refine ct_intro okX10_changes (by decide +kernel) (Or.inl rfl) (Nat.le_of_ble_eq_true rfl) fun A C W => ?_
  show A 0 [some (.ref 463)] [] _
  have hg := hc.1.gm
  apply C.vc (fun pc => pc == 4 || pc == 8) 80; (simp only [↓vk kX10_changes_0, ↓vk kX10_changes_1, ↓vk kX10_changes_4, ↓vk kX10_changes_5, ↓vk kX10_changes_8, ↓x_aload, ↓x_callV0, ↓x_vret, ↓reduceIte, List.getElem?_cons_zero, List.getElem?_cons_succ, List.getD_cons_zero, List.getD_cons_succ, List.getD_nil, List.set_cons_zero, List.set_cons_succ, lset, lset2, isL, noD, cond_true, cond_false, if_true, if_false, Bool.false_eq_true, true_and, and_true, Nat.reduceAdd, Nat.reduceBEq, Nat.reduceSub, Nat.reduceEqDiff, Nat.reduceLT, Nat.reduceLeDiff, Bool.or_false, Bool.false_or, Bool.or_true, Bool.true_or, List.append_nil, List.nil_append, List.cons_append, Option.toList_some, Option.toList_none, lo0, List.replicate, List.length_cons, List.length_nil, muI, muL, callK, catS, List.map_cons, List.map_nil, List.sum_cons, List.sum_nil, vrf, swK, ofN, Value.category, reduceCtorEq, rf_463_0, rf_463_2, rf_463_4, rf_463_6, rf_463_7, rf_463_8, rf_463_10, rf_463_11, rf_463_13, rf_463_14, rf_463_15, rf_463_16, rf_463_17, rf_463_22, rf_463_23, rf_463_24, sh_463, sh_464, sh_465, sh_466, sh_467, sh_468, sh_469, sh_470, sh_471, sh_472, sh_473, sh_474, sh_475, sh_476, sh_477, sh_478, sh_479, al_464, al_465, al_466, al_467, al_468, al_469, al_470, al_471, al_472, al_473, al_474, al_475, al_476, al_477, al_478, al_479]); (try simp (discharger := omega) only [↓ni_bI1, ↓ni_bI1o, ↓ni_bI0, ↓ni_bI0n, ↓ni_bIe, ni_bIb, Nat.reduceEqDiff, Nat.reduceLT, Nat.reduceLeDiff, Nat.reduceAdd, Nat.reduceMul, not_true_eq_false, not_false_eq_true, true_implies, false_implies, and_true, true_and, lg_cmp_eq, nI_add, pk_mul, nI_clamp, ni_le, ni_lt, ni_eq, ni_lt0, ni_0le, ni_eq0, ni_0lt, ni_le0, ni_in, ni_m9, ni_9m, up2_ne, up2_eq, up2_kn, vnar0, vnar1, Nat.add_zero, Nat.zero_add, Nat.mul_zero])
  refine ct_lays hg ho hc.1.1 hn0 hn1 fun I' L' hK hD => ?_
  have hc' := hc.keepD hK
  obtain ⟨hpl, -⟩ := placesM_ok hn1 S.1.2.1
  apply C.vc (fun pc => pc == 4 || pc == 8) 80; (simp only [↓vk kX10_changes_0, ↓vk kX10_changes_1, ↓vk kX10_changes_4, ↓vk kX10_changes_5, ↓vk kX10_changes_8, ↓x_aload, ↓x_callV0, ↓x_vret, ↓reduceIte, List.getElem?_cons_zero, List.getElem?_cons_succ, List.getD_cons_zero, List.getD_cons_succ, List.getD_nil, List.set_cons_zero, List.set_cons_succ, lset, lset2, isL, noD, cond_true, cond_false, if_true, if_false, Bool.false_eq_true, true_and, and_true, Nat.reduceAdd, Nat.reduceBEq, Nat.reduceSub, Nat.reduceEqDiff, Nat.reduceLT, Nat.reduceLeDiff, Bool.or_false, Bool.false_or, Bool.or_true, Bool.true_or, List.append_nil, List.nil_append, List.cons_append, Option.toList_some, Option.toList_none, lo0, List.replicate, List.length_cons, List.length_nil, muI, muL, callK, catS, List.map_cons, List.map_nil, List.sum_cons, List.sum_nil, vrf, swK, ofN, Value.category, reduceCtorEq, rf_463_0, rf_463_2, rf_463_4, rf_463_6, rf_463_7, rf_463_8, rf_463_10, rf_463_11, rf_463_13, rf_463_14, rf_463_15, rf_463_16, rf_463_17, rf_463_22, rf_463_23, rf_463_24, sh_463, sh_464, sh_465, sh_466, sh_467, sh_468, sh_469, sh_470, sh_471, sh_472, sh_473, sh_474, sh_475, sh_476, sh_477, sh_478, sh_479, al_464, al_465, al_466, al_467, al_468, al_469, al_470, al_471, al_472, al_473, al_474, al_475, al_476, al_477, al_478, al_479]); (try simp (discharger := omega) only [↓ni_bI1, ↓ni_bI1o, ↓ni_bI0, ↓ni_bI0n, ↓ni_bIe, ni_bIb, Nat.reduceEqDiff, Nat.reduceLT, Nat.reduceLeDiff, Nat.reduceAdd, Nat.reduceMul, not_true_eq_false, not_false_eq_true, true_implies, false_implies, and_true, true_and, lg_cmp_eq, nI_add, pk_mul, nI_clamp, ni_le, ni_lt, ni_eq, ni_lt0, ni_0le, ni_eq0, ni_0lt, ni_le0, ni_in, ni_m9, ni_9m, up2_ne, up2_eq, up2_kn, vnar0, vnar1, Nat.add_zero, Nat.zero_add, Nat.mul_zero])
  refine ct_begins hD.2.2.2.2.2.1 hD.2.2.2.2.2.2.1 hpl fun I'' k1 k2 k3 k4 => ?_
  apply C.vc (fun pc => pc == 4 || pc == 8) 80; (simp only [↓vk kX10_changes_0, ↓vk kX10_changes_1, ↓vk kX10_changes_4, ↓vk kX10_changes_5, ↓vk kX10_changes_8, ↓x_aload, ↓x_callV0, ↓x_vret, ↓reduceIte, List.getElem?_cons_zero, List.getElem?_cons_succ, List.getD_cons_zero, List.getD_cons_succ, List.getD_nil, List.set_cons_zero, List.set_cons_succ, lset, lset2, isL, noD, cond_true, cond_false, if_true, if_false, Bool.false_eq_true, true_and, and_true, Nat.reduceAdd, Nat.reduceBEq, Nat.reduceSub, Nat.reduceEqDiff, Nat.reduceLT, Nat.reduceLeDiff, Bool.or_false, Bool.false_or, Bool.or_true, Bool.true_or, List.append_nil, List.nil_append, List.cons_append, Option.toList_some, Option.toList_none, lo0, List.replicate, List.length_cons, List.length_nil, muI, muL, callK, catS, List.map_cons, List.map_nil, List.sum_cons, List.sum_nil, vrf, swK, ofN, Value.category, reduceCtorEq, rf_463_0, rf_463_2, rf_463_4, rf_463_6, rf_463_7, rf_463_8, rf_463_10, rf_463_11, rf_463_13, rf_463_14, rf_463_15, rf_463_16, rf_463_17, rf_463_22, rf_463_23, rf_463_24, sh_463, sh_464, sh_465, sh_466, sh_467, sh_468, sh_469, sh_470, sh_471, sh_472, sh_473, sh_474, sh_475, sh_476, sh_477, sh_478, sh_479, al_464, al_465, al_466, al_467, al_468, al_469, al_470, al_471, al_472, al_473, al_474, al_475, al_476, al_477, al_478, al_479]); (try simp (discharger := omega) only [↓ni_bI1, ↓ni_bI1o, ↓ni_bI0, ↓ni_bI0n, ↓ni_bIe, ni_bIb, Nat.reduceEqDiff, Nat.reduceLT, Nat.reduceLeDiff, Nat.reduceAdd, Nat.reduceMul, not_true_eq_false, not_false_eq_true, true_implies, false_implies, and_true, true_and, lg_cmp_eq, nI_add, pk_mul, nI_clamp, ni_le, ni_lt, ni_eq, ni_lt0, ni_0le, ni_eq0, ni_0lt, ni_le0, ni_in, ni_m9, ni_9m, up2_ne, up2_eq, up2_kn, vnar0, vnar1, Nat.add_zero, Nat.zero_add, Nat.mul_zero])
  refine hQ I'' L' (fun i i1 i2 => (k1 i i2).trans (hK.1 i i1)) (fun k kk => by rw [k1 463 (by decide)]; exact hK.2.1 k kk) hK.2.2 (fun j hj => (k2 j (by omega) (Or.inr hj)).trans (by rw [hK.1 464 (by decide)])) ⟨?_, ?_⟩
  · refine hc'.page hs k1 (fun j hj => k2 j (by omega) (Or.inr hj)) ?_
    obtain ⟨p1, p2, p3, p4, p5⟩ := hc'.1
    have hln := ho.1
    simp only [Nat.zero_add] at p2 p3
    refine ⟨?_, ?_, fun a ha => ?_, ?_, fun p hp => ?_⟩
    · rw [k2 0 (by omega) (Or.inl (by omega))]; exact p1
    · rw [Nat.zero_add, k2 1 (by omega) (Or.inl (by omega))]; exact p2
    · have ha : a < S.1.2.1.length := ha
      simp only [Nat.zero_add]
      rw [k2 _ (by omega) (Or.inl (by omega)), k2 _ (by omega) (Or.inl (by omega)), k2 _ (by omega) (Or.inl (by omega))]
      exact p3 a ha
    · rw [Nat.zero_add]; exact k3
    · rw [Nat.zero_add]; exact k4 p hp
  · exact hD.keep (fun i i1 i2 => k1 i (fun q => by rw [q] at i1; exact absurd i1 (by decide))) (fun k kk => by rw [k1 463 (by decide)]) (fun i i1 => rfl)

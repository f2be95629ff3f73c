/-! the reference lays all that follows from its graph -/
def growP (n : Nat) (al : List Arc) : List Nat := growM al (sepsM n al) (leastM n al) 126 []
def placesM (n : Nat) (al : List Arc) : List Nat := pruneM al (sepsM n al) [] (growP n al)
theorem getD_mem {l : List Nat} {k : Nat} (h : k < l.length) : l.getD k 0 ∈ l := by
  rw [List.getD_eq_getElem?_getD, List.getElem?_eq_getElem h]
  exact List.getElem_mem h
theorem regsM_lt {n : Nat} (hn : n ≤ 10) {al : List Arc} {q : Nat} (h : q ∈ regsM n al) : 1 ≤ q ∧ q < 1023 := by
  have h1 := regsTo_lt h
  have : 2 ^ n ≤ 2 ^ 10 := Nat.pow_le_pow_right (by omega) hn
  omega
theorem leastTo_mem {rs : List Nat} {k q : Nat} (hk : k ≤ rs.length) (h : q ∈ leastTo rs k) : q ∈ rs := by
  unfold leastTo at h
  obtain ⟨j, hj, rfl⟩ := List.mem_map.mp h
  have := List.mem_range.mp (List.mem_filter.mp hj).1
  exact getD_mem (by omega)
theorem leastM_lt {n : Nat} (hn : n ≤ 10) {al : List Arc} {q : Nat} (h : q ∈ leastM n al) : 1 ≤ q ∧ q < 1023 := regsM_lt hn (leastTo_mem (Nat.le_refl _) h)
theorem leastM_len {n : Nat} (hn : n ≤ 10) (al : List Arc) : (leastM n al).length ≤ 252 := leastM_few n hn al _ (Nat.le_refl _)
theorem growM_ok {al sl : List Arc} {ls : List Nat} (hlr : ∀ r ∈ ls, 1 ≤ r ∧ r < 1023) : ∀ (f : Nat) (ch : List Nat), (∀ r ∈ ch, 1 ≤ r ∧ r < 1023) → ch.length + unsM al sl ch ≤ 125 → (growM al sl ls f ch).length ≤ 125 ∧ ∀ r ∈ growM al sl ls f ch, 1 ≤ r ∧ r < 1023
  | 0, ch, h1, h2 => ⟨by show ch.length ≤ 125; omega, h1⟩
  | f + 1, ch, h1, h2 => by
    unfold growM
    split
    · exact ⟨by omega, h1⟩
    · rename_i hne
      rcases bestM_mem al sl ch ls with ⟨h, -⟩ | ⟨hm, h⟩
      · exact absurd h hne
      · refine growM_ok hlr f _ (fun r hr => ?_) ?_
        · rcases List.mem_append.mp hr with h | h
          · exact h1 r h
          · rw [List.mem_singleton.mp h]
            exact hlr _ hm
        · have h3 := unsM_app al ch (bestM al sl ch ls).1 sl
          rw [List.length_append, List.length_singleton]
          omega
theorem pruneM_mem (al sl : List Arc) : ∀ (rest kp : List Nat) (r : Nat), r ∈ pruneM al sl kp rest → r ∈ kp ∨ r ∈ rest
  | [], kp, r, h => Or.inl h
  | p :: rest, kp, r, h => by
    rw [pruneM_cons] at h
    split at h
    · rcases pruneM_mem al sl rest _ r h with h | h
      · rcases List.mem_append.mp h with h | h
        · exact Or.inl h
        · rw [List.mem_singleton.mp h]; exact Or.inr List.mem_cons_self
      · exact Or.inr (List.mem_cons_of_mem _ h)
    · rcases pruneM_mem al sl rest _ r h with h | h
      · exact Or.inl h
      · exact Or.inr (List.mem_cons_of_mem _ h)
theorem placesM_ok {n : Nat} (hn : n ≤ 10) (al : List Arc) : (placesM n al).length ≤ 125 ∧ ∀ r ∈ placesM n al, 1 ≤ r ∧ r < 1023 := by
  have hu : ([] : List Nat).length + unsM al (sepsM n al) [] ≤ 125 := by
    have h : unsM al (sepsM n al) [] ≤ (sepsM n al).length := List.countP_le_length
    have := sepsM_len hn al
    show 0 + _ ≤ 125
    omega
  obtain ⟨h1, h2⟩ := growM_ok (al := al) (sl := sepsM n al) (fun r hr => leastM_lt hn hr) 126 [] (fun r hr => by cases hr) hu
  have h3 := pruneM_len al (sepsM n al) (growP n al) []
  refine ⟨?_, fun r hr => ?_⟩
  · have h4 : (growP n al).length ≤ 125 := h1
    have h5 : ([] : List Nat).length = 0 := rfl
    unfold placesM
    omega
  · rcases pruneM_mem al (sepsM n al) (growP n al) [] r hr with h | h
    · cases h
    · exact h2 r h
/-- what the reference holds of its graph -/
def DM (I : Nat → Nat → Int32) (L : Nat → Nat → Int64) (n : Nat) (al : List Arc) : Prop :=
  I 463 3 = nI (regsM n al).length ∧ Hold (I 465) (regsM n al) ∧ I 463 5 = nI (leastM n al).length ∧ Hold (I 466) (leastM n al) ∧ DS I al (leastM n al) (sepsM n al) ∧ I 463 12 = nI (placesM n al).length ∧ Hold (I 471) (placesM n al) ∧ SB I al (sepsM n al) (placesM n al) ∧ FS L al (placesM n al) ∧ EX I al (placesM n al)
def dI : List Nat := [463, 465, 466, 467, 468, 469, 470, 471, 472, 477, 478]
def dF : List Nat := [3, 5, 9, 12, 18, 19, 20, 21]
def dL : List Nat := [473, 474, 475, 476]
def KeepD (I I' : Nat → Nat → Int32) (L L' : Nat → Nat → Int64) : Prop := (∀ i, i ∉ dI → I' i = I i) ∧ (∀ k, k ∉ dF → I' 463 k = I 463 k) ∧ ∀ i, i ∉ dL → L' i = L i
theorem KeepD.refl {I : Nat → Nat → Int32} {L : Nat → Nat → Int64} : KeepD I I L L := ⟨fun _ _ => rfl, fun _ _ => rfl, fun _ _ => rfl⟩
theorem KeepD.trans {I I' I'' : Nat → Nat → Int32} {L L' L'' : Nat → Nat → Int64} (h : KeepD I I' L L') (h2 : KeepD I' I'' L' L'') : KeepD I I'' L L'' := ⟨fun i hi => (h2.1 i hi).trans (h.1 i hi), fun i hi => (h2.2.1 i hi).trans (h.2.1 i hi), fun i hi => (h2.2.2 i hi).trans (h.2.2 i hi)⟩
set_option maxRecDepth 100000 in
set_option maxHeartbeats 4000000 in
theorem ct_lays {l : Launch} {X : XT} {I : Nat → Nat → Int32} {L : Nat → Nat → Int64} {al : List Arc} {n : Nat} {Q : QT} (hg : GM I al) (ho : AOK al) (hn : I 464 0 = nI n) (hn0 : 1 ≤ n) (hn1 : n ≤ 10)
    (hQ : ∀ I' L', KeepD I I' L L' → DM I' L' n al → Q none (mk I' L')) : CT l X mX10_lays 0 [.ref 463] (mk I L) Q := by
  refine ct_intro okX10_lays (by decide +kernel) (Or.inl rfl) (Nat.le_of_ble_eq_true rfl) fun A C W => ?_
  show A 0 [some (.ref 463)] [] _
  have hso : ∀ q ∈ sepsM n al, SepOK q := fun q hq => sepsM_ok hn1 hq
  have hsl := sepsM_len hn1 al
  have hls := leastM_len hn1 al
  have hlr : ∀ r ∈ leastM n al, r < 1024 := fun r hr => by have := leastM_lt hn1 hr; omega
  obtain ⟨hpl, hpr0⟩ := placesM_ok hn1 al
  have hpr : ∀ r ∈ placesM n al, r < 1024 := fun r hr => by have := hpr0 r hr; omega
  apply C.vc (fun pc => pc == 4 || pc == 8 || pc == 12 || pc == 16 || pc == 20) 80; (simp only [↓vk kX10_lays_0, ↓vk kX10_lays_1, ↓vk kX10_lays_4, ↓vk kX10_lays_5, ↓vk kX10_lays_8, ↓vk kX10_lays_9, ↓vk kX10_lays_12, ↓vk kX10_lays_13, ↓vk kX10_lays_16, ↓vk kX10_lays_17, ↓vk kX10_lays_20, ↓x_aload, ↓x_callV0, ↓x_vret, ↓reduceIte, List.getElem?_cons_zero, List.getElem?_cons_succ, List.getD_cons_zero, List.getD_cons_succ, List.getD_nil, List.set_cons_zero, List.set_cons_succ, lset, lset2, isL, noD, cond_true, cond_false, if_true, if_false, Bool.false_eq_true, true_and, and_true, Nat.reduceAdd, Nat.reduceBEq, Nat.reduceSub, Nat.reduceEqDiff, Nat.reduceLT, Nat.reduceLeDiff, Bool.or_false, Bool.false_or, Bool.or_true, Bool.true_or, List.append_nil, List.nil_append, List.cons_append, Option.toList_some, Option.toList_none, lo0, List.replicate, List.length_cons, List.length_nil, muI, muL, callK, catS, List.map_cons, List.map_nil, List.sum_cons, List.sum_nil, vrf, swK, ofN, Value.category, reduceCtorEq, rf_463_0, rf_463_2, rf_463_4, rf_463_6, rf_463_7, rf_463_8, rf_463_10, rf_463_11, rf_463_13, rf_463_14, rf_463_15, rf_463_16, rf_463_17, rf_463_22, rf_463_23, rf_463_24, sh_463, sh_464, sh_465, sh_466, sh_467, sh_468, sh_469, sh_470, sh_471, sh_472, sh_473, sh_474, sh_475, sh_476, sh_477, sh_478, sh_479, al_464, al_465, al_466, al_467, al_468, al_469, al_470, al_471, al_472, al_473, al_474, al_475, al_476, al_477, al_478, al_479]); (try simp (discharger := omega) only [↓ni_bI1, ↓ni_bI1o, ↓ni_bI0, ↓ni_bI0n, ↓ni_bIe, ni_bIb, Nat.reduceEqDiff, Nat.reduceLT, Nat.reduceLeDiff, Nat.reduceAdd, Nat.reduceMul, not_true_eq_false, not_false_eq_true, true_implies, false_implies, and_true, true_and, lg_cmp_eq, nI_add, pk_mul, nI_clamp, ni_le, ni_lt, ni_eq, ni_lt0, ni_0le, ni_eq0, ni_0lt, ni_le0, ni_in, ni_m9, ni_9m, up2_ne, up2_eq, up2_kn, vnar0, vnar1, Nat.add_zero, Nat.zero_add, Nat.mul_zero])
  refine ct_findsRegions hg ho hn hn0 hn1 fun I1 K1 a3 a465 a5 a466 => ?_
  have g1 : I1 464 = I 464 := K1.1 464 (by decide) (by decide) (by decide)
  have hg1 := hg.keep g1
  apply C.vc (fun pc => pc == 4 || pc == 8 || pc == 12 || pc == 16 || pc == 20) 80; (simp only [↓vk kX10_lays_0, ↓vk kX10_lays_1, ↓vk kX10_lays_4, ↓vk kX10_lays_5, ↓vk kX10_lays_8, ↓vk kX10_lays_9, ↓vk kX10_lays_12, ↓vk kX10_lays_13, ↓vk kX10_lays_16, ↓vk kX10_lays_17, ↓vk kX10_lays_20, ↓x_aload, ↓x_callV0, ↓x_vret, ↓reduceIte, List.getElem?_cons_zero, List.getElem?_cons_succ, List.getD_cons_zero, List.getD_cons_succ, List.getD_nil, List.set_cons_zero, List.set_cons_succ, lset, lset2, isL, noD, cond_true, cond_false, if_true, if_false, Bool.false_eq_true, true_and, and_true, Nat.reduceAdd, Nat.reduceBEq, Nat.reduceSub, Nat.reduceEqDiff, Nat.reduceLT, Nat.reduceLeDiff, Bool.or_false, Bool.false_or, Bool.or_true, Bool.true_or, List.append_nil, List.nil_append, List.cons_append, Option.toList_some, Option.toList_none, lo0, List.replicate, List.length_cons, List.length_nil, muI, muL, callK, catS, List.map_cons, List.map_nil, List.sum_cons, List.sum_nil, vrf, swK, ofN, Value.category, reduceCtorEq, rf_463_0, rf_463_2, rf_463_4, rf_463_6, rf_463_7, rf_463_8, rf_463_10, rf_463_11, rf_463_13, rf_463_14, rf_463_15, rf_463_16, rf_463_17, rf_463_22, rf_463_23, rf_463_24, sh_463, sh_464, sh_465, sh_466, sh_467, sh_468, sh_469, sh_470, sh_471, sh_472, sh_473, sh_474, sh_475, sh_476, sh_477, sh_478, sh_479, al_464, al_465, al_466, al_467, al_468, al_469, al_470, al_471, al_472, al_473, al_474, al_475, al_476, al_477, al_478, al_479]); (try simp (discharger := omega) only [↓ni_bI1, ↓ni_bI1o, ↓ni_bI0, ↓ni_bI0n, ↓ni_bIe, ni_bIb, Nat.reduceEqDiff, Nat.reduceLT, Nat.reduceLeDiff, Nat.reduceAdd, Nat.reduceMul, not_true_eq_false, not_false_eq_true, true_implies, false_implies, and_true, true_and, lg_cmp_eq, nI_add, pk_mul, nI_clamp, ni_le, ni_lt, ni_eq, ni_lt0, ni_0le, ni_eq0, ni_0lt, ni_le0, ni_in, ni_m9, ni_9m, up2_ne, up2_eq, up2_kn, vnar0, vnar1, Nat.add_zero, Nat.zero_add, Nat.mul_zero])
  refine ct_findsSeparations hg1 ho (by rw [g1]; exact hn) hn1 a5 a466 hls hlr fun I2 K2 hD => ?_
  have g2 : I2 464 = I1 464 := K2.1 464 (by decide) (by decide) (by decide) (by decide) (by decide)
  have hg2 := hg1.keep g2
  apply C.vc (fun pc => pc == 4 || pc == 8 || pc == 12 || pc == 16 || pc == 20) 80; (simp only [↓vk kX10_lays_0, ↓vk kX10_lays_1, ↓vk kX10_lays_4, ↓vk kX10_lays_5, ↓vk kX10_lays_8, ↓vk kX10_lays_9, ↓vk kX10_lays_12, ↓vk kX10_lays_13, ↓vk kX10_lays_16, ↓vk kX10_lays_17, ↓vk kX10_lays_20, ↓x_aload, ↓x_callV0, ↓x_vret, ↓reduceIte, List.getElem?_cons_zero, List.getElem?_cons_succ, List.getD_cons_zero, List.getD_cons_succ, List.getD_nil, List.set_cons_zero, List.set_cons_succ, lset, lset2, isL, noD, cond_true, cond_false, if_true, if_false, Bool.false_eq_true, true_and, and_true, Nat.reduceAdd, Nat.reduceBEq, Nat.reduceSub, Nat.reduceEqDiff, Nat.reduceLT, Nat.reduceLeDiff, Bool.or_false, Bool.false_or, Bool.or_true, Bool.true_or, List.append_nil, List.nil_append, List.cons_append, Option.toList_some, Option.toList_none, lo0, List.replicate, List.length_cons, List.length_nil, muI, muL, callK, catS, List.map_cons, List.map_nil, List.sum_cons, List.sum_nil, vrf, swK, ofN, Value.category, reduceCtorEq, rf_463_0, rf_463_2, rf_463_4, rf_463_6, rf_463_7, rf_463_8, rf_463_10, rf_463_11, rf_463_13, rf_463_14, rf_463_15, rf_463_16, rf_463_17, rf_463_22, rf_463_23, rf_463_24, sh_463, sh_464, sh_465, sh_466, sh_467, sh_468, sh_469, sh_470, sh_471, sh_472, sh_473, sh_474, sh_475, sh_476, sh_477, sh_478, sh_479, al_464, al_465, al_466, al_467, al_468, al_469, al_470, al_471, al_472, al_473, al_474, al_475, al_476, al_477, al_478, al_479]); (try simp (discharger := omega) only [↓ni_bI1, ↓ni_bI1o, ↓ni_bI0, ↓ni_bI0n, ↓ni_bIe, ni_bIb, Nat.reduceEqDiff, Nat.reduceLT, Nat.reduceLeDiff, Nat.reduceAdd, Nat.reduceMul, not_true_eq_false, not_false_eq_true, true_implies, false_implies, and_true, true_and, lg_cmp_eq, nI_add, pk_mul, nI_clamp, ni_le, ni_lt, ni_eq, ni_lt0, ni_0le, ni_eq0, ni_0lt, ni_le0, ni_in, ni_m9, ni_9m, up2_ne, up2_eq, up2_kn, vnar0, vnar1, Nat.add_zero, Nat.zero_add, Nat.mul_zero])
  refine ct_findsPlaces hg2 ho hD hso hsl (by rw [K2.2 5 (by decide)]; exact a5) (by rw [K2.1 466 (by decide) (by decide) (by decide) (by decide) (by decide)]; exact a466) hls hlr fun I3 K3 a12 a471 hB => ?_
  have g3 : I3 464 = I2 464 := K3.1 464 (by decide) (by decide) (by decide)
  have hg3 := hg2.keep g3
  apply C.vc (fun pc => pc == 4 || pc == 8 || pc == 12 || pc == 16 || pc == 20) 80; (simp only [↓vk kX10_lays_0, ↓vk kX10_lays_1, ↓vk kX10_lays_4, ↓vk kX10_lays_5, ↓vk kX10_lays_8, ↓vk kX10_lays_9, ↓vk kX10_lays_12, ↓vk kX10_lays_13, ↓vk kX10_lays_16, ↓vk kX10_lays_17, ↓vk kX10_lays_20, ↓x_aload, ↓x_callV0, ↓x_vret, ↓reduceIte, List.getElem?_cons_zero, List.getElem?_cons_succ, List.getD_cons_zero, List.getD_cons_succ, List.getD_nil, List.set_cons_zero, List.set_cons_succ, lset, lset2, isL, noD, cond_true, cond_false, if_true, if_false, Bool.false_eq_true, true_and, and_true, Nat.reduceAdd, Nat.reduceBEq, Nat.reduceSub, Nat.reduceEqDiff, Nat.reduceLT, Nat.reduceLeDiff, Bool.or_false, Bool.false_or, Bool.or_true, Bool.true_or, List.append_nil, List.nil_append, List.cons_append, Option.toList_some, Option.toList_none, lo0, List.replicate, List.length_cons, List.length_nil, muI, muL, callK, catS, List.map_cons, List.map_nil, List.sum_cons, List.sum_nil, vrf, swK, ofN, Value.category, reduceCtorEq, rf_463_0, rf_463_2, rf_463_4, rf_463_6, rf_463_7, rf_463_8, rf_463_10, rf_463_11, rf_463_13, rf_463_14, rf_463_15, rf_463_16, rf_463_17, rf_463_22, rf_463_23, rf_463_24, sh_463, sh_464, sh_465, sh_466, sh_467, sh_468, sh_469, sh_470, sh_471, sh_472, sh_473, sh_474, sh_475, sh_476, sh_477, sh_478, sh_479, al_464, al_465, al_466, al_467, al_468, al_469, al_470, al_471, al_472, al_473, al_474, al_475, al_476, al_477, al_478, al_479]); (try simp (discharger := omega) only [↓ni_bI1, ↓ni_bI1o, ↓ni_bI0, ↓ni_bI0n, ↓ni_bIe, ni_bIb, Nat.reduceEqDiff, Nat.reduceLT, Nat.reduceLeDiff, Nat.reduceAdd, Nat.reduceMul, not_true_eq_false, not_false_eq_true, true_implies, false_implies, and_true, true_and, lg_cmp_eq, nI_add, pk_mul, nI_clamp, ni_le, ni_lt, ni_eq, ni_lt0, ni_0le, ni_eq0, ni_0lt, ni_le0, ni_in, ni_m9, ni_9m, up2_ne, up2_eq, up2_kn, vnar0, vnar1, Nat.add_zero, Nat.zero_add, Nat.mul_zero])
  refine ct_findsFlows (pl := placesM n al) hg3 ho a12 a471 hpl hpr fun L4 K4 hF => ?_
  apply C.vc (fun pc => pc == 4 || pc == 8 || pc == 12 || pc == 16 || pc == 20) 80; (simp only [↓vk kX10_lays_0, ↓vk kX10_lays_1, ↓vk kX10_lays_4, ↓vk kX10_lays_5, ↓vk kX10_lays_8, ↓vk kX10_lays_9, ↓vk kX10_lays_12, ↓vk kX10_lays_13, ↓vk kX10_lays_16, ↓vk kX10_lays_17, ↓vk kX10_lays_20, ↓x_aload, ↓x_callV0, ↓x_vret, ↓reduceIte, List.getElem?_cons_zero, List.getElem?_cons_succ, List.getD_cons_zero, List.getD_cons_succ, List.getD_nil, List.set_cons_zero, List.set_cons_succ, lset, lset2, isL, noD, cond_true, cond_false, if_true, if_false, Bool.false_eq_true, true_and, and_true, Nat.reduceAdd, Nat.reduceBEq, Nat.reduceSub, Nat.reduceEqDiff, Nat.reduceLT, Nat.reduceLeDiff, Bool.or_false, Bool.false_or, Bool.or_true, Bool.true_or, List.append_nil, List.nil_append, List.cons_append, Option.toList_some, Option.toList_none, lo0, List.replicate, List.length_cons, List.length_nil, muI, muL, callK, catS, List.map_cons, List.map_nil, List.sum_cons, List.sum_nil, vrf, swK, ofN, Value.category, reduceCtorEq, rf_463_0, rf_463_2, rf_463_4, rf_463_6, rf_463_7, rf_463_8, rf_463_10, rf_463_11, rf_463_13, rf_463_14, rf_463_15, rf_463_16, rf_463_17, rf_463_22, rf_463_23, rf_463_24, sh_463, sh_464, sh_465, sh_466, sh_467, sh_468, sh_469, sh_470, sh_471, sh_472, sh_473, sh_474, sh_475, sh_476, sh_477, sh_478, sh_479, al_464, al_465, al_466, al_467, al_468, al_469, al_470, al_471, al_472, al_473, al_474, al_475, al_476, al_477, al_478, al_479]); (try simp (discharger := omega) only [↓ni_bI1, ↓ni_bI1o, ↓ni_bI0, ↓ni_bI0n, ↓ni_bIe, ni_bIb, Nat.reduceEqDiff, Nat.reduceLT, Nat.reduceLeDiff, Nat.reduceAdd, Nat.reduceMul, not_true_eq_false, not_false_eq_true, true_implies, false_implies, and_true, true_and, lg_cmp_eq, nI_add, pk_mul, nI_clamp, ni_le, ni_lt, ni_eq, ni_lt0, ni_0le, ni_eq0, ni_0lt, ni_le0, ni_in, ni_m9, ni_9m, up2_ne, up2_eq, up2_kn, vnar0, vnar1, Nat.add_zero, Nat.zero_add, Nat.mul_zero])
  refine ct_explores hg3 ho hF a12 a471 hpl hpr fun I5 L5 K5 K5L hE => ?_
  apply C.vc (fun pc => pc == 4 || pc == 8 || pc == 12 || pc == 16 || pc == 20) 80; (simp only [↓vk kX10_lays_0, ↓vk kX10_lays_1, ↓vk kX10_lays_4, ↓vk kX10_lays_5, ↓vk kX10_lays_8, ↓vk kX10_lays_9, ↓vk kX10_lays_12, ↓vk kX10_lays_13, ↓vk kX10_lays_16, ↓vk kX10_lays_17, ↓vk kX10_lays_20, ↓x_aload, ↓x_callV0, ↓x_vret, ↓reduceIte, List.getElem?_cons_zero, List.getElem?_cons_succ, List.getD_cons_zero, List.getD_cons_succ, List.getD_nil, List.set_cons_zero, List.set_cons_succ, lset, lset2, isL, noD, cond_true, cond_false, if_true, if_false, Bool.false_eq_true, true_and, and_true, Nat.reduceAdd, Nat.reduceBEq, Nat.reduceSub, Nat.reduceEqDiff, Nat.reduceLT, Nat.reduceLeDiff, Bool.or_false, Bool.false_or, Bool.or_true, Bool.true_or, List.append_nil, List.nil_append, List.cons_append, Option.toList_some, Option.toList_none, lo0, List.replicate, List.length_cons, List.length_nil, muI, muL, callK, catS, List.map_cons, List.map_nil, List.sum_cons, List.sum_nil, vrf, swK, ofN, Value.category, reduceCtorEq, rf_463_0, rf_463_2, rf_463_4, rf_463_6, rf_463_7, rf_463_8, rf_463_10, rf_463_11, rf_463_13, rf_463_14, rf_463_15, rf_463_16, rf_463_17, rf_463_22, rf_463_23, rf_463_24, sh_463, sh_464, sh_465, sh_466, sh_467, sh_468, sh_469, sh_470, sh_471, sh_472, sh_473, sh_474, sh_475, sh_476, sh_477, sh_478, sh_479, al_464, al_465, al_466, al_467, al_468, al_469, al_470, al_471, al_472, al_473, al_474, al_475, al_476, al_477, al_478, al_479]); (try simp (discharger := omega) only [↓ni_bI1, ↓ni_bI1o, ↓ni_bI0, ↓ni_bI0n, ↓ni_bIe, ni_bIb, Nat.reduceEqDiff, Nat.reduceLT, Nat.reduceLeDiff, Nat.reduceAdd, Nat.reduceMul, not_true_eq_false, not_false_eq_true, true_implies, false_implies, and_true, true_and, lg_cmp_eq, nI_add, pk_mul, nI_clamp, ni_le, ni_lt, ni_eq, ni_lt0, ni_0le, ni_eq0, ni_0lt, ni_le0, ni_in, ni_m9, ni_9m, up2_ne, up2_eq, up2_kn, vnar0, vnar1, Nat.add_zero, Nat.zero_add, Nat.mul_zero])
  have n465 : ∀ i, i ≠ 463 → i ≠ 477 → i ≠ 478 → I5 i = I3 i := K5.1
  refine hQ I5 L5 ⟨fun i hi => ?_, fun k hk => ?_, fun i hi => ?_⟩ ⟨?_, ?_, ?_, ?_, ?_, ?_, ?_, ?_, ?_, hE⟩
  · simp only [dI, List.mem_cons, List.not_mem_nil, or_false, not_or] at hi
    obtain ⟨i1, i2, i3, i4, i5, i6, i7, i8, i9, i10, i11⟩ := hi
    rw [K5.1 i i1 i10 i11, K3.1 i i1 i8 i9, K2.1 i i1 i4 i5 i6 i7, K1.1 i i1 i2 i3]
  · simp only [dF, List.mem_cons, List.not_mem_nil, or_false, not_or] at hk
    obtain ⟨k1, k2, k3, k4, k5, k6, k7, k8⟩ := hk
    rw [K5.2 k k5 k6 k7 k8, K3.2 k k4, K2.2 k k3, K1.2 k k1 k2]
  · simp only [dL, List.mem_cons, List.not_mem_nil, or_false, not_or] at hi
    obtain ⟨i1, i2, i3, i4⟩ := hi
    rw [K5L i i3 i4, K4 i i1 i2]
  · rw [K5.2 3 (by decide) (by decide) (by decide) (by decide), K3.2 3 (by decide), K2.2 3 (by decide)]; exact a3
  · rw [K5.1 465 (by decide) (by decide) (by decide), K3.1 465 (by decide) (by decide) (by decide), K2.1 465 (by decide) (by decide) (by decide) (by decide) (by decide)]; exact a465
  · rw [K5.2 5 (by decide) (by decide) (by decide) (by decide), K3.2 5 (by decide), K2.2 5 (by decide)]; exact a5
  · rw [K5.1 466 (by decide) (by decide) (by decide), K3.1 466 (by decide) (by decide) (by decide), K2.1 466 (by decide) (by decide) (by decide) (by decide) (by decide)]; exact a466
  · refine hD.keep ?_ ?_ ?_ ?_ ?_
    · rw [K5.2 9 (by decide) (by decide) (by decide) (by decide), K3.2 9 (by decide)]
    · rw [K5.1 467 (by decide) (by decide) (by decide), K3.1 467 (by decide) (by decide) (by decide)]
    · rw [K5.1 468 (by decide) (by decide) (by decide), K3.1 468 (by decide) (by decide) (by decide)]
    · rw [K5.1 469 (by decide) (by decide) (by decide), K3.1 469 (by decide) (by decide) (by decide)]
    · rw [K5.1 470 (by decide) (by decide) (by decide), K3.1 470 (by decide) (by decide) (by decide)]
  · rw [K5.2 12 (by decide) (by decide) (by decide) (by decide)]; exact a12
  · rw [K5.1 471 (by decide) (by decide) (by decide)]; exact a471
  · intro k hk
    rw [K5.1 472 (by decide) (by decide) (by decide)]
    exact hB k hk
  · intro e he
    rw [K5L 473 (by decide) (by decide), K5L 474 (by decide) (by decide)]
    exact hF e he
/-! markings bit by bit -/
def bitM (m : MK) (p : Nat) : Bool := if p < 64 then m.1.toBitVec.getLsbD p else m.2.toBitVec.getLsbD (p - 64)
theorem bitL_bit {j : Nat} (hj : j < 64) (i : Nat) : (bitL j).toBitVec.getLsbD i = decide (i = j) := by
  have key : ∀ j, j < 64 → (bitL j).toBitVec = BitVec.twoPow 64 j := by decide +kernel
  rw [key j hj, BitVec.getLsbD_twoPow]
  by_cases h : i = j
  · subst h; simp [hj]
  · have h2 : ¬ j = i := fun q => h q.symm
    simp [h, h2]
theorem bitM_or {m : MK} {p : Nat} (hp : p < 128) (i : Nat) (hi : i < 128) : bitM (orBit m p) i = (bitM m i || decide (i = p)) := by
  unfold bitM orBit
  by_cases h1 : p < 64
  · rw [if_pos h1]
    by_cases h2 : i < 64
    · simp only [h2, if_true, Int64.toBitVec_or, BitVec.getLsbD_or, bitL_bit h1]
    · have h3 : ¬ i = p := by omega
      simp [h2, h3]
  · rw [if_neg h1]
    by_cases h2 : i < 64
    · have h3 : ¬ i = p := by omega
      simp [h2, h3]
    · simp only [h2, if_false, Int64.toBitVec_or, BitVec.getLsbD_or, bitL_bit (show p - 64 < 64 by omega)]
      have h4 : (i - 64 = p - 64) = (i = p) := propext (by omega)
      simp only [h4]
theorem bitM_0 (i : Nat) : bitM (0, 0) i = false := by
  unfold bitM
  split <;> simp
theorem bitM_init (pl : List Nat) : ∀ k, k ≤ 128 → ∀ i, i < 128 → bitM (initTo pl k) i = (decide (i < k) && (pl.getD i 0).testBit 0)
  | 0, _, i, _ => by
    show bitM (0, 0) i = _
    rw [bitM_0]
    simp
  | k + 1, hk, i, hi => by
    have ih := bitM_init pl k (by omega) i hi
    unfold initTo
    split
    · rename_i h
      rw [bitM_or (by omega) i hi, ih]
      by_cases h1 : i = k
      · subst h1; rw [h]; simp
      · have h2 : (i < k + 1) = (i < k) := propext (by omega)
        simp [h1, h2]
    · rename_i h
      rw [ih]
      by_cases h1 : i = k
      · subst h1
        have h3 : (pl.getD i 0).testBit 0 = false := by simpa using h
        rw [h3]; simp
      · have h2 : (i < k + 1) = (i < k) := propext (by omega)
        simp [h2]
theorem bitM_flow (al : List Arc) (pl : List Nat) (e how : Nat) : ∀ k, k ≤ 128 → ∀ i, i < 128 → bitM (flowTo al pl e how k) i = (decide (i < k) && decide (crossM al (pl.getD i 0) e = how))
  | 0, _, i, _ => by
    show bitM (0, 0) i = _
    rw [bitM_0]
    simp
  | k + 1, hk, i, hi => by
    have ih := bitM_flow al pl e how k (by omega) i hi
    unfold flowTo
    split
    · rename_i h
      rw [bitM_or (by omega) i hi, ih]
      by_cases h1 : i = k
      · subst h1; rw [decide_eq_true h]; simp
      · have h2 : (i < k + 1) = (i < k) := propext (by omega)
        simp [h1, h2]
    · rename_i h
      rw [ih]
      by_cases h1 : i = k
      · subst h1; rw [decide_eq_false h]; simp
      · have h2 : (i < k + 1) = (i < k) := propext (by omega)
        simp [h2]
set_option maxRecDepth 100000 in
set_option maxHeartbeats 4000000 in
theorem ct_begins {l : Launch} {X : XT} {I : Nat → Nat → Int32} {L : Nat → Nat → Int64} {pl : List Nat} {Q : QT} (h12 : I 463 12 = nI pl.length) (hpH : Hold (I 471) pl) (hpl : pl.length ≤ 125)
    (hQ : ∀ I', (∀ i, i ≠ 464 → I' i = I i) → (∀ k, k ≠ 74 → (k < 75 ∨ 203 ≤ k) → I' 464 k = I 464 k) → I' 464 74 = nI 0 → (∀ p, p < 128 → I' 464 (75 + p) = nI (bI (bitM (initM pl) p))) → Q none (mk I' L)) : CT l X mX10_begins 0 [.ref 463] (mk I L) Q := by
  refine ct_intro okX10_begins (by decide +kernel) (Or.inl rfl) (Nat.le_of_ble_eq_true rfl) fun A C W => ?_
  show A 0 [some (.ref 463), none] [] _
  have loop : ∀ p, p ≤ 128 → ∀ I', (∀ i, i ≠ 464 → I' i = I i) → (∀ k, k ≠ 74 → (k < 75 ∨ 203 ≤ k) → I' 464 k = I 464 k) → I' 464 74 = nI 0 → (∀ j, j < p → I' 464 (75 + j) = nI (bI (bitM (initM pl) j))) → A 10 [some (.ref 463), some (.int (nI p))] [] (mk I' L) := by
    refine down fun p hp ih I' k1 k2 k3 k4 => ?_
    have e12 : I' 463 12 = nI pl.length := by rw [k1 463 (by decide)]; exact h12
    have e471 : Hold (I' 471) pl := by rw [k1 471 (by decide)]; exact hpH
    apply C.vc (fun pc => pc == 10) 80; (simp only [↓vk kX10_begins_0, ↓vk kX10_begins_1, ↓vk kX10_begins_4, ↓vk kX10_begins_6, ↓vk kX10_begins_7, ↓vk kX10_begins_8, ↓vk kX10_begins_9, ↓vk kX10_begins_10, ↓vk kX10_begins_11, ↓vk kX10_begins_14, ↓vk kX10_begins_17, ↓vk kX10_begins_18, ↓vk kX10_begins_21, ↓vk kX10_begins_23, ↓vk kX10_begins_24, ↓vk kX10_begins_25, ↓vk kX10_begins_26, ↓vk kX10_begins_27, ↓vk kX10_begins_30, ↓vk kX10_begins_33, ↓vk kX10_begins_34, ↓vk kX10_begins_37, ↓vk kX10_begins_38, ↓vk kX10_begins_39, ↓vk kX10_begins_40, ↓vk kX10_begins_41, ↓vk kX10_begins_44, ↓vk kX10_begins_45, ↓vk kX10_begins_46, ↓vk kX10_begins_49, ↓vk kX10_begins_52, ↓x_aload, ↓x_getI, ↓x_getR, ↓x_goto, ↓x_iald, ↓x_iast, ↓x_icmp, ↓x_ii, ↓x_iinc, ↓x_iload, ↓x_istore, ↓x_push, ↓x_vret, ↓reduceIte, List.getElem?_cons_zero, List.getElem?_cons_succ, List.getD_cons_zero, List.getD_cons_succ, List.getD_nil, List.set_cons_zero, List.set_cons_succ, lset, lset2, isL, noD, cond_true, cond_false, if_true, if_false, Bool.false_eq_true, true_and, and_true, Nat.reduceAdd, Nat.reduceBEq, Nat.reduceSub, Nat.reduceEqDiff, Nat.reduceLT, Nat.reduceLeDiff, Bool.or_false, Bool.false_or, Bool.or_true, Bool.true_or, List.append_nil, List.nil_append, List.cons_append, Option.toList_some, Option.toList_none, lo0, List.replicate, List.length_cons, List.length_nil, muI, muL, callK, catS, List.map_cons, List.map_nil, List.sum_cons, List.sum_nil, vrf, swK, ofN, Value.category, reduceCtorEq, rf_463_0, rf_463_2, rf_463_4, rf_463_6, rf_463_7, rf_463_8, rf_463_10, rf_463_11, rf_463_13, rf_463_14, rf_463_15, rf_463_16, rf_463_17, rf_463_22, rf_463_23, rf_463_24, sh_463, sh_464, sh_465, sh_466, sh_467, sh_468, sh_469, sh_470, sh_471, sh_472, sh_473, sh_474, sh_475, sh_476, sh_477, sh_478, sh_479, al_464, al_465, al_466, al_467, al_468, al_469, al_470, al_471, al_472, al_473, al_474, al_475, al_476, al_477, al_478, al_479]); (try simp (discharger := omega) only [↓ni_bI1, ↓ni_bI1o, ↓ni_bI0, ↓ni_bI0n, ↓ni_bIe, ni_bIb, Nat.reduceEqDiff, Nat.reduceLT, Nat.reduceLeDiff, Nat.reduceAdd, Nat.reduceMul, not_true_eq_false, not_false_eq_true, true_implies, false_implies, and_true, true_and, lg_cmp_eq, nI_add, pk_mul, nI_clamp, ni_le, ni_lt, ni_eq, ni_lt0, ni_0le, ni_eq0, ni_0lt, ni_le0, ni_in, ni_m9, ni_9m, up2_ne, up2_eq, up2_kn, vnar0, vnar1, Nat.add_zero, Nat.zero_add, Nat.mul_zero, e12])
    refine ⟨fun hx => ?_, fun hx => ?_⟩
    · have h8 : p = 128 := by omega
      subst h8
      exact hQ I' k1 k2 k3 k4
    · have hbm := bitM_init pl pl.length (by omega) p (by omega)
      have next : ∀ v : Int32, v = nI (bI (bitM (initM pl) p)) → A 10 [some (.ref 463), some (.int (nI (p + 1)))] [] (mk (up2 I' 464 (75 + p) v) L) := by
        intro v hv
        refine ih (by omega) _ (fun i i1 => ?_) (fun k a b => ?_) ?_ (fun j hj => ?_)
        · rw [up2_ne i1]; exact k1 i i1
        · rw [up2_kn (by omega)]; exact k2 k a b
        · rw [up2_kn (by omega)]; exact k3
        · by_cases hjp : j = p
          · rw [hjp, up2_eq]; exact hv
          · rw [up2_kn (by omega)]; exact k4 j (by omega)
      refine ⟨fun g => ⟨by omega, ?_⟩, fun g => ⟨by omega, by omega, ?_⟩⟩
      · refine next _ ?_
        unfold initM
        rw [hbm, decide_eq_false (by omega)]
        rfl
      · refine next _ ?_
        unfold initM
        rw [hbm, decide_eq_true (by omega), e471 p (by omega), ni_odd]
        rfl
  apply C.vc (fun pc => pc == 10) 80; (simp only [↓vk kX10_begins_0, ↓vk kX10_begins_1, ↓vk kX10_begins_4, ↓vk kX10_begins_6, ↓vk kX10_begins_7, ↓vk kX10_begins_8, ↓vk kX10_begins_9, ↓vk kX10_begins_10, ↓vk kX10_begins_11, ↓vk kX10_begins_14, ↓vk kX10_begins_17, ↓vk kX10_begins_18, ↓vk kX10_begins_21, ↓vk kX10_begins_23, ↓vk kX10_begins_24, ↓vk kX10_begins_25, ↓vk kX10_begins_26, ↓vk kX10_begins_27, ↓vk kX10_begins_30, ↓vk kX10_begins_33, ↓vk kX10_begins_34, ↓vk kX10_begins_37, ↓vk kX10_begins_38, ↓vk kX10_begins_39, ↓vk kX10_begins_40, ↓vk kX10_begins_41, ↓vk kX10_begins_44, ↓vk kX10_begins_45, ↓vk kX10_begins_46, ↓vk kX10_begins_49, ↓vk kX10_begins_52, ↓x_aload, ↓x_getI, ↓x_getR, ↓x_goto, ↓x_iald, ↓x_iast, ↓x_icmp, ↓x_ii, ↓x_iinc, ↓x_iload, ↓x_istore, ↓x_push, ↓x_vret, ↓reduceIte, List.getElem?_cons_zero, List.getElem?_cons_succ, List.getD_cons_zero, List.getD_cons_succ, List.getD_nil, List.set_cons_zero, List.set_cons_succ, lset, lset2, isL, noD, cond_true, cond_false, if_true, if_false, Bool.false_eq_true, true_and, and_true, Nat.reduceAdd, Nat.reduceBEq, Nat.reduceSub, Nat.reduceEqDiff, Nat.reduceLT, Nat.reduceLeDiff, Bool.or_false, Bool.false_or, Bool.or_true, Bool.true_or, List.append_nil, List.nil_append, List.cons_append, Option.toList_some, Option.toList_none, lo0, List.replicate, List.length_cons, List.length_nil, muI, muL, callK, catS, List.map_cons, List.map_nil, List.sum_cons, List.sum_nil, vrf, swK, ofN, Value.category, reduceCtorEq, rf_463_0, rf_463_2, rf_463_4, rf_463_6, rf_463_7, rf_463_8, rf_463_10, rf_463_11, rf_463_13, rf_463_14, rf_463_15, rf_463_16, rf_463_17, rf_463_22, rf_463_23, rf_463_24, sh_463, sh_464, sh_465, sh_466, sh_467, sh_468, sh_469, sh_470, sh_471, sh_472, sh_473, sh_474, sh_475, sh_476, sh_477, sh_478, sh_479, al_464, al_465, al_466, al_467, al_468, al_469, al_470, al_471, al_472, al_473, al_474, al_475, al_476, al_477, al_478, al_479]); (try simp (discharger := omega) only [↓ni_bI1, ↓ni_bI1o, ↓ni_bI0, ↓ni_bI0n, ↓ni_bIe, ni_bIb, Nat.reduceEqDiff, Nat.reduceLT, Nat.reduceLeDiff, Nat.reduceAdd, Nat.reduceMul, not_true_eq_false, not_false_eq_true, true_implies, false_implies, and_true, true_and, lg_cmp_eq, nI_add, pk_mul, nI_clamp, ni_le, ni_lt, ni_eq, ni_lt0, ni_0le, ni_eq0, ni_0lt, ni_le0, ni_in, ni_m9, ni_9m, up2_ne, up2_eq, up2_kn, vnar0, vnar1, Nat.add_zero, Nat.zero_add, Nat.mul_zero])
  refine loop 0 (by omega) _ (fun i i1 => up2_ne i1) (fun k a b => up2_kn a) up2_eq (fun j hj => absurd hj (Nat.not_lt_zero _))

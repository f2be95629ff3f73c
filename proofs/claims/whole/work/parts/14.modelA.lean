/-! the reference: its graph, and the small methods over it -/
theorem down {P : Nat → Prop} {n : Nat} (hs : ∀ k, k ≤ n → (k < n → P (k + 1)) → P k) : ∀ k, k ≤ n → P k := by
  intro k hk
  obtain ⟨d, hd⟩ : ∃ d, d = n - k := ⟨_, rfl⟩
  induction d generalizing k with
  | zero => exact hs k hk (fun h => by omega)
  | succ d ih => exact hs k hk (fun h => ih (k + 1) (by omega) (by omega))
theorem vk {cd : List PT} {E : ET} {cut : Nat → Bool} {A : KT} {n pc : Nat} {lo : LO} {st : List Value} {μ : Mu} {f : PT} (h : cd.getD pc x_bad = f) : vcK cd E cut A (n + 1) pc lo st μ = f pc lo st μ (fun pc' lo' st' μ' => if cut pc' = true then A pc' lo' st' μ' else vcK cd E cut A n pc' lo' st' μ') E := by
  rw [← h]
  have e : (fun (pc' : Nat) (lo' : LO) (st' : List Value) (μ' : Mu) => bif cut pc' then A pc' lo' st' μ' else vcK cd E cut A n pc' lo' st' μ') = (fun (pc' : Nat) (lo' : LO) (st' : List Value) (μ' : Mu) => if cut pc' = true then A pc' lo' st' μ' else vcK cd E cut A n pc' lo' st' μ') := by
    funext pc' lo' st' μ'
    cases cut pc' <;> rfl
  rw [← e]
  rfl
abbrev Arc : Type := Nat × Nat × Nat
def arc (al : List Arc) (a : Nat) : Arc := al.getD a (0, 0, 0)
def AOK (al : List Arc) : Prop := al.length ≤ 24 ∧ ∀ x ∈ al, x.1 < 10 ∧ x.2.1 < 8 ∧ x.2.2 < 10
/-- the graph on the reference's page: its arcs -/
def GM (I : Nat → Nat → Int32) (al : List Arc) : Prop := I 464 1 = nI al.length ∧ ∀ a, a < al.length → I 464 (2 + 3 * a) = nI (arc al a).1 ∧ I 464 (2 + 3 * a + 1) = nI (arc al a).2.1 ∧ I 464 (2 + 3 * a + 2) = nI (arc al a).2.2
theorem arc_mem {al : List Arc} {a : Nat} (h : a < al.length) : arc al a ∈ al := by
  unfold arc
  rw [List.getD_eq_getElem?_getD, List.getElem?_eq_getElem h]
  exact List.getElem_mem h
theorem arc_get {al : List Arc} {a : Nat} (h : a < al.length) : al[a] = arc al a := by
  unfold arc
  rw [List.getD_eq_getElem?_getD, List.getElem?_eq_getElem h]
  rfl
theorem AOK.at {al : List Arc} (h : AOK al) {a : Nat} (ha : a < al.length) : (arc al a).1 < 10 ∧ (arc al a).2.1 < 8 ∧ (arc al a).2.2 < 10 := h.2 _ (arc_mem ha)
set_option maxRecDepth 100000 in
set_option maxHeartbeats 4000000 in
theorem ct_of {l : Launch} {X : XT} {I : Nat → Nat → Int32} {L : Nat → Nat → Int64} {a w : Nat} {Q : QT} (h : 2 + 3 * a + w < 2030) (hQ : Q (some (.int (I 464 (2 + 3 * a + w)))) (mk I L)) : CT l X mX10_of 0 [.ref 463, .int (nI a), .int (nI w)] (mk I L) Q := by
  refine ct_intro okX10_of (by decide +kernel) (Or.inr (Or.inl rfl)) (Nat.le_of_ble_eq_true rfl) fun A C W => ?_
  show A 0 [some (.ref 463), some (.int (nI a)), some (.int (nI w))] [] _
  apply C.vc (fun _ => false) 20
  simp only [↓vk kX10_of_0, ↓vk kX10_of_1, ↓vk kX10_of_4, ↓vk kX10_of_5, ↓vk kX10_of_6, ↓vk kX10_of_7, ↓vk kX10_of_8, ↓vk kX10_of_9, ↓vk kX10_of_10, ↓vk kX10_of_11, ↓vk kX10_of_12, ↓x_aload, ↓x_getR, ↓x_iald, ↓x_ii, ↓x_iload, ↓x_iret, ↓x_push, ↓reduceIte, List.getElem?_cons_zero, List.getElem?_cons_succ, List.getD_cons_zero, List.getD_cons_succ, List.getD_nil, List.set_cons_zero, List.set_cons_succ, lset, lset2, isL, noD, cond_true, cond_false, if_true, if_false, Bool.false_eq_true, true_and, and_true, Nat.reduceAdd, Nat.reduceBEq, Nat.reduceSub, Nat.reduceEqDiff, Nat.reduceLT, Nat.reduceLeDiff, Bool.or_false, Bool.false_or, Bool.or_true, Bool.true_or, List.append_nil, List.nil_append, List.cons_append, Option.toList_some, Option.toList_none, lo0, List.replicate, List.length_cons, List.length_nil, muI, muL, callK, catS, List.map_cons, List.map_nil, List.sum_cons, List.sum_nil, vrf, swK, ofN, Value.category, reduceCtorEq, rf_463_0, rf_463_2, rf_463_4, rf_463_6, rf_463_7, rf_463_8, rf_463_10, rf_463_11, rf_463_13, rf_463_14, rf_463_15, rf_463_16, rf_463_17, rf_463_22, rf_463_23, rf_463_24, sh_463, sh_464, sh_465, sh_466, sh_467, sh_468, sh_469, sh_470, sh_471, sh_472, sh_473, sh_474, sh_475, sh_476, sh_477, sh_478, sh_479, al_464, al_465, al_466, al_467, al_468, al_469, al_470, al_471, al_472, al_473, al_474, al_475, al_476, al_477, al_478, al_479]
  simp (discharger := omega) only [lg_cmp_eq, nI_add, pk_mul, nI_clamp, ni_le, ni_lt, ni_eq, ni_lt0, ni_0le, ni_eq0, ni_0lt, ni_le0, ni_in, ni_m9, ni_9m, up2_ne, up2_eq, up2_kn, vnar0, vnar1]
  exact ⟨h, hQ⟩
def leadsO (al : List Arc) (s e : Nat) : Option Nat := (al.find? (fun x => x.1 == s && x.2.1 == e)).map (fun x => x.2.2)
def orI (o : Option Nat) (d : Int32) : Int32 := match o with
  | some t => nI t
  | none => d
theorem find_at {α : Type} {p : α → Bool} : ∀ {l : List α} {k : Nat} (h : k < l.length), (∀ i (hi : i < k), p (l[i]'(Nat.lt_trans hi h)) = false) → p l[k] = true → l.find? p = some l[k]
  | [], k, h, _, _ => absurd h (Nat.not_lt_zero _)
  | x :: l, 0, h, _, h2 => by
    simp only [List.getElem_cons_zero] at h2 ⊢
    simp [List.find?_cons, h2]
  | x :: l, k + 1, h, h1, h2 => by
    have h0 := h1 0 (Nat.succ_pos k)
    simp only [List.getElem_cons_zero] at h0
    simp only [List.getElem_cons_succ] at h2 ⊢
    rw [List.find?_cons, h0]
    exact find_at (by simpa using h) (fun i hi => by simpa using h1 (i + 1) (by omega)) h2
set_option maxRecDepth 100000 in
set_option maxHeartbeats 4000000 in
theorem ct_leads {l : Launch} {X : XT} {I : Nat → Nat → Int32} {L : Nat → Nat → Int64} {al : List Arc} {s e : Nat} {Q : QT} (hg : GM I al) (ho : AOK al) (hs : s < 2 ^ 31) (he : e < 2 ^ 31) (hQ : Q (some (.int (orI (leadsO al s e) (-9)))) (mk I L)) : CT l X mX10_leads 0 [.ref 463, .int (nI s), .int (nI e)] (mk I L) Q := by
  refine ct_intro okX10_leads (by decide +kernel) (Or.inr (Or.inl rfl)) (Nat.le_of_ble_eq_true rfl) fun A C W => ?_
  show A 0 [some (.ref 463), some (.int (nI s)), some (.int (nI e)), none] [] _
  obtain ⟨hg1, hg2⟩ := hg
  have hl := ho.1
  have loop : ∀ a, a ≤ al.length → (∀ i, i < a → ¬ ((arc al i).1 = s ∧ (arc al i).2.1 = e)) → A 2 [some (.ref 463), some (.int (nI s)), some (.int (nI e)), some (.int (nI a))] [] (mk I L) := by
    refine down fun a ha ih hb => ?_
    apply C.vc (fun pc => pc == 2) 60
    (simp only [↓vk kX10_leads_0, ↓vk kX10_leads_1, ↓vk kX10_leads_2, ↓vk kX10_leads_3, ↓vk kX10_leads_4, ↓vk kX10_leads_7, ↓vk kX10_leads_8, ↓vk kX10_leads_9, ↓vk kX10_leads_12, ↓vk kX10_leads_13, ↓vk kX10_leads_14, ↓vk kX10_leads_15, ↓vk kX10_leads_18, ↓vk kX10_leads_19, ↓vk kX10_leads_22, ↓vk kX10_leads_23, ↓vk kX10_leads_24, ↓vk kX10_leads_25, ↓vk kX10_leads_28, ↓vk kX10_leads_29, ↓vk kX10_leads_32, ↓vk kX10_leads_33, ↓vk kX10_leads_34, ↓vk kX10_leads_35, ↓vk kX10_leads_38, ↓vk kX10_leads_39, ↓vk kX10_leads_42, ↓vk kX10_leads_45, ↓vk kX10_leads_47, ↓x_aload, ↓x_callV2, ↓x_getR, ↓x_goto, ↓x_iald, ↓x_icmp, ↓x_icmpn, ↓x_iinc, ↓x_iload, ↓x_iret, ↓x_istore, ↓x_push, ↓reduceIte, List.getElem?_cons_zero, List.getElem?_cons_succ, List.getD_cons_zero, List.getD_cons_succ, List.getD_nil, List.set_cons_zero, List.set_cons_succ, lset, lset2, isL, noD, cond_true, cond_false, if_true, if_false, Bool.false_eq_true, true_and, and_true, Nat.reduceAdd, Nat.reduceBEq, Nat.reduceSub, Nat.reduceEqDiff, Nat.reduceLT, Nat.reduceLeDiff, Bool.or_false, Bool.false_or, Bool.or_true, Bool.true_or, List.append_nil, List.nil_append, List.cons_append, Option.toList_some, Option.toList_none, lo0, List.replicate, List.length_cons, List.length_nil, muI, muL, callK, catS, List.map_cons, List.map_nil, List.sum_cons, List.sum_nil, vrf, swK, ofN, Value.category, reduceCtorEq, rf_463_0, rf_463_2, rf_463_4, rf_463_6, rf_463_7, rf_463_8, rf_463_10, rf_463_11, rf_463_13, rf_463_14, rf_463_15, rf_463_16, rf_463_17, rf_463_22, rf_463_23, rf_463_24, sh_463, sh_464, sh_465, sh_466, sh_467, sh_468, sh_469, sh_470, sh_471, sh_472, sh_473, sh_474, sh_475, sh_476, sh_477, sh_478, sh_479, al_464, al_465, al_466, al_467, al_468, al_469, al_470, al_471, al_472, al_473, al_474, al_475, al_476, al_477, al_478, al_479]); (try simp (discharger := omega) only [lg_cmp_eq, nI_add, pk_mul, nI_clamp, ni_le, ni_lt, ni_eq, ni_lt0, ni_0le, ni_eq0, ni_0lt, ni_le0, ni_in, ni_m9, ni_9m, up2_ne, up2_eq, up2_kn, vnar0, vnar1, Nat.add_zero, Nat.zero_add, Nat.mul_zero, hg1])
    refine ⟨by omega, fun hx => ?_, fun hx => ct_of (by omega) ?_⟩
    · have h0 : leadsO al s e = none := by
        unfold leadsO
        rw [List.find?_eq_none.mpr]
        · rfl
        · intro x hx2
          obtain ⟨i, hi, rfl⟩ := List.getElem_of_mem hx2
          have := hb i (by omega)
          rw [arc_get hi]
          simpa using this
      rw [h0] at hQ
      exact hQ
    · obtain ⟨f1, f2, f3⟩ := hg2 a (by omega)
      obtain ⟨b1, b2, b3⟩ := ho.at (a := a) (by omega)
      have next : ¬ ((arc al a).1 = s ∧ (arc al a).2.1 = e) → A 2 [some (.ref 463), some (.int (nI s)), some (.int (nI e)), some (.int (nI (a + 1)))] [] (mk I L) := fun hne => ih (by omega) (fun i hi => by
        by_cases hia : i = a
        · rw [hia]; exact hne
        · exact hb i (by omega))
      (simp only [↓vk kX10_leads_0, ↓vk kX10_leads_1, ↓vk kX10_leads_2, ↓vk kX10_leads_3, ↓vk kX10_leads_4, ↓vk kX10_leads_7, ↓vk kX10_leads_8, ↓vk kX10_leads_9, ↓vk kX10_leads_12, ↓vk kX10_leads_13, ↓vk kX10_leads_14, ↓vk kX10_leads_15, ↓vk kX10_leads_18, ↓vk kX10_leads_19, ↓vk kX10_leads_22, ↓vk kX10_leads_23, ↓vk kX10_leads_24, ↓vk kX10_leads_25, ↓vk kX10_leads_28, ↓vk kX10_leads_29, ↓vk kX10_leads_32, ↓vk kX10_leads_33, ↓vk kX10_leads_34, ↓vk kX10_leads_35, ↓vk kX10_leads_38, ↓vk kX10_leads_39, ↓vk kX10_leads_42, ↓vk kX10_leads_45, ↓vk kX10_leads_47, ↓x_aload, ↓x_callV2, ↓x_getR, ↓x_goto, ↓x_iald, ↓x_icmp, ↓x_icmpn, ↓x_iinc, ↓x_iload, ↓x_iret, ↓x_istore, ↓x_push, ↓reduceIte, List.getElem?_cons_zero, List.getElem?_cons_succ, List.getD_cons_zero, List.getD_cons_succ, List.getD_nil, List.set_cons_zero, List.set_cons_succ, lset, lset2, isL, noD, cond_true, cond_false, if_true, if_false, Bool.false_eq_true, true_and, and_true, Nat.reduceAdd, Nat.reduceBEq, Nat.reduceSub, Nat.reduceEqDiff, Nat.reduceLT, Nat.reduceLeDiff, Bool.or_false, Bool.false_or, Bool.or_true, Bool.true_or, List.append_nil, List.nil_append, List.cons_append, Option.toList_some, Option.toList_none, lo0, List.replicate, List.length_cons, List.length_nil, muI, muL, callK, catS, List.map_cons, List.map_nil, List.sum_cons, List.sum_nil, vrf, swK, ofN, Value.category, reduceCtorEq, rf_463_0, rf_463_2, rf_463_4, rf_463_6, rf_463_7, rf_463_8, rf_463_10, rf_463_11, rf_463_13, rf_463_14, rf_463_15, rf_463_16, rf_463_17, rf_463_22, rf_463_23, rf_463_24, sh_463, sh_464, sh_465, sh_466, sh_467, sh_468, sh_469, sh_470, sh_471, sh_472, sh_473, sh_474, sh_475, sh_476, sh_477, sh_478, sh_479, al_464, al_465, al_466, al_467, al_468, al_469, al_470, al_471, al_472, al_473, al_474, al_475, al_476, al_477, al_478, al_479]); (try simp (discharger := omega) only [lg_cmp_eq, nI_add, pk_mul, nI_clamp, ni_le, ni_lt, ni_eq, ni_lt0, ni_0le, ni_eq0, ni_0lt, ni_le0, ni_in, ni_m9, ni_9m, up2_ne, up2_eq, up2_kn, vnar0, vnar1, Nat.add_zero, Nat.zero_add, Nat.mul_zero, f1])
      refine ⟨fun q1 => ct_of (by omega) ?_, fun q1 => next (fun hh => q1 hh.1)⟩
      (simp only [↓vk kX10_leads_0, ↓vk kX10_leads_1, ↓vk kX10_leads_2, ↓vk kX10_leads_3, ↓vk kX10_leads_4, ↓vk kX10_leads_7, ↓vk kX10_leads_8, ↓vk kX10_leads_9, ↓vk kX10_leads_12, ↓vk kX10_leads_13, ↓vk kX10_leads_14, ↓vk kX10_leads_15, ↓vk kX10_leads_18, ↓vk kX10_leads_19, ↓vk kX10_leads_22, ↓vk kX10_leads_23, ↓vk kX10_leads_24, ↓vk kX10_leads_25, ↓vk kX10_leads_28, ↓vk kX10_leads_29, ↓vk kX10_leads_32, ↓vk kX10_leads_33, ↓vk kX10_leads_34, ↓vk kX10_leads_35, ↓vk kX10_leads_38, ↓vk kX10_leads_39, ↓vk kX10_leads_42, ↓vk kX10_leads_45, ↓vk kX10_leads_47, ↓x_aload, ↓x_callV2, ↓x_getR, ↓x_goto, ↓x_iald, ↓x_icmp, ↓x_icmpn, ↓x_iinc, ↓x_iload, ↓x_iret, ↓x_istore, ↓x_push, ↓reduceIte, List.getElem?_cons_zero, List.getElem?_cons_succ, List.getD_cons_zero, List.getD_cons_succ, List.getD_nil, List.set_cons_zero, List.set_cons_succ, lset, lset2, isL, noD, cond_true, cond_false, if_true, if_false, Bool.false_eq_true, true_and, and_true, Nat.reduceAdd, Nat.reduceBEq, Nat.reduceSub, Nat.reduceEqDiff, Nat.reduceLT, Nat.reduceLeDiff, Bool.or_false, Bool.false_or, Bool.or_true, Bool.true_or, List.append_nil, List.nil_append, List.cons_append, Option.toList_some, Option.toList_none, lo0, List.replicate, List.length_cons, List.length_nil, muI, muL, callK, catS, List.map_cons, List.map_nil, List.sum_cons, List.sum_nil, vrf, swK, ofN, Value.category, reduceCtorEq, rf_463_0, rf_463_2, rf_463_4, rf_463_6, rf_463_7, rf_463_8, rf_463_10, rf_463_11, rf_463_13, rf_463_14, rf_463_15, rf_463_16, rf_463_17, rf_463_22, rf_463_23, rf_463_24, sh_463, sh_464, sh_465, sh_466, sh_467, sh_468, sh_469, sh_470, sh_471, sh_472, sh_473, sh_474, sh_475, sh_476, sh_477, sh_478, sh_479, al_464, al_465, al_466, al_467, al_468, al_469, al_470, al_471, al_472, al_473, al_474, al_475, al_476, al_477, al_478, al_479]); (try simp (discharger := omega) only [lg_cmp_eq, nI_add, pk_mul, nI_clamp, ni_le, ni_lt, ni_eq, ni_lt0, ni_0le, ni_eq0, ni_0lt, ni_le0, ni_in, ni_m9, ni_9m, up2_ne, up2_eq, up2_kn, vnar0, vnar1, Nat.add_zero, Nat.zero_add, Nat.mul_zero, f2])
      refine ⟨fun q2 => ct_of (by omega) ?_, fun q2 => next (fun hh => q2 hh.2)⟩
      (simp only [↓vk kX10_leads_0, ↓vk kX10_leads_1, ↓vk kX10_leads_2, ↓vk kX10_leads_3, ↓vk kX10_leads_4, ↓vk kX10_leads_7, ↓vk kX10_leads_8, ↓vk kX10_leads_9, ↓vk kX10_leads_12, ↓vk kX10_leads_13, ↓vk kX10_leads_14, ↓vk kX10_leads_15, ↓vk kX10_leads_18, ↓vk kX10_leads_19, ↓vk kX10_leads_22, ↓vk kX10_leads_23, ↓vk kX10_leads_24, ↓vk kX10_leads_25, ↓vk kX10_leads_28, ↓vk kX10_leads_29, ↓vk kX10_leads_32, ↓vk kX10_leads_33, ↓vk kX10_leads_34, ↓vk kX10_leads_35, ↓vk kX10_leads_38, ↓vk kX10_leads_39, ↓vk kX10_leads_42, ↓vk kX10_leads_45, ↓vk kX10_leads_47, ↓x_aload, ↓x_callV2, ↓x_getR, ↓x_goto, ↓x_iald, ↓x_icmp, ↓x_icmpn, ↓x_iinc, ↓x_iload, ↓x_iret, ↓x_istore, ↓x_push, ↓reduceIte, List.getElem?_cons_zero, List.getElem?_cons_succ, List.getD_cons_zero, List.getD_cons_succ, List.getD_nil, List.set_cons_zero, List.set_cons_succ, lset, lset2, isL, noD, cond_true, cond_false, if_true, if_false, Bool.false_eq_true, true_and, and_true, Nat.reduceAdd, Nat.reduceBEq, Nat.reduceSub, Nat.reduceEqDiff, Nat.reduceLT, Nat.reduceLeDiff, Bool.or_false, Bool.false_or, Bool.or_true, Bool.true_or, List.append_nil, List.nil_append, List.cons_append, Option.toList_some, Option.toList_none, lo0, List.replicate, List.length_cons, List.length_nil, muI, muL, callK, catS, List.map_cons, List.map_nil, List.sum_cons, List.sum_nil, vrf, swK, ofN, Value.category, reduceCtorEq, rf_463_0, rf_463_2, rf_463_4, rf_463_6, rf_463_7, rf_463_8, rf_463_10, rf_463_11, rf_463_13, rf_463_14, rf_463_15, rf_463_16, rf_463_17, rf_463_22, rf_463_23, rf_463_24, sh_463, sh_464, sh_465, sh_466, sh_467, sh_468, sh_469, sh_470, sh_471, sh_472, sh_473, sh_474, sh_475, sh_476, sh_477, sh_478, sh_479, al_464, al_465, al_466, al_467, al_468, al_469, al_470, al_471, al_472, al_473, al_474, al_475, al_476, al_477, al_478, al_479]); (try simp (discharger := omega) only [lg_cmp_eq, nI_add, pk_mul, nI_clamp, ni_le, ni_lt, ni_eq, ni_lt0, ni_0le, ni_eq0, ni_0lt, ni_le0, ni_in, ni_m9, ni_9m, up2_ne, up2_eq, up2_kn, vnar0, vnar1, Nat.add_zero, Nat.zero_add, Nat.mul_zero, f3])
      have h0 : leadsO al s e = some (arc al a).2.2 := by
        unfold leadsO
        rw [find_at (k := a) (by omega)]
        · rw [arc_get]; rfl
        · intro i hi
          rw [arc_get]
          have := hb i hi
          simpa using this
        · rw [arc_get, q1, q2]; simp
      rw [h0] at hQ
      exact hQ
  apply C.vc (fun pc => pc == 2) 60
  (simp only [↓vk kX10_leads_0, ↓vk kX10_leads_1, ↓vk kX10_leads_2, ↓vk kX10_leads_3, ↓vk kX10_leads_4, ↓vk kX10_leads_7, ↓vk kX10_leads_8, ↓vk kX10_leads_9, ↓vk kX10_leads_12, ↓vk kX10_leads_13, ↓vk kX10_leads_14, ↓vk kX10_leads_15, ↓vk kX10_leads_18, ↓vk kX10_leads_19, ↓vk kX10_leads_22, ↓vk kX10_leads_23, ↓vk kX10_leads_24, ↓vk kX10_leads_25, ↓vk kX10_leads_28, ↓vk kX10_leads_29, ↓vk kX10_leads_32, ↓vk kX10_leads_33, ↓vk kX10_leads_34, ↓vk kX10_leads_35, ↓vk kX10_leads_38, ↓vk kX10_leads_39, ↓vk kX10_leads_42, ↓vk kX10_leads_45, ↓vk kX10_leads_47, ↓x_aload, ↓x_callV2, ↓x_getR, ↓x_goto, ↓x_iald, ↓x_icmp, ↓x_icmpn, ↓x_iinc, ↓x_iload, ↓x_iret, ↓x_istore, ↓x_push, ↓reduceIte, List.getElem?_cons_zero, List.getElem?_cons_succ, List.getD_cons_zero, List.getD_cons_succ, List.getD_nil, List.set_cons_zero, List.set_cons_succ, lset, lset2, isL, noD, cond_true, cond_false, if_true, if_false, Bool.false_eq_true, true_and, and_true, Nat.reduceAdd, Nat.reduceBEq, Nat.reduceSub, Nat.reduceEqDiff, Nat.reduceLT, Nat.reduceLeDiff, Bool.or_false, Bool.false_or, Bool.or_true, Bool.true_or, List.append_nil, List.nil_append, List.cons_append, Option.toList_some, Option.toList_none, lo0, List.replicate, List.length_cons, List.length_nil, muI, muL, callK, catS, List.map_cons, List.map_nil, List.sum_cons, List.sum_nil, vrf, swK, ofN, Value.category, reduceCtorEq, rf_463_0, rf_463_2, rf_463_4, rf_463_6, rf_463_7, rf_463_8, rf_463_10, rf_463_11, rf_463_13, rf_463_14, rf_463_15, rf_463_16, rf_463_17, rf_463_22, rf_463_23, rf_463_24, sh_463, sh_464, sh_465, sh_466, sh_467, sh_468, sh_469, sh_470, sh_471, sh_472, sh_473, sh_474, sh_475, sh_476, sh_477, sh_478, sh_479, al_464, al_465, al_466, al_467, al_468, al_469, al_470, al_471, al_472, al_473, al_474, al_475, al_476, al_477, al_478, al_479]); (try simp (discharger := omega) only [lg_cmp_eq, nI_add, pk_mul, nI_clamp, ni_le, ni_lt, ni_eq, ni_lt0, ni_0le, ni_eq0, ni_0lt, ni_le0, ni_in, ni_m9, ni_9m, up2_ne, up2_eq, up2_kn, vnar0, vnar1, Nat.add_zero, Nat.zero_add, Nat.mul_zero])
  exact loop 0 (by omega) (fun i hi => by omega)

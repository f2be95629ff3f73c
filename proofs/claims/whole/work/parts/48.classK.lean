/-! the class: finding the regions -/
def AS (a : Nat) : Prop := shp a = 0 ∧ RF a 0 = some (a + 1) ∧ RF a 1 = some (a + 2) ∧ RF a 3 = some (a + 3) ∧ RF a 4 = some (a + 4) ∧ RF a 5 = some (a + 5) ∧ RF a 7 = some (a + 6) ∧ RF a 8 = some (a + 7) ∧ RF a 11 = some (a + 8) ∧ shp (a + 1) = 2 ∧ shp (a + 2) = 20 ∧ shp (a + 3) = 20 ∧ shp (a + 4) = 20 ∧ shp (a + 5) = 20 ∧ shp (a + 6) = 20 ∧ shp (a + 7) = 20 ∧ shp (a + 8) = 1 ∧ alen (a + 2) = 1022 ∧ alen (a + 3) = 252 ∧ alen (a + 4) = 252 ∧ alen (a + 5) = 252 ∧ alen (a + 6) = 125 ∧ alen (a + 7) = 125 ∧ a + 8 < 480
theorem AS60 : AS 60 := by unfold AS; decide
theorem AS454 : AS 454 := by unfold AS; decide
theorem subB_trans {a b c : Nat} (h1 : subB a b = true) (h2 : subB b c = true) : subB a c = true := by
  unfold subB at *
  have h1 := beq_iff_eq.mp h1
  have h2 := beq_iff_eq.mp h2
  refine beq_iff_eq.mpr ?_
  calc a &&& c = (a &&& b) &&& c := by rw [h1]
    _ = a &&& (b &&& c) := Nat.and_assoc a b c
    _ = a &&& b := by rw [h2]
    _ = a := h1
theorem subB_refl (a : Nat) : subB a a = true := beq_iff_eq.mpr (Nat.and_self a)
theorem min_below {rs : List Nat} : ∀ i : Nat, ∃ j, j ≤ i ∧ minAt rs j = true ∧ subB (rs.getD j 0) (rs.getD i 0) = true := by
  intro i
  induction i using Nat.strongRecOn with
  | ind i ih =>
    cases hm : minAt rs i with
    | true => exact ⟨i, Nat.le_refl _, hm, subB_refl _⟩
    | false =>
      unfold minAt at hm
      rw [List.all_eq_false] at hm
      obtain ⟨k, hk1, hk2⟩ := hm
      have hk := List.mem_range.mp hk1
      obtain ⟨j, h1, h2, h3⟩ := ih k hk
      exact ⟨j, by omega, h2, subB_trans h3 (by simpa using hk2)⟩
def lmin (al : List Arc) (s : Nat) : List Nat := leastTo (regsTo al s) (regsTo al s).length
theorem lmin_M (n : Nat) (al : List Arc) : lmin al (2 ^ n - 1) = leastM n al := rfl
theorem lmin_few {al : List Arc} {s : Nat} (hs : s ≤ 1024) : (lmin al s).length ≤ 252 := by
  refine anti_few (fun x hx => ?_) (leastTo_anti (regsTo_inc al s) (Nat.le_refl _))
  have := regsTo_lt (leastTo_mem (Nat.le_refl _) hx)
  omega
theorem lmin_lt {al : List Arc} {s q : Nat} (h : q ∈ lmin al s) : 1 ≤ q ∧ q < s := regsTo_lt (leastTo_mem (Nat.le_refl _) h)
theorem getD_lt_app {a : List Nat} {x k : Nat} (h : k < a.length) : (a ++ [x]).getD k 0 = a.getD k 0 := getD_app h
theorem getD_end (a : List Nat) (x : Nat) : (a ++ [x]).getD a.length 0 = x := by
  rw [List.getD_eq_getElem?_getD, List.getElem?_append_right (Nat.le_refl _), Nat.sub_self]
  rfl
theorem lmin_succ (al : List Arc) (s : Nat) : lmin al (s + 1) = if 1 ≤ s ∧ isRegB al s = true then (if (lmin al s).all (fun r => !subB r s) = true then lmin al s ++ [s] else lmin al s) else lmin al s := by
  unfold lmin
  rw [regsTo_succ]
  by_cases hc : 1 ≤ s ∧ isRegB al s = true
  · rw [if_pos hc, if_pos hc]
    generalize regsTo al s = rs
    rw [List.length_append, List.length_singleton, leastTo_succ, getD_end]
    have hl : leastTo (rs ++ [s]) rs.length = leastTo rs rs.length := by
      unfold leastTo
      have hf : (List.range rs.length).filter (minAt (rs ++ [s])) = (List.range rs.length).filter (minAt rs) := by
        apply List.filter_congr
        intro j hj
        have hj := List.mem_range.mp hj
        unfold minAt
        rw [getD_lt_app hj]
        have : ∀ i, i ∈ List.range j → (!subB ((rs ++ [s]).getD i 0) (rs.getD j 0)) = (!subB (rs.getD i 0) (rs.getD j 0)) := fun i hi => by
          have hi := List.mem_range.mp hi
          rw [getD_lt_app (by omega)]
        rw [Bool.eq_iff_iff, List.all_eq_true, List.all_eq_true]
        constructor
        · intro h i hi
          rw [← this i hi]
          exact h i hi
        · intro h i hi
          rw [this i hi]
          exact h i hi
      rw [hf]
      apply List.map_congr_left
      intro j hj
      have hj := List.mem_range.mp (List.mem_filter.mp hj).1
      exact getD_lt_app hj
    rw [hl]
    have hm : minAt (rs ++ [s]) rs.length = (leastTo rs rs.length).all (fun r => !subB r s) := by
      unfold minAt
      rw [getD_end, Bool.eq_iff_iff, List.all_eq_true, List.all_eq_true]
      constructor
      · intro h r hr
        unfold leastTo at hr
        obtain ⟨j, hj, rfl⟩ := List.mem_map.mp hr
        have hj := List.mem_range.mp (List.mem_filter.mp hj).1
        have := h j (List.mem_range.mpr hj)
        rw [getD_lt_app hj] at this
        exact this
      · intro h i hi
        have hi := List.mem_range.mp hi
        rw [getD_lt_app hi]
        obtain ⟨j, h1, h2, h3⟩ := min_below (rs := rs) i
        have hmem : rs.getD j 0 ∈ leastTo rs rs.length := by
          unfold leastTo
          exact List.mem_map.mpr ⟨j, List.mem_filter.mpr ⟨List.mem_range.mpr (by omega), h2⟩, rfl⟩
        have h4 := h _ hmem
        cases h5 : subB (rs.getD i 0) s with
        | false => rfl
        | true =>
          rw [subB_trans h3 h5] at h4
          cases h4
    rw [hm]
    split
    · rfl
    · rw [List.append_nil]
  · rw [if_neg hc, if_neg hc, List.append_nil]
def ARt (I : Nat → Nat → Int32) (a : Nat) (al : List Arc) (rs ls : List Nat) : Prop := I a 2 = nI rs.length ∧ Hold (I (a + 2)) rs ∧ I a 6 = nI ls.length ∧ Hold (I (a + 3)) ls ∧ ∀ k, k < ls.length → I (a + 4) k = nI (evMask al (ls.getD k 0) 1 8) ∧ I (a + 5) k = nI (evMask al (ls.getD k 0) 2 8)
def notA (a i : Nat) : Prop := i < a ∨ a + 7 < i
section AX1
variable {l : Launch} {X : XT} {I : Nat → Nat → Int32} {L : Nat → Nat → Int64} {Q : QT} {a g n : Nat} {al : List Arc}
set_option maxRecDepth 100000 in
set_option maxHeartbeats 4000000 in
theorem ct_a_addIf {rs ls : List Nat} {set : Nat} (hA : AS a) (hR : ARt I a al rs ls) (hm1 : I (a + 1) 0 = nI (evMask al set 1 8)) (hm2 : I (a + 1) 1 = nI (evMask al set 2 8)) (hl : ls.length ≤ 252) (hf : ls.all (fun r => !subB r set) = true → ls.length < 252) (hlr : ∀ r ∈ ls, r < 1024) (hset : set < 2 ^ 31) (hQ : ∀ I', (∀ i, notA a i → I' i = I i) → ARt I' a al rs (if ls.all (fun r => !subB r set) = true then ls ++ [set] else ls) → Q none (mk I' L)) : CT l X mX0_addIfMinimal 0 [.ref a, .int (nI set)] (mk I L) Q := by
  refine ct_intro okX0_addIfMinimal (by decide +kernel) (Or.inl rfl) (Nat.le_of_ble_eq_true rfl) fun A C W => ?_
  show A 0 [some (.ref a), some (.int (nI set)), none] [] _
  obtain ⟨u0, u1, u2, u3, u4, u5, u6, u7, u8, u9, u10, u11, u12, u13, u14, u15, u16, u17, u18, u19, u20, u21, u22, u23⟩ := hA
  have v0 : (a < 480) = True := eq_true (by omega)
  have v1 : (a + 1 < 480) = True := eq_true (by omega)
  have v2 : (a + 2 < 480) = True := eq_true (by omega)
  have v3 : (a + 3 < 480) = True := eq_true (by omega)
  have v4 : (a + 4 < 480) = True := eq_true (by omega)
  have v5 : (a + 5 < 480) = True := eq_true (by omega)
  have v6 : (a + 6 < 480) = True := eq_true (by omega)
  have v7 : (a + 7 < 480) = True := eq_true (by omega)
  have v8 : (a + 8 < 480) = True := eq_true (by omega)
  obtain ⟨r1, r2, r3, r4, r5⟩ := hR
  have loop : ∀ k, k ≤ ls.length → (∀ i, i < k → subB (ls.getD i 0) set = false) → A 2 [some (.ref a), some (.int (nI set)), some (.int (nI k))] [] (mk I L) := by
    refine down fun k hk ih hb => ?_
    apply C.vc (fun pc => pc == 2 || pc == 24) 80; (simp only [↓vk kX0_addIfMinimal_0, ↓vk kX0_addIfMinimal_1, ↓vk kX0_addIfMinimal_2, ↓vk kX0_addIfMinimal_3, ↓vk kX0_addIfMinimal_4, ↓vk kX0_addIfMinimal_7, ↓vk kX0_addIfMinimal_10, ↓vk kX0_addIfMinimal_11, ↓vk kX0_addIfMinimal_14, ↓vk kX0_addIfMinimal_15, ↓vk kX0_addIfMinimal_16, ↓vk kX0_addIfMinimal_17, ↓vk kX0_addIfMinimal_18, ↓vk kX0_addIfMinimal_19, ↓vk kX0_addIfMinimal_20, ↓vk kX0_addIfMinimal_23, ↓vk kX0_addIfMinimal_24, ↓vk kX0_addIfMinimal_27, ↓vk kX0_addIfMinimal_30, ↓vk kX0_addIfMinimal_31, ↓vk kX0_addIfMinimal_34, ↓vk kX0_addIfMinimal_37, ↓vk kX0_addIfMinimal_40, ↓vk kX0_addIfMinimal_41, ↓vk kX0_addIfMinimal_44, ↓vk kX0_addIfMinimal_45, ↓vk kX0_addIfMinimal_48, ↓vk kX0_addIfMinimal_49, ↓vk kX0_addIfMinimal_50, ↓vk kX0_addIfMinimal_51, ↓vk kX0_addIfMinimal_54, ↓vk kX0_addIfMinimal_55, ↓vk kX0_addIfMinimal_58, ↓vk kX0_addIfMinimal_59, ↓vk kX0_addIfMinimal_62, ↓vk kX0_addIfMinimal_65, ↓vk kX0_addIfMinimal_66, ↓vk kX0_addIfMinimal_67, ↓vk kX0_addIfMinimal_70, ↓vk kX0_addIfMinimal_71, ↓vk kX0_addIfMinimal_74, ↓vk kX0_addIfMinimal_75, ↓vk kX0_addIfMinimal_78, ↓vk kX0_addIfMinimal_81, ↓vk kX0_addIfMinimal_82, ↓vk kX0_addIfMinimal_83, ↓vk kX0_addIfMinimal_84, ↓vk kX0_addIfMinimal_87, ↓vk kX0_addIfMinimal_88, ↓vk kX0_addIfMinimal_89, ↓vk kX0_addIfMinimal_92, ↓x_aload, ↓x_dup, ↓x_getI, ↓x_getR, ↓x_goto, ↓x_iald, ↓x_iast, ↓x_icmp, ↓x_ifn, ↓x_ii, ↓x_iinc, ↓x_iload, ↓x_istore, ↓x_push, ↓x_putI, ↓x_vret, ↓reduceIte, List.getElem?_cons_zero, List.getElem?_cons_succ, List.getD_cons_zero, List.getD_cons_succ, List.getD_nil, List.set_cons_zero, List.set_cons_succ, lset, lset2, isL, noD, cond_true, cond_false, if_true, if_false, Bool.false_eq_true, true_and, and_true, Nat.reduceAdd, Nat.reduceBEq, Nat.reduceSub, Nat.reduceEqDiff, Nat.reduceLT, Nat.reduceLeDiff, Bool.or_false, Bool.false_or, Bool.or_true, Bool.true_or, List.append_nil, List.nil_append, List.cons_append, Option.toList_some, Option.toList_none, lo0, List.replicate, List.length_cons, List.length_nil, muI, muL, callK, catS, List.map_cons, List.map_nil, List.sum_cons, List.sum_nil, vrf, swK, ofN, Value.category, reduceCtorEq, rf_0_0, rf_0_1, rf_0_2, rf_0_3, rf_0_4, rf_0_5, rf_0_6, rf_0_7, rf_0_8, rf_0_9, rf_1_0, rf_3_2, rf_3_3, rf_3_4, rf_7_1, rf_9_0, rf_9_1, rf_60_0, rf_60_1, rf_60_3, rf_60_4, rf_60_5, rf_60_7, rf_60_8, rf_60_11, rf_69_0, rf_69_2, rf_69_3, rf_69_4, rf_69_5, rf_69_6, rf_344_0, rf_344_1, rf_344_2, rf_344_3, rf_450_2, rf_450_3, rf_450_4, rf_454_0, rf_454_1, rf_454_3, rf_454_4, rf_454_5, rf_454_7, rf_454_8, rf_454_11, sh_0, sh_1, sh_2, sh_3, sh_4, sh_5, sh_6, sh_7, sh_8, sh_9, sh_10, sh_11, sh_60, sh_61, sh_62, sh_63, sh_64, sh_65, sh_66, sh_67, sh_68, sh_69, sh_70, sh_71, sh_72, sh_73, sh_74, sh_75, sh_344, sh_345, sh_346, sh_347, sh_348, sh_449, sh_450, sh_451, sh_452, sh_453, sh_454, sh_455, sh_456, sh_457, sh_458, sh_459, sh_460, sh_461, sh_462, al_2, al_4, al_5, al_6, al_10, al_11, al_62, al_63, al_64, al_65, al_66, al_67, al_70, al_71, al_72, al_73, al_345, al_346, al_347, al_451, al_452, al_453, al_456, al_457, al_458, al_459, al_460, al_461]); (try simp (discharger := omega) only [↓ni_bI1, ↓ni_bI1o, ↓ni_bI0, ↓ni_bI0n, ↓ni_bIe, ni_bIb, Nat.reduceEqDiff, Nat.reduceLT, Nat.reduceLeDiff, Nat.reduceAdd, Nat.reduceMul, not_true_eq_false, not_false_eq_true, true_implies, false_implies, and_true, true_and, lg_cmp_eq, nI_add, pk_mul, nI_clamp, ni_le, ni_lt, ni_eq, ni_lt0, ni_0le, ni_eq0, ni_0lt, ni_le0, ni_in, ni_m9, ni_9m, up2_ne, up2_eq, up2_kn, vnar0, vnar1, Nat.add_zero, Nat.zero_add, Nat.mul_zero, List.map_nil, List.map_cons, List.sum_nil, List.sum_cons, List.append_nil, Nat.zero_le, u0, u1, u2, u3, u4, u5, u6, u7, u8, u9, u10, u11, u12, u13, u14, u15, u16, u17, u18, u19, u20, u21, u22, v0, v1, v2, v3, v4, v5, v6, v7, v8, r3])
    refine ⟨fun h => ?_, fun h => ?_⟩
    · have he : k = ls.length := by omega
      have hall : ls.all (fun r => !subB r set) = true := by
        rw [List.all_eq_true]
        intro x hx
        obtain ⟨i, hi, rfl⟩ := List.getElem_of_mem hx
        have := hb i (by omega)
        rw [List.getD_eq_getElem?_getD, List.getElem?_eq_getElem hi] at this
        rw [show ls[i] = (some ls[i]).getD 0 from rfl, this]
        rfl
      have hlt := hf hall
      rw [if_pos hall] at hQ
      refine ⟨fun q => absurd q (by omega), fun _ => ?_⟩
      simp (discharger := omega) only [↓ni_bI1, ↓ni_bI1o, ↓ni_bI0, ↓ni_bI0n, ↓ni_bIe, ni_bIb, Nat.reduceEqDiff, Nat.reduceLT, Nat.reduceLeDiff, Nat.reduceAdd, Nat.reduceMul, not_true_eq_false, not_false_eq_true, true_implies, false_implies, and_true, true_and, lg_cmp_eq, nI_add, pk_mul, nI_clamp, ni_le, ni_lt, ni_eq, ni_lt0, ni_0le, ni_eq0, ni_0lt, ni_le0, ni_in, ni_m9, ni_9m, up2_ne, up2_eq, up2_kn, vnar0, vnar1, u0, u1, u2, u3, u4, u5, u6, u7, u8, u9, u10, u11, u12, u13, u14, u15, u16, u17, u18, u19, u20, u21, u22, v0, v1, v2, v3, v4, v5, v6, v7, v8, r3, hm1, hm2]
      refine ⟨by omega, by omega, by omega, hQ _ (fun i hi => ?_) ⟨?_, ?_, ?_, ?_, fun j hj => ?_⟩⟩
      · unfold notA at hi
        simp (discharger := omega) only [up2_ne]
      · simp (discharger := omega) only [up2_ne, up2_kn]; exact r1
      · simp (discharger := omega) only [up2_ne]; exact r2
      · rw [up2_eq, List.length_append, List.length_singleton]
      · simp (discharger := omega) only [up2_ne]
        exact r4.push (fun j hj => up2_kn (by omega)) up2_eq
      · rw [List.length_append, List.length_singleton] at hj
        by_cases hjl : j < ls.length
        · rw [getD_lt_app hjl]
          simp (discharger := omega) only [up2_ne, up2_kn]
          exact r5 j hjl
        · have hje : j = ls.length := by omega
          subst hje
          rw [getD_end]
          simp (discharger := omega) only [up2_ne, up2_eq, and_self]
    · have hmem : ls.getD k 0 ∈ ls := getD_mem (by omega)
      have hlt := hlr _ hmem
      rw [r4 k (by omega), ni_diff (by omega) hset]
      refine ⟨by omega, fun z => ?_, fun z => ?_⟩
      · have hno : ¬ ls.all (fun r => !subB r set) = true := by
          intro hall
          have := List.all_eq_true.mp hall _ hmem
          rw [show subB (ls.getD k 0) set = true from beq_iff_eq.mpr z] at this
          cases this
        rw [if_neg hno] at hQ
        exact hQ I (fun _ _ => rfl) ⟨r1, r2, r3, r4, r5⟩
      · apply C.vc (fun pc => pc == 2) 80; (simp only [↓vk kX0_addIfMinimal_0, ↓vk kX0_addIfMinimal_1, ↓vk kX0_addIfMinimal_2, ↓vk kX0_addIfMinimal_3, ↓vk kX0_addIfMinimal_4, ↓vk kX0_addIfMinimal_7, ↓vk kX0_addIfMinimal_10, ↓vk kX0_addIfMinimal_11, ↓vk kX0_addIfMinimal_14, ↓vk kX0_addIfMinimal_15, ↓vk kX0_addIfMinimal_16, ↓vk kX0_addIfMinimal_17, ↓vk kX0_addIfMinimal_18, ↓vk kX0_addIfMinimal_19, ↓vk kX0_addIfMinimal_20, ↓vk kX0_addIfMinimal_23, ↓vk kX0_addIfMinimal_24, ↓vk kX0_addIfMinimal_27, ↓vk kX0_addIfMinimal_30, ↓vk kX0_addIfMinimal_31, ↓vk kX0_addIfMinimal_34, ↓vk kX0_addIfMinimal_37, ↓vk kX0_addIfMinimal_40, ↓vk kX0_addIfMinimal_41, ↓vk kX0_addIfMinimal_44, ↓vk kX0_addIfMinimal_45, ↓vk kX0_addIfMinimal_48, ↓vk kX0_addIfMinimal_49, ↓vk kX0_addIfMinimal_50, ↓vk kX0_addIfMinimal_51, ↓vk kX0_addIfMinimal_54, ↓vk kX0_addIfMinimal_55, ↓vk kX0_addIfMinimal_58, ↓vk kX0_addIfMinimal_59, ↓vk kX0_addIfMinimal_62, ↓vk kX0_addIfMinimal_65, ↓vk kX0_addIfMinimal_66, ↓vk kX0_addIfMinimal_67, ↓vk kX0_addIfMinimal_70, ↓vk kX0_addIfMinimal_71, ↓vk kX0_addIfMinimal_74, ↓vk kX0_addIfMinimal_75, ↓vk kX0_addIfMinimal_78, ↓vk kX0_addIfMinimal_81, ↓vk kX0_addIfMinimal_82, ↓vk kX0_addIfMinimal_83, ↓vk kX0_addIfMinimal_84, ↓vk kX0_addIfMinimal_87, ↓vk kX0_addIfMinimal_88, ↓vk kX0_addIfMinimal_89, ↓vk kX0_addIfMinimal_92, ↓x_aload, ↓x_dup, ↓x_getI, ↓x_getR, ↓x_goto, ↓x_iald, ↓x_iast, ↓x_icmp, ↓x_ifn, ↓x_ii, ↓x_iinc, ↓x_iload, ↓x_istore, ↓x_push, ↓x_putI, ↓x_vret, ↓reduceIte, List.getElem?_cons_zero, List.getElem?_cons_succ, List.getD_cons_zero, List.getD_cons_succ, List.getD_nil, List.set_cons_zero, List.set_cons_succ, lset, lset2, isL, noD, cond_true, cond_false, if_true, if_false, Bool.false_eq_true, true_and, and_true, Nat.reduceAdd, Nat.reduceBEq, Nat.reduceSub, Nat.reduceEqDiff, Nat.reduceLT, Nat.reduceLeDiff, Bool.or_false, Bool.false_or, Bool.or_true, Bool.true_or, List.append_nil, List.nil_append, List.cons_append, Option.toList_some, Option.toList_none, lo0, List.replicate, List.length_cons, List.length_nil, muI, muL, callK, catS, List.map_cons, List.map_nil, List.sum_cons, List.sum_nil, vrf, swK, ofN, Value.category, reduceCtorEq, rf_0_0, rf_0_1, rf_0_2, rf_0_3, rf_0_4, rf_0_5, rf_0_6, rf_0_7, rf_0_8, rf_0_9, rf_1_0, rf_3_2, rf_3_3, rf_3_4, rf_7_1, rf_9_0, rf_9_1, rf_60_0, rf_60_1, rf_60_3, rf_60_4, rf_60_5, rf_60_7, rf_60_8, rf_60_11, rf_69_0, rf_69_2, rf_69_3, rf_69_4, rf_69_5, rf_69_6, rf_344_0, rf_344_1, rf_344_2, rf_344_3, rf_450_2, rf_450_3, rf_450_4, rf_454_0, rf_454_1, rf_454_3, rf_454_4, rf_454_5, rf_454_7, rf_454_8, rf_454_11, sh_0, sh_1, sh_2, sh_3, sh_4, sh_5, sh_6, sh_7, sh_8, sh_9, sh_10, sh_11, sh_60, sh_61, sh_62, sh_63, sh_64, sh_65, sh_66, sh_67, sh_68, sh_69, sh_70, sh_71, sh_72, sh_73, sh_74, sh_75, sh_344, sh_345, sh_346, sh_347, sh_348, sh_449, sh_450, sh_451, sh_452, sh_453, sh_454, sh_455, sh_456, sh_457, sh_458, sh_459, sh_460, sh_461, sh_462, al_2, al_4, al_5, al_6, al_10, al_11, al_62, al_63, al_64, al_65, al_66, al_67, al_70, al_71, al_72, al_73, al_345, al_346, al_347, al_451, al_452, al_453, al_456, al_457, al_458, al_459, al_460, al_461]); (try simp (discharger := omega) only [↓ni_bI1, ↓ni_bI1o, ↓ni_bI0, ↓ni_bI0n, ↓ni_bIe, ni_bIb, Nat.reduceEqDiff, Nat.reduceLT, Nat.reduceLeDiff, Nat.reduceAdd, Nat.reduceMul, not_true_eq_false, not_false_eq_true, true_implies, false_implies, and_true, true_and, lg_cmp_eq, nI_add, pk_mul, nI_clamp, ni_le, ni_lt, ni_eq, ni_lt0, ni_0le, ni_eq0, ni_0lt, ni_le0, ni_in, ni_m9, ni_9m, up2_ne, up2_eq, up2_kn, vnar0, vnar1, Nat.add_zero, Nat.zero_add, Nat.mul_zero, List.map_nil, List.map_cons, List.sum_nil, List.sum_cons, List.append_nil, Nat.zero_le])
        refine ih (by omega) (fun i hi => ?_)
        by_cases hik : i = k
        · rw [hik]; exact beq_eq_false_iff_ne.mpr z
        · exact hb i (by omega)
  apply C.vc (fun pc => pc == 2) 80; (simp only [↓vk kX0_addIfMinimal_0, ↓vk kX0_addIfMinimal_1, ↓vk kX0_addIfMinimal_2, ↓vk kX0_addIfMinimal_3, ↓vk kX0_addIfMinimal_4, ↓vk kX0_addIfMinimal_7, ↓vk kX0_addIfMinimal_10, ↓vk kX0_addIfMinimal_11, ↓vk kX0_addIfMinimal_14, ↓vk kX0_addIfMinimal_15, ↓vk kX0_addIfMinimal_16, ↓vk kX0_addIfMinimal_17, ↓vk kX0_addIfMinimal_18, ↓vk kX0_addIfMinimal_19, ↓vk kX0_addIfMinimal_20, ↓vk kX0_addIfMinimal_23, ↓vk kX0_addIfMinimal_24, ↓vk kX0_addIfMinimal_27, ↓vk kX0_addIfMinimal_30, ↓vk kX0_addIfMinimal_31, ↓vk kX0_addIfMinimal_34, ↓vk kX0_addIfMinimal_37, ↓vk kX0_addIfMinimal_40, ↓vk kX0_addIfMinimal_41, ↓vk kX0_addIfMinimal_44, ↓vk kX0_addIfMinimal_45, ↓vk kX0_addIfMinimal_48, ↓vk kX0_addIfMinimal_49, ↓vk kX0_addIfMinimal_50, ↓vk kX0_addIfMinimal_51, ↓vk kX0_addIfMinimal_54, ↓vk kX0_addIfMinimal_55, ↓vk kX0_addIfMinimal_58, ↓vk kX0_addIfMinimal_59, ↓vk kX0_addIfMinimal_62, ↓vk kX0_addIfMinimal_65, ↓vk kX0_addIfMinimal_66, ↓vk kX0_addIfMinimal_67, ↓vk kX0_addIfMinimal_70, ↓vk kX0_addIfMinimal_71, ↓vk kX0_addIfMinimal_74, ↓vk kX0_addIfMinimal_75, ↓vk kX0_addIfMinimal_78, ↓vk kX0_addIfMinimal_81, ↓vk kX0_addIfMinimal_82, ↓vk kX0_addIfMinimal_83, ↓vk kX0_addIfMinimal_84, ↓vk kX0_addIfMinimal_87, ↓vk kX0_addIfMinimal_88, ↓vk kX0_addIfMinimal_89, ↓vk kX0_addIfMinimal_92, ↓x_aload, ↓x_dup, ↓x_getI, ↓x_getR, ↓x_goto, ↓x_iald, ↓x_iast, ↓x_icmp, ↓x_ifn, ↓x_ii, ↓x_iinc, ↓x_iload, ↓x_istore, ↓x_push, ↓x_putI, ↓x_vret, ↓reduceIte, List.getElem?_cons_zero, List.getElem?_cons_succ, List.getD_cons_zero, List.getD_cons_succ, List.getD_nil, List.set_cons_zero, List.set_cons_succ, lset, lset2, isL, noD, cond_true, cond_false, if_true, if_false, Bool.false_eq_true, true_and, and_true, Nat.reduceAdd, Nat.reduceBEq, Nat.reduceSub, Nat.reduceEqDiff, Nat.reduceLT, Nat.reduceLeDiff, Bool.or_false, Bool.false_or, Bool.or_true, Bool.true_or, List.append_nil, List.nil_append, List.cons_append, Option.toList_some, Option.toList_none, lo0, List.replicate, List.length_cons, List.length_nil, muI, muL, callK, catS, List.map_cons, List.map_nil, List.sum_cons, List.sum_nil, vrf, swK, ofN, Value.category, reduceCtorEq, rf_0_0, rf_0_1, rf_0_2, rf_0_3, rf_0_4, rf_0_5, rf_0_6, rf_0_7, rf_0_8, rf_0_9, rf_1_0, rf_3_2, rf_3_3, rf_3_4, rf_7_1, rf_9_0, rf_9_1, rf_60_0, rf_60_1, rf_60_3, rf_60_4, rf_60_5, rf_60_7, rf_60_8, rf_60_11, rf_69_0, rf_69_2, rf_69_3, rf_69_4, rf_69_5, rf_69_6, rf_344_0, rf_344_1, rf_344_2, rf_344_3, rf_450_2, rf_450_3, rf_450_4, rf_454_0, rf_454_1, rf_454_3, rf_454_4, rf_454_5, rf_454_7, rf_454_8, rf_454_11, sh_0, sh_1, sh_2, sh_3, sh_4, sh_5, sh_6, sh_7, sh_8, sh_9, sh_10, sh_11, sh_60, sh_61, sh_62, sh_63, sh_64, sh_65, sh_66, sh_67, sh_68, sh_69, sh_70, sh_71, sh_72, sh_73, sh_74, sh_75, sh_344, sh_345, sh_346, sh_347, sh_348, sh_449, sh_450, sh_451, sh_452, sh_453, sh_454, sh_455, sh_456, sh_457, sh_458, sh_459, sh_460, sh_461, sh_462, al_2, al_4, al_5, al_6, al_10, al_11, al_62, al_63, al_64, al_65, al_66, al_67, al_70, al_71, al_72, al_73, al_345, al_346, al_347, al_451, al_452, al_453, al_456, al_457, al_458, al_459, al_460, al_461]); (try simp (discharger := omega) only [↓ni_bI1, ↓ni_bI1o, ↓ni_bI0, ↓ni_bI0n, ↓ni_bIe, ni_bIb, Nat.reduceEqDiff, Nat.reduceLT, Nat.reduceLeDiff, Nat.reduceAdd, Nat.reduceMul, not_true_eq_false, not_false_eq_true, true_implies, false_implies, and_true, true_and, lg_cmp_eq, nI_add, pk_mul, nI_clamp, ni_le, ni_lt, ni_eq, ni_lt0, ni_0le, ni_eq0, ni_0lt, ni_le0, ni_in, ni_m9, ni_9m, up2_ne, up2_eq, up2_kn, vnar0, vnar1, Nat.add_zero, Nat.zero_add, Nat.mul_zero, List.map_nil, List.map_cons, List.sum_nil, List.sum_cons, List.append_nil, Nat.zero_le])
  exact loop 0 (by omega) (fun i hi => absurd hi (Nat.not_lt_zero _))
set_option maxRecDepth 100000 in
set_option maxHeartbeats 4000000 in
theorem ct_a_findRegions (hA : AS a) (hs : GS g) (hg : GC I g n al) (ho : AOK al) (hn0 : 1 ≤ n) (hn1 : n ≤ 10) (hd : ∀ i, ¬ notA a i → notG g i) (hQ : ∀ I', (∀ i, notA a i → I' i = I i) → ARt I' a al (regsM n al) (leastM n al) → Q none (mk I' L)) : CT l X mX0_findRegions 0 [.ref a, .ref g] (mk I L) Q := by
  refine ct_intro okX0_findRegions (by decide +kernel) (Or.inl rfl) (Nat.le_of_ble_eq_true rfl) fun A C W => ?_
  show A 0 [some (.ref a), some (.ref g), none, none] [] _
  have hA' := hA
  have hs' := hs
  obtain ⟨u0, u1, u2, u3, u4, u5, u6, u7, u8, u9, u10, u11, u12, u13, u14, u15, u16, u17, u18, u19, u20, u21, u22, u23⟩ := hA
  have v0 : (a < 480) = True := eq_true (by omega)
  have v1 : (a + 1 < 480) = True := eq_true (by omega)
  have v2 : (a + 2 < 480) = True := eq_true (by omega)
  have v3 : (a + 3 < 480) = True := eq_true (by omega)
  have v4 : (a + 4 < 480) = True := eq_true (by omega)
  have v5 : (a + 5 < 480) = True := eq_true (by omega)
  have v6 : (a + 6 < 480) = True := eq_true (by omega)
  have v7 : (a + 7 < 480) = True := eq_true (by omega)
  have v8 : (a + 8 < 480) = True := eq_true (by omega)
  obtain ⟨s0, s1, s2, s3, s4, s5, s6, s7, s8, s9, s10⟩ := hs
  have b0 : (g < 480) = True := eq_true (by omega)
  have b1 : (g + 1 < 480) = True := eq_true (by omega)
  have b2 : (g + 2 < 480) = True := eq_true (by omega)
  have b3 : (g + 3 < 480) = True := eq_true (by omega)
  have p1 : 2 ^ n ≤ 2 ^ 10 := Nat.pow_le_pow_right (by omega) hn1
  have p2 : 2 ^ 1 ≤ 2 ^ n := Nat.pow_le_pow_right (by omega) hn0
  have hcg : notG g (a + 1) := hd _ (by unfold notA; omega)
  have loop : ∀ s, s ≤ 2 ^ n - 1 → 1 ≤ s → ∀ I', (∀ i, notA a i → I' i = I i) → ARt I' a al (regsTo al s) (lmin al s) → A 17 [some (.ref a), some (.ref g), some (.int (nI (2 ^ n - 1))), some (.int (nI s))] [] (mk I' L) := by
    refine down fun s hsn ih hs1 I' hK hR => ?_
    have hg' : GC I' g n al := hg.keepc (p := fun i => ¬ notA a i) (fun i hi => hK i (Classical.byContradiction hi)) hd
    apply C.vc (fun pc => pc == 14 || pc == 17 || pc == 31 || pc == 69) 80; (simp only [↓vk kX0_findRegions_0, ↓vk kX0_findRegions_1, ↓vk kX0_findRegions_2, ↓vk kX0_findRegions_5, ↓vk kX0_findRegions_6, ↓vk kX0_findRegions_7, ↓vk kX0_findRegions_10, ↓vk kX0_findRegions_11, ↓vk kX0_findRegions_14, ↓vk kX0_findRegions_15, ↓vk kX0_findRegions_16, ↓vk kX0_findRegions_17, ↓vk kX0_findRegions_18, ↓vk kX0_findRegions_19, ↓vk kX0_findRegions_22, ↓vk kX0_findRegions_23, ↓vk kX0_findRegions_26, ↓vk kX0_findRegions_27, ↓vk kX0_findRegions_28, ↓vk kX0_findRegions_31, ↓vk kX0_findRegions_34, ↓vk kX0_findRegions_35, ↓vk kX0_findRegions_38, ↓vk kX0_findRegions_41, ↓vk kX0_findRegions_44, ↓vk kX0_findRegions_45, ↓vk kX0_findRegions_48, ↓vk kX0_findRegions_49, ↓vk kX0_findRegions_52, ↓vk kX0_findRegions_53, ↓vk kX0_findRegions_54, ↓vk kX0_findRegions_55, ↓vk kX0_findRegions_56, ↓vk kX0_findRegions_59, ↓vk kX0_findRegions_60, ↓vk kX0_findRegions_61, ↓vk kX0_findRegions_64, ↓vk kX0_findRegions_65, ↓vk kX0_findRegions_66, ↓vk kX0_findRegions_69, ↓vk kX0_findRegions_72, ↓vk kX0_findRegions_75, ↓x_aload, ↓x_callV0, ↓x_callV1, ↓x_callV2, ↓x_dup, ↓x_getI, ↓x_getR, ↓x_goto, ↓x_iast, ↓x_icmp, ↓x_if, ↓x_ii, ↓x_iinc, ↓x_iload, ↓x_istore, ↓x_push, ↓x_putI, ↓x_vret, ↓reduceIte, List.getElem?_cons_zero, List.getElem?_cons_succ, List.getD_cons_zero, List.getD_cons_succ, List.getD_nil, List.set_cons_zero, List.set_cons_succ, lset, lset2, isL, noD, cond_true, cond_false, if_true, if_false, Bool.false_eq_true, true_and, and_true, Nat.reduceAdd, Nat.reduceBEq, Nat.reduceSub, Nat.reduceEqDiff, Nat.reduceLT, Nat.reduceLeDiff, Bool.or_false, Bool.false_or, Bool.or_true, Bool.true_or, List.append_nil, List.nil_append, List.cons_append, Option.toList_some, Option.toList_none, lo0, List.replicate, List.length_cons, List.length_nil, muI, muL, callK, catS, List.map_cons, List.map_nil, List.sum_cons, List.sum_nil, vrf, swK, ofN, Value.category, reduceCtorEq, rf_0_0, rf_0_1, rf_0_2, rf_0_3, rf_0_4, rf_0_5, rf_0_6, rf_0_7, rf_0_8, rf_0_9, rf_1_0, rf_3_2, rf_3_3, rf_3_4, rf_7_1, rf_9_0, rf_9_1, rf_60_0, rf_60_1, rf_60_3, rf_60_4, rf_60_5, rf_60_7, rf_60_8, rf_60_11, rf_69_0, rf_69_2, rf_69_3, rf_69_4, rf_69_5, rf_69_6, rf_344_0, rf_344_1, rf_344_2, rf_344_3, rf_450_2, rf_450_3, rf_450_4, rf_454_0, rf_454_1, rf_454_3, rf_454_4, rf_454_5, rf_454_7, rf_454_8, rf_454_11, sh_0, sh_1, sh_2, sh_3, sh_4, sh_5, sh_6, sh_7, sh_8, sh_9, sh_10, sh_11, sh_60, sh_61, sh_62, sh_63, sh_64, sh_65, sh_66, sh_67, sh_68, sh_69, sh_70, sh_71, sh_72, sh_73, sh_74, sh_75, sh_344, sh_345, sh_346, sh_347, sh_348, sh_449, sh_450, sh_451, sh_452, sh_453, sh_454, sh_455, sh_456, sh_457, sh_458, sh_459, sh_460, sh_461, sh_462, al_2, al_4, al_5, al_6, al_10, al_11, al_62, al_63, al_64, al_65, al_66, al_67, al_70, al_71, al_72, al_73, al_345, al_346, al_347, al_451, al_452, al_453, al_456, al_457, al_458, al_459, al_460, al_461]); (try simp (discharger := omega) only [↓ni_bI1, ↓ni_bI1o, ↓ni_bI0, ↓ni_bI0n, ↓ni_bIe, ni_bIb, Nat.reduceEqDiff, Nat.reduceLT, Nat.reduceLeDiff, Nat.reduceAdd, Nat.reduceMul, not_true_eq_false, not_false_eq_true, true_implies, false_implies, and_true, true_and, lg_cmp_eq, nI_add, pk_mul, nI_clamp, ni_le, ni_lt, ni_eq, ni_lt0, ni_0le, ni_eq0, ni_0lt, ni_le0, ni_in, ni_m9, ni_9m, up2_ne, up2_eq, up2_kn, vnar0, vnar1, Nat.add_zero, Nat.zero_add, Nat.mul_zero, List.map_nil, List.map_cons, List.sum_nil, List.sum_cons, List.append_nil, Nat.zero_le, u0, u1, u2, u3, u4, u5, u6, u7, u8, u9, u10, u11, u12, u13, u14, u15, u16, u17, u18, u19, u20, u21, u22, v0, v1, v2, v3, v4, v5, v6, v7, v8])
    refine ⟨fun h => ?_, fun h => ?_⟩
    · have he : s = 2 ^ n - 1 := by omega
      subst he
      exact hQ I' hK hR
    · refine ct_c_region (set := s) u9 (by omega) hs' hg' ho hcg (by omega) fun I2 hK2 hC => ?_
      have hlen := regsTo_len al (s - 1)
      rw [show s - 1 + 1 = s by omega] at hlen
      have next := ih (by omega) (by omega)
      rw [lmin_succ, regsTo_succ] at next
      have h69 : ∀ I3, (∀ i, notA a i → I3 i = I i) → ARt I3 a al (regsTo al s ++ if 1 ≤ s ∧ isRegB al s = true then [s] else []) (if 1 ≤ s ∧ isRegB al s = true then (if (lmin al s).all (fun r => !subB r s) = true then lmin al s ++ [s] else lmin al s) else lmin al s) → A 69 [some (.ref a), some (.ref g), some (.int (nI (2 ^ n - 1))), some (.int (nI s))] [] (mk I3 L) := by
        intro I3 hK3 hR3
        apply C.vc (fun pc => pc == 14 || pc == 17 || pc == 31 || pc == 69) 80; (simp only [↓vk kX0_findRegions_0, ↓vk kX0_findRegions_1, ↓vk kX0_findRegions_2, ↓vk kX0_findRegions_5, ↓vk kX0_findRegions_6, ↓vk kX0_findRegions_7, ↓vk kX0_findRegions_10, ↓vk kX0_findRegions_11, ↓vk kX0_findRegions_14, ↓vk kX0_findRegions_15, ↓vk kX0_findRegions_16, ↓vk kX0_findRegions_17, ↓vk kX0_findRegions_18, ↓vk kX0_findRegions_19, ↓vk kX0_findRegions_22, ↓vk kX0_findRegions_23, ↓vk kX0_findRegions_26, ↓vk kX0_findRegions_27, ↓vk kX0_findRegions_28, ↓vk kX0_findRegions_31, ↓vk kX0_findRegions_34, ↓vk kX0_findRegions_35, ↓vk kX0_findRegions_38, ↓vk kX0_findRegions_41, ↓vk kX0_findRegions_44, ↓vk kX0_findRegions_45, ↓vk kX0_findRegions_48, ↓vk kX0_findRegions_49, ↓vk kX0_findRegions_52, ↓vk kX0_findRegions_53, ↓vk kX0_findRegions_54, ↓vk kX0_findRegions_55, ↓vk kX0_findRegions_56, ↓vk kX0_findRegions_59, ↓vk kX0_findRegions_60, ↓vk kX0_findRegions_61, ↓vk kX0_findRegions_64, ↓vk kX0_findRegions_65, ↓vk kX0_findRegions_66, ↓vk kX0_findRegions_69, ↓vk kX0_findRegions_72, ↓vk kX0_findRegions_75, ↓x_aload, ↓x_callV0, ↓x_callV1, ↓x_callV2, ↓x_dup, ↓x_getI, ↓x_getR, ↓x_goto, ↓x_iast, ↓x_icmp, ↓x_if, ↓x_ii, ↓x_iinc, ↓x_iload, ↓x_istore, ↓x_push, ↓x_putI, ↓x_vret, ↓reduceIte, List.getElem?_cons_zero, List.getElem?_cons_succ, List.getD_cons_zero, List.getD_cons_succ, List.getD_nil, List.set_cons_zero, List.set_cons_succ, lset, lset2, isL, noD, cond_true, cond_false, if_true, if_false, Bool.false_eq_true, true_and, and_true, Nat.reduceAdd, Nat.reduceBEq, Nat.reduceSub, Nat.reduceEqDiff, Nat.reduceLT, Nat.reduceLeDiff, Bool.or_false, Bool.false_or, Bool.or_true, Bool.true_or, List.append_nil, List.nil_append, List.cons_append, Option.toList_some, Option.toList_none, lo0, List.replicate, List.length_cons, List.length_nil, muI, muL, callK, catS, List.map_cons, List.map_nil, List.sum_cons, List.sum_nil, vrf, swK, ofN, Value.category, reduceCtorEq, rf_0_0, rf_0_1, rf_0_2, rf_0_3, rf_0_4, rf_0_5, rf_0_6, rf_0_7, rf_0_8, rf_0_9, rf_1_0, rf_3_2, rf_3_3, rf_3_4, rf_7_1, rf_9_0, rf_9_1, rf_60_0, rf_60_1, rf_60_3, rf_60_4, rf_60_5, rf_60_7, rf_60_8, rf_60_11, rf_69_0, rf_69_2, rf_69_3, rf_69_4, rf_69_5, rf_69_6, rf_344_0, rf_344_1, rf_344_2, rf_344_3, rf_450_2, rf_450_3, rf_450_4, rf_454_0, rf_454_1, rf_454_3, rf_454_4, rf_454_5, rf_454_7, rf_454_8, rf_454_11, sh_0, sh_1, sh_2, sh_3, sh_4, sh_5, sh_6, sh_7, sh_8, sh_9, sh_10, sh_11, sh_60, sh_61, sh_62, sh_63, sh_64, sh_65, sh_66, sh_67, sh_68, sh_69, sh_70, sh_71, sh_72, sh_73, sh_74, sh_75, sh_344, sh_345, sh_346, sh_347, sh_348, sh_449, sh_450, sh_451, sh_452, sh_453, sh_454, sh_455, sh_456, sh_457, sh_458, sh_459, sh_460, sh_461, sh_462, al_2, al_4, al_5, al_6, al_10, al_11, al_62, al_63, al_64, al_65, al_66, al_67, al_70, al_71, al_72, al_73, al_345, al_346, al_347, al_451, al_452, al_453, al_456, al_457, al_458, al_459, al_460, al_461]); (try simp (discharger := omega) only [↓ni_bI1, ↓ni_bI1o, ↓ni_bI0, ↓ni_bI0n, ↓ni_bIe, ni_bIb, Nat.reduceEqDiff, Nat.reduceLT, Nat.reduceLeDiff, Nat.reduceAdd, Nat.reduceMul, not_true_eq_false, not_false_eq_true, true_implies, false_implies, and_true, true_and, lg_cmp_eq, nI_add, pk_mul, nI_clamp, ni_le, ni_lt, ni_eq, ni_lt0, ni_0le, ni_eq0, ni_0lt, ni_le0, ni_in, ni_m9, ni_9m, up2_ne, up2_eq, up2_kn, vnar0, vnar1, Nat.add_zero, Nat.zero_add, Nat.mul_zero, List.map_nil, List.map_cons, List.sum_nil, List.sum_cons, List.append_nil, Nat.zero_le])
        exact next I3 hK3 hR3
      obtain ⟨r1, r2, r3, r4, r5⟩ := hR
      have k1 : ∀ i, i ≠ a + 1 → I2 i = I' i := hK2
      have e2 : I2 a 2 = nI (regsTo al s).length := by rw [k1 a (by omega)]; exact r1
      have hR2 : ARt I2 a al (regsTo al s) (lmin al s) := by
        refine ⟨e2, ?_, ?_, ?_, ?_⟩
        · rw [k1 _ (by omega)]; exact r2
        · rw [k1 _ (by omega)]; exact r3
        · rw [k1 _ (by omega)]; exact r4
        · rw [k1 _ (by omega), k1 _ (by omega)]; exact r5
      have hKK : ∀ i, notA a i → I2 i = I i := fun i hi => by
        rw [k1 i (by unfold notA at hi; omega)]; exact hK i hi
      apply C.vc (fun pc => pc == 14 || pc == 17 || pc == 31 || pc == 69) 80; (simp only [↓vk kX0_findRegions_0, ↓vk kX0_findRegions_1, ↓vk kX0_findRegions_2, ↓vk kX0_findRegions_5, ↓vk kX0_findRegions_6, ↓vk kX0_findRegions_7, ↓vk kX0_findRegions_10, ↓vk kX0_findRegions_11, ↓vk kX0_findRegions_14, ↓vk kX0_findRegions_15, ↓vk kX0_findRegions_16, ↓vk kX0_findRegions_17, ↓vk kX0_findRegions_18, ↓vk kX0_findRegions_19, ↓vk kX0_findRegions_22, ↓vk kX0_findRegions_23, ↓vk kX0_findRegions_26, ↓vk kX0_findRegions_27, ↓vk kX0_findRegions_28, ↓vk kX0_findRegions_31, ↓vk kX0_findRegions_34, ↓vk kX0_findRegions_35, ↓vk kX0_findRegions_38, ↓vk kX0_findRegions_41, ↓vk kX0_findRegions_44, ↓vk kX0_findRegions_45, ↓vk kX0_findRegions_48, ↓vk kX0_findRegions_49, ↓vk kX0_findRegions_52, ↓vk kX0_findRegions_53, ↓vk kX0_findRegions_54, ↓vk kX0_findRegions_55, ↓vk kX0_findRegions_56, ↓vk kX0_findRegions_59, ↓vk kX0_findRegions_60, ↓vk kX0_findRegions_61, ↓vk kX0_findRegions_64, ↓vk kX0_findRegions_65, ↓vk kX0_findRegions_66, ↓vk kX0_findRegions_69, ↓vk kX0_findRegions_72, ↓vk kX0_findRegions_75, ↓x_aload, ↓x_callV0, ↓x_callV1, ↓x_callV2, ↓x_dup, ↓x_getI, ↓x_getR, ↓x_goto, ↓x_iast, ↓x_icmp, ↓x_if, ↓x_ii, ↓x_iinc, ↓x_iload, ↓x_istore, ↓x_push, ↓x_putI, ↓x_vret, ↓reduceIte, List.getElem?_cons_zero, List.getElem?_cons_succ, List.getD_cons_zero, List.getD_cons_succ, List.getD_nil, List.set_cons_zero, List.set_cons_succ, lset, lset2, isL, noD, cond_true, cond_false, if_true, if_false, Bool.false_eq_true, true_and, and_true, Nat.reduceAdd, Nat.reduceBEq, Nat.reduceSub, Nat.reduceEqDiff, Nat.reduceLT, Nat.reduceLeDiff, Bool.or_false, Bool.false_or, Bool.or_true, Bool.true_or, List.append_nil, List.nil_append, List.cons_append, Option.toList_some, Option.toList_none, lo0, List.replicate, List.length_cons, List.length_nil, muI, muL, callK, catS, List.map_cons, List.map_nil, List.sum_cons, List.sum_nil, vrf, swK, ofN, Value.category, reduceCtorEq, rf_0_0, rf_0_1, rf_0_2, rf_0_3, rf_0_4, rf_0_5, rf_0_6, rf_0_7, rf_0_8, rf_0_9, rf_1_0, rf_3_2, rf_3_3, rf_3_4, rf_7_1, rf_9_0, rf_9_1, rf_60_0, rf_60_1, rf_60_3, rf_60_4, rf_60_5, rf_60_7, rf_60_8, rf_60_11, rf_69_0, rf_69_2, rf_69_3, rf_69_4, rf_69_5, rf_69_6, rf_344_0, rf_344_1, rf_344_2, rf_344_3, rf_450_2, rf_450_3, rf_450_4, rf_454_0, rf_454_1, rf_454_3, rf_454_4, rf_454_5, rf_454_7, rf_454_8, rf_454_11, sh_0, sh_1, sh_2, sh_3, sh_4, sh_5, sh_6, sh_7, sh_8, sh_9, sh_10, sh_11, sh_60, sh_61, sh_62, sh_63, sh_64, sh_65, sh_66, sh_67, sh_68, sh_69, sh_70, sh_71, sh_72, sh_73, sh_74, sh_75, sh_344, sh_345, sh_346, sh_347, sh_348, sh_449, sh_450, sh_451, sh_452, sh_453, sh_454, sh_455, sh_456, sh_457, sh_458, sh_459, sh_460, sh_461, sh_462, al_2, al_4, al_5, al_6, al_10, al_11, al_62, al_63, al_64, al_65, al_66, al_67, al_70, al_71, al_72, al_73, al_345, al_346, al_347, al_451, al_452, al_453, al_456, al_457, al_458, al_459, al_460, al_461]); (try simp (discharger := omega) only [↓ni_bI1, ↓ni_bI1o, ↓ni_bI0, ↓ni_bI0n, ↓ni_bIe, ni_bIb, Nat.reduceEqDiff, Nat.reduceLT, Nat.reduceLeDiff, Nat.reduceAdd, Nat.reduceMul, not_true_eq_false, not_false_eq_true, true_implies, false_implies, and_true, true_and, lg_cmp_eq, nI_add, pk_mul, nI_clamp, ni_le, ni_lt, ni_eq, ni_lt0, ni_0le, ni_eq0, ni_0lt, ni_le0, ni_in, ni_m9, ni_9m, up2_ne, up2_eq, up2_kn, vnar0, vnar1, Nat.add_zero, Nat.zero_add, Nat.mul_zero, List.map_nil, List.map_cons, List.sum_nil, List.sum_cons, List.append_nil, Nat.zero_le, u0, u1, u2, u3, u4, u5, u6, u7, u8, u9, u10, u11, u12, u13, u14, u15, u16, u17, u18, u19, u20, u21, u22, v0, v1, v2, v3, v4, v5, v6, v7, v8, e2])
      refine ⟨fun z => ?_, fun z => ⟨fun z2 => absurd z2 (by omega), fun _ => ⟨by omega, ?_⟩⟩⟩
      · have hc : ¬ (1 ≤ s ∧ isRegB al s = true) := fun hh => by rw [hh.2] at z; cases z
        rw [if_neg hc, if_neg hc, List.append_nil] at h69
        exact h69 I2 hKK hR2
      · have z : isRegB al s = true := by simpa using z
        have hc : 1 ≤ s ∧ isRegB al s = true := ⟨hs1, z⟩
        have hf : (lmin al s).all (fun r => !subB r s) = true → (lmin al s).length < 252 := by
          intro hall
          have := lmin_few (al := al) (s := s + 1) (by omega)
          rw [lmin_succ, if_pos hc, if_pos hall, List.length_append, List.length_singleton] at this
          omega
        rw [if_pos hc, if_pos hc] at h69
        obtain ⟨c1, c2, c3⟩ := hC z
        obtain ⟨m1, m2⟩ := reg_mask ho z
        rw [m1] at c1
        rw [m2] at c2
        refine ct_a_addIf (al := al) (rs := regsTo al s ++ [s]) (ls := lmin al s) hA' ⟨?_, ?_, ?_, ?_, ?_⟩ ?_ ?_ (lmin_few (by omega)) hf (fun r hr => by have := lmin_lt hr; omega) (by omega) fun I3 hK3 hR3 => ?_
        · rw [up2_eq, List.length_append, List.length_singleton]
        · simp (discharger := omega) only [up2_ne]
          exact hR2.2.1.push (fun j hj => up2_kn (by omega)) up2_eq
        · simp (discharger := omega) only [up2_ne, up2_kn]; exact hR2.2.2.1
        · simp (discharger := omega) only [up2_ne]; exact hR2.2.2.2.1
        · simp (discharger := omega) only [up2_ne]; exact hR2.2.2.2.2
        · simp (discharger := omega) only [up2_ne]; exact c1
        · simp (discharger := omega) only [up2_ne]; exact c2
        · refine h69 I3 (fun i hi => ?_) hR3
          rw [hK3 i hi]
          unfold notA at hi
          simp (discharger := omega) only [up2_ne]
          exact hKK i hi
  apply C.vc (fun pc => pc == 14 || pc == 17 || pc == 31 || pc == 69) 80; (simp only [↓vk kX0_findRegions_0, ↓vk kX0_findRegions_1, ↓vk kX0_findRegions_2, ↓vk kX0_findRegions_5, ↓vk kX0_findRegions_6, ↓vk kX0_findRegions_7, ↓vk kX0_findRegions_10, ↓vk kX0_findRegions_11, ↓vk kX0_findRegions_14, ↓vk kX0_findRegions_15, ↓vk kX0_findRegions_16, ↓vk kX0_findRegions_17, ↓vk kX0_findRegions_18, ↓vk kX0_findRegions_19, ↓vk kX0_findRegions_22, ↓vk kX0_findRegions_23, ↓vk kX0_findRegions_26, ↓vk kX0_findRegions_27, ↓vk kX0_findRegions_28, ↓vk kX0_findRegions_31, ↓vk kX0_findRegions_34, ↓vk kX0_findRegions_35, ↓vk kX0_findRegions_38, ↓vk kX0_findRegions_41, ↓vk kX0_findRegions_44, ↓vk kX0_findRegions_45, ↓vk kX0_findRegions_48, ↓vk kX0_findRegions_49, ↓vk kX0_findRegions_52, ↓vk kX0_findRegions_53, ↓vk kX0_findRegions_54, ↓vk kX0_findRegions_55, ↓vk kX0_findRegions_56, ↓vk kX0_findRegions_59, ↓vk kX0_findRegions_60, ↓vk kX0_findRegions_61, ↓vk kX0_findRegions_64, ↓vk kX0_findRegions_65, ↓vk kX0_findRegions_66, ↓vk kX0_findRegions_69, ↓vk kX0_findRegions_72, ↓vk kX0_findRegions_75, ↓x_aload, ↓x_callV0, ↓x_callV1, ↓x_callV2, ↓x_dup, ↓x_getI, ↓x_getR, ↓x_goto, ↓x_iast, ↓x_icmp, ↓x_if, ↓x_ii, ↓x_iinc, ↓x_iload, ↓x_istore, ↓x_push, ↓x_putI, ↓x_vret, ↓reduceIte, List.getElem?_cons_zero, List.getElem?_cons_succ, List.getD_cons_zero, List.getD_cons_succ, List.getD_nil, List.set_cons_zero, List.set_cons_succ, lset, lset2, isL, noD, cond_true, cond_false, if_true, if_false, Bool.false_eq_true, true_and, and_true, Nat.reduceAdd, Nat.reduceBEq, Nat.reduceSub, Nat.reduceEqDiff, Nat.reduceLT, Nat.reduceLeDiff, Bool.or_false, Bool.false_or, Bool.or_true, Bool.true_or, List.append_nil, List.nil_append, List.cons_append, Option.toList_some, Option.toList_none, lo0, List.replicate, List.length_cons, List.length_nil, muI, muL, callK, catS, List.map_cons, List.map_nil, List.sum_cons, List.sum_nil, vrf, swK, ofN, Value.category, reduceCtorEq, rf_0_0, rf_0_1, rf_0_2, rf_0_3, rf_0_4, rf_0_5, rf_0_6, rf_0_7, rf_0_8, rf_0_9, rf_1_0, rf_3_2, rf_3_3, rf_3_4, rf_7_1, rf_9_0, rf_9_1, rf_60_0, rf_60_1, rf_60_3, rf_60_4, rf_60_5, rf_60_7, rf_60_8, rf_60_11, rf_69_0, rf_69_2, rf_69_3, rf_69_4, rf_69_5, rf_69_6, rf_344_0, rf_344_1, rf_344_2, rf_344_3, rf_450_2, rf_450_3, rf_450_4, rf_454_0, rf_454_1, rf_454_3, rf_454_4, rf_454_5, rf_454_7, rf_454_8, rf_454_11, sh_0, sh_1, sh_2, sh_3, sh_4, sh_5, sh_6, sh_7, sh_8, sh_9, sh_10, sh_11, sh_60, sh_61, sh_62, sh_63, sh_64, sh_65, sh_66, sh_67, sh_68, sh_69, sh_70, sh_71, sh_72, sh_73, sh_74, sh_75, sh_344, sh_345, sh_346, sh_347, sh_348, sh_449, sh_450, sh_451, sh_452, sh_453, sh_454, sh_455, sh_456, sh_457, sh_458, sh_459, sh_460, sh_461, sh_462, al_2, al_4, al_5, al_6, al_10, al_11, al_62, al_63, al_64, al_65, al_66, al_67, al_70, al_71, al_72, al_73, al_345, al_346, al_347, al_451, al_452, al_453, al_456, al_457, al_458, al_459, al_460, al_461]); (try simp (discharger := omega) only [↓ni_bI1, ↓ni_bI1o, ↓ni_bI0, ↓ni_bI0n, ↓ni_bIe, ni_bIb, Nat.reduceEqDiff, Nat.reduceLT, Nat.reduceLeDiff, Nat.reduceAdd, Nat.reduceMul, not_true_eq_false, not_false_eq_true, true_implies, false_implies, and_true, true_and, lg_cmp_eq, nI_add, pk_mul, nI_clamp, ni_le, ni_lt, ni_eq, ni_lt0, ni_0le, ni_eq0, ni_0lt, ni_le0, ni_in, ni_m9, ni_9m, up2_ne, up2_eq, up2_kn, vnar0, vnar1, Nat.add_zero, Nat.zero_add, Nat.mul_zero, List.map_nil, List.map_cons, List.sum_nil, List.sum_cons, List.append_nil, Nat.zero_le, u0, u1, u2, u3, u4, u5, u6, u7, u8, u9, u10, u11, u12, u13, u14, u15, u16, u17, u18, u19, u20, u21, u22, v0, v1, v2, v3, v4, v5, v6, v7, v8, s0, s1, s2, s3, s4, s5, s6, s7, s8, s9, b0, b1, b2, b3])
  refine ct_g_allStates hs' (hg.keepc (p := fun i => ¬ notA a i) (fun i hi => ?_) hd) hn1 ?_
  · have hi := Classical.byContradiction hi
    unfold notA at hi
    simp (discharger := omega) only [up2_ne]
  · apply C.vc (fun pc => pc == 14 || pc == 17 || pc == 31 || pc == 69) 80; (simp only [↓vk kX0_findRegions_0, ↓vk kX0_findRegions_1, ↓vk kX0_findRegions_2, ↓vk kX0_findRegions_5, ↓vk kX0_findRegions_6, ↓vk kX0_findRegions_7, ↓vk kX0_findRegions_10, ↓vk kX0_findRegions_11, ↓vk kX0_findRegions_14, ↓vk kX0_findRegions_15, ↓vk kX0_findRegions_16, ↓vk kX0_findRegions_17, ↓vk kX0_findRegions_18, ↓vk kX0_findRegions_19, ↓vk kX0_findRegions_22, ↓vk kX0_findRegions_23, ↓vk kX0_findRegions_26, ↓vk kX0_findRegions_27, ↓vk kX0_findRegions_28, ↓vk kX0_findRegions_31, ↓vk kX0_findRegions_34, ↓vk kX0_findRegions_35, ↓vk kX0_findRegions_38, ↓vk kX0_findRegions_41, ↓vk kX0_findRegions_44, ↓vk kX0_findRegions_45, ↓vk kX0_findRegions_48, ↓vk kX0_findRegions_49, ↓vk kX0_findRegions_52, ↓vk kX0_findRegions_53, ↓vk kX0_findRegions_54, ↓vk kX0_findRegions_55, ↓vk kX0_findRegions_56, ↓vk kX0_findRegions_59, ↓vk kX0_findRegions_60, ↓vk kX0_findRegions_61, ↓vk kX0_findRegions_64, ↓vk kX0_findRegions_65, ↓vk kX0_findRegions_66, ↓vk kX0_findRegions_69, ↓vk kX0_findRegions_72, ↓vk kX0_findRegions_75, ↓x_aload, ↓x_callV0, ↓x_callV1, ↓x_callV2, ↓x_dup, ↓x_getI, ↓x_getR, ↓x_goto, ↓x_iast, ↓x_icmp, ↓x_if, ↓x_ii, ↓x_iinc, ↓x_iload, ↓x_istore, ↓x_push, ↓x_putI, ↓x_vret, ↓reduceIte, List.getElem?_cons_zero, List.getElem?_cons_succ, List.getD_cons_zero, List.getD_cons_succ, List.getD_nil, List.set_cons_zero, List.set_cons_succ, lset, lset2, isL, noD, cond_true, cond_false, if_true, if_false, Bool.false_eq_true, true_and, and_true, Nat.reduceAdd, Nat.reduceBEq, Nat.reduceSub, Nat.reduceEqDiff, Nat.reduceLT, Nat.reduceLeDiff, Bool.or_false, Bool.false_or, Bool.or_true, Bool.true_or, List.append_nil, List.nil_append, List.cons_append, Option.toList_some, Option.toList_none, lo0, List.replicate, List.length_cons, List.length_nil, muI, muL, callK, catS, List.map_cons, List.map_nil, List.sum_cons, List.sum_nil, vrf, swK, ofN, Value.category, reduceCtorEq, rf_0_0, rf_0_1, rf_0_2, rf_0_3, rf_0_4, rf_0_5, rf_0_6, rf_0_7, rf_0_8, rf_0_9, rf_1_0, rf_3_2, rf_3_3, rf_3_4, rf_7_1, rf_9_0, rf_9_1, rf_60_0, rf_60_1, rf_60_3, rf_60_4, rf_60_5, rf_60_7, rf_60_8, rf_60_11, rf_69_0, rf_69_2, rf_69_3, rf_69_4, rf_69_5, rf_69_6, rf_344_0, rf_344_1, rf_344_2, rf_344_3, rf_450_2, rf_450_3, rf_450_4, rf_454_0, rf_454_1, rf_454_3, rf_454_4, rf_454_5, rf_454_7, rf_454_8, rf_454_11, sh_0, sh_1, sh_2, sh_3, sh_4, sh_5, sh_6, sh_7, sh_8, sh_9, sh_10, sh_11, sh_60, sh_61, sh_62, sh_63, sh_64, sh_65, sh_66, sh_67, sh_68, sh_69, sh_70, sh_71, sh_72, sh_73, sh_74, sh_75, sh_344, sh_345, sh_346, sh_347, sh_348, sh_449, sh_450, sh_451, sh_452, sh_453, sh_454, sh_455, sh_456, sh_457, sh_458, sh_459, sh_460, sh_461, sh_462, al_2, al_4, al_5, al_6, al_10, al_11, al_62, al_63, al_64, al_65, al_66, al_67, al_70, al_71, al_72, al_73, al_345, al_346, al_347, al_451, al_452, al_453, al_456, al_457, al_458, al_459, al_460, al_461]); (try simp (discharger := omega) only [↓ni_bI1, ↓ni_bI1o, ↓ni_bI0, ↓ni_bI0n, ↓ni_bIe, ni_bIb, Nat.reduceEqDiff, Nat.reduceLT, Nat.reduceLeDiff, Nat.reduceAdd, Nat.reduceMul, not_true_eq_false, not_false_eq_true, true_implies, false_implies, and_true, true_and, lg_cmp_eq, nI_add, pk_mul, nI_clamp, ni_le, ni_lt, ni_eq, ni_lt0, ni_0le, ni_eq0, ni_0lt, ni_le0, ni_in, ni_m9, ni_9m, up2_ne, up2_eq, up2_kn, vnar0, vnar1, Nat.add_zero, Nat.zero_add, Nat.mul_zero, List.map_nil, List.map_cons, List.sum_nil, List.sum_cons, List.append_nil, Nat.zero_le])
    refine loop 1 (by omega) (by omega) _ (fun i hi => ?_) ⟨?_, ?_, ?_, ?_, fun k hk => ?_⟩
    · unfold notA at hi
      simp (discharger := omega) only [up2_ne]
    · rw [up2_kn (by omega), up2_eq, regsTo_1]; rfl
    · rw [regsTo_1]; exact Hold.nil
    · have : lmin al 1 = [] := by unfold lmin; rw [regsTo_1]; rfl
      rw [up2_eq, this]; rfl
    · have : lmin al 1 = [] := by unfold lmin; rw [regsTo_1]; rfl
      rw [this]; exact Hold.nil
    · have : lmin al 1 = [] := by unfold lmin; rw [regsTo_1]; rfl
      rw [this] at hk
      exact absurd hk (Nat.not_lt_zero _)
end AX1

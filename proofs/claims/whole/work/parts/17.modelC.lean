/-! the reference finds the regions -/
def Hold (f : Nat → Int32) (l : List Nat) : Prop := ∀ k, k < l.length → f k = nI (l.getD k 0)
theorem Hold.nil {f : Nat → Int32} : Hold f [] := fun k h => absurd h (Nat.not_lt_zero _)
theorem Hold.push {f g : Nat → Int32} {l : List Nat} {x : Nat} (h : Hold f l) (h1 : ∀ k, k < l.length → g k = f k) (h2 : g l.length = nI x) : Hold g (l ++ [x]) := by
  intro k hk
  rw [List.length_append, List.length_singleton] at hk
  rw [List.getD_eq_getElem?_getD]
  by_cases hl : k < l.length
  · rw [List.getElem?_append_left hl, h1 k hl, h k hl, List.getD_eq_getElem?_getD]
  · have he : k = l.length := by omega
    subst he
    rw [List.getElem?_append_right (Nat.le_refl _), Nat.sub_self, h2]
    rfl
def regsTo (al : List Arc) (s : Nat) : List Nat := (List.range s).filter (fun q => decide (1 ≤ q) && isRegB al q)
def regsM (n : Nat) (al : List Arc) : List Nat := regsTo al (2 ^ n - 1)
theorem regsTo_succ (al : List Arc) (s : Nat) : regsTo al (s + 1) = regsTo al s ++ (if 1 ≤ s ∧ isRegB al s = true then [s] else []) := by
  unfold regsTo
  rw [List.range_succ, List.filter_append]
  congr 1
  by_cases h1 : 1 ≤ s <;> by_cases h2 : isRegB al s = true <;> simp [h1, h2]
theorem regsTo_1 (al : List Arc) : regsTo al 1 = [] := by
  rw [regsTo_succ]
  simp [regsTo]
theorem regsTo_len (al : List Arc) : ∀ s, (regsTo al (s + 1)).length ≤ s
  | 0 => by rw [regsTo_1]; exact Nat.le_refl _
  | s + 1 => by
    rw [regsTo_succ, List.length_append]
    have := regsTo_len al s
    split <;> simp <;> omega
theorem regsTo_lt {al : List Arc} {s q : Nat} (h : q ∈ regsTo al s) : 1 ≤ q ∧ q < s := by
  unfold regsTo at h
  rw [List.mem_filter] at h
  obtain ⟨h1, h2⟩ := h
  simp at h2
  exact ⟨h2.1, List.mem_range.mp h1⟩
theorem regsTo_inc (al : List Arc) (s : Nat) : (regsTo al s).Pairwise (· < ·) := List.Pairwise.filter _ List.pairwise_lt_range
def subB (a b : Nat) : Bool := a &&& b == a
def minAt (rs : List Nat) (j : Nat) : Bool := (List.range j).all (fun i => !subB (rs.getD i 0) (rs.getD j 0))
def leastTo (rs : List Nat) (k : Nat) : List Nat := ((List.range k).filter (minAt rs)).map (fun j => rs.getD j 0)
def leastM (n : Nat) (al : List Arc) : List Nat := leastTo (regsM n al) (regsM n al).length
theorem leastTo_succ (rs : List Nat) (k : Nat) : leastTo rs (k + 1) = leastTo rs k ++ (if minAt rs k = true then [rs.getD k 0] else []) := by
  unfold leastTo
  rw [List.range_succ, List.filter_append, List.map_append]
  congr 1
  by_cases h : minAt rs k = true <;> simp [h]
def chn : Nat → List (List Nat)
  | 0 => [[0]]
  | n + 1 => (chn n).flatMap (fun c => if c.length ≤ 1 then [c ++ [c.getLastD 0 + 2 ^ n]] else [c ++ [c.getLastD 0 + 2 ^ n], c.dropLast.map (fun x => x + 2 ^ n)])
def pwB : List Nat → Bool
  | [] => true
  | x :: t => t.all (fun y => Nat.blt x y && subB x y) && pwB t
theorem pwB_get : ∀ {c : List Nat}, pwB c = true → ∀ {a b : Nat}, a ∈ c → b ∈ c → a < b → subB a b = true
  | [], _, a, b, h, _, _ => absurd h List.not_mem_nil
  | x :: t, hp, a, b, ha, hb, hab => by
    unfold pwB at hp
    rw [Bool.and_eq_true, List.all_eq_true] at hp
    obtain ⟨h1, h2⟩ := hp
    have h1' : ∀ y ∈ t, x < y ∧ subB x y = true := fun y hy => by
      have := h1 y hy
      rw [Bool.and_eq_true] at this
      exact ⟨Nat.le_of_ble_eq_true this.1, this.2⟩
    rcases List.mem_cons.mp ha with rfl | ha'
    · rcases List.mem_cons.mp hb with rfl | hb'
      · omega
      · exact (h1' b hb').2
    · rcases List.mem_cons.mp hb with rfl | hb'
      · have := (h1' a ha').1
        omega
      · exact pwB_get h2 ha' hb' hab
theorem php : ∀ (n : Nat) (l : List Nat), l.Nodup → (∀ x ∈ l, x < n) → l.length ≤ n
  | 0, l, _, h => by
    cases l with
    | nil => exact Nat.le_refl _
    | cons x t => exact absurd (h x List.mem_cons_self) (Nat.not_lt_zero _)
  | n + 1, l, hd, h => by
    by_cases hm : n ∈ l
    · have := php n (l.erase n) (hd.erase n) (fun x hx => by
        have h1 := (hd.mem_erase_iff).mp hx
        have h2 := h x h1.2
        have := h1.1
        omega)
      rw [List.length_erase_of_mem hm] at this
      omega
    · have := php n l hd (fun x hx => by
        have h2 := h x hx
        have : x ≠ n := fun q => hm (q ▸ hx)
        omega)
      omega
theorem chn_pw : (chn 10).all pwB = true := by decide +kernel
theorem chn_cov : ∀ (n x : Nat), x < 2 ^ n → ∃ c ∈ chn n, x ∈ c
  | 0, x, h => ⟨[0], List.mem_singleton.mpr rfl, by rw [List.mem_singleton]; omega⟩
  | n + 1, x, h => by
    by_cases hx : x < 2 ^ n
    · obtain ⟨c, hc, hm⟩ := chn_cov n x hx
      refine ⟨c ++ [c.getLastD 0 + 2 ^ n], List.mem_flatMap.mpr ⟨c, hc, ?_⟩, List.mem_append_left _ hm⟩
      by_cases hl : c.length ≤ 1
      · rw [if_pos hl]; exact List.mem_cons_self
      · rw [if_neg hl]; exact List.mem_cons_self
    · rw [Nat.pow_succ] at h
      obtain ⟨c, hc, hm⟩ := chn_cov n (x - 2 ^ n) (by omega)
      have hne : c ≠ [] := fun q => by rw [q] at hm; exact absurd hm List.not_mem_nil
      have hsplit := List.dropLast_concat_getLast hne
      have hgl : c.getLastD 0 = c.getLast hne := by
        rw [List.getLastD_eq_getLast?, List.getLast?_eq_some_getLast hne]; rfl
      rw [← hsplit] at hm
      rcases List.mem_append.mp hm with hm | hm
      · have hdl := List.length_pos_of_mem hm
        rw [List.length_dropLast] at hdl
        refine ⟨c.dropLast.map (fun x => x + 2 ^ n), List.mem_flatMap.mpr ⟨c, hc, ?_⟩, List.mem_map.mpr ⟨x - 2 ^ n, hm, by omega⟩⟩
        rw [if_neg (by omega)]
        exact List.mem_cons_of_mem _ List.mem_cons_self
      · have he := List.mem_singleton.mp hm
        refine ⟨c ++ [c.getLastD 0 + 2 ^ n], List.mem_flatMap.mpr ⟨c, hc, ?_⟩, List.mem_append_right _ ?_⟩
        · by_cases hl : c.length ≤ 1
          · rw [if_pos hl]; exact List.mem_cons_self
          · rw [if_neg hl]; exact List.mem_cons_self
        · rw [List.mem_singleton, hgl, ← he]
          omega
theorem chn_len : (chn 10).length = 252 := by decide +kernel
theorem anti_few {ls : List Nat} (h1 : ∀ x ∈ ls, x < 1024) (h2 : ls.Pairwise (fun a b => a < b ∧ subB a b = false)) : ls.length ≤ 252 := by
  have hf : ∀ x, x < 1024 → ∃ h : (chn 10).findIdx (fun c => c.contains x) < (chn 10).length, x ∈ (chn 10)[(chn 10).findIdx (fun c => c.contains x)] := by
    intro x hx
    obtain ⟨c, hc1, hc0⟩ := chn_cov 10 x hx
    have hc2 : c.contains x = true := by simpa using hc0
    have hl : (chn 10).findIdx (fun c => c.contains x) < (chn 10).length := List.findIdx_lt_length_of_exists ⟨c, hc1, hc2⟩
    refine ⟨hl, ?_⟩
    have := List.findIdx_getElem (w := hl)
    simpa using this
  have hn : (ls.map (fun x => (chn 10).findIdx (fun c => c.contains x))).Nodup := by
    unfold List.Nodup
    rw [List.pairwise_map]
    refine List.Pairwise.imp_of_mem ?_ h2
    intro a b ha hb hab he
    obtain ⟨la, ma⟩ := hf a (h1 a ha)
    obtain ⟨lb, mb⟩ := hf b (h1 b hb)
    have hp := List.all_eq_true.mp chn_pw _ (List.getElem_mem la)
    have mb' : b ∈ (chn 10)[(chn 10).findIdx (fun c => c.contains a)] := by
      simp only [he]
      exact mb
    have := pwB_get hp ma mb' hab.1
    rw [hab.2] at this
    cases this
  have := php 252 _ hn (fun y hy => by
    obtain ⟨x, hx, rfl⟩ := List.mem_map.mp hy
    have := (hf x (h1 x hx)).1
    rwa [chn_len] at this)
  rwa [List.length_map] at this
theorem leastTo_anti {rs : List Nat} (h : rs.Pairwise (· < ·)) {k : Nat} (hk : k ≤ rs.length) : (leastTo rs k).Pairwise (fun a b => a < b ∧ subB a b = false) := by
  unfold leastTo
  rw [List.pairwise_map]
  have hp : ((List.range k).filter (minAt rs)).Pairwise (· < ·) := List.Pairwise.filter _ List.pairwise_lt_range
  refine List.Pairwise.imp_of_mem ?_ hp
  intro i j hi hj hij
  have hj1 := List.mem_filter.mp hj
  have hjk := List.mem_range.mp hj1.1
  have hm := hj1.2
  unfold minAt at hm
  have := List.all_eq_true.mp hm i (List.mem_range.mpr hij)
  refine ⟨?_, by simpa using this⟩
  have hpw := List.pairwise_iff_getElem.mp h i j (by omega) (by omega) hij
  rw [List.getD_eq_getElem?_getD, List.getD_eq_getElem?_getD, List.getElem?_eq_getElem (by omega), List.getElem?_eq_getElem (by omega)]
  exact hpw
theorem leastM_few (n : Nat) (hn : n ≤ 10) (al : List Arc) (k : Nat) (hk : k ≤ (regsM n al).length) : (leastTo (regsM n al) k).length ≤ 252 := by
  refine anti_few (fun x hx => ?_) (leastTo_anti (regsTo_inc al (2 ^ n - 1)) hk)
  unfold leastTo at hx
  obtain ⟨j, hj, rfl⟩ := List.mem_map.mp hx
  have hjk := List.mem_range.mp (List.mem_filter.mp hj).1
  have hm : (regsM n al).getD j 0 ∈ regsM n al := by
    rw [List.getD_eq_getElem?_getD, List.getElem?_eq_getElem (by omega)]
    exact List.getElem_mem _
  have h1 := (regsTo_lt hm).2
  have h2 : 2 ^ n ≤ 2 ^ 10 := Nat.pow_le_pow_right (by omega) hn
  omega
/-- what finding the regions leaves as it was -/
def KeepR (I I' : Nat → Nat → Int32) : Prop := (∀ i, i ≠ 463 → i ≠ 465 → i ≠ 466 → I' i = I i) ∧ ∀ k, k ≠ 3 → k ≠ 5 → I' 463 k = I 463 k
theorem GM.keep {I I' : Nat → Nat → Int32} {al : List Arc} (h : GM I al) (h2 : I' 464 = I 464) : GM I' al := by
  unfold GM
  rw [h2]
  exact h
set_option maxRecDepth 100000 in
set_option maxHeartbeats 4000000 in
theorem ct_findsRegions {l : Launch} {X : XT} {I : Nat → Nat → Int32} {L : Nat → Nat → Int64} {al : List Arc} {n : Nat} {Q : QT} (hg : GM I al) (ho : AOK al) (hn : I 464 0 = nI n) (hn0 : 1 ≤ n) (hn1 : n ≤ 10)
    (hQ : ∀ I', KeepR I I' → I' 463 3 = nI (regsM n al).length → Hold (I' 465) (regsM n al) → I' 463 5 = nI (leastM n al).length → Hold (I' 466) (leastM n al) → Q none (mk I' L)) : CT l X mX10_findsRegions 0 [.ref 463] (mk I L) Q := by
  refine ct_intro okX10_findsRegions (by decide +kernel) (Or.inl rfl) (Nat.le_of_ble_eq_true rfl) fun A C W => ?_
  show A 0 [some (.ref 463), none, none, none] [] _
  have p1 : 2 ^ n ≤ 2 ^ 10 := Nat.pow_le_pow_right (by omega) hn1
  have p2 : 2 ^ 1 ≤ 2 ^ n := Nat.pow_le_pow_right (by omega) hn0
  have rl : ∀ q, q ∈ regsM n al → 1 ≤ q ∧ q < 2 ^ n - 1 := fun q hq => regsTo_lt hq
  have rn : (regsM n al).length ≤ 1022 := by
    have := regsTo_len al (2 ^ n - 2)
    rw [show 2 ^ n - 2 + 1 = 2 ^ n - 1 by omega] at this
    unfold regsM
    omega
  have rg : ∀ k, k < (regsM n al).length → (regsM n al).getD k 0 < 1024 := by
    intro k hk
    have h1 : (regsM n al).getD k 0 ∈ regsM n al := by
      rw [List.getD_eq_getElem?_getD, List.getElem?_eq_getElem hk]
      exact List.getElem_mem hk
    have := rl _ h1
    omega
  -- the second loop, with the inner one
  have loop2 : ∀ k, k ≤ (regsM n al).length → ∀ I', KeepR I I' → I' 463 3 = nI (regsM n al).length → Hold (I' 465) (regsM n al) → I' 463 5 = nI (leastTo (regsM n al) k).length → Hold (I' 466) (leastTo (regsM n al) k) → A 56 [some (.ref 463), some (.int (nI k)), none, none] [] (mk I' L) := by
    refine down fun k hk ih I' hK h3 hH h5 hL => ?_
    have hfew := leastM_few n hn1 al k hk
    apply C.vc (fun pc => pc == 12 || pc == 17 || pc == 25 || pc == 56 || pc == 68) 80; (simp only [↓vk kX10_findsRegions_0, ↓vk kX10_findsRegions_1, ↓vk kX10_findsRegions_2, ↓vk kX10_findsRegions_5, ↓vk kX10_findsRegions_6, ↓vk kX10_findsRegions_7, ↓vk kX10_findsRegions_10, ↓vk kX10_findsRegions_11, ↓vk kX10_findsRegions_12, ↓vk kX10_findsRegions_13, ↓vk kX10_findsRegions_14, ↓vk kX10_findsRegions_17, ↓vk kX10_findsRegions_20, ↓vk kX10_findsRegions_21, ↓vk kX10_findsRegions_22, ↓vk kX10_findsRegions_25, ↓vk kX10_findsRegions_28, ↓vk kX10_findsRegions_29, ↓vk kX10_findsRegions_32, ↓vk kX10_findsRegions_33, ↓vk kX10_findsRegions_36, ↓vk kX10_findsRegions_37, ↓vk kX10_findsRegions_38, ↓vk kX10_findsRegions_39, ↓vk kX10_findsRegions_40, ↓vk kX10_findsRegions_43, ↓vk kX10_findsRegions_44, ↓vk kX10_findsRegions_45, ↓vk kX10_findsRegions_48, ↓vk kX10_findsRegions_51, ↓vk kX10_findsRegions_54, ↓vk kX10_findsRegions_55, ↓vk kX10_findsRegions_56, ↓vk kX10_findsRegions_57, ↓vk kX10_findsRegions_58, ↓vk kX10_findsRegions_61, ↓vk kX10_findsRegions_64, ↓vk kX10_findsRegions_65, ↓vk kX10_findsRegions_66, ↓vk kX10_findsRegions_67, ↓vk kX10_findsRegions_68, ↓vk kX10_findsRegions_69, ↓vk kX10_findsRegions_70, ↓vk kX10_findsRegions_73, ↓vk kX10_findsRegions_74, ↓vk kX10_findsRegions_77, ↓vk kX10_findsRegions_78, ↓vk kX10_findsRegions_81, ↓vk kX10_findsRegions_82, ↓vk kX10_findsRegions_83, ↓vk kX10_findsRegions_84, ↓vk kX10_findsRegions_87, ↓vk kX10_findsRegions_88, ↓vk kX10_findsRegions_89, ↓vk kX10_findsRegions_90, ↓vk kX10_findsRegions_91, ↓vk kX10_findsRegions_92, ↓vk kX10_findsRegions_95, ↓vk kX10_findsRegions_96, ↓vk kX10_findsRegions_99, ↓vk kX10_findsRegions_100, ↓vk kX10_findsRegions_101, ↓vk kX10_findsRegions_104, ↓vk kX10_findsRegions_107, ↓vk kX10_findsRegions_108, ↓vk kX10_findsRegions_111, ↓vk kX10_findsRegions_112, ↓vk kX10_findsRegions_115, ↓vk kX10_findsRegions_116, ↓vk kX10_findsRegions_119, ↓vk kX10_findsRegions_120, ↓vk kX10_findsRegions_123, ↓vk kX10_findsRegions_124, ↓vk kX10_findsRegions_125, ↓vk kX10_findsRegions_126, ↓vk kX10_findsRegions_127, ↓vk kX10_findsRegions_128, ↓vk kX10_findsRegions_131, ↓vk kX10_findsRegions_132, ↓vk kX10_findsRegions_133, ↓vk kX10_findsRegions_136, ↓vk kX10_findsRegions_139, ↓vk kX10_findsRegions_142, ↓x_aload, ↓x_callV0, ↓x_callV1, ↓x_dup, ↓x_getI, ↓x_getR, ↓x_goto, ↓x_iald, ↓x_iast, ↓x_icmp, ↓x_if, ↓x_ii, ↓x_iinc, ↓x_iload, ↓x_istore, ↓x_push, ↓x_putI, ↓x_vret, ↓reduceIte, List.getElem?_cons_zero, List.getElem?_cons_succ, List.getD_cons_zero, List.getD_cons_succ, List.getD_nil, List.set_cons_zero, List.set_cons_succ, lset, lset2, isL, noD, cond_true, cond_false, if_true, if_false, Bool.false_eq_true, true_and, and_true, Nat.reduceAdd, Nat.reduceBEq, Nat.reduceSub, Nat.reduceEqDiff, Nat.reduceLT, Nat.reduceLeDiff, Bool.or_false, Bool.false_or, Bool.or_true, Bool.true_or, List.append_nil, List.nil_append, List.cons_append, Option.toList_some, Option.toList_none, lo0, List.replicate, List.length_cons, List.length_nil, muI, muL, callK, catS, List.map_cons, List.map_nil, List.sum_cons, List.sum_nil, vrf, swK, ofN, Value.category, reduceCtorEq, rf_463_0, rf_463_2, rf_463_4, rf_463_6, rf_463_7, rf_463_8, rf_463_10, rf_463_11, rf_463_13, rf_463_14, rf_463_15, rf_463_16, rf_463_17, rf_463_22, rf_463_23, rf_463_24, sh_463, sh_464, sh_465, sh_466, sh_467, sh_468, sh_469, sh_470, sh_471, sh_472, sh_473, sh_474, sh_475, sh_476, sh_477, sh_478, sh_479, al_464, al_465, al_466, al_467, al_468, al_469, al_470, al_471, al_472, al_473, al_474, al_475, al_476, al_477, al_478, al_479]); (try simp (discharger := omega) only [lg_cmp_eq, nI_add, pk_mul, nI_clamp, ni_le, ni_lt, ni_eq, ni_lt0, ni_0le, ni_eq0, ni_0lt, ni_le0, ni_in, ni_m9, ni_9m, up2_ne, up2_eq, up2_kn, vnar0, vnar1, Nat.add_zero, Nat.zero_add, Nat.mul_zero, h3])
    refine ⟨fun hx => ?_, fun hx => ?_⟩
    · have he : k = (regsM n al).length := by omega
      subst he
      exact hQ I' hK h3 hH h5 hL
    · have inner : ∀ i, i ≤ k → A 68 [some (.ref 463), some (.int (nI k)), some (.int (nI (bI ((List.range i).all (fun i => !subB ((regsM n al).getD i 0) ((regsM n al).getD k 0)))))), some (.int (nI i))] [] (mk I' L) := by
        refine down fun i hi ihi => ?_
        have hb := bI_lt ((List.range i).all (fun i => !subB ((regsM n al).getD i 0) ((regsM n al).getD k 0)))
        have exit : ∀ b : Bool, b = minAt (regsM n al) k → A 107 [some (.ref 463), some (.int (nI k)), some (.int (nI (bI b))), some (.int (nI i))] [] (mk I' L) := by
          intro b hbm
          have hb2 := bI_lt b
          have next := ih (by omega)
          apply C.vc (fun pc => pc == 12 || pc == 17 || pc == 25 || pc == 56 || pc == 68) 80; (simp only [↓vk kX10_findsRegions_0, ↓vk kX10_findsRegions_1, ↓vk kX10_findsRegions_2, ↓vk kX10_findsRegions_5, ↓vk kX10_findsRegions_6, ↓vk kX10_findsRegions_7, ↓vk kX10_findsRegions_10, ↓vk kX10_findsRegions_11, ↓vk kX10_findsRegions_12, ↓vk kX10_findsRegions_13, ↓vk kX10_findsRegions_14, ↓vk kX10_findsRegions_17, ↓vk kX10_findsRegions_20, ↓vk kX10_findsRegions_21, ↓vk kX10_findsRegions_22, ↓vk kX10_findsRegions_25, ↓vk kX10_findsRegions_28, ↓vk kX10_findsRegions_29, ↓vk kX10_findsRegions_32, ↓vk kX10_findsRegions_33, ↓vk kX10_findsRegions_36, ↓vk kX10_findsRegions_37, ↓vk kX10_findsRegions_38, ↓vk kX10_findsRegions_39, ↓vk kX10_findsRegions_40, ↓vk kX10_findsRegions_43, ↓vk kX10_findsRegions_44, ↓vk kX10_findsRegions_45, ↓vk kX10_findsRegions_48, ↓vk kX10_findsRegions_51, ↓vk kX10_findsRegions_54, ↓vk kX10_findsRegions_55, ↓vk kX10_findsRegions_56, ↓vk kX10_findsRegions_57, ↓vk kX10_findsRegions_58, ↓vk kX10_findsRegions_61, ↓vk kX10_findsRegions_64, ↓vk kX10_findsRegions_65, ↓vk kX10_findsRegions_66, ↓vk kX10_findsRegions_67, ↓vk kX10_findsRegions_68, ↓vk kX10_findsRegions_69, ↓vk kX10_findsRegions_70, ↓vk kX10_findsRegions_73, ↓vk kX10_findsRegions_74, ↓vk kX10_findsRegions_77, ↓vk kX10_findsRegions_78, ↓vk kX10_findsRegions_81, ↓vk kX10_findsRegions_82, ↓vk kX10_findsRegions_83, ↓vk kX10_findsRegions_84, ↓vk kX10_findsRegions_87, ↓vk kX10_findsRegions_88, ↓vk kX10_findsRegions_89, ↓vk kX10_findsRegions_90, ↓vk kX10_findsRegions_91, ↓vk kX10_findsRegions_92, ↓vk kX10_findsRegions_95, ↓vk kX10_findsRegions_96, ↓vk kX10_findsRegions_99, ↓vk kX10_findsRegions_100, ↓vk kX10_findsRegions_101, ↓vk kX10_findsRegions_104, ↓vk kX10_findsRegions_107, ↓vk kX10_findsRegions_108, ↓vk kX10_findsRegions_111, ↓vk kX10_findsRegions_112, ↓vk kX10_findsRegions_115, ↓vk kX10_findsRegions_116, ↓vk kX10_findsRegions_119, ↓vk kX10_findsRegions_120, ↓vk kX10_findsRegions_123, ↓vk kX10_findsRegions_124, ↓vk kX10_findsRegions_125, ↓vk kX10_findsRegions_126, ↓vk kX10_findsRegions_127, ↓vk kX10_findsRegions_128, ↓vk kX10_findsRegions_131, ↓vk kX10_findsRegions_132, ↓vk kX10_findsRegions_133, ↓vk kX10_findsRegions_136, ↓vk kX10_findsRegions_139, ↓vk kX10_findsRegions_142, ↓x_aload, ↓x_callV0, ↓x_callV1, ↓x_dup, ↓x_getI, ↓x_getR, ↓x_goto, ↓x_iald, ↓x_iast, ↓x_icmp, ↓x_if, ↓x_ii, ↓x_iinc, ↓x_iload, ↓x_istore, ↓x_push, ↓x_putI, ↓x_vret, ↓reduceIte, List.getElem?_cons_zero, List.getElem?_cons_succ, List.getD_cons_zero, List.getD_cons_succ, List.getD_nil, List.set_cons_zero, List.set_cons_succ, lset, lset2, isL, noD, cond_true, cond_false, if_true, if_false, Bool.false_eq_true, true_and, and_true, Nat.reduceAdd, Nat.reduceBEq, Nat.reduceSub, Nat.reduceEqDiff, Nat.reduceLT, Nat.reduceLeDiff, Bool.or_false, Bool.false_or, Bool.or_true, Bool.true_or, List.append_nil, List.nil_append, List.cons_append, Option.toList_some, Option.toList_none, lo0, List.replicate, List.length_cons, List.length_nil, muI, muL, callK, catS, List.map_cons, List.map_nil, List.sum_cons, List.sum_nil, vrf, swK, ofN, Value.category, reduceCtorEq, rf_463_0, rf_463_2, rf_463_4, rf_463_6, rf_463_7, rf_463_8, rf_463_10, rf_463_11, rf_463_13, rf_463_14, rf_463_15, rf_463_16, rf_463_17, rf_463_22, rf_463_23, rf_463_24, sh_463, sh_464, sh_465, sh_466, sh_467, sh_468, sh_469, sh_470, sh_471, sh_472, sh_473, sh_474, sh_475, sh_476, sh_477, sh_478, sh_479, al_464, al_465, al_466, al_467, al_468, al_469, al_470, al_471, al_472, al_473, al_474, al_475, al_476, al_477, al_478, al_479]); (try simp (discharger := omega) only [lg_cmp_eq, nI_add, pk_mul, nI_clamp, ni_le, ni_lt, ni_eq, ni_lt0, ni_0le, ni_eq0, ni_0lt, ni_le0, ni_in, ni_m9, ni_9m, up2_ne, up2_eq, up2_kn, vnar0, vnar1, Nat.add_zero, Nat.zero_add, Nat.mul_zero, h5, hH k (by omega)])
          refine ⟨fun q => ?_, fun q => ⟨by omega, by omega, ?_⟩⟩
          · have hbf : b = false := by cases b <;> simp_all [bI]
            have hm : minAt (regsM n al) k = false := by rw [← hbm]; exact hbf
            have hs : leastTo (regsM n al) (k + 1) = leastTo (regsM n al) k := by rw [leastTo_succ, hm]; simp
            rw [hs] at next
            exact W.le (next I' hK h3 hH h5 hL) (by simp only [leO, and_self])
          · have hbt : b = true := by cases b <;> simp_all [bI]
            have hm : minAt (regsM n al) k = true := by rw [← hbm]; exact hbt
            have hs : leastTo (regsM n al) (k + 1) = leastTo (regsM n al) k ++ [(regsM n al).getD k 0] := by rw [leastTo_succ, hm]; simp
            rw [hs] at next
            refine W.le (next _ ⟨fun i h1 h2 h3 => ?_, fun j h1 h2 => ?_⟩ ?_ ?_ ?_ ?_) (by simp only [leO, and_self])
            · rw [up2_ne h1, up2_ne h3]
              exact hK.1 i h1 h2 h3
            · rw [up2_kn h2, up2_ne (by decide)]
              exact hK.2 j h1 h2
            · rw [up2_kn (by decide), up2_ne (by decide)]
              exact h3
            · rw [up2_ne (by decide), up2_ne (by decide)]
              exact hH
            · rw [up2_eq, List.length_append, List.length_singleton]
            · rw [up2_ne (by decide)]
              exact hL.push (fun j hj => up2_kn (by omega)) up2_eq
        apply C.vc (fun pc => pc == 12 || pc == 17 || pc == 25 || pc == 56 || pc == 68 || pc == 107) 80; (simp only [↓vk kX10_findsRegions_0, ↓vk kX10_findsRegions_1, ↓vk kX10_findsRegions_2, ↓vk kX10_findsRegions_5, ↓vk kX10_findsRegions_6, ↓vk kX10_findsRegions_7, ↓vk kX10_findsRegions_10, ↓vk kX10_findsRegions_11, ↓vk kX10_findsRegions_12, ↓vk kX10_findsRegions_13, ↓vk kX10_findsRegions_14, ↓vk kX10_findsRegions_17, ↓vk kX10_findsRegions_20, ↓vk kX10_findsRegions_21, ↓vk kX10_findsRegions_22, ↓vk kX10_findsRegions_25, ↓vk kX10_findsRegions_28, ↓vk kX10_findsRegions_29, ↓vk kX10_findsRegions_32, ↓vk kX10_findsRegions_33, ↓vk kX10_findsRegions_36, ↓vk kX10_findsRegions_37, ↓vk kX10_findsRegions_38, ↓vk kX10_findsRegions_39, ↓vk kX10_findsRegions_40, ↓vk kX10_findsRegions_43, ↓vk kX10_findsRegions_44, ↓vk kX10_findsRegions_45, ↓vk kX10_findsRegions_48, ↓vk kX10_findsRegions_51, ↓vk kX10_findsRegions_54, ↓vk kX10_findsRegions_55, ↓vk kX10_findsRegions_56, ↓vk kX10_findsRegions_57, ↓vk kX10_findsRegions_58, ↓vk kX10_findsRegions_61, ↓vk kX10_findsRegions_64, ↓vk kX10_findsRegions_65, ↓vk kX10_findsRegions_66, ↓vk kX10_findsRegions_67, ↓vk kX10_findsRegions_68, ↓vk kX10_findsRegions_69, ↓vk kX10_findsRegions_70, ↓vk kX10_findsRegions_73, ↓vk kX10_findsRegions_74, ↓vk kX10_findsRegions_77, ↓vk kX10_findsRegions_78, ↓vk kX10_findsRegions_81, ↓vk kX10_findsRegions_82, ↓vk kX10_findsRegions_83, ↓vk kX10_findsRegions_84, ↓vk kX10_findsRegions_87, ↓vk kX10_findsRegions_88, ↓vk kX10_findsRegions_89, ↓vk kX10_findsRegions_90, ↓vk kX10_findsRegions_91, ↓vk kX10_findsRegions_92, ↓vk kX10_findsRegions_95, ↓vk kX10_findsRegions_96, ↓vk kX10_findsRegions_99, ↓vk kX10_findsRegions_100, ↓vk kX10_findsRegions_101, ↓vk kX10_findsRegions_104, ↓vk kX10_findsRegions_107, ↓vk kX10_findsRegions_108, ↓vk kX10_findsRegions_111, ↓vk kX10_findsRegions_112, ↓vk kX10_findsRegions_115, ↓vk kX10_findsRegions_116, ↓vk kX10_findsRegions_119, ↓vk kX10_findsRegions_120, ↓vk kX10_findsRegions_123, ↓vk kX10_findsRegions_124, ↓vk kX10_findsRegions_125, ↓vk kX10_findsRegions_126, ↓vk kX10_findsRegions_127, ↓vk kX10_findsRegions_128, ↓vk kX10_findsRegions_131, ↓vk kX10_findsRegions_132, ↓vk kX10_findsRegions_133, ↓vk kX10_findsRegions_136, ↓vk kX10_findsRegions_139, ↓vk kX10_findsRegions_142, ↓x_aload, ↓x_callV0, ↓x_callV1, ↓x_dup, ↓x_getI, ↓x_getR, ↓x_goto, ↓x_iald, ↓x_iast, ↓x_icmp, ↓x_if, ↓x_ii, ↓x_iinc, ↓x_iload, ↓x_istore, ↓x_push, ↓x_putI, ↓x_vret, ↓reduceIte, List.getElem?_cons_zero, List.getElem?_cons_succ, List.getD_cons_zero, List.getD_cons_succ, List.getD_nil, List.set_cons_zero, List.set_cons_succ, lset, lset2, isL, noD, cond_true, cond_false, if_true, if_false, Bool.false_eq_true, true_and, and_true, Nat.reduceAdd, Nat.reduceBEq, Nat.reduceSub, Nat.reduceEqDiff, Nat.reduceLT, Nat.reduceLeDiff, Bool.or_false, Bool.false_or, Bool.or_true, Bool.true_or, List.append_nil, List.nil_append, List.cons_append, Option.toList_some, Option.toList_none, lo0, List.replicate, List.length_cons, List.length_nil, muI, muL, callK, catS, List.map_cons, List.map_nil, List.sum_cons, List.sum_nil, vrf, swK, ofN, Value.category, reduceCtorEq, rf_463_0, rf_463_2, rf_463_4, rf_463_6, rf_463_7, rf_463_8, rf_463_10, rf_463_11, rf_463_13, rf_463_14, rf_463_15, rf_463_16, rf_463_17, rf_463_22, rf_463_23, rf_463_24, sh_463, sh_464, sh_465, sh_466, sh_467, sh_468, sh_469, sh_470, sh_471, sh_472, sh_473, sh_474, sh_475, sh_476, sh_477, sh_478, sh_479, al_464, al_465, al_466, al_467, al_468, al_469, al_470, al_471, al_472, al_473, al_474, al_475, al_476, al_477, al_478, al_479]); (try simp (discharger := omega) only [lg_cmp_eq, nI_add, pk_mul, nI_clamp, ni_le, ni_lt, ni_eq, ni_lt0, ni_0le, ni_eq0, ni_0lt, ni_le0, ni_in, ni_m9, ni_9m, up2_ne, up2_eq, up2_kn, vnar0, vnar1, Nat.add_zero, Nat.zero_add, Nat.mul_zero, hH k (by omega)])
        refine ⟨fun hx2 => ?_, fun hx2 => ⟨fun q => ?_, fun q => ⟨by omega, by omega, ?_⟩⟩⟩
        · have he : i = k := by omega
          subst he
          exact exit _ rfl
        · have h1 : (List.range i).all (fun i => !subB ((regsM n al).getD i 0) ((regsM n al).getD k 0)) = false := by
            cases h : (List.range i).all (fun i => !subB ((regsM n al).getD i 0) ((regsM n al).getD k 0))
            · rfl
            · rw [h] at q; cases q
          refine exit _ ?_
          rw [h1]
          symm
          unfold minAt
          rw [List.all_eq_false] at h1 ⊢
          obtain ⟨x, hx1, hx2⟩ := h1
          exact ⟨x, List.mem_range.mpr (by have := List.mem_range.mp hx1; omega), hx2⟩
        · have h1 : (List.range i).all (fun i => !subB ((regsM n al).getD i 0) ((regsM n al).getD k 0)) = true := by
            cases h : (List.range i).all (fun i => !subB ((regsM n al).getD i 0) ((regsM n al).getD k 0))
            · rw [h] at q; exact absurd rfl q
            · rfl
          have next := ihi (by omega)
          rw [List.range_succ, List.all_append, h1] at next
          simp only [List.all_cons, List.all_nil, Bool.and_true, Bool.true_and] at next
          have g1 := rg i (by omega)
          have g2 := rg k (by omega)
          rw [hH i (by omega)]
          simp (discharger := omega) only [ni_diff]
          refine ⟨fun q2 => ?_, fun q2 => ?_⟩
          · have hs : subB ((regsM n al).getD i 0) ((regsM n al).getD k 0) = true := by unfold subB; exact beq_iff_eq.mpr q2
            rw [hs] at next
            exact next
          · have hs : subB ((regsM n al).getD i 0) ((regsM n al).getD k 0) = false := by unfold subB; exact beq_eq_false_iff_ne.mpr q2
            rw [hs] at next
            exact next
      exact inner 0 (by omega)
  have loop1 : ∀ s, s ≤ 2 ^ n - 1 → 1 ≤ s → ∀ I', KeepR I I' → I' 463 3 = nI (regsTo al s).length → Hold (I' 465) (regsTo al s) → I' 463 5 = nI 0 → A 12 [some (.ref 463), some (.int (nI s)), none, none] [] (mk I' L) := by
    refine down fun s hs ih hs1 I' hK h3 hH h5 => ?_
    have h464 : I' 464 = I 464 := hK.1 464 (by decide) (by decide) (by decide)
    have hg' := hg.keep h464
    have hlen := regsTo_len al (s - 1)
    rw [show s - 1 + 1 = s by omega] at hlen
    apply C.vc (fun pc => pc == 12 || pc == 17 || pc == 25 || pc == 56 || pc == 68) 80; (simp only [↓vk kX10_findsRegions_0, ↓vk kX10_findsRegions_1, ↓vk kX10_findsRegions_2, ↓vk kX10_findsRegions_5, ↓vk kX10_findsRegions_6, ↓vk kX10_findsRegions_7, ↓vk kX10_findsRegions_10, ↓vk kX10_findsRegions_11, ↓vk kX10_findsRegions_12, ↓vk kX10_findsRegions_13, ↓vk kX10_findsRegions_14, ↓vk kX10_findsRegions_17, ↓vk kX10_findsRegions_20, ↓vk kX10_findsRegions_21, ↓vk kX10_findsRegions_22, ↓vk kX10_findsRegions_25, ↓vk kX10_findsRegions_28, ↓vk kX10_findsRegions_29, ↓vk kX10_findsRegions_32, ↓vk kX10_findsRegions_33, ↓vk kX10_findsRegions_36, ↓vk kX10_findsRegions_37, ↓vk kX10_findsRegions_38, ↓vk kX10_findsRegions_39, ↓vk kX10_findsRegions_40, ↓vk kX10_findsRegions_43, ↓vk kX10_findsRegions_44, ↓vk kX10_findsRegions_45, ↓vk kX10_findsRegions_48, ↓vk kX10_findsRegions_51, ↓vk kX10_findsRegions_54, ↓vk kX10_findsRegions_55, ↓vk kX10_findsRegions_56, ↓vk kX10_findsRegions_57, ↓vk kX10_findsRegions_58, ↓vk kX10_findsRegions_61, ↓vk kX10_findsRegions_64, ↓vk kX10_findsRegions_65, ↓vk kX10_findsRegions_66, ↓vk kX10_findsRegions_67, ↓vk kX10_findsRegions_68, ↓vk kX10_findsRegions_69, ↓vk kX10_findsRegions_70, ↓vk kX10_findsRegions_73, ↓vk kX10_findsRegions_74, ↓vk kX10_findsRegions_77, ↓vk kX10_findsRegions_78, ↓vk kX10_findsRegions_81, ↓vk kX10_findsRegions_82, ↓vk kX10_findsRegions_83, ↓vk kX10_findsRegions_84, ↓vk kX10_findsRegions_87, ↓vk kX10_findsRegions_88, ↓vk kX10_findsRegions_89, ↓vk kX10_findsRegions_90, ↓vk kX10_findsRegions_91, ↓vk kX10_findsRegions_92, ↓vk kX10_findsRegions_95, ↓vk kX10_findsRegions_96, ↓vk kX10_findsRegions_99, ↓vk kX10_findsRegions_100, ↓vk kX10_findsRegions_101, ↓vk kX10_findsRegions_104, ↓vk kX10_findsRegions_107, ↓vk kX10_findsRegions_108, ↓vk kX10_findsRegions_111, ↓vk kX10_findsRegions_112, ↓vk kX10_findsRegions_115, ↓vk kX10_findsRegions_116, ↓vk kX10_findsRegions_119, ↓vk kX10_findsRegions_120, ↓vk kX10_findsRegions_123, ↓vk kX10_findsRegions_124, ↓vk kX10_findsRegions_125, ↓vk kX10_findsRegions_126, ↓vk kX10_findsRegions_127, ↓vk kX10_findsRegions_128, ↓vk kX10_findsRegions_131, ↓vk kX10_findsRegions_132, ↓vk kX10_findsRegions_133, ↓vk kX10_findsRegions_136, ↓vk kX10_findsRegions_139, ↓vk kX10_findsRegions_142, ↓x_aload, ↓x_callV0, ↓x_callV1, ↓x_dup, ↓x_getI, ↓x_getR, ↓x_goto, ↓x_iald, ↓x_iast, ↓x_icmp, ↓x_if, ↓x_ii, ↓x_iinc, ↓x_iload, ↓x_istore, ↓x_push, ↓x_putI, ↓x_vret, ↓reduceIte, List.getElem?_cons_zero, List.getElem?_cons_succ, List.getD_cons_zero, List.getD_cons_succ, List.getD_nil, List.set_cons_zero, List.set_cons_succ, lset, lset2, isL, noD, cond_true, cond_false, if_true, if_false, Bool.false_eq_true, true_and, and_true, Nat.reduceAdd, Nat.reduceBEq, Nat.reduceSub, Nat.reduceEqDiff, Nat.reduceLT, Nat.reduceLeDiff, Bool.or_false, Bool.false_or, Bool.or_true, Bool.true_or, List.append_nil, List.nil_append, List.cons_append, Option.toList_some, Option.toList_none, lo0, List.replicate, List.length_cons, List.length_nil, muI, muL, callK, catS, List.map_cons, List.map_nil, List.sum_cons, List.sum_nil, vrf, swK, ofN, Value.category, reduceCtorEq, rf_463_0, rf_463_2, rf_463_4, rf_463_6, rf_463_7, rf_463_8, rf_463_10, rf_463_11, rf_463_13, rf_463_14, rf_463_15, rf_463_16, rf_463_17, rf_463_22, rf_463_23, rf_463_24, sh_463, sh_464, sh_465, sh_466, sh_467, sh_468, sh_469, sh_470, sh_471, sh_472, sh_473, sh_474, sh_475, sh_476, sh_477, sh_478, sh_479, al_464, al_465, al_466, al_467, al_468, al_469, al_470, al_471, al_472, al_473, al_474, al_475, al_476, al_477, al_478, al_479]); (try simp (discharger := omega) only [lg_cmp_eq, nI_add, pk_mul, nI_clamp, ni_le, ni_lt, ni_eq, ni_lt0, ni_0le, ni_eq0, ni_0lt, ni_le0, ni_in, ni_m9, ni_9m, up2_ne, up2_eq, up2_kn, vnar0, vnar1, Nat.add_zero, Nat.zero_add, Nat.mul_zero])
    refine ct_all (by rw [h464]; exact hn) hn1 ?_
    apply C.vc (fun pc => pc == 12 || pc == 17 || pc == 25 || pc == 54 || pc == 56 || pc == 68) 80; (simp only [↓vk kX10_findsRegions_0, ↓vk kX10_findsRegions_1, ↓vk kX10_findsRegions_2, ↓vk kX10_findsRegions_5, ↓vk kX10_findsRegions_6, ↓vk kX10_findsRegions_7, ↓vk kX10_findsRegions_10, ↓vk kX10_findsRegions_11, ↓vk kX10_findsRegions_12, ↓vk kX10_findsRegions_13, ↓vk kX10_findsRegions_14, ↓vk kX10_findsRegions_17, ↓vk kX10_findsRegions_20, ↓vk kX10_findsRegions_21, ↓vk kX10_findsRegions_22, ↓vk kX10_findsRegions_25, ↓vk kX10_findsRegions_28, ↓vk kX10_findsRegions_29, ↓vk kX10_findsRegions_32, ↓vk kX10_findsRegions_33, ↓vk kX10_findsRegions_36, ↓vk kX10_findsRegions_37, ↓vk kX10_findsRegions_38, ↓vk kX10_findsRegions_39, ↓vk kX10_findsRegions_40, ↓vk kX10_findsRegions_43, ↓vk kX10_findsRegions_44, ↓vk kX10_findsRegions_45, ↓vk kX10_findsRegions_48, ↓vk kX10_findsRegions_51, ↓vk kX10_findsRegions_54, ↓vk kX10_findsRegions_55, ↓vk kX10_findsRegions_56, ↓vk kX10_findsRegions_57, ↓vk kX10_findsRegions_58, ↓vk kX10_findsRegions_61, ↓vk kX10_findsRegions_64, ↓vk kX10_findsRegions_65, ↓vk kX10_findsRegions_66, ↓vk kX10_findsRegions_67, ↓vk kX10_findsRegions_68, ↓vk kX10_findsRegions_69, ↓vk kX10_findsRegions_70, ↓vk kX10_findsRegions_73, ↓vk kX10_findsRegions_74, ↓vk kX10_findsRegions_77, ↓vk kX10_findsRegions_78, ↓vk kX10_findsRegions_81, ↓vk kX10_findsRegions_82, ↓vk kX10_findsRegions_83, ↓vk kX10_findsRegions_84, ↓vk kX10_findsRegions_87, ↓vk kX10_findsRegions_88, ↓vk kX10_findsRegions_89, ↓vk kX10_findsRegions_90, ↓vk kX10_findsRegions_91, ↓vk kX10_findsRegions_92, ↓vk kX10_findsRegions_95, ↓vk kX10_findsRegions_96, ↓vk kX10_findsRegions_99, ↓vk kX10_findsRegions_100, ↓vk kX10_findsRegions_101, ↓vk kX10_findsRegions_104, ↓vk kX10_findsRegions_107, ↓vk kX10_findsRegions_108, ↓vk kX10_findsRegions_111, ↓vk kX10_findsRegions_112, ↓vk kX10_findsRegions_115, ↓vk kX10_findsRegions_116, ↓vk kX10_findsRegions_119, ↓vk kX10_findsRegions_120, ↓vk kX10_findsRegions_123, ↓vk kX10_findsRegions_124, ↓vk kX10_findsRegions_125, ↓vk kX10_findsRegions_126, ↓vk kX10_findsRegions_127, ↓vk kX10_findsRegions_128, ↓vk kX10_findsRegions_131, ↓vk kX10_findsRegions_132, ↓vk kX10_findsRegions_133, ↓vk kX10_findsRegions_136, ↓vk kX10_findsRegions_139, ↓vk kX10_findsRegions_142, ↓x_aload, ↓x_callV0, ↓x_callV1, ↓x_dup, ↓x_getI, ↓x_getR, ↓x_goto, ↓x_iald, ↓x_iast, ↓x_icmp, ↓x_if, ↓x_ii, ↓x_iinc, ↓x_iload, ↓x_istore, ↓x_push, ↓x_putI, ↓x_vret, ↓reduceIte, List.getElem?_cons_zero, List.getElem?_cons_succ, List.getD_cons_zero, List.getD_cons_succ, List.getD_nil, List.set_cons_zero, List.set_cons_succ, lset, lset2, isL, noD, cond_true, cond_false, if_true, if_false, Bool.false_eq_true, true_and, and_true, Nat.reduceAdd, Nat.reduceBEq, Nat.reduceSub, Nat.reduceEqDiff, Nat.reduceLT, Nat.reduceLeDiff, Bool.or_false, Bool.false_or, Bool.or_true, Bool.true_or, List.append_nil, List.nil_append, List.cons_append, Option.toList_some, Option.toList_none, lo0, List.replicate, List.length_cons, List.length_nil, muI, muL, callK, catS, List.map_cons, List.map_nil, List.sum_cons, List.sum_nil, vrf, swK, ofN, Value.category, reduceCtorEq, rf_463_0, rf_463_2, rf_463_4, rf_463_6, rf_463_7, rf_463_8, rf_463_10, rf_463_11, rf_463_13, rf_463_14, rf_463_15, rf_463_16, rf_463_17, rf_463_22, rf_463_23, rf_463_24, sh_463, sh_464, sh_465, sh_466, sh_467, sh_468, sh_469, sh_470, sh_471, sh_472, sh_473, sh_474, sh_475, sh_476, sh_477, sh_478, sh_479, al_464, al_465, al_466, al_467, al_468, al_469, al_470, al_471, al_472, al_473, al_474, al_475, al_476, al_477, al_478, al_479]); (try simp (discharger := omega) only [lg_cmp_eq, nI_add, pk_mul, nI_clamp, ni_le, ni_lt, ni_eq, ni_lt0, ni_0le, ni_eq0, ni_0lt, ni_le0, ni_in, ni_m9, ni_9m, up2_ne, up2_eq, up2_kn, vnar0, vnar1, Nat.add_zero, Nat.zero_add, Nat.mul_zero])
    refine ⟨fun hx => ?_, fun hx => ct_isRegion hg' ho (by omega) ?_⟩
    · have he : s = 2 ^ n - 1 := by omega
      subst he
      apply C.vc (fun pc => pc == 12 || pc == 17 || pc == 25 || pc == 56 || pc == 68) 80; (simp only [↓vk kX10_findsRegions_0, ↓vk kX10_findsRegions_1, ↓vk kX10_findsRegions_2, ↓vk kX10_findsRegions_5, ↓vk kX10_findsRegions_6, ↓vk kX10_findsRegions_7, ↓vk kX10_findsRegions_10, ↓vk kX10_findsRegions_11, ↓vk kX10_findsRegions_12, ↓vk kX10_findsRegions_13, ↓vk kX10_findsRegions_14, ↓vk kX10_findsRegions_17, ↓vk kX10_findsRegions_20, ↓vk kX10_findsRegions_21, ↓vk kX10_findsRegions_22, ↓vk kX10_findsRegions_25, ↓vk kX10_findsRegions_28, ↓vk kX10_findsRegions_29, ↓vk kX10_findsRegions_32, ↓vk kX10_findsRegions_33, ↓vk kX10_findsRegions_36, ↓vk kX10_findsRegions_37, ↓vk kX10_findsRegions_38, ↓vk kX10_findsRegions_39, ↓vk kX10_findsRegions_40, ↓vk kX10_findsRegions_43, ↓vk kX10_findsRegions_44, ↓vk kX10_findsRegions_45, ↓vk kX10_findsRegions_48, ↓vk kX10_findsRegions_51, ↓vk kX10_findsRegions_54, ↓vk kX10_findsRegions_55, ↓vk kX10_findsRegions_56, ↓vk kX10_findsRegions_57, ↓vk kX10_findsRegions_58, ↓vk kX10_findsRegions_61, ↓vk kX10_findsRegions_64, ↓vk kX10_findsRegions_65, ↓vk kX10_findsRegions_66, ↓vk kX10_findsRegions_67, ↓vk kX10_findsRegions_68, ↓vk kX10_findsRegions_69, ↓vk kX10_findsRegions_70, ↓vk kX10_findsRegions_73, ↓vk kX10_findsRegions_74, ↓vk kX10_findsRegions_77, ↓vk kX10_findsRegions_78, ↓vk kX10_findsRegions_81, ↓vk kX10_findsRegions_82, ↓vk kX10_findsRegions_83, ↓vk kX10_findsRegions_84, ↓vk kX10_findsRegions_87, ↓vk kX10_findsRegions_88, ↓vk kX10_findsRegions_89, ↓vk kX10_findsRegions_90, ↓vk kX10_findsRegions_91, ↓vk kX10_findsRegions_92, ↓vk kX10_findsRegions_95, ↓vk kX10_findsRegions_96, ↓vk kX10_findsRegions_99, ↓vk kX10_findsRegions_100, ↓vk kX10_findsRegions_101, ↓vk kX10_findsRegions_104, ↓vk kX10_findsRegions_107, ↓vk kX10_findsRegions_108, ↓vk kX10_findsRegions_111, ↓vk kX10_findsRegions_112, ↓vk kX10_findsRegions_115, ↓vk kX10_findsRegions_116, ↓vk kX10_findsRegions_119, ↓vk kX10_findsRegions_120, ↓vk kX10_findsRegions_123, ↓vk kX10_findsRegions_124, ↓vk kX10_findsRegions_125, ↓vk kX10_findsRegions_126, ↓vk kX10_findsRegions_127, ↓vk kX10_findsRegions_128, ↓vk kX10_findsRegions_131, ↓vk kX10_findsRegions_132, ↓vk kX10_findsRegions_133, ↓vk kX10_findsRegions_136, ↓vk kX10_findsRegions_139, ↓vk kX10_findsRegions_142, ↓x_aload, ↓x_callV0, ↓x_callV1, ↓x_dup, ↓x_getI, ↓x_getR, ↓x_goto, ↓x_iald, ↓x_iast, ↓x_icmp, ↓x_if, ↓x_ii, ↓x_iinc, ↓x_iload, ↓x_istore, ↓x_push, ↓x_putI, ↓x_vret, ↓reduceIte, List.getElem?_cons_zero, List.getElem?_cons_succ, List.getD_cons_zero, List.getD_cons_succ, List.getD_nil, List.set_cons_zero, List.set_cons_succ, lset, lset2, isL, noD, cond_true, cond_false, if_true, if_false, Bool.false_eq_true, true_and, and_true, Nat.reduceAdd, Nat.reduceBEq, Nat.reduceSub, Nat.reduceEqDiff, Nat.reduceLT, Nat.reduceLeDiff, Bool.or_false, Bool.false_or, Bool.or_true, Bool.true_or, List.append_nil, List.nil_append, List.cons_append, Option.toList_some, Option.toList_none, lo0, List.replicate, List.length_cons, List.length_nil, muI, muL, callK, catS, List.map_cons, List.map_nil, List.sum_cons, List.sum_nil, vrf, swK, ofN, Value.category, reduceCtorEq, rf_463_0, rf_463_2, rf_463_4, rf_463_6, rf_463_7, rf_463_8, rf_463_10, rf_463_11, rf_463_13, rf_463_14, rf_463_15, rf_463_16, rf_463_17, rf_463_22, rf_463_23, rf_463_24, sh_463, sh_464, sh_465, sh_466, sh_467, sh_468, sh_469, sh_470, sh_471, sh_472, sh_473, sh_474, sh_475, sh_476, sh_477, sh_478, sh_479, al_464, al_465, al_466, al_467, al_468, al_469, al_470, al_471, al_472, al_473, al_474, al_475, al_476, al_477, al_478, al_479]); (try simp (discharger := omega) only [lg_cmp_eq, nI_add, pk_mul, nI_clamp, ni_le, ni_lt, ni_eq, ni_lt0, ni_0le, ni_eq0, ni_0lt, ni_le0, ni_in, ni_m9, ni_9m, up2_ne, up2_eq, up2_kn, vnar0, vnar1, Nat.add_zero, Nat.zero_add, Nat.mul_zero])
      refine W.le (loop2 0 (by omega) I' hK h3 hH ?_ ?_) (by simp only [leO, and_self])
      · rw [h5]; rfl
      · exact Hold.nil
    · have next := ih (by omega) (by omega)
      rw [regsTo_succ] at next
      have hb2 := bI_lt (isRegB al s)
      apply C.vc (fun pc => pc == 12 || pc == 17 || pc == 25 || pc == 56 || pc == 68) 80; (simp only [↓vk kX10_findsRegions_0, ↓vk kX10_findsRegions_1, ↓vk kX10_findsRegions_2, ↓vk kX10_findsRegions_5, ↓vk kX10_findsRegions_6, ↓vk kX10_findsRegions_7, ↓vk kX10_findsRegions_10, ↓vk kX10_findsRegions_11, ↓vk kX10_findsRegions_12, ↓vk kX10_findsRegions_13, ↓vk kX10_findsRegions_14, ↓vk kX10_findsRegions_17, ↓vk kX10_findsRegions_20, ↓vk kX10_findsRegions_21, ↓vk kX10_findsRegions_22, ↓vk kX10_findsRegions_25, ↓vk kX10_findsRegions_28, ↓vk kX10_findsRegions_29, ↓vk kX10_findsRegions_32, ↓vk kX10_findsRegions_33, ↓vk kX10_findsRegions_36, ↓vk kX10_findsRegions_37, ↓vk kX10_findsRegions_38, ↓vk kX10_findsRegions_39, ↓vk kX10_findsRegions_40, ↓vk kX10_findsRegions_43, ↓vk kX10_findsRegions_44, ↓vk kX10_findsRegions_45, ↓vk kX10_findsRegions_48, ↓vk kX10_findsRegions_51, ↓vk kX10_findsRegions_54, ↓vk kX10_findsRegions_55, ↓vk kX10_findsRegions_56, ↓vk kX10_findsRegions_57, ↓vk kX10_findsRegions_58, ↓vk kX10_findsRegions_61, ↓vk kX10_findsRegions_64, ↓vk kX10_findsRegions_65, ↓vk kX10_findsRegions_66, ↓vk kX10_findsRegions_67, ↓vk kX10_findsRegions_68, ↓vk kX10_findsRegions_69, ↓vk kX10_findsRegions_70, ↓vk kX10_findsRegions_73, ↓vk kX10_findsRegions_74, ↓vk kX10_findsRegions_77, ↓vk kX10_findsRegions_78, ↓vk kX10_findsRegions_81, ↓vk kX10_findsRegions_82, ↓vk kX10_findsRegions_83, ↓vk kX10_findsRegions_84, ↓vk kX10_findsRegions_87, ↓vk kX10_findsRegions_88, ↓vk kX10_findsRegions_89, ↓vk kX10_findsRegions_90, ↓vk kX10_findsRegions_91, ↓vk kX10_findsRegions_92, ↓vk kX10_findsRegions_95, ↓vk kX10_findsRegions_96, ↓vk kX10_findsRegions_99, ↓vk kX10_findsRegions_100, ↓vk kX10_findsRegions_101, ↓vk kX10_findsRegions_104, ↓vk kX10_findsRegions_107, ↓vk kX10_findsRegions_108, ↓vk kX10_findsRegions_111, ↓vk kX10_findsRegions_112, ↓vk kX10_findsRegions_115, ↓vk kX10_findsRegions_116, ↓vk kX10_findsRegions_119, ↓vk kX10_findsRegions_120, ↓vk kX10_findsRegions_123, ↓vk kX10_findsRegions_124, ↓vk kX10_findsRegions_125, ↓vk kX10_findsRegions_126, ↓vk kX10_findsRegions_127, ↓vk kX10_findsRegions_128, ↓vk kX10_findsRegions_131, ↓vk kX10_findsRegions_132, ↓vk kX10_findsRegions_133, ↓vk kX10_findsRegions_136, ↓vk kX10_findsRegions_139, ↓vk kX10_findsRegions_142, ↓x_aload, ↓x_callV0, ↓x_callV1, ↓x_dup, ↓x_getI, ↓x_getR, ↓x_goto, ↓x_iald, ↓x_iast, ↓x_icmp, ↓x_if, ↓x_ii, ↓x_iinc, ↓x_iload, ↓x_istore, ↓x_push, ↓x_putI, ↓x_vret, ↓reduceIte, List.getElem?_cons_zero, List.getElem?_cons_succ, List.getD_cons_zero, List.getD_cons_succ, List.getD_nil, List.set_cons_zero, List.set_cons_succ, lset, lset2, isL, noD, cond_true, cond_false, if_true, if_false, Bool.false_eq_true, true_and, and_true, Nat.reduceAdd, Nat.reduceBEq, Nat.reduceSub, Nat.reduceEqDiff, Nat.reduceLT, Nat.reduceLeDiff, Bool.or_false, Bool.false_or, Bool.or_true, Bool.true_or, List.append_nil, List.nil_append, List.cons_append, Option.toList_some, Option.toList_none, lo0, List.replicate, List.length_cons, List.length_nil, muI, muL, callK, catS, List.map_cons, List.map_nil, List.sum_cons, List.sum_nil, vrf, swK, ofN, Value.category, reduceCtorEq, rf_463_0, rf_463_2, rf_463_4, rf_463_6, rf_463_7, rf_463_8, rf_463_10, rf_463_11, rf_463_13, rf_463_14, rf_463_15, rf_463_16, rf_463_17, rf_463_22, rf_463_23, rf_463_24, sh_463, sh_464, sh_465, sh_466, sh_467, sh_468, sh_469, sh_470, sh_471, sh_472, sh_473, sh_474, sh_475, sh_476, sh_477, sh_478, sh_479, al_464, al_465, al_466, al_467, al_468, al_469, al_470, al_471, al_472, al_473, al_474, al_475, al_476, al_477, al_478, al_479]); (try simp (discharger := omega) only [lg_cmp_eq, nI_add, pk_mul, nI_clamp, ni_le, ni_lt, ni_eq, ni_lt0, ni_0le, ni_eq0, ni_0lt, ni_le0, ni_in, ni_m9, ni_9m, up2_ne, up2_eq, up2_kn, vnar0, vnar1, Nat.add_zero, Nat.zero_add, Nat.mul_zero, h3])
      refine ⟨fun q => ?_, fun q => ⟨by omega, ?_⟩⟩
      · have hbf : isRegB al s = false := by cases h : isRegB al s <;> simp_all [bI]
        rw [hbf] at next
        simp at next
        exact next I' hK h3 hH h5
      · have hbt : isRegB al s = true := by cases h : isRegB al s <;> simp_all [bI]
        rw [hbt] at next
        simp only [hs1, and_self, if_true] at next
        refine next _ ⟨fun i h1 h2 h3 => ?_, fun j h1 h2 => ?_⟩ ?_ ?_ ?_
        · rw [up2_ne h1, up2_ne h2]
          exact hK.1 i h1 h2 h3
        · rw [up2_kn h1, up2_ne (by decide)]
          exact hK.2 j h1 h2
        · rw [up2_eq, List.length_append, List.length_singleton]
        · rw [up2_ne (by decide)]
          exact hH.push (fun j hj => up2_kn (by omega)) up2_eq
        · rw [up2_kn (by decide), up2_ne (by decide)]
          exact h5
  apply C.vc (fun pc => pc == 12 || pc == 17 || pc == 25 || pc == 56 || pc == 68) 80; (simp only [↓vk kX10_findsRegions_0, ↓vk kX10_findsRegions_1, ↓vk kX10_findsRegions_2, ↓vk kX10_findsRegions_5, ↓vk kX10_findsRegions_6, ↓vk kX10_findsRegions_7, ↓vk kX10_findsRegions_10, ↓vk kX10_findsRegions_11, ↓vk kX10_findsRegions_12, ↓vk kX10_findsRegions_13, ↓vk kX10_findsRegions_14, ↓vk kX10_findsRegions_17, ↓vk kX10_findsRegions_20, ↓vk kX10_findsRegions_21, ↓vk kX10_findsRegions_22, ↓vk kX10_findsRegions_25, ↓vk kX10_findsRegions_28, ↓vk kX10_findsRegions_29, ↓vk kX10_findsRegions_32, ↓vk kX10_findsRegions_33, ↓vk kX10_findsRegions_36, ↓vk kX10_findsRegions_37, ↓vk kX10_findsRegions_38, ↓vk kX10_findsRegions_39, ↓vk kX10_findsRegions_40, ↓vk kX10_findsRegions_43, ↓vk kX10_findsRegions_44, ↓vk kX10_findsRegions_45, ↓vk kX10_findsRegions_48, ↓vk kX10_findsRegions_51, ↓vk kX10_findsRegions_54, ↓vk kX10_findsRegions_55, ↓vk kX10_findsRegions_56, ↓vk kX10_findsRegions_57, ↓vk kX10_findsRegions_58, ↓vk kX10_findsRegions_61, ↓vk kX10_findsRegions_64, ↓vk kX10_findsRegions_65, ↓vk kX10_findsRegions_66, ↓vk kX10_findsRegions_67, ↓vk kX10_findsRegions_68, ↓vk kX10_findsRegions_69, ↓vk kX10_findsRegions_70, ↓vk kX10_findsRegions_73, ↓vk kX10_findsRegions_74, ↓vk kX10_findsRegions_77, ↓vk kX10_findsRegions_78, ↓vk kX10_findsRegions_81, ↓vk kX10_findsRegions_82, ↓vk kX10_findsRegions_83, ↓vk kX10_findsRegions_84, ↓vk kX10_findsRegions_87, ↓vk kX10_findsRegions_88, ↓vk kX10_findsRegions_89, ↓vk kX10_findsRegions_90, ↓vk kX10_findsRegions_91, ↓vk kX10_findsRegions_92, ↓vk kX10_findsRegions_95, ↓vk kX10_findsRegions_96, ↓vk kX10_findsRegions_99, ↓vk kX10_findsRegions_100, ↓vk kX10_findsRegions_101, ↓vk kX10_findsRegions_104, ↓vk kX10_findsRegions_107, ↓vk kX10_findsRegions_108, ↓vk kX10_findsRegions_111, ↓vk kX10_findsRegions_112, ↓vk kX10_findsRegions_115, ↓vk kX10_findsRegions_116, ↓vk kX10_findsRegions_119, ↓vk kX10_findsRegions_120, ↓vk kX10_findsRegions_123, ↓vk kX10_findsRegions_124, ↓vk kX10_findsRegions_125, ↓vk kX10_findsRegions_126, ↓vk kX10_findsRegions_127, ↓vk kX10_findsRegions_128, ↓vk kX10_findsRegions_131, ↓vk kX10_findsRegions_132, ↓vk kX10_findsRegions_133, ↓vk kX10_findsRegions_136, ↓vk kX10_findsRegions_139, ↓vk kX10_findsRegions_142, ↓x_aload, ↓x_callV0, ↓x_callV1, ↓x_dup, ↓x_getI, ↓x_getR, ↓x_goto, ↓x_iald, ↓x_iast, ↓x_icmp, ↓x_if, ↓x_ii, ↓x_iinc, ↓x_iload, ↓x_istore, ↓x_push, ↓x_putI, ↓x_vret, ↓reduceIte, List.getElem?_cons_zero, List.getElem?_cons_succ, List.getD_cons_zero, List.getD_cons_succ, List.getD_nil, List.set_cons_zero, List.set_cons_succ, lset, lset2, isL, noD, cond_true, cond_false, if_true, if_false, Bool.false_eq_true, true_and, and_true, Nat.reduceAdd, Nat.reduceBEq, Nat.reduceSub, Nat.reduceEqDiff, Nat.reduceLT, Nat.reduceLeDiff, Bool.or_false, Bool.false_or, Bool.or_true, Bool.true_or, List.append_nil, List.nil_append, List.cons_append, Option.toList_some, Option.toList_none, lo0, List.replicate, List.length_cons, List.length_nil, muI, muL, callK, catS, List.map_cons, List.map_nil, List.sum_cons, List.sum_nil, vrf, swK, ofN, Value.category, reduceCtorEq, rf_463_0, rf_463_2, rf_463_4, rf_463_6, rf_463_7, rf_463_8, rf_463_10, rf_463_11, rf_463_13, rf_463_14, rf_463_15, rf_463_16, rf_463_17, rf_463_22, rf_463_23, rf_463_24, sh_463, sh_464, sh_465, sh_466, sh_467, sh_468, sh_469, sh_470, sh_471, sh_472, sh_473, sh_474, sh_475, sh_476, sh_477, sh_478, sh_479, al_464, al_465, al_466, al_467, al_468, al_469, al_470, al_471, al_472, al_473, al_474, al_475, al_476, al_477, al_478, al_479]); (try simp (discharger := omega) only [lg_cmp_eq, nI_add, pk_mul, nI_clamp, ni_le, ni_lt, ni_eq, ni_lt0, ni_0le, ni_eq0, ni_0lt, ni_le0, ni_in, ni_m9, ni_9m, up2_ne, up2_eq, up2_kn, vnar0, vnar1, Nat.add_zero, Nat.zero_add, Nat.mul_zero])
  refine loop1 1 (by omega) (by omega) _ ⟨fun i h1 h2 h3 => ?_, fun j h1 h2 => ?_⟩ ?_ ?_ ?_
  · rw [up2_ne h1, up2_ne h1]
  · rw [up2_kn h2, up2_kn h1]
  · rw [up2_kn (by decide), up2_eq, regsTo_1]; rfl
  · rw [regsTo_1]; exact Hold.nil
  · rw [up2_eq]

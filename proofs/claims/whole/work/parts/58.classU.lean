/-! every place is a region, and a marking that belongs to a state is the set of the places that hold it -/
theorem growM_reg {al sl : List Arc} {ls : List Nat} (hr : ∀ r ∈ ls, isRegB al r = true) : ∀ (f : Nat) (ch : List Nat), (∀ r ∈ ch, isRegB al r = true) → ∀ r ∈ growM al sl ls f ch, isRegB al r = true
  | 0, ch, h => h
  | f + 1, ch, h => by
    unfold growM
    split
    · exact h
    · rename_i hne
      rcases bestM_mem al sl ch ls with ⟨h0, -⟩ | ⟨hm, -⟩
      · exact absurd h0 hne
      · refine growM_reg hr f _ fun r hrm => ?_
        rcases List.mem_append.mp hrm with h1 | h1
        · exact h r h1
        · rw [List.mem_singleton.mp h1]
          exact hr _ hm
theorem leastM_reg {n : Nat} {al : List Arc} {r : Nat} (h : r ∈ leastM n al) : isRegB al r = true := by
  have h1 : r ∈ regsTo al (2 ^ n - 1) := leastTo_mem (Nat.le_refl _) h
  unfold regsTo at h1
  have h2 := (List.mem_filter.mp h1).2
  rw [Bool.and_eq_true] at h2
  exact h2.2
theorem placesM_reg (n : Nat) (al : List Arc) : ∀ r ∈ placesM n al, isRegB al r = true := by
  intro r hr
  rcases pruneM_mem al (sepsM n al) (growP n al) [] r hr with h | h
  · cases h
  · exact growM_reg (fun _ hq => leastM_reg hq) 126 [] (fun _ hq => by cases hq) r h
theorem leadsO_arc {al : List Arc} {s e t : Nat} (h : leadsO al s e = some t) : ∃ x ∈ al, x.1 = s ∧ x.2.1 = e ∧ x.2.2 = t := by
  unfold leadsO at h
  cases hf : al.find? (fun x => x.1 == s && x.2.1 == e) with
  | none => rw [hf] at h; cases h
  | some x =>
    rw [hf] at h
    have h1 := List.find?_some hf
    rw [Bool.and_eq_true, beq_iff_eq, beq_iff_eq] at h1
    exact ⟨x, List.mem_of_find?_eq_some hf, h1.1, h1.2, Option.some.inj h⟩
theorem cross_arc {al : List Arc} {set s e t : Nat} (hc : crossM al set e < 3) (h : leadsO al s e = some t) : ((set.testBit s && !decide (crossM al set e = 2)) || decide (crossM al set e = 1)) = set.testBit t := by
  obtain ⟨x, hx, h1, h2, h3⟩ := leadsO_arc h
  have key : ∀ b : Bool, (!(x.2.1 == e) || b) = true → b = true := fun b hb => by
    rw [h2, beq_self_eq_true] at hb
    exact hb
  unfold crossM at hc ⊢
  by_cases c0 : crN al set e = true
  · rw [if_pos c0]
    unfold crN at c0
    have := key _ (List.all_eq_true.mp c0 x hx)
    rw [h1, h3, beq_iff_eq] at this
    rw [this]
    simp
  · rw [if_neg c0] at hc ⊢
    by_cases c1 : crE al set e = true
    · rw [if_pos c1]
      unfold crE at c1
      have := key _ (List.all_eq_true.mp c1 x hx)
      rw [h1, h3, Bool.and_eq_true] at this
      rw [this.2]
      simp
    · rw [if_neg c1] at hc ⊢
      by_cases c2 : crX al set e = true
      · rw [if_pos c2]
        unfold crX at c2
        have := key _ (List.all_eq_true.mp c2 x hx)
        rw [h1, h3, Bool.and_eq_true, Bool.not_eq_true'] at this
        rw [this.2]
        simp
      · rw [if_neg c2] at hc
        exact absurd hc (by omega)
def MS (pl : List Nat) (s : Nat) (m : MK) : Prop := ∀ p, p < 128 → bitM m p = (decide (p < pl.length) && (pl.getD p 0).testBit s)
theorem MS_init {pl : List Nat} (hpl : pl.length ≤ 128) : MS pl 0 (initM pl) := fun p hp => bitM_init pl pl.length hpl p hp
theorem MS_occ {al : List Arc} {pl : List Nat} {s e t : Nat} {m : MK} (hpl : pl.length ≤ 128) (hR : ∀ r ∈ pl, isRegB al r = true) (he : e < 8) (hl : leadsO al s e = some t) (h : MS pl s m) : MS pl t (occM al pl e m) := by
  intro p hp
  rw [bitM_occ al pl e m hpl p hp, h p hp]
  by_cases hq : p < pl.length
  · have h1 := hR _ (getD_mem hq)
    unfold isRegB at h1
    have h2 := of_decide_eq_true (List.all_eq_true.mp h1 e (List.mem_range.mpr he))
    have h3 := cross_arc h2 hl
    rw [decide_eq_true hq, Bool.true_and, Bool.true_and, Bool.true_and, Bool.true_and]
    exact h3
  · rw [decide_eq_false hq]
    rfl
theorem MS_eq {pl : List Nat} {s : Nat} {a b : MK} (ha : MS pl s a) (hb : MS pl s b) : a = b := by
  have h : ∀ p, p < 128 → bitM a p = bitM b p := fun p hp => (ha p hp).trans (hb p hp).symm
  refine Prod.ext (Int64.toBitVec_inj.mp (BitVec.eq_of_getLsbD_eq fun i hi => ?_)) (Int64.toBitVec_inj.mp (BitVec.eq_of_getLsbD_eq fun i hi => ?_))
  · have := h i (by omega)
    unfold bitM at this
    rw [if_pos hi, if_pos hi] at this
    exact this
  · have := h (64 + i) (by omega)
    unfold bitM at this
    rw [if_neg (by omega), if_neg (by omega), Nat.add_sub_cancel_left] at this
    exact this
theorem idxM_old {ml : List MK} {x : MK} {k : Nat} (hk : k < ml.length) (h : ml.getD k (0, 0) = x) : idxM ml x < ml.length := by
  unfold idxM
  rw [List.findIdx_lt_length]
  rw [List.getD_eq_getElem?_getD, List.getElem?_eq_getElem hk, Option.getD_some] at h
  exact ⟨ml[k], List.getElem_mem hk, by rw [h]; simp⟩
/-! the class: does the net's state graph match -/
def JF (F : FR) : Prop := ∀ k s, F.2.1 k = some s ↔ F.2.2 s = some k
theorem JF0 : JF F0R := by
  intro k s
  show (if k = 0 then some 0 else none) = some s ↔ (if s = 0 then some 0 else none) = some k
  by_cases hk : k = 0 <;> by_cases hs : s = 0 <;> simp [hk, hs] <;> omega
theorem JF_upd {F : FR} {k s : Nat} (h : JF F) (h1 : F.2.1 k = none) (h2 : F.2.2 s = none) (b : Bool) : JF (b, updO F.2.1 k s, updO F.2.2 s k) := by
  intro k' s'
  show (if k' = k then some s else F.2.1 k') = some s' ↔ (if s' = s then some k else F.2.2 s') = some k'
  by_cases hk : k' = k
  · subst hk
    rw [if_pos rfl]
    by_cases hs : s' = s
    · rw [if_pos hs, hs]; simp
    · rw [if_neg hs]
      constructor
      · intro q; exact absurd (Option.some.inj q).symm hs
      · intro q
        have := (h k' s').mpr q
        rw [h1] at this; cases this
  · rw [if_neg hk]
    by_cases hs : s' = s
    · subst hs
      rw [if_pos rfl]
      constructor
      · intro q
        have := (h k' s').mp q
        rw [h2] at this; cases this
      · intro q; exact absurd (Option.some.inj q).symm hk
    · rw [if_neg hs]; exact h k' s'
theorem chkF_off {al : List Arc} {F : FR} {m e : Nat} {b : Bool} (h : F.1 = false) : (chkF al F m e b).1 = false := by
  unfold chkF
  rw [h]
  rfl
theorem folF_off {al : List Arc} {F : FR} {m e to : Nat} (h : F.1 = false) : (folF al F m e to).1 = false := by
  unfold folF
  split
  · rfl
  · split
    · rfl
    · split
      · exact h
      · show (F.1 && _) = false
        rw [h]; rfl
theorem fevs_off {al : List Arc} {pl : List Nat} {ml : List MK} {F : FR} {m : Nat} : ∀ (k e : Nat), (fevs al pl ml F m e).1 = false → (fevs al pl ml F m (e + k)).1 = false
  | 0, e, h => h
  | k + 1, e, h => by
    have ih := fevs_off (al := al) (pl := pl) (ml := ml) (F := F) (m := m) k e h
    show (fevs al pl ml F m (e + k + 1)).1 = false
    unfold fevs
    split
    · exact folF_off (chkF_off ih)
    · exact chkF_off ih
theorem fev_off0 {al : List Arc} {pl : List Nat} {ml : List MK} {F : FR} {m e : Nat} (h : F.1 = false) : (fevs al pl ml F m e).1 = false := by
  have := fevs_off (al := al) (pl := pl) (ml := ml) (F := F) (m := m) e 0 h
  rwa [Nat.zero_add] at this
theorem FTo_off {al : List Arc} {pl : List Nat} : ∀ (k m : Nat), (FTo al pl m).1 = false → (FTo al pl (m + k)).1 = false
  | 0, m, h => h
  | k + 1, m, h => by
    have ih := FTo_off (al := al) (pl := pl) k m h
    show (FTo al pl (m + k + 1)).1 = false
    unfold FTo
    split
    · exact fev_off0 ih
    · exact ih
theorem fol_none {al : List Arc} {F : FR} {m e to s : Nat} (hm : F.2.1 m = some s) (hl : leadsO al s e = none) : (folF al (chkF al F m e true) m e to).1 = false := by
  have h : folF al (chkF al F m e true) m e to = (false, F.2) := by
    show (match F.2.1 m with | none => (false, F.2) | some s => match leadsO al s e with | none => (false, F.2) | some t => _) = _
    rw [hm]
    dsimp only
    rw [hl]
  rw [h]
theorem fol_some {al : List Arc} {F : FR} {m e to s t : Nat} (h1 : F.1 = true) (hm : F.2.1 m = some s) (hl : leadsO al s e = some t) : folF al (chkF al F m e true) m e to = if F.2.1 to = none ∧ F.2.2 t = none then (true, updO F.2.1 to t, updO F.2.2 t to) else (F.2.1 to == some t && F.2.2 t == some to, F.2) := by
  have hc : (chkF al F m e true).1 = true := by
    show (F.1 && (match F.2.1 m with | none => false | some s => true == (leadsO al s e).isSome)) = true
    rw [hm, h1]
    dsimp only
    rw [hl]
    rfl
  show (match F.2.1 m with | none => (false, F.2) | some s => match leadsO al s e with | none => (false, F.2) | some t => if F.2.1 to = none ∧ F.2.2 t = none then ((chkF al F m e true).1, updO F.2.1 to t, updO F.2.2 t to) else ((chkF al F m e true).1 && (F.2.1 to == some t && F.2.2 t == some to), F.2)) = _
  rw [hm]
  dsimp only
  rw [hl]
  dsimp only
  rw [hc, Bool.true_and]
theorem chk_no {al : List Arc} {F : FR} {m e s : Nat} (h1 : F.1 = true) (hm : F.2.1 m = some s) : chkF al F m e false = ((leadsO al s e).isNone, F.2) := by
  show (F.1 && (match F.2.1 m with | none => false | some s => false == (leadsO al s e).isSome), F.2) = _
  rw [hm, h1]
  dsimp only
  cases leadsO al s e <;> rfl
/-- all fits so far -/
def OKF (I : Nat → Nat → Int32) (pl : List Nat) (c : Nat) (ml : List MK) (F : FR) : Prop := F.1 = true ∧ JF F ∧ (∀ k, k < c → I 347 k = orI (F.2.1 k) (-1)) ∧ (∀ k, k < ml.length → (F.2.1 k).isSome = true) ∧ ∀ k s, F.2.1 k = some s → s < 10 ∧ k < ml.length ∧ MS pl s (ml.getD k (0, 0))
theorem bfs_in {al : List Arc} {pl : List Nat} {m : Nat} (hm : m < (BF al pl).length) (hb : (BF al pl).length ≤ 100) : m < (bfsTo al pl m).length := by
  rcases Nat.lt_or_ge m (bfsTo al pl m).length with h | h
  · exact h
  · obtain ⟨b1, -⟩ := bfs_stop h (100 - m)
    rw [show m + (100 - m) = 100 by omega] at b1
    unfold BF at hm
    rw [b1] at hm
    omega
theorem evs_le {al : List Arc} {pl : List Nat} {m e : Nat} (hm : m < (BF al pl).length) (hb : (BF al pl).length ≤ 100) (he : e ≤ 8) : (evsTo al pl (bfsTo al pl m) m e).length ≤ (BF al pl).length := by
  have hml := bfs_in hm hb
  obtain ⟨t, ht⟩ := evsTo_pre al pl (bfsTo al pl m) m e (8 - e)
  rw [show e + (8 - e) = 8 by omega] at ht
  have hbs : bfsTo al pl (m + 1) = evsTo al pl (bfsTo al pl m) m 8 := by
    show (if m < (bfsTo al pl m).length then _ else _) = _
    rw [if_pos hml]
  obtain ⟨u, hu⟩ := bfsTo_pre al pl (m + 1) (100 - (m + 1))
  rw [show m + 1 + (100 - (m + 1)) = 100 by omega] at hu
  unfold BF
  rw [hu, hbs, ht, List.length_append, List.length_append]
  omega
theorem n0l : ((0 : Int32) ≤ -1) = False := by simp only [eq_iff_iff, iff_false]; decide
theorem nl0 : ((-1 : Int32) < 0) = True := by simp only [eq_iff_iff, iff_true]; decide
theorem ni_m1 {t : Nat} (h : t < 2 ^ 31) : ¬ nI t = -1 := fun q => by
  have h2 := congrArg (fun x => decide (x < 0)) q
  have h3 : (nI t < 0) = False := ni_lt0 h
  simp only [h3, nl0] at h2
  cases h2
section SX3
variable {l : Launch} {X : XT} {I : Nat → Nat → Int32} {L : Nat → Nat → Int64} {Q : QT} {n : Nat} {al : List Arc} {pl : List Nat}
set_option maxRecDepth 100000 in
set_option maxHeartbeats 4000000 in
theorem ct_s_matches (hs : GS 3) (hg : GC I 3 n al) (ho : AOK al) (hpl : pl.length ≤ 128) (hR : ∀ r ∈ pl, isRegB al r = true) (hN : NSP I al pl) (hQ : ∀ I', (∀ i, i ≠ 347 → I' i = I i) → Q (some (.int (nI (bI (!(decide (100 < (BF al pl).length)) && (FTo al pl 100).1))))) (mk I' L)) : CT l X mX6_matches 0 [.ref 344, .ref 3] (mk I L) Q := by
  refine ct_intro okX6_matches (by decide +kernel) (Or.inr (Or.inr (Or.inl rfl))) (Nat.le_of_ble_eq_true rfl) fun A C W => ?_
  show A 0 [some (.ref 344), some (.ref 3), none, none, none, none] [] _
  rcases hN with ⟨hb, h7⟩ | ⟨hb, h7, h4, h5, h6, hT⟩
  · have hq := hQ I (fun _ _ => rfl)
    rw [decide_eq_true hb] at hq
    apply C.vc (fun pc => pc == 9 || pc == 11 || pc == 41 || pc == 51 || pc == 81) 80; (simp only [↓vk kX6_matches_0, ↓vk kX6_matches_1, ↓vk kX6_matches_4, ↓vk kX6_matches_7, ↓vk kX6_matches_8, ↓vk kX6_matches_9, ↓vk kX6_matches_10, ↓vk kX6_matches_11, ↓vk kX6_matches_12, ↓vk kX6_matches_13, ↓vk kX6_matches_16, ↓vk kX6_matches_19, ↓vk kX6_matches_20, ↓vk kX6_matches_23, ↓vk kX6_matches_24, ↓vk kX6_matches_25, ↓vk kX6_matches_26, ↓vk kX6_matches_29, ↓vk kX6_matches_32, ↓vk kX6_matches_33, ↓vk kX6_matches_36, ↓vk kX6_matches_37, ↓vk kX6_matches_38, ↓vk kX6_matches_39, ↓vk kX6_matches_40, ↓vk kX6_matches_41, ↓vk kX6_matches_42, ↓vk kX6_matches_43, ↓vk kX6_matches_46, ↓vk kX6_matches_49, ↓vk kX6_matches_50, ↓vk kX6_matches_51, ↓vk kX6_matches_52, ↓vk kX6_matches_54, ↓vk kX6_matches_57, ↓vk kX6_matches_58, ↓vk kX6_matches_61, ↓vk kX6_matches_62, ↓vk kX6_matches_64, ↓vk kX6_matches_65, ↓vk kX6_matches_66, ↓vk kX6_matches_67, ↓vk kX6_matches_68, ↓vk kX6_matches_70, ↓vk kX6_matches_71, ↓vk kX6_matches_72, ↓vk kX6_matches_75, ↓vk kX6_matches_76, ↓vk kX6_matches_77, ↓vk kX6_matches_78, ↓vk kX6_matches_81, ↓vk kX6_matches_83, ↓vk kX6_matches_85, ↓vk kX6_matches_88, ↓vk kX6_matches_90, ↓vk kX6_matches_93, ↓vk kX6_matches_96, ↓vk kX6_matches_98, ↓vk kX6_matches_101, ↓vk kX6_matches_103, ↓vk kX6_matches_106, ↓vk kX6_matches_107, ↓vk kX6_matches_108, ↓vk kX6_matches_109, ↓vk kX6_matches_112, ↓vk kX6_matches_114, ↓vk kX6_matches_115, ↓vk kX6_matches_118, ↓vk kX6_matches_119, ↓vk kX6_matches_122, ↓vk kX6_matches_124, ↓vk kX6_matches_126, ↓vk kX6_matches_127, ↓vk kX6_matches_128, ↓vk kX6_matches_131, ↓vk kX6_matches_133, ↓vk kX6_matches_134, ↓vk kX6_matches_136, ↓vk kX6_matches_139, ↓vk kX6_matches_140, ↓vk kX6_matches_141, ↓vk kX6_matches_144, ↓vk kX6_matches_147, ↓vk kX6_matches_150, ↓vk kX6_matches_153, ↓vk kX6_matches_154, ↓x_aload, ↓x_callV2, ↓x_getI, ↓x_getR, ↓x_goto, ↓x_iald, ↓x_iast, ↓x_icmp, ↓x_if, ↓x_ii, ↓x_iinc, ↓x_iload, ↓x_istore, ↓x_push, ↓x_zret, ↓reduceIte, List.getElem?_cons_zero, List.getElem?_cons_succ, List.getD_cons_zero, List.getD_cons_succ, List.getD_nil, List.set_cons_zero, List.set_cons_succ, lset, lset2, isL, noD, cond_true, cond_false, if_true, if_false, Bool.false_eq_true, true_and, and_true, Nat.reduceAdd, Nat.reduceBEq, Nat.reduceSub, Nat.reduceEqDiff, Nat.reduceLT, Nat.reduceLeDiff, Bool.or_false, Bool.false_or, Bool.or_true, Bool.true_or, List.append_nil, List.nil_append, List.cons_append, Option.toList_some, Option.toList_none, lo0, List.replicate, List.length_cons, List.length_nil, muI, muL, callK, catS, List.map_cons, List.map_nil, List.sum_cons, List.sum_nil, vrf, swK, ofN, Value.category, reduceCtorEq, rf_0_0, rf_0_1, rf_0_2, rf_0_3, rf_0_4, rf_0_5, rf_0_6, rf_0_7, rf_0_8, rf_0_9, rf_1_0, rf_3_2, rf_3_3, rf_3_4, rf_7_1, rf_9_0, rf_9_1, rf_60_0, rf_60_1, rf_60_3, rf_60_4, rf_60_5, rf_60_7, rf_60_8, rf_60_11, rf_69_0, rf_69_2, rf_69_3, rf_69_4, rf_69_5, rf_69_6, rf_344_0, rf_344_1, rf_344_2, rf_344_3, rf_450_2, rf_450_3, rf_450_4, rf_454_0, rf_454_1, rf_454_3, rf_454_4, rf_454_5, rf_454_7, rf_454_8, rf_454_11, sh_0, sh_1, sh_2, sh_3, sh_4, sh_5, sh_6, sh_7, sh_8, sh_9, sh_10, sh_11, sh_60, sh_61, sh_62, sh_63, sh_64, sh_65, sh_66, sh_67, sh_68, sh_69, sh_70, sh_71, sh_72, sh_73, sh_74, sh_75, sh_344, sh_345, sh_346, sh_347, sh_348, sh_449, sh_450, sh_451, sh_452, sh_453, sh_454, sh_455, sh_456, sh_457, sh_458, sh_459, sh_460, sh_461, sh_462, al_2, al_4, al_5, al_6, al_10, al_11, al_62, al_63, al_64, al_65, al_66, al_67, al_70, al_71, al_72, al_73, al_345, al_346, al_347, al_451, al_452, al_453, al_456, al_457, al_458, al_459, al_460, al_461]); (try simp (discharger := omega) only [↓ni_bI1, ↓ni_bI1o, ↓ni_bI0, ↓ni_bI0n, ↓ni_bIe, ni_bIb, Nat.reduceEqDiff, Nat.reduceLT, Nat.reduceLeDiff, Nat.reduceAdd, Nat.reduceMul, not_true_eq_false, not_false_eq_true, true_implies, false_implies, and_true, true_and, lg_cmp_eq, nI_add, pk_mul, nI_clamp, ni_le, ni_lt, ni_eq, ni_lt0, ni_0le, ni_eq0, ni_0lt, ni_le0, ni_in, ni_m9, ni_9m, up2_ne, up2_eq, up2_kn, vnar0, vnar1, Nat.add_zero, Nat.zero_add, Nat.mul_zero, List.map_nil, List.map_cons, List.sum_nil, List.sum_cons, List.append_nil, Nat.zero_le, ty3, ty4, ty5, h7])
    exact ⟨Or.inl trivial, hq⟩
  · rw [decide_eq_false (show ¬ 100 < (BF al pl).length by omega), Bool.not_false, Bool.true_and] at hQ
    have hno : (FTo al pl 100).1 = false → ∀ I', (∀ i, i ≠ 347 → I' i = I i) → Q (some (.int (nI 0))) (mk I' L) := fun h I' kI => by
      have := hQ I' kI
      rw [h] at this
      exact this
    have hyes : (FTo al pl 100).1 = true → ∀ I', (∀ i, i ≠ 347 → I' i = I i) → Q (some (.int (nI 1))) (mk I' L) := fun h I' kI => by
      have := hQ I' kI
      rw [h] at this
      exact this
    clear hQ
    have main : ∀ m, m ≤ (BF al pl).length → ∀ I', (∀ i, i ≠ 347 → I' i = I i) → OKF I' pl (BF al pl).length (bfsTo al pl m) (FTo al pl m) → A 41 [some (.ref 344), some (.ref 3), some (.int (nI m)), none, none, none] [] (mk I' L) := by
      refine down fun m hm ih I' kI hK => ?_
      have h4' : I' 344 4 = nI (BF al pl).length := by rw [kI 344 (by omega)]; exact h4
      by_cases hml : m < (BF al pl).length
      · have next := ih hml
        have hin := bfs_in hml hb
        have hbs : bfsTo al pl (m + 1) = evsTo al pl (bfsTo al pl m) m 8 := by
          show (if m < (bfsTo al pl m).length then _ else _) = _
          rw [if_pos hin]
        have hFs : FTo al pl (m + 1) = fevs al pl (bfsTo al pl m) (FTo al pl m) m 8 := by
          show (if m < (bfsTo al pl m).length then _ else _) = _
          rw [if_pos hin]
        have inner : ∀ e, e ≤ 8 → ∀ I', (∀ i, i ≠ 347 → I' i = I i) → OKF I' pl (BF al pl).length (evsTo al pl (bfsTo al pl m) m e) (fevs al pl (bfsTo al pl m) (FTo al pl m) m e) → A 51 [some (.ref 344), some (.ref 3), some (.int (nI m)), some (.int (nI e)), none, none] [] (mk I' L) := by
          refine down fun e he ihe I' kI hK => ?_
          by_cases he8 : e < 8
          · have nexte := ihe he8
            have hoff : (fevs al pl (bfsTo al pl m) (FTo al pl m) m (e + 1)).1 = false → (FTo al pl 100).1 = false := fun h => by
              have h2 := fevs_off (8 - (e + 1)) (e + 1) h
              rw [show e + 1 + (8 - (e + 1)) = 8 by omega, ← hFs] at h2
              have h3 := FTo_off (100 - (m + 1)) (m + 1) h2
              rwa [show m + 1 + (100 - (m + 1)) = 100 by omega] at h3
            have hFe : fevs al pl (bfsTo al pl m) (FTo al pl m) m (e + 1) = if canM al pl e ((evsTo al pl (bfsTo al pl m) m e).getD m (0, 0)) = true then folF al (chkF al (fevs al pl (bfsTo al pl m) (FTo al pl m) m e) m e true) m e (idxM (evsTo al pl (bfsTo al pl m) m e) (occM al pl e ((evsTo al pl (bfsTo al pl m) m e).getD m (0, 0)))) else chkF al (fevs al pl (bfsTo al pl m) (FTo al pl m) m e) m e false := rfl
            have hEe : evsTo al pl (bfsTo al pl m) m (e + 1) = if canM al pl e ((evsTo al pl (bfsTo al pl m) m e).getD m (0, 0)) = true then addM (evsTo al pl (bfsTo al pl m) m e) (occM al pl e ((evsTo al pl (bfsTo al pl m) m e).getD m (0, 0))) else evsTo al pl (bfsTo al pl m) m e := rfl
            have hle1 := evs_le hml hb (show e + 1 ≤ 8 by omega)
            have hmv : m < (evsTo al pl (bfsTo al pl m) m e).length := Nat.lt_of_lt_of_le hin (evs_ge e)
            have htt : I' 346 (m * 8 + e) = if canM al pl e ((evsTo al pl (bfsTo al pl m) m e).getD m (0, 0)) = true then nI (idxM (evsTo al pl (bfsTo al pl m) m e) (occM al pl e ((evsTo al pl (bfsTo al pl m) m e).getD m (0, 0)))) else -1 := by
              rw [kI 346 (by omega), hT m e hml he8, evs_get hin]
              rfl
            have hg' : GC I' 3 n al := hg.keepc (p := fun i => i = 347) (fun i hi => kI i hi) (fun i hi => by unfold notG; omega)
            rw [hEe, hFe] at nexte
            rw [hFe] at hoff
            rw [hEe] at hle1
            have hid := idxM_le (evsTo al pl (bfsTo al pl m) m e) (occM al pl e ((evsTo al pl (bfsTo al pl m) m e).getD m (0, 0)))
            generalize hml0 : evsTo al pl (bfsTo al pl m) m e = ml at *
            generalize fevs al pl (bfsTo al pl m) (FTo al pl m) m e = F at *
            generalize canM al pl e (ml.getD m (0, 0)) = can at *
            obtain ⟨q1, qJ, qI, qd, qr⟩ := hK
            have hms := qd m hmv
            obtain ⟨s, hms⟩ := Option.isSome_iff_exists.mp hms
            obtain ⟨hs10, -, hMs⟩ := qr m s hms
            -- a marking that is new belongs to a state that no marking has
            have hMt : ∀ t, leadsO al s e = some t → MS pl t (occM al pl e (ml.getD m (0, 0))) := fun t hl => MS_occ hpl hR he8 hl hMs
            generalize hx : occM al pl e (ml.getD m (0, 0)) = x at *
            have hfree : ∀ t, leadsO al s e = some t → F.2.1 (idxM ml x) = none → F.2.2 t = none := by
              intro t hl h1
              cases h2 : F.2.2 t with
              | none => rfl
              | some k2 =>
                obtain ⟨-, r2, r3⟩ := qr k2 t ((qJ k2 t).mpr h2)
                have r4 := qd _ (idxM_old r2 (MS_eq r3 (hMt t hl)))
                rw [h1] at r4
                cases r4
            clear hEe hFe
            have hst : I' 347 m = nI s := by rw [qI m hml, hms]; rfl
            have h163 : ∀ I3 p q, (∀ i, i ≠ 347 → I3 i = I i) → OKF I3 pl (BF al pl).length (if can = true then addM ml x else ml) (if can = true then folF al (chkF al F m e true) m e (idxM ml x) else chkF al F m e false) → A 141 [some (.ref 344), some (.ref 3), some (.int (nI m)), some (.int (nI e)), p, q] [] (mk I3 L) := by
              intro I3 p q k3 o3
              have h0 : A 141 [some (.ref 344), some (.ref 3), some (.int (nI m)), some (.int (nI e)), none, none] [] (mk I3 L) := by
                apply C.vc (fun pc => pc == 11 || pc == 41 || pc == 51 || pc == 81) 80; (simp only [↓vk kX6_matches_0, ↓vk kX6_matches_1, ↓vk kX6_matches_4, ↓vk kX6_matches_7, ↓vk kX6_matches_8, ↓vk kX6_matches_9, ↓vk kX6_matches_10, ↓vk kX6_matches_11, ↓vk kX6_matches_12, ↓vk kX6_matches_13, ↓vk kX6_matches_16, ↓vk kX6_matches_19, ↓vk kX6_matches_20, ↓vk kX6_matches_23, ↓vk kX6_matches_24, ↓vk kX6_matches_25, ↓vk kX6_matches_26, ↓vk kX6_matches_29, ↓vk kX6_matches_32, ↓vk kX6_matches_33, ↓vk kX6_matches_36, ↓vk kX6_matches_37, ↓vk kX6_matches_38, ↓vk kX6_matches_39, ↓vk kX6_matches_40, ↓vk kX6_matches_41, ↓vk kX6_matches_42, ↓vk kX6_matches_43, ↓vk kX6_matches_46, ↓vk kX6_matches_49, ↓vk kX6_matches_50, ↓vk kX6_matches_51, ↓vk kX6_matches_52, ↓vk kX6_matches_54, ↓vk kX6_matches_57, ↓vk kX6_matches_58, ↓vk kX6_matches_61, ↓vk kX6_matches_62, ↓vk kX6_matches_64, ↓vk kX6_matches_65, ↓vk kX6_matches_66, ↓vk kX6_matches_67, ↓vk kX6_matches_68, ↓vk kX6_matches_70, ↓vk kX6_matches_71, ↓vk kX6_matches_72, ↓vk kX6_matches_75, ↓vk kX6_matches_76, ↓vk kX6_matches_77, ↓vk kX6_matches_78, ↓vk kX6_matches_81, ↓vk kX6_matches_83, ↓vk kX6_matches_85, ↓vk kX6_matches_88, ↓vk kX6_matches_90, ↓vk kX6_matches_93, ↓vk kX6_matches_96, ↓vk kX6_matches_98, ↓vk kX6_matches_101, ↓vk kX6_matches_103, ↓vk kX6_matches_106, ↓vk kX6_matches_107, ↓vk kX6_matches_108, ↓vk kX6_matches_109, ↓vk kX6_matches_112, ↓vk kX6_matches_114, ↓vk kX6_matches_115, ↓vk kX6_matches_118, ↓vk kX6_matches_119, ↓vk kX6_matches_122, ↓vk kX6_matches_124, ↓vk kX6_matches_126, ↓vk kX6_matches_127, ↓vk kX6_matches_128, ↓vk kX6_matches_131, ↓vk kX6_matches_133, ↓vk kX6_matches_134, ↓vk kX6_matches_136, ↓vk kX6_matches_139, ↓vk kX6_matches_140, ↓vk kX6_matches_141, ↓vk kX6_matches_144, ↓vk kX6_matches_147, ↓vk kX6_matches_150, ↓vk kX6_matches_153, ↓vk kX6_matches_154, ↓x_aload, ↓x_callV2, ↓x_getI, ↓x_getR, ↓x_goto, ↓x_iald, ↓x_iast, ↓x_icmp, ↓x_if, ↓x_ii, ↓x_iinc, ↓x_iload, ↓x_istore, ↓x_push, ↓x_zret, ↓reduceIte, List.getElem?_cons_zero, List.getElem?_cons_succ, List.getD_cons_zero, List.getD_cons_succ, List.getD_nil, List.set_cons_zero, List.set_cons_succ, lset, lset2, isL, noD, cond_true, cond_false, if_true, if_false, Bool.false_eq_true, true_and, and_true, Nat.reduceAdd, Nat.reduceBEq, Nat.reduceSub, Nat.reduceEqDiff, Nat.reduceLT, Nat.reduceLeDiff, Bool.or_false, Bool.false_or, Bool.or_true, Bool.true_or, List.append_nil, List.nil_append, List.cons_append, Option.toList_some, Option.toList_none, lo0, List.replicate, List.length_cons, List.length_nil, muI, muL, callK, catS, List.map_cons, List.map_nil, List.sum_cons, List.sum_nil, vrf, swK, ofN, Value.category, reduceCtorEq, rf_0_0, rf_0_1, rf_0_2, rf_0_3, rf_0_4, rf_0_5, rf_0_6, rf_0_7, rf_0_8, rf_0_9, rf_1_0, rf_3_2, rf_3_3, rf_3_4, rf_7_1, rf_9_0, rf_9_1, rf_60_0, rf_60_1, rf_60_3, rf_60_4, rf_60_5, rf_60_7, rf_60_8, rf_60_11, rf_69_0, rf_69_2, rf_69_3, rf_69_4, rf_69_5, rf_69_6, rf_344_0, rf_344_1, rf_344_2, rf_344_3, rf_450_2, rf_450_3, rf_450_4, rf_454_0, rf_454_1, rf_454_3, rf_454_4, rf_454_5, rf_454_7, rf_454_8, rf_454_11, sh_0, sh_1, sh_2, sh_3, sh_4, sh_5, sh_6, sh_7, sh_8, sh_9, sh_10, sh_11, sh_60, sh_61, sh_62, sh_63, sh_64, sh_65, sh_66, sh_67, sh_68, sh_69, sh_70, sh_71, sh_72, sh_73, sh_74, sh_75, sh_344, sh_345, sh_346, sh_347, sh_348, sh_449, sh_450, sh_451, sh_452, sh_453, sh_454, sh_455, sh_456, sh_457, sh_458, sh_459, sh_460, sh_461, sh_462, al_2, al_4, al_5, al_6, al_10, al_11, al_62, al_63, al_64, al_65, al_66, al_67, al_70, al_71, al_72, al_73, al_345, al_346, al_347, al_451, al_452, al_453, al_456, al_457, al_458, al_459, al_460, al_461]); (try simp (discharger := omega) only [↓ni_bI1, ↓ni_bI1o, ↓ni_bI0, ↓ni_bI0n, ↓ni_bIe, ni_bIb, Nat.reduceEqDiff, Nat.reduceLT, Nat.reduceLeDiff, Nat.reduceAdd, Nat.reduceMul, not_true_eq_false, not_false_eq_true, true_implies, false_implies, and_true, true_and, lg_cmp_eq, nI_add, pk_mul, nI_clamp, ni_le, ni_lt, ni_eq, ni_lt0, ni_0le, ni_eq0, ni_0lt, ni_le0, ni_in, ni_m9, ni_9m, up2_ne, up2_eq, up2_kn, vnar0, vnar1, Nat.add_zero, Nat.zero_add, Nat.mul_zero, List.map_nil, List.map_cons, List.sum_nil, List.sum_cons, List.append_nil, Nat.zero_le, ty3, ty4, ty5])
                exact nexte I3 k3 o3
              exact W.le h0 (by simp only [leO, and_self])
            clear nexte
            cases hc : can with
            | false =>
              subst hc
              rw [if_neg (by decide)] at htt hoff
              rw [if_neg (by decide), if_neg (by decide)] at h163
              rw [chk_no q1 hms] at h163 hoff
              apply C.vc (fun pc => pc == 11 || pc == 41 || pc == 51 || pc == 81) 80; (simp only [↓vk kX6_matches_0, ↓vk kX6_matches_1, ↓vk kX6_matches_4, ↓vk kX6_matches_7, ↓vk kX6_matches_8, ↓vk kX6_matches_9, ↓vk kX6_matches_10, ↓vk kX6_matches_11, ↓vk kX6_matches_12, ↓vk kX6_matches_13, ↓vk kX6_matches_16, ↓vk kX6_matches_19, ↓vk kX6_matches_20, ↓vk kX6_matches_23, ↓vk kX6_matches_24, ↓vk kX6_matches_25, ↓vk kX6_matches_26, ↓vk kX6_matches_29, ↓vk kX6_matches_32, ↓vk kX6_matches_33, ↓vk kX6_matches_36, ↓vk kX6_matches_37, ↓vk kX6_matches_38, ↓vk kX6_matches_39, ↓vk kX6_matches_40, ↓vk kX6_matches_41, ↓vk kX6_matches_42, ↓vk kX6_matches_43, ↓vk kX6_matches_46, ↓vk kX6_matches_49, ↓vk kX6_matches_50, ↓vk kX6_matches_51, ↓vk kX6_matches_52, ↓vk kX6_matches_54, ↓vk kX6_matches_57, ↓vk kX6_matches_58, ↓vk kX6_matches_61, ↓vk kX6_matches_62, ↓vk kX6_matches_64, ↓vk kX6_matches_65, ↓vk kX6_matches_66, ↓vk kX6_matches_67, ↓vk kX6_matches_68, ↓vk kX6_matches_70, ↓vk kX6_matches_71, ↓vk kX6_matches_72, ↓vk kX6_matches_75, ↓vk kX6_matches_76, ↓vk kX6_matches_77, ↓vk kX6_matches_78, ↓vk kX6_matches_81, ↓vk kX6_matches_83, ↓vk kX6_matches_85, ↓vk kX6_matches_88, ↓vk kX6_matches_90, ↓vk kX6_matches_93, ↓vk kX6_matches_96, ↓vk kX6_matches_98, ↓vk kX6_matches_101, ↓vk kX6_matches_103, ↓vk kX6_matches_106, ↓vk kX6_matches_107, ↓vk kX6_matches_108, ↓vk kX6_matches_109, ↓vk kX6_matches_112, ↓vk kX6_matches_114, ↓vk kX6_matches_115, ↓vk kX6_matches_118, ↓vk kX6_matches_119, ↓vk kX6_matches_122, ↓vk kX6_matches_124, ↓vk kX6_matches_126, ↓vk kX6_matches_127, ↓vk kX6_matches_128, ↓vk kX6_matches_131, ↓vk kX6_matches_133, ↓vk kX6_matches_134, ↓vk kX6_matches_136, ↓vk kX6_matches_139, ↓vk kX6_matches_140, ↓vk kX6_matches_141, ↓vk kX6_matches_144, ↓vk kX6_matches_147, ↓vk kX6_matches_150, ↓vk kX6_matches_153, ↓vk kX6_matches_154, ↓x_aload, ↓x_callV2, ↓x_getI, ↓x_getR, ↓x_goto, ↓x_iald, ↓x_iast, ↓x_icmp, ↓x_if, ↓x_ii, ↓x_iinc, ↓x_iload, ↓x_istore, ↓x_push, ↓x_zret, ↓reduceIte, List.getElem?_cons_zero, List.getElem?_cons_succ, List.getD_cons_zero, List.getD_cons_succ, List.getD_nil, List.set_cons_zero, List.set_cons_succ, lset, lset2, isL, noD, cond_true, cond_false, if_true, if_false, Bool.false_eq_true, true_and, and_true, Nat.reduceAdd, Nat.reduceBEq, Nat.reduceSub, Nat.reduceEqDiff, Nat.reduceLT, Nat.reduceLeDiff, Bool.or_false, Bool.false_or, Bool.or_true, Bool.true_or, List.append_nil, List.nil_append, List.cons_append, Option.toList_some, Option.toList_none, lo0, List.replicate, List.length_cons, List.length_nil, muI, muL, callK, catS, List.map_cons, List.map_nil, List.sum_cons, List.sum_nil, vrf, swK, ofN, Value.category, reduceCtorEq, rf_0_0, rf_0_1, rf_0_2, rf_0_3, rf_0_4, rf_0_5, rf_0_6, rf_0_7, rf_0_8, rf_0_9, rf_1_0, rf_3_2, rf_3_3, rf_3_4, rf_7_1, rf_9_0, rf_9_1, rf_60_0, rf_60_1, rf_60_3, rf_60_4, rf_60_5, rf_60_7, rf_60_8, rf_60_11, rf_69_0, rf_69_2, rf_69_3, rf_69_4, rf_69_5, rf_69_6, rf_344_0, rf_344_1, rf_344_2, rf_344_3, rf_450_2, rf_450_3, rf_450_4, rf_454_0, rf_454_1, rf_454_3, rf_454_4, rf_454_5, rf_454_7, rf_454_8, rf_454_11, sh_0, sh_1, sh_2, sh_3, sh_4, sh_5, sh_6, sh_7, sh_8, sh_9, sh_10, sh_11, sh_60, sh_61, sh_62, sh_63, sh_64, sh_65, sh_66, sh_67, sh_68, sh_69, sh_70, sh_71, sh_72, sh_73, sh_74, sh_75, sh_344, sh_345, sh_346, sh_347, sh_348, sh_449, sh_450, sh_451, sh_452, sh_453, sh_454, sh_455, sh_456, sh_457, sh_458, sh_459, sh_460, sh_461, sh_462, al_2, al_4, al_5, al_6, al_10, al_11, al_62, al_63, al_64, al_65, al_66, al_67, al_70, al_71, al_72, al_73, al_345, al_346, al_347, al_451, al_452, al_453, al_456, al_457, al_458, al_459, al_460, al_461]); (try simp (discharger := omega) only [↓ni_bI1, ↓ni_bI1o, ↓ni_bI0, ↓ni_bI0n, ↓ni_bIe, ni_bIb, Nat.reduceEqDiff, Nat.reduceLT, Nat.reduceLeDiff, Nat.reduceAdd, Nat.reduceMul, not_true_eq_false, not_false_eq_true, true_implies, false_implies, and_true, true_and, lg_cmp_eq, nI_add, pk_mul, nI_clamp, ni_le, ni_lt, ni_eq, ni_lt0, ni_0le, ni_eq0, ni_0lt, ni_le0, ni_in, ni_m9, ni_9m, up2_ne, up2_eq, up2_kn, vnar0, vnar1, Nat.add_zero, Nat.zero_add, Nat.mul_zero, List.map_nil, List.map_cons, List.sum_nil, List.sum_cons, List.append_nil, Nat.zero_le, ty3, ty4, ty5, htt, hst])
              refine ⟨fun q => absurd q (by omega), fun _ => ⟨by omega, by omega, ct_g_target hs hg' ho (by omega) (by omega) ?_⟩⟩
              cases hl : leadsO al s e with
              | none =>
                rw [hl] at h163
                have e0 : orI none (-1) = -1 := rfl
                rw [e0]
                apply C.vc (fun pc => pc == 11 || pc == 41 || pc == 51 || pc == 81 || pc == 141) 80; (simp only [↓vk kX6_matches_0, ↓vk kX6_matches_1, ↓vk kX6_matches_4, ↓vk kX6_matches_7, ↓vk kX6_matches_8, ↓vk kX6_matches_9, ↓vk kX6_matches_10, ↓vk kX6_matches_11, ↓vk kX6_matches_12, ↓vk kX6_matches_13, ↓vk kX6_matches_16, ↓vk kX6_matches_19, ↓vk kX6_matches_20, ↓vk kX6_matches_23, ↓vk kX6_matches_24, ↓vk kX6_matches_25, ↓vk kX6_matches_26, ↓vk kX6_matches_29, ↓vk kX6_matches_32, ↓vk kX6_matches_33, ↓vk kX6_matches_36, ↓vk kX6_matches_37, ↓vk kX6_matches_38, ↓vk kX6_matches_39, ↓vk kX6_matches_40, ↓vk kX6_matches_41, ↓vk kX6_matches_42, ↓vk kX6_matches_43, ↓vk kX6_matches_46, ↓vk kX6_matches_49, ↓vk kX6_matches_50, ↓vk kX6_matches_51, ↓vk kX6_matches_52, ↓vk kX6_matches_54, ↓vk kX6_matches_57, ↓vk kX6_matches_58, ↓vk kX6_matches_61, ↓vk kX6_matches_62, ↓vk kX6_matches_64, ↓vk kX6_matches_65, ↓vk kX6_matches_66, ↓vk kX6_matches_67, ↓vk kX6_matches_68, ↓vk kX6_matches_70, ↓vk kX6_matches_71, ↓vk kX6_matches_72, ↓vk kX6_matches_75, ↓vk kX6_matches_76, ↓vk kX6_matches_77, ↓vk kX6_matches_78, ↓vk kX6_matches_81, ↓vk kX6_matches_83, ↓vk kX6_matches_85, ↓vk kX6_matches_88, ↓vk kX6_matches_90, ↓vk kX6_matches_93, ↓vk kX6_matches_96, ↓vk kX6_matches_98, ↓vk kX6_matches_101, ↓vk kX6_matches_103, ↓vk kX6_matches_106, ↓vk kX6_matches_107, ↓vk kX6_matches_108, ↓vk kX6_matches_109, ↓vk kX6_matches_112, ↓vk kX6_matches_114, ↓vk kX6_matches_115, ↓vk kX6_matches_118, ↓vk kX6_matches_119, ↓vk kX6_matches_122, ↓vk kX6_matches_124, ↓vk kX6_matches_126, ↓vk kX6_matches_127, ↓vk kX6_matches_128, ↓vk kX6_matches_131, ↓vk kX6_matches_133, ↓vk kX6_matches_134, ↓vk kX6_matches_136, ↓vk kX6_matches_139, ↓vk kX6_matches_140, ↓vk kX6_matches_141, ↓vk kX6_matches_144, ↓vk kX6_matches_147, ↓vk kX6_matches_150, ↓vk kX6_matches_153, ↓vk kX6_matches_154, ↓x_aload, ↓x_callV2, ↓x_getI, ↓x_getR, ↓x_goto, ↓x_iald, ↓x_iast, ↓x_icmp, ↓x_if, ↓x_ii, ↓x_iinc, ↓x_iload, ↓x_istore, ↓x_push, ↓x_zret, ↓reduceIte, List.getElem?_cons_zero, List.getElem?_cons_succ, List.getD_cons_zero, List.getD_cons_succ, List.getD_nil, List.set_cons_zero, List.set_cons_succ, lset, lset2, isL, noD, cond_true, cond_false, if_true, if_false, Bool.false_eq_true, true_and, and_true, Nat.reduceAdd, Nat.reduceBEq, Nat.reduceSub, Nat.reduceEqDiff, Nat.reduceLT, Nat.reduceLeDiff, Bool.or_false, Bool.false_or, Bool.or_true, Bool.true_or, List.append_nil, List.nil_append, List.cons_append, Option.toList_some, Option.toList_none, lo0, List.replicate, List.length_cons, List.length_nil, muI, muL, callK, catS, List.map_cons, List.map_nil, List.sum_cons, List.sum_nil, vrf, swK, ofN, Value.category, reduceCtorEq, rf_0_0, rf_0_1, rf_0_2, rf_0_3, rf_0_4, rf_0_5, rf_0_6, rf_0_7, rf_0_8, rf_0_9, rf_1_0, rf_3_2, rf_3_3, rf_3_4, rf_7_1, rf_9_0, rf_9_1, rf_60_0, rf_60_1, rf_60_3, rf_60_4, rf_60_5, rf_60_7, rf_60_8, rf_60_11, rf_69_0, rf_69_2, rf_69_3, rf_69_4, rf_69_5, rf_69_6, rf_344_0, rf_344_1, rf_344_2, rf_344_3, rf_450_2, rf_450_3, rf_450_4, rf_454_0, rf_454_1, rf_454_3, rf_454_4, rf_454_5, rf_454_7, rf_454_8, rf_454_11, sh_0, sh_1, sh_2, sh_3, sh_4, sh_5, sh_6, sh_7, sh_8, sh_9, sh_10, sh_11, sh_60, sh_61, sh_62, sh_63, sh_64, sh_65, sh_66, sh_67, sh_68, sh_69, sh_70, sh_71, sh_72, sh_73, sh_74, sh_75, sh_344, sh_345, sh_346, sh_347, sh_348, sh_449, sh_450, sh_451, sh_452, sh_453, sh_454, sh_455, sh_456, sh_457, sh_458, sh_459, sh_460, sh_461, sh_462, al_2, al_4, al_5, al_6, al_10, al_11, al_62, al_63, al_64, al_65, al_66, al_67, al_70, al_71, al_72, al_73, al_345, al_346, al_347, al_451, al_452, al_453, al_456, al_457, al_458, al_459, al_460, al_461]); (try simp (discharger := omega) only [↓ni_bI1, ↓ni_bI1o, ↓ni_bI0, ↓ni_bI0n, ↓ni_bIe, ni_bIb, Nat.reduceEqDiff, Nat.reduceLT, Nat.reduceLeDiff, Nat.reduceAdd, Nat.reduceMul, not_true_eq_false, not_false_eq_true, true_implies, false_implies, and_true, true_and, lg_cmp_eq, nI_add, pk_mul, nI_clamp, ni_le, ni_lt, ni_eq, ni_lt0, ni_0le, ni_eq0, ni_0lt, ni_le0, ni_in, ni_m9, ni_9m, up2_ne, up2_eq, up2_kn, vnar0, vnar1, Nat.add_zero, Nat.zero_add, Nat.mul_zero, List.map_nil, List.map_cons, List.sum_nil, List.sum_cons, List.append_nil, Nat.zero_le, ty3, ty4, ty5, n0l, nl0])
                exact h163 I' _ _ kI ⟨rfl, qJ, qI, qd, qr⟩
              | some t =>
                rw [hl] at hoff
                have hq := hno (hoff rfl) I' kI
                have ht := leadsO_lt ho hl
                have e0 : orI (some t) (-1) = nI t := rfl
                rw [e0]
                apply C.vc (fun pc => pc == 11 || pc == 41 || pc == 51 || pc == 81 || pc == 141) 80; (simp only [↓vk kX6_matches_0, ↓vk kX6_matches_1, ↓vk kX6_matches_4, ↓vk kX6_matches_7, ↓vk kX6_matches_8, ↓vk kX6_matches_9, ↓vk kX6_matches_10, ↓vk kX6_matches_11, ↓vk kX6_matches_12, ↓vk kX6_matches_13, ↓vk kX6_matches_16, ↓vk kX6_matches_19, ↓vk kX6_matches_20, ↓vk kX6_matches_23, ↓vk kX6_matches_24, ↓vk kX6_matches_25, ↓vk kX6_matches_26, ↓vk kX6_matches_29, ↓vk kX6_matches_32, ↓vk kX6_matches_33, ↓vk kX6_matches_36, ↓vk kX6_matches_37, ↓vk kX6_matches_38, ↓vk kX6_matches_39, ↓vk kX6_matches_40, ↓vk kX6_matches_41, ↓vk kX6_matches_42, ↓vk kX6_matches_43, ↓vk kX6_matches_46, ↓vk kX6_matches_49, ↓vk kX6_matches_50, ↓vk kX6_matches_51, ↓vk kX6_matches_52, ↓vk kX6_matches_54, ↓vk kX6_matches_57, ↓vk kX6_matches_58, ↓vk kX6_matches_61, ↓vk kX6_matches_62, ↓vk kX6_matches_64, ↓vk kX6_matches_65, ↓vk kX6_matches_66, ↓vk kX6_matches_67, ↓vk kX6_matches_68, ↓vk kX6_matches_70, ↓vk kX6_matches_71, ↓vk kX6_matches_72, ↓vk kX6_matches_75, ↓vk kX6_matches_76, ↓vk kX6_matches_77, ↓vk kX6_matches_78, ↓vk kX6_matches_81, ↓vk kX6_matches_83, ↓vk kX6_matches_85, ↓vk kX6_matches_88, ↓vk kX6_matches_90, ↓vk kX6_matches_93, ↓vk kX6_matches_96, ↓vk kX6_matches_98, ↓vk kX6_matches_101, ↓vk kX6_matches_103, ↓vk kX6_matches_106, ↓vk kX6_matches_107, ↓vk kX6_matches_108, ↓vk kX6_matches_109, ↓vk kX6_matches_112, ↓vk kX6_matches_114, ↓vk kX6_matches_115, ↓vk kX6_matches_118, ↓vk kX6_matches_119, ↓vk kX6_matches_122, ↓vk kX6_matches_124, ↓vk kX6_matches_126, ↓vk kX6_matches_127, ↓vk kX6_matches_128, ↓vk kX6_matches_131, ↓vk kX6_matches_133, ↓vk kX6_matches_134, ↓vk kX6_matches_136, ↓vk kX6_matches_139, ↓vk kX6_matches_140, ↓vk kX6_matches_141, ↓vk kX6_matches_144, ↓vk kX6_matches_147, ↓vk kX6_matches_150, ↓vk kX6_matches_153, ↓vk kX6_matches_154, ↓x_aload, ↓x_callV2, ↓x_getI, ↓x_getR, ↓x_goto, ↓x_iald, ↓x_iast, ↓x_icmp, ↓x_if, ↓x_ii, ↓x_iinc, ↓x_iload, ↓x_istore, ↓x_push, ↓x_zret, ↓reduceIte, List.getElem?_cons_zero, List.getElem?_cons_succ, List.getD_cons_zero, List.getD_cons_succ, List.getD_nil, List.set_cons_zero, List.set_cons_succ, lset, lset2, isL, noD, cond_true, cond_false, if_true, if_false, Bool.false_eq_true, true_and, and_true, Nat.reduceAdd, Nat.reduceBEq, Nat.reduceSub, Nat.reduceEqDiff, Nat.reduceLT, Nat.reduceLeDiff, Bool.or_false, Bool.false_or, Bool.or_true, Bool.true_or, List.append_nil, List.nil_append, List.cons_append, Option.toList_some, Option.toList_none, lo0, List.replicate, List.length_cons, List.length_nil, muI, muL, callK, catS, List.map_cons, List.map_nil, List.sum_cons, List.sum_nil, vrf, swK, ofN, Value.category, reduceCtorEq, rf_0_0, rf_0_1, rf_0_2, rf_0_3, rf_0_4, rf_0_5, rf_0_6, rf_0_7, rf_0_8, rf_0_9, rf_1_0, rf_3_2, rf_3_3, rf_3_4, rf_7_1, rf_9_0, rf_9_1, rf_60_0, rf_60_1, rf_60_3, rf_60_4, rf_60_5, rf_60_7, rf_60_8, rf_60_11, rf_69_0, rf_69_2, rf_69_3, rf_69_4, rf_69_5, rf_69_6, rf_344_0, rf_344_1, rf_344_2, rf_344_3, rf_450_2, rf_450_3, rf_450_4, rf_454_0, rf_454_1, rf_454_3, rf_454_4, rf_454_5, rf_454_7, rf_454_8, rf_454_11, sh_0, sh_1, sh_2, sh_3, sh_4, sh_5, sh_6, sh_7, sh_8, sh_9, sh_10, sh_11, sh_60, sh_61, sh_62, sh_63, sh_64, sh_65, sh_66, sh_67, sh_68, sh_69, sh_70, sh_71, sh_72, sh_73, sh_74, sh_75, sh_344, sh_345, sh_346, sh_347, sh_348, sh_449, sh_450, sh_451, sh_452, sh_453, sh_454, sh_455, sh_456, sh_457, sh_458, sh_459, sh_460, sh_461, sh_462, al_2, al_4, al_5, al_6, al_10, al_11, al_62, al_63, al_64, al_65, al_66, al_67, al_70, al_71, al_72, al_73, al_345, al_346, al_347, al_451, al_452, al_453, al_456, al_457, al_458, al_459, al_460, al_461]); (try simp (discharger := omega) only [↓ni_bI1, ↓ni_bI1o, ↓ni_bI0, ↓ni_bI0n, ↓ni_bIe, ni_bIb, Nat.reduceEqDiff, Nat.reduceLT, Nat.reduceLeDiff, Nat.reduceAdd, Nat.reduceMul, not_true_eq_false, not_false_eq_true, true_implies, false_implies, and_true, true_and, lg_cmp_eq, nI_add, pk_mul, nI_clamp, ni_le, ni_lt, ni_eq, ni_lt0, ni_0le, ni_eq0, ni_0lt, ni_le0, ni_in, ni_m9, ni_9m, up2_ne, up2_eq, up2_kn, vnar0, vnar1, Nat.add_zero, Nat.zero_add, Nat.mul_zero, List.map_nil, List.map_cons, List.sum_nil, List.sum_cons, List.append_nil, Nat.zero_le, ty3, ty4, ty5, n0l, nl0])
                exact ⟨Or.inl trivial, hq⟩
            | true =>
              subst hc
              rw [if_pos rfl] at htt hoff hle1
              rw [if_pos rfl, if_pos rfl] at h163
              have hto : idxM ml x < (BF al pl).length := by
                unfold addM at hle1
                by_cases hi : idxM ml x = ml.length
                · rw [if_pos hi, List.length_append, List.length_singleton] at hle1
                  omega
                · rw [if_neg hi] at hle1
                  omega
              unfold addM at h163
              generalize idxM ml x = to at *
              apply C.vc (fun pc => pc == 11 || pc == 41 || pc == 51 || pc == 81) 80; (simp only [↓vk kX6_matches_0, ↓vk kX6_matches_1, ↓vk kX6_matches_4, ↓vk kX6_matches_7, ↓vk kX6_matches_8, ↓vk kX6_matches_9, ↓vk kX6_matches_10, ↓vk kX6_matches_11, ↓vk kX6_matches_12, ↓vk kX6_matches_13, ↓vk kX6_matches_16, ↓vk kX6_matches_19, ↓vk kX6_matches_20, ↓vk kX6_matches_23, ↓vk kX6_matches_24, ↓vk kX6_matches_25, ↓vk kX6_matches_26, ↓vk kX6_matches_29, ↓vk kX6_matches_32, ↓vk kX6_matches_33, ↓vk kX6_matches_36, ↓vk kX6_matches_37, ↓vk kX6_matches_38, ↓vk kX6_matches_39, ↓vk kX6_matches_40, ↓vk kX6_matches_41, ↓vk kX6_matches_42, ↓vk kX6_matches_43, ↓vk kX6_matches_46, ↓vk kX6_matches_49, ↓vk kX6_matches_50, ↓vk kX6_matches_51, ↓vk kX6_matches_52, ↓vk kX6_matches_54, ↓vk kX6_matches_57, ↓vk kX6_matches_58, ↓vk kX6_matches_61, ↓vk kX6_matches_62, ↓vk kX6_matches_64, ↓vk kX6_matches_65, ↓vk kX6_matches_66, ↓vk kX6_matches_67, ↓vk kX6_matches_68, ↓vk kX6_matches_70, ↓vk kX6_matches_71, ↓vk kX6_matches_72, ↓vk kX6_matches_75, ↓vk kX6_matches_76, ↓vk kX6_matches_77, ↓vk kX6_matches_78, ↓vk kX6_matches_81, ↓vk kX6_matches_83, ↓vk kX6_matches_85, ↓vk kX6_matches_88, ↓vk kX6_matches_90, ↓vk kX6_matches_93, ↓vk kX6_matches_96, ↓vk kX6_matches_98, ↓vk kX6_matches_101, ↓vk kX6_matches_103, ↓vk kX6_matches_106, ↓vk kX6_matches_107, ↓vk kX6_matches_108, ↓vk kX6_matches_109, ↓vk kX6_matches_112, ↓vk kX6_matches_114, ↓vk kX6_matches_115, ↓vk kX6_matches_118, ↓vk kX6_matches_119, ↓vk kX6_matches_122, ↓vk kX6_matches_124, ↓vk kX6_matches_126, ↓vk kX6_matches_127, ↓vk kX6_matches_128, ↓vk kX6_matches_131, ↓vk kX6_matches_133, ↓vk kX6_matches_134, ↓vk kX6_matches_136, ↓vk kX6_matches_139, ↓vk kX6_matches_140, ↓vk kX6_matches_141, ↓vk kX6_matches_144, ↓vk kX6_matches_147, ↓vk kX6_matches_150, ↓vk kX6_matches_153, ↓vk kX6_matches_154, ↓x_aload, ↓x_callV2, ↓x_getI, ↓x_getR, ↓x_goto, ↓x_iald, ↓x_iast, ↓x_icmp, ↓x_if, ↓x_ii, ↓x_iinc, ↓x_iload, ↓x_istore, ↓x_push, ↓x_zret, ↓reduceIte, List.getElem?_cons_zero, List.getElem?_cons_succ, List.getD_cons_zero, List.getD_cons_succ, List.getD_nil, List.set_cons_zero, List.set_cons_succ, lset, lset2, isL, noD, cond_true, cond_false, if_true, if_false, Bool.false_eq_true, true_and, and_true, Nat.reduceAdd, Nat.reduceBEq, Nat.reduceSub, Nat.reduceEqDiff, Nat.reduceLT, Nat.reduceLeDiff, Bool.or_false, Bool.false_or, Bool.or_true, Bool.true_or, List.append_nil, List.nil_append, List.cons_append, Option.toList_some, Option.toList_none, lo0, List.replicate, List.length_cons, List.length_nil, muI, muL, callK, catS, List.map_cons, List.map_nil, List.sum_cons, List.sum_nil, vrf, swK, ofN, Value.category, reduceCtorEq, rf_0_0, rf_0_1, rf_0_2, rf_0_3, rf_0_4, rf_0_5, rf_0_6, rf_0_7, rf_0_8, rf_0_9, rf_1_0, rf_3_2, rf_3_3, rf_3_4, rf_7_1, rf_9_0, rf_9_1, rf_60_0, rf_60_1, rf_60_3, rf_60_4, rf_60_5, rf_60_7, rf_60_8, rf_60_11, rf_69_0, rf_69_2, rf_69_3, rf_69_4, rf_69_5, rf_69_6, rf_344_0, rf_344_1, rf_344_2, rf_344_3, rf_450_2, rf_450_3, rf_450_4, rf_454_0, rf_454_1, rf_454_3, rf_454_4, rf_454_5, rf_454_7, rf_454_8, rf_454_11, sh_0, sh_1, sh_2, sh_3, sh_4, sh_5, sh_6, sh_7, sh_8, sh_9, sh_10, sh_11, sh_60, sh_61, sh_62, sh_63, sh_64, sh_65, sh_66, sh_67, sh_68, sh_69, sh_70, sh_71, sh_72, sh_73, sh_74, sh_75, sh_344, sh_345, sh_346, sh_347, sh_348, sh_449, sh_450, sh_451, sh_452, sh_453, sh_454, sh_455, sh_456, sh_457, sh_458, sh_459, sh_460, sh_461, sh_462, al_2, al_4, al_5, al_6, al_10, al_11, al_62, al_63, al_64, al_65, al_66, al_67, al_70, al_71, al_72, al_73, al_345, al_346, al_347, al_451, al_452, al_453, al_456, al_457, al_458, al_459, al_460, al_461]); (try simp (discharger := omega) only [↓ni_bI1, ↓ni_bI1o, ↓ni_bI0, ↓ni_bI0n, ↓ni_bIe, ni_bIb, Nat.reduceEqDiff, Nat.reduceLT, Nat.reduceLeDiff, Nat.reduceAdd, Nat.reduceMul, not_true_eq_false, not_false_eq_true, true_implies, false_implies, and_true, true_and, lg_cmp_eq, nI_add, pk_mul, nI_clamp, ni_le, ni_lt, ni_eq, ni_lt0, ni_0le, ni_eq0, ni_0lt, ni_le0, ni_in, ni_m9, ni_9m, up2_ne, up2_eq, up2_kn, vnar0, vnar1, Nat.add_zero, Nat.zero_add, Nat.mul_zero, List.map_nil, List.map_cons, List.sum_nil, List.sum_cons, List.append_nil, Nat.zero_le, ty3, ty4, ty5, htt, hst])
              refine ⟨fun q => absurd q (by omega), fun _ => ⟨by omega, by omega, ct_g_target hs hg' ho (by omega) (by omega) ?_⟩⟩
              cases hl : leadsO al s e with
              | none =>
                have hq := hno (hoff (fol_none hms hl)) I' kI
                have e0 : orI none (-1) = -1 := rfl
                rw [e0]
                apply C.vc (fun pc => pc == 11 || pc == 41 || pc == 51 || pc == 81 || pc == 141) 80; (simp only [↓vk kX6_matches_0, ↓vk kX6_matches_1, ↓vk kX6_matches_4, ↓vk kX6_matches_7, ↓vk kX6_matches_8, ↓vk kX6_matches_9, ↓vk kX6_matches_10, ↓vk kX6_matches_11, ↓vk kX6_matches_12, ↓vk kX6_matches_13, ↓vk kX6_matches_16, ↓vk kX6_matches_19, ↓vk kX6_matches_20, ↓vk kX6_matches_23, ↓vk kX6_matches_24, ↓vk kX6_matches_25, ↓vk kX6_matches_26, ↓vk kX6_matches_29, ↓vk kX6_matches_32, ↓vk kX6_matches_33, ↓vk kX6_matches_36, ↓vk kX6_matches_37, ↓vk kX6_matches_38, ↓vk kX6_matches_39, ↓vk kX6_matches_40, ↓vk kX6_matches_41, ↓vk kX6_matches_42, ↓vk kX6_matches_43, ↓vk kX6_matches_46, ↓vk kX6_matches_49, ↓vk kX6_matches_50, ↓vk kX6_matches_51, ↓vk kX6_matches_52, ↓vk kX6_matches_54, ↓vk kX6_matches_57, ↓vk kX6_matches_58, ↓vk kX6_matches_61, ↓vk kX6_matches_62, ↓vk kX6_matches_64, ↓vk kX6_matches_65, ↓vk kX6_matches_66, ↓vk kX6_matches_67, ↓vk kX6_matches_68, ↓vk kX6_matches_70, ↓vk kX6_matches_71, ↓vk kX6_matches_72, ↓vk kX6_matches_75, ↓vk kX6_matches_76, ↓vk kX6_matches_77, ↓vk kX6_matches_78, ↓vk kX6_matches_81, ↓vk kX6_matches_83, ↓vk kX6_matches_85, ↓vk kX6_matches_88, ↓vk kX6_matches_90, ↓vk kX6_matches_93, ↓vk kX6_matches_96, ↓vk kX6_matches_98, ↓vk kX6_matches_101, ↓vk kX6_matches_103, ↓vk kX6_matches_106, ↓vk kX6_matches_107, ↓vk kX6_matches_108, ↓vk kX6_matches_109, ↓vk kX6_matches_112, ↓vk kX6_matches_114, ↓vk kX6_matches_115, ↓vk kX6_matches_118, ↓vk kX6_matches_119, ↓vk kX6_matches_122, ↓vk kX6_matches_124, ↓vk kX6_matches_126, ↓vk kX6_matches_127, ↓vk kX6_matches_128, ↓vk kX6_matches_131, ↓vk kX6_matches_133, ↓vk kX6_matches_134, ↓vk kX6_matches_136, ↓vk kX6_matches_139, ↓vk kX6_matches_140, ↓vk kX6_matches_141, ↓vk kX6_matches_144, ↓vk kX6_matches_147, ↓vk kX6_matches_150, ↓vk kX6_matches_153, ↓vk kX6_matches_154, ↓x_aload, ↓x_callV2, ↓x_getI, ↓x_getR, ↓x_goto, ↓x_iald, ↓x_iast, ↓x_icmp, ↓x_if, ↓x_ii, ↓x_iinc, ↓x_iload, ↓x_istore, ↓x_push, ↓x_zret, ↓reduceIte, List.getElem?_cons_zero, List.getElem?_cons_succ, List.getD_cons_zero, List.getD_cons_succ, List.getD_nil, List.set_cons_zero, List.set_cons_succ, lset, lset2, isL, noD, cond_true, cond_false, if_true, if_false, Bool.false_eq_true, true_and, and_true, Nat.reduceAdd, Nat.reduceBEq, Nat.reduceSub, Nat.reduceEqDiff, Nat.reduceLT, Nat.reduceLeDiff, Bool.or_false, Bool.false_or, Bool.or_true, Bool.true_or, List.append_nil, List.nil_append, List.cons_append, Option.toList_some, Option.toList_none, lo0, List.replicate, List.length_cons, List.length_nil, muI, muL, callK, catS, List.map_cons, List.map_nil, List.sum_cons, List.sum_nil, vrf, swK, ofN, Value.category, reduceCtorEq, rf_0_0, rf_0_1, rf_0_2, rf_0_3, rf_0_4, rf_0_5, rf_0_6, rf_0_7, rf_0_8, rf_0_9, rf_1_0, rf_3_2, rf_3_3, rf_3_4, rf_7_1, rf_9_0, rf_9_1, rf_60_0, rf_60_1, rf_60_3, rf_60_4, rf_60_5, rf_60_7, rf_60_8, rf_60_11, rf_69_0, rf_69_2, rf_69_3, rf_69_4, rf_69_5, rf_69_6, rf_344_0, rf_344_1, rf_344_2, rf_344_3, rf_450_2, rf_450_3, rf_450_4, rf_454_0, rf_454_1, rf_454_3, rf_454_4, rf_454_5, rf_454_7, rf_454_8, rf_454_11, sh_0, sh_1, sh_2, sh_3, sh_4, sh_5, sh_6, sh_7, sh_8, sh_9, sh_10, sh_11, sh_60, sh_61, sh_62, sh_63, sh_64, sh_65, sh_66, sh_67, sh_68, sh_69, sh_70, sh_71, sh_72, sh_73, sh_74, sh_75, sh_344, sh_345, sh_346, sh_347, sh_348, sh_449, sh_450, sh_451, sh_452, sh_453, sh_454, sh_455, sh_456, sh_457, sh_458, sh_459, sh_460, sh_461, sh_462, al_2, al_4, al_5, al_6, al_10, al_11, al_62, al_63, al_64, al_65, al_66, al_67, al_70, al_71, al_72, al_73, al_345, al_346, al_347, al_451, al_452, al_453, al_456, al_457, al_458, al_459, al_460, al_461]); (try simp (discharger := omega) only [↓ni_bI1, ↓ni_bI1o, ↓ni_bI0, ↓ni_bI0n, ↓ni_bIe, ni_bIb, Nat.reduceEqDiff, Nat.reduceLT, Nat.reduceLeDiff, Nat.reduceAdd, Nat.reduceMul, not_true_eq_false, not_false_eq_true, true_implies, false_implies, and_true, true_and, lg_cmp_eq, nI_add, pk_mul, nI_clamp, ni_le, ni_lt, ni_eq, ni_lt0, ni_0le, ni_eq0, ni_0lt, ni_le0, ni_in, ni_m9, ni_9m, up2_ne, up2_eq, up2_kn, vnar0, vnar1, Nat.add_zero, Nat.zero_add, Nat.mul_zero, List.map_nil, List.map_cons, List.sum_nil, List.sum_cons, List.append_nil, Nat.zero_le, ty3, ty4, ty5, n0l, nl0])
                exact ⟨Or.inl trivial, hq⟩
              | some t =>
                have ht := leadsO_lt ho hl
                have e0 : orI (some t) (-1) = nI t := rfl
                rw [e0]
                rw [fol_some q1 hms hl] at h163 hoff
                have hv := qI to hto
                cases hF1 : F.2.1 to with
                | none =>
                  have hv1 : I' 347 to = -1 := by rw [hv, hF1]; rfl
                  have hF2 := hfree t hl hF1
                  have hte : to = ml.length := by
                    rcases Nat.lt_or_ge to ml.length with h | h
                    · have := qd to h
                      rw [hF1] at this
                      cases this
                    · omega
                  rw [if_pos hte, if_pos (show F.2.1 to = none ∧ F.2.2 t = none from ⟨hF1, hF2⟩)] at h163
                  have hh := h163 (up2 I' 347 to (nI t)) (some (.int (nI to))) (some (.int (nI t))) (fun i hi => by rw [up2_ne hi]; exact kI i hi) ⟨rfl, JF_upd qJ hF1 hF2 _, fun k hk => ?_, fun k hk => ?_, fun k s' hks => ?_⟩
                  · apply C.vc (fun pc => pc == 11 || pc == 41 || pc == 51 || pc == 81 || pc == 141) 80; (simp only [↓vk kX6_matches_0, ↓vk kX6_matches_1, ↓vk kX6_matches_4, ↓vk kX6_matches_7, ↓vk kX6_matches_8, ↓vk kX6_matches_9, ↓vk kX6_matches_10, ↓vk kX6_matches_11, ↓vk kX6_matches_12, ↓vk kX6_matches_13, ↓vk kX6_matches_16, ↓vk kX6_matches_19, ↓vk kX6_matches_20, ↓vk kX6_matches_23, ↓vk kX6_matches_24, ↓vk kX6_matches_25, ↓vk kX6_matches_26, ↓vk kX6_matches_29, ↓vk kX6_matches_32, ↓vk kX6_matches_33, ↓vk kX6_matches_36, ↓vk kX6_matches_37, ↓vk kX6_matches_38, ↓vk kX6_matches_39, ↓vk kX6_matches_40, ↓vk kX6_matches_41, ↓vk kX6_matches_42, ↓vk kX6_matches_43, ↓vk kX6_matches_46, ↓vk kX6_matches_49, ↓vk kX6_matches_50, ↓vk kX6_matches_51, ↓vk kX6_matches_52, ↓vk kX6_matches_54, ↓vk kX6_matches_57, ↓vk kX6_matches_58, ↓vk kX6_matches_61, ↓vk kX6_matches_62, ↓vk kX6_matches_64, ↓vk kX6_matches_65, ↓vk kX6_matches_66, ↓vk kX6_matches_67, ↓vk kX6_matches_68, ↓vk kX6_matches_70, ↓vk kX6_matches_71, ↓vk kX6_matches_72, ↓vk kX6_matches_75, ↓vk kX6_matches_76, ↓vk kX6_matches_77, ↓vk kX6_matches_78, ↓vk kX6_matches_81, ↓vk kX6_matches_83, ↓vk kX6_matches_85, ↓vk kX6_matches_88, ↓vk kX6_matches_90, ↓vk kX6_matches_93, ↓vk kX6_matches_96, ↓vk kX6_matches_98, ↓vk kX6_matches_101, ↓vk kX6_matches_103, ↓vk kX6_matches_106, ↓vk kX6_matches_107, ↓vk kX6_matches_108, ↓vk kX6_matches_109, ↓vk kX6_matches_112, ↓vk kX6_matches_114, ↓vk kX6_matches_115, ↓vk kX6_matches_118, ↓vk kX6_matches_119, ↓vk kX6_matches_122, ↓vk kX6_matches_124, ↓vk kX6_matches_126, ↓vk kX6_matches_127, ↓vk kX6_matches_128, ↓vk kX6_matches_131, ↓vk kX6_matches_133, ↓vk kX6_matches_134, ↓vk kX6_matches_136, ↓vk kX6_matches_139, ↓vk kX6_matches_140, ↓vk kX6_matches_141, ↓vk kX6_matches_144, ↓vk kX6_matches_147, ↓vk kX6_matches_150, ↓vk kX6_matches_153, ↓vk kX6_matches_154, ↓x_aload, ↓x_callV2, ↓x_getI, ↓x_getR, ↓x_goto, ↓x_iald, ↓x_iast, ↓x_icmp, ↓x_if, ↓x_ii, ↓x_iinc, ↓x_iload, ↓x_istore, ↓x_push, ↓x_zret, ↓reduceIte, List.getElem?_cons_zero, List.getElem?_cons_succ, List.getD_cons_zero, List.getD_cons_succ, List.getD_nil, List.set_cons_zero, List.set_cons_succ, lset, lset2, isL, noD, cond_true, cond_false, if_true, if_false, Bool.false_eq_true, true_and, and_true, Nat.reduceAdd, Nat.reduceBEq, Nat.reduceSub, Nat.reduceEqDiff, Nat.reduceLT, Nat.reduceLeDiff, Bool.or_false, Bool.false_or, Bool.or_true, Bool.true_or, List.append_nil, List.nil_append, List.cons_append, Option.toList_some, Option.toList_none, lo0, List.replicate, List.length_cons, List.length_nil, muI, muL, callK, catS, List.map_cons, List.map_nil, List.sum_cons, List.sum_nil, vrf, swK, ofN, Value.category, reduceCtorEq, rf_0_0, rf_0_1, rf_0_2, rf_0_3, rf_0_4, rf_0_5, rf_0_6, rf_0_7, rf_0_8, rf_0_9, rf_1_0, rf_3_2, rf_3_3, rf_3_4, rf_7_1, rf_9_0, rf_9_1, rf_60_0, rf_60_1, rf_60_3, rf_60_4, rf_60_5, rf_60_7, rf_60_8, rf_60_11, rf_69_0, rf_69_2, rf_69_3, rf_69_4, rf_69_5, rf_69_6, rf_344_0, rf_344_1, rf_344_2, rf_344_3, rf_450_2, rf_450_3, rf_450_4, rf_454_0, rf_454_1, rf_454_3, rf_454_4, rf_454_5, rf_454_7, rf_454_8, rf_454_11, sh_0, sh_1, sh_2, sh_3, sh_4, sh_5, sh_6, sh_7, sh_8, sh_9, sh_10, sh_11, sh_60, sh_61, sh_62, sh_63, sh_64, sh_65, sh_66, sh_67, sh_68, sh_69, sh_70, sh_71, sh_72, sh_73, sh_74, sh_75, sh_344, sh_345, sh_346, sh_347, sh_348, sh_449, sh_450, sh_451, sh_452, sh_453, sh_454, sh_455, sh_456, sh_457, sh_458, sh_459, sh_460, sh_461, sh_462, al_2, al_4, al_5, al_6, al_10, al_11, al_62, al_63, al_64, al_65, al_66, al_67, al_70, al_71, al_72, al_73, al_345, al_346, al_347, al_451, al_452, al_453, al_456, al_457, al_458, al_459, al_460, al_461]); (try simp (discharger := omega) only [↓ni_bI1, ↓ni_bI1o, ↓ni_bI0, ↓ni_bI0n, ↓ni_bIe, ni_bIb, Nat.reduceEqDiff, Nat.reduceLT, Nat.reduceLeDiff, Nat.reduceAdd, Nat.reduceMul, not_true_eq_false, not_false_eq_true, true_implies, false_implies, and_true, true_and, lg_cmp_eq, nI_add, pk_mul, nI_clamp, ni_le, ni_lt, ni_eq, ni_lt0, ni_0le, ni_eq0, ni_0lt, ni_le0, ni_in, ni_m9, ni_9m, up2_ne, up2_eq, up2_kn, vnar0, vnar1, Nat.add_zero, Nat.zero_add, Nat.mul_zero, List.map_nil, List.map_cons, List.sum_nil, List.sum_cons, List.append_nil, Nat.zero_le, ty3, ty4, ty5, n0l, nl0, hv1])
                    exact ⟨by omega, by omega, by omega, hh⟩
                  · show up2 I' 347 to (nI t) 347 k = orI (if k = to then some t else F.2.1 k) (-1)
                    by_cases hkt : k = to
                    · rw [if_pos hkt, hkt, up2_eq]; rfl
                    · rw [if_neg hkt, up2_kn hkt]; exact qI k hk
                  · show (if k = to then some t else F.2.1 k).isSome = true
                    by_cases hkt : k = to
                    · rw [if_pos hkt]; rfl
                    · rw [if_neg hkt]
                      rw [List.length_append, List.length_singleton] at hk
                      exact qd k (by omega)
                  · have hks2 : (if k = to then some t else F.2.1 k) = some s' := hks
                    rw [List.length_append, List.length_singleton]
                    by_cases hkt : k = to
                    · rw [if_pos hkt] at hks2
                      have hts := Option.some.inj hks2
                      rw [← hts, hkt, hte, getE_end]
                      exact ⟨ht, by omega, hMt t hl⟩
                    · rw [if_neg hkt] at hks2
                      obtain ⟨r1, r2, r3⟩ := qr k s' hks2
                      exact ⟨r1, by omega, by rw [getD_app r2]; exact r3⟩
                | some t2 =>
                  obtain ⟨ht2, htl, -⟩ := qr to t2 hF1
                  have hv1 : I' 347 to = nI t2 := by rw [hv, hF1]; rfl
                  rw [if_neg (show ¬ to = ml.length by omega)] at h163
                  rw [if_neg (show ¬ (F.2.1 to = none ∧ F.2.2 t = none) from fun q => by have := q.1; rw [hF1] at this; cases this), hF1] at hoff h163
                  by_cases htt2 : t2 = t
                  · subst htt2
                    have hg2 := (qJ to t2).mp hF1
                    rw [hg2] at h163
                    have e3 : ((some t2 == some t2) && (some to == some to)) = true := by simp
                    rw [e3] at h163
                    have hh := h163 I' (some (.int (nI to))) (some (.int (nI t2))) kI ⟨rfl, qJ, qI, qd, qr⟩
                    apply C.vc (fun pc => pc == 11 || pc == 41 || pc == 51 || pc == 81 || pc == 141) 80; (simp only [↓vk kX6_matches_0, ↓vk kX6_matches_1, ↓vk kX6_matches_4, ↓vk kX6_matches_7, ↓vk kX6_matches_8, ↓vk kX6_matches_9, ↓vk kX6_matches_10, ↓vk kX6_matches_11, ↓vk kX6_matches_12, ↓vk kX6_matches_13, ↓vk kX6_matches_16, ↓vk kX6_matches_19, ↓vk kX6_matches_20, ↓vk kX6_matches_23, ↓vk kX6_matches_24, ↓vk kX6_matches_25, ↓vk kX6_matches_26, ↓vk kX6_matches_29, ↓vk kX6_matches_32, ↓vk kX6_matches_33, ↓vk kX6_matches_36, ↓vk kX6_matches_37, ↓vk kX6_matches_38, ↓vk kX6_matches_39, ↓vk kX6_matches_40, ↓vk kX6_matches_41, ↓vk kX6_matches_42, ↓vk kX6_matches_43, ↓vk kX6_matches_46, ↓vk kX6_matches_49, ↓vk kX6_matches_50, ↓vk kX6_matches_51, ↓vk kX6_matches_52, ↓vk kX6_matches_54, ↓vk kX6_matches_57, ↓vk kX6_matches_58, ↓vk kX6_matches_61, ↓vk kX6_matches_62, ↓vk kX6_matches_64, ↓vk kX6_matches_65, ↓vk kX6_matches_66, ↓vk kX6_matches_67, ↓vk kX6_matches_68, ↓vk kX6_matches_70, ↓vk kX6_matches_71, ↓vk kX6_matches_72, ↓vk kX6_matches_75, ↓vk kX6_matches_76, ↓vk kX6_matches_77, ↓vk kX6_matches_78, ↓vk kX6_matches_81, ↓vk kX6_matches_83, ↓vk kX6_matches_85, ↓vk kX6_matches_88, ↓vk kX6_matches_90, ↓vk kX6_matches_93, ↓vk kX6_matches_96, ↓vk kX6_matches_98, ↓vk kX6_matches_101, ↓vk kX6_matches_103, ↓vk kX6_matches_106, ↓vk kX6_matches_107, ↓vk kX6_matches_108, ↓vk kX6_matches_109, ↓vk kX6_matches_112, ↓vk kX6_matches_114, ↓vk kX6_matches_115, ↓vk kX6_matches_118, ↓vk kX6_matches_119, ↓vk kX6_matches_122, ↓vk kX6_matches_124, ↓vk kX6_matches_126, ↓vk kX6_matches_127, ↓vk kX6_matches_128, ↓vk kX6_matches_131, ↓vk kX6_matches_133, ↓vk kX6_matches_134, ↓vk kX6_matches_136, ↓vk kX6_matches_139, ↓vk kX6_matches_140, ↓vk kX6_matches_141, ↓vk kX6_matches_144, ↓vk kX6_matches_147, ↓vk kX6_matches_150, ↓vk kX6_matches_153, ↓vk kX6_matches_154, ↓x_aload, ↓x_callV2, ↓x_getI, ↓x_getR, ↓x_goto, ↓x_iald, ↓x_iast, ↓x_icmp, ↓x_if, ↓x_ii, ↓x_iinc, ↓x_iload, ↓x_istore, ↓x_push, ↓x_zret, ↓reduceIte, List.getElem?_cons_zero, List.getElem?_cons_succ, List.getD_cons_zero, List.getD_cons_succ, List.getD_nil, List.set_cons_zero, List.set_cons_succ, lset, lset2, isL, noD, cond_true, cond_false, if_true, if_false, Bool.false_eq_true, true_and, and_true, Nat.reduceAdd, Nat.reduceBEq, Nat.reduceSub, Nat.reduceEqDiff, Nat.reduceLT, Nat.reduceLeDiff, Bool.or_false, Bool.false_or, Bool.or_true, Bool.true_or, List.append_nil, List.nil_append, List.cons_append, Option.toList_some, Option.toList_none, lo0, List.replicate, List.length_cons, List.length_nil, muI, muL, callK, catS, List.map_cons, List.map_nil, List.sum_cons, List.sum_nil, vrf, swK, ofN, Value.category, reduceCtorEq, rf_0_0, rf_0_1, rf_0_2, rf_0_3, rf_0_4, rf_0_5, rf_0_6, rf_0_7, rf_0_8, rf_0_9, rf_1_0, rf_3_2, rf_3_3, rf_3_4, rf_7_1, rf_9_0, rf_9_1, rf_60_0, rf_60_1, rf_60_3, rf_60_4, rf_60_5, rf_60_7, rf_60_8, rf_60_11, rf_69_0, rf_69_2, rf_69_3, rf_69_4, rf_69_5, rf_69_6, rf_344_0, rf_344_1, rf_344_2, rf_344_3, rf_450_2, rf_450_3, rf_450_4, rf_454_0, rf_454_1, rf_454_3, rf_454_4, rf_454_5, rf_454_7, rf_454_8, rf_454_11, sh_0, sh_1, sh_2, sh_3, sh_4, sh_5, sh_6, sh_7, sh_8, sh_9, sh_10, sh_11, sh_60, sh_61, sh_62, sh_63, sh_64, sh_65, sh_66, sh_67, sh_68, sh_69, sh_70, sh_71, sh_72, sh_73, sh_74, sh_75, sh_344, sh_345, sh_346, sh_347, sh_348, sh_449, sh_450, sh_451, sh_452, sh_453, sh_454, sh_455, sh_456, sh_457, sh_458, sh_459, sh_460, sh_461, sh_462, al_2, al_4, al_5, al_6, al_10, al_11, al_62, al_63, al_64, al_65, al_66, al_67, al_70, al_71, al_72, al_73, al_345, al_346, al_347, al_451, al_452, al_453, al_456, al_457, al_458, al_459, al_460, al_461]); (try simp (discharger := omega) only [↓ni_bI1, ↓ni_bI1o, ↓ni_bI0, ↓ni_bI0n, ↓ni_bIe, ni_bIb, Nat.reduceEqDiff, Nat.reduceLT, Nat.reduceLeDiff, Nat.reduceAdd, Nat.reduceMul, not_true_eq_false, not_false_eq_true, true_implies, false_implies, and_true, true_and, lg_cmp_eq, nI_add, pk_mul, nI_clamp, ni_le, ni_lt, ni_eq, ni_lt0, ni_0le, ni_eq0, ni_0lt, ni_le0, ni_in, ni_m9, ni_9m, up2_ne, up2_eq, up2_kn, vnar0, vnar1, Nat.add_zero, Nat.zero_add, Nat.mul_zero, List.map_nil, List.map_cons, List.sum_nil, List.sum_cons, List.append_nil, Nat.zero_le, ty3, ty4, ty5, n0l, nl0, hv1])
                    exact ⟨by omega, by omega, hh⟩
                  · have e3 : (some t2 == some t) = false := by simp [htt2]
                    rw [e3] at hoff
                    have hq := hno (hoff rfl) I' kI
                    apply C.vc (fun pc => pc == 11 || pc == 41 || pc == 51 || pc == 81 || pc == 141) 80; (simp only [↓vk kX6_matches_0, ↓vk kX6_matches_1, ↓vk kX6_matches_4, ↓vk kX6_matches_7, ↓vk kX6_matches_8, ↓vk kX6_matches_9, ↓vk kX6_matches_10, ↓vk kX6_matches_11, ↓vk kX6_matches_12, ↓vk kX6_matches_13, ↓vk kX6_matches_16, ↓vk kX6_matches_19, ↓vk kX6_matches_20, ↓vk kX6_matches_23, ↓vk kX6_matches_24, ↓vk kX6_matches_25, ↓vk kX6_matches_26, ↓vk kX6_matches_29, ↓vk kX6_matches_32, ↓vk kX6_matches_33, ↓vk kX6_matches_36, ↓vk kX6_matches_37, ↓vk kX6_matches_38, ↓vk kX6_matches_39, ↓vk kX6_matches_40, ↓vk kX6_matches_41, ↓vk kX6_matches_42, ↓vk kX6_matches_43, ↓vk kX6_matches_46, ↓vk kX6_matches_49, ↓vk kX6_matches_50, ↓vk kX6_matches_51, ↓vk kX6_matches_52, ↓vk kX6_matches_54, ↓vk kX6_matches_57, ↓vk kX6_matches_58, ↓vk kX6_matches_61, ↓vk kX6_matches_62, ↓vk kX6_matches_64, ↓vk kX6_matches_65, ↓vk kX6_matches_66, ↓vk kX6_matches_67, ↓vk kX6_matches_68, ↓vk kX6_matches_70, ↓vk kX6_matches_71, ↓vk kX6_matches_72, ↓vk kX6_matches_75, ↓vk kX6_matches_76, ↓vk kX6_matches_77, ↓vk kX6_matches_78, ↓vk kX6_matches_81, ↓vk kX6_matches_83, ↓vk kX6_matches_85, ↓vk kX6_matches_88, ↓vk kX6_matches_90, ↓vk kX6_matches_93, ↓vk kX6_matches_96, ↓vk kX6_matches_98, ↓vk kX6_matches_101, ↓vk kX6_matches_103, ↓vk kX6_matches_106, ↓vk kX6_matches_107, ↓vk kX6_matches_108, ↓vk kX6_matches_109, ↓vk kX6_matches_112, ↓vk kX6_matches_114, ↓vk kX6_matches_115, ↓vk kX6_matches_118, ↓vk kX6_matches_119, ↓vk kX6_matches_122, ↓vk kX6_matches_124, ↓vk kX6_matches_126, ↓vk kX6_matches_127, ↓vk kX6_matches_128, ↓vk kX6_matches_131, ↓vk kX6_matches_133, ↓vk kX6_matches_134, ↓vk kX6_matches_136, ↓vk kX6_matches_139, ↓vk kX6_matches_140, ↓vk kX6_matches_141, ↓vk kX6_matches_144, ↓vk kX6_matches_147, ↓vk kX6_matches_150, ↓vk kX6_matches_153, ↓vk kX6_matches_154, ↓x_aload, ↓x_callV2, ↓x_getI, ↓x_getR, ↓x_goto, ↓x_iald, ↓x_iast, ↓x_icmp, ↓x_if, ↓x_ii, ↓x_iinc, ↓x_iload, ↓x_istore, ↓x_push, ↓x_zret, ↓reduceIte, List.getElem?_cons_zero, List.getElem?_cons_succ, List.getD_cons_zero, List.getD_cons_succ, List.getD_nil, List.set_cons_zero, List.set_cons_succ, lset, lset2, isL, noD, cond_true, cond_false, if_true, if_false, Bool.false_eq_true, true_and, and_true, Nat.reduceAdd, Nat.reduceBEq, Nat.reduceSub, Nat.reduceEqDiff, Nat.reduceLT, Nat.reduceLeDiff, Bool.or_false, Bool.false_or, Bool.or_true, Bool.true_or, List.append_nil, List.nil_append, List.cons_append, Option.toList_some, Option.toList_none, lo0, List.replicate, List.length_cons, List.length_nil, muI, muL, callK, catS, List.map_cons, List.map_nil, List.sum_cons, List.sum_nil, vrf, swK, ofN, Value.category, reduceCtorEq, rf_0_0, rf_0_1, rf_0_2, rf_0_3, rf_0_4, rf_0_5, rf_0_6, rf_0_7, rf_0_8, rf_0_9, rf_1_0, rf_3_2, rf_3_3, rf_3_4, rf_7_1, rf_9_0, rf_9_1, rf_60_0, rf_60_1, rf_60_3, rf_60_4, rf_60_5, rf_60_7, rf_60_8, rf_60_11, rf_69_0, rf_69_2, rf_69_3, rf_69_4, rf_69_5, rf_69_6, rf_344_0, rf_344_1, rf_344_2, rf_344_3, rf_450_2, rf_450_3, rf_450_4, rf_454_0, rf_454_1, rf_454_3, rf_454_4, rf_454_5, rf_454_7, rf_454_8, rf_454_11, sh_0, sh_1, sh_2, sh_3, sh_4, sh_5, sh_6, sh_7, sh_8, sh_9, sh_10, sh_11, sh_60, sh_61, sh_62, sh_63, sh_64, sh_65, sh_66, sh_67, sh_68, sh_69, sh_70, sh_71, sh_72, sh_73, sh_74, sh_75, sh_344, sh_345, sh_346, sh_347, sh_348, sh_449, sh_450, sh_451, sh_452, sh_453, sh_454, sh_455, sh_456, sh_457, sh_458, sh_459, sh_460, sh_461, sh_462, al_2, al_4, al_5, al_6, al_10, al_11, al_62, al_63, al_64, al_65, al_66, al_67, al_70, al_71, al_72, al_73, al_345, al_346, al_347, al_451, al_452, al_453, al_456, al_457, al_458, al_459, al_460, al_461]); (try simp (discharger := omega) only [↓ni_bI1, ↓ni_bI1o, ↓ni_bI0, ↓ni_bI0n, ↓ni_bIe, ni_bIb, Nat.reduceEqDiff, Nat.reduceLT, Nat.reduceLeDiff, Nat.reduceAdd, Nat.reduceMul, not_true_eq_false, not_false_eq_true, true_implies, false_implies, and_true, true_and, lg_cmp_eq, nI_add, pk_mul, nI_clamp, ni_le, ni_lt, ni_eq, ni_lt0, ni_0le, ni_eq0, ni_0lt, ni_le0, ni_in, ni_m9, ni_9m, up2_ne, up2_eq, up2_kn, vnar0, vnar1, Nat.add_zero, Nat.zero_add, Nat.mul_zero, List.map_nil, List.map_cons, List.sum_nil, List.sum_cons, List.append_nil, Nat.zero_le, ty3, ty4, ty5, n0l, nl0, hv1])
                    exact ⟨by omega, by omega, fun q => absurd q htt2, fun _ => ⟨Or.inl trivial, hq⟩⟩
          · have he : e = 8 := by omega
            subst he
            rw [hbs, hFs] at next
            have nx := next I' kI hK
            apply C.vc (fun pc => pc == 11 || pc == 41 || pc == 51 || pc == 57 || pc == 81) 80; (simp only [↓vk kX6_matches_0, ↓vk kX6_matches_1, ↓vk kX6_matches_4, ↓vk kX6_matches_7, ↓vk kX6_matches_8, ↓vk kX6_matches_9, ↓vk kX6_matches_10, ↓vk kX6_matches_11, ↓vk kX6_matches_12, ↓vk kX6_matches_13, ↓vk kX6_matches_16, ↓vk kX6_matches_19, ↓vk kX6_matches_20, ↓vk kX6_matches_23, ↓vk kX6_matches_24, ↓vk kX6_matches_25, ↓vk kX6_matches_26, ↓vk kX6_matches_29, ↓vk kX6_matches_32, ↓vk kX6_matches_33, ↓vk kX6_matches_36, ↓vk kX6_matches_37, ↓vk kX6_matches_38, ↓vk kX6_matches_39, ↓vk kX6_matches_40, ↓vk kX6_matches_41, ↓vk kX6_matches_42, ↓vk kX6_matches_43, ↓vk kX6_matches_46, ↓vk kX6_matches_49, ↓vk kX6_matches_50, ↓vk kX6_matches_51, ↓vk kX6_matches_52, ↓vk kX6_matches_54, ↓vk kX6_matches_57, ↓vk kX6_matches_58, ↓vk kX6_matches_61, ↓vk kX6_matches_62, ↓vk kX6_matches_64, ↓vk kX6_matches_65, ↓vk kX6_matches_66, ↓vk kX6_matches_67, ↓vk kX6_matches_68, ↓vk kX6_matches_70, ↓vk kX6_matches_71, ↓vk kX6_matches_72, ↓vk kX6_matches_75, ↓vk kX6_matches_76, ↓vk kX6_matches_77, ↓vk kX6_matches_78, ↓vk kX6_matches_81, ↓vk kX6_matches_83, ↓vk kX6_matches_85, ↓vk kX6_matches_88, ↓vk kX6_matches_90, ↓vk kX6_matches_93, ↓vk kX6_matches_96, ↓vk kX6_matches_98, ↓vk kX6_matches_101, ↓vk kX6_matches_103, ↓vk kX6_matches_106, ↓vk kX6_matches_107, ↓vk kX6_matches_108, ↓vk kX6_matches_109, ↓vk kX6_matches_112, ↓vk kX6_matches_114, ↓vk kX6_matches_115, ↓vk kX6_matches_118, ↓vk kX6_matches_119, ↓vk kX6_matches_122, ↓vk kX6_matches_124, ↓vk kX6_matches_126, ↓vk kX6_matches_127, ↓vk kX6_matches_128, ↓vk kX6_matches_131, ↓vk kX6_matches_133, ↓vk kX6_matches_134, ↓vk kX6_matches_136, ↓vk kX6_matches_139, ↓vk kX6_matches_140, ↓vk kX6_matches_141, ↓vk kX6_matches_144, ↓vk kX6_matches_147, ↓vk kX6_matches_150, ↓vk kX6_matches_153, ↓vk kX6_matches_154, ↓x_aload, ↓x_callV2, ↓x_getI, ↓x_getR, ↓x_goto, ↓x_iald, ↓x_iast, ↓x_icmp, ↓x_if, ↓x_ii, ↓x_iinc, ↓x_iload, ↓x_istore, ↓x_push, ↓x_zret, ↓reduceIte, List.getElem?_cons_zero, List.getElem?_cons_succ, List.getD_cons_zero, List.getD_cons_succ, List.getD_nil, List.set_cons_zero, List.set_cons_succ, lset, lset2, isL, noD, cond_true, cond_false, if_true, if_false, Bool.false_eq_true, true_and, and_true, Nat.reduceAdd, Nat.reduceBEq, Nat.reduceSub, Nat.reduceEqDiff, Nat.reduceLT, Nat.reduceLeDiff, Bool.or_false, Bool.false_or, Bool.or_true, Bool.true_or, List.append_nil, List.nil_append, List.cons_append, Option.toList_some, Option.toList_none, lo0, List.replicate, List.length_cons, List.length_nil, muI, muL, callK, catS, List.map_cons, List.map_nil, List.sum_cons, List.sum_nil, vrf, swK, ofN, Value.category, reduceCtorEq, rf_0_0, rf_0_1, rf_0_2, rf_0_3, rf_0_4, rf_0_5, rf_0_6, rf_0_7, rf_0_8, rf_0_9, rf_1_0, rf_3_2, rf_3_3, rf_3_4, rf_7_1, rf_9_0, rf_9_1, rf_60_0, rf_60_1, rf_60_3, rf_60_4, rf_60_5, rf_60_7, rf_60_8, rf_60_11, rf_69_0, rf_69_2, rf_69_3, rf_69_4, rf_69_5, rf_69_6, rf_344_0, rf_344_1, rf_344_2, rf_344_3, rf_450_2, rf_450_3, rf_450_4, rf_454_0, rf_454_1, rf_454_3, rf_454_4, rf_454_5, rf_454_7, rf_454_8, rf_454_11, sh_0, sh_1, sh_2, sh_3, sh_4, sh_5, sh_6, sh_7, sh_8, sh_9, sh_10, sh_11, sh_60, sh_61, sh_62, sh_63, sh_64, sh_65, sh_66, sh_67, sh_68, sh_69, sh_70, sh_71, sh_72, sh_73, sh_74, sh_75, sh_344, sh_345, sh_346, sh_347, sh_348, sh_449, sh_450, sh_451, sh_452, sh_453, sh_454, sh_455, sh_456, sh_457, sh_458, sh_459, sh_460, sh_461, sh_462, al_2, al_4, al_5, al_6, al_10, al_11, al_62, al_63, al_64, al_65, al_66, al_67, al_70, al_71, al_72, al_73, al_345, al_346, al_347, al_451, al_452, al_453, al_456, al_457, al_458, al_459, al_460, al_461]); (try simp (discharger := omega) only [↓ni_bI1, ↓ni_bI1o, ↓ni_bI0, ↓ni_bI0n, ↓ni_bIe, ni_bIb, Nat.reduceEqDiff, Nat.reduceLT, Nat.reduceLeDiff, Nat.reduceAdd, Nat.reduceMul, not_true_eq_false, not_false_eq_true, true_implies, false_implies, and_true, true_and, lg_cmp_eq, nI_add, pk_mul, nI_clamp, ni_le, ni_lt, ni_eq, ni_lt0, ni_0le, ni_eq0, ni_0lt, ni_le0, ni_in, ni_m9, ni_9m, up2_ne, up2_eq, up2_kn, vnar0, vnar1, Nat.add_zero, Nat.zero_add, Nat.mul_zero, List.map_nil, List.map_cons, List.sum_nil, List.sum_cons, List.append_nil, Nat.zero_le, ty3, ty4, ty5])
            exact W.le nx (by simp only [leO, and_self])
        have i0 := inner 0 (by omega) I' kI hK
        apply C.vc (fun pc => pc == 11 || pc == 41 || pc == 51 || pc == 81 || pc == 153) 80; (simp only [↓vk kX6_matches_0, ↓vk kX6_matches_1, ↓vk kX6_matches_4, ↓vk kX6_matches_7, ↓vk kX6_matches_8, ↓vk kX6_matches_9, ↓vk kX6_matches_10, ↓vk kX6_matches_11, ↓vk kX6_matches_12, ↓vk kX6_matches_13, ↓vk kX6_matches_16, ↓vk kX6_matches_19, ↓vk kX6_matches_20, ↓vk kX6_matches_23, ↓vk kX6_matches_24, ↓vk kX6_matches_25, ↓vk kX6_matches_26, ↓vk kX6_matches_29, ↓vk kX6_matches_32, ↓vk kX6_matches_33, ↓vk kX6_matches_36, ↓vk kX6_matches_37, ↓vk kX6_matches_38, ↓vk kX6_matches_39, ↓vk kX6_matches_40, ↓vk kX6_matches_41, ↓vk kX6_matches_42, ↓vk kX6_matches_43, ↓vk kX6_matches_46, ↓vk kX6_matches_49, ↓vk kX6_matches_50, ↓vk kX6_matches_51, ↓vk kX6_matches_52, ↓vk kX6_matches_54, ↓vk kX6_matches_57, ↓vk kX6_matches_58, ↓vk kX6_matches_61, ↓vk kX6_matches_62, ↓vk kX6_matches_64, ↓vk kX6_matches_65, ↓vk kX6_matches_66, ↓vk kX6_matches_67, ↓vk kX6_matches_68, ↓vk kX6_matches_70, ↓vk kX6_matches_71, ↓vk kX6_matches_72, ↓vk kX6_matches_75, ↓vk kX6_matches_76, ↓vk kX6_matches_77, ↓vk kX6_matches_78, ↓vk kX6_matches_81, ↓vk kX6_matches_83, ↓vk kX6_matches_85, ↓vk kX6_matches_88, ↓vk kX6_matches_90, ↓vk kX6_matches_93, ↓vk kX6_matches_96, ↓vk kX6_matches_98, ↓vk kX6_matches_101, ↓vk kX6_matches_103, ↓vk kX6_matches_106, ↓vk kX6_matches_107, ↓vk kX6_matches_108, ↓vk kX6_matches_109, ↓vk kX6_matches_112, ↓vk kX6_matches_114, ↓vk kX6_matches_115, ↓vk kX6_matches_118, ↓vk kX6_matches_119, ↓vk kX6_matches_122, ↓vk kX6_matches_124, ↓vk kX6_matches_126, ↓vk kX6_matches_127, ↓vk kX6_matches_128, ↓vk kX6_matches_131, ↓vk kX6_matches_133, ↓vk kX6_matches_134, ↓vk kX6_matches_136, ↓vk kX6_matches_139, ↓vk kX6_matches_140, ↓vk kX6_matches_141, ↓vk kX6_matches_144, ↓vk kX6_matches_147, ↓vk kX6_matches_150, ↓vk kX6_matches_153, ↓vk kX6_matches_154, ↓x_aload, ↓x_callV2, ↓x_getI, ↓x_getR, ↓x_goto, ↓x_iald, ↓x_iast, ↓x_icmp, ↓x_if, ↓x_ii, ↓x_iinc, ↓x_iload, ↓x_istore, ↓x_push, ↓x_zret, ↓reduceIte, List.getElem?_cons_zero, List.getElem?_cons_succ, List.getD_cons_zero, List.getD_cons_succ, List.getD_nil, List.set_cons_zero, List.set_cons_succ, lset, lset2, isL, noD, cond_true, cond_false, if_true, if_false, Bool.false_eq_true, true_and, and_true, Nat.reduceAdd, Nat.reduceBEq, Nat.reduceSub, Nat.reduceEqDiff, Nat.reduceLT, Nat.reduceLeDiff, Bool.or_false, Bool.false_or, Bool.or_true, Bool.true_or, List.append_nil, List.nil_append, List.cons_append, Option.toList_some, Option.toList_none, lo0, List.replicate, List.length_cons, List.length_nil, muI, muL, callK, catS, List.map_cons, List.map_nil, List.sum_cons, List.sum_nil, vrf, swK, ofN, Value.category, reduceCtorEq, rf_0_0, rf_0_1, rf_0_2, rf_0_3, rf_0_4, rf_0_5, rf_0_6, rf_0_7, rf_0_8, rf_0_9, rf_1_0, rf_3_2, rf_3_3, rf_3_4, rf_7_1, rf_9_0, rf_9_1, rf_60_0, rf_60_1, rf_60_3, rf_60_4, rf_60_5, rf_60_7, rf_60_8, rf_60_11, rf_69_0, rf_69_2, rf_69_3, rf_69_4, rf_69_5, rf_69_6, rf_344_0, rf_344_1, rf_344_2, rf_344_3, rf_450_2, rf_450_3, rf_450_4, rf_454_0, rf_454_1, rf_454_3, rf_454_4, rf_454_5, rf_454_7, rf_454_8, rf_454_11, sh_0, sh_1, sh_2, sh_3, sh_4, sh_5, sh_6, sh_7, sh_8, sh_9, sh_10, sh_11, sh_60, sh_61, sh_62, sh_63, sh_64, sh_65, sh_66, sh_67, sh_68, sh_69, sh_70, sh_71, sh_72, sh_73, sh_74, sh_75, sh_344, sh_345, sh_346, sh_347, sh_348, sh_449, sh_450, sh_451, sh_452, sh_453, sh_454, sh_455, sh_456, sh_457, sh_458, sh_459, sh_460, sh_461, sh_462, al_2, al_4, al_5, al_6, al_10, al_11, al_62, al_63, al_64, al_65, al_66, al_67, al_70, al_71, al_72, al_73, al_345, al_346, al_347, al_451, al_452, al_453, al_456, al_457, al_458, al_459, al_460, al_461]); (try simp (discharger := omega) only [↓ni_bI1, ↓ni_bI1o, ↓ni_bI0, ↓ni_bI0n, ↓ni_bIe, ni_bIb, Nat.reduceEqDiff, Nat.reduceLT, Nat.reduceLeDiff, Nat.reduceAdd, Nat.reduceMul, not_true_eq_false, not_false_eq_true, true_implies, false_implies, and_true, true_and, lg_cmp_eq, nI_add, pk_mul, nI_clamp, ni_le, ni_lt, ni_eq, ni_lt0, ni_0le, ni_eq0, ni_0lt, ni_le0, ni_in, ni_m9, ni_9m, up2_ne, up2_eq, up2_kn, vnar0, vnar1, Nat.add_zero, Nat.zero_add, Nat.mul_zero, List.map_nil, List.map_cons, List.sum_nil, List.sum_cons, List.append_nil, Nat.zero_le, ty3, ty4, ty5, h4'])
        exact ⟨fun q => absurd q (by omega), fun _ => i0⟩
      · have hme : m = (BF al pl).length := by omega
        have hst : FTo al pl 100 = FTo al pl m := by
          by_cases h100 : m = 100
          · rw [h100]
          · rcases Nat.lt_or_ge m (bfsTo al pl m).length with h | h
            · obtain ⟨t, ht⟩ := bfsTo_pre al pl m (100 - m)
              rw [show m + (100 - m) = 100 by omega] at ht
              have : (BF al pl).length = (bfsTo al pl m).length + t.length := by unfold BF; rw [ht, List.length_append]
              omega
            · obtain ⟨-, -, -, b4⟩ := bfs_stop h (100 - m)
              rwa [show m + (100 - m) = 100 by omega] at b4
        have hq := hyes (by rw [hst]; exact hK.1) I' kI
        apply C.vc (fun pc => pc == 11 || pc == 41 || pc == 49 || pc == 51 || pc == 81) 80; (simp only [↓vk kX6_matches_0, ↓vk kX6_matches_1, ↓vk kX6_matches_4, ↓vk kX6_matches_7, ↓vk kX6_matches_8, ↓vk kX6_matches_9, ↓vk kX6_matches_10, ↓vk kX6_matches_11, ↓vk kX6_matches_12, ↓vk kX6_matches_13, ↓vk kX6_matches_16, ↓vk kX6_matches_19, ↓vk kX6_matches_20, ↓vk kX6_matches_23, ↓vk kX6_matches_24, ↓vk kX6_matches_25, ↓vk kX6_matches_26, ↓vk kX6_matches_29, ↓vk kX6_matches_32, ↓vk kX6_matches_33, ↓vk kX6_matches_36, ↓vk kX6_matches_37, ↓vk kX6_matches_38, ↓vk kX6_matches_39, ↓vk kX6_matches_40, ↓vk kX6_matches_41, ↓vk kX6_matches_42, ↓vk kX6_matches_43, ↓vk kX6_matches_46, ↓vk kX6_matches_49, ↓vk kX6_matches_50, ↓vk kX6_matches_51, ↓vk kX6_matches_52, ↓vk kX6_matches_54, ↓vk kX6_matches_57, ↓vk kX6_matches_58, ↓vk kX6_matches_61, ↓vk kX6_matches_62, ↓vk kX6_matches_64, ↓vk kX6_matches_65, ↓vk kX6_matches_66, ↓vk kX6_matches_67, ↓vk kX6_matches_68, ↓vk kX6_matches_70, ↓vk kX6_matches_71, ↓vk kX6_matches_72, ↓vk kX6_matches_75, ↓vk kX6_matches_76, ↓vk kX6_matches_77, ↓vk kX6_matches_78, ↓vk kX6_matches_81, ↓vk kX6_matches_83, ↓vk kX6_matches_85, ↓vk kX6_matches_88, ↓vk kX6_matches_90, ↓vk kX6_matches_93, ↓vk kX6_matches_96, ↓vk kX6_matches_98, ↓vk kX6_matches_101, ↓vk kX6_matches_103, ↓vk kX6_matches_106, ↓vk kX6_matches_107, ↓vk kX6_matches_108, ↓vk kX6_matches_109, ↓vk kX6_matches_112, ↓vk kX6_matches_114, ↓vk kX6_matches_115, ↓vk kX6_matches_118, ↓vk kX6_matches_119, ↓vk kX6_matches_122, ↓vk kX6_matches_124, ↓vk kX6_matches_126, ↓vk kX6_matches_127, ↓vk kX6_matches_128, ↓vk kX6_matches_131, ↓vk kX6_matches_133, ↓vk kX6_matches_134, ↓vk kX6_matches_136, ↓vk kX6_matches_139, ↓vk kX6_matches_140, ↓vk kX6_matches_141, ↓vk kX6_matches_144, ↓vk kX6_matches_147, ↓vk kX6_matches_150, ↓vk kX6_matches_153, ↓vk kX6_matches_154, ↓x_aload, ↓x_callV2, ↓x_getI, ↓x_getR, ↓x_goto, ↓x_iald, ↓x_iast, ↓x_icmp, ↓x_if, ↓x_ii, ↓x_iinc, ↓x_iload, ↓x_istore, ↓x_push, ↓x_zret, ↓reduceIte, List.getElem?_cons_zero, List.getElem?_cons_succ, List.getD_cons_zero, List.getD_cons_succ, List.getD_nil, List.set_cons_zero, List.set_cons_succ, lset, lset2, isL, noD, cond_true, cond_false, if_true, if_false, Bool.false_eq_true, true_and, and_true, Nat.reduceAdd, Nat.reduceBEq, Nat.reduceSub, Nat.reduceEqDiff, Nat.reduceLT, Nat.reduceLeDiff, Bool.or_false, Bool.false_or, Bool.or_true, Bool.true_or, List.append_nil, List.nil_append, List.cons_append, Option.toList_some, Option.toList_none, lo0, List.replicate, List.length_cons, List.length_nil, muI, muL, callK, catS, List.map_cons, List.map_nil, List.sum_cons, List.sum_nil, vrf, swK, ofN, Value.category, reduceCtorEq, rf_0_0, rf_0_1, rf_0_2, rf_0_3, rf_0_4, rf_0_5, rf_0_6, rf_0_7, rf_0_8, rf_0_9, rf_1_0, rf_3_2, rf_3_3, rf_3_4, rf_7_1, rf_9_0, rf_9_1, rf_60_0, rf_60_1, rf_60_3, rf_60_4, rf_60_5, rf_60_7, rf_60_8, rf_60_11, rf_69_0, rf_69_2, rf_69_3, rf_69_4, rf_69_5, rf_69_6, rf_344_0, rf_344_1, rf_344_2, rf_344_3, rf_450_2, rf_450_3, rf_450_4, rf_454_0, rf_454_1, rf_454_3, rf_454_4, rf_454_5, rf_454_7, rf_454_8, rf_454_11, sh_0, sh_1, sh_2, sh_3, sh_4, sh_5, sh_6, sh_7, sh_8, sh_9, sh_10, sh_11, sh_60, sh_61, sh_62, sh_63, sh_64, sh_65, sh_66, sh_67, sh_68, sh_69, sh_70, sh_71, sh_72, sh_73, sh_74, sh_75, sh_344, sh_345, sh_346, sh_347, sh_348, sh_449, sh_450, sh_451, sh_452, sh_453, sh_454, sh_455, sh_456, sh_457, sh_458, sh_459, sh_460, sh_461, sh_462, al_2, al_4, al_5, al_6, al_10, al_11, al_62, al_63, al_64, al_65, al_66, al_67, al_70, al_71, al_72, al_73, al_345, al_346, al_347, al_451, al_452, al_453, al_456, al_457, al_458, al_459, al_460, al_461]); (try simp (discharger := omega) only [↓ni_bI1, ↓ni_bI1o, ↓ni_bI0, ↓ni_bI0n, ↓ni_bIe, ni_bIb, Nat.reduceEqDiff, Nat.reduceLT, Nat.reduceLeDiff, Nat.reduceAdd, Nat.reduceMul, not_true_eq_false, not_false_eq_true, true_implies, false_implies, and_true, true_and, lg_cmp_eq, nI_add, pk_mul, nI_clamp, ni_le, ni_lt, ni_eq, ni_lt0, ni_0le, ni_eq0, ni_0lt, ni_le0, ni_in, ni_m9, ni_9m, up2_ne, up2_eq, up2_kn, vnar0, vnar1, Nat.add_zero, Nat.zero_add, Nat.mul_zero, List.map_nil, List.map_cons, List.sum_nil, List.sum_cons, List.append_nil, Nat.zero_le, ty3, ty4, ty5, h4'])
        exact ⟨fun _ => ⟨Or.inr rfl, hq⟩, fun q => absurd (show (BF al pl).length ≤ m by omega) q⟩
    have fill : ∀ k, k ≤ (BF al pl).length → ∀ I', (∀ i, i ≠ 347 → I' i = I i) → (∀ j, j < k → I' 347 j = -1) → A 11 [some (.ref 344), some (.ref 3), some (.int (nI k)), none, none, none] [] (mk I' L) := by
      refine down fun k hk ih I' kI hF => ?_
      have h4' : I' 344 4 = nI (BF al pl).length := by rw [kI 344 (by omega)]; exact h4
      apply C.vc (fun pc => pc == 11 || pc == 41 || pc == 51 || pc == 81) 80; (simp only [↓vk kX6_matches_0, ↓vk kX6_matches_1, ↓vk kX6_matches_4, ↓vk kX6_matches_7, ↓vk kX6_matches_8, ↓vk kX6_matches_9, ↓vk kX6_matches_10, ↓vk kX6_matches_11, ↓vk kX6_matches_12, ↓vk kX6_matches_13, ↓vk kX6_matches_16, ↓vk kX6_matches_19, ↓vk kX6_matches_20, ↓vk kX6_matches_23, ↓vk kX6_matches_24, ↓vk kX6_matches_25, ↓vk kX6_matches_26, ↓vk kX6_matches_29, ↓vk kX6_matches_32, ↓vk kX6_matches_33, ↓vk kX6_matches_36, ↓vk kX6_matches_37, ↓vk kX6_matches_38, ↓vk kX6_matches_39, ↓vk kX6_matches_40, ↓vk kX6_matches_41, ↓vk kX6_matches_42, ↓vk kX6_matches_43, ↓vk kX6_matches_46, ↓vk kX6_matches_49, ↓vk kX6_matches_50, ↓vk kX6_matches_51, ↓vk kX6_matches_52, ↓vk kX6_matches_54, ↓vk kX6_matches_57, ↓vk kX6_matches_58, ↓vk kX6_matches_61, ↓vk kX6_matches_62, ↓vk kX6_matches_64, ↓vk kX6_matches_65, ↓vk kX6_matches_66, ↓vk kX6_matches_67, ↓vk kX6_matches_68, ↓vk kX6_matches_70, ↓vk kX6_matches_71, ↓vk kX6_matches_72, ↓vk kX6_matches_75, ↓vk kX6_matches_76, ↓vk kX6_matches_77, ↓vk kX6_matches_78, ↓vk kX6_matches_81, ↓vk kX6_matches_83, ↓vk kX6_matches_85, ↓vk kX6_matches_88, ↓vk kX6_matches_90, ↓vk kX6_matches_93, ↓vk kX6_matches_96, ↓vk kX6_matches_98, ↓vk kX6_matches_101, ↓vk kX6_matches_103, ↓vk kX6_matches_106, ↓vk kX6_matches_107, ↓vk kX6_matches_108, ↓vk kX6_matches_109, ↓vk kX6_matches_112, ↓vk kX6_matches_114, ↓vk kX6_matches_115, ↓vk kX6_matches_118, ↓vk kX6_matches_119, ↓vk kX6_matches_122, ↓vk kX6_matches_124, ↓vk kX6_matches_126, ↓vk kX6_matches_127, ↓vk kX6_matches_128, ↓vk kX6_matches_131, ↓vk kX6_matches_133, ↓vk kX6_matches_134, ↓vk kX6_matches_136, ↓vk kX6_matches_139, ↓vk kX6_matches_140, ↓vk kX6_matches_141, ↓vk kX6_matches_144, ↓vk kX6_matches_147, ↓vk kX6_matches_150, ↓vk kX6_matches_153, ↓vk kX6_matches_154, ↓x_aload, ↓x_callV2, ↓x_getI, ↓x_getR, ↓x_goto, ↓x_iald, ↓x_iast, ↓x_icmp, ↓x_if, ↓x_ii, ↓x_iinc, ↓x_iload, ↓x_istore, ↓x_push, ↓x_zret, ↓reduceIte, List.getElem?_cons_zero, List.getElem?_cons_succ, List.getD_cons_zero, List.getD_cons_succ, List.getD_nil, List.set_cons_zero, List.set_cons_succ, lset, lset2, isL, noD, cond_true, cond_false, if_true, if_false, Bool.false_eq_true, true_and, and_true, Nat.reduceAdd, Nat.reduceBEq, Nat.reduceSub, Nat.reduceEqDiff, Nat.reduceLT, Nat.reduceLeDiff, Bool.or_false, Bool.false_or, Bool.or_true, Bool.true_or, List.append_nil, List.nil_append, List.cons_append, Option.toList_some, Option.toList_none, lo0, List.replicate, List.length_cons, List.length_nil, muI, muL, callK, catS, List.map_cons, List.map_nil, List.sum_cons, List.sum_nil, vrf, swK, ofN, Value.category, reduceCtorEq, rf_0_0, rf_0_1, rf_0_2, rf_0_3, rf_0_4, rf_0_5, rf_0_6, rf_0_7, rf_0_8, rf_0_9, rf_1_0, rf_3_2, rf_3_3, rf_3_4, rf_7_1, rf_9_0, rf_9_1, rf_60_0, rf_60_1, rf_60_3, rf_60_4, rf_60_5, rf_60_7, rf_60_8, rf_60_11, rf_69_0, rf_69_2, rf_69_3, rf_69_4, rf_69_5, rf_69_6, rf_344_0, rf_344_1, rf_344_2, rf_344_3, rf_450_2, rf_450_3, rf_450_4, rf_454_0, rf_454_1, rf_454_3, rf_454_4, rf_454_5, rf_454_7, rf_454_8, rf_454_11, sh_0, sh_1, sh_2, sh_3, sh_4, sh_5, sh_6, sh_7, sh_8, sh_9, sh_10, sh_11, sh_60, sh_61, sh_62, sh_63, sh_64, sh_65, sh_66, sh_67, sh_68, sh_69, sh_70, sh_71, sh_72, sh_73, sh_74, sh_75, sh_344, sh_345, sh_346, sh_347, sh_348, sh_449, sh_450, sh_451, sh_452, sh_453, sh_454, sh_455, sh_456, sh_457, sh_458, sh_459, sh_460, sh_461, sh_462, al_2, al_4, al_5, al_6, al_10, al_11, al_62, al_63, al_64, al_65, al_66, al_67, al_70, al_71, al_72, al_73, al_345, al_346, al_347, al_451, al_452, al_453, al_456, al_457, al_458, al_459, al_460, al_461]); (try simp (discharger := omega) only [↓ni_bI1, ↓ni_bI1o, ↓ni_bI0, ↓ni_bI0n, ↓ni_bIe, ni_bIb, Nat.reduceEqDiff, Nat.reduceLT, Nat.reduceLeDiff, Nat.reduceAdd, Nat.reduceMul, not_true_eq_false, not_false_eq_true, true_implies, false_implies, and_true, true_and, lg_cmp_eq, nI_add, pk_mul, nI_clamp, ni_le, ni_lt, ni_eq, ni_lt0, ni_0le, ni_eq0, ni_0lt, ni_le0, ni_in, ni_m9, ni_9m, up2_ne, up2_eq, up2_kn, vnar0, vnar1, Nat.add_zero, Nat.zero_add, Nat.mul_zero, List.map_nil, List.map_cons, List.sum_nil, List.sum_cons, List.append_nil, Nat.zero_le, ty3, ty4, ty5, h4'])
      refine ⟨fun q => ?_, fun q => ⟨by omega, ih (by omega) _ (fun i hi => by rw [up2_ne hi]; exact kI i hi) (fun j hj => ?_)⟩⟩
      · have hb1 : (bfsTo al pl 0).length ≤ (BF al pl).length := by
          obtain ⟨t, ht⟩ := bfsTo_pre al pl 0 100
          rw [Nat.zero_add] at ht
          unfold BF
          rw [ht, List.length_append]
          exact Nat.le_add_right _ _
        have hb0 : (bfsTo al pl 0).length = 1 := rfl
        refine main 0 (by omega) _ (fun i hi => by rw [up2_ne hi]; exact kI i hi) ⟨rfl, JF0, fun j hj => ?_, fun j hj => ?_, fun j s hjs => ?_⟩
        · show up2 I' 347 0 (nI 0) 347 j = orI (if j = 0 then some 0 else none) (-1)
          by_cases hj0 : j = 0
          · rw [hj0, up2_eq]; rfl
          · rw [up2_kn hj0, if_neg hj0, hF j (by omega)]; rfl
        · have hj0 : j = 0 := by omega
          rw [hj0]; rfl
        · have hjs2 : (if j = 0 then some 0 else none) = some s := hjs
          by_cases hj0 : j = 0
          · rw [if_pos hj0] at hjs2
            have hs0 := Option.some.inj hjs2
            rw [← hs0, hj0]
            exact ⟨by omega, by omega, MS_init hpl⟩
          · rw [if_neg hj0] at hjs2
            cases hjs2
      · by_cases hjk : j = k
        · rw [hjk, up2_eq]
        · rw [up2_kn hjk]; exact hF j (by omega)
    apply C.vc (fun pc => pc == 11 || pc == 41 || pc == 51 || pc == 81) 80; (simp only [↓vk kX6_matches_0, ↓vk kX6_matches_1, ↓vk kX6_matches_4, ↓vk kX6_matches_7, ↓vk kX6_matches_8, ↓vk kX6_matches_9, ↓vk kX6_matches_10, ↓vk kX6_matches_11, ↓vk kX6_matches_12, ↓vk kX6_matches_13, ↓vk kX6_matches_16, ↓vk kX6_matches_19, ↓vk kX6_matches_20, ↓vk kX6_matches_23, ↓vk kX6_matches_24, ↓vk kX6_matches_25, ↓vk kX6_matches_26, ↓vk kX6_matches_29, ↓vk kX6_matches_32, ↓vk kX6_matches_33, ↓vk kX6_matches_36, ↓vk kX6_matches_37, ↓vk kX6_matches_38, ↓vk kX6_matches_39, ↓vk kX6_matches_40, ↓vk kX6_matches_41, ↓vk kX6_matches_42, ↓vk kX6_matches_43, ↓vk kX6_matches_46, ↓vk kX6_matches_49, ↓vk kX6_matches_50, ↓vk kX6_matches_51, ↓vk kX6_matches_52, ↓vk kX6_matches_54, ↓vk kX6_matches_57, ↓vk kX6_matches_58, ↓vk kX6_matches_61, ↓vk kX6_matches_62, ↓vk kX6_matches_64, ↓vk kX6_matches_65, ↓vk kX6_matches_66, ↓vk kX6_matches_67, ↓vk kX6_matches_68, ↓vk kX6_matches_70, ↓vk kX6_matches_71, ↓vk kX6_matches_72, ↓vk kX6_matches_75, ↓vk kX6_matches_76, ↓vk kX6_matches_77, ↓vk kX6_matches_78, ↓vk kX6_matches_81, ↓vk kX6_matches_83, ↓vk kX6_matches_85, ↓vk kX6_matches_88, ↓vk kX6_matches_90, ↓vk kX6_matches_93, ↓vk kX6_matches_96, ↓vk kX6_matches_98, ↓vk kX6_matches_101, ↓vk kX6_matches_103, ↓vk kX6_matches_106, ↓vk kX6_matches_107, ↓vk kX6_matches_108, ↓vk kX6_matches_109, ↓vk kX6_matches_112, ↓vk kX6_matches_114, ↓vk kX6_matches_115, ↓vk kX6_matches_118, ↓vk kX6_matches_119, ↓vk kX6_matches_122, ↓vk kX6_matches_124, ↓vk kX6_matches_126, ↓vk kX6_matches_127, ↓vk kX6_matches_128, ↓vk kX6_matches_131, ↓vk kX6_matches_133, ↓vk kX6_matches_134, ↓vk kX6_matches_136, ↓vk kX6_matches_139, ↓vk kX6_matches_140, ↓vk kX6_matches_141, ↓vk kX6_matches_144, ↓vk kX6_matches_147, ↓vk kX6_matches_150, ↓vk kX6_matches_153, ↓vk kX6_matches_154, ↓x_aload, ↓x_callV2, ↓x_getI, ↓x_getR, ↓x_goto, ↓x_iald, ↓x_iast, ↓x_icmp, ↓x_if, ↓x_ii, ↓x_iinc, ↓x_iload, ↓x_istore, ↓x_push, ↓x_zret, ↓reduceIte, List.getElem?_cons_zero, List.getElem?_cons_succ, List.getD_cons_zero, List.getD_cons_succ, List.getD_nil, List.set_cons_zero, List.set_cons_succ, lset, lset2, isL, noD, cond_true, cond_false, if_true, if_false, Bool.false_eq_true, true_and, and_true, Nat.reduceAdd, Nat.reduceBEq, Nat.reduceSub, Nat.reduceEqDiff, Nat.reduceLT, Nat.reduceLeDiff, Bool.or_false, Bool.false_or, Bool.or_true, Bool.true_or, List.append_nil, List.nil_append, List.cons_append, Option.toList_some, Option.toList_none, lo0, List.replicate, List.length_cons, List.length_nil, muI, muL, callK, catS, List.map_cons, List.map_nil, List.sum_cons, List.sum_nil, vrf, swK, ofN, Value.category, reduceCtorEq, rf_0_0, rf_0_1, rf_0_2, rf_0_3, rf_0_4, rf_0_5, rf_0_6, rf_0_7, rf_0_8, rf_0_9, rf_1_0, rf_3_2, rf_3_3, rf_3_4, rf_7_1, rf_9_0, rf_9_1, rf_60_0, rf_60_1, rf_60_3, rf_60_4, rf_60_5, rf_60_7, rf_60_8, rf_60_11, rf_69_0, rf_69_2, rf_69_3, rf_69_4, rf_69_5, rf_69_6, rf_344_0, rf_344_1, rf_344_2, rf_344_3, rf_450_2, rf_450_3, rf_450_4, rf_454_0, rf_454_1, rf_454_3, rf_454_4, rf_454_5, rf_454_7, rf_454_8, rf_454_11, sh_0, sh_1, sh_2, sh_3, sh_4, sh_5, sh_6, sh_7, sh_8, sh_9, sh_10, sh_11, sh_60, sh_61, sh_62, sh_63, sh_64, sh_65, sh_66, sh_67, sh_68, sh_69, sh_70, sh_71, sh_72, sh_73, sh_74, sh_75, sh_344, sh_345, sh_346, sh_347, sh_348, sh_449, sh_450, sh_451, sh_452, sh_453, sh_454, sh_455, sh_456, sh_457, sh_458, sh_459, sh_460, sh_461, sh_462, al_2, al_4, al_5, al_6, al_10, al_11, al_62, al_63, al_64, al_65, al_66, al_67, al_70, al_71, al_72, al_73, al_345, al_346, al_347, al_451, al_452, al_453, al_456, al_457, al_458, al_459, al_460, al_461]); (try simp (discharger := omega) only [↓ni_bI1, ↓ni_bI1o, ↓ni_bI0, ↓ni_bI0n, ↓ni_bIe, ni_bIb, Nat.reduceEqDiff, Nat.reduceLT, Nat.reduceLeDiff, Nat.reduceAdd, Nat.reduceMul, not_true_eq_false, not_false_eq_true, true_implies, false_implies, and_true, true_and, lg_cmp_eq, nI_add, pk_mul, nI_clamp, ni_le, ni_lt, ni_eq, ni_lt0, ni_0le, ni_eq0, ni_0lt, ni_le0, ni_in, ni_m9, ni_9m, up2_ne, up2_eq, up2_kn, vnar0, vnar1, Nat.add_zero, Nat.zero_add, Nat.mul_zero, List.map_nil, List.map_cons, List.sum_nil, List.sum_cons, List.append_nil, Nat.zero_le, ty3, ty4, ty5, h7])
    exact fill 0 (by omega) I (fun _ _ => rfl) (fun j hj => absurd hj (Nat.not_lt_zero _))
end SX3

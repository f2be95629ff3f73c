/-! the class: how events cross a set -/
def mTo (p : Arc → Bool) (al : List Arc) : Nat → Nat
  | 0 => 0
  | k + 1 => if p (arc al k) = true then mTo p al k ||| 1 * 2 ^ (arc al k).2.1 else mTo p al k
def pEn (set : Nat) (x : Arc) : Bool := !set.testBit x.1 && set.testBit x.2.2
def pEx (set : Nat) (x : Arc) : Bool := set.testBit x.1 && !set.testBit x.2.2
def pSt (set : Nat) (x : Arc) : Bool := set.testBit x.1 == set.testBit x.2.2
theorem mTo_lt (p : Arc → Bool) {al : List Arc} (ho : AOK al) : ∀ k, k ≤ al.length → mTo p al k < 256
  | 0, _ => by show 0 < 256; omega
  | k + 1, hk => by
    have ih := mTo_lt p ho k (by omega)
    have ha := (ho.at (show k < al.length by omega)).2.1
    have hp : 2 ^ (arc al k).2.1 ≤ 2 ^ 7 := Nat.pow_le_pow_right (by omega) (by omega)
    unfold mTo
    split
    · exact Nat.or_lt_two_pow (n := 8) ih (by omega)
    · exact ih
theorem mTo_bit (p : Arc → Bool) {al : List Arc} (e : Nat) : ∀ k, k ≤ al.length → (mTo p al k).testBit e = (al.take k).any (fun x => p x && (x.2.1 == e))
  | 0, _ => by simp [mTo]
  | k + 1, hk => by
    have ih := mTo_bit p (al := al) e k (by omega)
    rw [take_arc (by omega), List.any_append, ← ih]
    simp only [List.any_cons, List.any_nil, Bool.or_false]
    show (if p (arc al k) = true then mTo p al k ||| 1 * 2 ^ (arc al k).2.1 else mTo p al k).testBit e = _
    by_cases hp : p (arc al k) = true
    · rw [if_pos hp, Nat.testBit_or, Nat.one_mul, Nat.testBit_two_pow, hp, Bool.true_and]
      rfl
    · rw [if_neg hp, Bool.eq_false_iff.mpr hp, Bool.false_and, Bool.or_false]
theorem mTo_mono (p : Arc → Bool) {al : List Arc} {e k : Nat} : ∀ j, (mTo p al k).testBit e = true → (mTo p al (k + j)).testBit e = true
  | 0, h => h
  | j + 1, h => by
    have ih := mTo_mono p j h
    show (mTo p al (k + j + 1)).testBit e = true
    unfold mTo
    split
    · rw [Nat.testBit_or, ih]; rfl
    · exact ih
def mxd (a b c : Nat) : Nat := (a &&& b ||| a &&& c) ||| b &&& c
def mxk (al : List Arc) (set k : Nat) : Nat := mxd (mTo (pEn set) al k) (mTo (pEx set) al k) (mTo (pSt set) al k)
theorem mxd_bit (a b c e : Nat) : (mxd a b c).testBit e = ((a.testBit e && b.testBit e || a.testBit e && c.testBit e) || b.testBit e && c.testBit e) := by
  unfold mxd
  rw [Nat.testBit_or, Nat.testBit_or, Nat.testBit_and, Nat.testBit_and, Nat.testBit_and]
theorem mxk_lt {al : List Arc} (ho : AOK al) (set : Nat) {k : Nat} (hk : k ≤ al.length) : mxk al set k < 256 := by
  have h1 := mTo_lt (pEn set) ho k hk
  have h2 := mTo_lt (pEx set) ho k hk
  have h3 : mTo (pEn set) al k &&& mTo (pEx set) al k < 2 ^ 8 := Nat.lt_of_le_of_lt Nat.and_le_left h1
  have h4 : mTo (pEn set) al k &&& mTo (pSt set) al k < 2 ^ 8 := Nat.lt_of_le_of_lt Nat.and_le_left h1
  have h5 : mTo (pEx set) al k &&& mTo (pSt set) al k < 2 ^ 8 := Nat.lt_of_le_of_lt Nat.and_le_left h2
  exact Nat.or_lt_two_pow (n := 8) (Nat.or_lt_two_pow (n := 8) h3 h4) h5
theorem mxk_mono {al : List Arc} {set k : Nat} (h : mxk al set k ≠ 0) (j : Nat) : mxk al set (k + j) ≠ 0 := by
  intro h0
  apply h
  apply Nat.eq_of_testBit_eq
  intro e
  have h1 : (mxk al set (k + j)).testBit e = false := by rw [h0]; exact Nat.zero_testBit e
  rw [Nat.zero_testBit]
  unfold mxk at h1 ⊢
  rw [mxd_bit] at h1 ⊢
  have a := mTo_mono (pEn set) (al := al) (e := e) (k := k) j
  have b := mTo_mono (pEx set) (al := al) (e := e) (k := k) j
  have c := mTo_mono (pSt set) (al := al) (e := e) (k := k) j
  generalize (mTo (pEn set) al k).testBit e = u1 at *
  generalize (mTo (pEx set) al k).testBit e = u2 at *
  generalize (mTo (pSt set) al k).testBit e = u3 at *
  generalize (mTo (pEn set) al (k + j)).testBit e = v1 at *
  generalize (mTo (pEx set) al (k + j)).testBit e = v2 at *
  generalize (mTo (pSt set) al (k + j)).testBit e = v3 at *
  cases u1 <;> cases u2 <;> cases u3 <;> simp_all
def anE (p : Arc → Bool) (al : List Arc) (e : Nat) : Bool := al.any (fun x => p x && (x.2.1 == e))
theorem cr_any (set e : Nat) : ∀ al : List Arc, crE al set e = (!(anE (pEx set) al e) && !(anE (pSt set) al e)) ∧ crX al set e = (!(anE (pEn set) al e) && !(anE (pSt set) al e)) ∧ crN al set e = (!(anE (pEn set) al e) && !(anE (pEx set) al e))
  | [] => ⟨rfl, rfl, rfl⟩
  | x :: al => by
    obtain ⟨h1, h2, h3⟩ := cr_any set e al
    unfold crE crX crN anE at *
    simp only [List.all_cons, List.any_cons]
    rw [h1, h2, h3]
    unfold pEn pEx pSt
    generalize set.testBit x.1 = a
    generalize set.testBit x.2.2 = b
    generalize (x.2.1 == e) = c
    generalize al.any (fun x => (!set.testBit x.1 && set.testBit x.2.2) && (x.2.1 == e)) = u
    generalize al.any (fun x => (set.testBit x.1 && !set.testBit x.2.2) && (x.2.1 == e)) = v
    generalize al.any (fun x => (set.testBit x.1 == set.testBit x.2.2) && (x.2.1 == e)) = w
    cases a <;> cases b <;> cases c <;> cases u <;> cases v <;> cases w <;> decide
theorem crossM_any (al : List Arc) (set e : Nat) : crossM al set e = if ((anE (pEn set) al e && anE (pEx set) al e || anE (pEn set) al e && anE (pSt set) al e) || anE (pEx set) al e && anE (pSt set) al e) = true then 3 else if anE (pEn set) al e = true then 1 else if anE (pEx set) al e = true then 2 else 0 := by
  obtain ⟨h1, h2, h3⟩ := cr_any set e al
  unfold crossM
  rw [h1, h2, h3]
  generalize anE (pEn set) al e = u
  generalize anE (pEx set) al e = v
  generalize anE (pSt set) al e = w
  cases u <;> cases v <;> cases w <;> decide
theorem mTo_an (p : Arc → Bool) (al : List Arc) (e : Nat) : (mTo p al al.length).testBit e = anE p al e := by
  rw [mTo_bit p e al.length (Nat.le_refl _), List.take_of_length_le (Nat.le_refl _)]
  rfl
theorem mxk_cross (al : List Arc) (set e : Nat) : (mxk al set al.length).testBit e = decide (crossM al set e = 3) := by
  unfold mxk
  rw [mxd_bit, mTo_an, mTo_an, mTo_an, crossM_any]
  generalize anE (pEn set) al e = u
  generalize anE (pEx set) al e = v
  generalize anE (pSt set) al e = w
  cases u <;> cases v <;> cases w <;> decide
theorem reg_mx {al : List Arc} (ho : AOK al) (set : Nat) : isRegB al set = decide (mxk al set al.length = 0) := by
  by_cases h : mxk al set al.length = 0
  · rw [decide_eq_true h]
    unfold isRegB
    rw [List.all_eq_true]
    intro e he
    have h1 := mxk_cross al set e
    rw [h, Nat.zero_testBit] at h1
    have h2 := crossM_le al set e
    have h3 := of_decide_eq_false h1.symm
    exact decide_eq_true (by omega)
  · rw [decide_eq_false h]
    refine Bool.eq_false_iff.mpr fun hr => h ?_
    apply Nat.eq_of_testBit_eq
    intro e
    rw [Nat.zero_testBit, mxk_cross]
    by_cases he : e < 8
    · unfold isRegB at hr
      have := of_decide_eq_true (List.all_eq_true.mp hr e (List.mem_range.mpr he))
      exact decide_eq_false (by omega)
    · have h1 : (mxk al set al.length).testBit e = false := Nat.testBit_lt_two_pow (Nat.lt_of_lt_of_le (mxk_lt ho set (Nat.le_refl _)) (Nat.pow_le_pow_right (n := 2) (by omega) (show 8 ≤ e by omega)))
      rw [mxk_cross] at h1
      exact h1
/-- of a region -/
theorem reg_en {al : List Arc} {set : Nat} (ho : AOK al) (hr : isRegB al set = true) (e : Nat) : (mTo (pEn set) al al.length).testBit e = decide (crossM al set e = 1) ∧ (mTo (pEx set) al al.length).testBit e = decide (crossM al set e = 2) := by
  rw [reg_mx ho] at hr
  have h0 := of_decide_eq_true hr
  have h1 := mxk_cross al set e
  rw [h0, Nat.zero_testBit] at h1
  rw [mTo_an, mTo_an]
  have h2 := crossM_any al set e
  rw [h2] at h1 ⊢
  generalize anE (pEn set) al e = u at *
  generalize anE (pEx set) al e = v at *
  generalize anE (pSt set) al e = w at *
  cases u <;> cases v <;> cases w <;> simp_all
theorem evMask_bit (al : List Arc) (r w e : Nat) : ∀ k, (evMask al r w k).testBit e = (decide (e < k) && decide (crossM al r e = w))
  | 0 => by simp [evMask]
  | k + 1 => by
    unfold evMask
    rw [Nat.testBit_or, evMask_bit al r w e k]
    by_cases hc : crossM al r k = w
    · rw [if_pos hc, Nat.one_mul, Nat.testBit_two_pow]
      by_cases hk : k = e
      · subst hk; simp [hc]
      · by_cases h1 : e < k
        · simp [h1, hk, show e < k + 1 by omega]
        · simp [h1, hk, show ¬ e < k + 1 by omega]
    · rw [if_neg hc, Nat.zero_testBit, Bool.or_false]
      by_cases hk : k = e
      · subst hk; simp [hc]
      · by_cases h1 : e < k
        · simp [h1, show e < k + 1 by omega]
        · simp [h1, show ¬ e < k + 1 by omega]
theorem reg_mask {al : List Arc} {set : Nat} (ho : AOK al) (hr : isRegB al set = true) : mTo (pEn set) al al.length = evMask al set 1 8 ∧ mTo (pEx set) al al.length = evMask al set 2 8 := by
  have key : ∀ (p : Arc → Bool) (w : Nat), (∀ e, (mTo p al al.length).testBit e = decide (crossM al set e = w)) → mTo p al al.length = evMask al set w 8 := by
    intro p w h
    apply Nat.eq_of_testBit_eq
    intro e
    rw [evMask_bit]
    by_cases he : e < 8
    · rw [h e, decide_eq_true he]; rfl
    · rw [decide_eq_false he, Bool.false_and]
      exact Nat.testBit_lt_two_pow (Nat.lt_of_lt_of_le (mTo_lt p ho al.length (Nat.le_refl _)) (Nat.pow_le_pow_right (n := 2) (by omega) (show 8 ≤ e by omega)))
  exact ⟨key _ 1 (fun e => (reg_en ho hr e).1), key _ 2 (fun e => (reg_en ho hr e).2)⟩
def CRk (I : Nat → Nat → Int32) (c : Nat) (al : List Arc) (set k : Nat) : Prop := I c 0 = nI (mTo (pEn set) al k) ∧ I c 1 = nI (mTo (pEx set) al k) ∧ I c 2 = nI (mTo (pSt set) al k)
section CX1
variable {l : Launch} {X : XT} {I : Nat → Nat → Int32} {L : Nat → Nat → Int64} {Q : QT} {c g n : Nat} {al : List Arc} {set : Nat}
set_option maxRecDepth 100000 in
set_option maxHeartbeats 4000000 in
theorem ct_c_begin (hc : shp c = 2) (hc2 : c < 480) (hQ : ∀ I', (∀ i, i ≠ c → I' i = I i) → CRk I' c al set 0 → Q none (mk I' L)) : CT l X mX2_begin 0 [.ref c] (mk I L) Q := by
  refine ct_intro okX2_begin (by decide +kernel) (Or.inl rfl) (Nat.le_of_ble_eq_true rfl) fun A C W => ?_
  show A 0 [some (.ref c)] [] _
  have c0 : (c < 480) = True := eq_true hc2
  apply C.vc (fun pc => false) 80; (simp only [↓vk kX2_begin_0, ↓vk kX2_begin_1, ↓vk kX2_begin_2, ↓vk kX2_begin_5, ↓vk kX2_begin_6, ↓vk kX2_begin_7, ↓vk kX2_begin_10, ↓vk kX2_begin_11, ↓vk kX2_begin_12, ↓vk kX2_begin_15, ↓x_aload, ↓x_push, ↓x_putI, ↓x_vret, ↓reduceIte, List.getElem?_cons_zero, List.getElem?_cons_succ, List.getD_cons_zero, List.getD_cons_succ, List.getD_nil, List.set_cons_zero, List.set_cons_succ, lset, lset2, isL, noD, cond_true, cond_false, if_true, if_false, Bool.false_eq_true, true_and, and_true, Nat.reduceAdd, Nat.reduceBEq, Nat.reduceSub, Nat.reduceEqDiff, Nat.reduceLT, Nat.reduceLeDiff, Bool.or_false, Bool.false_or, Bool.or_true, Bool.true_or, List.append_nil, List.nil_append, List.cons_append, Option.toList_some, Option.toList_none, lo0, List.replicate, List.length_cons, List.length_nil, muI, muL, callK, catS, List.map_cons, List.map_nil, List.sum_cons, List.sum_nil, vrf, swK, ofN, Value.category, reduceCtorEq, rf_0_0, rf_0_1, rf_0_2, rf_0_3, rf_0_4, rf_0_5, rf_0_6, rf_0_7, rf_0_8, rf_0_9, rf_1_0, rf_3_2, rf_3_3, rf_3_4, rf_7_1, rf_9_0, rf_9_1, rf_60_0, rf_60_1, rf_60_3, rf_60_4, rf_60_5, rf_60_7, rf_60_8, rf_60_11, rf_69_0, rf_69_2, rf_69_3, rf_69_4, rf_69_5, rf_69_6, rf_344_0, rf_344_1, rf_344_2, rf_344_3, rf_450_2, rf_450_3, rf_450_4, rf_454_0, rf_454_1, rf_454_3, rf_454_4, rf_454_5, rf_454_7, rf_454_8, rf_454_11, sh_0, sh_1, sh_2, sh_3, sh_4, sh_5, sh_6, sh_7, sh_8, sh_9, sh_10, sh_11, sh_60, sh_61, sh_62, sh_63, sh_64, sh_65, sh_66, sh_67, sh_68, sh_69, sh_70, sh_71, sh_72, sh_73, sh_74, sh_75, sh_344, sh_345, sh_346, sh_347, sh_348, sh_449, sh_450, sh_451, sh_452, sh_453, sh_454, sh_455, sh_456, sh_457, sh_458, sh_459, sh_460, sh_461, sh_462, al_2, al_4, al_5, al_6, al_10, al_11, al_62, al_63, al_64, al_65, al_66, al_67, al_70, al_71, al_72, al_73, al_345, al_346, al_347, al_451, al_452, al_453, al_456, al_457, al_458, al_459, al_460, al_461]); (try simp (discharger := omega) only [↓ni_bI1, ↓ni_bI1o, ↓ni_bI0, ↓ni_bI0n, ↓ni_bIe, ni_bIb, Nat.reduceEqDiff, Nat.reduceLT, Nat.reduceLeDiff, Nat.reduceAdd, Nat.reduceMul, not_true_eq_false, not_false_eq_true, true_implies, false_implies, and_true, true_and, lg_cmp_eq, nI_add, pk_mul, nI_clamp, ni_le, ni_lt, ni_eq, ni_lt0, ni_0le, ni_eq0, ni_0lt, ni_le0, ni_in, ni_m9, ni_9m, up2_ne, up2_eq, up2_kn, vnar0, vnar1, Nat.add_zero, Nat.zero_add, Nat.mul_zero, hc, c0])
  refine hQ _ (fun i hi => ?_) ⟨?_, ?_, up2_eq⟩
  · rw [up2_ne hi, up2_ne hi, up2_ne hi]
  · rw [up2_kn (by omega), up2_kn (by omega), up2_eq]; rfl
  · rw [up2_kn (by omega), up2_eq]; rfl
set_option maxRecDepth 100000 in
set_option maxHeartbeats 4000000 in
theorem ct_c_take {k : Nat} (hc : shp c = 2) (hc2 : c < 480) (hs : GS g) (hg : GC I g n al) (ho : AOK al) (hk : k < al.length) (hset : set < 2 ^ 31) (h : CRk I c al set k) (hQ : ∀ I', (∀ i, i ≠ c → I' i = I i) → CRk I' c al set (k + 1) → Q none (mk I' L)) : CT l X mX2_take 0 [.ref c, .ref g, .int (nI k), .int (nI set)] (mk I L) Q := by
  refine ct_intro okX2_take (by decide +kernel) (Or.inl rfl) (Nat.le_of_ble_eq_true rfl) fun A C W => ?_
  show A 0 [some (.ref c), some (.ref g), some (.int (nI k)), some (.int (nI set)), none, none, none] [] _
  have c0 : (c < 480) = True := eq_true hc2
  obtain ⟨s0, s1, s2, s3, s4, s5, s6, s7, s8, s9, s10⟩ := hs
  have b0 : (g < 480) = True := eq_true (by omega)
  have b1 : (g + 1 < 480) = True := eq_true (by omega)
  have b2 : (g + 2 < 480) = True := eq_true (by omega)
  have b3 : (g + 3 < 480) = True := eq_true (by omega)
  obtain ⟨g0, g1, g2⟩ := hg
  obtain ⟨q1, q2, q3⟩ := g2 k hk
  obtain ⟨o1, o2, o3⟩ := ho.at hk
  obtain ⟨h1, h2, h3⟩ := h
  have hl := ho.1
  have hp : 2 ^ (arc al k).2.1 ≤ 2 ^ 7 := Nat.pow_le_pow_right (by omega) (by omega)
  have e1 : nI 1 <<< (nI (arc al k).2.1 &&& 31) = nI (1 * 2 ^ (arc al k).2.1) := ni_shl (by omega) (by omega)
  have e2 : nI set >>> (nI (arc al k).1 &&& 31) &&& nI 1 = nI (bI (set.testBit (arc al k).1)) := ni_bit hset (by omega)
  have e3 : nI set >>> (nI (arc al k).2.2 &&& 31) &&& nI 1 = nI (bI (set.testBit (arc al k).2.2)) := ni_bit hset (by omega)
  have d1 : mTo (pEn set) al (k + 1) = if pEn set (arc al k) = true then mTo (pEn set) al k ||| 1 * 2 ^ (arc al k).2.1 else mTo (pEn set) al k := rfl
  have d2 : mTo (pEx set) al (k + 1) = if pEx set (arc al k) = true then mTo (pEx set) al k ||| 1 * 2 ^ (arc al k).2.1 else mTo (pEx set) al k := rfl
  have d3 : mTo (pSt set) al (k + 1) = if pSt set (arc al k) = true then mTo (pSt set) al k ||| 1 * 2 ^ (arc al k).2.1 else mTo (pSt set) al k := rfl
  rw [show pEn set (arc al k) = (!set.testBit (arc al k).1 && set.testBit (arc al k).2.2) from rfl] at d1
  rw [show pEx set (arc al k) = (set.testBit (arc al k).1 && !set.testBit (arc al k).2.2) from rfl] at d2
  rw [show pSt set (arc al k) = (set.testBit (arc al k).1 == set.testBit (arc al k).2.2) from rfl] at d3
  apply C.vc (fun pc => false) 80; (simp only [↓vk kX2_take_0, ↓vk kX2_take_1, ↓vk kX2_take_2, ↓vk kX2_take_5, ↓vk kX2_take_6, ↓vk kX2_take_7, ↓vk kX2_take_8, ↓vk kX2_take_10, ↓vk kX2_take_11, ↓vk kX2_take_12, ↓vk kX2_take_15, ↓vk kX2_take_16, ↓vk kX2_take_17, ↓vk kX2_take_18, ↓vk kX2_take_19, ↓vk kX2_take_20, ↓vk kX2_take_22, ↓vk kX2_take_23, ↓vk kX2_take_24, ↓vk kX2_take_27, ↓vk kX2_take_28, ↓vk kX2_take_29, ↓vk kX2_take_30, ↓vk kX2_take_31, ↓vk kX2_take_32, ↓vk kX2_take_34, ↓vk kX2_take_36, ↓vk kX2_take_38, ↓vk kX2_take_41, ↓vk kX2_take_42, ↓vk kX2_take_43, ↓vk kX2_take_46, ↓vk kX2_take_48, ↓vk kX2_take_49, ↓vk kX2_take_52, ↓vk kX2_take_55, ↓vk kX2_take_57, ↓vk kX2_take_58, ↓vk kX2_take_61, ↓vk kX2_take_62, ↓vk kX2_take_63, ↓vk kX2_take_66, ↓vk kX2_take_68, ↓vk kX2_take_69, ↓vk kX2_take_72, ↓vk kX2_take_75, ↓vk kX2_take_76, ↓vk kX2_take_77, ↓vk kX2_take_80, ↓vk kX2_take_82, ↓vk kX2_take_83, ↓vk kX2_take_86, ↓x_aload, ↓x_dup, ↓x_getI, ↓x_getR, ↓x_goto, ↓x_iald, ↓x_icmpn, ↓x_ii, ↓x_iload, ↓x_istore, ↓x_push, ↓x_putI, ↓x_vret, ↓reduceIte, List.getElem?_cons_zero, List.getElem?_cons_succ, List.getD_cons_zero, List.getD_cons_succ, List.getD_nil, List.set_cons_zero, List.set_cons_succ, lset, lset2, isL, noD, cond_true, cond_false, if_true, if_false, Bool.false_eq_true, true_and, and_true, Nat.reduceAdd, Nat.reduceBEq, Nat.reduceSub, Nat.reduceEqDiff, Nat.reduceLT, Nat.reduceLeDiff, Bool.or_false, Bool.false_or, Bool.or_true, Bool.true_or, List.append_nil, List.nil_append, List.cons_append, Option.toList_some, Option.toList_none, lo0, List.replicate, List.length_cons, List.length_nil, muI, muL, callK, catS, List.map_cons, List.map_nil, List.sum_cons, List.sum_nil, vrf, swK, ofN, Value.category, reduceCtorEq, rf_0_0, rf_0_1, rf_0_2, rf_0_3, rf_0_4, rf_0_5, rf_0_6, rf_0_7, rf_0_8, rf_0_9, rf_1_0, rf_3_2, rf_3_3, rf_3_4, rf_7_1, rf_9_0, rf_9_1, rf_60_0, rf_60_1, rf_60_3, rf_60_4, rf_60_5, rf_60_7, rf_60_8, rf_60_11, rf_69_0, rf_69_2, rf_69_3, rf_69_4, rf_69_5, rf_69_6, rf_344_0, rf_344_1, rf_344_2, rf_344_3, rf_450_2, rf_450_3, rf_450_4, rf_454_0, rf_454_1, rf_454_3, rf_454_4, rf_454_5, rf_454_7, rf_454_8, rf_454_11, sh_0, sh_1, sh_2, sh_3, sh_4, sh_5, sh_6, sh_7, sh_8, sh_9, sh_10, sh_11, sh_60, sh_61, sh_62, sh_63, sh_64, sh_65, sh_66, sh_67, sh_68, sh_69, sh_70, sh_71, sh_72, sh_73, sh_74, sh_75, sh_344, sh_345, sh_346, sh_347, sh_348, sh_449, sh_450, sh_451, sh_452, sh_453, sh_454, sh_455, sh_456, sh_457, sh_458, sh_459, sh_460, sh_461, sh_462, al_2, al_4, al_5, al_6, al_10, al_11, al_62, al_63, al_64, al_65, al_66, al_67, al_70, al_71, al_72, al_73, al_345, al_346, al_347, al_451, al_452, al_453, al_456, al_457, al_458, al_459, al_460, al_461]); (try simp (discharger := omega) only [↓ni_bI1, ↓ni_bI1o, ↓ni_bI0, ↓ni_bI0n, ↓ni_bIe, ni_bIb, Nat.reduceEqDiff, Nat.reduceLT, Nat.reduceLeDiff, Nat.reduceAdd, Nat.reduceMul, not_true_eq_false, not_false_eq_true, true_implies, false_implies, and_true, true_and, lg_cmp_eq, nI_add, pk_mul, nI_clamp, ni_le, ni_lt, ni_eq, ni_lt0, ni_0le, ni_eq0, ni_0lt, ni_le0, ni_in, ni_m9, ni_9m, up2_ne, up2_eq, up2_kn, vnar0, vnar1, Nat.add_zero, Nat.zero_add, Nat.mul_zero, s0, s1, s2, s3, s4, s5, s6, s7, s8, s9, b0, b1, b2, b3, hc, c0, q1, q2, q3, e1, e2, e3, h1, h2, h3])
  unfold CRk at hQ
  rw [d1, d2, d3] at hQ
  clear d1 d2 d3
  generalize set.testBit (arc al k).1 = a at *
  generalize set.testBit (arc al k).2.2 = b at *
  refine ⟨by omega, by omega, by omega, fun z => ?_, fun z => ⟨fun z2 => ?_, fun z2 => ?_⟩⟩
  · rw [nx_or]
    refine hQ _ (fun i hi => up2_ne hi) ?_
    subst z
    cases a <;> simp (discharger := omega) [up2_kn, up2_eq, h1, h2, h3]
  · rw [nx_or]
    refine hQ _ (fun i hi => up2_ne hi) ?_
    subst z2
    cases a
    · simp (discharger := omega) [up2_kn, up2_eq, h1, h2, h3]
    · exact absurd rfl z
  · rw [nx_or]
    refine hQ _ (fun i hi => up2_ne hi) ?_
    have hb : b = false := by cases b; rfl; exact absurd rfl z2
    subst hb
    cases a
    · exact absurd rfl z
    · simp (discharger := omega) [up2_kn, up2_eq, h1, h2, h3]
set_option maxRecDepth 100000 in
set_option maxHeartbeats 4000000 in
theorem ct_c_mixed {k : Nat} (hc : shp c = 2) (hc2 : c < 480) (h : CRk I c al set k) (hQ : Q (some (.int (nI (mxk al set k)))) (mk I L)) : CT l X mX2_mixed 0 [.ref c] (mk I L) Q := by
  refine ct_intro okX2_mixed (by decide +kernel) (Or.inr (Or.inl rfl)) (Nat.le_of_ble_eq_true rfl) fun A C W => ?_
  show A 0 [some (.ref c)] [] _
  have c0 : (c < 480) = True := eq_true hc2
  obtain ⟨h1, h2, h3⟩ := h
  apply C.vc (fun pc => false) 80; (simp only [↓vk kX2_mixed_0, ↓vk kX2_mixed_1, ↓vk kX2_mixed_4, ↓vk kX2_mixed_5, ↓vk kX2_mixed_8, ↓vk kX2_mixed_9, ↓vk kX2_mixed_10, ↓vk kX2_mixed_13, ↓vk kX2_mixed_14, ↓vk kX2_mixed_17, ↓vk kX2_mixed_18, ↓vk kX2_mixed_19, ↓vk kX2_mixed_20, ↓vk kX2_mixed_23, ↓vk kX2_mixed_24, ↓vk kX2_mixed_27, ↓vk kX2_mixed_28, ↓vk kX2_mixed_29, ↓x_aload, ↓x_getI, ↓x_ii, ↓x_iret, ↓reduceIte, List.getElem?_cons_zero, List.getElem?_cons_succ, List.getD_cons_zero, List.getD_cons_succ, List.getD_nil, List.set_cons_zero, List.set_cons_succ, lset, lset2, isL, noD, cond_true, cond_false, if_true, if_false, Bool.false_eq_true, true_and, and_true, Nat.reduceAdd, Nat.reduceBEq, Nat.reduceSub, Nat.reduceEqDiff, Nat.reduceLT, Nat.reduceLeDiff, Bool.or_false, Bool.false_or, Bool.or_true, Bool.true_or, List.append_nil, List.nil_append, List.cons_append, Option.toList_some, Option.toList_none, lo0, List.replicate, List.length_cons, List.length_nil, muI, muL, callK, catS, List.map_cons, List.map_nil, List.sum_cons, List.sum_nil, vrf, swK, ofN, Value.category, reduceCtorEq, rf_0_0, rf_0_1, rf_0_2, rf_0_3, rf_0_4, rf_0_5, rf_0_6, rf_0_7, rf_0_8, rf_0_9, rf_1_0, rf_3_2, rf_3_3, rf_3_4, rf_7_1, rf_9_0, rf_9_1, rf_60_0, rf_60_1, rf_60_3, rf_60_4, rf_60_5, rf_60_7, rf_60_8, rf_60_11, rf_69_0, rf_69_2, rf_69_3, rf_69_4, rf_69_5, rf_69_6, rf_344_0, rf_344_1, rf_344_2, rf_344_3, rf_450_2, rf_450_3, rf_450_4, rf_454_0, rf_454_1, rf_454_3, rf_454_4, rf_454_5, rf_454_7, rf_454_8, rf_454_11, sh_0, sh_1, sh_2, sh_3, sh_4, sh_5, sh_6, sh_7, sh_8, sh_9, sh_10, sh_11, sh_60, sh_61, sh_62, sh_63, sh_64, sh_65, sh_66, sh_67, sh_68, sh_69, sh_70, sh_71, sh_72, sh_73, sh_74, sh_75, sh_344, sh_345, sh_346, sh_347, sh_348, sh_449, sh_450, sh_451, sh_452, sh_453, sh_454, sh_455, sh_456, sh_457, sh_458, sh_459, sh_460, sh_461, sh_462, al_2, al_4, al_5, al_6, al_10, al_11, al_62, al_63, al_64, al_65, al_66, al_67, al_70, al_71, al_72, al_73, al_345, al_346, al_347, al_451, al_452, al_453, al_456, al_457, al_458, al_459, al_460, al_461]); (try simp (discharger := omega) only [↓ni_bI1, ↓ni_bI1o, ↓ni_bI0, ↓ni_bI0n, ↓ni_bIe, ni_bIb, Nat.reduceEqDiff, Nat.reduceLT, Nat.reduceLeDiff, Nat.reduceAdd, Nat.reduceMul, not_true_eq_false, not_false_eq_true, true_implies, false_implies, and_true, true_and, lg_cmp_eq, nI_add, pk_mul, nI_clamp, ni_le, ni_lt, ni_eq, ni_lt0, ni_0le, ni_eq0, ni_0lt, ni_le0, ni_in, ni_m9, ni_9m, up2_ne, up2_eq, up2_kn, vnar0, vnar1, Nat.add_zero, Nat.zero_add, Nat.mul_zero, hc, c0, h1, h2, h3])
  simp only [nx_and, nx_or]
  exact hQ
theorem GC.keepc {I' : Nat → Nat → Int32} {p : Nat → Prop} (h : GC I g n al) (hd : ∀ i, ¬ p i → I' i = I i) (hp : ∀ i, p i → notG g i) : GC I' g n al := by
  refine h.keep (hd _ ?_) (hd _ ?_) (hd _ ?_) (hd _ ?_)
  · exact fun q => absurd rfl (hp _ q).1
  · exact fun q => absurd rfl (hp _ q).2.1
  · exact fun q => absurd rfl (hp _ q).2.2.1
  · exact fun q => absurd rfl (hp _ q).2.2.2
set_option maxRecDepth 100000 in
set_option maxHeartbeats 4000000 in
theorem ct_c_measure (hc : shp c = 2) (hc2 : c < 480) (hs : GS g) (hg : GC I g n al) (ho : AOK al) (hcg : notG g c) (hset : set < 2 ^ 31) (hQ : ∀ I', (∀ i, i ≠ c → I' i = I i) → CRk I' c al set al.length → Q none (mk I' L)) : CT l X mX2_measure 0 [.ref c, .ref g, .int (nI set)] (mk I L) Q := by
  refine ct_intro okX2_measure (by decide +kernel) (Or.inl rfl) (Nat.le_of_ble_eq_true rfl) fun A C W => ?_
  show A 0 [some (.ref c), some (.ref g), some (.int (nI set)), none] [] _
  have c0 : (c < 480) = True := eq_true hc2
  have hl := ho.1
  have hs' := hs
  obtain ⟨s0, s1, s2, s3, s4, s5, s6, s7, s8, s9, s10⟩ := hs
  have b0 : (g < 480) = True := eq_true (by omega)
  have b1 : (g + 1 < 480) = True := eq_true (by omega)
  have b2 : (g + 2 < 480) = True := eq_true (by omega)
  have b3 : (g + 3 < 480) = True := eq_true (by omega)
  have loop : ∀ k, k ≤ al.length → ∀ I', (∀ i, i ≠ c → I' i = I i) → CRk I' c al set k → A 6 [some (.ref c), some (.ref g), some (.int (nI set)), some (.int (nI k))] [] (mk I' L) := by
    refine down fun k hk ih I' hK hR => ?_
    have hg' : GC I' g n al := hg.keepc (p := fun i => i = c) hK (fun i hi => by rw [hi]; exact hcg)
    have g1 := hg'.2.1
    apply C.vc (fun pc => pc == 4 || pc == 6 || pc == 21) 80; (simp only [↓vk kX2_measure_0, ↓vk kX2_measure_1, ↓vk kX2_measure_4, ↓vk kX2_measure_5, ↓vk kX2_measure_6, ↓vk kX2_measure_7, ↓vk kX2_measure_8, ↓vk kX2_measure_11, ↓vk kX2_measure_14, ↓vk kX2_measure_15, ↓vk kX2_measure_16, ↓vk kX2_measure_17, ↓vk kX2_measure_18, ↓vk kX2_measure_21, ↓vk kX2_measure_24, ↓vk kX2_measure_27, ↓x_aload, ↓x_callV0, ↓x_callV3, ↓x_getI, ↓x_goto, ↓x_icmp, ↓x_iinc, ↓x_iload, ↓x_istore, ↓x_push, ↓x_vret, ↓reduceIte, List.getElem?_cons_zero, List.getElem?_cons_succ, List.getD_cons_zero, List.getD_cons_succ, List.getD_nil, List.set_cons_zero, List.set_cons_succ, lset, lset2, isL, noD, cond_true, cond_false, if_true, if_false, Bool.false_eq_true, true_and, and_true, Nat.reduceAdd, Nat.reduceBEq, Nat.reduceSub, Nat.reduceEqDiff, Nat.reduceLT, Nat.reduceLeDiff, Bool.or_false, Bool.false_or, Bool.or_true, Bool.true_or, List.append_nil, List.nil_append, List.cons_append, Option.toList_some, Option.toList_none, lo0, List.replicate, List.length_cons, List.length_nil, muI, muL, callK, catS, List.map_cons, List.map_nil, List.sum_cons, List.sum_nil, vrf, swK, ofN, Value.category, reduceCtorEq, rf_0_0, rf_0_1, rf_0_2, rf_0_3, rf_0_4, rf_0_5, rf_0_6, rf_0_7, rf_0_8, rf_0_9, rf_1_0, rf_3_2, rf_3_3, rf_3_4, rf_7_1, rf_9_0, rf_9_1, rf_60_0, rf_60_1, rf_60_3, rf_60_4, rf_60_5, rf_60_7, rf_60_8, rf_60_11, rf_69_0, rf_69_2, rf_69_3, rf_69_4, rf_69_5, rf_69_6, rf_344_0, rf_344_1, rf_344_2, rf_344_3, rf_450_2, rf_450_3, rf_450_4, rf_454_0, rf_454_1, rf_454_3, rf_454_4, rf_454_5, rf_454_7, rf_454_8, rf_454_11, sh_0, sh_1, sh_2, sh_3, sh_4, sh_5, sh_6, sh_7, sh_8, sh_9, sh_10, sh_11, sh_60, sh_61, sh_62, sh_63, sh_64, sh_65, sh_66, sh_67, sh_68, sh_69, sh_70, sh_71, sh_72, sh_73, sh_74, sh_75, sh_344, sh_345, sh_346, sh_347, sh_348, sh_449, sh_450, sh_451, sh_452, sh_453, sh_454, sh_455, sh_456, sh_457, sh_458, sh_459, sh_460, sh_461, sh_462, al_2, al_4, al_5, al_6, al_10, al_11, al_62, al_63, al_64, al_65, al_66, al_67, al_70, al_71, al_72, al_73, al_345, al_346, al_347, al_451, al_452, al_453, al_456, al_457, al_458, al_459, al_460, al_461]); (try simp (discharger := omega) only [↓ni_bI1, ↓ni_bI1o, ↓ni_bI0, ↓ni_bI0n, ↓ni_bIe, ni_bIb, Nat.reduceEqDiff, Nat.reduceLT, Nat.reduceLeDiff, Nat.reduceAdd, Nat.reduceMul, not_true_eq_false, not_false_eq_true, true_implies, false_implies, and_true, true_and, lg_cmp_eq, nI_add, pk_mul, nI_clamp, ni_le, ni_lt, ni_eq, ni_lt0, ni_0le, ni_eq0, ni_0lt, ni_le0, ni_in, ni_m9, ni_9m, up2_ne, up2_eq, up2_kn, vnar0, vnar1, Nat.add_zero, Nat.zero_add, Nat.mul_zero, s0, s1, s2, s3, s4, s5, s6, s7, s8, s9, b0, b1, b2, b3, hc, c0, g1])
    refine ⟨fun h => ?_, fun h => ct_c_take hc hc2 hs' hg' ho (by omega) hset hR fun I2 hK2 hR2 => ?_⟩
    · have he : k = al.length := by omega
      subst he
      exact hQ I' hK hR
    · apply C.vc (fun pc => pc == 4 || pc == 6 || pc == 21) 80; (simp only [↓vk kX2_measure_0, ↓vk kX2_measure_1, ↓vk kX2_measure_4, ↓vk kX2_measure_5, ↓vk kX2_measure_6, ↓vk kX2_measure_7, ↓vk kX2_measure_8, ↓vk kX2_measure_11, ↓vk kX2_measure_14, ↓vk kX2_measure_15, ↓vk kX2_measure_16, ↓vk kX2_measure_17, ↓vk kX2_measure_18, ↓vk kX2_measure_21, ↓vk kX2_measure_24, ↓vk kX2_measure_27, ↓x_aload, ↓x_callV0, ↓x_callV3, ↓x_getI, ↓x_goto, ↓x_icmp, ↓x_iinc, ↓x_iload, ↓x_istore, ↓x_push, ↓x_vret, ↓reduceIte, List.getElem?_cons_zero, List.getElem?_cons_succ, List.getD_cons_zero, List.getD_cons_succ, List.getD_nil, List.set_cons_zero, List.set_cons_succ, lset, lset2, isL, noD, cond_true, cond_false, if_true, if_false, Bool.false_eq_true, true_and, and_true, Nat.reduceAdd, Nat.reduceBEq, Nat.reduceSub, Nat.reduceEqDiff, Nat.reduceLT, Nat.reduceLeDiff, Bool.or_false, Bool.false_or, Bool.or_true, Bool.true_or, List.append_nil, List.nil_append, List.cons_append, Option.toList_some, Option.toList_none, lo0, List.replicate, List.length_cons, List.length_nil, muI, muL, callK, catS, List.map_cons, List.map_nil, List.sum_cons, List.sum_nil, vrf, swK, ofN, Value.category, reduceCtorEq, rf_0_0, rf_0_1, rf_0_2, rf_0_3, rf_0_4, rf_0_5, rf_0_6, rf_0_7, rf_0_8, rf_0_9, rf_1_0, rf_3_2, rf_3_3, rf_3_4, rf_7_1, rf_9_0, rf_9_1, rf_60_0, rf_60_1, rf_60_3, rf_60_4, rf_60_5, rf_60_7, rf_60_8, rf_60_11, rf_69_0, rf_69_2, rf_69_3, rf_69_4, rf_69_5, rf_69_6, rf_344_0, rf_344_1, rf_344_2, rf_344_3, rf_450_2, rf_450_3, rf_450_4, rf_454_0, rf_454_1, rf_454_3, rf_454_4, rf_454_5, rf_454_7, rf_454_8, rf_454_11, sh_0, sh_1, sh_2, sh_3, sh_4, sh_5, sh_6, sh_7, sh_8, sh_9, sh_10, sh_11, sh_60, sh_61, sh_62, sh_63, sh_64, sh_65, sh_66, sh_67, sh_68, sh_69, sh_70, sh_71, sh_72, sh_73, sh_74, sh_75, sh_344, sh_345, sh_346, sh_347, sh_348, sh_449, sh_450, sh_451, sh_452, sh_453, sh_454, sh_455, sh_456, sh_457, sh_458, sh_459, sh_460, sh_461, sh_462, al_2, al_4, al_5, al_6, al_10, al_11, al_62, al_63, al_64, al_65, al_66, al_67, al_70, al_71, al_72, al_73, al_345, al_346, al_347, al_451, al_452, al_453, al_456, al_457, al_458, al_459, al_460, al_461]); (try simp (discharger := omega) only [↓ni_bI1, ↓ni_bI1o, ↓ni_bI0, ↓ni_bI0n, ↓ni_bIe, ni_bIb, Nat.reduceEqDiff, Nat.reduceLT, Nat.reduceLeDiff, Nat.reduceAdd, Nat.reduceMul, not_true_eq_false, not_false_eq_true, true_implies, false_implies, and_true, true_and, lg_cmp_eq, nI_add, pk_mul, nI_clamp, ni_le, ni_lt, ni_eq, ni_lt0, ni_0le, ni_eq0, ni_0lt, ni_le0, ni_in, ni_m9, ni_9m, up2_ne, up2_eq, up2_kn, vnar0, vnar1, Nat.add_zero, Nat.zero_add, Nat.mul_zero])
      exact ih (by omega) I2 (fun i hi => (hK2 i hi).trans (hK i hi)) hR2
  apply C.vc (fun pc => pc == 4 || pc == 6 || pc == 21) 80; (simp only [↓vk kX2_measure_0, ↓vk kX2_measure_1, ↓vk kX2_measure_4, ↓vk kX2_measure_5, ↓vk kX2_measure_6, ↓vk kX2_measure_7, ↓vk kX2_measure_8, ↓vk kX2_measure_11, ↓vk kX2_measure_14, ↓vk kX2_measure_15, ↓vk kX2_measure_16, ↓vk kX2_measure_17, ↓vk kX2_measure_18, ↓vk kX2_measure_21, ↓vk kX2_measure_24, ↓vk kX2_measure_27, ↓x_aload, ↓x_callV0, ↓x_callV3, ↓x_getI, ↓x_goto, ↓x_icmp, ↓x_iinc, ↓x_iload, ↓x_istore, ↓x_push, ↓x_vret, ↓reduceIte, List.getElem?_cons_zero, List.getElem?_cons_succ, List.getD_cons_zero, List.getD_cons_succ, List.getD_nil, List.set_cons_zero, List.set_cons_succ, lset, lset2, isL, noD, cond_true, cond_false, if_true, if_false, Bool.false_eq_true, true_and, and_true, Nat.reduceAdd, Nat.reduceBEq, Nat.reduceSub, Nat.reduceEqDiff, Nat.reduceLT, Nat.reduceLeDiff, Bool.or_false, Bool.false_or, Bool.or_true, Bool.true_or, List.append_nil, List.nil_append, List.cons_append, Option.toList_some, Option.toList_none, lo0, List.replicate, List.length_cons, List.length_nil, muI, muL, callK, catS, List.map_cons, List.map_nil, List.sum_cons, List.sum_nil, vrf, swK, ofN, Value.category, reduceCtorEq, rf_0_0, rf_0_1, rf_0_2, rf_0_3, rf_0_4, rf_0_5, rf_0_6, rf_0_7, rf_0_8, rf_0_9, rf_1_0, rf_3_2, rf_3_3, rf_3_4, rf_7_1, rf_9_0, rf_9_1, rf_60_0, rf_60_1, rf_60_3, rf_60_4, rf_60_5, rf_60_7, rf_60_8, rf_60_11, rf_69_0, rf_69_2, rf_69_3, rf_69_4, rf_69_5, rf_69_6, rf_344_0, rf_344_1, rf_344_2, rf_344_3, rf_450_2, rf_450_3, rf_450_4, rf_454_0, rf_454_1, rf_454_3, rf_454_4, rf_454_5, rf_454_7, rf_454_8, rf_454_11, sh_0, sh_1, sh_2, sh_3, sh_4, sh_5, sh_6, sh_7, sh_8, sh_9, sh_10, sh_11, sh_60, sh_61, sh_62, sh_63, sh_64, sh_65, sh_66, sh_67, sh_68, sh_69, sh_70, sh_71, sh_72, sh_73, sh_74, sh_75, sh_344, sh_345, sh_346, sh_347, sh_348, sh_449, sh_450, sh_451, sh_452, sh_453, sh_454, sh_455, sh_456, sh_457, sh_458, sh_459, sh_460, sh_461, sh_462, al_2, al_4, al_5, al_6, al_10, al_11, al_62, al_63, al_64, al_65, al_66, al_67, al_70, al_71, al_72, al_73, al_345, al_346, al_347, al_451, al_452, al_453, al_456, al_457, al_458, al_459, al_460, al_461]); (try simp (discharger := omega) only [↓ni_bI1, ↓ni_bI1o, ↓ni_bI0, ↓ni_bI0n, ↓ni_bIe, ni_bIb, Nat.reduceEqDiff, Nat.reduceLT, Nat.reduceLeDiff, Nat.reduceAdd, Nat.reduceMul, not_true_eq_false, not_false_eq_true, true_implies, false_implies, and_true, true_and, lg_cmp_eq, nI_add, pk_mul, nI_clamp, ni_le, ni_lt, ni_eq, ni_lt0, ni_0le, ni_eq0, ni_0lt, ni_le0, ni_in, ni_m9, ni_9m, up2_ne, up2_eq, up2_kn, vnar0, vnar1, Nat.add_zero, Nat.zero_add, Nat.mul_zero, hc, c0])
  refine ct_c_begin (al := al) (set := set) hc hc2 fun I1 hK1 hR1 => ?_
  apply C.vc (fun pc => pc == 4 || pc == 6 || pc == 21) 80; (simp only [↓vk kX2_measure_0, ↓vk kX2_measure_1, ↓vk kX2_measure_4, ↓vk kX2_measure_5, ↓vk kX2_measure_6, ↓vk kX2_measure_7, ↓vk kX2_measure_8, ↓vk kX2_measure_11, ↓vk kX2_measure_14, ↓vk kX2_measure_15, ↓vk kX2_measure_16, ↓vk kX2_measure_17, ↓vk kX2_measure_18, ↓vk kX2_measure_21, ↓vk kX2_measure_24, ↓vk kX2_measure_27, ↓x_aload, ↓x_callV0, ↓x_callV3, ↓x_getI, ↓x_goto, ↓x_icmp, ↓x_iinc, ↓x_iload, ↓x_istore, ↓x_push, ↓x_vret, ↓reduceIte, List.getElem?_cons_zero, List.getElem?_cons_succ, List.getD_cons_zero, List.getD_cons_succ, List.getD_nil, List.set_cons_zero, List.set_cons_succ, lset, lset2, isL, noD, cond_true, cond_false, if_true, if_false, Bool.false_eq_true, true_and, and_true, Nat.reduceAdd, Nat.reduceBEq, Nat.reduceSub, Nat.reduceEqDiff, Nat.reduceLT, Nat.reduceLeDiff, Bool.or_false, Bool.false_or, Bool.or_true, Bool.true_or, List.append_nil, List.nil_append, List.cons_append, Option.toList_some, Option.toList_none, lo0, List.replicate, List.length_cons, List.length_nil, muI, muL, callK, catS, List.map_cons, List.map_nil, List.sum_cons, List.sum_nil, vrf, swK, ofN, Value.category, reduceCtorEq, rf_0_0, rf_0_1, rf_0_2, rf_0_3, rf_0_4, rf_0_5, rf_0_6, rf_0_7, rf_0_8, rf_0_9, rf_1_0, rf_3_2, rf_3_3, rf_3_4, rf_7_1, rf_9_0, rf_9_1, rf_60_0, rf_60_1, rf_60_3, rf_60_4, rf_60_5, rf_60_7, rf_60_8, rf_60_11, rf_69_0, rf_69_2, rf_69_3, rf_69_4, rf_69_5, rf_69_6, rf_344_0, rf_344_1, rf_344_2, rf_344_3, rf_450_2, rf_450_3, rf_450_4, rf_454_0, rf_454_1, rf_454_3, rf_454_4, rf_454_5, rf_454_7, rf_454_8, rf_454_11, sh_0, sh_1, sh_2, sh_3, sh_4, sh_5, sh_6, sh_7, sh_8, sh_9, sh_10, sh_11, sh_60, sh_61, sh_62, sh_63, sh_64, sh_65, sh_66, sh_67, sh_68, sh_69, sh_70, sh_71, sh_72, sh_73, sh_74, sh_75, sh_344, sh_345, sh_346, sh_347, sh_348, sh_449, sh_450, sh_451, sh_452, sh_453, sh_454, sh_455, sh_456, sh_457, sh_458, sh_459, sh_460, sh_461, sh_462, al_2, al_4, al_5, al_6, al_10, al_11, al_62, al_63, al_64, al_65, al_66, al_67, al_70, al_71, al_72, al_73, al_345, al_346, al_347, al_451, al_452, al_453, al_456, al_457, al_458, al_459, al_460, al_461]); (try simp (discharger := omega) only [↓ni_bI1, ↓ni_bI1o, ↓ni_bI0, ↓ni_bI0n, ↓ni_bIe, ni_bIb, Nat.reduceEqDiff, Nat.reduceLT, Nat.reduceLeDiff, Nat.reduceAdd, Nat.reduceMul, not_true_eq_false, not_false_eq_true, true_implies, false_implies, and_true, true_and, lg_cmp_eq, nI_add, pk_mul, nI_clamp, ni_le, ni_lt, ni_eq, ni_lt0, ni_0le, ni_eq0, ni_0lt, ni_le0, ni_in, ni_m9, ni_9m, up2_ne, up2_eq, up2_kn, vnar0, vnar1, Nat.add_zero, Nat.zero_add, Nat.mul_zero])
  exact loop 0 (by omega) I1 hK1 hR1
set_option maxRecDepth 100000 in
set_option maxHeartbeats 4000000 in
theorem ct_c_kindOf {e : Nat} (hc : shp c = 2) (hc2 : c < 480) (ho : AOK al) (he : e < 8) (h : CRk I c al set al.length) (hQ : Q (some (.int (nI (crossM al set e)))) (mk I L)) : CT l X mX2_kindOf 0 [.ref c, .int (nI e)] (mk I L) Q := by
  refine ct_intro okX2_kindOf (by decide +kernel) (Or.inr (Or.inl rfl)) (Nat.le_of_ble_eq_true rfl) fun A C W => ?_
  show A 0 [some (.ref c), some (.int (nI e))] [] _
  have c0 : (c < 480) = True := eq_true hc2
  apply C.vc (fun pc => pc == 4) 80; (simp only [↓vk kX2_kindOf_0, ↓vk kX2_kindOf_1, ↓vk kX2_kindOf_4, ↓vk kX2_kindOf_5, ↓vk kX2_kindOf_6, ↓vk kX2_kindOf_7, ↓vk kX2_kindOf_8, ↓vk kX2_kindOf_11, ↓vk kX2_kindOf_12, ↓vk kX2_kindOf_13, ↓vk kX2_kindOf_14, ↓vk kX2_kindOf_17, ↓vk kX2_kindOf_18, ↓vk kX2_kindOf_19, ↓vk kX2_kindOf_20, ↓vk kX2_kindOf_21, ↓vk kX2_kindOf_24, ↓vk kX2_kindOf_25, ↓vk kX2_kindOf_26, ↓vk kX2_kindOf_27, ↓vk kX2_kindOf_30, ↓vk kX2_kindOf_31, ↓vk kX2_kindOf_32, ↓vk kX2_kindOf_33, ↓vk kX2_kindOf_34, ↓vk kX2_kindOf_37, ↓vk kX2_kindOf_38, ↓vk kX2_kindOf_41, ↓vk kX2_kindOf_42, ↓x_aload, ↓x_callV0, ↓x_getI, ↓x_goto, ↓x_if, ↓x_ii, ↓x_iload, ↓x_iret, ↓x_push, ↓reduceIte, List.getElem?_cons_zero, List.getElem?_cons_succ, List.getD_cons_zero, List.getD_cons_succ, List.getD_nil, List.set_cons_zero, List.set_cons_succ, lset, lset2, isL, noD, cond_true, cond_false, if_true, if_false, Bool.false_eq_true, true_and, and_true, Nat.reduceAdd, Nat.reduceBEq, Nat.reduceSub, Nat.reduceEqDiff, Nat.reduceLT, Nat.reduceLeDiff, Bool.or_false, Bool.false_or, Bool.or_true, Bool.true_or, List.append_nil, List.nil_append, List.cons_append, Option.toList_some, Option.toList_none, lo0, List.replicate, List.length_cons, List.length_nil, muI, muL, callK, catS, List.map_cons, List.map_nil, List.sum_cons, List.sum_nil, vrf, swK, ofN, Value.category, reduceCtorEq, rf_0_0, rf_0_1, rf_0_2, rf_0_3, rf_0_4, rf_0_5, rf_0_6, rf_0_7, rf_0_8, rf_0_9, rf_1_0, rf_3_2, rf_3_3, rf_3_4, rf_7_1, rf_9_0, rf_9_1, rf_60_0, rf_60_1, rf_60_3, rf_60_4, rf_60_5, rf_60_7, rf_60_8, rf_60_11, rf_69_0, rf_69_2, rf_69_3, rf_69_4, rf_69_5, rf_69_6, rf_344_0, rf_344_1, rf_344_2, rf_344_3, rf_450_2, rf_450_3, rf_450_4, rf_454_0, rf_454_1, rf_454_3, rf_454_4, rf_454_5, rf_454_7, rf_454_8, rf_454_11, sh_0, sh_1, sh_2, sh_3, sh_4, sh_5, sh_6, sh_7, sh_8, sh_9, sh_10, sh_11, sh_60, sh_61, sh_62, sh_63, sh_64, sh_65, sh_66, sh_67, sh_68, sh_69, sh_70, sh_71, sh_72, sh_73, sh_74, sh_75, sh_344, sh_345, sh_346, sh_347, sh_348, sh_449, sh_450, sh_451, sh_452, sh_453, sh_454, sh_455, sh_456, sh_457, sh_458, sh_459, sh_460, sh_461, sh_462, al_2, al_4, al_5, al_6, al_10, al_11, al_62, al_63, al_64, al_65, al_66, al_67, al_70, al_71, al_72, al_73, al_345, al_346, al_347, al_451, al_452, al_453, al_456, al_457, al_458, al_459, al_460, al_461]); (try simp (discharger := omega) only [↓ni_bI1, ↓ni_bI1o, ↓ni_bI0, ↓ni_bI0n, ↓ni_bIe, ni_bIb, Nat.reduceEqDiff, Nat.reduceLT, Nat.reduceLeDiff, Nat.reduceAdd, Nat.reduceMul, not_true_eq_false, not_false_eq_true, true_implies, false_implies, and_true, true_and, lg_cmp_eq, nI_add, pk_mul, nI_clamp, ni_le, ni_lt, ni_eq, ni_lt0, ni_0le, ni_eq0, ni_0lt, ni_le0, ni_in, ni_m9, ni_9m, up2_ne, up2_eq, up2_kn, vnar0, vnar1, Nat.add_zero, Nat.zero_add, Nat.mul_zero, hc, c0])
  refine ct_c_mixed hc hc2 h ?_
  obtain ⟨h1, h2, h3⟩ := h
  have m1 := mxk_lt ho set (Nat.le_refl _)
  have m2 := mTo_lt (pEn set) ho al.length (Nat.le_refl _)
  have m3 := mTo_lt (pEx set) ho al.length (Nat.le_refl _)
  have e1 : nI (mxk al set al.length) >>> (nI e &&& 31) &&& nI 1 = nI (bI (decide (crossM al set e = 3))) := by rw [ni_bit (by omega) (by omega), mxk_cross]
  have e2 : nI (mTo (pEn set) al al.length) >>> (nI e &&& 31) &&& nI 1 = nI (bI (anE (pEn set) al e)) := by rw [ni_bit (by omega) (by omega), mTo_an]
  have e3 : nI (mTo (pEx set) al al.length) >>> (nI e &&& 31) &&& nI 1 = nI (bI (anE (pEx set) al e)) := by rw [ni_bit (by omega) (by omega), mTo_an]
  have hcr := crossM_any al set e
  apply C.vc (fun pc => pc == 4) 80; (simp only [↓vk kX2_kindOf_0, ↓vk kX2_kindOf_1, ↓vk kX2_kindOf_4, ↓vk kX2_kindOf_5, ↓vk kX2_kindOf_6, ↓vk kX2_kindOf_7, ↓vk kX2_kindOf_8, ↓vk kX2_kindOf_11, ↓vk kX2_kindOf_12, ↓vk kX2_kindOf_13, ↓vk kX2_kindOf_14, ↓vk kX2_kindOf_17, ↓vk kX2_kindOf_18, ↓vk kX2_kindOf_19, ↓vk kX2_kindOf_20, ↓vk kX2_kindOf_21, ↓vk kX2_kindOf_24, ↓vk kX2_kindOf_25, ↓vk kX2_kindOf_26, ↓vk kX2_kindOf_27, ↓vk kX2_kindOf_30, ↓vk kX2_kindOf_31, ↓vk kX2_kindOf_32, ↓vk kX2_kindOf_33, ↓vk kX2_kindOf_34, ↓vk kX2_kindOf_37, ↓vk kX2_kindOf_38, ↓vk kX2_kindOf_41, ↓vk kX2_kindOf_42, ↓x_aload, ↓x_callV0, ↓x_getI, ↓x_goto, ↓x_if, ↓x_ii, ↓x_iload, ↓x_iret, ↓x_push, ↓reduceIte, List.getElem?_cons_zero, List.getElem?_cons_succ, List.getD_cons_zero, List.getD_cons_succ, List.getD_nil, List.set_cons_zero, List.set_cons_succ, lset, lset2, isL, noD, cond_true, cond_false, if_true, if_false, Bool.false_eq_true, true_and, and_true, Nat.reduceAdd, Nat.reduceBEq, Nat.reduceSub, Nat.reduceEqDiff, Nat.reduceLT, Nat.reduceLeDiff, Bool.or_false, Bool.false_or, Bool.or_true, Bool.true_or, List.append_nil, List.nil_append, List.cons_append, Option.toList_some, Option.toList_none, lo0, List.replicate, List.length_cons, List.length_nil, muI, muL, callK, catS, List.map_cons, List.map_nil, List.sum_cons, List.sum_nil, vrf, swK, ofN, Value.category, reduceCtorEq, rf_0_0, rf_0_1, rf_0_2, rf_0_3, rf_0_4, rf_0_5, rf_0_6, rf_0_7, rf_0_8, rf_0_9, rf_1_0, rf_3_2, rf_3_3, rf_3_4, rf_7_1, rf_9_0, rf_9_1, rf_60_0, rf_60_1, rf_60_3, rf_60_4, rf_60_5, rf_60_7, rf_60_8, rf_60_11, rf_69_0, rf_69_2, rf_69_3, rf_69_4, rf_69_5, rf_69_6, rf_344_0, rf_344_1, rf_344_2, rf_344_3, rf_450_2, rf_450_3, rf_450_4, rf_454_0, rf_454_1, rf_454_3, rf_454_4, rf_454_5, rf_454_7, rf_454_8, rf_454_11, sh_0, sh_1, sh_2, sh_3, sh_4, sh_5, sh_6, sh_7, sh_8, sh_9, sh_10, sh_11, sh_60, sh_61, sh_62, sh_63, sh_64, sh_65, sh_66, sh_67, sh_68, sh_69, sh_70, sh_71, sh_72, sh_73, sh_74, sh_75, sh_344, sh_345, sh_346, sh_347, sh_348, sh_449, sh_450, sh_451, sh_452, sh_453, sh_454, sh_455, sh_456, sh_457, sh_458, sh_459, sh_460, sh_461, sh_462, al_2, al_4, al_5, al_6, al_10, al_11, al_62, al_63, al_64, al_65, al_66, al_67, al_70, al_71, al_72, al_73, al_345, al_346, al_347, al_451, al_452, al_453, al_456, al_457, al_458, al_459, al_460, al_461]); (try simp (discharger := omega) only [↓ni_bI1, ↓ni_bI1o, ↓ni_bI0, ↓ni_bI0n, ↓ni_bIe, ni_bIb, Nat.reduceEqDiff, Nat.reduceLT, Nat.reduceLeDiff, Nat.reduceAdd, Nat.reduceMul, not_true_eq_false, not_false_eq_true, true_implies, false_implies, and_true, true_and, lg_cmp_eq, nI_add, pk_mul, nI_clamp, ni_le, ni_lt, ni_eq, ni_lt0, ni_0le, ni_eq0, ni_0lt, ni_le0, ni_in, ni_m9, ni_9m, up2_ne, up2_eq, up2_kn, vnar0, vnar1, Nat.add_zero, Nat.zero_add, Nat.mul_zero, hc, c0, h1, h2, h3, e1, e2, e3])
  rw [hcr] at hQ ⊢
  generalize anE (pEn set) al e = u at *
  generalize anE (pEx set) al e = v at *
  generalize anE (pSt set) al e = w at *
  clear hcr e1 e2 e3
  cases u <;> cases v <;> cases w <;> simp at hQ ⊢ <;> exact hQ
set_option maxRecDepth 100000 in
set_option maxHeartbeats 4000000 in
theorem ct_c_region (hc : shp c = 2) (hc2 : c < 480) (hs : GS g) (hg : GC I g n al) (ho : AOK al) (hcg : notG g c) (hset : set < 2 ^ 31) (hQ : ∀ I', (∀ i, i ≠ c → I' i = I i) → (isRegB al set = true → CRk I' c al set al.length) → Q (some (.int (nI (bI (isRegB al set))))) (mk I' L)) : CT l X mX2_measureRegion 0 [.ref c, .ref g, .int (nI set)] (mk I L) Q := by
  refine ct_intro okX2_measureRegion (by decide +kernel) (Or.inr (Or.inr (Or.inl rfl))) (Nat.le_of_ble_eq_true rfl) fun A C W => ?_
  show A 0 [some (.ref c), some (.ref g), some (.int (nI set)), none] [] _
  have c0 : (c < 480) = True := eq_true hc2
  have hl := ho.1
  have hs' := hs
  obtain ⟨s0, s1, s2, s3, s4, s5, s6, s7, s8, s9, s10⟩ := hs
  have b0 : (g < 480) = True := eq_true (by omega)
  have b1 : (g + 1 < 480) = True := eq_true (by omega)
  have b2 : (g + 2 < 480) = True := eq_true (by omega)
  have b3 : (g + 3 < 480) = True := eq_true (by omega)
  have h34 : ∀ k I', k ≤ al.length → (∀ i, i ≠ c → I' i = I i) → CRk I' c al set k → (k = al.length ∨ mxk al set k ≠ 0) → A 34 [some (.ref c), some (.ref g), some (.int (nI set)), some (.int (nI k))] [] (mk I' L) := by
    intro k I' hk hK hR hor
    have hm := mxk_lt ho set hk
    apply C.vc (fun pc => pc == 4 || pc == 6 || pc == 18 || pc == 28 || pc == 38) 80; (simp only [↓vk kX2_measureRegion_0, ↓vk kX2_measureRegion_1, ↓vk kX2_measureRegion_4, ↓vk kX2_measureRegion_5, ↓vk kX2_measureRegion_6, ↓vk kX2_measureRegion_7, ↓vk kX2_measureRegion_8, ↓vk kX2_measureRegion_11, ↓vk kX2_measureRegion_14, ↓vk kX2_measureRegion_15, ↓vk kX2_measureRegion_18, ↓vk kX2_measureRegion_21, ↓vk kX2_measureRegion_22, ↓vk kX2_measureRegion_23, ↓vk kX2_measureRegion_24, ↓vk kX2_measureRegion_25, ↓vk kX2_measureRegion_28, ↓vk kX2_measureRegion_31, ↓vk kX2_measureRegion_34, ↓vk kX2_measureRegion_35, ↓vk kX2_measureRegion_38, ↓vk kX2_measureRegion_41, ↓vk kX2_measureRegion_42, ↓vk kX2_measureRegion_45, ↓vk kX2_measureRegion_46, ↓x_aload, ↓x_callV0, ↓x_callV3, ↓x_getI, ↓x_goto, ↓x_icmp, ↓x_ifn, ↓x_iinc, ↓x_iload, ↓x_istore, ↓x_push, ↓x_zret, ↓reduceIte, List.getElem?_cons_zero, List.getElem?_cons_succ, List.getD_cons_zero, List.getD_cons_succ, List.getD_nil, List.set_cons_zero, List.set_cons_succ, lset, lset2, isL, noD, cond_true, cond_false, if_true, if_false, Bool.false_eq_true, true_and, and_true, Nat.reduceAdd, Nat.reduceBEq, Nat.reduceSub, Nat.reduceEqDiff, Nat.reduceLT, Nat.reduceLeDiff, Bool.or_false, Bool.false_or, Bool.or_true, Bool.true_or, List.append_nil, List.nil_append, List.cons_append, Option.toList_some, Option.toList_none, lo0, List.replicate, List.length_cons, List.length_nil, muI, muL, callK, catS, List.map_cons, List.map_nil, List.sum_cons, List.sum_nil, vrf, swK, ofN, Value.category, reduceCtorEq, rf_0_0, rf_0_1, rf_0_2, rf_0_3, rf_0_4, rf_0_5, rf_0_6, rf_0_7, rf_0_8, rf_0_9, rf_1_0, rf_3_2, rf_3_3, rf_3_4, rf_7_1, rf_9_0, rf_9_1, rf_60_0, rf_60_1, rf_60_3, rf_60_4, rf_60_5, rf_60_7, rf_60_8, rf_60_11, rf_69_0, rf_69_2, rf_69_3, rf_69_4, rf_69_5, rf_69_6, rf_344_0, rf_344_1, rf_344_2, rf_344_3, rf_450_2, rf_450_3, rf_450_4, rf_454_0, rf_454_1, rf_454_3, rf_454_4, rf_454_5, rf_454_7, rf_454_8, rf_454_11, sh_0, sh_1, sh_2, sh_3, sh_4, sh_5, sh_6, sh_7, sh_8, sh_9, sh_10, sh_11, sh_60, sh_61, sh_62, sh_63, sh_64, sh_65, sh_66, sh_67, sh_68, sh_69, sh_70, sh_71, sh_72, sh_73, sh_74, sh_75, sh_344, sh_345, sh_346, sh_347, sh_348, sh_449, sh_450, sh_451, sh_452, sh_453, sh_454, sh_455, sh_456, sh_457, sh_458, sh_459, sh_460, sh_461, sh_462, al_2, al_4, al_5, al_6, al_10, al_11, al_62, al_63, al_64, al_65, al_66, al_67, al_70, al_71, al_72, al_73, al_345, al_346, al_347, al_451, al_452, al_453, al_456, al_457, al_458, al_459, al_460, al_461]); (try simp (discharger := omega) only [↓ni_bI1, ↓ni_bI1o, ↓ni_bI0, ↓ni_bI0n, ↓ni_bIe, ni_bIb, Nat.reduceEqDiff, Nat.reduceLT, Nat.reduceLeDiff, Nat.reduceAdd, Nat.reduceMul, not_true_eq_false, not_false_eq_true, true_implies, false_implies, and_true, true_and, lg_cmp_eq, nI_add, pk_mul, nI_clamp, ni_le, ni_lt, ni_eq, ni_lt0, ni_0le, ni_eq0, ni_0lt, ni_le0, ni_in, ni_m9, ni_9m, up2_ne, up2_eq, up2_kn, vnar0, vnar1, Nat.add_zero, Nat.zero_add, Nat.mul_zero, hc, c0])
    refine ct_c_mixed hc hc2 hR ?_
    apply C.vc (fun pc => pc == 4 || pc == 6 || pc == 18 || pc == 28 || pc == 38) 80; (simp only [↓vk kX2_measureRegion_0, ↓vk kX2_measureRegion_1, ↓vk kX2_measureRegion_4, ↓vk kX2_measureRegion_5, ↓vk kX2_measureRegion_6, ↓vk kX2_measureRegion_7, ↓vk kX2_measureRegion_8, ↓vk kX2_measureRegion_11, ↓vk kX2_measureRegion_14, ↓vk kX2_measureRegion_15, ↓vk kX2_measureRegion_18, ↓vk kX2_measureRegion_21, ↓vk kX2_measureRegion_22, ↓vk kX2_measureRegion_23, ↓vk kX2_measureRegion_24, ↓vk kX2_measureRegion_25, ↓vk kX2_measureRegion_28, ↓vk kX2_measureRegion_31, ↓vk kX2_measureRegion_34, ↓vk kX2_measureRegion_35, ↓vk kX2_measureRegion_38, ↓vk kX2_measureRegion_41, ↓vk kX2_measureRegion_42, ↓vk kX2_measureRegion_45, ↓vk kX2_measureRegion_46, ↓x_aload, ↓x_callV0, ↓x_callV3, ↓x_getI, ↓x_goto, ↓x_icmp, ↓x_ifn, ↓x_iinc, ↓x_iload, ↓x_istore, ↓x_push, ↓x_zret, ↓reduceIte, List.getElem?_cons_zero, List.getElem?_cons_succ, List.getD_cons_zero, List.getD_cons_succ, List.getD_nil, List.set_cons_zero, List.set_cons_succ, lset, lset2, isL, noD, cond_true, cond_false, if_true, if_false, Bool.false_eq_true, true_and, and_true, Nat.reduceAdd, Nat.reduceBEq, Nat.reduceSub, Nat.reduceEqDiff, Nat.reduceLT, Nat.reduceLeDiff, Bool.or_false, Bool.false_or, Bool.or_true, Bool.true_or, List.append_nil, List.nil_append, List.cons_append, Option.toList_some, Option.toList_none, lo0, List.replicate, List.length_cons, List.length_nil, muI, muL, callK, catS, List.map_cons, List.map_nil, List.sum_cons, List.sum_nil, vrf, swK, ofN, Value.category, reduceCtorEq, rf_0_0, rf_0_1, rf_0_2, rf_0_3, rf_0_4, rf_0_5, rf_0_6, rf_0_7, rf_0_8, rf_0_9, rf_1_0, rf_3_2, rf_3_3, rf_3_4, rf_7_1, rf_9_0, rf_9_1, rf_60_0, rf_60_1, rf_60_3, rf_60_4, rf_60_5, rf_60_7, rf_60_8, rf_60_11, rf_69_0, rf_69_2, rf_69_3, rf_69_4, rf_69_5, rf_69_6, rf_344_0, rf_344_1, rf_344_2, rf_344_3, rf_450_2, rf_450_3, rf_450_4, rf_454_0, rf_454_1, rf_454_3, rf_454_4, rf_454_5, rf_454_7, rf_454_8, rf_454_11, sh_0, sh_1, sh_2, sh_3, sh_4, sh_5, sh_6, sh_7, sh_8, sh_9, sh_10, sh_11, sh_60, sh_61, sh_62, sh_63, sh_64, sh_65, sh_66, sh_67, sh_68, sh_69, sh_70, sh_71, sh_72, sh_73, sh_74, sh_75, sh_344, sh_345, sh_346, sh_347, sh_348, sh_449, sh_450, sh_451, sh_452, sh_453, sh_454, sh_455, sh_456, sh_457, sh_458, sh_459, sh_460, sh_461, sh_462, al_2, al_4, al_5, al_6, al_10, al_11, al_62, al_63, al_64, al_65, al_66, al_67, al_70, al_71, al_72, al_73, al_345, al_346, al_347, al_451, al_452, al_453, al_456, al_457, al_458, al_459, al_460, al_461]); (try simp (discharger := omega) only [↓ni_bI1, ↓ni_bI1o, ↓ni_bI0, ↓ni_bI0n, ↓ni_bIe, ni_bIb, Nat.reduceEqDiff, Nat.reduceLT, Nat.reduceLeDiff, Nat.reduceAdd, Nat.reduceMul, not_true_eq_false, not_false_eq_true, true_implies, false_implies, and_true, true_and, lg_cmp_eq, nI_add, pk_mul, nI_clamp, ni_le, ni_lt, ni_eq, ni_lt0, ni_0le, ni_eq0, ni_0lt, ni_le0, ni_in, ni_m9, ni_9m, up2_ne, up2_eq, up2_kn, vnar0, vnar1, Nat.add_zero, Nat.zero_add, Nat.mul_zero])
    have hq := hQ I' hK
    rw [reg_mx ho] at hq
    refine ⟨fun z => ?_, fun z => ?_⟩
    · have hke : k = al.length := hor.resolve_right (fun q => q z)
      subst hke
      rw [decide_eq_true z] at hq
      exact ⟨Or.inr rfl, hq (fun _ => hR)⟩
    · have hm2 : ¬ mxk al set al.length = 0 := by
        have := mxk_mono z (al.length - k)
        rwa [show k + (al.length - k) = al.length by omega] at this
      rw [decide_eq_false hm2] at hq
      exact ⟨Or.inl trivial, hq (fun q => by cases q)⟩
  have loop : ∀ k, k ≤ al.length → ∀ I', (∀ i, i ≠ c → I' i = I i) → CRk I' c al set k → A 6 [some (.ref c), some (.ref g), some (.int (nI set)), some (.int (nI k))] [] (mk I' L) := by
    refine down fun k hk ih I' hK hR => ?_
    have hg' : GC I' g n al := hg.keepc (p := fun i => i = c) hK (fun i hi => by rw [hi]; exact hcg)
    have g1 := hg'.2.1
    have hm := mxk_lt ho set hk
    apply C.vc (fun pc => pc == 4 || pc == 6 || pc == 18 || pc == 28 || pc == 34 || pc == 38) 80; (simp only [↓vk kX2_measureRegion_0, ↓vk kX2_measureRegion_1, ↓vk kX2_measureRegion_4, ↓vk kX2_measureRegion_5, ↓vk kX2_measureRegion_6, ↓vk kX2_measureRegion_7, ↓vk kX2_measureRegion_8, ↓vk kX2_measureRegion_11, ↓vk kX2_measureRegion_14, ↓vk kX2_measureRegion_15, ↓vk kX2_measureRegion_18, ↓vk kX2_measureRegion_21, ↓vk kX2_measureRegion_22, ↓vk kX2_measureRegion_23, ↓vk kX2_measureRegion_24, ↓vk kX2_measureRegion_25, ↓vk kX2_measureRegion_28, ↓vk kX2_measureRegion_31, ↓vk kX2_measureRegion_34, ↓vk kX2_measureRegion_35, ↓vk kX2_measureRegion_38, ↓vk kX2_measureRegion_41, ↓vk kX2_measureRegion_42, ↓vk kX2_measureRegion_45, ↓vk kX2_measureRegion_46, ↓x_aload, ↓x_callV0, ↓x_callV3, ↓x_getI, ↓x_goto, ↓x_icmp, ↓x_ifn, ↓x_iinc, ↓x_iload, ↓x_istore, ↓x_push, ↓x_zret, ↓reduceIte, List.getElem?_cons_zero, List.getElem?_cons_succ, List.getD_cons_zero, List.getD_cons_succ, List.getD_nil, List.set_cons_zero, List.set_cons_succ, lset, lset2, isL, noD, cond_true, cond_false, if_true, if_false, Bool.false_eq_true, true_and, and_true, Nat.reduceAdd, Nat.reduceBEq, Nat.reduceSub, Nat.reduceEqDiff, Nat.reduceLT, Nat.reduceLeDiff, Bool.or_false, Bool.false_or, Bool.or_true, Bool.true_or, List.append_nil, List.nil_append, List.cons_append, Option.toList_some, Option.toList_none, lo0, List.replicate, List.length_cons, List.length_nil, muI, muL, callK, catS, List.map_cons, List.map_nil, List.sum_cons, List.sum_nil, vrf, swK, ofN, Value.category, reduceCtorEq, rf_0_0, rf_0_1, rf_0_2, rf_0_3, rf_0_4, rf_0_5, rf_0_6, rf_0_7, rf_0_8, rf_0_9, rf_1_0, rf_3_2, rf_3_3, rf_3_4, rf_7_1, rf_9_0, rf_9_1, rf_60_0, rf_60_1, rf_60_3, rf_60_4, rf_60_5, rf_60_7, rf_60_8, rf_60_11, rf_69_0, rf_69_2, rf_69_3, rf_69_4, rf_69_5, rf_69_6, rf_344_0, rf_344_1, rf_344_2, rf_344_3, rf_450_2, rf_450_3, rf_450_4, rf_454_0, rf_454_1, rf_454_3, rf_454_4, rf_454_5, rf_454_7, rf_454_8, rf_454_11, sh_0, sh_1, sh_2, sh_3, sh_4, sh_5, sh_6, sh_7, sh_8, sh_9, sh_10, sh_11, sh_60, sh_61, sh_62, sh_63, sh_64, sh_65, sh_66, sh_67, sh_68, sh_69, sh_70, sh_71, sh_72, sh_73, sh_74, sh_75, sh_344, sh_345, sh_346, sh_347, sh_348, sh_449, sh_450, sh_451, sh_452, sh_453, sh_454, sh_455, sh_456, sh_457, sh_458, sh_459, sh_460, sh_461, sh_462, al_2, al_4, al_5, al_6, al_10, al_11, al_62, al_63, al_64, al_65, al_66, al_67, al_70, al_71, al_72, al_73, al_345, al_346, al_347, al_451, al_452, al_453, al_456, al_457, al_458, al_459, al_460, al_461]); (try simp (discharger := omega) only [↓ni_bI1, ↓ni_bI1o, ↓ni_bI0, ↓ni_bI0n, ↓ni_bIe, ni_bIb, Nat.reduceEqDiff, Nat.reduceLT, Nat.reduceLeDiff, Nat.reduceAdd, Nat.reduceMul, not_true_eq_false, not_false_eq_true, true_implies, false_implies, and_true, true_and, lg_cmp_eq, nI_add, pk_mul, nI_clamp, ni_le, ni_lt, ni_eq, ni_lt0, ni_0le, ni_eq0, ni_0lt, ni_le0, ni_in, ni_m9, ni_9m, up2_ne, up2_eq, up2_kn, vnar0, vnar1, Nat.add_zero, Nat.zero_add, Nat.mul_zero, s0, s1, s2, s3, s4, s5, s6, s7, s8, s9, b0, b1, b2, b3, hc, c0, g1])
    refine ⟨fun h => h34 k I' hk hK hR (Or.inl (by omega)), fun h => ct_c_mixed hc hc2 hR ?_⟩
    apply C.vc (fun pc => pc == 4 || pc == 6 || pc == 18 || pc == 28 || pc == 34 || pc == 38) 80; (simp only [↓vk kX2_measureRegion_0, ↓vk kX2_measureRegion_1, ↓vk kX2_measureRegion_4, ↓vk kX2_measureRegion_5, ↓vk kX2_measureRegion_6, ↓vk kX2_measureRegion_7, ↓vk kX2_measureRegion_8, ↓vk kX2_measureRegion_11, ↓vk kX2_measureRegion_14, ↓vk kX2_measureRegion_15, ↓vk kX2_measureRegion_18, ↓vk kX2_measureRegion_21, ↓vk kX2_measureRegion_22, ↓vk kX2_measureRegion_23, ↓vk kX2_measureRegion_24, ↓vk kX2_measureRegion_25, ↓vk kX2_measureRegion_28, ↓vk kX2_measureRegion_31, ↓vk kX2_measureRegion_34, ↓vk kX2_measureRegion_35, ↓vk kX2_measureRegion_38, ↓vk kX2_measureRegion_41, ↓vk kX2_measureRegion_42, ↓vk kX2_measureRegion_45, ↓vk kX2_measureRegion_46, ↓x_aload, ↓x_callV0, ↓x_callV3, ↓x_getI, ↓x_goto, ↓x_icmp, ↓x_ifn, ↓x_iinc, ↓x_iload, ↓x_istore, ↓x_push, ↓x_zret, ↓reduceIte, List.getElem?_cons_zero, List.getElem?_cons_succ, List.getD_cons_zero, List.getD_cons_succ, List.getD_nil, List.set_cons_zero, List.set_cons_succ, lset, lset2, isL, noD, cond_true, cond_false, if_true, if_false, Bool.false_eq_true, true_and, and_true, Nat.reduceAdd, Nat.reduceBEq, Nat.reduceSub, Nat.reduceEqDiff, Nat.reduceLT, Nat.reduceLeDiff, Bool.or_false, Bool.false_or, Bool.or_true, Bool.true_or, List.append_nil, List.nil_append, List.cons_append, Option.toList_some, Option.toList_none, lo0, List.replicate, List.length_cons, List.length_nil, muI, muL, callK, catS, List.map_cons, List.map_nil, List.sum_cons, List.sum_nil, vrf, swK, ofN, Value.category, reduceCtorEq, rf_0_0, rf_0_1, rf_0_2, rf_0_3, rf_0_4, rf_0_5, rf_0_6, rf_0_7, rf_0_8, rf_0_9, rf_1_0, rf_3_2, rf_3_3, rf_3_4, rf_7_1, rf_9_0, rf_9_1, rf_60_0, rf_60_1, rf_60_3, rf_60_4, rf_60_5, rf_60_7, rf_60_8, rf_60_11, rf_69_0, rf_69_2, rf_69_3, rf_69_4, rf_69_5, rf_69_6, rf_344_0, rf_344_1, rf_344_2, rf_344_3, rf_450_2, rf_450_3, rf_450_4, rf_454_0, rf_454_1, rf_454_3, rf_454_4, rf_454_5, rf_454_7, rf_454_8, rf_454_11, sh_0, sh_1, sh_2, sh_3, sh_4, sh_5, sh_6, sh_7, sh_8, sh_9, sh_10, sh_11, sh_60, sh_61, sh_62, sh_63, sh_64, sh_65, sh_66, sh_67, sh_68, sh_69, sh_70, sh_71, sh_72, sh_73, sh_74, sh_75, sh_344, sh_345, sh_346, sh_347, sh_348, sh_449, sh_450, sh_451, sh_452, sh_453, sh_454, sh_455, sh_456, sh_457, sh_458, sh_459, sh_460, sh_461, sh_462, al_2, al_4, al_5, al_6, al_10, al_11, al_62, al_63, al_64, al_65, al_66, al_67, al_70, al_71, al_72, al_73, al_345, al_346, al_347, al_451, al_452, al_453, al_456, al_457, al_458, al_459, al_460, al_461]); (try simp (discharger := omega) only [↓ni_bI1, ↓ni_bI1o, ↓ni_bI0, ↓ni_bI0n, ↓ni_bIe, ni_bIb, Nat.reduceEqDiff, Nat.reduceLT, Nat.reduceLeDiff, Nat.reduceAdd, Nat.reduceMul, not_true_eq_false, not_false_eq_true, true_implies, false_implies, and_true, true_and, lg_cmp_eq, nI_add, pk_mul, nI_clamp, ni_le, ni_lt, ni_eq, ni_lt0, ni_0le, ni_eq0, ni_0lt, ni_le0, ni_in, ni_m9, ni_9m, up2_ne, up2_eq, up2_kn, vnar0, vnar1, Nat.add_zero, Nat.zero_add, Nat.mul_zero, s0, s1, s2, s3, s4, s5, s6, s7, s8, s9, b0, b1, b2, b3, hc, c0, g1])
    refine ⟨fun z => ct_c_take hc hc2 hs' hg' ho (by omega) hset hR fun I2 hK2 hR2 => ?_, fun z => h34 k I' hk hK hR (Or.inr z)⟩
    apply C.vc (fun pc => pc == 4 || pc == 6 || pc == 18 || pc == 28 || pc == 38) 80; (simp only [↓vk kX2_measureRegion_0, ↓vk kX2_measureRegion_1, ↓vk kX2_measureRegion_4, ↓vk kX2_measureRegion_5, ↓vk kX2_measureRegion_6, ↓vk kX2_measureRegion_7, ↓vk kX2_measureRegion_8, ↓vk kX2_measureRegion_11, ↓vk kX2_measureRegion_14, ↓vk kX2_measureRegion_15, ↓vk kX2_measureRegion_18, ↓vk kX2_measureRegion_21, ↓vk kX2_measureRegion_22, ↓vk kX2_measureRegion_23, ↓vk kX2_measureRegion_24, ↓vk kX2_measureRegion_25, ↓vk kX2_measureRegion_28, ↓vk kX2_measureRegion_31, ↓vk kX2_measureRegion_34, ↓vk kX2_measureRegion_35, ↓vk kX2_measureRegion_38, ↓vk kX2_measureRegion_41, ↓vk kX2_measureRegion_42, ↓vk kX2_measureRegion_45, ↓vk kX2_measureRegion_46, ↓x_aload, ↓x_callV0, ↓x_callV3, ↓x_getI, ↓x_goto, ↓x_icmp, ↓x_ifn, ↓x_iinc, ↓x_iload, ↓x_istore, ↓x_push, ↓x_zret, ↓reduceIte, List.getElem?_cons_zero, List.getElem?_cons_succ, List.getD_cons_zero, List.getD_cons_succ, List.getD_nil, List.set_cons_zero, List.set_cons_succ, lset, lset2, isL, noD, cond_true, cond_false, if_true, if_false, Bool.false_eq_true, true_and, and_true, Nat.reduceAdd, Nat.reduceBEq, Nat.reduceSub, Nat.reduceEqDiff, Nat.reduceLT, Nat.reduceLeDiff, Bool.or_false, Bool.false_or, Bool.or_true, Bool.true_or, List.append_nil, List.nil_append, List.cons_append, Option.toList_some, Option.toList_none, lo0, List.replicate, List.length_cons, List.length_nil, muI, muL, callK, catS, List.map_cons, List.map_nil, List.sum_cons, List.sum_nil, vrf, swK, ofN, Value.category, reduceCtorEq, rf_0_0, rf_0_1, rf_0_2, rf_0_3, rf_0_4, rf_0_5, rf_0_6, rf_0_7, rf_0_8, rf_0_9, rf_1_0, rf_3_2, rf_3_3, rf_3_4, rf_7_1, rf_9_0, rf_9_1, rf_60_0, rf_60_1, rf_60_3, rf_60_4, rf_60_5, rf_60_7, rf_60_8, rf_60_11, rf_69_0, rf_69_2, rf_69_3, rf_69_4, rf_69_5, rf_69_6, rf_344_0, rf_344_1, rf_344_2, rf_344_3, rf_450_2, rf_450_3, rf_450_4, rf_454_0, rf_454_1, rf_454_3, rf_454_4, rf_454_5, rf_454_7, rf_454_8, rf_454_11, sh_0, sh_1, sh_2, sh_3, sh_4, sh_5, sh_6, sh_7, sh_8, sh_9, sh_10, sh_11, sh_60, sh_61, sh_62, sh_63, sh_64, sh_65, sh_66, sh_67, sh_68, sh_69, sh_70, sh_71, sh_72, sh_73, sh_74, sh_75, sh_344, sh_345, sh_346, sh_347, sh_348, sh_449, sh_450, sh_451, sh_452, sh_453, sh_454, sh_455, sh_456, sh_457, sh_458, sh_459, sh_460, sh_461, sh_462, al_2, al_4, al_5, al_6, al_10, al_11, al_62, al_63, al_64, al_65, al_66, al_67, al_70, al_71, al_72, al_73, al_345, al_346, al_347, al_451, al_452, al_453, al_456, al_457, al_458, al_459, al_460, al_461]); (try simp (discharger := omega) only [↓ni_bI1, ↓ni_bI1o, ↓ni_bI0, ↓ni_bI0n, ↓ni_bIe, ni_bIb, Nat.reduceEqDiff, Nat.reduceLT, Nat.reduceLeDiff, Nat.reduceAdd, Nat.reduceMul, not_true_eq_false, not_false_eq_true, true_implies, false_implies, and_true, true_and, lg_cmp_eq, nI_add, pk_mul, nI_clamp, ni_le, ni_lt, ni_eq, ni_lt0, ni_0le, ni_eq0, ni_0lt, ni_le0, ni_in, ni_m9, ni_9m, up2_ne, up2_eq, up2_kn, vnar0, vnar1, Nat.add_zero, Nat.zero_add, Nat.mul_zero])
    exact ih (by omega) I2 (fun i hi => (hK2 i hi).trans (hK i hi)) hR2
  apply C.vc (fun pc => pc == 4 || pc == 6 || pc == 18 || pc == 28 || pc == 38) 80; (simp only [↓vk kX2_measureRegion_0, ↓vk kX2_measureRegion_1, ↓vk kX2_measureRegion_4, ↓vk kX2_measureRegion_5, ↓vk kX2_measureRegion_6, ↓vk kX2_measureRegion_7, ↓vk kX2_measureRegion_8, ↓vk kX2_measureRegion_11, ↓vk kX2_measureRegion_14, ↓vk kX2_measureRegion_15, ↓vk kX2_measureRegion_18, ↓vk kX2_measureRegion_21, ↓vk kX2_measureRegion_22, ↓vk kX2_measureRegion_23, ↓vk kX2_measureRegion_24, ↓vk kX2_measureRegion_25, ↓vk kX2_measureRegion_28, ↓vk kX2_measureRegion_31, ↓vk kX2_measureRegion_34, ↓vk kX2_measureRegion_35, ↓vk kX2_measureRegion_38, ↓vk kX2_measureRegion_41, ↓vk kX2_measureRegion_42, ↓vk kX2_measureRegion_45, ↓vk kX2_measureRegion_46, ↓x_aload, ↓x_callV0, ↓x_callV3, ↓x_getI, ↓x_goto, ↓x_icmp, ↓x_ifn, ↓x_iinc, ↓x_iload, ↓x_istore, ↓x_push, ↓x_zret, ↓reduceIte, List.getElem?_cons_zero, List.getElem?_cons_succ, List.getD_cons_zero, List.getD_cons_succ, List.getD_nil, List.set_cons_zero, List.set_cons_succ, lset, lset2, isL, noD, cond_true, cond_false, if_true, if_false, Bool.false_eq_true, true_and, and_true, Nat.reduceAdd, Nat.reduceBEq, Nat.reduceSub, Nat.reduceEqDiff, Nat.reduceLT, Nat.reduceLeDiff, Bool.or_false, Bool.false_or, Bool.or_true, Bool.true_or, List.append_nil, List.nil_append, List.cons_append, Option.toList_some, Option.toList_none, lo0, List.replicate, List.length_cons, List.length_nil, muI, muL, callK, catS, List.map_cons, List.map_nil, List.sum_cons, List.sum_nil, vrf, swK, ofN, Value.category, reduceCtorEq, rf_0_0, rf_0_1, rf_0_2, rf_0_3, rf_0_4, rf_0_5, rf_0_6, rf_0_7, rf_0_8, rf_0_9, rf_1_0, rf_3_2, rf_3_3, rf_3_4, rf_7_1, rf_9_0, rf_9_1, rf_60_0, rf_60_1, rf_60_3, rf_60_4, rf_60_5, rf_60_7, rf_60_8, rf_60_11, rf_69_0, rf_69_2, rf_69_3, rf_69_4, rf_69_5, rf_69_6, rf_344_0, rf_344_1, rf_344_2, rf_344_3, rf_450_2, rf_450_3, rf_450_4, rf_454_0, rf_454_1, rf_454_3, rf_454_4, rf_454_5, rf_454_7, rf_454_8, rf_454_11, sh_0, sh_1, sh_2, sh_3, sh_4, sh_5, sh_6, sh_7, sh_8, sh_9, sh_10, sh_11, sh_60, sh_61, sh_62, sh_63, sh_64, sh_65, sh_66, sh_67, sh_68, sh_69, sh_70, sh_71, sh_72, sh_73, sh_74, sh_75, sh_344, sh_345, sh_346, sh_347, sh_348, sh_449, sh_450, sh_451, sh_452, sh_453, sh_454, sh_455, sh_456, sh_457, sh_458, sh_459, sh_460, sh_461, sh_462, al_2, al_4, al_5, al_6, al_10, al_11, al_62, al_63, al_64, al_65, al_66, al_67, al_70, al_71, al_72, al_73, al_345, al_346, al_347, al_451, al_452, al_453, al_456, al_457, al_458, al_459, al_460, al_461]); (try simp (discharger := omega) only [↓ni_bI1, ↓ni_bI1o, ↓ni_bI0, ↓ni_bI0n, ↓ni_bIe, ni_bIb, Nat.reduceEqDiff, Nat.reduceLT, Nat.reduceLeDiff, Nat.reduceAdd, Nat.reduceMul, not_true_eq_false, not_false_eq_true, true_implies, false_implies, and_true, true_and, lg_cmp_eq, nI_add, pk_mul, nI_clamp, ni_le, ni_lt, ni_eq, ni_lt0, ni_0le, ni_eq0, ni_0lt, ni_le0, ni_in, ni_m9, ni_9m, up2_ne, up2_eq, up2_kn, vnar0, vnar1, Nat.add_zero, Nat.zero_add, Nat.mul_zero, hc, c0])
  refine ct_c_begin (al := al) (set := set) hc hc2 fun I1 hK1 hR1 => ?_
  apply C.vc (fun pc => pc == 4 || pc == 6 || pc == 18 || pc == 28 || pc == 38) 80; (simp only [↓vk kX2_measureRegion_0, ↓vk kX2_measureRegion_1, ↓vk kX2_measureRegion_4, ↓vk kX2_measureRegion_5, ↓vk kX2_measureRegion_6, ↓vk kX2_measureRegion_7, ↓vk kX2_measureRegion_8, ↓vk kX2_measureRegion_11, ↓vk kX2_measureRegion_14, ↓vk kX2_measureRegion_15, ↓vk kX2_measureRegion_18, ↓vk kX2_measureRegion_21, ↓vk kX2_measureRegion_22, ↓vk kX2_measureRegion_23, ↓vk kX2_measureRegion_24, ↓vk kX2_measureRegion_25, ↓vk kX2_measureRegion_28, ↓vk kX2_measureRegion_31, ↓vk kX2_measureRegion_34, ↓vk kX2_measureRegion_35, ↓vk kX2_measureRegion_38, ↓vk kX2_measureRegion_41, ↓vk kX2_measureRegion_42, ↓vk kX2_measureRegion_45, ↓vk kX2_measureRegion_46, ↓x_aload, ↓x_callV0, ↓x_callV3, ↓x_getI, ↓x_goto, ↓x_icmp, ↓x_ifn, ↓x_iinc, ↓x_iload, ↓x_istore, ↓x_push, ↓x_zret, ↓reduceIte, List.getElem?_cons_zero, List.getElem?_cons_succ, List.getD_cons_zero, List.getD_cons_succ, List.getD_nil, List.set_cons_zero, List.set_cons_succ, lset, lset2, isL, noD, cond_true, cond_false, if_true, if_false, Bool.false_eq_true, true_and, and_true, Nat.reduceAdd, Nat.reduceBEq, Nat.reduceSub, Nat.reduceEqDiff, Nat.reduceLT, Nat.reduceLeDiff, Bool.or_false, Bool.false_or, Bool.or_true, Bool.true_or, List.append_nil, List.nil_append, List.cons_append, Option.toList_some, Option.toList_none, lo0, List.replicate, List.length_cons, List.length_nil, muI, muL, callK, catS, List.map_cons, List.map_nil, List.sum_cons, List.sum_nil, vrf, swK, ofN, Value.category, reduceCtorEq, rf_0_0, rf_0_1, rf_0_2, rf_0_3, rf_0_4, rf_0_5, rf_0_6, rf_0_7, rf_0_8, rf_0_9, rf_1_0, rf_3_2, rf_3_3, rf_3_4, rf_7_1, rf_9_0, rf_9_1, rf_60_0, rf_60_1, rf_60_3, rf_60_4, rf_60_5, rf_60_7, rf_60_8, rf_60_11, rf_69_0, rf_69_2, rf_69_3, rf_69_4, rf_69_5, rf_69_6, rf_344_0, rf_344_1, rf_344_2, rf_344_3, rf_450_2, rf_450_3, rf_450_4, rf_454_0, rf_454_1, rf_454_3, rf_454_4, rf_454_5, rf_454_7, rf_454_8, rf_454_11, sh_0, sh_1, sh_2, sh_3, sh_4, sh_5, sh_6, sh_7, sh_8, sh_9, sh_10, sh_11, sh_60, sh_61, sh_62, sh_63, sh_64, sh_65, sh_66, sh_67, sh_68, sh_69, sh_70, sh_71, sh_72, sh_73, sh_74, sh_75, sh_344, sh_345, sh_346, sh_347, sh_348, sh_449, sh_450, sh_451, sh_452, sh_453, sh_454, sh_455, sh_456, sh_457, sh_458, sh_459, sh_460, sh_461, sh_462, al_2, al_4, al_5, al_6, al_10, al_11, al_62, al_63, al_64, al_65, al_66, al_67, al_70, al_71, al_72, al_73, al_345, al_346, al_347, al_451, al_452, al_453, al_456, al_457, al_458, al_459, al_460, al_461]); (try simp (discharger := omega) only [↓ni_bI1, ↓ni_bI1o, ↓ni_bI0, ↓ni_bI0n, ↓ni_bIe, ni_bIb, Nat.reduceEqDiff, Nat.reduceLT, Nat.reduceLeDiff, Nat.reduceAdd, Nat.reduceMul, not_true_eq_false, not_false_eq_true, true_implies, false_implies, and_true, true_and, lg_cmp_eq, nI_add, pk_mul, nI_clamp, ni_le, ni_lt, ni_eq, ni_lt0, ni_0le, ni_eq0, ni_0lt, ni_le0, ni_in, ni_m9, ni_9m, up2_ne, up2_eq, up2_kn, vnar0, vnar1, Nat.add_zero, Nat.zero_add, Nat.mul_zero])
  exact loop 0 (by omega) I1 hK1 hR1
end CX1

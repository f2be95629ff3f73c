/-! the reference is made; what the changes keep -/
def R9 : Nat → Nat → Option Nat := fun i k => if i < 463 then RF i k else none
def S0 : SS := (newO 1 [], [], [], 0)
theorem clr2_ne {α : Type} {f : Nat → Nat → α} {a i : Nat} {x : α} (h : i ≠ a) : clr2 f a x i = f i := by unfold clr2; rw [if_neg h]
theorem clr2_no {f : Nat → Nat → Option Nat} {a i k : Nat} (h : f i k = none) : clr2 f a none i k = none := by
  unfold clr2
  by_cases hi : i = a
  · rw [if_pos hi]
  · rw [if_neg hi]; exact h
theorem up2_no {f : Nat → Nat → Option Nat} {a i j k : Nat} {x : Option Nat} (hi : i ≠ a) (h : f i k = none) : up2 f a j x i k = none := by rw [up2_ne hi]; exact h
theorem RF_hi {i k : Nat} (h : 464 ≤ i) : RF i k = none := by
  unfold RF
  rw [if_neg (by omega), if_neg (by omega), if_neg (by omega), if_neg (by omega), if_neg (by omega), if_neg (by omega), if_neg (by omega), if_neg (by omega), if_neg (by omega), if_neg (by omega)]
section MQ11
variable {l : Launch} {X : XT} {I : Nat → Nat → Int32} {L : Nat → Nat → Int64} {S : SS} {Q : QT}
set_option maxRecDepth 100000 in
set_option maxHeartbeats 4000000 in
theorem ct_init10 (hI : ∀ k, I 463 k = 0) (hQ : ∀ I' L', (∀ i, i < 463 → I' i = I i) → (∀ i, i < 463 → L' i = L i) → RM I' L' S0 → Q none (mk I' L')) : CT l X mX10_init 16 [.ref 463] (I, L, R9, 464) Q := by
  refine ct_intro okX10_init (by decide +kernel) (Or.inl rfl) (Nat.le_of_ble_eq_true rfl) fun A C W => ?_
  show A 0 [some (.ref 463)] [] _
  have key : ∀ (I' : Nat → Nat → Int32) (L' : Nat → Nat → Int64) R, R = RF → (∀ i, i < 463 → I' i = I i) → (∀ k, I' 464 k = 0) → (∀ k, I' 463 k = 0) → (∀ i, i < 463 → L' i = L i) → A 141 [some (.ref 463)] [] (I', L', R, 480) := by
    intro I' L' R hR k1 k2 k3 k4
    subst hR
    apply C.vc (fun pc => pc == 152) 80; (simp only [↓vk kX10_init_0, ↓vk kX10_init_1, ↓vk kX10_init_4, ↓vk kX10_init_5, ↓vk kX10_init_8, ↓vk kX10_init_10, ↓vk kX10_init_13, ↓vk kX10_init_14, ↓vk kX10_init_17, ↓vk kX10_init_19, ↓vk kX10_init_22, ↓vk kX10_init_23, ↓vk kX10_init_26, ↓vk kX10_init_28, ↓vk kX10_init_31, ↓vk kX10_init_32, ↓vk kX10_init_35, ↓vk kX10_init_37, ↓vk kX10_init_40, ↓vk kX10_init_41, ↓vk kX10_init_44, ↓vk kX10_init_46, ↓vk kX10_init_49, ↓vk kX10_init_50, ↓vk kX10_init_53, ↓vk kX10_init_55, ↓vk kX10_init_58, ↓vk kX10_init_59, ↓vk kX10_init_62, ↓vk kX10_init_64, ↓vk kX10_init_67, ↓vk kX10_init_68, ↓vk kX10_init_71, ↓vk kX10_init_73, ↓vk kX10_init_76, ↓vk kX10_init_77, ↓vk kX10_init_80, ↓vk kX10_init_82, ↓vk kX10_init_85, ↓vk kX10_init_86, ↓vk kX10_init_88, ↓vk kX10_init_90, ↓vk kX10_init_93, ↓vk kX10_init_94, ↓vk kX10_init_96, ↓vk kX10_init_98, ↓vk kX10_init_101, ↓vk kX10_init_102, ↓vk kX10_init_104, ↓vk kX10_init_106, ↓vk kX10_init_109, ↓vk kX10_init_110, ↓vk kX10_init_112, ↓vk kX10_init_114, ↓vk kX10_init_117, ↓vk kX10_init_118, ↓vk kX10_init_120, ↓vk kX10_init_122, ↓vk kX10_init_125, ↓vk kX10_init_126, ↓vk kX10_init_128, ↓vk kX10_init_130, ↓vk kX10_init_133, ↓vk kX10_init_134, ↓vk kX10_init_136, ↓vk kX10_init_138, ↓vk kX10_init_141, ↓vk kX10_init_142, ↓vk kX10_init_145, ↓vk kX10_init_146, ↓vk kX10_init_147, ↓vk kX10_init_148, ↓vk kX10_init_149, ↓vk kX10_init_152, ↓x_aload, ↓x_callV0, ↓x_getR, ↓x_iast, ↓x_newa, ↓x_objinit, ↓x_push, ↓x_putR, ↓x_vret, ↓reduceIte, List.getElem?_cons_zero, List.getElem?_cons_succ, List.getD_cons_zero, List.getD_cons_succ, List.getD_nil, List.set_cons_zero, List.set_cons_succ, lset, lset2, isL, noD, cond_true, cond_false, if_true, if_false, Bool.false_eq_true, true_and, and_true, Nat.reduceAdd, Nat.reduceBEq, Nat.reduceSub, Nat.reduceEqDiff, Nat.reduceLT, Nat.reduceLeDiff, Bool.or_false, Bool.false_or, Bool.or_true, Bool.true_or, List.append_nil, List.nil_append, List.cons_append, Option.toList_some, Option.toList_none, lo0, List.replicate, List.length_cons, List.length_nil, muI, muL, callK, catS, List.map_cons, List.map_nil, List.sum_cons, List.sum_nil, vrf, swK, ofN, Value.category, reduceCtorEq, rf_463_0, rf_463_2, rf_463_4, rf_463_6, rf_463_7, rf_463_8, rf_463_10, rf_463_11, rf_463_13, rf_463_14, rf_463_15, rf_463_16, rf_463_17, rf_463_22, rf_463_23, rf_463_24, sh_463, sh_464, sh_465, sh_466, sh_467, sh_468, sh_469, sh_470, sh_471, sh_472, sh_473, sh_474, sh_475, sh_476, sh_477, sh_478, sh_479, al_464, al_465, al_466, al_467, al_468, al_469, al_470, al_471, al_472, al_473, al_474, al_475, al_476, al_477, al_478, al_479]); (try simp (discharger := omega) only [↓ni_bI1, ↓ni_bI1o, ↓ni_bI0, ↓ni_bI0n, ↓ni_bIe, ni_bIb, Nat.reduceEqDiff, Nat.reduceLT, Nat.reduceLeDiff, Nat.reduceAdd, Nat.reduceMul, not_true_eq_false, not_false_eq_true, true_implies, false_implies, and_true, true_and, lg_cmp_eq, nI_add, pk_mul, nI_clamp, ni_le, ni_lt, ni_eq, ni_lt0, ni_0le, ni_eq0, ni_0lt, ni_le0, ni_in, ni_m9, ni_9m, up2_ne, up2_eq, up2_kn, vnar0, vnar1, Nat.add_zero, Nat.zero_add, Nat.mul_zero])
    have hc : CoreM (up2 I' 464 0 (nI 1)) ((1, [], 0, (0, 0)), [], [], 0) := by
      refine ⟨⟨up2_eq, ?_, fun a ha => absurd ha (Nat.not_lt_zero _), ?_, fun p hp => ?_⟩, fun j hj => absurd hj (Nat.not_lt_zero _), ?_, ?_, Hold.nil, ?_⟩
      · rw [up2_kn (by omega), k2]; rfl
      · rw [up2_kn (by omega), k2]; rfl
      · rw [up2_kn (by omega), k2]
        show (0 : Int32) = nI (bI (bitM (0, 0) p))
        rw [bitM_0]; rfl
      · rw [up2_ne (by omega), k3]; rfl
      · rw [up2_ne (by omega), k3]; rfl
      · rw [up2_ne (by omega), k3]; rfl
    refine ct_changes hc (fun o ho => absurd ho List.not_mem_nil) ⟨rfl, rfl⟩ (Nat.le_refl 1) (show 1 ≤ 10 by omega) ⟨Nat.zero_le _, fun x hx => absurd hx List.not_mem_nil⟩ fun I2 L2 j1 j2 j3 j4 j5 => ?_
    apply C.vc (fun pc => pc == 152) 80; (simp only [↓vk kX10_init_0, ↓vk kX10_init_1, ↓vk kX10_init_4, ↓vk kX10_init_5, ↓vk kX10_init_8, ↓vk kX10_init_10, ↓vk kX10_init_13, ↓vk kX10_init_14, ↓vk kX10_init_17, ↓vk kX10_init_19, ↓vk kX10_init_22, ↓vk kX10_init_23, ↓vk kX10_init_26, ↓vk kX10_init_28, ↓vk kX10_init_31, ↓vk kX10_init_32, ↓vk kX10_init_35, ↓vk kX10_init_37, ↓vk kX10_init_40, ↓vk kX10_init_41, ↓vk kX10_init_44, ↓vk kX10_init_46, ↓vk kX10_init_49, ↓vk kX10_init_50, ↓vk kX10_init_53, ↓vk kX10_init_55, ↓vk kX10_init_58, ↓vk kX10_init_59, ↓vk kX10_init_62, ↓vk kX10_init_64, ↓vk kX10_init_67, ↓vk kX10_init_68, ↓vk kX10_init_71, ↓vk kX10_init_73, ↓vk kX10_init_76, ↓vk kX10_init_77, ↓vk kX10_init_80, ↓vk kX10_init_82, ↓vk kX10_init_85, ↓vk kX10_init_86, ↓vk kX10_init_88, ↓vk kX10_init_90, ↓vk kX10_init_93, ↓vk kX10_init_94, ↓vk kX10_init_96, ↓vk kX10_init_98, ↓vk kX10_init_101, ↓vk kX10_init_102, ↓vk kX10_init_104, ↓vk kX10_init_106, ↓vk kX10_init_109, ↓vk kX10_init_110, ↓vk kX10_init_112, ↓vk kX10_init_114, ↓vk kX10_init_117, ↓vk kX10_init_118, ↓vk kX10_init_120, ↓vk kX10_init_122, ↓vk kX10_init_125, ↓vk kX10_init_126, ↓vk kX10_init_128, ↓vk kX10_init_130, ↓vk kX10_init_133, ↓vk kX10_init_134, ↓vk kX10_init_136, ↓vk kX10_init_138, ↓vk kX10_init_141, ↓vk kX10_init_142, ↓vk kX10_init_145, ↓vk kX10_init_146, ↓vk kX10_init_147, ↓vk kX10_init_148, ↓vk kX10_init_149, ↓vk kX10_init_152, ↓x_aload, ↓x_callV0, ↓x_getR, ↓x_iast, ↓x_newa, ↓x_objinit, ↓x_push, ↓x_putR, ↓x_vret, ↓reduceIte, List.getElem?_cons_zero, List.getElem?_cons_succ, List.getD_cons_zero, List.getD_cons_succ, List.getD_nil, List.set_cons_zero, List.set_cons_succ, lset, lset2, isL, noD, cond_true, cond_false, if_true, if_false, Bool.false_eq_true, true_and, and_true, Nat.reduceAdd, Nat.reduceBEq, Nat.reduceSub, Nat.reduceEqDiff, Nat.reduceLT, Nat.reduceLeDiff, Bool.or_false, Bool.false_or, Bool.or_true, Bool.true_or, List.append_nil, List.nil_append, List.cons_append, Option.toList_some, Option.toList_none, lo0, List.replicate, List.length_cons, List.length_nil, muI, muL, callK, catS, List.map_cons, List.map_nil, List.sum_cons, List.sum_nil, vrf, swK, ofN, Value.category, reduceCtorEq, rf_463_0, rf_463_2, rf_463_4, rf_463_6, rf_463_7, rf_463_8, rf_463_10, rf_463_11, rf_463_13, rf_463_14, rf_463_15, rf_463_16, rf_463_17, rf_463_22, rf_463_23, rf_463_24, sh_463, sh_464, sh_465, sh_466, sh_467, sh_468, sh_469, sh_470, sh_471, sh_472, sh_473, sh_474, sh_475, sh_476, sh_477, sh_478, sh_479, al_464, al_465, al_466, al_467, al_468, al_469, al_470, al_471, al_472, al_473, al_474, al_475, al_476, al_477, al_478, al_479]); (try simp (discharger := omega) only [↓ni_bI1, ↓ni_bI1o, ↓ni_bI0, ↓ni_bI0n, ↓ni_bIe, ni_bIb, Nat.reduceEqDiff, Nat.reduceLT, Nat.reduceLeDiff, Nat.reduceAdd, Nat.reduceMul, not_true_eq_false, not_false_eq_true, true_implies, false_implies, and_true, true_and, lg_cmp_eq, nI_add, pk_mul, nI_clamp, ni_le, ni_lt, ni_eq, ni_lt0, ni_0le, ni_eq0, ni_0lt, ni_le0, ni_in, ni_m9, ni_9m, up2_ne, up2_eq, up2_kn, vnar0, vnar1, Nat.add_zero, Nat.zero_add, Nat.mul_zero])
    refine hQ I2 L2 (fun i hi => ?_) (fun i hi => ?_) j5
    · rw [j1 i (fun hh => by simp only [dI, List.mem_cons, List.not_mem_nil, or_false] at hh; omega) (by omega), up2_ne (by omega)]
      exact k1 i hi
    · rw [j3 i (fun hh => by simp only [dL, List.mem_cons, List.not_mem_nil, or_false] at hh; omega)]
      exact k4 i hi
  apply C.vc (fun pc => pc == 141 || pc == 152) 80; (simp only [↓vk kX10_init_0, ↓vk kX10_init_1, ↓vk kX10_init_4, ↓vk kX10_init_5, ↓vk kX10_init_8, ↓vk kX10_init_10, ↓vk kX10_init_13, ↓vk kX10_init_14, ↓vk kX10_init_17, ↓vk kX10_init_19, ↓vk kX10_init_22, ↓vk kX10_init_23, ↓vk kX10_init_26, ↓vk kX10_init_28, ↓vk kX10_init_31, ↓vk kX10_init_32, ↓vk kX10_init_35, ↓vk kX10_init_37, ↓vk kX10_init_40, ↓vk kX10_init_41, ↓vk kX10_init_44, ↓vk kX10_init_46, ↓vk kX10_init_49, ↓vk kX10_init_50, ↓vk kX10_init_53, ↓vk kX10_init_55, ↓vk kX10_init_58, ↓vk kX10_init_59, ↓vk kX10_init_62, ↓vk kX10_init_64, ↓vk kX10_init_67, ↓vk kX10_init_68, ↓vk kX10_init_71, ↓vk kX10_init_73, ↓vk kX10_init_76, ↓vk kX10_init_77, ↓vk kX10_init_80, ↓vk kX10_init_82, ↓vk kX10_init_85, ↓vk kX10_init_86, ↓vk kX10_init_88, ↓vk kX10_init_90, ↓vk kX10_init_93, ↓vk kX10_init_94, ↓vk kX10_init_96, ↓vk kX10_init_98, ↓vk kX10_init_101, ↓vk kX10_init_102, ↓vk kX10_init_104, ↓vk kX10_init_106, ↓vk kX10_init_109, ↓vk kX10_init_110, ↓vk kX10_init_112, ↓vk kX10_init_114, ↓vk kX10_init_117, ↓vk kX10_init_118, ↓vk kX10_init_120, ↓vk kX10_init_122, ↓vk kX10_init_125, ↓vk kX10_init_126, ↓vk kX10_init_128, ↓vk kX10_init_130, ↓vk kX10_init_133, ↓vk kX10_init_134, ↓vk kX10_init_136, ↓vk kX10_init_138, ↓vk kX10_init_141, ↓vk kX10_init_142, ↓vk kX10_init_145, ↓vk kX10_init_146, ↓vk kX10_init_147, ↓vk kX10_init_148, ↓vk kX10_init_149, ↓vk kX10_init_152, ↓x_aload, ↓x_callV0, ↓x_getR, ↓x_iast, ↓x_newa, ↓x_objinit, ↓x_push, ↓x_putR, ↓x_vret, ↓reduceIte, List.getElem?_cons_zero, List.getElem?_cons_succ, List.getD_cons_zero, List.getD_cons_succ, List.getD_nil, List.set_cons_zero, List.set_cons_succ, lset, lset2, isL, noD, cond_true, cond_false, if_true, if_false, Bool.false_eq_true, true_and, and_true, Nat.reduceAdd, Nat.reduceBEq, Nat.reduceSub, Nat.reduceEqDiff, Nat.reduceLT, Nat.reduceLeDiff, Bool.or_false, Bool.false_or, Bool.or_true, Bool.true_or, List.append_nil, List.nil_append, List.cons_append, Option.toList_some, Option.toList_none, lo0, List.replicate, List.length_cons, List.length_nil, muI, muL, callK, catS, List.map_cons, List.map_nil, List.sum_cons, List.sum_nil, vrf, swK, ofN, Value.category, reduceCtorEq, rf_463_0, rf_463_2, rf_463_4, rf_463_6, rf_463_7, rf_463_8, rf_463_10, rf_463_11, rf_463_13, rf_463_14, rf_463_15, rf_463_16, rf_463_17, rf_463_22, rf_463_23, rf_463_24, sh_463, sh_464, sh_465, sh_466, sh_467, sh_468, sh_469, sh_470, sh_471, sh_472, sh_473, sh_474, sh_475, sh_476, sh_477, sh_478, sh_479, al_464, al_465, al_466, al_467, al_468, al_469, al_470, al_471, al_472, al_473, al_474, al_475, al_476, al_477, al_478, al_479]); (try simp (discharger := omega) only [↓ni_bI1, ↓ni_bI1o, ↓ni_bI0, ↓ni_bI0n, ↓ni_bIe, ni_bIb, Nat.reduceEqDiff, Nat.reduceLT, Nat.reduceLeDiff, Nat.reduceAdd, Nat.reduceMul, not_true_eq_false, not_false_eq_true, true_implies, false_implies, and_true, true_and, lg_cmp_eq, nI_add, pk_mul, nI_clamp, ni_le, ni_lt, ni_eq, ni_lt0, ni_0le, ni_eq0, ni_0lt, ni_le0, ni_in, ni_m9, ni_9m, up2_ne, up2_eq, up2_kn, vnar0, vnar1, Nat.add_zero, Nat.zero_add, Nat.mul_zero, newMu, muR])
  refine ⟨by decide, by decide, by decide, by decide, by decide, by decide, by decide, by decide, by decide, by decide, by decide, by decide, by decide, by decide, by decide, by decide, by decide, by decide, by decide, by decide, by decide, by decide, by decide, by decide, by decide, by decide, by decide, by decide, by decide, by decide, by decide, by decide, by decide, by decide, by decide, by decide, by decide, by decide, by decide, by decide, by decide, by decide, by decide, by decide, by decide, key _ _ _ ?_ (fun i hi => ?_) (fun k => ?_) (fun k => ?_) (fun i hi => ?_)⟩
  · funext i k
    rcases Nat.lt_trichotomy i 463 with h | h | h
    · simp (discharger := omega) only [up2_ne, clr2_ne]
      unfold R9
      rw [if_pos h]
    · subst h
      rcases Nat.lt_or_ge k 29 with hk | hk
      · revert k
        decide +kernel
      · have e : RF 463 k = none := by
          show List.getD _ k none = none
          rw [List.getD_eq_getElem?_getD, List.getElem?_eq_none (by exact hk)]
          rfl
        rw [e]
        simp (discharger := omega) only [up2_kn, clr2_ne]
        rfl
    · rw [RF_hi (by omega)]
      have e : R9 i k = none := by unfold R9; rw [if_neg (by omega)]
      repeat first | exact e | refine up2_no (by omega) ?_ | refine clr2_no ?_
  · simp (discharger := omega) only [clr2_ne]
  · simp (discharger := omega) only [clr2_ne]
    rw [clr2_s]
  · simp (discharger := omega) only [clr2_ne]
    exact hI k
  · simp (discharger := omega) only [clr2_ne]
end MQ11
theorem newO_ok {n : Nat} {al : List Arc} (h0 : 1 ≤ n) (h1 : n ≤ 10) (hl : al.length ≤ 24) (hx : ∀ x ∈ al, x.1 < n ∧ x.2.1 < 8 ∧ x.2.2 < n) : MoOK (newO n al) := ⟨h0, h1, hl, hx, fun _ => rfl⟩
theorem S0_ok : SOK S0 := ⟨newO_ok (by omega) (by omega) (Nat.zero_le _) (fun x hx => absurd hx List.not_mem_nil), fun o ho => absurd ho List.not_mem_nil, Nat.zero_le _, Nat.zero_le _, fun c hc => absurd hc List.not_mem_nil, Nat.zero_le _⟩
theorem upS_ok {S : SS} (hs : SOK S) {o : Mo} (ho : MoOK o) : SOK (upS S o) := by
  refine ⟨ho, pushH_ok hs.2.1 hs.1, ?_, hs.2.2.2.1, hs.2.2.2.2.1, hs.2.2.2.2.2⟩
  show (pushH S.2.1 S.1).length ≤ 8
  rw [pushH_len hs.2.2.1]
  have := hs.2.2.1
  split <;> omega
theorem fFire_ok {S : SS} (hs : SOK S) (e : Int32) : SOK (fFire S e).2 := by
  unfold fFire
  split
  · split
    · exact upS_ok hs ⟨hs.1.1, hs.1.2.1, hs.1.2.2.1, hs.1.2.2.2.1, fun h => absurd h (Nat.succ_ne_zero _)⟩
    · exact hs
  · exact hs
theorem fRestart_ok {S : SS} (hs : SOK S) : SOK (fRestart S).2 := upS_ok hs ⟨hs.1.1, hs.1.2.1, hs.1.2.2.1, hs.1.2.2.2.1, fun _ => rfl⟩
theorem fUndo_ok {S : SS} (hs : SOK S) : SOK (fUndo S).2 := by
  unfold fUndo
  split
  · exact hs
  · rename_i h
    have hl := hs.2.2.1
    have hm : S.2.1.getD (S.2.1.length - 1) S.1 ∈ S.2.1 := by
      rw [List.getD_eq_getElem?_getD, List.getElem?_eq_getElem (by omega)]
      exact List.getElem_mem _
    refine ⟨hs.2.1 _ hm, fun o ho => hs.2.1 o (List.dropLast_subset _ ho), ?_, hs.2.2.2.1, hs.2.2.2.2.1, hs.2.2.2.2.2⟩
    show S.2.1.dropLast.length ≤ 8
    rw [List.length_dropLast]; omega
theorem fType_ok {S : SS} (hs : SOK S) (x : Int32) : SOK (fType S x).2 := by
  unfold fType
  split
  · rename_i h
    split
    · exact hs
    · rename_i h2
      have hl := hs.2.2.2.1
      refine ⟨hs.1, hs.2.1, hs.2.2.1, ?_, fun c hc => ?_, hs.2.2.2.2.2⟩
      · show (S.2.2.1 ++ [tn x]).length ≤ 80
        rw [List.length_append, List.length_singleton]; omega
      · rcases List.mem_append.mp hc with hc | hc
        · exact hs.2.2.2.2.1 c hc
        · rw [List.mem_singleton.mp hc]
          unfold tn
          omega
  · exact hs
theorem fClear_ok {S : SS} (hs : SOK S) : SOK (fClear S).2 := ⟨hs.1, hs.2.1, hs.2.2.1, Nat.zero_le _, fun c hc => absurd hc List.not_mem_nil, hs.2.2.2.2.2⟩
theorem parseM_inr {t : List Nat} : ∀ (f : Nat) (al : List Arc) (i k p : Nat), parseM t f al i = .inr (k, p) → k = 1 ∨ k = 2
  | 0, al, i, k, p, h => by cases h
  | f + 1, al, i, k, p, h => by
    unfold parseM at h
    split at h
    · cases h
    · split at h
      · exact parseM_inr f _ _ _ _ h
      · split at h
        · exact parseM_inr f _ _ _ _ h
        · rename_i x e
          cases h
          exact (itemM_inr e).1
theorem fLoad_ok {S : SS} (hs : SOK S) : SOK (fLoad S).2 := by
  unfold fLoad
  split
  · rename_i al e
    have ho := parseM_ok 81 [] al 0 ⟨Nat.zero_le _, fun x hx => absurd hx List.not_mem_nil⟩ e
    have hg := grM_lt ho
    have h8 := (upS_ok hs (newO_ok (n := grM al + 1) (al := al) (by omega) (by omega) ho.1 (fun x hx => by have h1 := grM_le hx; have h2 := ho.2 x hx; omega)))
    exact ⟨h8.1, h8.2.1, h8.2.2.1, h8.2.2.2.1, h8.2.2.2.2.1, Nat.zero_le _⟩
  · rename_i k p e
    have := parseM_inr _ _ _ _ _ e
    exact ⟨hs.1, hs.2.1, hs.2.2.1, hs.2.2.2.1, hs.2.2.2.2.1, by show k ≤ 2; omega⟩
theorem fSetStates_ok {S : SS} (hs : SOK S) (x : Int32) : SOK (fSetStates S x).2 := by
  unfold fSetStates
  split
  · rename_i h
    split
    · exact hs
    · rename_i h2
      have hx : 1 ≤ tn x ∧ tn x ≤ 10 := by unfold tn; omega
      refine upS_ok hs (newO_ok hx.1 hx.2 hs.1.2.2.1 (fun y hy => ?_))
      have h1 := grM_le hy
      have h3 := hs.1.2.2.2.1 y hy
      have h4 := List.length_pos_of_mem hy
      omega
  · exact hs
theorem fAddArc_ok {S : SS} (hs : SOK S) (s e t : Int32) : SOK (fAddArc S s e t).2 := by
  unfold fAddArc
  split
  · rename_i h
    obtain ⟨⟨w1, w2, w3⟩, w4⟩ := wrongA_0 hs h
    have hn := hs.1.2.1
    refine upS_ok hs (newO_ok hs.1.1 hn ?_ (fun x hx => ?_))
    · rw [List.length_append, List.length_singleton]; omega
    · rcases List.mem_append.mp hx with hx | hx
      · exact hs.1.2.2.2.1 x hx
      · rw [List.mem_singleton.mp hx]
        exact ⟨(inB_tn w1 (by omega)).2, (inB_tn w3 (by omega)).2, (inB_tn w2 (by omega)).2⟩
  · exact hs
theorem fDropArc_ok {S : SS} (hs : SOK S) (a : Int32) : SOK (fDropArc S a).2 := by
  unfold fDropArc
  split
  · refine upS_ok hs (newO_ok hs.1.1 hs.1.2.1 ?_ (fun x hx => hs.1.2.2.2.1 x (List.mem_of_mem_eraseIdx hx)))
    have := List.length_eraseIdx_le S.1.2.1 (tn a)
    have := hs.1.2.2.1
    omega
  · exact hs
theorem fSplit_ok {S : SS} (hs : SOK S) (e : Int32) : SOK (fSplit S e).2 := by
  unfold fSplit
  split
  · rename_i h
    obtain ⟨w1, w2, w3⟩ := wrongSp_0 h
    have := splM_ok hs.a hs.1.2.2.2.1 w3 (tn e)
    exact upS_ok hs (newO_ok hs.1.1 hs.1.2.1 this.1.1 this.2)
  · exact hs
theorem repM_ok {n : Nat} (hn : n ≤ 10) : ∀ (f : Nat) (al : List Arc) (c : Nat), AOK al → (∀ x ∈ al, x.1 < n ∧ x.2.1 < 8 ∧ x.2.2 < n) → (repM n f al c).1.length ≤ 24 ∧ ∀ x ∈ (repM n f al c).1, x.1 < n ∧ x.2.1 < 8 ∧ x.2.2 < n
  | 0, al, c, ho, hx => ⟨ho.1, hx⟩
  | f + 1, al, c, ho, hx => by
    unfold repM
    cases hw : worthM n al with
    | none => exact ⟨ho.1, hx⟩
    | some e =>
      obtain ⟨e1, e2, e3⟩ := worthM_at hn hw
      obtain ⟨q1, q2⟩ := splM_ok ho hx e3 e
      exact repM_ok hn f _ _ q1 q2
theorem fRepair_ok {S : SS} (hs : SOK S) : SOK (fRepair S).2 := by
  have := repM_ok hs.1.2.1 9 S.1.2.1 0 hs.a hs.1.2.2.2.1
  exact upS_ok hs (newO_ok hs.1.1 hs.1.2.1 this.1 this.2)

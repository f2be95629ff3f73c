/-! the class: exploring the net -/
def TT (al : List Arc) (pl : List Nat) (m e : Nat) : Int32 := if canM al pl e ((bfsTo al pl m).getD m (0, 0)) = true then nI (idxM (evsTo al pl (bfsTo al pl m) m e) (occM al pl e ((bfsTo al pl m).getD m (0, 0)))) else -1
def NSP (I : Nat → Nat → Int32) (al : List Arc) (pl : List Nat) : Prop := (100 < (BF al pl).length ∧ I 344 7 = nI 1) ∨ ((BF al pl).length ≤ 100 ∧ I 344 7 = nI 0 ∧ I 344 4 = nI (BF al pl).length ∧ I 344 5 = nI (arcsTo al pl 100) ∧ I 344 6 = nI (endsTo al pl 100) ∧ ∀ m e, m < (BF al pl).length → e < 8 → I 346 (m * 8 + e) = TT al pl m e)
theorem cntE_le (al : List Arc) (pl : List Nat) (x : MK) : ∀ e, cntE al pl x e ≤ e
  | 0 => Nat.le_refl _
  | e + 1 => by
    have := cntE_le al pl x e
    unfold cntE
    split <;> omega
theorem arcsTo_le (al : List Arc) (pl : List Nat) : ∀ m, arcsTo al pl m ≤ 8 * m
  | 0 => Nat.le_refl _
  | m + 1 => by
    have h1 := arcsTo_le al pl m
    have h2 := cntE_le al pl ((bfsTo al pl m).getD m (0, 0)) 8
    unfold arcsTo
    split <;> omega
theorem evs_get {al : List Arc} {pl : List Nat} {ml : List MK} {m : Nat} (hm : m < ml.length) (e : Nat) : (evsTo al pl ml m e).getD m (0, 0) = ml.getD m (0, 0) := by
  obtain ⟨t, ht⟩ := evsTo_pre al pl ml m 0 e
  rw [Nat.zero_add] at ht
  rw [ht]
  exact getD_app hm
theorem evs_ge {al : List Arc} {pl : List Nat} {ml : List MK} {m : Nat} (e : Nat) : ml.length ≤ (evsTo al pl ml m e).length := by
  obtain ⟨t, ht⟩ := evsTo_pre al pl ml m 0 e
  rw [Nat.zero_add] at ht
  rw [ht, List.length_append]
  exact Nat.le_add_right _ _
theorem evs_big {al : List Arc} {pl : List Nat} {m e : Nat} (hm : m < 100) (hml : m < (bfsTo al pl m).length) (he : e ≤ 8) (h : 100 < (evsTo al pl (bfsTo al pl m) m e).length) : 100 < (BF al pl).length := by
  refine bfs_big (m := m + 1) (by omega) ?_
  show 100 < (if m < (bfsTo al pl m).length then evsTo al pl (bfsTo al pl m) m 8 else bfsTo al pl m).length
  rw [if_pos hml]
  obtain ⟨t, ht⟩ := evsTo_pre al pl (bfsTo al pl m) m e (8 - e)
  rw [show e + (8 - e) = 8 by omega] at ht
  rw [ht, List.length_append]
  omega
section SX2
variable {l : Launch} {X : XT} {I : Nat → Nat → Int32} {L : Nat → Nat → Int64} {Q : QT} {al : List Arc} {pl : List Nat}
set_option maxRecDepth 100000 in
set_option maxHeartbeats 4000000 in
theorem ct_s_explore (ho : AOK al) (h7 : I 69 7 = nI (useTo al al.length)) (hF : FN L al pl) (hI : BV L 74 = initM pl) (hQ : ∀ I' L', (∀ i, i ≠ 344 → i ≠ 346 → I' i = I i) → (∀ i, i < 348 ∨ 449 ≤ i → L' i = L i) → NSP I' al pl → Q none (mk I' L')) : CT l X mX6_explore 0 [.ref 344, .ref 69] (mk I L) Q := by
  refine ct_intro okX6_explore (by decide +kernel) (Or.inl rfl) (Nat.le_of_ble_eq_true rfl) fun A C W => ?_
  show A 0 [some (.ref 344), some (.ref 69), none, none, none] [] _
  have big35 : ∀ m c (I' : Nat → Nat → Int32) (L' : Nat → Nat → Int64), (∀ i, i ≠ 344 → i ≠ 346 → I' i = I i) → (∀ i, i < 348 ∨ 449 ≤ i → L' i = L i) → I' 344 7 = nI 1 → I' 344 4 = nI c → 100 < (BF al pl).length → A 35 [some (.ref 344), some (.ref 69), some (.int (nI m)), none, none] [] (mk I' L') := by
    intro m c I' L' kI kL h7' h4 hb
    have hq := hQ I' L' kI kL (Or.inl ⟨hb, h7'⟩)
    apply C.vc (fun pc => pc == 13 || pc == 35 || pc == 64 || pc == 90 || pc == 121) 80; (simp only [↓vk kX6_explore_0, ↓vk kX6_explore_1, ↓vk kX6_explore_4, ↓vk kX6_explore_5, ↓vk kX6_explore_6, ↓vk kX6_explore_7, ↓vk kX6_explore_10, ↓vk kX6_explore_13, ↓vk kX6_explore_14, ↓vk kX6_explore_15, ↓vk kX6_explore_18, ↓vk kX6_explore_19, ↓vk kX6_explore_20, ↓vk kX6_explore_23, ↓vk kX6_explore_24, ↓vk kX6_explore_25, ↓vk kX6_explore_28, ↓vk kX6_explore_29, ↓vk kX6_explore_30, ↓vk kX6_explore_33, ↓vk kX6_explore_34, ↓vk kX6_explore_35, ↓vk kX6_explore_36, ↓vk kX6_explore_38, ↓vk kX6_explore_41, ↓vk kX6_explore_42, ↓vk kX6_explore_43, ↓vk kX6_explore_46, ↓vk kX6_explore_49, ↓vk kX6_explore_50, ↓vk kX6_explore_53, ↓vk kX6_explore_56, ↓vk kX6_explore_57, ↓vk kX6_explore_60, ↓vk kX6_explore_61, ↓vk kX6_explore_62, ↓vk kX6_explore_64, ↓vk kX6_explore_66, ↓vk kX6_explore_68, ↓vk kX6_explore_71, ↓vk kX6_explore_72, ↓vk kX6_explore_75, ↓vk kX6_explore_76, ↓vk kX6_explore_78, ↓vk kX6_explore_79, ↓vk kX6_explore_81, ↓vk kX6_explore_82, ↓vk kX6_explore_83, ↓vk kX6_explore_84, ↓vk kX6_explore_85, ↓vk kX6_explore_87, ↓vk kX6_explore_90, ↓vk kX6_explore_91, ↓vk kX6_explore_94, ↓vk kX6_explore_97, ↓vk kX6_explore_98, ↓vk kX6_explore_101, ↓vk kX6_explore_102, ↓vk kX6_explore_105, ↓vk kX6_explore_106, ↓vk kX6_explore_107, ↓vk kX6_explore_110, ↓vk kX6_explore_111, ↓vk kX6_explore_112, ↓vk kX6_explore_115, ↓vk kX6_explore_118, ↓vk kX6_explore_121, ↓x_aald, ↓x_aload, ↓x_callV1, ↓x_callV3, ↓x_dup, ↓x_getI, ↓x_getR, ↓x_goto, ↓x_iast, ↓x_icmp, ↓x_icmpn, ↓x_ifn, ↓x_ii, ↓x_iinc, ↓x_iload, ↓x_istore, ↓x_push, ↓x_putI, ↓x_putZ, ↓x_vret, ↓reduceIte, List.getElem?_cons_zero, List.getElem?_cons_succ, List.getD_cons_zero, List.getD_cons_succ, List.getD_nil, List.set_cons_zero, List.set_cons_succ, lset, lset2, isL, noD, cond_true, cond_false, if_true, if_false, Bool.false_eq_true, true_and, and_true, Nat.reduceAdd, Nat.reduceBEq, Nat.reduceSub, Nat.reduceEqDiff, Nat.reduceLT, Nat.reduceLeDiff, Bool.or_false, Bool.false_or, Bool.or_true, Bool.true_or, List.append_nil, List.nil_append, List.cons_append, Option.toList_some, Option.toList_none, lo0, List.replicate, List.length_cons, List.length_nil, muI, muL, callK, catS, List.map_cons, List.map_nil, List.sum_cons, List.sum_nil, vrf, swK, ofN, Value.category, reduceCtorEq, rf_0_0, rf_0_1, rf_0_2, rf_0_3, rf_0_4, rf_0_5, rf_0_6, rf_0_7, rf_0_8, rf_0_9, rf_1_0, rf_3_2, rf_3_3, rf_3_4, rf_7_1, rf_9_0, rf_9_1, rf_60_0, rf_60_1, rf_60_3, rf_60_4, rf_60_5, rf_60_7, rf_60_8, rf_60_11, rf_69_0, rf_69_2, rf_69_3, rf_69_4, rf_69_5, rf_69_6, rf_344_0, rf_344_1, rf_344_2, rf_344_3, rf_450_2, rf_450_3, rf_450_4, rf_454_0, rf_454_1, rf_454_3, rf_454_4, rf_454_5, rf_454_7, rf_454_8, rf_454_11, sh_0, sh_1, sh_2, sh_3, sh_4, sh_5, sh_6, sh_7, sh_8, sh_9, sh_10, sh_11, sh_60, sh_61, sh_62, sh_63, sh_64, sh_65, sh_66, sh_67, sh_68, sh_69, sh_70, sh_71, sh_72, sh_73, sh_74, sh_75, sh_344, sh_345, sh_346, sh_347, sh_348, sh_449, sh_450, sh_451, sh_452, sh_453, sh_454, sh_455, sh_456, sh_457, sh_458, sh_459, sh_460, sh_461, sh_462, al_2, al_4, al_5, al_6, al_10, al_11, al_62, al_63, al_64, al_65, al_66, al_67, al_70, al_71, al_72, al_73, al_345, al_346, al_347, al_451, al_452, al_453, al_456, al_457, al_458, al_459, al_460, al_461]); (try simp (discharger := omega) only [↓ni_bI1, ↓ni_bI1o, ↓ni_bI0, ↓ni_bI0n, ↓ni_bIe, ni_bIb, Nat.reduceEqDiff, Nat.reduceLT, Nat.reduceLeDiff, Nat.reduceAdd, Nat.reduceMul, not_true_eq_false, not_false_eq_true, true_implies, false_implies, and_true, true_and, lg_cmp_eq, nI_add, pk_mul, nI_clamp, ni_le, ni_lt, ni_eq, ni_lt0, ni_0le, ni_eq0, ni_0lt, ni_le0, ni_in, ni_m9, ni_9m, up2_ne, up2_eq, up2_kn, vnar0, vnar1, Nat.add_zero, Nat.zero_add, Nat.mul_zero, List.map_nil, List.map_cons, List.sum_nil, List.sum_cons, List.append_nil, Nat.zero_le, ty3, ty4, ty5, h7', h4])
    trace_state
    sorry
  sorry
end SX2

/-! the reference explores the net -/
def initTo (pl : List Nat) : Nat → MK
  | 0 => (0, 0)
  | p + 1 => if (pl.getD p 0).testBit 0 = true then orBit (initTo pl p) p else initTo pl p
def initM (pl : List Nat) : MK := initTo pl pl.length
def evM (al : List Arc) (pl : List Nat) (ml : List MK) (m e : Nat) : List MK := if canM al pl e (ml.getD m (0, 0)) = true then addM ml (occM al pl e (ml.getD m (0, 0))) else ml
def evsTo (al : List Arc) (pl : List Nat) (ml : List MK) (m : Nat) : Nat → List MK
  | 0 => ml
  | e + 1 => evM al pl (evsTo al pl ml m e) m e
def cntE (al : List Arc) (pl : List Nat) (mk : MK) : Nat → Nat
  | 0 => 0
  | e + 1 => cntE al pl mk e + (if canM al pl e mk = true then 1 else 0)
def bfsTo (al : List Arc) (pl : List Nat) : Nat → List MK
  | 0 => [initM pl]
  | m + 1 => if m < (bfsTo al pl m).length then evsTo al pl (bfsTo al pl m) m 8 else bfsTo al pl m
def arcsTo (al : List Arc) (pl : List Nat) : Nat → Nat
  | 0 => 0
  | m + 1 => if m < (bfsTo al pl m).length then arcsTo al pl m + cntE al pl ((bfsTo al pl m).getD m (0, 0)) 8 else arcsTo al pl m
def endsTo (al : List Arc) (pl : List Nat) : Nat → Nat
  | 0 => 0
  | m + 1 => if m < (bfsTo al pl m).length then endsTo al pl m + (if cntE al pl ((bfsTo al pl m).getD m (0, 0)) 8 = 0 then 1 else 0) else endsTo al pl m
def fevs (al : List Arc) (pl : List Nat) (ml : List MK) (F : FR) (m : Nat) : Nat → FR
  | 0 => F
  | e + 1 => if canM al pl e ((evsTo al pl ml m e).getD m (0, 0)) = true then folF al (chkF al (fevs al pl ml F m e) m e true) m e (idxM (evsTo al pl ml m e) (occM al pl e ((evsTo al pl ml m e).getD m (0, 0)))) else chkF al (fevs al pl ml F m e) m e false
def F0R : FR := (true, updO (fun _ => none) 0 0, updO (fun _ => none) 0 0)
def FTo (al : List Arc) (pl : List Nat) : Nat → FR
  | 0 => F0R
  | m + 1 => if m < (bfsTo al pl m).length then fevs al pl (bfsTo al pl m) (FTo al pl m) m 8 else FTo al pl m
def BF (al : List Arc) (pl : List Nat) : List MK := bfsTo al pl 100
def EX (I : Nat → Nat → Int32) (al : List Arc) (pl : List Nat) : Prop := (100 < (BF al pl).length ∧ ∃ c, 100 < c ∧ c ≤ 101 ∧ I 463 18 = nI c) ∨ ((BF al pl).length ≤ 100 ∧ I 463 18 = nI (BF al pl).length ∧ I 463 19 = nI (arcsTo al pl 100) ∧ I 463 20 = nI (endsTo al pl 100) ∧ I 463 21 = nI (bI (FTo al pl 100).1))
theorem addM_pre (ml : List MK) (x : MK) : ∃ t, addM ml x = ml ++ t := by
  unfold addM
  split
  · exact ⟨_, rfl⟩
  · exact ⟨[], (List.append_nil _).symm⟩
theorem evM_pre (al : List Arc) (pl : List Nat) (ml : List MK) (m e : Nat) : ∃ t, evM al pl ml m e = ml ++ t := by
  unfold evM
  split
  · exact addM_pre _ _
  · exact ⟨[], (List.append_nil _).symm⟩
theorem evsTo_pre (al : List Arc) (pl : List Nat) (ml : List MK) (m : Nat) : ∀ (e k : Nat), ∃ t, evsTo al pl ml m (e + k) = evsTo al pl ml m e ++ t
  | e, 0 => ⟨[], (List.append_nil _).symm⟩
  | e, k + 1 => by
    obtain ⟨t, ht⟩ := evsTo_pre al pl ml m e k
    obtain ⟨u, hu⟩ := evM_pre al pl (evsTo al pl ml m (e + k)) m (e + k)
    refine ⟨t ++ u, ?_⟩
    show evM al pl (evsTo al pl ml m (e + k)) m (e + k) = _
    rw [hu, ht, List.append_assoc]
theorem bfsTo_pre (al : List Arc) (pl : List Nat) : ∀ (m k : Nat), ∃ t, bfsTo al pl (m + k) = bfsTo al pl m ++ t
  | m, 0 => ⟨[], (List.append_nil _).symm⟩
  | m, k + 1 => by
    obtain ⟨t, ht⟩ := bfsTo_pre al pl m k
    show ∃ t, (if m + k < (bfsTo al pl (m + k)).length then evsTo al pl (bfsTo al pl (m + k)) (m + k) 8 else bfsTo al pl (m + k)) = _
    split
    · obtain ⟨u, hu⟩ := evsTo_pre al pl (bfsTo al pl (m + k)) (m + k) 0 8
      rw [Nat.zero_add] at hu
      refine ⟨t ++ u, ?_⟩
      rw [hu]
      show bfsTo al pl (m + k) ++ u = _
      rw [ht, List.append_assoc]
    · exact ⟨t, ht⟩
theorem bfs_stop {al : List Arc} {pl : List Nat} {m : Nat} (h : (bfsTo al pl m).length ≤ m) : ∀ k, bfsTo al pl (m + k) = bfsTo al pl m ∧ arcsTo al pl (m + k) = arcsTo al pl m ∧ endsTo al pl (m + k) = endsTo al pl m ∧ FTo al pl (m + k) = FTo al pl m
  | 0 => ⟨rfl, rfl, rfl, rfl⟩
  | k + 1 => by
    obtain ⟨h1, h2, h3, h4⟩ := bfs_stop h k
    have hn : ¬ m + k < (bfsTo al pl (m + k)).length := by rw [h1]; omega
    refine ⟨?_, ?_, ?_, ?_⟩
    · show (if m + k < (bfsTo al pl (m + k)).length then _ else bfsTo al pl (m + k)) = _
      rw [if_neg hn, h1]
    · show (if m + k < (bfsTo al pl (m + k)).length then _ else arcsTo al pl (m + k)) = _
      rw [if_neg hn, h2]
    · show (if m + k < (bfsTo al pl (m + k)).length then _ else endsTo al pl (m + k)) = _
      rw [if_neg hn, h3]
    · show (if m + k < (bfsTo al pl (m + k)).length then _ else FTo al pl (m + k)) = _
      rw [if_neg hn, h4]
theorem bfs_big {al : List Arc} {pl : List Nat} {m : Nat} (h : m ≤ 100) (h2 : 100 < (bfsTo al pl m).length) : 100 < (BF al pl).length := by
  obtain ⟨t, ht⟩ := bfsTo_pre al pl m (100 - m)
  rw [show m + (100 - m) = 100 by omega] at ht
  unfold BF
  rw [ht, List.length_append]
  omega
theorem getD_app {α : Type} {a b : List α} {k : Nat} {d : α} (h : k < a.length) : (a ++ b).getD k d = a.getD k d := by
  rw [List.getD_eq_getElem?_getD, List.getElem?_append_left h, ← List.getD_eq_getElem?_getD]
def KeepX (I I' : Nat → Nat → Int32) : Prop := (∀ i, i ≠ 463 → i ≠ 477 → i ≠ 478 → I' i = I i) ∧ ∀ k, k ≠ 18 → k ≠ 19 → k ≠ 20 → k ≠ 21 → I' 463 k = I 463 k
theorem i64_bI (b : Bool) : (nI (bI b)).toInt64 = if b = true then 1 else 0 := by cases b <;> decide
theorem shl0 (y : Int64) : (0 : Int64) <<< y = 0 := by
  apply Int64.toBitVec_inj.1
  rw [Int64.toBitVec_shiftLeft]
  simp
theorem ni_odd (r : Nat) : nI r &&& nI 1 = nI (bI (r.testBit 0)) := by
  rw [nx_and, Nat.and_one_is_mod]
  congr 1
  have := bI_bit r 0
  simpa using this
set_option maxRecDepth 100000 in
set_option maxHeartbeats 4000000 in
theorem ct_explores {l : Launch} {X : XT} {I : Nat → Nat → Int32} {L : Nat → Nat → Int64} {al : List Arc} {pl : List Nat} {Q : QT} (hg : GM I al) (ho : AOK al) (hF : FS L al pl) (h12 : I 463 12 = nI pl.length) (hpH : Hold (I 471) pl) (hpl : pl.length ≤ 125) (hpr : ∀ r ∈ pl, r < 1024)
    (hQ : ∀ I' L', KeepX I I' → KeepL L L' → EX I' al pl → Q none (mk I' L')) : CT l X mX10_explores 0 [.ref 463] (mk I L) Q := by
  refine ct_intro okX10_explores (by decide +kernel) (Or.inl rfl) (Nat.le_of_ble_eq_true rfl) fun A C W => ?_
  show A 0 [some (.ref 463), none, none, none, none] [] _
  have gF : ∀ L', KeepL L L' → FS L' al pl := fun L' hk e he => by rw [hk 473 (by decide) (by decide), hk 474 (by decide) (by decide)]; exact hF e he
  -- the exploration
  have loopM : ∀ (d m : Nat), d = 100 - m → m ≤ 100 → (bfsTo al pl m).length ≤ 100 ∨ 100 < (BF al pl).length → ∀ (I' : Nat → Nat → Int32) (L' : Nat → Nat → Int64), KeepX I I' → KeepL L L' → ML I' L' (bfsTo al pl m) → (bfsTo al pl m).length ≤ 101 → I' 463 19 = nI (arcsTo al pl m) → I' 463 20 = nI (endsTo al pl m) → STR I' (FTo al pl m) (bfsTo al pl m).length → A 145 [some (.ref 463), some (.int (nI m)), none, none, none] [] (mk I' L') := by
    sorry
  sorry

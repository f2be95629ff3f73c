/-! the law: what holds between its calls -/
section LV1
variable {I I' : Nat → Nat → Int32} {L L' : Nat → Nat → Int64} {S : SS} {mm i : Nat}
theorem RM.k9 (h : RM I L S) (k : K9 I I' L L') : RM I' L' S := by
  have e463 : I' 463 = I 463 := k.1 463 (by omega)
  have e464 : I' 464 = I 464 := k.1 464 (by omega)
  have e465 : I' 465 = I 465 := k.1 465 (by omega)
  have e466 : I' 466 = I 466 := k.1 466 (by omega)
  have e467 : I' 467 = I 467 := k.1 467 (by omega)
  have e468 : I' 468 = I 468 := k.1 468 (by omega)
  have e469 : I' 469 = I 469 := k.1 469 (by omega)
  have e470 : I' 470 = I 470 := k.1 470 (by omega)
  have e471 : I' 471 = I 471 := k.1 471 (by omega)
  have e472 : I' 472 = I 472 := k.1 472 (by omega)
  have e479 : I' 479 = I 479 := k.1 479 (by omega)
  have f473 : L' 473 = L 473 := k.2 473 (by omega)
  have f474 : L' 474 = L 474 := k.2 474 (by omega)
  unfold RM CoreM PG DM DS SB FS EX at h ⊢
  simp only [e463, e464, e465, e466, e467, e468, e469, e470, e471, e472, e479, f473, f474]
  exact h
theorem KP.km (h : KP mm I L S) (hs : SOK S) (k : KM I I' L L') : KP mm I' L' S := by
  obtain ⟨h1, kn, hm, h2⟩ := h
  have hl : ∀ i, i < 463 → L' i = L i := fun i hi => k.2 i (fun hh => by simp only [dL, List.mem_cons, List.not_mem_nil, or_false] at hh; omega)
  exact ⟨h1.keep (fun i _ h2 => k.1 i (by omega)) (fun i h2 _ => hl i (by omega)) (Or.inr (hl 8 (by omega))), kn, hm, h2.keep hs.1.2.1 (by rw [k.1 0 (by omega)]) (fun i _ h2 => k.1 i (by omega)) (fun i _ _ h2 => hl i (by omega))⟩
theorem KM.long (h : ∀ i, i ≠ 463 → L' i = L i) (hK : KP mm I L S) (hs : SOK S) : KP mm I L' S := by
  obtain ⟨h1, kn, hm, h2⟩ := hK
  exact ⟨h1.keep (fun _ _ _ => rfl) (fun i h2 _ => h i (by omega)) (Or.inr (h 8 (by omega))), kn, hm, h2.keep hs.1.2.1 rfl (fun _ _ _ => rfl) (fun i _ _ h2 => h i (by omega))⟩
theorem RM.long (h : ∀ i, i ≠ 463 → L' i = L i) (hR : RM I L S) : RM I L' S := by
  have f473 : L' 473 = L 473 := h 473 (by omega)
  have f474 : L' 474 = L 474 := h 474 (by omega)
  unfold RM DM FS at hR ⊢
  simp only [f473, f474]
  exact hR
/-- how many steps there may be; a marking has only places -/
def WS (i : Nat) (S : SS) : Prop := ∀ o : Mo, o = S.1 ∨ o ∈ S.2.1 → o.2.2.1 ≤ i ∧ MZ o
theorem WS.mono {j : Nat} (h : WS i S) (hj : i ≤ j) : WS j S := fun o ho => ⟨Nat.le_trans (h o ho).1 hj, (h o ho).2⟩
theorem mem_push {hs : List Mo} {x o : Mo} (h : o ∈ pushH hs x) : o = x ∨ o ∈ hs := by
  unfold pushH at h
  split at h
  · rcases List.mem_append.mp h with h | h
    · exact Or.inr (List.mem_of_mem_tail h)
    · exact Or.inl (List.mem_singleton.mp h)
  · rcases List.mem_append.mp h with h | h
    · exact Or.inr h
    · exact Or.inl (List.mem_singleton.mp h)
theorem WS.up {o : Mo} (h : WS i S) (ho : o.2.2.1 ≤ i + 4 ∧ MZ o) : WS (i + 4) (upS S o) := by
  intro o' ho'
  rcases ho' with rfl | ho'
  · exact ho
  · have h2 := h o' (mem_push ho')
    exact ⟨by omega, h2.2⟩
theorem MZ_newO {n : Nat} {al : List Arc} (hn : n ≤ 10) : MZ (newO n al) := MZ_new n al hn 0
theorem WS.new {al : List Arc} {n : Nat} (h : WS i S) (hn : n ≤ 10) : WS (i + 4) (upS S (newO n al)) := h.up ⟨Nat.zero_le _, MZ_newO hn⟩
theorem ws_type {x : Int32} (h : WS i S) : WS (i + 4) (fType S x).2 := by
  have h := h.mono (show i ≤ i + 4 by omega)
  unfold fType
  split
  · split <;> exact h
  · exact h
theorem ws_clear (h : WS i S) : WS (i + 4) (fClear S).2 := h.mono (j := i + 4) (by omega)
theorem ws_load (hs : SOK S) (h : WS i S) : WS (i + 4) (fLoad S).2 := by
  unfold fLoad
  split
  · rename_i al e
    have ho := parseM_ok 81 [] al 0 ⟨Nat.zero_le _, fun x hx => absurd hx List.not_mem_nil⟩ e
    have hg := grM_lt ho
    have h2 := h.new (n := grM al + 1) (al := al) (by omega)
    exact h2
  · exact h.mono (j := i + 4) (by omega)
theorem ws_set {x : Int32} (hs : SOK S) (h : WS i S) : WS (i + 4) (fSetStates S x).2 := by
  unfold fSetStates
  split
  · rename_i hx
    split
    · exact h.mono (by omega)
    · refine h.new ?_
      unfold tn
      omega
  · exact h.mono (by omega)
theorem ws_add {s e t : Int32} (hs : SOK S) (h : WS i S) : WS (i + 4) (fAddArc S s e t).2 := by
  unfold fAddArc
  split
  · exact h.new hs.1.2.1
  · exact h.mono (by omega)
theorem ws_drop {a : Int32} (hs : SOK S) (h : WS i S) : WS (i + 4) (fDropArc S a).2 := by
  unfold fDropArc
  split
  · exact h.new hs.1.2.1
  · exact h.mono (by omega)
theorem ws_split {e : Int32} (hs : SOK S) (h : WS i S) : WS (i + 4) (fSplit S e).2 := by
  unfold fSplit
  split
  · exact h.new hs.1.2.1
  · exact h.mono (by omega)
theorem ws_repair (hs : SOK S) (h : WS i S) : WS (i + 4) (fRepair S).2 := h.new hs.1.2.1
theorem ws_fire {e : Int32} (hs : SOK S) (h : WS i S) : WS (i + 4) (fFire S e).2 := by
  have h1 := h S.1 (Or.inl rfl)
  unfold fFire plS
  split
  · split
    · exact h.up ⟨by show S.1.2.2.1 + 1 ≤ i + 4; omega, MZ_occ h1.2 hs.1.2.1 _ _⟩
    · exact h.mono (by omega)
  · exact h.mono (by omega)
theorem ws_restart (hs : SOK S) (h : WS i S) : WS (i + 4) (fRestart S).2 := h.up ⟨Nat.zero_le _, MZ_new _ _ hs.1.2.1 0⟩
theorem ws_undo (hs : SOK S) (h : WS i S) : WS (i + 4) (fUndo S).2 := by
  unfold fUndo
  split
  · exact h.mono (by omega)
  · rename_i h0
    have hm : S.2.1.getD (S.2.1.length - 1) S.1 ∈ S.2.1 := by
      rw [List.getD_eq_getElem?_getD, List.getElem?_eq_getElem (by omega)]
      exact List.getElem_mem _
    have h := h.mono (show i ≤ i + 4 by omega)
    intro o ho
    rcases ho with ho | ho
    · rw [ho]; exact h _ (Or.inr hm)
    · exact h o (Or.inr (List.dropLast_subset _ ho))
/-- between two calls -/
def LI (I : Nat → Nat → Int32) (L : Nat → Nat → Int64) (S : SS) (i : Nat) : Prop := RM I L S ∧ KP 0 I L S ∧ SOK S ∧ WS i S
theorem WS0 : WS 0 S0 := by
  intro o ho
  rcases ho with rfl | ho
  · exact ⟨Nat.zero_le _, MZ_newO (by omega)⟩
  · cases ho
theorem law_end {N i : Nat} (hN : N ≤ 2048) (hi : i ≤ N) : (nI N - nI 4 < nI i) = (N < i + 4) := by
  by_cases h4 : 4 ≤ N
  · rw [pk_sub h4, ni_lt (by omega) (by omega)]
    exact propext (by omega)
  · have key : ∀ N, N < 4 → ∀ i, i < 4 → (decide (nI N - nI 4 < nI i)) = true := by decide +kernel
    have := of_decide_eq_true (key N (by omega) i (by omega))
    exact propext ⟨fun _ => by omega, fun _ => this⟩
end LV1

/-! small numbers -/
theorem ni_lt0 {a : Nat} (h : a < 2 ^ 31) : (nI a < 0) = False := eq_false (nI_pos h)
theorem ni_0le {a : Nat} (h : a < 2 ^ 31) : (0 ≤ nI a) = True := eq_true (nI_pos' h)
theorem ni_eq0 {a : Nat} (h : a < 2 ^ 31) : (nI a = 0) = (a = 0) := by
  rw [← nI_0]
  exact propext (nI_eq h (by omega))
theorem ni_0lt {a : Nat} (h : a < 2 ^ 31) : (0 < nI a) = (0 < a) := by
  rw [← nI_0]
  exact propext (nI_ltI (by omega) h)
theorem ni_le0 {a : Nat} (h : a < 2 ^ 31) : (nI a ≤ 0) = (a = 0) := by
  rw [← nI_0]
  refine propext ((nI_leI h (by omega)).trans ?_)
  omega
theorem ni_in {n N : Nat} (h : n < 2 ^ 31) (hN : N < 2 ^ 31) : vp_in (nI n) N = (n < N) := by
  refine propext (vp_in_iff.trans ?_)
  rw [nI_toInt h]
  omega
theorem ni_neg {a : Nat} (h : a < 2 ^ 31) {c : Int32} (hc : c < 0) : (nI a = c) = False := by
  refine eq_false fun q => ?_
  rw [← q] at hc
  exact nI_pos h hc
theorem ni_m9 {a : Nat} (h : a < 2 ^ 31) : (nI a = -9) = False := ni_neg h (by decide)
theorem ni_9m {a : Nat} (h : a < 2 ^ 31) : (-9 = nI a) = False := eq_false fun q => by have := ni_m9 h; rw [← q] at this; exact this.mp rfl
theorem ni_le {a b : Nat} (ha : a < 2 ^ 31) (hb : b < 2 ^ 31) : (nI a ≤ nI b) = (a ≤ b) := propext (nI_leI ha hb)
theorem ni_lt {a b : Nat} (ha : a < 2 ^ 31) (hb : b < 2 ^ 31) : (nI a < nI b) = (a < b) := propext (nI_ltI ha hb)
theorem ni_eq {a b : Nat} (ha : a < 2 ^ 31) (hb : b < 2 ^ 31) : (nI a = nI b) = (a = b) := propext (nI_eq ha hb)
theorem ni_pred {a : Nat} (h : 0 < a) : nI a + (-1) = nI (a - 1) := by
  obtain ⟨b, rfl⟩ : ∃ b, a = b + 1 := ⟨a - 1, by omega⟩
  rw [pk_m1]
  rfl
/-- any int is small and not negative, or is neither -/
theorem pk_sub_toInt' {m : Nat} (hm : m < 2 ^ 31) : (nI m - nI 1).toInt = (m : Int) - 1 := by
  cases m with
  | zero => decide
  | succ k => rw [pk_sub (by omega), nI_toInt (by omega)]; omega
theorem int_cases (x : Int32) (n : Nat) (hn : n < 2 ^ 31) : x < 0 ∨ nI n ≤ x ∨ ∃ j, j < n ∧ x = nI j := pk_ix x hn
theorem up2_ne {α : Type} {f : Nat → Nat → α} {a k i : Nat} {x : α} (h : i ≠ a) : up2 f a k x i = f i := up2_n f k x h
theorem up2_eq {α : Type} {f : Nat → Nat → α} {a k : Nat} {x : α} : up2 f a k x a k = x := by simp [up2]
theorem up2_kn {α : Type} {f : Nat → Nat → α} {a k j : Nat} {x : α} (h : j ≠ k) : up2 f a k x a j = f a j := by simp [up2, h]
theorem vnar0 : vp_nar .boolean (nI 0) = nI 0 := by decide
theorem vnar1 : vp_nar .boolean (nI 1) = nI 1 := by decide
theorem ofN (j : Nat) : Int32.ofNat j = nI j := rfl

/-! the law: what it does with its script, and how a walk of it gives the claim -/
def x_slen (L : Nat) : PT := fun pc lo st μ K _ => match st with
  | .retAddr _ :: r => K (pc + 1) lo (.int (nI L) :: r) μ
  | _ => False
def x_sld (L : Nat) (xs : Nat → Int32) : PT := fun pc lo st μ K _ => match st with
  | .int i :: .retAddr _ :: r => vp_in i L ∧ K (pc + 1) lo (.int (xs i.toNatClampNeg) :: r) μ
  | _ => False
def SndS (L : Nat) (xs : Nat → Int32) (pc : Nat) (f : PT) : Prop :=
  ∀ (l : Launch) (X : XT) (t0 d : Nat) (p : Program) (e : Env) (s : State) (m : MethodId) (args : Array Value) (below : List Frame) (meth : Method) (c : Code) (Z : State → Prop) (Q : QT),
    Good X RL cL_law 4 10 372 false room_1 t0 d p s m args meth c → va_X X.2.2.2 L xs s s.heap → X.2.2.2 < X.2.2.1 → RetOK cL_law (some .boolean) (t0 + d) (AWc l X 4 room_1 t0 d p e s m args below meth c Z) Q →
    ∀ (lo : LO) (st : List Value) (μ : Mu) (K : KT), f pc lo st μ K (Q, CT l X, t0 + d) →
      (∀ (pc' : Nat) (lo' : LO) (st' : List Value) (μ' : Mu), K pc' lo' st' μ' → AWc l X 4 room_1 t0 d p e s m args below meth c Z pc' lo' st' μ') →
      AWc l X 4 room_1 t0 d p e s m args below meth c Z pc lo st μ
section LW1
variable {L : Nat} {xs : Nat → Int32} {pc : Nat}
theorem SndS.of {f : PT} (h : Snd RL cL_law 4 10 372 false (some .boolean) pc f) : SndS L xs pc f := fun l X t0 d p e s m args below meth c Z Q G _ _ R => h l X room_1 t0 d p e s m args below meth c Z Q G R
theorem s_slen (hd : decode cL_law pc = .ok (.arraylength, 1)) : SndS L xs pc (x_slen L) := by
  intro l X t0 d p e s m args below meth c Z Q G hX hbX hret lo st μ K hf hk
  obtain ⟨hx, hb, hml, hown, hts, hKS, hlk, hnm, hbase, hF, hLc, hdc, hds⟩ := G
  unfold x_slen at hf
  split at hf
  · rename_i v r
    intro h1 h2 H locs ls hP hS hL
    have g := hk _ _ _ _ hf h1 h2 H locs ls hP hS hL
    rw [List.map_cons] at g ⊢
    exact va_slen hx hb hX (Nat.lt_of_lt_of_le hbX hbase) (Nat.not_le.mpr hbX) hS hd g
  · exact hf.elim
theorem s_sld (hd : decode cL_law pc = .ok (.iaload, 1)) : SndS L xs pc (x_sld L xs) := by
  intro l X t0 d p e s m args below meth c Z Q G hX hbX hret lo st μ K hf hk
  obtain ⟨hx, hb, hml, hown, hts, hKS, hlk, hnm, hbase, hF, hLc, hdc, hds⟩ := G
  unfold x_sld at hf
  split at hf
  · rename_i i v r
    obtain ⟨hin, hf⟩ := hf
    intro h1 h2 H locs ls hP hS hL
    have g := hk _ _ _ _ hf h1 h2 H locs ls hP hS hL
    rw [List.map_cons] at g
    rw [List.map_cons, List.map_cons]
    exact va_sld hx hb hX (Nat.lt_of_lt_of_le hbX hbase) (Nat.not_le.mpr hbX) hS hin hd g
  · exact hf.elim
def SndSL (L : Nat) (xs : Nat → Int32) : Nat → List PT → Prop
  | _, [] => True
  | pc, f :: fs => SndS L xs pc f ∧ SndSL L xs (pc + 1) fs
theorem SndSL.at : ∀ (fs : List PT) (k pc : Nat), SndSL L xs k fs → k ≤ pc → SndS L xs pc (fs.getD (pc - k) x_bad)
  | [], k, pc, _, _ => by simp only [List.getD_nil]; exact SndS.of s_bad
  | f :: fs, k, pc, h, hk => by
    by_cases e : pc = k
    · subst e
      rw [Nat.sub_self]
      exact h.1
    · have := SndSL.at fs (k + 1) pc h.2 (by omega)
      rw [show pc - k = (pc - (k + 1)) + 1 by omega]
      exact this
theorem SndSL.app : ∀ {a b : List PT} {k : Nat}, SndSL L xs k a → SndSL L xs (k + a.length) b → SndSL L xs k (a ++ b)
  | [], b, k, _, h => h
  | f :: a, b, k, h, h2 => ⟨h.1, SndSL.app h.2 (by
    have : k + (f :: a).length = k + 1 + a.length := by rw [List.length_cons]; omega
    rw [this] at h2
    exact h2)⟩
end LW1
theorem law_ao {i : Nat} {C : String} {s : State} {A : Array Value} (hts : ∀ w ∈ lw_tbl, w.before A s = true) (h : lw_tbl[i]? = some (Cond.arrayOver (.object C))) : ∃ cA : ClassId, ArrOfT s cA (.object C) ∧ va_RA s cA (.object C) ∧ va_AO C s := by
  have hw := hts _ (List.mem_of_getElem? h)
  obtain ⟨comp, cA, kA, h1, h2, h3, h4, h5⟩ := Cond.arrayOver_spec hw
  exact ⟨cA, fun n z => ⟨fun k hh => (by cases hh), kA, h3, comp, h4⟩, ⟨kA, comp, h3, h4, h1, h5⟩, va_AO.of hw⟩
theorem law_ac {ty : FieldType} {s : State} {A : Array Value} (hty : ty = .int ∨ ty = .long ∨ ty = .boolean) (hts : ∀ w ∈ lw_tbl, w.before A s = true) (h : Cond.arrayClass ty ∈ TBG) : ∃ cA : ClassId, ArrOfT s cA ty ∧ va_RA s cA ty := by
  have hw := hts _ (TBG_good _ h).1
  obtain ⟨cA, kA, comp, h1, h2, h3⟩ := Cond.arrayClass_spec hw
  refine ⟨cA, fun n z => ⟨fun k hh => (by cases hh), kA, h2, comp, h3⟩, ?_⟩
  rcases hty with rfl | rfl | rfl <;> exact h1
theorem nok_all : ∀ k, k < 11 → NewOK k := fun k hk => by
  rcases (show k = 0 ∨ k = 1 ∨ k = 2 ∨ k = 3 ∨ k = 4 ∨ k = 5 ∨ k = 6 ∨ k = 7 ∨ k = 8 ∨ k = 9 ∨ k = 10 by omega) with rfl | rfl | rfl | rfl | rfl | rfl | rfl | rfl | rfl | rfl | rfl
  · exact nok_0
  · exact nok_1
  · exact nok_2
  · exact nok_3
  · exact nok_4
  · exact nok_5
  · exact nok_6
  · exact nok_7
  · exact nok_8
  · exact nok_9
  · exact nok_10
theorem law_KS {s : State} {A : Array Value} (hts : ∀ w ∈ lw_tbl, w.before A s = true) : ∃ (D : va_G) (tyf : Nat → ClassId), ∀ base scr : Nat, KS (D, tyf, base, scr) s := by
  have hK : ∀ k : Nat, ∃ (c : ClassId × (Nat → Nat)), ∀ q : vw_C, CL[k]? = some q → u_Kn s q.1 q.2.1 q.2.2 c.1 c.2 := by
    intro k
    by_cases hk : k < 11
    · obtain ⟨-, r, ty, hr, hn, hp, hin, hi, hini, -⟩ := nok_all k hk
      obtain ⟨cC, iS, hu⟩ := u_known (C := r.1) (T := r.2.1) (N := r.2.2) (n := r.2.2) (ws := TBG) (fun w hw => hts w (TBG_good w hw).1) hin (hts _ (TBG_good _ hi).1)
      exact ⟨(cC, iS), fun q hq => by rw [hr] at hq; cases hq; exact hu⟩
    · refine ⟨(0, fun _ => 0), fun q hq => ?_⟩
      have : CL[k]? = none := List.getElem?_eq_none (by show 11 ≤ k; omega)
      rw [this] at hq
      cases hq
  obtain ⟨f, hf⟩ := Classical.skolem.mp hK
  obtain ⟨c0, a0, r0⟩ := law_ac (Or.inl rfl) hts tb_110
  obtain ⟨c1, a1, r1⟩ := law_ac (ty := .long) (Or.inr (Or.inl rfl)) hts tb_1036
  obtain ⟨c2, a2, r2⟩ := law_ac (ty := .boolean) (Or.inr (Or.inr rfl)) hts tb_1035
  obtain ⟨c3, a3, r3, o3⟩ := law_ao (i := 180) (C := RX3) hts (by decide +kernel)
  obtain ⟨c4, a4, r4, o4⟩ := law_ao (i := 182) (C := RX7) hts (by decide +kernel)
  obtain ⟨c5, a5, r5, o5⟩ := law_ao (i := 284) (C := RX1) hts (by decide +kernel)
  refine ⟨(fun k => (f k).1, fun k => (f k).2), fun k => [c0, c1, c2, c3, c4, c5].getD k 0, fun base scr => ⟨⟨fun k q hq => hf k q hq, fun k q hq => ?_⟩, fun w hw => ?_, fun C hC => ?_⟩⟩
  · match k, hq with
    | 0, hq => cases hq; exact ⟨a0, r0⟩
    | 1, hq => cases hq; exact ⟨a1, r1⟩
    | 2, hq => cases hq; exact ⟨a2, r2⟩
    | 3, hq => cases hq; exact ⟨a3, r3⟩
    | 4, hq => cases hq; exact ⟨a4, r4⟩
    | 5, hq => cases hq; exact ⟨a5, r5⟩
    | k + 6, hq => cases hq
  · have hn := NWS_on w hw
    refine va_Nw.of ?_ (hts w (List.mem_filter.mp hw).1)
    cases w <;> first | rfl | cases hn
  · rcases List.mem_cons.mp hC with rfl | hC
    · exact o3
    · rcases List.mem_cons.mp hC with rfl | hC
      · exact o4
      · rcases List.mem_cons.mp hC with rfl | hC
        · exact o5
        · cases hC

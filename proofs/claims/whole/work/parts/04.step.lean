/-! the judgement over abstract states, contracts, and what each instruction does -/
def rmM (y : MD) (d sl : Nat) : Room := { frames := y.2.2.2.2.1, cells := d, slots := sl, locals := y.2.2.2.2.2 }
def wsM (y : MD) : List Cond := Cond.code y.1 y.2.1 y.2.2.1 y.2.2.2.1 :: TBG
def PcM (X : XT) (av : List Value) (μ : Mu) : Array Value → State → Prop := va_Pc (av.map (trv X)) (fun U => RepW X μ U.heap ∧ KS X U)
def QcM (X : XT) (μ : Mu) (d : Nat) (Q : QT) : Array Value → State → Outcome → State → Prop := fun _ st oc t => (∃ (r : Option Value) (μ' : Mu), oc = .returned (r.map (trv X)) ∧ Q r μ' ∧ μ'.2.2.2 = μ.2.2.2 + d ∧ RepW X μ' t.heap) ∧ va_F (frX X) st t
def CT (l : Launch) (X : XT) : CTR := fun y d av μ Q => Met l y.1 (wsM y) (rmM y d (ssz (μ.2.2.2 + d) - ssz μ.2.2.2)) (PcM X av μ) (QcM X μ d Q) d (ssz (μ.2.2.2 + d) - ssz μ.2.2.2) (frX X)
def AWc (l : Launch) (X : XT) (nL : Nat) (R : Room) (t0 d : Nat) (p : Program) (e : Env) (s : State) (m : MethodId) (args : Array Value) (below : List Frame) (meth : Method) (c : Code) (Z : State → Prop) : KT := fun pc lo st μ =>
  t0 ≤ μ.2.2.2 → μ.2.2.2 ≤ t0 + d → ∀ (H : Heap) (locs : List Loc) (ls : Array Slot), RepW X μ H → va_S (frX X) s.heap H locs → LHas X nL ls lo → W p l e R s m args below meth c H locs (μ.2.2.2 - t0) (ssz μ.2.2.2 - ssz t0) Z (F0 m pc ls (st.map (trv X)))
def Good (X : XT) (own : String) (cc : ByteArray) (nL F Lc : Nat) (ini : Bool) (R : Room) (t0 d : Nat) (p : Program) (s : State) (m : MethodId) (args : Array Value) (meth : Method) (c : Code) : Prop :=
  p.tables.exec = Jvm.exec ∧ c.code = cc ∧ c.maxLocals = nL ∧ s.vm.findClass own = some m.cls ∧ (∀ w ∈ TBG, w.before args s = true) ∧ KS X s ∧ meth.locks = false ∧ (ini = true → meth.name = "<init>") ∧ X.2.2.1 ≤ s.heap.size ∧ F ≤ R.frames ∧ Lc ≤ R.locals ∧ d ≤ R.cells ∧ ssz (t0 + d) - ssz t0 ≤ R.slots
def RetOK (cc : ByteArray) (rt : Option FieldType) (lim : Nat) (A : KT) (Q : QT) : Prop :=
  (∀ (pc : Nat) (lo : LO) (v : Int32) (μ : Mu) (ty : FieldType), decode cc pc = .ok (.ireturn, 1) → rt = some ty → narrow ty (.int v) = .int v → μ.2.2.2 = lim → Q (some (.int v)) μ → A pc lo [.int v] μ) ∧
  (∀ (pc : Nat) (lo : LO) (v : Int64) (μ : Mu), decode cc pc = .ok (.lreturn, 1) → rt = some .long → μ.2.2.2 = lim → Q (some (.long v)) μ → A pc lo [.long v] μ) ∧
  (∀ (pc : Nat) (lo : LO) (v : Nat) (μ : Mu) (n : String), decode cc pc = .ok (.areturn, 1) → rt = some (.object n) → μ.2.2.2 = lim → Q (some (.ref v)) μ → A pc lo [.ref v] μ) ∧
  (∀ (pc : Nat) (lo : LO) (μ : Mu), decode cc pc = .ok (.return_, 1) → rt = none → μ.2.2.2 = lim → Q none μ → A pc lo [] μ)
/-- what an instruction's transformer says is so for the machine -/
def Snd (own : String) (cc : ByteArray) (nL F Lc : Nat) (ini : Bool) (rt : Option FieldType) (pc : Nat) (f : PT) : Prop :=
  ∀ (l : Launch) (X : XT) (R : Room) (t0 d : Nat) (p : Program) (e : Env) (s : State) (m : MethodId) (args : Array Value) (below : List Frame) (meth : Method) (c : Code) (Z : State → Prop) (Q : QT),
    Good X own cc nL F Lc ini R t0 d p s m args meth c → RetOK cc rt (t0 + d) (AWc l X nL R t0 d p e s m args below meth c Z) Q →
    ∀ (lo : LO) (st : List Value) (μ : Mu) (K : KT), f pc lo st μ K (Q, CT l X, t0 + d) →
      (∀ (pc' : Nat) (lo' : LO) (st' : List Value) (μ' : Mu), K pc' lo' st' μ' → AWc l X nL R t0 d p e s m args below meth c Z pc' lo' st' μ') →
      AWc l X nL R t0 d p e s m args below meth c Z pc lo st μ
section SX
variable {own : String} {cc : ByteArray} {nL F Lc : Nat} {ini : Bool} {rt : Option FieldType} {pc : Nat}
def x_bad : PT := fun _ _ _ _ _ _ => False
theorem s_bad : Snd own cc nL F Lc ini rt pc x_bad := fun _ _ _ _ _ _ _ _ _ _ _ _ _ _ _ _ _ _ _ _ _ h _ => h.elim

def x_push (v : Value) (n : Nat) : PT := fun pc lo st μ K _ => K (pc + n) lo (v :: st) μ
theorem s_iconst {n : Int} {v : Int32} (hd : decode cc pc = .ok (.iconst n, 1)) (hv : Int32.ofInt n = v) : Snd own cc nL F Lc ini rt pc (x_push (.int v) 1) := by
  intro l X R t0 d p e s m args below meth c Z Q G hret lo st μ K hf hk
  obtain ⟨hx, hb, hml, hown, hts, hKS, hlk, hnm, hbase, hF, hLc, hdc, hds⟩ := G
  exact fun h1 h2 H locs ls hP hS hL => lv_iconst hx hb hd hv (hk _ _ _ _ hf h1 h2 H locs ls hP hS hL)
theorem s_bipush {n : Int} {v : Int32} (hd : decode cc pc = .ok (.bipush n, 2)) (hv : (Int8.ofInt n).toInt32 = v) : Snd own cc nL F Lc ini rt pc (x_push (.int v) 2) := by
  intro l X R t0 d p e s m args below meth c Z Q G hret lo st μ K hf hk
  obtain ⟨hx, hb, hml, hown, hts, hKS, hlk, hnm, hbase, hF, hLc, hdc, hds⟩ := G
  exact fun h1 h2 H locs ls hP hS hL => lv_bipush hx hb hd hv (hk _ _ _ _ hf h1 h2 H locs ls hP hS hL)
theorem s_sipush {n : Int} {v : Int32} (hd : decode cc pc = .ok (.sipush n, 3)) (hv : (Int16.ofInt n).toInt32 = v) : Snd own cc nL F Lc ini rt pc (x_push (.int v) 3) := by
  intro l X R t0 d p e s m args below meth c Z Q G hret lo st μ K hf hk
  obtain ⟨hx, hb, hml, hown, hts, hKS, hlk, hnm, hbase, hF, hLc, hdc, hds⟩ := G
  exact fun h1 h2 H locs ls hP hS hL => lv_sipush hx hb hd hv (hk _ _ _ _ hf h1 h2 H locs ls hP hS hL)
theorem s_ldc {n : Nat} {v : Int32} (hd : decode cc pc = .ok (.ldc n, 2)) (hw : Cond.constant own n v ∈ TBG) : Snd own cc nL F Lc ini rt pc (x_push (.int v) 2) := by
  intro l X R t0 d p e s m args below meth c Z Q G hret lo st μ K hf hk
  obtain ⟨hx, hb, hml, hown, hts, hKS, hlk, hnm, hbase, hF, hLc, hdc, hds⟩ := G
  exact fun h1 h2 H locs ls hP hS hL => lv_ldc hx hb hown (hts _ hw) hd (hk _ _ _ _ hf h1 h2 H locs ls hP hS hL)
theorem s_ldcw {n : Nat} {v : Int32} (hd : decode cc pc = .ok (.ldc_w n, 3)) (hw : Cond.constant own n v ∈ TBG) : Snd own cc nL F Lc ini rt pc (x_push (.int v) 3) := by
  intro l X R t0 d p e s m args below meth c Z Q G hret lo st μ K hf hk
  obtain ⟨hx, hb, hml, hown, hts, hKS, hlk, hnm, hbase, hF, hLc, hdc, hds⟩ := G
  exact fun h1 h2 H locs ls hP hS hL => lv_ldcw hx hb hown (hts _ hw) hd (hk _ _ _ _ hf h1 h2 H locs ls hP hS hL)
theorem s_lconst {n : Fin 2} {v : Int64} (hd : decode cc pc = .ok (.lconst n, 1)) (hv : Int64.ofNat (n : Nat) = v) : Snd own cc nL F Lc ini rt pc (x_push (.long v) 1) := by
  intro l X R t0 d p e s m args below meth c Z Q G hret lo st μ K hf hk
  obtain ⟨hx, hb, hml, hown, hts, hKS, hlk, hnm, hbase, hF, hLc, hdc, hds⟩ := G
  exact fun h1 h2 H locs ls hP hS hL => lv_lconst hx hb hd hv (hk _ _ _ _ hf h1 h2 H locs ls hP hS hL)
theorem s_ldc2 {n : Nat} {v : Int64} (hd : decode cc pc = .ok (.ldc2_w n, 3)) (hw : Cond.constantLong own n v ∈ TBG) : Snd own cc nL F Lc ini rt pc (x_push (.long v) 3) := by
  intro l X R t0 d p e s m args below meth c Z Q G hret lo st μ K hf hk
  obtain ⟨hx, hb, hml, hown, hts, hKS, hlk, hnm, hbase, hF, hLc, hdc, hds⟩ := G
  exact fun h1 h2 H locs ls hP hS hL => lv_ldc2 hx hb hown (hts _ hw) hd (hk _ _ _ _ hf h1 h2 H locs ls hP hS hL)
def x_iload (i n : Nat) : PT := fun pc lo st μ K _ => match lo[i]? with
  | some (some (.int v)) => K (pc + n) lo (.int v :: st) μ
  | _ => False
theorem s_iload_n {k : Fin 4} {i : Nat} (hd : decode cc pc = .ok (.iload_n k, 1)) (hi : (k : Nat) = i) : Snd own cc nL F Lc ini rt pc (x_iload i 1) := by
  intro l X R t0 d p e s m args below meth c Z Q G hret lo st μ K hf hk
  obtain ⟨hx, hb, hml, hown, hts, hKS, hlk, hnm, hbase, hF, hLc, hdc, hds⟩ := G
  unfold x_iload at hf
  split at hf
  · rename_i v hv
    exact fun h1 h2 H locs ls hP hS hL => lv_iload_n hx hb hd hi (hL.at hv) (hk _ _ _ _ hf h1 h2 H locs ls hP hS hL)
  · exact hf.elim
theorem s_iload {i : Nat} (hd : decode cc pc = .ok (.iload i, 2)) : Snd own cc nL F Lc ini rt pc (x_iload i 2) := by
  intro l X R t0 d p e s m args below meth c Z Q G hret lo st μ K hf hk
  obtain ⟨hx, hb, hml, hown, hts, hKS, hlk, hnm, hbase, hF, hLc, hdc, hds⟩ := G
  unfold x_iload at hf
  split at hf
  · rename_i v hv
    exact fun h1 h2 H locs ls hP hS hL => lv_iload hx hb hd (hL.at hv) (hk _ _ _ _ hf h1 h2 H locs ls hP hS hL)
  · exact hf.elim
def x_lload (i n : Nat) : PT := fun pc lo st μ K _ => match lo[i]? with
  | some (some (.long v)) => K (pc + n) lo (.long v :: st) μ
  | _ => False
theorem s_lload_n {k : Fin 4} {i : Nat} (hd : decode cc pc = .ok (.lload_n k, 1)) (hi : (k : Nat) = i) : Snd own cc nL F Lc ini rt pc (x_lload i 1) := by
  intro l X R t0 d p e s m args below meth c Z Q G hret lo st μ K hf hk
  obtain ⟨hx, hb, hml, hown, hts, hKS, hlk, hnm, hbase, hF, hLc, hdc, hds⟩ := G
  unfold x_lload at hf
  split at hf
  · rename_i v hv
    exact fun h1 h2 H locs ls hP hS hL => lv_lload_n hx hb hd hi (hL.at hv) (hk _ _ _ _ hf h1 h2 H locs ls hP hS hL)
  · exact hf.elim
theorem s_lload {i : Nat} (hd : decode cc pc = .ok (.lload i, 2)) : Snd own cc nL F Lc ini rt pc (x_lload i 2) := by
  intro l X R t0 d p e s m args below meth c Z Q G hret lo st μ K hf hk
  obtain ⟨hx, hb, hml, hown, hts, hKS, hlk, hnm, hbase, hF, hLc, hdc, hds⟩ := G
  unfold x_lload at hf
  split at hf
  · rename_i v hv
    exact fun h1 h2 H locs ls hP hS hL => lv_lload hx hb hd (hL.at hv) (hk _ _ _ _ hf h1 h2 H locs ls hP hS hL)
  · exact hf.elim
def x_aload (i n : Nat) : PT := fun pc lo st μ K _ => match lo[i]? with
  | some (some (.ref v)) => K (pc + n) lo (.ref v :: st) μ
  | _ => False
theorem s_aload_n {k : Fin 4} {i : Nat} (hd : decode cc pc = .ok (.aload_n k, 1)) (hi : (k : Nat) = i) : Snd own cc nL F Lc ini rt pc (x_aload i 1) := by
  intro l X R t0 d p e s m args below meth c Z Q G hret lo st μ K hf hk
  obtain ⟨hx, hb, hml, hown, hts, hKS, hlk, hnm, hbase, hF, hLc, hdc, hds⟩ := G
  unfold x_aload at hf
  split at hf
  · rename_i v hv
    exact fun h1 h2 H locs ls hP hS hL => lv_aload_n hx hb hd hi (hL.at hv) (hk _ _ _ _ hf h1 h2 H locs ls hP hS hL)
  · exact hf.elim
theorem s_aload {i : Nat} (hd : decode cc pc = .ok (.aload i, 2)) : Snd own cc nL F Lc ini rt pc (x_aload i 2) := by
  intro l X R t0 d p e s m args below meth c Z Q G hret lo st μ K hf hk
  obtain ⟨hx, hb, hml, hown, hts, hKS, hlk, hnm, hbase, hF, hLc, hdc, hds⟩ := G
  unfold x_aload at hf
  split at hf
  · rename_i v hv
    exact fun h1 h2 H locs ls hP hS hL => lv_aload hx hb hd (hL.at hv) (hk _ _ _ _ hf h1 h2 H locs ls hP hS hL)
  · exact hf.elim
def x_sload (i n : Nat) : PT := fun pc lo st μ K _ => match lo[i]? with
  | some (some (.retAddr v)) => K (pc + n) lo (.retAddr v :: st) μ
  | _ => False
theorem s_sload_n {k : Fin 4} {i : Nat} (hd : decode cc pc = .ok (.aload_n k, 1)) (hi : (k : Nat) = i) : Snd own cc nL F Lc ini rt pc (x_sload i 1) := by
  intro l X R t0 d p e s m args below meth c Z Q G hret lo st μ K hf hk
  obtain ⟨hx, hb, hml, hown, hts, hKS, hlk, hnm, hbase, hF, hLc, hdc, hds⟩ := G
  unfold x_sload at hf
  split at hf
  · rename_i v hv
    exact fun h1 h2 H locs ls hP hS hL => lv_aload_n hx hb hd hi (hL.at hv) (hk _ _ _ _ hf h1 h2 H locs ls hP hS hL)
  · exact hf.elim
theorem set_at {α : Type} {l : List α} {i : Nat} {a b : α} (h : (l.set i a)[i]? = some b) : b = a := by
  have hl : i < l.length := by
    have := (List.getElem?_eq_some_iff.mp h).1
    simpa using this
  rw [List.getElem?_set_self hl] at h
  exact (Option.some.inj h).symm
theorem LHas.store1 {X : XT} {nL : Nat} {ls : Array Slot} {lo : LO} {i : Nat} {v : Value} {ls' : Array Slot} (h' : lv_has ls' nL ((i, trv X v) :: (lvl X 0 lo).filter (fun q => !(q.1 == i) && !(q.1 + 1 == i && q.2.category == 2)))) (hc : ∀ w, lo[i - 1]? = some (some w) → w.category = 2 → isL (some w) = true) : LHas X nL ls' (lset lo i v) := by
  refine ⟨h'.1, h'.2.1, fun q hq => h'.2.2 q ?_⟩
  obtain ⟨j, w⟩ := q
  obtain ⟨u, -, h2, rfl⟩ := (lvl_mem _ j 0 w).mp hq
  rw [Nat.sub_zero] at h2
  by_cases hj : j = i
  · subst hj
    unfold lset at h2
    have h3 : u = v := Option.some.inj (set_at h2)
    rw [h3]
    exact List.mem_cons_self
  · have h4 : lo[j]? = some (some u) ∧ ¬ (j + 1 = i ∧ u.category = 2) := by
      unfold lset at h2
      rw [List.getElem?_set_ne (Ne.symm hj)] at h2
      split at h2
      · rename_i hl
        by_cases hj1 : i - 1 = j
        · rw [hj1] at h2
          cases set_at h2
        · rw [List.getElem?_set_ne hj1] at h2
          exact ⟨h2, fun hh => hj1 (by omega)⟩
      · rename_i hl
        refine ⟨h2, fun hh => hl ?_⟩
        have e : i - 1 = j := by omega
        rw [List.getD_eq_getElem?_getD, e, h2]
        exact hc u (by rw [e]; exact h2) hh.2
    refine List.mem_cons_of_mem _ (List.mem_filter.mpr ⟨(lvl_mem lo j 0 _).mpr ⟨u, Nat.zero_le _, by simpa using h4.1, rfl⟩, ?_⟩)
    have h5 := h4.2
    simp only [trv_cat, Bool.and_eq_true, Bool.not_eq_true', beq_eq_false_iff_ne, ne_eq]
    refine ⟨hj, ?_⟩
    rw [Bool.and_eq_false_iff]
    by_cases h6 : j + 1 = i
    · right; simp; exact fun hh => h5 ⟨h6, hh⟩
    · left; simp [h6]
theorem LHas.store2 {X : XT} {nL : Nat} {ls : Array Slot} {lo : LO} {i : Nat} {v : Value} {ls' : Array Slot} (h' : lv_has ls' nL ((i, trv X v) :: (lvl X 0 lo).filter (fun q => !(q.1 == i) && (!(q.1 == i + 1) && !(q.1 + 1 == i && q.2.category == 2))))) (hc : ∀ w, lo[i - 1]? = some (some w) → w.category = 2 → isL (some w) = true) : LHas X nL ls' (lset2 lo i v) := by
  refine ⟨h'.1, h'.2.1, fun q hq => h'.2.2 q ?_⟩
  obtain ⟨j, w⟩ := q
  obtain ⟨u, -, h2, rfl⟩ := (lvl_mem _ j 0 w).mp hq
  rw [Nat.sub_zero] at h2
  by_cases hj : j = i
  · subst hj
    unfold lset2 at h2
    have h3 : u = v := Option.some.inj (set_at h2)
    rw [h3]
    exact List.mem_cons_self
  · have h4 : lo[j]? = some (some u) ∧ ¬ j = i + 1 ∧ ¬ (j + 1 = i ∧ u.category = 2) := by
      unfold lset2 at h2
      rw [List.getElem?_set_ne (Ne.symm hj)] at h2
      by_cases hji : j = i + 1
      · subst hji
        cases set_at h2
      · rw [List.getElem?_set_ne (Ne.symm hji)] at h2
        split at h2
        · rename_i hl
          by_cases hj1 : i - 1 = j
          · rw [hj1] at h2
            cases set_at h2
          · rw [List.getElem?_set_ne hj1] at h2
            exact ⟨h2, hji, fun hh => hj1 (by omega)⟩
        · rename_i hl
          refine ⟨h2, hji, fun hh => hl ?_⟩
          have e : i - 1 = j := by omega
          rw [List.getD_eq_getElem?_getD, e, h2]
          exact hc u (by rw [e]; exact h2) hh.2
    refine List.mem_cons_of_mem _ (List.mem_filter.mpr ⟨(lvl_mem lo j 0 _).mpr ⟨u, Nat.zero_le _, by simpa using h4.1, rfl⟩, ?_⟩)
    have h5 := h4.2.2
    simp only [trv_cat, Bool.and_eq_true, Bool.not_eq_true', beq_eq_false_iff_ne, ne_eq]
    refine ⟨hj, h4.2.1, ?_⟩
    rw [Bool.and_eq_false_iff]
    by_cases h6 : j + 1 = i
    · right; simp; exact fun hh => h5 ⟨h6, hh⟩
    · left; simp [h6]
/-- no double lies in the locals -/
def noD (o : Option Value) : Bool := match o with
  | some (.double _) => false
  | _ => true
theorem noD_c {lo : LO} {j : Nat} (h : noD (lo.getD j none) = true) : ∀ w, lo[j]? = some (some w) → w.category = 2 → isL (some w) = true := by
  intro w hw hc
  rw [List.getD_eq_getElem?_getD, hw] at h
  cases w <;> first | rfl | (cases hc; done) | (simp [noD] at h; done)
def x_istore (i n : Nat) : PT := fun pc lo st μ K _ => match st with
  | .int v :: r => noD (lo.getD (i - 1) none) = true ∧ K (pc + n) (lset lo i (.int v)) r μ
  | _ => False
theorem s_istore_n {k : Fin 4} {i : Nat} (hd : decode cc pc = .ok (.istore_n k, 1)) (hi : (k : Nat) = i) (hn : i < nL) : Snd own cc nL F Lc ini rt pc (x_istore i 1) := by
  intro l X R t0 d p e s m args below meth c Z Q G hret lo st μ K hf hk
  obtain ⟨hx, hb, hml, hown, hts, hKS, hlk, hnm, hbase, hF, hLc, hdc, hds⟩ := G
  unfold x_istore at hf
  split at hf
  · rename_i v r
    exact fun h1 h2 H locs ls hP hS hL => lv_istore_n hx hb hd hi hL hn rfl (fun ls' hL' => hk _ _ _ _ hf.2 h1 h2 H locs ls' hP hS (LHas.store1 (ls := ls) (v := .int v) hL' (noD_c hf.1)))
  · exact hf.elim
theorem s_istore {i : Nat} (hd : decode cc pc = .ok (.istore i, 2)) (hn : i < nL) : Snd own cc nL F Lc ini rt pc (x_istore i 2) := by
  intro l X R t0 d p e s m args below meth c Z Q G hret lo st μ K hf hk
  obtain ⟨hx, hb, hml, hown, hts, hKS, hlk, hnm, hbase, hF, hLc, hdc, hds⟩ := G
  unfold x_istore at hf
  split at hf
  · rename_i v r
    exact fun h1 h2 H locs ls hP hS hL => lv_istore hx hb hd hL hn rfl (fun ls' hL' => hk _ _ _ _ hf.2 h1 h2 H locs ls' hP hS (LHas.store1 (ls := ls) (v := .int v) hL' (noD_c hf.1)))
  · exact hf.elim
def x_lstore (i n : Nat) : PT := fun pc lo st μ K _ => match st with
  | .long v :: r => noD (lo.getD (i - 1) none) = true ∧ K (pc + n) (lset2 lo i (.long v)) r μ
  | _ => False
theorem s_lstore_n {k : Fin 4} {i : Nat} (hd : decode cc pc = .ok (.lstore_n k, 1)) (hi : (k : Nat) = i) (hn : i + 1 < nL) : Snd own cc nL F Lc ini rt pc (x_lstore i 1) := by
  intro l X R t0 d p e s m args below meth c Z Q G hret lo st μ K hf hk
  obtain ⟨hx, hb, hml, hown, hts, hKS, hlk, hnm, hbase, hF, hLc, hdc, hds⟩ := G
  unfold x_lstore at hf
  split at hf
  · rename_i v r
    exact fun h1 h2 H locs ls hP hS hL => lv_lstore_n hx hb hd hi hL hn rfl (fun ls' hL' => hk _ _ _ _ hf.2 h1 h2 H locs ls' hP hS (LHas.store2 (ls := ls) (v := .long v) hL' (noD_c hf.1)))
  · exact hf.elim
theorem s_lstore {i : Nat} (hd : decode cc pc = .ok (.lstore i, 2)) (hn : i + 1 < nL) : Snd own cc nL F Lc ini rt pc (x_lstore i 2) := by
  intro l X R t0 d p e s m args below meth c Z Q G hret lo st μ K hf hk
  obtain ⟨hx, hb, hml, hown, hts, hKS, hlk, hnm, hbase, hF, hLc, hdc, hds⟩ := G
  unfold x_lstore at hf
  split at hf
  · rename_i v r
    exact fun h1 h2 H locs ls hP hS hL => lv_lstore hx hb hd hL hn rfl (fun ls' hL' => hk _ _ _ _ hf.2 h1 h2 H locs ls' hP hS (LHas.store2 (ls := ls) (v := .long v) hL' (noD_c hf.1)))
  · exact hf.elim
def x_astore (i n : Nat) : PT := fun pc lo st μ K _ => match st with
  | .ref v :: r => noD (lo.getD (i - 1) none) = true ∧ K (pc + n) (lset lo i (.ref v)) r μ
  | _ => False
theorem s_astore_n {k : Fin 4} {i : Nat} (hd : decode cc pc = .ok (.astore_n k, 1)) (hi : (k : Nat) = i) (hn : i < nL) : Snd own cc nL F Lc ini rt pc (x_astore i 1) := by
  intro l X R t0 d p e s m args below meth c Z Q G hret lo st μ K hf hk
  obtain ⟨hx, hb, hml, hown, hts, hKS, hlk, hnm, hbase, hF, hLc, hdc, hds⟩ := G
  unfold x_astore at hf
  split at hf
  · rename_i v r
    exact fun h1 h2 H locs ls hP hS hL => lv_astore_n hx hb hd hi hL hn rfl (fun ls' hL' => hk _ _ _ _ hf.2 h1 h2 H locs ls' hP hS (LHas.store1 (ls := ls) (v := .ref v) hL' (noD_c hf.1)))
  · exact hf.elim
theorem s_astore {i : Nat} (hd : decode cc pc = .ok (.astore i, 2)) (hn : i < nL) : Snd own cc nL F Lc ini rt pc (x_astore i 2) := by
  intro l X R t0 d p e s m args below meth c Z Q G hret lo st μ K hf hk
  obtain ⟨hx, hb, hml, hown, hts, hKS, hlk, hnm, hbase, hF, hLc, hdc, hds⟩ := G
  unfold x_astore at hf
  split at hf
  · rename_i v r
    exact fun h1 h2 H locs ls hP hS hL => lv_astore hx hb hd hL hn rfl (fun ls' hL' => hk _ _ _ _ hf.2 h1 h2 H locs ls' hP hS (LHas.store1 (ls := ls) (v := .ref v) hL' (noD_c hf.1)))
  · exact hf.elim
def x_iinc (i : Nat) (n : Int32) : PT := fun pc lo st μ K _ => match lo[i]? with
  | some (some (.int v)) => noD (lo.getD (i - 1) none) = true ∧ K (pc + 3) (lset lo i (.int (v + n))) st μ
  | _ => False
theorem s_iinc {i : Nat} {n : Int} {w : Int32} (hd : decode cc pc = .ok (.iinc i n, 3)) (hw : Int32.ofInt n = w) (hn : i < nL) : Snd own cc nL F Lc ini rt pc (x_iinc i w) := by
  intro l X R t0 d p e s m args below meth c Z Q G hret lo st μ K hf hk
  obtain ⟨hx, hb, hml, hown, hts, hKS, hlk, hnm, hbase, hF, hLc, hdc, hds⟩ := G
  unfold x_iinc at hf
  split at hf
  · rename_i v hv
    intro h1 h2 H locs ls hP hS hL
    have hm := (lvl_mem (X := X) lo i 0 (.int v)).mpr ⟨.int v, Nat.zero_le _, by simpa using hv, rfl⟩
    obtain ⟨k, hk2⟩ := List.getElem?_of_mem hm
    exact lv_iinc hx hb hd hL hk2 (by rw [hw]) hn rfl (fun ls' hL' => hk _ _ _ _ hf.2 h1 h2 H locs ls' hP hS (LHas.store1 (ls := ls) (v := .int (v + w)) hL' (noD_c hf.1)))
  · exact hf.elim
def x_ii (f : Int32 → Int32 → Int32) : PT := fun pc lo st μ K _ => match st with
  | .int b :: .int a :: r => K (pc + 1) lo (.int (f a b) :: r) μ
  | _ => False
def x_ll (f : Int64 → Int64 → Int64) : PT := fun pc lo st μ K _ => match st with
  | .long b :: .long a :: r => K (pc + 1) lo (.long (f a b) :: r) μ
  | _ => False
theorem s_iadd (hd : decode cc pc = .ok (.iadd, 1)) : Snd own cc nL F Lc ini rt pc (x_ii (fun a b => a + b)) := by
  intro l X R t0 d p e s m args below meth c Z Q G hret lo st μ K hf hk
  obtain ⟨hx, hb, hml, hown, hts, hKS, hlk, hnm, hbase, hF, hLc, hdc, hds⟩ := G
  unfold x_ii at hf
  split at hf
  · rename_i b a r
    exact fun h1 h2 H locs ls hP hS hL => lv_iadd hx hb hd (hk _ _ _ _ hf h1 h2 H locs ls hP hS hL)
  · exact hf.elim
theorem s_isub (hd : decode cc pc = .ok (.isub, 1)) : Snd own cc nL F Lc ini rt pc (x_ii (fun a b => a - b)) := by
  intro l X R t0 d p e s m args below meth c Z Q G hret lo st μ K hf hk
  obtain ⟨hx, hb, hml, hown, hts, hKS, hlk, hnm, hbase, hF, hLc, hdc, hds⟩ := G
  unfold x_ii at hf
  split at hf
  · rename_i b a r
    exact fun h1 h2 H locs ls hP hS hL => lv_isub hx hb hd (hk _ _ _ _ hf h1 h2 H locs ls hP hS hL)
  · exact hf.elim
theorem s_imul (hd : decode cc pc = .ok (.imul, 1)) : Snd own cc nL F Lc ini rt pc (x_ii (fun a b => a * b)) := by
  intro l X R t0 d p e s m args below meth c Z Q G hret lo st μ K hf hk
  obtain ⟨hx, hb, hml, hown, hts, hKS, hlk, hnm, hbase, hF, hLc, hdc, hds⟩ := G
  unfold x_ii at hf
  split at hf
  · rename_i b a r
    exact fun h1 h2 H locs ls hP hS hL => lv_imul hx hb hd (hk _ _ _ _ hf h1 h2 H locs ls hP hS hL)
  · exact hf.elim
theorem s_iand (hd : decode cc pc = .ok (.iand, 1)) : Snd own cc nL F Lc ini rt pc (x_ii (fun a b => a &&& b)) := by
  intro l X R t0 d p e s m args below meth c Z Q G hret lo st μ K hf hk
  obtain ⟨hx, hb, hml, hown, hts, hKS, hlk, hnm, hbase, hF, hLc, hdc, hds⟩ := G
  unfold x_ii at hf
  split at hf
  · rename_i b a r
    exact fun h1 h2 H locs ls hP hS hL => lv_iand hx hb hd (hk _ _ _ _ hf h1 h2 H locs ls hP hS hL)
  · exact hf.elim
theorem s_ior (hd : decode cc pc = .ok (.ior, 1)) : Snd own cc nL F Lc ini rt pc (x_ii (fun a b => a ||| b)) := by
  intro l X R t0 d p e s m args below meth c Z Q G hret lo st μ K hf hk
  obtain ⟨hx, hb, hml, hown, hts, hKS, hlk, hnm, hbase, hF, hLc, hdc, hds⟩ := G
  unfold x_ii at hf
  split at hf
  · rename_i b a r
    exact fun h1 h2 H locs ls hP hS hL => lv_ior hx hb hd (hk _ _ _ _ hf h1 h2 H locs ls hP hS hL)
  · exact hf.elim
theorem s_ixor (hd : decode cc pc = .ok (.ixor, 1)) : Snd own cc nL F Lc ini rt pc (x_ii (fun a b => a ^^^ b)) := by
  intro l X R t0 d p e s m args below meth c Z Q G hret lo st μ K hf hk
  obtain ⟨hx, hb, hml, hown, hts, hKS, hlk, hnm, hbase, hF, hLc, hdc, hds⟩ := G
  unfold x_ii at hf
  split at hf
  · rename_i b a r
    exact fun h1 h2 H locs ls hP hS hL => lv_ixor hx hb hd (hk _ _ _ _ hf h1 h2 H locs ls hP hS hL)
  · exact hf.elim
theorem s_ishl (hd : decode cc pc = .ok (.ishl, 1)) : Snd own cc nL F Lc ini rt pc (x_ii (fun a b => a <<< (b &&& 31))) := by
  intro l X R t0 d p e s m args below meth c Z Q G hret lo st μ K hf hk
  obtain ⟨hx, hb, hml, hown, hts, hKS, hlk, hnm, hbase, hF, hLc, hdc, hds⟩ := G
  unfold x_ii at hf
  split at hf
  · rename_i b a r
    exact fun h1 h2 H locs ls hP hS hL => lv_ishl hx hb hd (hk _ _ _ _ hf h1 h2 H locs ls hP hS hL)
  · exact hf.elim
theorem s_ishr (hd : decode cc pc = .ok (.ishr, 1)) : Snd own cc nL F Lc ini rt pc (x_ii (fun a b => a >>> (b &&& 31))) := by
  intro l X R t0 d p e s m args below meth c Z Q G hret lo st μ K hf hk
  obtain ⟨hx, hb, hml, hown, hts, hKS, hlk, hnm, hbase, hF, hLc, hdc, hds⟩ := G
  unfold x_ii at hf
  split at hf
  · rename_i b a r
    exact fun h1 h2 H locs ls hP hS hL => lv_ishr hx hb hd (hk _ _ _ _ hf h1 h2 H locs ls hP hS hL)
  · exact hf.elim
theorem s_ladd (hd : decode cc pc = .ok (.ladd, 1)) : Snd own cc nL F Lc ini rt pc (x_ll (fun a b => a + b)) := by
  intro l X R t0 d p e s m args below meth c Z Q G hret lo st μ K hf hk
  obtain ⟨hx, hb, hml, hown, hts, hKS, hlk, hnm, hbase, hF, hLc, hdc, hds⟩ := G
  unfold x_ll at hf
  split at hf
  · rename_i b a r
    exact fun h1 h2 H locs ls hP hS hL => lv_ladd hx hb hd (hk _ _ _ _ hf h1 h2 H locs ls hP hS hL)
  · exact hf.elim
theorem s_lsub (hd : decode cc pc = .ok (.lsub, 1)) : Snd own cc nL F Lc ini rt pc (x_ll (fun a b => a - b)) := by
  intro l X R t0 d p e s m args below meth c Z Q G hret lo st μ K hf hk
  obtain ⟨hx, hb, hml, hown, hts, hKS, hlk, hnm, hbase, hF, hLc, hdc, hds⟩ := G
  unfold x_ll at hf
  split at hf
  · rename_i b a r
    exact fun h1 h2 H locs ls hP hS hL => lv_lsub hx hb hd (hk _ _ _ _ hf h1 h2 H locs ls hP hS hL)
  · exact hf.elim
theorem s_lmul (hd : decode cc pc = .ok (.lmul, 1)) : Snd own cc nL F Lc ini rt pc (x_ll (fun a b => a * b)) := by
  intro l X R t0 d p e s m args below meth c Z Q G hret lo st μ K hf hk
  obtain ⟨hx, hb, hml, hown, hts, hKS, hlk, hnm, hbase, hF, hLc, hdc, hds⟩ := G
  unfold x_ll at hf
  split at hf
  · rename_i b a r
    exact fun h1 h2 H locs ls hP hS hL => lv_lmul hx hb hd (hk _ _ _ _ hf h1 h2 H locs ls hP hS hL)
  · exact hf.elim
theorem s_land (hd : decode cc pc = .ok (.land, 1)) : Snd own cc nL F Lc ini rt pc (x_ll (fun a b => a &&& b)) := by
  intro l X R t0 d p e s m args below meth c Z Q G hret lo st μ K hf hk
  obtain ⟨hx, hb, hml, hown, hts, hKS, hlk, hnm, hbase, hF, hLc, hdc, hds⟩ := G
  unfold x_ll at hf
  split at hf
  · rename_i b a r
    exact fun h1 h2 H locs ls hP hS hL => lv_land hx hb hd (hk _ _ _ _ hf h1 h2 H locs ls hP hS hL)
  · exact hf.elim
theorem s_lor (hd : decode cc pc = .ok (.lor, 1)) : Snd own cc nL F Lc ini rt pc (x_ll (fun a b => a ||| b)) := by
  intro l X R t0 d p e s m args below meth c Z Q G hret lo st μ K hf hk
  obtain ⟨hx, hb, hml, hown, hts, hKS, hlk, hnm, hbase, hF, hLc, hdc, hds⟩ := G
  unfold x_ll at hf
  split at hf
  · rename_i b a r
    exact fun h1 h2 H locs ls hP hS hL => lv_lor hx hb hd (hk _ _ _ _ hf h1 h2 H locs ls hP hS hL)
  · exact hf.elim
theorem s_lxor (hd : decode cc pc = .ok (.lxor, 1)) : Snd own cc nL F Lc ini rt pc (x_ll (fun a b => a ^^^ b)) := by
  intro l X R t0 d p e s m args below meth c Z Q G hret lo st μ K hf hk
  obtain ⟨hx, hb, hml, hown, hts, hKS, hlk, hnm, hbase, hF, hLc, hdc, hds⟩ := G
  unfold x_ll at hf
  split at hf
  · rename_i b a r
    exact fun h1 h2 H locs ls hP hS hL => lv_lxor hx hb hd (hk _ _ _ _ hf h1 h2 H locs ls hP hS hL)
  · exact hf.elim
theorem s_iushr (hd : decode cc pc = .ok (.iushr, 1)) : Snd own cc nL F Lc ini rt pc (x_ii (fun a b => (a.toUInt32 >>> (b.toUInt32 &&& Int32.toUInt32 31)).toInt32)) := by
  intro l X R t0 d p e s m args below meth c Z Q G hret lo st μ K hf hk
  obtain ⟨hx, hb, hml, hown, hts, hKS, hlk, hnm, hbase, hF, hLc, hdc, hds⟩ := G
  unfold x_ii at hf
  split at hf
  · rename_i b a r
    exact fun h1 h2 H locs ls hP hS hL => lv_iushr hx hb hd rfl (hk _ _ _ _ hf h1 h2 H locs ls hP hS hL)
  · exact hf.elim
def x_li (f : Int64 → Int32 → Int64) : PT := fun pc lo st μ K _ => match st with
  | .int b :: .long a :: r => K (pc + 1) lo (.long (f a b) :: r) μ
  | _ => False
theorem s_lushr (hd : decode cc pc = .ok (.lushr, 1)) : Snd own cc nL F Lc ini rt pc (x_li (fun a b => (a.toUInt64 >>> (b.toInt64.toUInt64 &&& Int64.toUInt64 63)).toInt64)) := by
  intro l X R t0 d p e s m args below meth c Z Q G hret lo st μ K hf hk
  obtain ⟨hx, hb, hml, hown, hts, hKS, hlk, hnm, hbase, hF, hLc, hdc, hds⟩ := G
  unfold x_li at hf
  split at hf
  · rename_i b a r
    exact fun h1 h2 H locs ls hP hS hL => lv_lushr hx hb hd rfl (hk _ _ _ _ hf h1 h2 H locs ls hP hS hL)
  · exact hf.elim
theorem s_lshl (hd : decode cc pc = .ok (.lshl, 1)) : Snd own cc nL F Lc ini rt pc (x_li (fun a b => a <<< (b.toInt64 &&& 63))) := by
  intro l X R t0 d p e s m args below meth c Z Q G hret lo st μ K hf hk
  obtain ⟨hx, hb, hml, hown, hts, hKS, hlk, hnm, hbase, hF, hLc, hdc, hds⟩ := G
  unfold x_li at hf
  split at hf
  · rename_i b a r
    exact fun h1 h2 H locs ls hP hS hL => lv_lshl hx hb hd rfl (hk _ _ _ _ hf h1 h2 H locs ls hP hS hL)
  · exact hf.elim
theorem s_lshr (hd : decode cc pc = .ok (.lshr, 1)) : Snd own cc nL F Lc ini rt pc (x_li (fun a b => a >>> (b.toInt64 &&& 63))) := by
  intro l X R t0 d p e s m args below meth c Z Q G hret lo st μ K hf hk
  obtain ⟨hx, hb, hml, hown, hts, hKS, hlk, hnm, hbase, hF, hLc, hdc, hds⟩ := G
  unfold x_li at hf
  split at hf
  · rename_i b a r
    exact fun h1 h2 H locs ls hP hS hL => lv_lshr hx hb hd rfl (hk _ _ _ _ hf h1 h2 H locs ls hP hS hL)
  · exact hf.elim
def x_idiv : PT := fun pc lo st μ K _ => match st with
  | .int b :: .int a :: r => ¬ b = 0 ∧ K (pc + 1) lo (.int ((fun a b => a / b) a b) :: r) μ
  | _ => False
theorem s_idiv (hd : decode cc pc = .ok (.idiv, 1)) : Snd own cc nL F Lc ini rt pc x_idiv := by
  intro l X R t0 d p e s m args below meth c Z Q G hret lo st μ K hf hk
  obtain ⟨hx, hb, hml, hown, hts, hKS, hlk, hnm, hbase, hF, hLc, hdc, hds⟩ := G
  unfold x_idiv at hf
  split at hf
  · rename_i b a r
    exact fun h1 h2 H locs ls hP hS hL => lv_idiv hx hb hd hf.1 (hk _ _ _ _ hf.2 h1 h2 H locs ls hP hS hL)
  · exact hf.elim
def x_irem : PT := fun pc lo st μ K _ => match st with
  | .int b :: .int a :: r => ¬ b = 0 ∧ K (pc + 1) lo (.int ((fun a b => a - a / b * b) a b) :: r) μ
  | _ => False
theorem s_irem (hd : decode cc pc = .ok (.irem, 1)) : Snd own cc nL F Lc ini rt pc x_irem := by
  intro l X R t0 d p e s m args below meth c Z Q G hret lo st μ K hf hk
  obtain ⟨hx, hb, hml, hown, hts, hKS, hlk, hnm, hbase, hF, hLc, hdc, hds⟩ := G
  unfold x_irem at hf
  split at hf
  · rename_i b a r
    exact fun h1 h2 H locs ls hP hS hL => lv_irem hx hb hd hf.1 (hk _ _ _ _ hf.2 h1 h2 H locs ls hP hS hL)
  · exact hf.elim
def x_i2l : PT := fun pc lo st μ K _ => match st with
  | .int a :: r => K (pc + 1) lo (.long a.toInt64 :: r) μ
  | _ => False
theorem s_i2l (hd : decode cc pc = .ok (.i2l, 1)) : Snd own cc nL F Lc ini rt pc x_i2l := by
  intro l X R t0 d p e s m args below meth c Z Q G hret lo st μ K hf hk
  obtain ⟨hx, hb, hml, hown, hts, hKS, hlk, hnm, hbase, hF, hLc, hdc, hds⟩ := G
  unfold x_i2l at hf
  split at hf
  · exact fun h1 h2 H locs ls hP hS hL => lv_i2l hx hb hd rfl (hk _ _ _ _ hf h1 h2 H locs ls hP hS hL)
  · exact hf.elim
def x_l2i : PT := fun pc lo st μ K _ => match st with
  | .long a :: r => K (pc + 1) lo (.int a.toInt32 :: r) μ
  | _ => False
theorem s_l2i (hd : decode cc pc = .ok (.l2i, 1)) : Snd own cc nL F Lc ini rt pc x_l2i := by
  intro l X R t0 d p e s m args below meth c Z Q G hret lo st μ K hf hk
  obtain ⟨hx, hb, hml, hown, hts, hKS, hlk, hnm, hbase, hF, hLc, hdc, hds⟩ := G
  unfold x_l2i at hf
  split at hf
  · exact fun h1 h2 H locs ls hP hS hL => lv_l2i hx hb hd rfl (hk _ _ _ _ hf h1 h2 H locs ls hP hS hL)
  · exact hf.elim
def x_lcmp : PT := fun pc lo st μ K _ => match st with
  | .long b :: .long a :: r => K (pc + 1) lo (.int (lg_cmp a b) :: r) μ
  | _ => False
theorem s_lcmp (hd : decode cc pc = .ok (.lcmp, 1)) : Snd own cc nL F Lc ini rt pc x_lcmp := by
  intro l X R t0 d p e s m args below meth c Z Q G hret lo st μ K hf hk
  obtain ⟨hx, hb, hml, hown, hts, hKS, hlk, hnm, hbase, hF, hLc, hdc, hds⟩ := G
  unfold x_lcmp at hf
  split at hf
  · exact fun h1 h2 H locs ls hP hS hL => W.lcmp hx hb hd (hk _ _ _ _ hf h1 h2 H locs ls hP hS hL)
  · exact hf.elim
def x_dup : PT := fun pc lo st μ K _ => match st with
  | .int a :: r => K (pc + 1) lo (.int a :: .int a :: r) μ
  | .ref a :: r => K (pc + 1) lo (.ref a :: .ref a :: r) μ
  | _ => False
theorem s_dup (hd : decode cc pc = .ok (.dup, 1)) : Snd own cc nL F Lc ini rt pc x_dup := by
  intro l X R t0 d p e s m args below meth c Z Q G hret lo st μ K hf hk
  obtain ⟨hx, hb, hml, hown, hts, hKS, hlk, hnm, hbase, hF, hLc, hdc, hds⟩ := G
  unfold x_dup at hf
  split at hf
  · exact fun h1 h2 H locs ls hP hS hL => lv_dup hx hb hd rfl (hk _ _ _ _ hf h1 h2 H locs ls hP hS hL)
  · exact fun h1 h2 H locs ls hP hS hL => lv_dup hx hb hd rfl (hk _ _ _ _ hf h1 h2 H locs ls hP hS hL)
  · exact hf.elim
def x_dup2 : PT := fun pc lo st μ K _ => match st with
  | .int a :: .ref b :: r => K (pc + 1) lo (.int a :: .ref b :: .int a :: .ref b :: r) μ
  | _ => False
theorem s_dup2 (hd : decode cc pc = .ok (.dup2, 1)) : Snd own cc nL F Lc ini rt pc x_dup2 := by
  intro l X R t0 d p e s m args below meth c Z Q G hret lo st μ K hf hk
  obtain ⟨hx, hb, hml, hown, hts, hKS, hlk, hnm, hbase, hF, hLc, hdc, hds⟩ := G
  unfold x_dup2 at hf
  split at hf
  · exact fun h1 h2 H locs ls hP hS hL => lv_dup2_11 hx hb hd rfl rfl (hk _ _ _ _ hf h1 h2 H locs ls hP hS hL)
  · exact hf.elim
def x_pop : PT := fun pc lo st μ K _ => match st with
  | .int _ :: r => K (pc + 1) lo r μ
  | .ref _ :: r => K (pc + 1) lo r μ
  | _ => False
theorem s_pop (hd : decode cc pc = .ok (.pop, 1)) : Snd own cc nL F Lc ini rt pc x_pop := by
  intro l X R t0 d p e s m args below meth c Z Q G hret lo st μ K hf hk
  obtain ⟨hx, hb, hml, hown, hts, hKS, hlk, hnm, hbase, hF, hLc, hdc, hds⟩ := G
  unfold x_pop at hf
  split at hf
  · exact fun h1 h2 H locs ls hP hS hL => lv_pop hx hb hd rfl (hk _ _ _ _ hf h1 h2 H locs ls hP hS hL)
  · exact fun h1 h2 H locs ls hP hS hL => lv_pop hx hb hd rfl (hk _ _ _ _ hf h1 h2 H locs ls hP hS hL)
  · exact hf.elim
def x_goto (t : Nat) : PT := fun _ lo st μ K _ => K t lo st μ
theorem s_goto {off : Int} {t : Nat} (hd : decode cc pc = .ok (.goto off, 3)) (ht : (pc : Int) + off = (t : Int)) : Snd own cc nL F Lc ini rt pc (x_goto t) := by
  intro l X R t0 d p e s m args below meth c Z Q G hret lo st μ K hf hk
  obtain ⟨hx, hb, hml, hown, hts, hKS, hlk, hnm, hbase, hF, hLc, hdc, hds⟩ := G
  exact fun h1 h2 H locs ls hP hS hL => lv_goto hx hb hd ht (hk _ _ _ _ hf h1 h2 H locs ls hP hS hL)
def x_if (P : Int32 → Prop) (t : Nat) : PT := fun pc lo st μ K _ => match st with
  | .int a :: r => (P a → K t lo r μ) ∧ (¬ P a → K (pc + 3) lo r μ)
  | _ => False
def x_icmp (P : Int32 → Int32 → Prop) (t : Nat) : PT := fun pc lo st μ K _ => match st with
  | .int b :: .int a :: r => (P a b → K t lo r μ) ∧ (¬ P a b → K (pc + 3) lo r μ)
  | _ => False
theorem s_if_eq {off : Int} {t : Nat} (hd : decode cc pc = .ok (.ifCond .eq off, 3)) (ht : (pc : Int) + off = (t : Int)) : Snd own cc nL F Lc ini rt pc (x_if (fun a => a = 0) t) := by
  intro l X R t0 d p e s m args below meth c Z Q G hret lo st μ K hf hk
  obtain ⟨hx, hb, hml, hown, hts, hKS, hlk, hnm, hbase, hF, hLc, hdc, hds⟩ := G
  unfold x_if at hf
  split at hf
  · exact fun h1 h2 H locs ls hP hS hL => lv_if_eq hx hb hd ht (fun q => hk _ _ _ _ (hf.1 q) h1 h2 H locs ls hP hS hL) (fun q => hk _ _ _ _ (hf.2 q) h1 h2 H locs ls hP hS hL)
  · exact hf.elim
theorem s_icmp_eq {off : Int} {t : Nat} (hd : decode cc pc = .ok (.if_icmp .eq off, 3)) (ht : (pc : Int) + off = (t : Int)) : Snd own cc nL F Lc ini rt pc (x_icmp (fun a b => a = b) t) := by
  intro l X R t0 d p e s m args below meth c Z Q G hret lo st μ K hf hk
  obtain ⟨hx, hb, hml, hown, hts, hKS, hlk, hnm, hbase, hF, hLc, hdc, hds⟩ := G
  unfold x_icmp at hf
  split at hf
  · exact fun h1 h2 H locs ls hP hS hL => lv_icmp_eq hx hb hd ht (fun q => hk _ _ _ _ (hf.1 q) h1 h2 H locs ls hP hS hL) (fun q => hk _ _ _ _ (hf.2 q) h1 h2 H locs ls hP hS hL)
  · exact hf.elim
theorem s_if_lt {off : Int} {t : Nat} (hd : decode cc pc = .ok (.ifCond .lt off, 3)) (ht : (pc : Int) + off = (t : Int)) : Snd own cc nL F Lc ini rt pc (x_if (fun a => a < 0) t) := by
  intro l X R t0 d p e s m args below meth c Z Q G hret lo st μ K hf hk
  obtain ⟨hx, hb, hml, hown, hts, hKS, hlk, hnm, hbase, hF, hLc, hdc, hds⟩ := G
  unfold x_if at hf
  split at hf
  · exact fun h1 h2 H locs ls hP hS hL => lv_if_lt hx hb hd ht (fun q => hk _ _ _ _ (hf.1 q) h1 h2 H locs ls hP hS hL) (fun q => hk _ _ _ _ (hf.2 q) h1 h2 H locs ls hP hS hL)
  · exact hf.elim
theorem s_icmp_lt {off : Int} {t : Nat} (hd : decode cc pc = .ok (.if_icmp .lt off, 3)) (ht : (pc : Int) + off = (t : Int)) : Snd own cc nL F Lc ini rt pc (x_icmp (fun a b => a < b) t) := by
  intro l X R t0 d p e s m args below meth c Z Q G hret lo st μ K hf hk
  obtain ⟨hx, hb, hml, hown, hts, hKS, hlk, hnm, hbase, hF, hLc, hdc, hds⟩ := G
  unfold x_icmp at hf
  split at hf
  · exact fun h1 h2 H locs ls hP hS hL => lv_icmp_lt hx hb hd ht (fun q => hk _ _ _ _ (hf.1 q) h1 h2 H locs ls hP hS hL) (fun q => hk _ _ _ _ (hf.2 q) h1 h2 H locs ls hP hS hL)
  · exact hf.elim
theorem s_if_ge {off : Int} {t : Nat} (hd : decode cc pc = .ok (.ifCond .ge off, 3)) (ht : (pc : Int) + off = (t : Int)) : Snd own cc nL F Lc ini rt pc (x_if (fun a => 0 ≤ a) t) := by
  intro l X R t0 d p e s m args below meth c Z Q G hret lo st μ K hf hk
  obtain ⟨hx, hb, hml, hown, hts, hKS, hlk, hnm, hbase, hF, hLc, hdc, hds⟩ := G
  unfold x_if at hf
  split at hf
  · exact fun h1 h2 H locs ls hP hS hL => lv_if_ge hx hb hd ht (fun q => hk _ _ _ _ (hf.1 q) h1 h2 H locs ls hP hS hL) (fun q => hk _ _ _ _ (hf.2 q) h1 h2 H locs ls hP hS hL)
  · exact hf.elim
theorem s_icmp_ge {off : Int} {t : Nat} (hd : decode cc pc = .ok (.if_icmp .ge off, 3)) (ht : (pc : Int) + off = (t : Int)) : Snd own cc nL F Lc ini rt pc (x_icmp (fun a b => b ≤ a) t) := by
  intro l X R t0 d p e s m args below meth c Z Q G hret lo st μ K hf hk
  obtain ⟨hx, hb, hml, hown, hts, hKS, hlk, hnm, hbase, hF, hLc, hdc, hds⟩ := G
  unfold x_icmp at hf
  split at hf
  · exact fun h1 h2 H locs ls hP hS hL => lv_icmp_ge hx hb hd ht (fun q => hk _ _ _ _ (hf.1 q) h1 h2 H locs ls hP hS hL) (fun q => hk _ _ _ _ (hf.2 q) h1 h2 H locs ls hP hS hL)
  · exact hf.elim
theorem s_if_gt {off : Int} {t : Nat} (hd : decode cc pc = .ok (.ifCond .gt off, 3)) (ht : (pc : Int) + off = (t : Int)) : Snd own cc nL F Lc ini rt pc (x_if (fun a => 0 < a) t) := by
  intro l X R t0 d p e s m args below meth c Z Q G hret lo st μ K hf hk
  obtain ⟨hx, hb, hml, hown, hts, hKS, hlk, hnm, hbase, hF, hLc, hdc, hds⟩ := G
  unfold x_if at hf
  split at hf
  · exact fun h1 h2 H locs ls hP hS hL => lv_if_gt hx hb hd ht (fun q => hk _ _ _ _ (hf.1 q) h1 h2 H locs ls hP hS hL) (fun q => hk _ _ _ _ (hf.2 q) h1 h2 H locs ls hP hS hL)
  · exact hf.elim
theorem s_icmp_gt {off : Int} {t : Nat} (hd : decode cc pc = .ok (.if_icmp .gt off, 3)) (ht : (pc : Int) + off = (t : Int)) : Snd own cc nL F Lc ini rt pc (x_icmp (fun a b => b < a) t) := by
  intro l X R t0 d p e s m args below meth c Z Q G hret lo st μ K hf hk
  obtain ⟨hx, hb, hml, hown, hts, hKS, hlk, hnm, hbase, hF, hLc, hdc, hds⟩ := G
  unfold x_icmp at hf
  split at hf
  · exact fun h1 h2 H locs ls hP hS hL => lv_icmp_gt hx hb hd ht (fun q => hk _ _ _ _ (hf.1 q) h1 h2 H locs ls hP hS hL) (fun q => hk _ _ _ _ (hf.2 q) h1 h2 H locs ls hP hS hL)
  · exact hf.elim
theorem s_if_le {off : Int} {t : Nat} (hd : decode cc pc = .ok (.ifCond .le off, 3)) (ht : (pc : Int) + off = (t : Int)) : Snd own cc nL F Lc ini rt pc (x_if (fun a => a ≤ 0) t) := by
  intro l X R t0 d p e s m args below meth c Z Q G hret lo st μ K hf hk
  obtain ⟨hx, hb, hml, hown, hts, hKS, hlk, hnm, hbase, hF, hLc, hdc, hds⟩ := G
  unfold x_if at hf
  split at hf
  · exact fun h1 h2 H locs ls hP hS hL => lv_if_le hx hb hd ht (fun q => hk _ _ _ _ (hf.1 q) h1 h2 H locs ls hP hS hL) (fun q => hk _ _ _ _ (hf.2 q) h1 h2 H locs ls hP hS hL)
  · exact hf.elim
theorem s_icmp_le {off : Int} {t : Nat} (hd : decode cc pc = .ok (.if_icmp .le off, 3)) (ht : (pc : Int) + off = (t : Int)) : Snd own cc nL F Lc ini rt pc (x_icmp (fun a b => a ≤ b) t) := by
  intro l X R t0 d p e s m args below meth c Z Q G hret lo st μ K hf hk
  obtain ⟨hx, hb, hml, hown, hts, hKS, hlk, hnm, hbase, hF, hLc, hdc, hds⟩ := G
  unfold x_icmp at hf
  split at hf
  · exact fun h1 h2 H locs ls hP hS hL => lv_icmp_le hx hb hd ht (fun q => hk _ _ _ _ (hf.1 q) h1 h2 H locs ls hP hS hL) (fun q => hk _ _ _ _ (hf.2 q) h1 h2 H locs ls hP hS hL)
  · exact hf.elim
def x_ifn (P : Int32 → Prop) (t : Nat) : PT := fun pc lo st μ K _ => match st with
  | .int a :: r => (P a → K (pc + 3) lo r μ) ∧ (¬ P a → K t lo r μ)
  | _ => False
def x_icmpn (P : Int32 → Int32 → Prop) (t : Nat) : PT := fun pc lo st μ K _ => match st with
  | .int b :: .int a :: r => (P a b → K (pc + 3) lo r μ) ∧ (¬ P a b → K t lo r μ)
  | _ => False
theorem s_if_ne {off : Int} {t : Nat} (hd : decode cc pc = .ok (.ifCond .ne off, 3)) (ht : (pc : Int) + off = (t : Int)) : Snd own cc nL F Lc ini rt pc (x_ifn (fun a => a = 0) t) := by
  intro l X R t0 d p e s m args below meth c Z Q G hret lo st μ K hf hk
  obtain ⟨hx, hb, hml, hown, hts, hKS, hlk, hnm, hbase, hF, hLc, hdc, hds⟩ := G
  unfold x_ifn at hf
  split at hf
  · exact fun h1 h2 H locs ls hP hS hL => lv_if_ne hx hb hd ht (fun q => hk _ _ _ _ (hf.2 q) h1 h2 H locs ls hP hS hL) (fun q => hk _ _ _ _ (hf.1 q) h1 h2 H locs ls hP hS hL)
  · exact hf.elim
theorem s_icmp_ne {off : Int} {t : Nat} (hd : decode cc pc = .ok (.if_icmp .ne off, 3)) (ht : (pc : Int) + off = (t : Int)) : Snd own cc nL F Lc ini rt pc (x_icmpn (fun a b => a = b) t) := by
  intro l X R t0 d p e s m args below meth c Z Q G hret lo st μ K hf hk
  obtain ⟨hx, hb, hml, hown, hts, hKS, hlk, hnm, hbase, hF, hLc, hdc, hds⟩ := G
  unfold x_icmpn at hf
  split at hf
  · exact fun h1 h2 H locs ls hP hS hL => lv_icmp_ne hx hb hd ht (fun q => hk _ _ _ _ (hf.2 q) h1 h2 H locs ls hP hS hL) (fun q => hk _ _ _ _ (hf.1 q) h1 h2 H locs ls hP hS hL)
  · exact hf.elim
def swK : List Nat → Nat → Int32 → (Nat → Prop) → Nat → Prop
  | [], _, _, K, dflt => K dflt
  | t :: ts, j, x, K, dflt => (x = Int32.ofNat j → K t) ∧ (¬ x = Int32.ofNat j → swK ts (j + 1) x K dflt)
def x_tsw (ts : List Nat) (dflt : Nat) : PT := fun _ lo st μ K _ => match st with
  | .int a :: r => swK ts 0 a (fun t => K t lo r μ) dflt
  | _ => False
theorem swK_get : ∀ (ts : List Nat) (j : Nat) (x : Int32) (K : Nat → Prop) (dflt : Nat), swK ts j x K dflt → (∃ i t, ts[i]? = some t ∧ x = Int32.ofNat (j + i) ∧ K t) ∨ ((∀ i, i < ts.length → x ≠ Int32.ofNat (j + i)) ∧ K dflt)
  | [], j, x, K, dflt, h => Or.inr ⟨fun i hi => absurd hi (Nat.not_lt_zero _), h⟩
  | t :: ts, j, x, K, dflt, h => by
    by_cases hx : x = Int32.ofNat j
    · exact Or.inl ⟨0, t, rfl, hx, h.1 hx⟩
    · rcases swK_get ts (j + 1) x K dflt (h.2 hx) with ⟨i, u, h1, h2, h3⟩ | ⟨h1, h2⟩
      · exact Or.inl ⟨i + 1, u, h1, by rw [h2]; congr 1; omega, h3⟩
      · refine Or.inr ⟨fun i hi => ?_, h2⟩
        cases i with
        | zero => exact hx
        | succ i =>
          have := h1 i (by simpa using hi)
          rwa [show j + (i + 1) = j + 1 + i by omega]
theorem s_tsw {dflt hi : Int} {offs : Array Int} {len dt : Nat} {ts : List Nat} (hd : decode cc pc = .ok (.tableswitch dflt 0 hi offs, len)) (hdt : (pc : Int) + dflt = (dt : Int)) (hts0 : offs.toList.map (fun o => (pc : Int) + o) = ts.map Int.ofNat) (hhi : hi + 1 = (ts.length : Int)) (hsm : ts.length < 100) : Snd own cc nL F Lc ini rt pc (x_tsw ts dt) := by
  intro l X R t0 d p e s m args below meth c Z Q G hret lo st μ K hf hk
  obtain ⟨hx, hb, hml, hown, hts, hKS, hlk, hnm, hbase, hF, hLc, hdc, hds⟩ := G
  unfold x_tsw at hf
  split at hf
  · rename_i a r
    intro h1 h2 H locs ls hP hS hL
    rcases swK_get _ _ _ _ _ hf with ⟨i, t, g1, g2, g3⟩ | ⟨g1, g2⟩
    · have hi2 : i < ts.length := (List.getElem?_eq_some_iff.mp g1).1
      have e1 : a.toInt = (i : Int) := by
        rw [g2, Nat.zero_add]
        exact nI_toInt (by omega)
      have e2 : (offs.toList.map (fun o => (pc : Int) + o))[i]? = some (t : Int) := by rw [hts0, List.getElem?_map, g1]; rfl
      rw [List.getElem?_map] at e2
      cases ho : offs.toList[i]? with
      | none => rw [ho] at e2; cases e2
      | some o =>
        rw [ho] at e2
        exact lv_tableIn hx hb hd (by rw [e1]; omega) (by rw [e1]; omega) (off := o) (by rw [e1]; simpa using ho) (Option.some.inj e2) (hk _ _ _ _ g3 h1 h2 H locs ls hP hS hL)
    · refine lv_tableOut hx hb hd ?_ hdt (hk _ _ _ _ g2 h1 h2 H locs ls hP hS hL)
      by_cases q1 : a.toInt < 0
      · exact Or.inl q1
      · refine Or.inr (Classical.byContradiction fun q2 => ?_)
        refine g1 a.toInt.toNat (by omega) ?_
        rw [Nat.zero_add]
        apply Int32.toInt_inj.mp
        have h9 : (Int32.ofNat a.toInt.toNat).toInt = ((a.toInt.toNat : Nat) : Int) := nI_toInt (by omega)
        rw [h9]
        omega
  · exact hf.elim
end SX

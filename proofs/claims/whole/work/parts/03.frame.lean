/-! the cells in the order in which they are made: what each is (a number below 20: an object of that place in CL; 20 ints, 21 longs, 22 booleans, 23 Graph[], 24 Run[], 25 Bits[]), and how long -/
def shp (i : Nat) : Nat :=
  if i < 12 then [9, 8, 20, 3, 20, 20, 20, 7, 1, 4, 23, 24].getD i 99
  else if i < 60 then [3, 20, 20, 20, 7, 1].getD ((i - 12) % 6) 99
  else if i < 76 then [0, 2, 20, 20, 20, 20, 20, 20, 1, 5, 20, 25, 25, 25, 1, 1].getD (i - 60) 99
  else if i < 344 then 1
  else if i < 349 then [6, 25, 20, 20, 1].getD (i - 344) 99
  else if i < 449 then 1
  else if i < 463 then [2, 3, 20, 20, 20, 0, 2, 20, 20, 20, 20, 20, 20, 1].getD (i - 449) 99
  else if i < 480 then [10, 20, 20, 20, 20, 20, 20, 22, 20, 20, 21, 21, 21, 21, 20, 20, 20].getD (i - 463) 99
  else 99
def alen (i : Nat) : Nat :=
  if i < 12 then [0, 0, 80, 0, 24, 24, 24, 0, 0, 0, 8, 8].getD i 0
  else if i < 60 then 24
  else if i < 76 then [0, 0, 1022, 252, 252, 252, 125, 125, 0, 0, 125, 252, 8, 8, 0, 0].getD (i - 60) 0
  else if i < 344 then 0
  else if i < 349 then [0, 100, 800, 100, 0].getD (i - 344) 0
  else if i < 449 then 0
  else if i < 463 then [0, 0, 24, 24, 24, 0, 0, 1022, 252, 252, 252, 125, 125, 0].getD (i - 449) 0
  else if i < 480 then [0, 2030, 1022, 256, 128, 128, 128, 128, 128, 128, 16, 16, 101, 101, 101, 10, 80].getD (i - 463) 0
  else 0
def nFc (c : Nat) : Nat := [12, 2, 3, 5, 4, 8, 8, 2, 3, 11, 29].getD c 0
def slz (i : Nat) : Nat := if shp i < 20 then nFc (shp i) else alen i
def ssz : Nat → Nat
  | 0 => 0
  | n + 1 => ssz n + slz n
theorem ssz_mono {a b : Nat} (h : a ≤ b) : ssz a ≤ ssz b := by
  induction h with
  | refl => exact Nat.le_refl _
  | step _ ih => exact Nat.le_trans ih (Nat.le_add_right _ _)
/-! abstract states: ints, longs, references by cell and place, and how many cells there are -/
abbrev XT : Type := va_G × (Nat → ClassId) × Nat × Nat
abbrev Mu : Type := (Nat → Nat → Int32) × (Nat → Nat → Int64) × (Nat → Nat → Option Nat) × Nat
abbrev LO : Type := List (Option Value)
abbrev KT : Type := Nat → LO → List Value → Mu → Prop
abbrev QT : Type := Option Value → Mu → Prop
abbrev MD : Type := MethodName × ByteArray × Nat × Option FieldType × Nat × Nat
abbrev CTR : Type := MD → Nat → List Value → Mu → QT → Prop
abbrev ET : Type := QT × CTR × Nat
abbrev PT : Type := Nat → LO → List Value → Mu → KT → ET → Prop
def trv (X : XT) : Value → Value
  | .ref a => .ref (X.2.2.1 + a)
  | .retAddr _ => .ref X.2.2.2
  | v => v
def up2 {α : Type} (f : Nat → Nat → α) (a k : Nat) (x : α) : Nat → Nat → α := fun i => if i = a then (fun j => if j = k then x else f a j) else f i
theorem up2_s {α : Type} (f : Nat → Nat → α) (a k : Nat) (x : α) : up2 f a k x a = fun j => if j = k then x else f a j := by simp [up2]
theorem up2_n {α : Type} (f : Nat → Nat → α) {a i : Nat} (k : Nat) (x : α) (h : i ≠ a) : up2 f a k x i = f i := by simp [up2, h]
def clr2 {α : Type} (f : Nat → Nat → α) (a : Nat) (x : α) : Nat → Nat → α := fun i => if i = a then (fun _ => x) else f i
theorem clr2_s {α : Type} (f : Nat → Nat → α) (a : Nat) (x : α) : clr2 f a x a = fun _ => x := by simp [clr2]
theorem clr2_n {α : Type} (f : Nat → Nat → α) {a i : Nat} (x : α) (h : i ≠ a) : clr2 f a x i = f i := by simp [clr2, h]
def newMu (μ : Mu) : Mu := (clr2 μ.1 μ.2.2.2 0, clr2 μ.2.1 μ.2.2.2 0, clr2 μ.2.2.1 μ.2.2.2 none, μ.2.2.2 + 1)
def fldV (X : XT) (μ : Mu) (i k : Nat) : Nat → Value
  | 0 => .int (μ.1 i k)
  | 1 => .long (μ.2.1 i k)
  | _ => va_rf ((μ.2.2.1 i k).map (fun z => X.2.2.1 + z))
def objF (X : XT) (μ : Mu) (i : Nat) (ks : List Nat) : List Value := ks.mapIdx (fun k kd => fldV X μ i k kd)
def mkE (X : XT) (μ : Mu) (i : Nat) : va_E :=
  if shp i < 20 then .inr (shp i, objF X μ i (FK.getD (shp i) []))
  else if shp i = 20 then .inl (X.2.1 0, alen i, .inl (μ.1 i))
  else if shp i = 21 then .inl (X.2.1 1, alen i, .inr (.inl (μ.2.1 i)))
  else if shp i = 22 then .inl (X.2.1 2, alen i, .inl (μ.1 i))
  else .inl (X.2.1 (shp i - 20), alen i, .inr (.inr (.inr (.inr (fun k => (μ.2.2.1 i k).map (fun z => X.2.2.1 + z))))))
def wsO (X : XT) (μ : Mu) : va_W := (List.range μ.2.2.2).map (fun i => (X.2.2.1 + i, mkE X μ i))
def frX (X : XT) : Nat → Prop := fun q => X.2.2.1 ≤ q
def tyO (X : XT) : List (ClassId × FieldType) := [(X.2.1 0, .int), (X.2.1 1, .long), (X.2.1 2, .boolean), (X.2.1 3, .object RX3), (X.2.1 4, .object RX7), (X.2.1 5, .object RX1)]
def TBG : List Cond := lw_tbl.filter goodWord
def isNest : Cond → Bool
  | .fieldLinkNest .. => true
  | .methodLinkNest .. => true
  | _ => false
def NWS : List Cond := lw_tbl.filter isNest
def KS (X : XT) (U : State) : Prop := va_K X.1 CL (tyO X) U ∧ (∀ w ∈ NWS, va_Nw w U) ∧ ∀ C ∈ [RX3, RX7, RX1], va_AO C U
def RepW (X : XT) (μ : Mu) (H : Heap) : Prop := va_P X.1 CL (wsO X μ) H ∧ H.size = X.2.2.1 + μ.2.2.2
theorem TBG_good : ∀ w ∈ TBG, w ∈ lw_tbl ∧ ((w.onTables && w.keeps) = true ∨ ∃ ty, w = .arrayClass ty) := fun w h => ⟨(List.mem_filter.mp h).1, good_of_word (List.mem_filter.mp h).2⟩
theorem NWS_on : ∀ w ∈ NWS, isNest w = true := fun w h => (List.mem_filter.mp h).2
theorem KS.warm {X : XT} {s U : State} (hW : s.WarmedH U.vm) (h : KS X s) : KS X U := by
  refine ⟨va_K.moved hW.alike h.1, fun w hw => ?_, fun C hC => (h.2.2 C hC).moved hW.alike⟩
  have h1 := h.2.1 w hw
  have h2 := NWS_on w hw
  cases w <;> first | exact va_Nw.warmF hW h1 | exact va_Nw.warmM hW h1 | cases h2
theorem wsO_get (X : XT) {μ : Mu} {i : Nat} (h : i < μ.2.2.2) : (wsO X μ)[i]? = some (X.2.2.1 + i, mkE X μ i) := by
  simp [wsO, h]
theorem wsO_D (X : XT) (μ : Mu) : va_D (frX X) (wsO X μ) := by
  have key : ∀ (k : Nat) (q : Nat × va_E), (wsO X μ)[k]? = some q → q.1 = X.2.2.1 + k := by
    intro k q hk
    have hl : k < μ.2.2.2 := by
      have := (List.getElem?_eq_some_iff.mp hk).1
      simpa [wsO] using this
    rw [wsO_get X hl] at hk
    cases hk
    rfl
  refine ⟨fun i j p q hi hj hpq => ?_, fun k q hk => ?_⟩
  · rw [key i p hi, key j q hj] at hpq
    omega
  · show X.2.2.1 ≤ q.1
    rw [key k q hk]
    omega
theorem wsO_set (X : XT) {μ μ' : Mu} {i : Nat} {e : va_E} (ht : μ'.2.2.2 = μ.2.2.2) (he : mkE X μ' i = e) (hn : ∀ j, j ≠ i → mkE X μ' j = mkE X μ j) : (wsO X μ).set i (X.2.2.1 + i, e) = wsO X μ' := by
  apply List.ext_getElem?
  intro k
  rw [List.getElem?_set]
  by_cases hk : i = k
  · subst hk
    by_cases hl : i < μ.2.2.2
    · rw [if_pos rfl, wsO_get X (ht ▸ hl : i < μ'.2.2.2), he]
      simp [wsO, hl]
    · have h1 : (wsO X μ')[i]? = none := by simp [wsO, ht]; omega
      rw [h1]
      simp [wsO, hl]
  · rw [if_neg hk]
    by_cases hl : k < μ.2.2.2
    · rw [wsO_get X hl, wsO_get X (ht ▸ hl : k < μ'.2.2.2), hn k (Ne.symm hk)]
    · have h1 : (wsO X μ')[k]? = none := by simp [wsO, ht]; omega
      have h2 : (wsO X μ)[k]? = none := by simp [wsO]; omega
      rw [h1, h2]
theorem wsO_push (X : XT) {μ μ' : Mu} {e : va_E} (ht : μ'.2.2.2 = μ.2.2.2 + 1) (he : mkE X μ' μ.2.2.2 = e) (hn : ∀ j, j ≠ μ.2.2.2 → mkE X μ' j = mkE X μ j) : wsO X μ ++ [(X.2.2.1 + μ.2.2.2, e)] = wsO X μ' := by
  unfold wsO
  rw [ht, List.range_succ, List.map_append, List.map_cons, List.map_nil, he]
  congr 1
  apply List.map_congr_left
  intro j hj
  rw [hn j (by have := List.mem_range.mp hj; omega)]
theorem objF_get {X : XT} {μ : Mu} {i k kd : Nat} {ks : List Nat} (h : ks[k]? = some kd) : (objF X μ i ks)[k]? = some (fldV X μ i k kd) := by
  simp [objF, List.getElem?_mapIdx, h]
theorem objF_len {X : XT} {μ : Mu} {i : Nat} {ks : List Nat} : (objF X μ i ks).length = ks.length := by simp [objF]
theorem mkE_o {X : XT} {μ : Mu} {i c : Nat} (h : shp i = c) (hc : c < 20) : mkE X μ i = .inr (c, objF X μ i (FK.getD c [])) := by
  subst h
  simp [mkE, hc]
theorem mkE_20 {X : XT} {μ : Mu} {i : Nat} (h : shp i = 20) : mkE X μ i = .inl (X.2.1 0, alen i, .inl (μ.1 i)) := by simp [mkE, h]
theorem mkE_21 {X : XT} {μ : Mu} {i : Nat} (h : shp i = 21) : mkE X μ i = .inl (X.2.1 1, alen i, .inr (.inl (μ.2.1 i))) := by simp [mkE, h]
theorem mkE_22 {X : XT} {μ : Mu} {i : Nat} (h : shp i = 22) : mkE X μ i = .inl (X.2.1 2, alen i, .inl (μ.1 i)) := by simp [mkE, h]
theorem mkE_q {X : XT} {μ : Mu} {i c : Nat} (h : shp i = c) (hc : 23 ≤ c) : mkE X μ i = .inl (X.2.1 (c - 20), alen i, .inr (.inr (.inr (.inr (fun k => (μ.2.2.1 i k).map (fun z => X.2.2.1 + z)))))) := by
  subst h
  have h1 : ¬ shp i < 20 := by omega
  have h2 : ¬ shp i = 20 := by omega
  have h3 : ¬ shp i = 21 := by omega
  have h4 : ¬ shp i = 22 := by omega
  simp [mkE, h1, h2, h3, h4]
/-- cells whose three rows are the same are the same -/
theorem mkE_congr {X : XT} {μ μ' : Mu} {i : Nat} (h1 : μ'.1 i = μ.1 i) (h2 : μ'.2.1 i = μ.2.1 i) (h3 : μ'.2.2.1 i = μ.2.2.1 i) : mkE X μ' i = mkE X μ i := by
  have h : ∀ k kd, fldV X μ' i k kd = fldV X μ i k kd := by
    intro k kd
    unfold fldV
    rw [h1, h2, h3]
  have hO : ∀ ks, objF X μ' i ks = objF X μ i ks := by
    intro ks
    unfold objF
    congr 1
    funext k kd
    exact h k kd
  unfold mkE
  rw [h1, h2, h3, hO]
def muI (μ : Mu) (a k : Nat) (x : Int32) : Mu := (up2 μ.1 a k x, μ.2.1, μ.2.2.1, μ.2.2.2)
def muL (μ : Mu) (a k : Nat) (x : Int64) : Mu := (μ.1, up2 μ.2.1 a k x, μ.2.2.1, μ.2.2.2)
def muR (μ : Mu) (a k : Nat) (x : Option Nat) : Mu := (μ.1, μ.2.1, up2 μ.2.2.1 a k x, μ.2.2.2)
theorem objF_set0 {X : XT} {μ : Mu} {a k : Nat} {ks : List Nat} {x : Int32} (h : ks[k]? = some 0) : objF X (muI μ a k x) a ks = (objF X μ a ks).set k (.int x) := by
  apply List.ext_getElem?
  intro j
  simp only [objF, List.getElem?_set, List.getElem?_mapIdx, List.length_mapIdx]
  by_cases hj : k = j
  · subst hj
    obtain ⟨hl, hv⟩ := List.getElem?_eq_some_iff.mp h
    simp [hv, fldV, muI, up2, hl]
  · rw [if_neg hj]
    cases hk : ks[j]? with
    | none => rfl
    | some kd =>
      simp only [Option.map_some, Option.some.injEq]
      match kd with
      | 0 => simp [fldV, muI, up2, Ne.symm hj]
      | 1 => simp [fldV, muI]
      | _ + 2 => simp [fldV, muI]
theorem objF_set1 {X : XT} {μ : Mu} {a k : Nat} {ks : List Nat} {x : Int64} (h : ks[k]? = some 1) : objF X (muL μ a k x) a ks = (objF X μ a ks).set k (.long x) := by
  apply List.ext_getElem?
  intro j
  simp only [objF, List.getElem?_set, List.getElem?_mapIdx, List.length_mapIdx]
  by_cases hj : k = j
  · subst hj
    obtain ⟨hl, hv⟩ := List.getElem?_eq_some_iff.mp h
    simp [hv, fldV, muL, up2, hl]
  · rw [if_neg hj]
    cases hk : ks[j]? with
    | none => rfl
    | some kd =>
      simp only [Option.map_some, Option.some.injEq]
      match kd with
      | 0 => simp [fldV, muL]
      | 1 => simp [fldV, muL, up2, Ne.symm hj]
      | _ + 2 => simp [fldV, muL]
theorem objF_set2 {X : XT} {μ : Mu} {a k : Nat} {ks : List Nat} {x : Nat} (h : ks[k]? = some 2) : objF X (muR μ a k (some x)) a ks = (objF X μ a ks).set k (.ref (X.2.2.1 + x)) := by
  apply List.ext_getElem?
  intro j
  simp only [objF, List.getElem?_set, List.getElem?_mapIdx, List.length_mapIdx]
  by_cases hj : k = j
  · subst hj
    obtain ⟨hl, hv⟩ := List.getElem?_eq_some_iff.mp h
    simp [hv, fldV, muR, up2, hl, va_rf]
  · rw [if_neg hj]
    cases hk : ks[j]? with
    | none => rfl
    | some kd =>
      simp only [Option.map_some, Option.some.injEq]
      match kd with
      | 0 => simp [fldV, muR]
      | 1 => simp [fldV, muR]
      | _ + 2 => simp [fldV, muR, up2, Ne.symm hj]
def lvl (X : XT) : Nat → LO → List (Nat × Value)
  | _, [] => []
  | i, none :: r => lvl X (i + 1) r
  | i, some v :: r => (i, trv X v) :: lvl X (i + 1) r
theorem lvl_mem {X : XT} : ∀ (lo : LO) (i j : Nat) (v : Value), (i, v) ∈ lvl X j lo ↔ ∃ w, j ≤ i ∧ lo[i - j]? = some (some w) ∧ v = trv X w
  | [], i, j, v => by simp [lvl]
  | none :: r, i, j, v => by
    simp only [lvl]
    rw [lvl_mem r i (j + 1) v]
    constructor
    · rintro ⟨w, h1, h2, h3⟩
      exact ⟨w, by omega, by rw [show i - j = (i - (j + 1)) + 1 by omega]; exact h2, h3⟩
    · rintro ⟨w, h1, h2, h3⟩
      have hne : i ≠ j := by
        intro h
        rw [h, Nat.sub_self] at h2
        cases h2
      exact ⟨w, by omega, by rw [show i - j = (i - (j + 1)) + 1 by omega] at h2; exact h2, h3⟩
  | some u :: r, i, j, v => by
    simp only [lvl, List.mem_cons, Prod.mk.injEq]
    rw [lvl_mem r i (j + 1) v]
    constructor
    · rintro (⟨rfl, rfl⟩ | ⟨w, h1, h2, h3⟩)
      · exact ⟨u, Nat.le_refl _, by rw [Nat.sub_self]; rfl, rfl⟩
      · exact ⟨w, by omega, by rw [show i - j = (i - (j + 1)) + 1 by omega]; exact h2, h3⟩
    · rintro ⟨w, h1, h2, h3⟩
      by_cases hne : i = j
      · rw [hne, Nat.sub_self] at h2
        cases h2
        exact Or.inl ⟨hne, h3⟩
      · exact Or.inr ⟨w, by omega, by rw [show i - j = (i - (j + 1)) + 1 by omega] at h2; exact h2, h3⟩
def LHas (X : XT) (nL : Nat) (ls : Array Slot) (lo : LO) : Prop := lv_has ls nL (lvl X 0 lo)
theorem LHas.at {X : XT} {nL : Nat} {ls : Array Slot} {lo : LO} (h : LHas X nL ls lo) {i : Nat} {v : Value} (hi : lo[i]? = some (some v)) : ls[i]? = some (.val (trv X v)) :=
  h.2.2 (i, trv X v) ((lvl_mem lo i 0 _).mpr ⟨v, Nat.zero_le _, by simpa using hi, rfl⟩)
def isL : Option Value → Bool
  | some (.long _) => true
  | _ => false
/-- a store at i: what lay there goes, and a long that reached into it -/
def lset (lo : LO) (i : Nat) (v : Value) : LO := (if isL (lo.getD (i - 1) none) then lo.set (i - 1) none else lo).set i (some v)
def lset2 (lo : LO) (i : Nat) (v : Value) : LO := ((if isL (lo.getD (i - 1) none) then lo.set (i - 1) none else lo).set (i + 1) none).set i (some v)
theorem trv_cat (X : XT) (v : Value) : (trv X v).category = v.category := by cases v <;> rfl

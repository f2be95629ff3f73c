/-! fields, arrays, new cells, calls, returns -/
def FL (own : String) (idx ci k : Nat) : Prop := ∃ r : vw_C, CL[ci]? = some r ∧ ci < 20 ∧ k < r.2.2 ∧ (∀ w ∈ u_ws r.1 r.2.1 r.2.2, w ∈ TBG) ∧ (Cond.fieldLink own idx (r.2.1 k).1 (r.2.1 k).2.1 (r.2.1 k).2.2.1 ∈ TBG ∨ ∃ host, Cond.fieldLinkNest own idx (r.2.1 k).1 (r.2.1 k).2.1 (r.2.1 k).2.2.1 host ∈ NWS)
/-- what the field's row says: its type, and whether it is final -/
def FP (ci k : Nat) (ty : FieldType) (fin : Bool) : Prop := ∃ r : vw_C, CL[ci]? = some r ∧ parseFieldDescriptor (r.2.1 k).2.2.1 = some ty ∧ (r.2.1 k).2.2.2 = fin ∧ (r.2.1 k).1 = r.1 ∧ (∃ ty0 : Nat → FieldType, ∀ k, k < r.2.2 → parseFieldDescriptor (r.2.1 k).2.2.1 = some (ty0 k)) ∧ (∀ a, a < r.2.2 → ∀ b, b < r.2.2 → a ≠ b → (r.2.1 a).2.1 ≠ (r.2.1 b).2.1)
section SY
variable {own : String} {cc : ByteArray} {nL F Lc : Nat} {ini : Bool} {rt : Option FieldType} {pc : Nat}
theorem get_row {l : Launch} {X : XT} {R : Room} {p : Program} {e : Env} {s : State} {m : MethodId} {args : Array Value} {below : List Frame} {meth : Method} {c : Code} {H : Heap} {locs : List Loc} {cells slots : Nat} {Z : State → Prop} {ls : Array Slot} {rest : List Value} {μ : Mu} {a ci k kd idx : Nat}
    (hx : p.tables.exec = Jvm.exec) (hb : c.code = cc) (hown : s.vm.findClass own = some m.cls) (hts : ∀ w ∈ TBG, w.before args s = true) (hKS : KS X s) (hP : RepW X μ H) (hfl : FL own idx ci k) (hkd : (FK.getD ci [])[k]? = some kd) (ha : a < μ.2.2.2) (hs : shp a = ci) (hd : decode cc pc = .ok (.getfield idx, 3))
    (kk : W p l e R s m args below meth c H locs cells slots Z (F0 m (pc + 3) ls (fldV X μ a k kd :: rest))) : W p l e R s m args below meth c H locs cells slots Z (F0 m pc ls (.ref (X.2.2.1 + a) :: rest)) := by
  obtain ⟨⟨C, T, N⟩, hc, hci, hk, hin, hlink⟩ := hfl
  have he := wsO_get X ha
  rw [mkE_o hs hci] at he
  rcases hlink with hlink | ⟨host, hlink⟩
  · exact va_get hx hb hts hin hown hKS.1 hP.1 a he hc k hk (hts _ hlink) (fun _ h => h) (objF_get hkd) hd kk
  · exact va_getN hx hb hts hin hown hKS.1 hP.1 a he hc k hk (va_Nw.use (NWS_on _ hlink ▸ rfl) (hKS.2.1 _ hlink)) (fun _ h => h) (objF_get hkd) hd kk
theorem put_row {l : Launch} {X : XT} {R : Room} {p : Program} {e : Env} {s : State} {m : MethodId} {args : Array Value} {below : List Frame} {meth : Method} {c : Code} {H : Heap} {locs : List Loc} {cells slots : Nat} {Z : State → Prop} {ls : Array Slot} {rest : List Value} {μ μ' : Mu} {a ci k idx : Nat} {v : Value} {ty : FieldType} {fin : Bool}
    (hx : p.tables.exec = Jvm.exec) (hb : c.code = cc) (hown : s.vm.findClass own = some m.cls) (hts : ∀ w ∈ TBG, w.before args s = true) (hKS : KS X s) (hP : RepW X μ H) (hS : va_S (frX X) s.heap H locs) (hfl : FL own idx ci k) (hfp : FP ci k ty fin) (hkl : k < (FK.getD ci []).length) (ha : a < μ.2.2.2) (hs : shp a = ci) (hd : decode cc pc = .ok (.putfield idx, 3))
    (hfin : fin = true → meth.name = "<init>" ∧ (∃ r : vw_C, CL[ci]? = some r ∧ r.1 = own) ∧ (∀ r : vw_C, CL[ci]? = some r → Cond.fieldLink own idx (r.2.1 k).1 (r.2.1 k).2.1 (r.2.1 k).2.2.1 ∈ TBG)) (hn : narrow ty v = v) (hfit : fits ty v = true)
    (ht : μ'.2.2.2 = μ.2.2.2) (hme : objF X μ' a (FK.getD ci []) = (objF X μ a (FK.getD ci [])).set k v) (hmn : ∀ j, j ≠ a → mkE X μ' j = mkE X μ j)
    (kk : ∀ (H1 : Heap) (locs1 : List Loc), RepW X μ' H1 → va_S (frX X) s.heap H1 locs1 → W p l e R s m args below meth c H1 locs1 cells slots Z (F0 m (pc + 3) ls rest)) : W p l e R s m args below meth c H locs cells slots Z (F0 m pc ls (v :: .ref (X.2.2.1 + a) :: rest)) := by
  obtain ⟨⟨C, T, N⟩, hc, hci, hk, hin, hlink⟩ := hfl
  obtain ⟨r, hc', hty, hfn, hdecl, ⟨ty0, hty0⟩, hnm⟩ := hfp
  have hr : r = (C, T, N) := Option.some.inj (hc'.symm.trans hc)
  subst hr
  have he := wsO_get X ha
  rw [mkE_o hs hci] at he
  have hset : (wsO X μ).set a (X.2.2.1 + a, .inr (ci, (objF X μ a (FK.getD ci [])).set k v)) = wsO X μ' := wsO_set X ht (by rw [mkE_o hs hci, hme]) hmn
  have go : ∀ (H1 : Heap) (locs1 : List Loc), va_P X.1 CL ((wsO X μ).set a (X.2.2.1 + a, .inr (ci, (objF X μ a (FK.getD ci [])).set k v))) H1 → va_D (frX X) ((wsO X μ).set a (X.2.2.1 + a, .inr (ci, (objF X μ a (FK.getD ci [])).set k v))) → va_S (frX X) s.heap H1 locs1 → H1.size = H.size → W p l e R s m args below meth c H1 locs1 cells slots Z (F0 m (pc + 3) ls rest) := by
    intro H1 locs1 q1 _ q3 q4
    rw [hset] at q1
    exact kk H1 locs1 ⟨q1, by rw [q4, ht]; exact hP.2⟩ q3
  have hlen : k < (objF X μ a (FK.getD ci [])).length := by rw [objF_len]; exact hkl
  -- the kit's rows don't say the new heap's size: it is walked by their own parts
  have hap := va_apart (own := own) hts hin ty0 hty0 hnm hKS.1 hc
  obtain ⟨r2, hr2, cell, q1, q2, q3, q4⟩ := hP.1 a _ he
  have hr3 : r2 = (C, T, N) := Option.some.inj (hr2.symm.trans hc)
  subst hr3
  obtain ⟨hSl, hfc, kC, hkC, hkind⟩ := hKS.1.1 ci _ hc
  obtain ⟨cf, kf, fi, f, hi, hsl⟩ := hSl k hk
  have hlay := hts _ (hin _ (u_in_lay hk))
  have hst := (u_facts hfc hkC (u_lays hts hin hk) hi).1
  have done : ∀ H' : Heap, H'[X.2.2.1 + a]? = some (cell.setSlot f.slot v) → H'.size = H.size → (∀ q, q ≠ X.2.2.1 + a → H'[q]? = H[q]?) → W p l e R s m args below meth c H' (locs ++ [⟨X.2.2.1 + a, f.slot⟩]) cells slots Z (F0 m (pc + 3) ls rest) := by
    intro H' e1 e2 e3
    rw [hsl] at e1 ⊢
    exact go H' _ (hP.1.set (wsO_D X μ) he ⟨_, hc, t_OB.to (V := updV (vp_V (objF X μ a (FK.getD ci []))) k v) ⟨_, e1, q2, q3, t_set q4 hap hk v⟩ (fun j _ => vp_updV_set hlen v j)⟩ e3) ((wsO_D X μ).set he) (hS.put e2 e3 (Nat.le_add_right _ _)) e2
  cases fin with
  | false =>
    unfold u_lay at hlay
    rw [if_neg (by rw [hfn]; decide)] at hlay
    have h6 := u_store hfc hkC hkind hlay hi hty hn hfit
    rcases hlink with hlink | ⟨host, hlink⟩
    · exact W.putK hx hb (f := f) ⟨hown, hts _ hlink, ⟨_, _, _, hi⟩, hst⟩ (by rw [q2]; exact h6) q1 q3 (by rw [hsl]; exact k2_hasslot (q4 k hk)) rfl rfl hd done
    · exact va_WputK hx hb (f := f) hown (va_Nw.use (NWS_on _ hlink ▸ rfl) (hKS.2.1 _ hlink)) hi hst (by rw [q2]; exact h6) q1 q3 (by rw [hsl]; exact k2_hasslot (q4 k hk)) rfl rfl hd done
  | true =>
    obtain ⟨hnm2, ⟨r5, hc5, ho5⟩, hl5⟩ := hfin rfl
    have hr5 : r5 = (C, T, N) := Option.some.inj (hc5.symm.trans hc)
    subst hr5
    unfold u_lay at hlay
    rw [if_pos hfn] at hlay
    have hcf : m.cls = cf := by
      obtain ⟨_, _, c', _, _, _, -, -, hf', -, -, -, hown2, -⟩ := Cond.laysFinal_spec hlay
      have e1 : c' = cf := by have := hi.symm.trans hf'; simp at this; exact this.1.symm
      rw [hdecl, ho5] at hown2
      rw [← e1]; exact Option.some.inj (hown.symm.trans hown2)
    have h6 := u_fits hfc hkC hkind (Or.inr hlay) hi hty hn hfit
    exact W.putFinK hx hb hown (hts _ (hl5 _ hc)) hi hst hcf hnm2 (by rw [q2]; exact h6) q1 q3 (by rw [hsl]; exact k2_hasslot (q4 k hk)) rfl rfl hd done
def x_getI (ci k : Nat) : PT := fun pc lo st μ K _ => match st with
  | .ref a :: r => a < μ.2.2.2 ∧ shp a = ci ∧ K (pc + 3) lo (.int (μ.1 a k) :: r) μ
  | _ => False
theorem s_getI {idx ci k : Nat} (hd : decode cc pc = .ok (.getfield idx, 3)) (hfl : FL own idx ci k) (hkd : (FK.getD ci [])[k]? = some 0) : Snd own cc nL F Lc ini rt pc (x_getI ci k) := by
  intro l X R t0 d p e s m args below meth c Z Q G hret lo st μ K hf hk
  obtain ⟨hx, hb, hml, hown, hts, hKS, hlk, hnm, hbase, hF, hLc, hdc, hds⟩ := G
  unfold x_getI at hf
  split at hf
  · exact fun h1 h2 H locs ls hP hS hL => get_row hx hb hown hts hKS hP hfl hkd hf.1 hf.2.1 hd (hk _ _ _ _ hf.2.2 h1 h2 H locs ls hP hS hL)
  · exact hf.elim
def x_getL (ci k : Nat) : PT := fun pc lo st μ K _ => match st with
  | .ref a :: r => a < μ.2.2.2 ∧ shp a = ci ∧ K (pc + 3) lo (.long (μ.2.1 a k) :: r) μ
  | _ => False
theorem s_getL {idx ci k : Nat} (hd : decode cc pc = .ok (.getfield idx, 3)) (hfl : FL own idx ci k) (hkd : (FK.getD ci [])[k]? = some 1) : Snd own cc nL F Lc ini rt pc (x_getL ci k) := by
  intro l X R t0 d p e s m args below meth c Z Q G hret lo st μ K hf hk
  obtain ⟨hx, hb, hml, hown, hts, hKS, hlk, hnm, hbase, hF, hLc, hdc, hds⟩ := G
  unfold x_getL at hf
  split at hf
  · exact fun h1 h2 H locs ls hP hS hL => get_row hx hb hown hts hKS hP hfl hkd hf.1 hf.2.1 hd (hk _ _ _ _ hf.2.2 h1 h2 H locs ls hP hS hL)
  · exact hf.elim
def vrf (o : Option Nat) : Value := match o with
  | none => .null
  | some a => .ref a
theorem trv_vrf (X : XT) (o : Option Nat) : trv X (vrf o) = va_rf (o.map (fun z => X.2.2.1 + z)) := by cases o <;> rfl
def x_getR (ci k : Nat) : PT := fun pc lo st μ K _ => match st with
  | .ref a :: r => a < μ.2.2.2 ∧ shp a = ci ∧ K (pc + 3) lo (vrf (μ.2.2.1 a k) :: r) μ
  | _ => False
theorem s_getR {idx ci k : Nat} (hd : decode cc pc = .ok (.getfield idx, 3)) (hfl : FL own idx ci k) (hkd : (FK.getD ci [])[k]? = some 2) : Snd own cc nL F Lc ini rt pc (x_getR ci k) := by
  intro l X R t0 d p e s m args below meth c Z Q G hret lo st μ K hf hk
  obtain ⟨hx, hb, hml, hown, hts, hKS, hlk, hnm, hbase, hF, hLc, hdc, hds⟩ := G
  unfold x_getR at hf
  split at hf
  · rename_i a r
    intro h1 h2 H locs ls hP hS hL
    have h := hk _ _ _ _ hf.2.2 h1 h2 H locs ls hP hS hL
    rw [List.map_cons, trv_vrf] at h
    exact get_row hx hb hown hts hKS hP hfl hkd hf.1 hf.2.1 hd h
  · exact hf.elim
def x_putI (ci k : Nat) : PT := fun pc lo st μ K _ => match st with
  | .int v :: .ref a :: r => a < μ.2.2.2 ∧ shp a = ci ∧ K (pc + 3) lo r (muI μ a k v)
  | _ => False
theorem s_putI {idx ci k : Nat} (hd : decode cc pc = .ok (.putfield idx, 3)) (hfl : FL own idx ci k) (hfp : FP ci k .int false) (hkd : (FK.getD ci [])[k]? = some 0) : Snd own cc nL F Lc ini rt pc (x_putI ci k) := by
  intro l X R t0 d p e s m args below meth c Z Q G hret lo st μ K hf hk
  obtain ⟨hx, hb, hml, hown, hts, hKS, hlk, hnm, hbase, hF, hLc, hdc, hds⟩ := G
  unfold x_putI at hf
  split at hf
  · rename_i v a r
    exact fun h1 h2 H locs ls hP hS hL => put_row (μ' := muI μ a k v) hx hb hown hts hKS hP hS hfl hfp (List.getElem?_eq_some_iff.mp hkd).1 hf.1 hf.2.1 hd (fun h => by cases h) rfl rfl rfl (objF_set0 hkd) (fun j hj => mkE_congr (up2_n _ _ _ hj) rfl rfl) (fun H1 locs1 hP1 hS1 => hk _ _ _ _ hf.2.2 h1 h2 H1 locs1 ls hP1 hS1 hL)
  · exact hf.elim
def x_putZ (ci k : Nat) : PT := fun pc lo st μ K _ => match st with
  | .int v :: .ref a :: r => a < μ.2.2.2 ∧ shp a = ci ∧ (v = 0 ∨ v = 1) ∧ K (pc + 3) lo r (muI μ a k v)
  | _ => False
theorem nar_bool {v : Int32} (h : v = 0 ∨ v = 1) : narrow .boolean (.int v) = .int v := by
  rcases h with rfl | rfl <;> rfl
theorem fit_bool {v : Int32} (h : v = 0 ∨ v = 1) : fits .boolean (.int v) = true := by
  rcases h with rfl | rfl <;> rfl
theorem s_putZ {idx ci k : Nat} (hd : decode cc pc = .ok (.putfield idx, 3)) (hfl : FL own idx ci k) (hfp : FP ci k .boolean false) (hkd : (FK.getD ci [])[k]? = some 0) : Snd own cc nL F Lc ini rt pc (x_putZ ci k) := by
  intro l X R t0 d p e s m args below meth c Z Q G hret lo st μ K hf hk
  obtain ⟨hx, hb, hml, hown, hts, hKS, hlk, hnm, hbase, hF, hLc, hdc, hds⟩ := G
  unfold x_putZ at hf
  split at hf
  · rename_i v a r
    exact fun h1 h2 H locs ls hP hS hL => put_row (μ' := muI μ a k v) hx hb hown hts hKS hP hS hfl hfp (List.getElem?_eq_some_iff.mp hkd).1 hf.1 hf.2.1 hd (fun h => by cases h) (nar_bool hf.2.2.1) (fit_bool hf.2.2.1) rfl (objF_set0 hkd) (fun j hj => mkE_congr (up2_n _ _ _ hj) rfl rfl) (fun H1 locs1 hP1 hS1 => hk _ _ _ _ hf.2.2.2 h1 h2 H1 locs1 ls hP1 hS1 hL)
  · exact hf.elim
def x_putL (ci k : Nat) : PT := fun pc lo st μ K _ => match st with
  | .long v :: .ref a :: r => a < μ.2.2.2 ∧ shp a = ci ∧ K (pc + 3) lo r (muL μ a k v)
  | _ => False
theorem s_putL {idx ci k : Nat} (hd : decode cc pc = .ok (.putfield idx, 3)) (hfl : FL own idx ci k) (hfp : FP ci k .long false) (hkd : (FK.getD ci [])[k]? = some 1) : Snd own cc nL F Lc ini rt pc (x_putL ci k) := by
  intro l X R t0 d p e s m args below meth c Z Q G hret lo st μ K hf hk
  obtain ⟨hx, hb, hml, hown, hts, hKS, hlk, hnm, hbase, hF, hLc, hdc, hds⟩ := G
  unfold x_putL at hf
  split at hf
  · rename_i v a r
    exact fun h1 h2 H locs ls hP hS hL => put_row (μ' := muL μ a k v) hx hb hown hts hKS hP hS hfl hfp (List.getElem?_eq_some_iff.mp hkd).1 hf.1 hf.2.1 hd (fun h => by cases h) rfl rfl rfl (objF_set1 hkd) (fun j hj => mkE_congr rfl (up2_n _ _ _ hj) rfl) (fun H1 locs1 hP1 hS1 => hk _ _ _ _ hf.2.2 h1 h2 H1 locs1 ls hP1 hS1 hL)
  · exact hf.elim
def x_putR (ci k : Nat) : PT := fun pc lo st μ K _ => match st with
  | .ref v :: .ref a :: r => a < μ.2.2.2 ∧ shp a = ci ∧ K (pc + 3) lo r (muR μ a k (some v))
  | _ => False
theorem s_putR {idx ci k : Nat} {ty : FieldType} (hini : ini = true) (hd : decode cc pc = .ok (.putfield idx, 3)) (hfl : FL own idx ci k) (hfp : FP ci k ty true) (hkd : (FK.getD ci [])[k]? = some 2) (hr : ∀ b, narrow ty (.ref b) = .ref b ∧ fits ty (.ref b) = true) (hoc : ∃ r : vw_C, CL[ci]? = some r ∧ r.1 = own) (hl5 : ∀ r : vw_C, CL[ci]? = some r → Cond.fieldLink own idx (r.2.1 k).1 (r.2.1 k).2.1 (r.2.1 k).2.2.1 ∈ TBG) : Snd own cc nL F Lc ini rt pc (x_putR ci k) := by
  intro l X R t0 d p e s m args below meth c Z Q G hret lo st μ K hf hk
  obtain ⟨hx, hb, hml, hown, hts, hKS, hlk, hnm, hbase, hF, hLc, hdc, hds⟩ := G
  unfold x_putR at hf
  split at hf
  · rename_i v a r
    exact fun h1 h2 H locs ls hP hS hL => put_row (μ' := muR μ a k (some v)) hx hb hown hts hKS hP hS hfl hfp (List.getElem?_eq_some_iff.mp hkd).1 hf.1 hf.2.1 hd (fun _ => ⟨hnm hini, hoc, hl5⟩) (hr _).1 (hr _).2 rfl (objF_set2 hkd) (fun j hj => mkE_congr rfl rfl (up2_n _ _ _ hj)) (fun H1 locs1 hP1 hS1 => hk _ _ _ _ hf.2.2 h1 h2 H1 locs1 ls hP1 hS1 hL)
  · exact hf.elim
def x_iald : PT := fun pc lo st μ K _ => match st with
  | .int i :: .ref a :: r => a < μ.2.2.2 ∧ shp a = 20 ∧ vp_in i (alen a) ∧ K (pc + 1) lo (.int (μ.1 a i.toNatClampNeg) :: r) μ
  | _ => False
theorem s_iald (hd : decode cc pc = .ok (.iaload, 1)) : Snd own cc nL F Lc ini rt pc x_iald := by
  intro l X R t0 d p e s m args below meth c Z Q G hret lo st μ K hf hk
  obtain ⟨hx, hb, hml, hown, hts, hKS, hlk, hnm, hbase, hF, hLc, hdc, hds⟩ := G
  unfold x_iald at hf
  split at hf
  · rename_i i a r
    intro h1 h2 H locs ls hP hS hL
    have he := wsO_get X hf.1
    rw [mkE_20 hf.2.1] at he
    exact va_iald hx hb hKS.1 hP.1 a 0 he rfl hf.2.2.1 hd (hk _ _ _ _ hf.2.2.2 h1 h2 H locs ls hP hS hL)
  · exact hf.elim
def x_lald : PT := fun pc lo st μ K _ => match st with
  | .int i :: .ref a :: r => a < μ.2.2.2 ∧ shp a = 21 ∧ vp_in i (alen a) ∧ K (pc + 1) lo (.long (μ.2.1 a i.toNatClampNeg) :: r) μ
  | _ => False
theorem s_lald (hd : decode cc pc = .ok (.laload, 1)) : Snd own cc nL F Lc ini rt pc x_lald := by
  intro l X R t0 d p e s m args below meth c Z Q G hret lo st μ K hf hk
  obtain ⟨hx, hb, hml, hown, hts, hKS, hlk, hnm, hbase, hF, hLc, hdc, hds⟩ := G
  unfold x_lald at hf
  split at hf
  · rename_i i a r
    intro h1 h2 H locs ls hP hS hL
    have he := wsO_get X hf.1
    rw [mkE_21 hf.2.1] at he
    exact va_lald hx hb hKS.1 hP.1 a 1 he rfl hf.2.2.1 hd (hk _ _ _ _ hf.2.2.2 h1 h2 H locs ls hP hS hL)
  · exact hf.elim
def x_zald : PT := fun pc lo st μ K _ => match st with
  | .int i :: .ref a :: r => a < μ.2.2.2 ∧ shp a = 22 ∧ vp_in i (alen a) ∧ K (pc + 1) lo (.int (μ.1 a i.toNatClampNeg) :: r) μ
  | _ => False
theorem s_zald (hd : decode cc pc = .ok (.baload, 1)) : Snd own cc nL F Lc ini rt pc x_zald := by
  intro l X R t0 d p e s m args below meth c Z Q G hret lo st μ K hf hk
  obtain ⟨hx, hb, hml, hown, hts, hKS, hlk, hnm, hbase, hF, hLc, hdc, hds⟩ := G
  unfold x_zald at hf
  split at hf
  · rename_i i a r
    intro h1 h2 H locs ls hP hS hL
    have he := wsO_get X hf.1
    rw [mkE_22 hf.2.1] at he
    exact va_zald hx hb hKS.1 hP.1 a 2 he rfl hf.2.2.1 hd (hk _ _ _ _ hf.2.2.2 h1 h2 H locs ls hP hS hL)
  · exact hf.elim
def tyRef (j : Nat) : Option String := if j = 3 then some RX3 else if j = 4 then some RX7 else if j = 5 then some RX1 else none
theorem tyO_ref {X : XT} {j : Nat} {C : String} (h : tyRef j = some C) : (tyO X)[j]? = some (X.2.1 j, .object C) := by
  unfold tyRef at h
  split at h
  · cases h; subst_vars; rfl
  · split at h
    · cases h; subst_vars; rfl
    · split at h
      · cases h; subst_vars; rfl
      · cases h
def x_aald : PT := fun pc lo st μ K _ => match st with
  | .int i :: .ref a :: r => a < μ.2.2.2 ∧ 23 ≤ shp a ∧ (tyRef (shp a - 20)).isSome = true ∧ vp_in i (alen a) ∧ K (pc + 1) lo (vrf (μ.2.2.1 a i.toNatClampNeg) :: r) μ
  | _ => False
theorem s_aald (hd : decode cc pc = .ok (.aaload, 1)) : Snd own cc nL F Lc ini rt pc x_aald := by
  intro l X R t0 d p e s m args below meth c Z Q G hret lo st μ K hf hk
  obtain ⟨hx, hb, hml, hown, hts, hKS, hlk, hnm, hbase, hF, hLc, hdc, hds⟩ := G
  unfold x_aald at hf
  split at hf
  · rename_i i a r
    intro h1 h2 H locs ls hP hS hL
    have he := wsO_get X hf.1
    rw [mkE_q rfl hf.2.1] at he
    have h := hk _ _ _ _ hf.2.2.2.2 h1 h2 H locs ls hP hS hL
    rw [List.map_cons, trv_vrf] at h
    obtain ⟨C, hC⟩ := Option.isSome_iff_exists.mp hf.2.2.1
    exact va_aldq hx hb hKS.1 hP.1 a (shp a - 20) he (tyO_ref hC) hf.2.2.2.1 hd h
  · exact hf.elim
def x_iast : PT := fun pc lo st μ K _ => match st with
  | .int x :: .int i :: .ref a :: r => a < μ.2.2.2 ∧ shp a = 20 ∧ vp_in i (alen a) ∧ K (pc + 1) lo r (muI μ a i.toNatClampNeg x)
  | _ => False
theorem s_iast (hd : decode cc pc = .ok (.iastore, 1)) : Snd own cc nL F Lc ini rt pc x_iast := by
  intro l X R t0 d p e s m args below meth c Z Q G hret lo st μ K hf hk
  obtain ⟨hx, hb, hml, hown, hts, hKS, hlk, hnm, hbase, hF, hLc, hdc, hds⟩ := G
  unfold x_iast at hf
  split at hf
  · rename_i x i a r
    intro h1 h2 H locs ls hP hS hL
    have he := wsO_get X hf.1
    rw [mkE_20 hf.2.1] at he
    refine W.iast hx hb (hP.1 a _ he) ((hKS.1.2 0 _ rfl).1 (alen a) (fun j => .int (μ.1 a j))) (fun q => by cases q) (by show ¬ (i < 0 ∨ (arrV _ _ _).slots.size ≤ _); rw [arrV_size]; exact hf.2.2.1) rfl rfl hd fun H1 e1 z oq => ?_
    refine hk _ _ _ _ hf.2.2.2 h1 h2 H1 _ ls ⟨?_, by rw [z]; exact hP.2⟩ (hS.put z oq (Nat.le_add_right _ _)) hL
    have hw : (wsO X μ).set a (X.2.2.1 + a, .inl (X.2.1 0, alen a, .inl ((muI μ a i.toNatClampNeg x).1 a))) = wsO X (muI μ a i.toNatClampNeg x) := wsO_set X rfl (mkE_20 hf.2.1) (fun j hj => mkE_congr (up2_n _ _ _ hj) rfl rfl)
    rw [← hw]
    refine hP.1.set (wsO_D X μ) he ?_ oq
    show H1[X.2.2.1 + a]? = some (vp_cell _ _)
    rw [e1]
    rw [vp_cell_i, vp_cell_i, arrV_store]
    congr 2
    funext q
    by_cases hq : q = i.toNatClampNeg
    · subst hq
      simp [updV, muI, up2, vp_nar]
      try rfl
    · simp [updV, muI, up2, hq]
  · exact hf.elim
def x_last : PT := fun pc lo st μ K _ => match st with
  | .long x :: .int i :: .ref a :: r => a < μ.2.2.2 ∧ shp a = 21 ∧ vp_in i (alen a) ∧ K (pc + 1) lo r (muL μ a i.toNatClampNeg x)
  | _ => False
theorem s_last (hd : decode cc pc = .ok (.lastore, 1)) : Snd own cc nL F Lc ini rt pc x_last := by
  intro l X R t0 d p e s m args below meth c Z Q G hret lo st μ K hf hk
  obtain ⟨hx, hb, hml, hown, hts, hKS, hlk, hnm, hbase, hF, hLc, hdc, hds⟩ := G
  unfold x_last at hf
  split at hf
  · rename_i x i a r
    intro h1 h2 H locs ls hP hS hL
    have he := wsO_get X hf.1
    rw [mkE_21 hf.2.1] at he
    refine W.last hx hb (hP.1 a _ he) ((hKS.1.2 1 _ rfl).1 (alen a) (fun j => .long (μ.2.1 a j))) (fun q => by cases q) (by show ¬ (i < 0 ∨ (arrV _ _ _).slots.size ≤ _); rw [arrV_size]; exact hf.2.2.1) rfl rfl hd fun H1 e1 z oq => ?_
    refine hk _ _ _ _ hf.2.2.2 h1 h2 H1 _ ls ⟨?_, by rw [z]; exact hP.2⟩ (hS.put z oq (Nat.le_add_right _ _)) hL
    have hw : (wsO X μ).set a (X.2.2.1 + a, .inl (X.2.1 1, alen a, .inr (.inl ((muL μ a i.toNatClampNeg x).2.1 a)))) = wsO X (muL μ a i.toNatClampNeg x) := wsO_set X rfl (mkE_21 hf.2.1) (fun j hj => mkE_congr rfl (up2_n _ _ _ hj) rfl)
    rw [← hw]
    refine hP.1.set (wsO_D X μ) he ?_ oq
    show H1[X.2.2.1 + a]? = some (vp_cell _ _)
    rw [e1]
    rw [vp_cell_l, vp_cell_l, arrV_store]
    congr 2
    funext q
    by_cases hq : q = i.toNatClampNeg
    · subst hq
      simp [updV, muL, up2, vp_nar]
      try rfl
    · simp [updV, muL, up2, hq]
  · exact hf.elim
def x_zast : PT := fun pc lo st μ K _ => match st with
  | .int x :: .int i :: .ref a :: r => a < μ.2.2.2 ∧ shp a = 22 ∧ vp_in i (alen a) ∧ K (pc + 1) lo r (muI μ a i.toNatClampNeg (vp_nar .boolean x))
  | _ => False
theorem s_zast (hd : decode cc pc = .ok (.bastore, 1)) : Snd own cc nL F Lc ini rt pc x_zast := by
  intro l X R t0 d p e s m args below meth c Z Q G hret lo st μ K hf hk
  obtain ⟨hx, hb, hml, hown, hts, hKS, hlk, hnm, hbase, hF, hLc, hdc, hds⟩ := G
  unfold x_zast at hf
  split at hf
  · rename_i x i a r
    intro h1 h2 H locs ls hP hS hL
    have he := wsO_get X hf.1
    rw [mkE_22 hf.2.1] at he
    refine W.zast hx hb (hP.1 a _ he) ((hKS.1.2 2 _ rfl).1 (alen a) (fun j => .int (μ.1 a j))) (fun q => by cases q) (by show ¬ (i < 0 ∨ (arrV _ _ _).slots.size ≤ _); rw [arrV_size]; exact hf.2.2.1) rfl rfl hd fun H1 e1 z oq => ?_
    refine hk _ _ _ _ hf.2.2.2 h1 h2 H1 _ ls ⟨?_, by rw [z]; exact hP.2⟩ (hS.put z oq (Nat.le_add_right _ _)) hL
    have hw : (wsO X μ).set a (X.2.2.1 + a, .inl (X.2.1 2, alen a, .inl ((muI μ a i.toNatClampNeg (vp_nar .boolean x)).1 a))) = wsO X (muI μ a i.toNatClampNeg (vp_nar .boolean x)) := wsO_set X rfl (mkE_22 hf.2.1) (fun j hj => mkE_congr (up2_n _ _ _ hj) rfl rfl)
    rw [← hw]
    refine hP.1.set (wsO_D X μ) he ?_ oq
    show H1[X.2.2.1 + a]? = some (vp_cell _ _)
    rw [e1]
    rw [vp_cell_i, vp_cell_i, arrV_store]
    congr 2
    funext q
    by_cases hq : q = i.toNatClampNeg
    · subst hq
      simp [updV, muI, up2, vp_nar]
      try rfl
    · simp [updV, muI, up2, hq]
  · exact hf.elim
end SY

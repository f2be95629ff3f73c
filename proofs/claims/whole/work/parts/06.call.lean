/-! new cells, calls, returns, the walk -/
section SZ
variable {own : String} {cc : ByteArray} {nL F Lc : Nat} {ini : Bool} {rt : Option FieldType} {pc : Nat}
def x_aast (ci : Nat) : PT := fun pc lo st μ K _ => match st with
  | .ref v :: .int i :: .ref a :: r => a < μ.2.2.2 ∧ v < μ.2.2.2 ∧ shp v = ci ∧ ci < 20 ∧ 23 ≤ shp a ∧ (tyRef (shp a - 20)) = (CL[ci]?).map (fun q => q.1) ∧ vp_in i (alen a) ∧ K (pc + 1) lo r (muR μ a i.toNatClampNeg (some v))
  | _ => False
theorem s_aast {ci : Nat} (hd : decode cc pc = .ok (.aastore, 1)) : Snd own cc nL F Lc ini rt pc (x_aast ci) := by
  intro l X R t0 d p e s m args below meth c Z Q G hret lo st μ K hf hk
  obtain ⟨hx, hb, hml, hown, hts, hKS, hlk, hnm, hbase, hF, hLc, hdc, hds⟩ := G
  unfold x_aast at hf
  split at hf
  · rename_i v i a r
    obtain ⟨ha, hv, hsv, hci, hsa, hty, hin, hf⟩ := hf
    intro h1 h2 H locs ls hP hS hL
    have he := wsO_get X ha
    rw [mkE_q rfl hsa] at he
    have hev := wsO_get X hv
    rw [mkE_o hsv hci] at hev
    cases hc : CL[ci]? with
    | none =>
      rw [hc] at hty
      unfold tyRef at hty
      have hcl : 11 ≤ ci := by simpa [CL] using hc
      obtain ⟨r', hr', -⟩ := hP.1 v _ hev
      rw [hc] at hr'
      cases hr'
    | some q =>
      rw [hc] at hty
      have htt := tyO_ref (X := X) hty
      have hlt : i.toNatClampNeg < alen a := Nat.not_le.mp fun q => hin (Or.inr q)
      have h0 : ¬ i < 0 := fun q => hin (Or.inl q)
      obtain ⟨r', hr', cellV, g1, g2, g3, -⟩ := hP.1 v _ hev
      have hcls := (hKS.1.1 ci q hc).2
      obtain ⟨kA, comp, k1, k2, k3, -⟩ := (hKS.1.2 _ _ htt).2
      have hcomp : comp = X.1.1 ci := Option.some.inj (k3.symm.trans hcls.1)
      subst hcomp
      obtain ⟨kC, hkC, -⟩ := hcls.2
      refine W.aast hx hb (hP.1 a _ he) (fun q h => by cases h) (fun h => by cases h) k1 k2 rfl hkC ⟨h0, by show _ < (arrV _ _ _).slots.size; rw [arrV_size]; exact hlt⟩ g1 (fun q h => by rw [g3] at h; cases h) (by rw [g2]; exact hkC) (by rw [g2]; exact va_assign hcls) rfl rfl hd fun H1 e1 z oq => ?_
      refine hk _ _ _ _ hf h1 h2 H1 _ ls ⟨?_, by rw [z]; exact hP.2⟩ (hS.put z oq (Nat.le_add_right _ _)) hL
      have hw : (wsO X μ).set a (X.2.2.1 + a, .inl (X.2.1 (shp a - 20), alen a, .inr (.inr (.inr (.inr (fun k => ((muR μ a i.toNatClampNeg (some v)).2.2.1 a k).map (fun z => X.2.2.1 + z))))))) = wsO X (muR μ a i.toNatClampNeg (some v)) := wsO_set X rfl (mkE_q rfl hsa) (fun j hj => mkE_congr rfl rfl (up2_n _ _ _ hj))
      rw [← hw]
      refine hP.1.set (wsO_D X μ) he ?_ oq
      show H1[X.2.2.1 + a]? = some (vp_cell _ _)
      rw [e1]
      rw [vp_cell_q, vp_cell_q, arrV_store]
      congr 2
      funext q
      by_cases hq : q = i.toNatClampNeg
      · subst hq
        simp [updV, muR, up2, va_rf]
      · simp [updV, muR, up2, hq]
  · exact hf.elim
theorem ssz_in {t0 t d : Nat} (h1 : t0 ≤ t) (h2 : t + 1 ≤ t0 + d) : ssz t - ssz t0 + slz t = ssz (t + 1) - ssz t0 ∧ ssz t - ssz t0 + slz t ≤ ssz (t0 + d) - ssz t0 ∧ t - t0 + 1 = t + 1 - t0 ∧ t - t0 + 1 ≤ d := by
  have a := ssz_mono h1
  have b := ssz_mono h2
  have c : ssz (t + 1) = ssz t + slz t := rfl
  omega
theorem push_P {X : XT} {μ : Mu} {H H1 : Heap} {e : va_E} (hP : RepW X μ H) (he : mkE X (newMu μ) μ.2.2.2 = e) (z : H1.size = H.size + 1) (oq : ∀ q, q < H.size → H1[q]? = H[q]?) (hat : va_at X.1 CL (X.2.2.1 + μ.2.2.2, e) H1) : RepW X (newMu μ) H1 := by
  refine ⟨?_, ?_⟩
  · have hw : wsO X μ ++ [(X.2.2.1 + μ.2.2.2, e)] = wsO X (newMu μ) := wsO_push X rfl he (fun j hj => mkE_congr (clr2_n _ _ hj) (clr2_n _ _ hj) (clr2_n _ _ hj))
    rw [← hw]
    refine (hP.1.kept (fun k x hx => oq x.1 ((hP.1 k x hx).lt))).app (fun k x hx => ?_)
    have hz : k < 1 := (List.getElem?_eq_some_iff.mp hx).1
    rw [show k = 0 by omega] at hx
    cases hx
    exact hat
  · show H1.size = X.2.2.1 + (μ.2.2.2 + 1)
    rw [z, hP.2]
    omega
theorem push_S {A : Nat → Prop} {H0 H H1 : Heap} {locs : List Loc} (hS : va_S A H0 H locs) (z : H1.size = H.size + 1) (oq : ∀ q, q < H.size → H1[q]? = H[q]?) : va_S A H0 H1 locs :=
  ⟨Nat.le_trans hS.1 (by omega), fun x h1 h2 => (oq x (Nat.lt_of_lt_of_le h1 hS.1)).trans (hS.2.1 x h1 h2), hS.2.2⟩
def x_newa (code : Nat) : PT := fun pc lo st μ K E => match st with
  | .int n :: r => shp μ.2.2.2 = code ∧ ¬ n < 0 ∧ n.toNatClampNeg = alen μ.2.2.2 ∧ alen μ.2.2.2 ≤ 5000 ∧ μ.2.2.2 + 1 ≤ E.2.2 ∧ K (pc + 2) lo (.ref μ.2.2.2 :: r) (newMu μ)
  | _ => False
theorem s_newa_i (hd : decode cc pc = .ok (.newarray .int, 2)) (hw : Cond.arrayClass .int ∈ TBG) : Snd own cc nL F Lc ini rt pc (x_newa 20) := by
  intro l X R t0 d p e s m args below meth c Z Q G hret lo st μ K hf hk
  obtain ⟨hx, hb, hml, hown, hts, hKS, hlk, hnm, hbase, hF, hLc, hdc, hds⟩ := G
  unfold x_newa at hf
  split at hf
  · rename_i n r
    obtain ⟨hs, hn, hN, hsm, hlim, hf⟩ := hf
    intro h1 h2 H locs ls hP hS hL
    have hsl : slz μ.2.2.2 = alen μ.2.2.2 := by unfold slz; rw [hs]; rfl
    obtain ⟨z1, z2, z3, z4⟩ := ssz_in h1 hlim
    rw [hsl] at z1 z2
    have hcb : componentBytes (newarray.typeOf .int) ≤ 8 := by decide
    have hby : alen μ.2.2.2 * componentBytes (newarray.typeOf .int) ≤ 536870912 := Nat.le_trans (Nat.mul_le_mul hsm hcb) (by decide)
    refine va_newaK (atype := .int) hx hb (hts _ hw) rfl hd rfl hn hN hby (by omega) (by omega) rfl fun H1 cA e1 z oq hAr hNm => ?_
    have h5 : s.vm.findClass ("[" ++ (newarray.typeOf .int).toString) = some (X.2.1 0) := (hKS.1.2 0 _ rfl).2
    have hcA : cA = X.2.1 0 := Option.some.inj (hNm.symm.trans h5)
    subst hcA
    refine W.cs z3 z1 ?_
    have hP' : RepW X (newMu μ) H1 := push_P (e := .inl (X.2.1 0, alen μ.2.2.2, .inl (fun _ => 0))) hP (by rw [mkE_20 hs]; simp [newMu, clr2]) z oq (by show H1[X.2.2.1 + μ.2.2.2]? = some (vp_cell _ _); rw [← hP.2, e1]; rfl)
    have g := hk _ _ _ _ hf (by show t0 ≤ μ.2.2.2 + 1; omega) hlim H1 locs ls hP' (push_S hS z oq) hL
    rw [List.map_cons] at g
    rw [hP.2]
    exact g
  · exact hf.elim
theorem s_newa_l (hd : decode cc pc = .ok (.newarray .long, 2)) (hw : Cond.arrayClass .long ∈ TBG) : Snd own cc nL F Lc ini rt pc (x_newa 21) := by
  intro l X R t0 d p e s m args below meth c Z Q G hret lo st μ K hf hk
  obtain ⟨hx, hb, hml, hown, hts, hKS, hlk, hnm, hbase, hF, hLc, hdc, hds⟩ := G
  unfold x_newa at hf
  split at hf
  · rename_i n r
    obtain ⟨hs, hn, hN, hsm, hlim, hf⟩ := hf
    intro h1 h2 H locs ls hP hS hL
    have hsl : slz μ.2.2.2 = alen μ.2.2.2 := by unfold slz; rw [hs]; rfl
    obtain ⟨z1, z2, z3, z4⟩ := ssz_in h1 hlim
    rw [hsl] at z1 z2
    have hcb : componentBytes (newarray.typeOf .long) ≤ 8 := by decide
    have hby : alen μ.2.2.2 * componentBytes (newarray.typeOf .long) ≤ 536870912 := Nat.le_trans (Nat.mul_le_mul hsm hcb) (by decide)
    refine va_newaK (atype := .long) hx hb (hts _ hw) rfl hd rfl hn hN hby (by omega) (by omega) rfl fun H1 cA e1 z oq hAr hNm => ?_
    have h5 : s.vm.findClass ("[" ++ (newarray.typeOf .long).toString) = some (X.2.1 1) := (hKS.1.2 1 _ rfl).2
    have hcA : cA = X.2.1 1 := Option.some.inj (hNm.symm.trans h5)
    subst hcA
    refine W.cs z3 z1 ?_
    have hP' : RepW X (newMu μ) H1 := push_P (e := .inl (X.2.1 1, alen μ.2.2.2, .inr (.inl (fun _ => 0)))) hP (by rw [mkE_21 hs]; simp [newMu, clr2]) z oq (by show H1[X.2.2.1 + μ.2.2.2]? = some (vp_cell _ _); rw [← hP.2, e1]; rfl)
    have g := hk _ _ _ _ hf (by show t0 ≤ μ.2.2.2 + 1; omega) hlim H1 locs ls hP' (push_S hS z oq) hL
    rw [List.map_cons] at g
    rw [hP.2]
    exact g
  · exact hf.elim
theorem s_newa_z (hd : decode cc pc = .ok (.newarray .boolean, 2)) (hw : Cond.arrayClass .boolean ∈ TBG) : Snd own cc nL F Lc ini rt pc (x_newa 22) := by
  intro l X R t0 d p e s m args below meth c Z Q G hret lo st μ K hf hk
  obtain ⟨hx, hb, hml, hown, hts, hKS, hlk, hnm, hbase, hF, hLc, hdc, hds⟩ := G
  unfold x_newa at hf
  split at hf
  · rename_i n r
    obtain ⟨hs, hn, hN, hsm, hlim, hf⟩ := hf
    intro h1 h2 H locs ls hP hS hL
    have hsl : slz μ.2.2.2 = alen μ.2.2.2 := by unfold slz; rw [hs]; rfl
    obtain ⟨z1, z2, z3, z4⟩ := ssz_in h1 hlim
    rw [hsl] at z1 z2
    have hcb : componentBytes (newarray.typeOf .boolean) ≤ 8 := by decide
    have hby : alen μ.2.2.2 * componentBytes (newarray.typeOf .boolean) ≤ 536870912 := Nat.le_trans (Nat.mul_le_mul hsm hcb) (by decide)
    refine va_newaK (atype := .boolean) hx hb (hts _ hw) rfl hd rfl hn hN hby (by omega) (by omega) rfl fun H1 cA e1 z oq hAr hNm => ?_
    have h5 : s.vm.findClass ("[" ++ (newarray.typeOf .boolean).toString) = some (X.2.1 2) := (hKS.1.2 2 _ rfl).2
    have hcA : cA = X.2.1 2 := Option.some.inj (hNm.symm.trans h5)
    subst hcA
    refine W.cs z3 z1 ?_
    have hP' : RepW X (newMu μ) H1 := push_P (e := .inl (X.2.1 2, alen μ.2.2.2, .inl (fun _ => 0))) hP (by rw [mkE_22 hs]; simp [newMu, clr2]) z oq (by show H1[X.2.2.1 + μ.2.2.2]? = some (vp_cell _ _); rw [← hP.2, e1]; rfl)
    have g := hk _ _ _ _ hf (by show t0 ≤ μ.2.2.2 + 1; omega) hlim H1 locs ls hP' (push_S hS z oq) hL
    rw [List.map_cons] at g
    rw [hP.2]
    exact g
  · exact hf.elim
def x_anewa (code : Nat) : PT := fun pc lo st μ K E => match st with
  | .int n :: r => shp μ.2.2.2 = code ∧ 23 ≤ code ∧ ¬ n < 0 ∧ n.toNatClampNeg = alen μ.2.2.2 ∧ alen μ.2.2.2 ≤ 5000 ∧ μ.2.2.2 + 1 ≤ E.2.2 ∧ K (pc + 3) lo (.ref μ.2.2.2 :: r) (newMu μ)
  | _ => False
theorem s_anewa {idx code : Nat} {C : String} (hd : decode cc pc = .ok (.anewarray idx, 3)) (hw : Cond.classLink own idx C ∈ TBG) (hC : C ∈ [RX3, RX7, RX1]) (hty : tyRef (code - 20) = some C) : Snd own cc nL F Lc ini rt pc (x_anewa code) := by
  intro l X R t0 d p e s m args below meth c Z Q G hret lo st μ K hf hk
  obtain ⟨hx, hb, hml, hown, hts, hKS, hlk, hnm, hbase, hF, hLc, hdc, hds⟩ := G
  unfold x_anewa at hf
  split at hf
  · rename_i n r
    obtain ⟨hs, hco, hn, hN, hsm, hlim, hf⟩ := hf
    intro h1 h2 H locs ls hP hS hL
    have hsl : slz μ.2.2.2 = alen μ.2.2.2 := by unfold slz; rw [if_neg (by omega)]
    obtain ⟨z1, z2, z3, z4⟩ := ssz_in h1 hlim
    rw [hsl, ← hN] at z1 z2
    refine W.anew hx hb hown (hts _ hw) (va_AO.use (hKS.2.2 C hC)) rfl hd rfl hn (by rw [hN]; omega) (by omega) (by omega) fun cA kA comp f1 f2 f3 f4 => ?_
    have htt := tyO_ref (X := X) hty
    obtain ⟨kA', comp', k1, k2, k3, k4⟩ := (hKS.1.2 _ _ htt).2
    have hcA : cA = X.2.1 (code - 20) := Option.some.inj (f1.symm.trans k4)
    subst hcA
    generalize hH1 : H.push ({ cls := X.2.1 (code - 20), slots := Array.replicate n.toNatClampNeg .null, vm := .none } : Cell) = H1
    have z : H1.size = H.size + 1 := by rw [← hH1, Array.size_push]
    have e1 : H1[H.size]? = some (arrV (X.2.1 (code - 20)) n.toNatClampNeg (fun _ => .null)) := by rw [← hH1, Array.getElem?_push_size, ← arrV_new]
    have oq : ∀ q : Nat, q < H.size → H1[q]? = H[q]? := fun q hq => by rw [← hH1, Array.getElem?_push, if_neg (Nat.ne_of_lt hq)]
    refine W.cs z3 z1 ?_
    have hP' : RepW X (newMu μ) H1 := push_P (e := .inl (X.2.1 (code - 20), alen μ.2.2.2, .inr (.inr (.inr (.inr (fun _ => none)))))) hP (by rw [mkE_q hs hco]; simp [newMu, clr2]) z oq (by show H1[X.2.2.1 + μ.2.2.2]? = some (vp_cell _ _); rw [← hP.2, e1, vp_cell_q, hN]; rfl)
    have g := hk _ _ _ _ hf (by show t0 ≤ μ.2.2.2 + 1; omega) hlim H1 locs ls hP' (push_S hS z oq) hL
    rw [List.map_cons] at g
    rw [hP.2]
    exact g
  · exact hf.elim
def x_new (ci : Nat) : PT := fun pc lo st μ K E => shp μ.2.2.2 = ci ∧ μ.2.2.2 + 1 ≤ E.2.2 ∧ K (pc + 3) lo (.ref μ.2.2.2 :: st) (newMu μ)
def NewOK (ci : Nat) : Prop := ci < 20 ∧ ∃ (r : vw_C) (ty : Nat → FieldType), CL[ci]? = some r ∧ nFc ci = r.2.2 ∧ (∀ k, k < r.2.2 → parseFieldDescriptor (r.2.1 k).2.2.1 = some (ty k)) ∧ (∀ w ∈ u_ws r.1 r.2.1 r.2.2, w ∈ TBG) ∧ Cond.instantiable r.1 r.2.2 ∈ TBG ∧ Cond.initialized r.1 ∈ TBG ∧
  (∀ j, j < r.2.2 → ((FK.getD ci [])[j]? = some 0 ∧ defaultValue (ty j) = .int 0) ∨ ((FK.getD ci [])[j]? = some 1 ∧ defaultValue (ty j) = .long 0) ∨ ((FK.getD ci [])[j]? = some 2 ∧ defaultValue (ty j) = .null))
theorem s_new {idx ci : Nat} (hd : decode cc pc = .ok (.new idx, 3)) (hok : NewOK ci) (hl : ∃ r : vw_C, CL[ci]? = some r ∧ Cond.classLink own idx r.1 ∈ TBG) : Snd own cc nL F Lc ini rt pc (x_new ci) := by
  intro l X R t0 d p e s m args below meth c Z Q G hret lo st μ K hf hk
  obtain ⟨hx, hb, hml, hown, hts, hKS, hlk, hnm, hbase, hF, hLc, hdc, hds⟩ := G
  unfold x_new at hf
  obtain ⟨hs, hlim, hf⟩ := hf
  obtain ⟨hci, ⟨C, T, N⟩, ty, hc, hN, hty, hin, hinst, hini, hdv⟩ := hok
  obtain ⟨r', hc', hcl⟩ := hl
  have hr : r' = (C, T, N) := Option.some.inj (hc'.symm.trans hc)
  subst hr
  intro h1 h2 H locs ls hP hS hL
  have hsl : slz μ.2.2.2 = N := by unfold slz; rw [hs, if_pos hci, hN]
  obtain ⟨z1, z2, z3, z4⟩ := ssz_in h1 hlim
  rw [hsl] at z1 z2
  have hKn := hKS.1.1 ci _ hc
  refine W.newcK hx hb hown (hts _ hcl) (hts _ hinst) (hts _ hini) rfl hd (by omega) (show ssz μ.2.2.2 - ssz t0 + N ≤ R.slots by omega) hKn.2.1 rfl fun H1 kC hkC e1 z oq => ?_
  refine W.cs z3 z1 ?_
  have hP' : RepW X (newMu μ) H1 := push_P (e := .inr (ci, objF X (newMu μ) μ.2.2.2 (FK.getD ci []))) hP (mkE_o hs hci) z oq (by
    refine ⟨_, hc, ?_⟩
    show t_OB (X.2.2.1 + μ.2.2.2) _ _ _ _ _
    rw [← hP.2]
    refine (u_born ty hts hin hKn hkC e1 hty).to (fun j hj => ?_)
    show _ = (objF X (newMu μ) μ.2.2.2 (FK.getD ci [])).getD j .null
    rw [List.getD_eq_getElem?_getD]
    rcases hdv j hj with ⟨q1, q2⟩ | ⟨q1, q2⟩ | ⟨q1, q2⟩
    · rw [objF_get q1, q2]; simp [fldV, newMu, clr2]
    · rw [objF_get q1, q2]; simp [fldV, newMu, clr2]
    · rw [objF_get q1, q2]; simp [fldV, newMu, clr2, va_rf])
  have g := hk _ _ _ _ hf (by show t0 ≤ μ.2.2.2 + 1; omega) hlim H1 locs ls hP' (push_S hS z oq) hL
  rw [List.map_cons] at g
  rw [hP.2]
  exact g
/-! calls -/
theorem goes {l : Launch} {X : XT} {R : Room} {p : Program} {e : Env} {s : State} {m : MethodId} {args : Array Value} {below : List Frame} {meth : Method} {c : Code} {H : Heap} {locs : List Loc} {cells slots dd ms : Nat} {Z : State → Prop} {ls : Array Slot} {rest st0 : List Value} {μ : Mu} {Q : QT} {a : Array Value} {pc : Nat}
    (hr : va_Run p l e R s m args below meth c H locs cells slots dd ms (F0 m pc ls st0) rest (QcM X μ dd Q a) (frX X)) (hS : va_S (frX X) s.heap H locs)
    (kk : ∀ (r : Option Value) (μ' : Mu), Q r μ' → μ'.2.2.2 = μ.2.2.2 + dd → ∀ (H1 : Heap) (locs1 : List Loc), RepW X μ' H1 → va_S (frX X) s.heap H1 locs1 → W p l e R s m args below meth c H1 locs1 (cells + dd) (slots + ms) Z (F0 m (pc + 3) ls ((r.map (trv X)).toList ++ rest))) : W p l e R s m args below meth c H locs cells slots Z (F0 m pc ls st0) := by
  intro T hT X2
  obtain ⟨v, st₀, t, T', L, h0, X', hL, e1, e2, ⟨⟨r, μ', hv, hq, htop, hrep⟩, hz, hk⟩, st⟩ := hr T hT X2
  cases hv
  rw [h0] at hz hk
  obtain ⟨t2, a1, b1⟩ := kk r μ' hq htop T'.heap (locs ++ L) (by rw [e1]; exact hrep)
    ⟨Nat.le_trans hS.1 (by rw [e1]; exact hz), fun q h1 h2 => by rw [e1, hk q (Nat.lt_of_lt_of_le h1 hS.1) h2]; exact hS.2.1 q h1 h2, fun q hq => by
      rcases List.mem_append.mp hq with h | h
      · exact hS.2.2 q h
      · exact hL q h⟩ T' rfl X'
  exact ⟨t2, st t2 a1, b1⟩
def notMH (y : MD) : Prop := y.1.cls ≠ "java/lang/invoke/MethodHandle" ∧ y.1.cls ≠ "java/lang/invoke/VarHandle"
def CodeIn (y : MD) (n : Nat) : Prop := Cond.code y.1 y.2.1 y.2.2.1 y.2.2.2.1 ∈ TBG ∧ Cond.initialized y.1.cls ∈ TBG ∧ notMH y ∧ (parseMethodDescriptor y.1.desc).map (fun d => d.parameters.length) = some n
def LkV (own : String) (idx ci : Nat) (y : MD) (n : Nat) : Prop := CodeIn y n ∧ (Cond.methodLink own idx y.1 ∈ TBG ∨ ∃ host, Cond.methodLinkNest own idx y.1 host ∈ NWS) ∧ Cond.instanceMethod y.1 ∈ TBG ∧ Cond.selects y.1.cls y.1 y.1 ∈ TBG ∧ ci < 20 ∧ ∃ r : vw_C, CL[ci]? = some r ∧ r.1 = y.1.cls
def LkS (own : String) (idx : Nat) (y : MD) (n : Nat) : Prop := CodeIn y n ∧ Cond.methodLink own idx y.1 ∈ TBG ∧ Cond.static y.1 ∈ TBG
def LkI (own : String) (idx : Nat) (y : MD) : Prop := CodeIn y 0 ∧ (Cond.methodLink own idx y.1 ∈ TBG ∨ ∃ host, Cond.methodLinkNest own idx y.1 host ∈ NWS) ∧ Cond.instanceMethod y.1 ∈ TBG ∧ y.1.name = "<init>" ∧ y.2.2.2.1 = none
theorem wsM_in {y : MD} {n : Nat} (h : CodeIn y n) : GoodIn TBG (wsM y) := by
  intro w hw
  rcases List.mem_cons.mp hw with rfl | hw
  · exact ⟨h.1, (TBG_good _ h.1).2⟩
  · exact ⟨hw, (TBG_good _ hw).2⟩
theorem blindM {X : XT} {av : List Value} {μ : Mu} : FrameBlind (PcM X av μ) := by
  intro a U g mk q
  obtain ⟨q0, q1, q2⟩ := q
  have g1 : ∀ w ∈ NWS, va_Nw w (U.calling g mk a) := by
    intro w hw
    have h1 := q2.2.1 w hw
    have h2 := NWS_on w hw
    cases w with
    | fieldLinkNest => exact va_Nw.same (u := U) rfl rfl h1
    | methodLinkNest => exact va_Nw.same (u := U) rfl rfl h1
    | _ => cases h2
  exact ⟨q0, q1, va_K.moved (u := U) (U := U.calling g mk a) (Vm.Alike.refl U.vm) q2.1, g1, fun C hC => (q2.2.2 C hC).moved (Vm.Alike.refl U.vm)⟩
def catS (st : List Value) : Nat := (st.map fun v => v.category).sum
theorem catS_tr (X : XT) (st : List Value) : ((st.map (trv X)).map fun v => v.category).sum = catS st := by
  unfold catS
  rw [List.map_map]
  congr 1
  apply List.map_congr_left
  intro v _
  exact trv_cat X v
/-- what the caller's room must bear -/
def Fits (F Lc : Nat) (y : MD) : Prop := y.2.2.2.2.1 + 1 ≤ F ∧ 8 + (y.2.2.1 + 11) + y.2.2.2.2.2 ≤ Lc
def callK (y : MD) (dd : Nat) (av rest : List Value) (pc : Nat) (lo : LO) (μ : Mu) (K : KT) (E : ET) : Prop := catS rest ≤ 8 ∧ μ.2.2.2 + dd ≤ E.2.2 ∧ E.2.1 y dd av μ (fun r μ' => K (pc + 3) lo (r.toList ++ rest) μ')
theorem cells_in {t0 t d dd : Nat} (h1 : t0 ≤ t) (h2 : t + dd ≤ t0 + d) : t - t0 + dd = t + dd - t0 ∧ ssz t - ssz t0 + (ssz (t + dd) - ssz t) = ssz (t + dd) - ssz t0 ∧ t - t0 + dd ≤ d ∧ ssz t - ssz t0 + (ssz (t + dd) - ssz t) ≤ ssz (t0 + d) - ssz t0 := by
  have a := ssz_mono h1
  have b := ssz_mono h2
  have c := ssz_mono (Nat.le_add_right t dd)
  omega
theorem map_toList (X : XT) (r : Option Value) (rest : List Value) : (r.toList ++ rest).map (trv X) = (r.map (trv X)).toList ++ rest.map (trv X) := by cases r <;> simp
theorem call_end {l : Launch} {X : XT} {R : Room} {t0 d : Nat} {p : Program} {e : Env} {s : State} {m : MethodId} {args : Array Value} {below : List Frame} {meth : Method} {c : Code} {H : Heap} {locs : List Loc} {Z : State → Prop} {ls : Array Slot} {rest st0 : List Value} {μ : Mu} {K : KT} {a : Array Value} {pc dd : Nat} {lo : LO}
    (hr : va_Run p l e R s m args below meth c H locs (μ.2.2.2 - t0) (ssz μ.2.2.2 - ssz t0) dd (ssz (μ.2.2.2 + dd) - ssz μ.2.2.2) (F0 m pc ls st0) (rest.map (trv X)) (QcM X μ dd (fun r μ' => K (pc + 3) lo (r.toList ++ rest) μ') a) (frX X)) (hS : va_S (frX X) s.heap H locs) (hL : LHas X nL ls lo) (h1 : t0 ≤ μ.2.2.2) (h2 : μ.2.2.2 + dd ≤ t0 + d)
    (hk : ∀ (pc' : Nat) (lo' : LO) (st' : List Value) (μ' : Mu), K pc' lo' st' μ' → AWc l X nL R t0 d p e s m args below meth c Z pc' lo' st' μ') : W p l e R s m args below meth c H locs (μ.2.2.2 - t0) (ssz μ.2.2.2 - ssz t0) Z (F0 m pc ls st0) := by
  obtain ⟨z1, z2, z3, z4⟩ := cells_in h1 h2
  refine goes hr hS fun r μ' hq htop H1 locs1 hP1 hS1 => ?_
  have g := hk _ _ _ _ hq (by omega) (by omega) H1 locs1 ls hP1 hS1 hL
  rw [map_toList, htop] at g
  exact W.cs z1 z2 g
def x_callV0 (ci : Nat) (y : MD) : PT := fun pc lo st μ K E => match st with
  | .ref o :: rest => o < μ.2.2.2 ∧ shp o = ci ∧ callK y 0 [.ref o] rest pc lo μ K E
  | _ => False
theorem s_callV0 {idx ci : Nat} {y : MD} (hd : decode cc pc = .ok (.invokevirtual idx, 3)) (hlk : LkV own idx ci y 0) (hft : Fits F Lc y) : Snd own cc nL F Lc ini rt pc (x_callV0 ci y) := by
  intro l X R t0 d p e s m args below meth c Z Q G hret lo st μ K hf hk
  obtain ⟨hx, hb, hml, hown, hts, hKS, hlk0, hnm, hbase, hF, hLc, hdc, hds⟩ := G
  unfold x_callV0 at hf
  split at hf
  · rename_i o rest
    obtain ⟨ho, hs, hcat, hlim, hM⟩ := hf
    obtain ⟨hcode, hlink, hinst, hsel, hci, q, hq, hq1⟩ := hlk
    intro h1 h2 H locs ls hP hS hL
    obtain ⟨z1, z2, z3, z4⟩ := cells_in h1 hlim
    have he := wsO_get X ho
    rw [mkE_o hs hci] at he
    have hrc := va_recv hKS.1 hP.1 hq he
    rw [hq1] at hrc
    have hG := wsM_in hcode
    have hR : y.2.2.2.2.1 + 1 ≤ R.frames ∧ 8 + (y.2.2.1 + 11) + y.2.2.2.2.2 ≤ R.locals := ⟨Nat.le_trans hft.1 hF, Nat.le_trans hft.2 hLc⟩
    refine call_end (K := K) (rest := rest) (a := (Value.ref (X.2.2.1 + o) :: []).toArray) ?_ hS hL h1 hlim hk
    rcases hlink with hlink | ⟨host, hlink⟩
    · exact va_runV (As := []) (rest := rest.map (trv X)) ⟨hx, hb, hml, hown, hts⟩ hM ⟨callB_of 0 hts hG rfl rfl rfl (hts _ hcode.2.1) (hts _ hlink) ⟨hcode.2.2.1.1, hcode.2.2.1.2, hcode.2.2.2⟩ hR, hts _ hinst, hts _ hsel⟩ ⟨blindM, hrc, fun V hV hW => ⟨rfl, hV ▸ hP, hKS.warm hW⟩⟩ rfl rfl (hL.1.trans rfl) rfl (lv_room (by rw [catS_tr]; exact hcat)) hd ⟨by omega, by omega⟩
    · exact va_runVN (As := []) (rest := rest.map (trv X)) ⟨hx, hb, hml, hown, hts⟩ hM ⟨va_cnB 0 hts hG rfl rfl rfl (hKS.2.1 _ hlink) (hts _ hcode.2.1) ⟨hcode.2.2.1.1, hcode.2.2.1.2, hcode.2.2.2⟩ hR, hts _ hinst, hts _ hsel⟩ ⟨blindM, hrc, fun V hV hW => ⟨rfl, hV ▸ hP, hKS.warm hW⟩⟩ rfl rfl (hL.1.trans rfl) rfl (lv_room (by rw [catS_tr]; exact hcat)) hd ⟨by omega, by omega⟩
  · exact hf.elim
def x_callV1 (ci : Nat) (y : MD) : PT := fun pc lo st μ K E => match st with
  | b1 :: .ref o :: rest => o < μ.2.2.2 ∧ shp o = ci ∧ callK y 0 [.ref o, b1] rest pc lo μ K E
  | _ => False
theorem s_callV1 {idx ci : Nat} {y : MD} (hd : decode cc pc = .ok (.invokevirtual idx, 3)) (hlk : LkV own idx ci y 1) (hft : Fits F Lc y) : Snd own cc nL F Lc ini rt pc (x_callV1 ci y) := by
  intro l X R t0 d p e s m args below meth c Z Q G hret lo st μ K hf hk
  obtain ⟨hx, hb, hml, hown, hts, hKS, hlk0, hnm, hbase, hF, hLc, hdc, hds⟩ := G
  unfold x_callV1 at hf
  split at hf
  · rename_i b1 o rest
    obtain ⟨ho, hs, hcat, hlim, hM⟩ := hf
    obtain ⟨hcode, hlink, hinst, hsel, hci, q, hq, hq1⟩ := hlk
    intro h1 h2 H locs ls hP hS hL
    obtain ⟨z1, z2, z3, z4⟩ := cells_in h1 hlim
    have he := wsO_get X ho
    rw [mkE_o hs hci] at he
    have hrc := va_recv hKS.1 hP.1 hq he
    rw [hq1] at hrc
    have hG := wsM_in hcode
    have hR : y.2.2.2.2.1 + 1 ≤ R.frames ∧ 8 + (y.2.2.1 + 11) + y.2.2.2.2.2 ≤ R.locals := ⟨Nat.le_trans hft.1 hF, Nat.le_trans hft.2 hLc⟩
    refine call_end (K := K) (rest := rest) (a := (Value.ref (X.2.2.1 + o) :: [trv X b1]).toArray) ?_ hS hL h1 hlim hk
    rcases hlink with hlink | ⟨host, hlink⟩
    · exact va_runV (As := [trv X b1]) (rest := rest.map (trv X)) ⟨hx, hb, hml, hown, hts⟩ hM ⟨callB_of 1 hts hG rfl rfl rfl (hts _ hcode.2.1) (hts _ hlink) ⟨hcode.2.2.1.1, hcode.2.2.1.2, hcode.2.2.2⟩ hR, hts _ hinst, hts _ hsel⟩ ⟨blindM, hrc, fun V hV hW => ⟨rfl, hV ▸ hP, hKS.warm hW⟩⟩ rfl rfl (hL.1.trans rfl) rfl (lv_room (by rw [catS_tr]; exact hcat)) hd ⟨by omega, by omega⟩
    · exact va_runVN (As := [trv X b1]) (rest := rest.map (trv X)) ⟨hx, hb, hml, hown, hts⟩ hM ⟨va_cnB 1 hts hG rfl rfl rfl (hKS.2.1 _ hlink) (hts _ hcode.2.1) ⟨hcode.2.2.1.1, hcode.2.2.1.2, hcode.2.2.2⟩ hR, hts _ hinst, hts _ hsel⟩ ⟨blindM, hrc, fun V hV hW => ⟨rfl, hV ▸ hP, hKS.warm hW⟩⟩ rfl rfl (hL.1.trans rfl) rfl (lv_room (by rw [catS_tr]; exact hcat)) hd ⟨by omega, by omega⟩
  · exact hf.elim
def x_callV2 (ci : Nat) (y : MD) : PT := fun pc lo st μ K E => match st with
  | b2 :: b1 :: .ref o :: rest => o < μ.2.2.2 ∧ shp o = ci ∧ callK y 0 [.ref o, b1, b2] rest pc lo μ K E
  | _ => False
theorem s_callV2 {idx ci : Nat} {y : MD} (hd : decode cc pc = .ok (.invokevirtual idx, 3)) (hlk : LkV own idx ci y 2) (hft : Fits F Lc y) : Snd own cc nL F Lc ini rt pc (x_callV2 ci y) := by
  intro l X R t0 d p e s m args below meth c Z Q G hret lo st μ K hf hk
  obtain ⟨hx, hb, hml, hown, hts, hKS, hlk0, hnm, hbase, hF, hLc, hdc, hds⟩ := G
  unfold x_callV2 at hf
  split at hf
  · rename_i b2 b1 o rest
    obtain ⟨ho, hs, hcat, hlim, hM⟩ := hf
    obtain ⟨hcode, hlink, hinst, hsel, hci, q, hq, hq1⟩ := hlk
    intro h1 h2 H locs ls hP hS hL
    obtain ⟨z1, z2, z3, z4⟩ := cells_in h1 hlim
    have he := wsO_get X ho
    rw [mkE_o hs hci] at he
    have hrc := va_recv hKS.1 hP.1 hq he
    rw [hq1] at hrc
    have hG := wsM_in hcode
    have hR : y.2.2.2.2.1 + 1 ≤ R.frames ∧ 8 + (y.2.2.1 + 11) + y.2.2.2.2.2 ≤ R.locals := ⟨Nat.le_trans hft.1 hF, Nat.le_trans hft.2 hLc⟩
    refine call_end (K := K) (rest := rest) (a := (Value.ref (X.2.2.1 + o) :: [trv X b1, trv X b2]).toArray) ?_ hS hL h1 hlim hk
    rcases hlink with hlink | ⟨host, hlink⟩
    · exact va_runV (As := [trv X b1, trv X b2]) (rest := rest.map (trv X)) ⟨hx, hb, hml, hown, hts⟩ hM ⟨callB_of 2 hts hG rfl rfl rfl (hts _ hcode.2.1) (hts _ hlink) ⟨hcode.2.2.1.1, hcode.2.2.1.2, hcode.2.2.2⟩ hR, hts _ hinst, hts _ hsel⟩ ⟨blindM, hrc, fun V hV hW => ⟨rfl, hV ▸ hP, hKS.warm hW⟩⟩ rfl rfl (hL.1.trans rfl) rfl (lv_room (by rw [catS_tr]; exact hcat)) hd ⟨by omega, by omega⟩
    · exact va_runVN (As := [trv X b1, trv X b2]) (rest := rest.map (trv X)) ⟨hx, hb, hml, hown, hts⟩ hM ⟨va_cnB 2 hts hG rfl rfl rfl (hKS.2.1 _ hlink) (hts _ hcode.2.1) ⟨hcode.2.2.1.1, hcode.2.2.1.2, hcode.2.2.2⟩ hR, hts _ hinst, hts _ hsel⟩ ⟨blindM, hrc, fun V hV hW => ⟨rfl, hV ▸ hP, hKS.warm hW⟩⟩ rfl rfl (hL.1.trans rfl) rfl (lv_room (by rw [catS_tr]; exact hcat)) hd ⟨by omega, by omega⟩
  · exact hf.elim
def x_callV3 (ci : Nat) (y : MD) : PT := fun pc lo st μ K E => match st with
  | b3 :: b2 :: b1 :: .ref o :: rest => o < μ.2.2.2 ∧ shp o = ci ∧ callK y 0 [.ref o, b1, b2, b3] rest pc lo μ K E
  | _ => False
theorem s_callV3 {idx ci : Nat} {y : MD} (hd : decode cc pc = .ok (.invokevirtual idx, 3)) (hlk : LkV own idx ci y 3) (hft : Fits F Lc y) : Snd own cc nL F Lc ini rt pc (x_callV3 ci y) := by
  intro l X R t0 d p e s m args below meth c Z Q G hret lo st μ K hf hk
  obtain ⟨hx, hb, hml, hown, hts, hKS, hlk0, hnm, hbase, hF, hLc, hdc, hds⟩ := G
  unfold x_callV3 at hf
  split at hf
  · rename_i b3 b2 b1 o rest
    obtain ⟨ho, hs, hcat, hlim, hM⟩ := hf
    obtain ⟨hcode, hlink, hinst, hsel, hci, q, hq, hq1⟩ := hlk
    intro h1 h2 H locs ls hP hS hL
    obtain ⟨z1, z2, z3, z4⟩ := cells_in h1 hlim
    have he := wsO_get X ho
    rw [mkE_o hs hci] at he
    have hrc := va_recv hKS.1 hP.1 hq he
    rw [hq1] at hrc
    have hG := wsM_in hcode
    have hR : y.2.2.2.2.1 + 1 ≤ R.frames ∧ 8 + (y.2.2.1 + 11) + y.2.2.2.2.2 ≤ R.locals := ⟨Nat.le_trans hft.1 hF, Nat.le_trans hft.2 hLc⟩
    refine call_end (K := K) (rest := rest) (a := (Value.ref (X.2.2.1 + o) :: [trv X b1, trv X b2, trv X b3]).toArray) ?_ hS hL h1 hlim hk
    rcases hlink with hlink | ⟨host, hlink⟩
    · exact va_runV (As := [trv X b1, trv X b2, trv X b3]) (rest := rest.map (trv X)) ⟨hx, hb, hml, hown, hts⟩ hM ⟨callB_of 3 hts hG rfl rfl rfl (hts _ hcode.2.1) (hts _ hlink) ⟨hcode.2.2.1.1, hcode.2.2.1.2, hcode.2.2.2⟩ hR, hts _ hinst, hts _ hsel⟩ ⟨blindM, hrc, fun V hV hW => ⟨rfl, hV ▸ hP, hKS.warm hW⟩⟩ rfl rfl (hL.1.trans rfl) rfl (lv_room (by rw [catS_tr]; exact hcat)) hd ⟨by omega, by omega⟩
    · exact va_runVN (As := [trv X b1, trv X b2, trv X b3]) (rest := rest.map (trv X)) ⟨hx, hb, hml, hown, hts⟩ hM ⟨va_cnB 3 hts hG rfl rfl rfl (hKS.2.1 _ hlink) (hts _ hcode.2.1) ⟨hcode.2.2.1.1, hcode.2.2.1.2, hcode.2.2.2⟩ hR, hts _ hinst, hts _ hsel⟩ ⟨blindM, hrc, fun V hV hW => ⟨rfl, hV ▸ hP, hKS.warm hW⟩⟩ rfl rfl (hL.1.trans rfl) rfl (lv_room (by rw [catS_tr]; exact hcat)) hd ⟨by omega, by omega⟩
  · exact hf.elim
def x_callS1 (y : MD) : PT := fun pc lo st μ K E => match st with
  | b1 :: rest => callK y 0 [b1] rest pc lo μ K E
  | _ => False
theorem s_callS1 {idx : Nat} {y : MD} (hd : decode cc pc = .ok (.invokestatic idx, 3)) (hlk : LkS own idx y 1) (hft : Fits F Lc y) : Snd own cc nL F Lc ini rt pc (x_callS1 y) := by
  intro l X R t0 d p e s m args below meth c Z Q G hret lo st μ K hf hk
  obtain ⟨hx, hb, hml, hown, hts, hKS, hlk0, hnm, hbase, hF, hLc, hdc, hds⟩ := G
  unfold x_callS1 at hf
  split at hf
  · rename_i b1 rest
    obtain ⟨hcat, hlim, hM⟩ := hf
    obtain ⟨hcode, hlink, hstat⟩ := hlk
    intro h1 h2 H locs ls hP hS hL
    obtain ⟨z1, z2, z3, z4⟩ := cells_in h1 hlim
    have hG := wsM_in hcode
    have hR : y.2.2.2.2.1 + 1 ≤ R.frames ∧ 8 + (y.2.2.1 + 11) + y.2.2.2.2.2 ≤ R.locals := ⟨Nat.le_trans hft.1 hF, Nat.le_trans hft.2 hLc⟩
    refine call_end (K := K) (rest := rest) (a := ([trv X b1] : List Value).toArray) ?_ hS hL h1 hlim hk
    exact va_runS (As := [trv X b1]) (rest := rest.map (trv X)) ⟨hx, hb, hml, hown, hts⟩ hM ⟨callB_of 1 hts hG rfl rfl rfl (hts _ hcode.2.1) (hts _ hlink) ⟨hcode.2.2.1.1, hcode.2.2.1.2, hcode.2.2.2⟩ hR, hts _ hstat⟩ ⟨blindM, fun V hV hW => ⟨rfl, hV ▸ hP, hKS.warm hW⟩⟩ rfl rfl (hL.1.trans rfl) rfl (lv_room (by rw [catS_tr]; exact hcat)) hd ⟨by omega, by omega⟩
  · exact hf.elim
def x_callS2 (y : MD) : PT := fun pc lo st μ K E => match st with
  | b2 :: b1 :: rest => callK y 0 [b1, b2] rest pc lo μ K E
  | _ => False
theorem s_callS2 {idx : Nat} {y : MD} (hd : decode cc pc = .ok (.invokestatic idx, 3)) (hlk : LkS own idx y 2) (hft : Fits F Lc y) : Snd own cc nL F Lc ini rt pc (x_callS2 y) := by
  intro l X R t0 d p e s m args below meth c Z Q G hret lo st μ K hf hk
  obtain ⟨hx, hb, hml, hown, hts, hKS, hlk0, hnm, hbase, hF, hLc, hdc, hds⟩ := G
  unfold x_callS2 at hf
  split at hf
  · rename_i b2 b1 rest
    obtain ⟨hcat, hlim, hM⟩ := hf
    obtain ⟨hcode, hlink, hstat⟩ := hlk
    intro h1 h2 H locs ls hP hS hL
    obtain ⟨z1, z2, z3, z4⟩ := cells_in h1 hlim
    have hG := wsM_in hcode
    have hR : y.2.2.2.2.1 + 1 ≤ R.frames ∧ 8 + (y.2.2.1 + 11) + y.2.2.2.2.2 ≤ R.locals := ⟨Nat.le_trans hft.1 hF, Nat.le_trans hft.2 hLc⟩
    refine call_end (K := K) (rest := rest) (a := ([trv X b1, trv X b2] : List Value).toArray) ?_ hS hL h1 hlim hk
    exact va_runS (As := [trv X b1, trv X b2]) (rest := rest.map (trv X)) ⟨hx, hb, hml, hown, hts⟩ hM ⟨callB_of 2 hts hG rfl rfl rfl (hts _ hcode.2.1) (hts _ hlink) ⟨hcode.2.2.1.1, hcode.2.2.1.2, hcode.2.2.2⟩ hR, hts _ hstat⟩ ⟨blindM, fun V hV hW => ⟨rfl, hV ▸ hP, hKS.warm hW⟩⟩ rfl rfl (hL.1.trans rfl) rfl (lv_room (by rw [catS_tr]; exact hcat)) hd ⟨by omega, by omega⟩
  · exact hf.elim
def x_callS3 (y : MD) : PT := fun pc lo st μ K E => match st with
  | b3 :: b2 :: b1 :: rest => callK y 0 [b1, b2, b3] rest pc lo μ K E
  | _ => False
theorem s_callS3 {idx : Nat} {y : MD} (hd : decode cc pc = .ok (.invokestatic idx, 3)) (hlk : LkS own idx y 3) (hft : Fits F Lc y) : Snd own cc nL F Lc ini rt pc (x_callS3 y) := by
  intro l X R t0 d p e s m args below meth c Z Q G hret lo st μ K hf hk
  obtain ⟨hx, hb, hml, hown, hts, hKS, hlk0, hnm, hbase, hF, hLc, hdc, hds⟩ := G
  unfold x_callS3 at hf
  split at hf
  · rename_i b3 b2 b1 rest
    obtain ⟨hcat, hlim, hM⟩ := hf
    obtain ⟨hcode, hlink, hstat⟩ := hlk
    intro h1 h2 H locs ls hP hS hL
    obtain ⟨z1, z2, z3, z4⟩ := cells_in h1 hlim
    have hG := wsM_in hcode
    have hR : y.2.2.2.2.1 + 1 ≤ R.frames ∧ 8 + (y.2.2.1 + 11) + y.2.2.2.2.2 ≤ R.locals := ⟨Nat.le_trans hft.1 hF, Nat.le_trans hft.2 hLc⟩
    refine call_end (K := K) (rest := rest) (a := ([trv X b1, trv X b2, trv X b3] : List Value).toArray) ?_ hS hL h1 hlim hk
    exact va_runS (As := [trv X b1, trv X b2, trv X b3]) (rest := rest.map (trv X)) ⟨hx, hb, hml, hown, hts⟩ hM ⟨callB_of 3 hts hG rfl rfl rfl (hts _ hcode.2.1) (hts _ hlink) ⟨hcode.2.2.1.1, hcode.2.2.1.2, hcode.2.2.2⟩ hR, hts _ hstat⟩ ⟨blindM, fun V hV hW => ⟨rfl, hV ▸ hP, hKS.warm hW⟩⟩ rfl rfl (hL.1.trans rfl) rfl (lv_room (by rw [catS_tr]; exact hcat)) hd ⟨by omega, by omega⟩
  · exact hf.elim
def x_callS4 (y : MD) : PT := fun pc lo st μ K E => match st with
  | b4 :: b3 :: b2 :: b1 :: rest => callK y 0 [b1, b2, b3, b4] rest pc lo μ K E
  | _ => False
theorem s_callS4 {idx : Nat} {y : MD} (hd : decode cc pc = .ok (.invokestatic idx, 3)) (hlk : LkS own idx y 4) (hft : Fits F Lc y) : Snd own cc nL F Lc ini rt pc (x_callS4 y) := by
  intro l X R t0 d p e s m args below meth c Z Q G hret lo st μ K hf hk
  obtain ⟨hx, hb, hml, hown, hts, hKS, hlk0, hnm, hbase, hF, hLc, hdc, hds⟩ := G
  unfold x_callS4 at hf
  split at hf
  · rename_i b4 b3 b2 b1 rest
    obtain ⟨hcat, hlim, hM⟩ := hf
    obtain ⟨hcode, hlink, hstat⟩ := hlk
    intro h1 h2 H locs ls hP hS hL
    obtain ⟨z1, z2, z3, z4⟩ := cells_in h1 hlim
    have hG := wsM_in hcode
    have hR : y.2.2.2.2.1 + 1 ≤ R.frames ∧ 8 + (y.2.2.1 + 11) + y.2.2.2.2.2 ≤ R.locals := ⟨Nat.le_trans hft.1 hF, Nat.le_trans hft.2 hLc⟩
    refine call_end (K := K) (rest := rest) (a := ([trv X b1, trv X b2, trv X b3, trv X b4] : List Value).toArray) ?_ hS hL h1 hlim hk
    exact va_runS (As := [trv X b1, trv X b2, trv X b3, trv X b4]) (rest := rest.map (trv X)) ⟨hx, hb, hml, hown, hts⟩ hM ⟨callB_of 4 hts hG rfl rfl rfl (hts _ hcode.2.1) (hts _ hlink) ⟨hcode.2.2.1.1, hcode.2.2.1.2, hcode.2.2.2⟩ hR, hts _ hstat⟩ ⟨blindM, fun V hV hW => ⟨rfl, hV ▸ hP, hKS.warm hW⟩⟩ rfl rfl (hL.1.trans rfl) rfl (lv_room (by rw [catS_tr]; exact hcat)) hd ⟨by omega, by omega⟩
  · exact hf.elim
def x_callI (y : MD) (dd : Nat) : PT := fun pc lo st μ K E => match st with
  | .ref o :: rest => callK y dd [.ref o] rest pc lo μ K E
  | _ => False
theorem s_callI {idx dd : Nat} {y : MD} (hd : decode cc pc = .ok (.invokespecial idx, 3)) (hlk : LkI own idx y) (hft : Fits F Lc y) : Snd own cc nL F Lc ini rt pc (x_callI y dd) := by
  intro l X R t0 d p e s m args below meth c Z Q G hret lo st μ K hf hk
  obtain ⟨hx, hb, hml, hown, hts, hKS, hlk0, hnm, hbase, hF, hLc, hdc, hds⟩ := G
  unfold x_callI at hf
  split at hf
  · rename_i o rest
    obtain ⟨hcat, hlim, hM⟩ := hf
    obtain ⟨hcode, hlink, hinst, hnmi, hrn⟩ := hlk
    intro h1 h2 H locs ls hP hS hL
    obtain ⟨z1, z2, z3, z4⟩ := cells_in h1 hlim
    have hG := wsM_in hcode
    have hR : y.2.2.2.2.1 + 1 ≤ R.frames ∧ 8 + (y.2.2.1 + 11) + y.2.2.2.2.2 ≤ R.locals := ⟨Nat.le_trans hft.1 hF, Nat.le_trans hft.2 hLc⟩
    have hwe : wsM y = Cond.code y.1 y.2.1 y.2.2.1 none :: TBG := by unfold wsM; rw [hrn]
    refine call_end (K := K) (rest := rest) (a := (Value.ref (X.2.2.1 + o) :: ([] : List Value)).toArray) ?_ hS hL h1 hlim hk
    rcases hlink with hlink | ⟨host, hlink⟩
    · exact va_runI (As := []) (rest := rest.map (trv X)) ⟨hx, hb, hml, hown, hts⟩ hM ⟨callB_of 0 hts hG hwe rfl rfl (hts _ hcode.2.1) (hts _ hlink) ⟨hcode.2.2.1.1, hcode.2.2.1.2, hcode.2.2.2⟩ hR, hnmi, hts _ hinst⟩ ⟨blindM, fun V hV hW => ⟨rfl, hV ▸ hP, hKS.warm hW⟩⟩ rfl rfl (hL.1.trans rfl) rfl (lv_room (by rw [catS_tr]; exact hcat)) hd ⟨by omega, by omega⟩
    · exact va_runIN (As := []) (rest := rest.map (trv X)) ⟨hx, hb, hml, hown, hts⟩ hM ⟨va_cnB 0 hts hG hwe rfl rfl (hKS.2.1 _ hlink) (hts _ hcode.2.1) ⟨hcode.2.2.1.1, hcode.2.2.1.2, hcode.2.2.2⟩ hR, hnmi, hts _ hinst⟩ ⟨blindM, fun V hV hW => ⟨rfl, hV ▸ hP, hKS.warm hW⟩⟩ rfl rfl (hL.1.trans rfl) rfl (lv_room (by rw [catS_tr]; exact hcat)) hd ⟨by omega, by omega⟩
  · exact hf.elim
def x_objinit : PT := fun pc lo st μ K _ => match st with
  | [.ref _] => K (pc + 3) lo [] μ
  | _ => False
theorem s_objinit {idx : Nat} (hd : decode cc pc = .ok (.invokespecial idx, 3)) (hl : Cond.methodLink own idx objectInit ∈ TBG) (hi : Cond.instanceMethod objectInit ∈ TBG) (hc : Cond.code objectInit ⟨#[0xb1]⟩ 1 none ∈ TBG) (hF1 : 1 ≤ F) (hL1 : 12 ≤ Lc) : Snd own cc nL F Lc ini rt pc x_objinit := by
  intro l X R t0 d p e s m args below meth c Z Q G hret lo st μ K hf hk
  obtain ⟨hx, hb, hml, hown, hts, hKS, hlk, hnm, hbase, hF, hLc, hdc, hds⟩ := G
  unfold x_objinit at hf
  split at hf
  · intro h1 h2 H locs ls hP hS hL
    exact W.objInit hx hb hown (hts _ hl) (hts _ hi) (hts _ hc) rfl (hL.1.trans hml.symm) rfl hd (Nat.le_trans hF1 hF) (Nat.le_trans (by simp [JFrame.monitorRoom]; exact hL1) hLc) (hk _ _ _ _ hf h1 h2 H locs ls hP hS hL)
  · exact hf.elim
/-! returns -/
def x_iret : PT := fun _ _ st μ _ E => match st with
  | [.int v] => μ.2.2.2 = E.2.2 ∧ E.1 (some (.int v)) μ
  | _ => False
theorem s_iret (hd : decode cc pc = .ok (.ireturn, 1)) (hrt : rt = some .int) : Snd own cc nL F Lc ini rt pc x_iret := by
  intro l X R t0 d p e s m args below meth c Z Q G hret lo st μ K hf hk
  obtain ⟨hx, hb, hml, hown, hts, hKS, hlk, hnm, hbase, hF, hLc, hdc, hds⟩ := G
  unfold x_iret at hf
  split at hf
  · exact hret.1 _ _ _ _ _ hd hrt rfl hf.1 hf.2
  · exact hf.elim
def x_zret : PT := fun _ _ st μ _ E => match st with
  | [.int v] => μ.2.2.2 = E.2.2 ∧ (v = 0 ∨ v = 1) ∧ E.1 (some (.int v)) μ
  | _ => False
theorem s_zret (hd : decode cc pc = .ok (.ireturn, 1)) (hrt : rt = some .boolean) : Snd own cc nL F Lc ini rt pc x_zret := by
  intro l X R t0 d p e s m args below meth c Z Q G hret lo st μ K hf hk
  obtain ⟨hx, hb, hml, hown, hts, hKS, hlk, hnm, hbase, hF, hLc, hdc, hds⟩ := G
  unfold x_zret at hf
  split at hf
  · exact hret.1 _ _ _ _ _ hd hrt (nar_bool hf.2.1) hf.1 hf.2.2
  · exact hf.elim
def x_lret : PT := fun _ _ st μ _ E => match st with
  | [.long v] => μ.2.2.2 = E.2.2 ∧ E.1 (some (.long v)) μ
  | _ => False
theorem s_lret (hd : decode cc pc = .ok (.lreturn, 1)) (hrt : rt = some .long) : Snd own cc nL F Lc ini rt pc x_lret := by
  intro l X R t0 d p e s m args below meth c Z Q G hret lo st μ K hf hk
  obtain ⟨hx, hb, hml, hown, hts, hKS, hlk, hnm, hbase, hF, hLc, hdc, hds⟩ := G
  unfold x_lret at hf
  split at hf
  · exact hret.2.1 _ _ _ _ hd hrt hf.1 hf.2
  · exact hf.elim
def x_aret : PT := fun _ _ st μ _ E => match st with
  | [.ref v] => μ.2.2.2 = E.2.2 ∧ E.1 (some (.ref v)) μ
  | _ => False
theorem s_aret {n : String} (hd : decode cc pc = .ok (.areturn, 1)) (hrt : rt = some (.object n)) : Snd own cc nL F Lc ini rt pc x_aret := by
  intro l X R t0 d p e s m args below meth c Z Q G hret lo st μ K hf hk
  obtain ⟨hx, hb, hml, hown, hts, hKS, hlk, hnm, hbase, hF, hLc, hdc, hds⟩ := G
  unfold x_aret at hf
  split at hf
  · exact hret.2.2.1 _ _ _ _ _ hd hrt hf.1 hf.2
  · exact hf.elim
def x_vret : PT := fun _ _ st μ _ E => match st with
  | [] => μ.2.2.2 = E.2.2 ∧ E.1 none μ
  | _ => False
theorem s_vret (hd : decode cc pc = .ok (.return_, 1)) (hrt : rt = none) : Snd own cc nL F Lc ini rt pc x_vret := by
  intro l X R t0 d p e s m args below meth c Z Q G hret lo st μ K hf hk
  obtain ⟨hx, hb, hml, hown, hts, hKS, hlk, hnm, hbase, hF, hLc, hdc, hds⟩ := G
  unfold x_vret at hf
  split at hf
  · exact hret.2.2.2 _ _ _ hd hrt hf.1 hf.2
  · exact hf.elim
/-! a method's table, and its contract out of the walk -/
def SndT (own : String) (cc : ByteArray) (nL F Lc : Nat) (ini : Bool) (rt : Option FieldType) : Nat → List PT → Prop
  | _, [] => True
  | pc, f :: fs => Snd own cc nL F Lc ini rt pc f ∧ SndT own cc nL F Lc ini rt (pc + 1) fs
theorem SndT.at : ∀ (fs : List PT) (k pc : Nat), SndT own cc nL F Lc ini rt k fs → k ≤ pc → Snd own cc nL F Lc ini rt pc (fs.getD (pc - k) x_bad)
  | [], k, pc, _, _ => by simp only [List.getD_nil]; exact s_bad
  | f :: fs, k, pc, h, hk => by
    by_cases e : pc = k
    · subst e
      rw [Nat.sub_self]
      exact h.1
    · have := SndT.at fs (k + 1) pc h.2 (by omega)
      rw [show pc - k = (pc - (k + 1)) + 1 by omega]
      exact this
/-- what may be used of the machine: it takes each step of the table -/
def Cl (cd : List PT) (E : ET) (A : KT) : Prop := ∀ (pc : Nat) (lo : LO) (st : List Value) (μ : Mu) (K : KT), (cd.getD pc x_bad) pc lo st μ K E → (∀ (pc' : Nat) (lo' : LO) (st' : List Value) (μ' : Mu), K pc' lo' st' μ' → A pc' lo' st' μ') → A pc lo st μ
/-- fewer locals may be known -/
def Wk (A : KT) : Prop := ∀ (pc : Nat) (lo lo' : LO) (st : List Value) (μ : Mu), (∀ (i : Nat) (v : Value), lo'[i]? = some (some v) → lo[i]? = some (some v)) → A pc lo' st μ → A pc lo st μ
def lo0 : List Value → LO
  | [] => []
  | v :: vs => if v.category = 2 then some v :: none :: lo0 vs else some v :: lo0 vs
theorem lvl_args (X : XT) : ∀ (av : List Value) (i : Nat), lvl X i (lo0 av) = lv_args i (av.map (trv X))
  | [], _ => rfl
  | v :: vs, i => by
    unfold lo0
    rw [List.map_cons]
    unfold lv_args
    rw [trv_cat]
    split
    · simp only [lvl]
      rw [lvl_args X vs (i + 1 + 1)]
    · simp only [lvl]
      rw [lvl_args X vs (i + 1)]
theorem lvl_rep (X : XT) : ∀ (lo : LO) (k i : Nat), lvl X i (lo ++ List.replicate k none) = lvl X i lo
  | [], k, i => by
    rw [List.nil_append]
    induction k generalizing i with
    | zero => rfl
    | succ k ih => rw [List.replicate_succ]; simp only [lvl]; exact ih (i + 1)
  | none :: r, k, i => by simp only [List.cons_append, lvl]; exact lvl_rep X r k (i + 1)
  | some v :: r, k, i => by simp only [List.cons_append, lvl]; rw [lvl_rep X r k (i + 1)]
theorem AWc_wk {l : Launch} {X : XT} {R : Room} {t0 d : Nat} {p : Program} {e : Env} {s : State} {m : MethodId} {args : Array Value} {below : List Frame} {meth : Method} {c : Code} {Z : State → Prop} : Wk (AWc l X nL R t0 d p e s m args below meth c Z) := by
  intro pc lo lo' st μ h hA h1 h2 H locs ls hP hS hL
  refine hA h1 h2 H locs ls hP hS ⟨hL.1, hL.2.1, fun q hq => hL.2.2 q ?_⟩
  obtain ⟨j, w⟩ := q
  obtain ⟨u, -, g2, rfl⟩ := (lvl_mem _ j 0 w).mp hq
  rw [Nat.sub_zero] at g2
  exact (lvl_mem lo j 0 _).mpr ⟨u, Nat.zero_le _, by simpa using h j u g2, rfl⟩
set_option maxHeartbeats 1000000 in
/-- a contract: if the walk over the table reaches the end with Q, whatever the machine -/
theorem ct_intro {l : Launch} {X : XT} {y : MD} {cd : List PT} {d : Nat} {av : List Value} {μ : Mu} {Q : QT} (hok : SndT y.1.cls y.2.1 y.2.2.1 y.2.2.2.2.1 y.2.2.2.2.2 (y.1.name == "<init>") y.2.2.2.1 0 cd) (hy : plainName y.1.cls = true) (hret : y.2.2.2.1 = none ∨ y.2.2.2.1 = some .int ∨ y.2.2.2.1 = some .boolean ∨ y.2.2.2.1 = some .long ∨ ∃ n, y.2.2.2.1 = some (.object n)) (hlen : (lo0 av).length ≤ y.2.2.1)
    (h : ∀ A : KT, Cl cd (Q, CT l X, μ.2.2.2 + d) A → Wk A → A 0 (lo0 av ++ List.replicate (y.2.2.1 - (lo0 av).length) none) [] μ) : CT l X y d av μ Q := by
  obtain ⟨⟨yc, yn, yd⟩, cc, nL, rt, F, Lc⟩ := y
  refine Met.ofW (cc := cc) (maxL := nL) (ret := rt) hy rfl ?_
  intro p e s m args below meth c s₁ B hml hv
  obtain ⟨rfl, hP, hKS⟩ := hv
  have hx := B.exec
  have hb := B.bytes
  have hr := B.returns
  have hts0 := atoms_spec (ws := wsM (⟨yc, yn, yd⟩, cc, nL, rt, F, Lc)) B.pre
  have hts : ∀ w ∈ TBG, w.before (av.map (trv X)).toArray s = true := fun w hw => hts0 w (List.mem_cons_of_mem _ hw)
  have hown : s.vm.findClass yc = some m.cls := findClass_of_methodNamed B.named
  have hlocks := B.notSynchronized
  have hnm : meth.name = yn := (name_of_methodNamed B.named B.method).1
  have hG : Good X yc cc nL F Lc (yn == "<init>") (rmM (⟨yc, yn, yd⟩, cc, nL, rt, F, Lc) d (ssz (μ.2.2.2 + d) - ssz μ.2.2.2)) μ.2.2.2 d p s m (av.map (trv X)).toArray meth c :=
    ⟨hx, hb, hml, hown, hts, hKS, hlocks, fun hh => by rw [hnm]; exact eq_of_beq hh, by have := hP.2; omega, Nat.le_refl _, Nat.le_refl _, Nat.le_refl _, Nat.le_refl _⟩
  have hcs : ∀ μ' : Mu, μ'.2.2.2 = μ.2.2.2 + d → μ'.2.2.2 - μ.2.2.2 = d ∧ ssz μ'.2.2.2 - ssz μ.2.2.2 = ssz (μ.2.2.2 + d) - ssz μ.2.2.2 := fun μ' hh => by rw [hh]; exact ⟨by omega, rfl⟩
  have hR : RetOK cc rt (μ.2.2.2 + d) (AWc l X nL (rmM (⟨yc, yn, yd⟩, cc, nL, rt, F, Lc) d (ssz (μ.2.2.2 + d) - ssz μ.2.2.2)) μ.2.2.2 d p e s m (av.map (trv X)).toArray below meth c (MQ below (QcM X μ d Q) (av.map (trv X)).toArray s d (ssz (μ.2.2.2 + d) - ssz μ.2.2.2) (frX X))) Q := by
    refine ⟨fun pc lo v μ' ty hd hrt hn htop hq _ _ H locs ls hP1 hS1 _ => ?_, fun pc lo v μ' hd hrt htop hq _ _ H locs ls hP1 hS1 _ => ?_, fun pc lo v μ' n hd hrt htop hq _ _ H locs ls hP1 hS1 _ => ?_, fun pc lo μ' hd hrt htop hq _ _ H locs ls hP1 hS1 _ => ?_⟩
    · obtain ⟨w1, w2⟩ := hcs μ' htop
      refine W.cs w1 w2 ?_
      exact W.zret hx hb (hr.trans hrt) hn (fun t ht _ => ⟨⟨some (.int v), μ', rfl, hq, htop, by rw [ht]; exact hP1⟩, hS1.F ht⟩) hS1.2.2 hd
    · obtain ⟨w1, w2⟩ := hcs μ' htop
      refine W.cs w1 w2 ?_
      exact W.lret hx hb (hr.trans hrt) (fun t ht _ => ⟨⟨some (.long v), μ', rfl, hq, htop, by rw [ht]; exact hP1⟩, hS1.F ht⟩) hS1.2.2 hd
    · obtain ⟨w1, w2⟩ := hcs μ' htop
      refine W.cs w1 w2 ?_
      exact W.aret hx hb (hr.trans hrt) (Or.inl ⟨n, rfl⟩) (Or.inr ⟨_, rfl⟩) (fun t ht _ => ⟨⟨some (.ref v), μ', rfl, hq, htop, by rw [ht]; exact hP1⟩, hS1.F ht⟩) hS1.2.2 hd
    · obtain ⟨w1, w2⟩ := hcs μ' htop
      refine W.cs w1 w2 ?_
      exact W.vret hx hb (hr.trans hrt) (fun t ht _ => ⟨⟨none, μ', rfl, hq, htop, by rw [ht]; exact hP1⟩, hS1.F ht⟩) hS1.2.2 hd
  have hC : Cl cd (Q, CT l X, μ.2.2.2 + d) (AWc l X nL (rmM (⟨yc, yn, yd⟩, cc, nL, rt, F, Lc) d (ssz (μ.2.2.2 + d) - ssz μ.2.2.2)) μ.2.2.2 d p e s m (av.map (trv X)).toArray below meth c (MQ below (QcM X μ d Q) (av.map (trv X)).toArray s d (ssz (μ.2.2.2 + d) - ssz μ.2.2.2) (frX X))) := fun pc lo st μ' K hf hk => SndT.at cd 0 pc hok (Nat.zero_le _) l X _ μ.2.2.2 d p e s m _ below meth c _ Q hG hR lo st μ' K hf hk
  have hz := h _ hC AWc_wk (Nat.le_refl _) (Nat.le_add_right _ _) s.heap []
  rw [Nat.sub_self, Nat.sub_self] at hz
  rw [lg_entry_eq]
  have hsl : (lg_sl (av.map (trv X))).length = (lo0 av).length := by
    clear h hC hR hG hz hlen hP hKS hts hts0 B
    induction av with
    | nil => rfl
    | cons v vs ih =>
      unfold lo0
      simp only [List.map_cons, lg_sl, List.flatMap_cons, List.length_append] at ih ⊢
      rw [ih, trv_cat]
      split <;> simp <;> omega
  have hent := lv_entry (av.map (trv X)) (n := nL) (by rw [hsl]; exact hlen)
  refine hz _ hP va_S.rf ?_
  unfold LHas
  rw [lvl_rep, lvl_args]
  exact hent
/-! the walk in blocks: up to the cuts -/
def vcK (cd : List PT) (E : ET) (cut : Nat → Bool) (A : KT) : Nat → KT
  | 0 => fun _ _ _ _ => False
  | n + 1 => fun pc lo st μ => (cd.getD pc x_bad) pc lo st μ (fun pc' lo' st' μ' => bif cut pc' then A pc' lo' st' μ' else vcK cd E cut A n pc' lo' st' μ') E
theorem Cl.vc {cd : List PT} {E : ET} {A : KT} (C : Cl cd E A) (cut : Nat → Bool) : ∀ (n pc : Nat) (lo : LO) (st : List Value) (μ : Mu), vcK cd E cut A n pc lo st μ → A pc lo st μ
  | 0, _, _, _, _, h => h.elim
  | n + 1, pc, lo, st, μ, h => C pc lo st μ _ h (fun pc' lo' st' μ' h' => by
    cases hc : cut pc' with
    | true => rw [hc] at h'; exact h'
    | false => rw [hc] at h'; exact Cl.vc C cut n pc' lo' st' μ' h')
end SZ

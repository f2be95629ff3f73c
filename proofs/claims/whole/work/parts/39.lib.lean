/-! contracts of library methods -/
set_option maxHeartbeats 1000000 in
theorem ofWF {l : Launch} {y : MethodName} {ws ws' : List Cond} {rm : Room} {Pc : Array Value → State → Prop} {Qc : Array Value → State → Outcome → State → Prop} {mc ms : Nat} {free : Addr → Prop} {cc : ByteArray} {maxL : Nat} {ret : Option FieldType} (hy : plainFor y = true) (hw : ws = Cond.code y cc maxL ret :: ws')
    (run : ∀ p e s m args below meth c s₁, BodyLoose p l y (headSpec ws rm) cc maxL ret e s m args below meth c s₁ → c.maxLocals = maxL → Pc args s → W p l e (headSpec ws rm).room s m args below meth c s.heap [] 0 0 (MQ below Qc args s mc ms free) (entryFrame m args maxL)) : Met l y ws rm Pc Qc mc ms free := by
  apply MetFree.of_bodySF (code := cc) (maxLocals := maxL) (ret := ret) hy
  · intro as st k hk hn
    have hcode := Cond.code_spec hn (atoms_spec (ws := ws) hk _ (hw ▸ List.mem_cons_self))
    obtain ⟨mt, cd, q1, q2, q3, q4, q5, q6, -, -⟩ := hcode
    exact ⟨mt, cd, q1, q2, q3, q4, q5, q6⟩
  · intro p e st k as below mt cd st1 hB hml hP _
    have hheap : st1.heap = st.heap := by rw [hB.state]; rfl
    obtain ⟨z, z1, oc, z2, z3, z4⟩ := run p e st k as below mt cd st1 hB hml hP st1 hheap (Stand.of_body hB)
    exact ⟨z, oc, z1, z2, z3, z4.1, z4.2⟩
set_option maxRecDepth 100000 in
set_option maxHeartbeats 1000000 in
set_option maxRecDepth 100000 in
set_option maxHeartbeats 4000000 in
theorem ct_introF {l : Launch} {X : XT} {y : MD} {cd : List PT} {d : Nat} {av : List Value} {μ : Mu} {Q : QT} (hok : SndT y.1.cls y.2.1 y.2.2.1 y.2.2.2.2.1 y.2.2.2.2.2 (y.1.name == "<init>") y.2.2.2.1 0 cd) (hy : plainFor y.1 = true) (hret : y.2.2.2.1 = none ∨ y.2.2.2.1 = some .int ∨ y.2.2.2.1 = some .boolean ∨ y.2.2.2.1 = some .long ∨ ∃ n, y.2.2.2.1 = some (.object n)) (hlen : (lo0 av).length ≤ y.2.2.1)
    (h : ∀ A : KT, Cl cd (Q, CT l X, μ.2.2.2 + d) A → Wk A → A 0 (lo0 av ++ List.replicate (y.2.2.1 - (lo0 av).length) none) [] μ) : CT l X y d av μ Q := by
  obtain ⟨⟨yc, yn, yd⟩, cc, nL, rt, F, Lc⟩ := y
  refine ofWF (cc := cc) (maxL := nL) (ret := rt) hy rfl ?_
  intro p e s m args below meth c s₁ B hml hv
  obtain ⟨rfl, hP, hKS⟩ := hv
  have hx := B.exec
  have hb := B.bytes
  have hr := B.returns
  have hts0 := atoms_spec (ws := wsM (⟨yc, yn, yd⟩, cc, nL, rt, F, Lc)) B.pre
  have hts : ∀ w ∈ TBG, w.before (av.map (trv X)).toArray s = true := fun w hw => hts0 w (List.mem_cons_of_mem _ hw)
  have hown : s.vm.findClass yc = some m.cls := findClass_of_methodNamed B.named
  have hlocks := B.notSynchronized
  have hnm : meth.name = yn := (name_of_methodNamed B.named B.method).1
  have hG : Good X yc cc nL F Lc (yn == "<init>") (rmM (⟨yc, yn, yd⟩, cc, nL, rt, F, Lc) d (ssz (μ.2.2.2 + d) - ssz μ.2.2.2)) μ.2.2.2 d p s m (av.map (trv X)).toArray meth c :=
    ⟨hx, hb, hml, hown, hts, hKS, hlocks, fun hh => by rw [hnm]; exact eq_of_beq hh, by have := hP.2; omega, Nat.le_refl _, Nat.le_refl _, Nat.le_refl _, Nat.le_refl _⟩
  have hcs : ∀ μ' : Mu, μ'.2.2.2 = μ.2.2.2 + d → μ'.2.2.2 - μ.2.2.2 = d ∧ ssz μ'.2.2.2 - ssz μ.2.2.2 = ssz (μ.2.2.2 + d) - ssz μ.2.2.2 := fun μ' hh => by rw [hh]; exact ⟨by omega, rfl⟩
  have hR : RetOK cc rt (μ.2.2.2 + d) (AWc l X nL (rmM (⟨yc, yn, yd⟩, cc, nL, rt, F, Lc) d (ssz (μ.2.2.2 + d) - ssz μ.2.2.2)) μ.2.2.2 d p e s m (av.map (trv X)).toArray below meth c (MQ below (QcM X μ d Q) (av.map (trv X)).toArray s d (ssz (μ.2.2.2 + d) - ssz μ.2.2.2) (frX X))) Q := by
    refine ⟨fun pc lo v μ' ty hd hrt hn htop hq _ _ H locs ls hP1 hS1 _ => ?_, fun pc lo v μ' hd hrt htop hq _ _ H locs ls hP1 hS1 _ => ?_, fun pc lo v μ' n hd hrt htop hq _ _ H locs ls hP1 hS1 _ => ?_, fun pc lo μ' hd hrt htop hq _ _ H locs ls hP1 hS1 _ => ?_⟩
    · obtain ⟨w1, w2⟩ := hcs μ' htop
      refine W.cs w1 w2 ?_
      exact W.zret hx hb (hr.trans hrt) hn (fun t ht _ => ⟨⟨some (.int v), μ', rfl, hq, htop, by rw [ht]; exact hP1⟩, hS1.F ht⟩) hS1.2.2 hd
    · obtain ⟨w1, w2⟩ := hcs μ' htop
      refine W.cs w1 w2 ?_
      exact W.lret hx hb (hr.trans hrt) (fun t ht _ => ⟨⟨some (.long v), μ', rfl, hq, htop, by rw [ht]; exact hP1⟩, hS1.F ht⟩) hS1.2.2 hd
    · obtain ⟨w1, w2⟩ := hcs μ' htop
      refine W.cs w1 w2 ?_
      exact W.aret hx hb (hr.trans hrt) (Or.inl ⟨n, rfl⟩) (Or.inr ⟨_, rfl⟩) (fun t ht _ => ⟨⟨some (.ref v), μ', rfl, hq, htop, by rw [ht]; exact hP1⟩, hS1.F ht⟩) hS1.2.2 hd
    · obtain ⟨w1, w2⟩ := hcs μ' htop
      refine W.cs w1 w2 ?_
      exact W.vret hx hb (hr.trans hrt) (fun t ht _ => ⟨⟨none, μ', rfl, hq, htop, by rw [ht]; exact hP1⟩, hS1.F ht⟩) hS1.2.2 hd
  have hC : Cl cd (Q, CT l X, μ.2.2.2 + d) (AWc l X nL (rmM (⟨yc, yn, yd⟩, cc, nL, rt, F, Lc) d (ssz (μ.2.2.2 + d) - ssz μ.2.2.2)) μ.2.2.2 d p e s m (av.map (trv X)).toArray below meth c (MQ below (QcM X μ d Q) (av.map (trv X)).toArray s d (ssz (μ.2.2.2 + d) - ssz μ.2.2.2) (frX X))) := fun pc lo st μ' K hf hk => SndT.at cd 0 pc hok (Nat.zero_le _) l X _ μ.2.2.2 d p e s m _ below meth c _ Q hG hR lo st μ' K hf hk
  have hz := h _ hC AWc_wk (Nat.le_refl _) (Nat.le_add_right _ _) s.heap []
  rw [Nat.sub_self, Nat.sub_self] at hz
  rw [lg_entry_eq]
  have hsl : (lg_sl (av.map (trv X))).length = (lo0 av).length := by
    clear h hC hR hG hz hlen hP hKS hts hts0 B
    induction av with
    | nil => rfl
    | cons v vs ih =>
      unfold lo0
      simp only [List.map_cons, lg_sl, List.flatMap_cons, List.length_append] at ih ⊢
      rw [ih, trv_cat]
      split <;> simp <;> omega
  have hent := lv_entry (av.map (trv X)) (n := nL) (by rw [hsl]; exact hlen)
  refine hz _ hP va_S.rf ?_
  unfold LHas
  rw [lvl_rep, lvl_args]
  exact hent

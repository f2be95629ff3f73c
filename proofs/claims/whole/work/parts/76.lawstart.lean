/-! the law: a walk of its table gives its end -/
theorem val_int {v w : Int32} (h : some (Value.int v) = some (Value.int w)) : v = w := by
  cases h
  rfl
theorem law_start {p : Program} {e : Env} {s : State} {m : MethodId} {below : List Frame} {meth : Method} {c : Code} (l : Launch) {b L : Nat} {xs : Nat → Int32} (C0 : lw_At p s m meth c b L xs) {cd : List PT} (hok : SndSL L xs 0 cd) (h : ∀ (X : XT) (A : KT), Cl cd (fun r _ => r = some (.int 1), CT l X, 480) A → Wk A → A 0 [some (.retAddr 0), none, none, none] [] (fun _ _ => 0, fun _ _ => 0, fun _ _ => none, 0)) : W p l e room_1 s m #[Value.ref b] below meth c s.heap [] 0 0 (lw_Z below #[Value.ref b] s) (entryFrame m ([Value.ref b] : List Value).toArray 4) := by
  obtain ⟨hx, hb, hr, hml, hown, hts, hX, hbl, hlocks, hgv⟩ := id C0
  obtain ⟨D, tyf, hKS⟩ := law_KS hts
  have hG : Good (D, tyf, s.heap.size, b) RL cL_law 4 10 372 false room_1 0 480 p s m #[Value.ref b] meth c := ⟨hx, hb, hml, hown, fun w hw => hts w (TBG_good w hw).1, hKS _ _, hlocks, (fun hh => (by cases hh)), Nat.le_refl _, by decide, by decide, by decide, by decide +kernel⟩
  have hR : RetOK cL_law (some .boolean) (0 + 480) (AWc l (D, tyf, s.heap.size, b) 4 room_1 0 480 p e s m #[Value.ref b] below meth c (lw_Z below #[Value.ref b] s)) (fun r _ => r = some (.int 1)) := by
    refine ⟨fun pc lo v μ ty hd hrt hn htop hq => ?_, fun pc lo v μ hd hrt => ?_, fun pc lo v μ n hd hrt => ?_, fun pc lo μ hd hrt => ?_⟩
    · have hv : v = 1 := by
        exact val_int hq
      subst hv
      intro _ _ H locs ls hP hS hL
      refine va_forget (fun q hq => hS.2.2 q hq) ?_
      refine W.widen (k := 600000) (n := 7302250) ?_ ?_ (lw_ret hx hb hr hlocks hd)
      · rw [htop]; decide
      · rw [htop]; decide +kernel
    · cases hrt
    · cases hrt
    · cases hrt
  have hC : Cl cd (fun r _ => r = some (.int 1), CT l (D, tyf, s.heap.size, b), 480) (AWc l (D, tyf, s.heap.size, b) 4 room_1 0 480 p e s m #[Value.ref b] below meth c (lw_Z below #[Value.ref b] s)) := fun pc lo st μ K hf hk => SndSL.at cd 0 pc hok (Nat.zero_le _) l (D, tyf, s.heap.size, b) 0 480 p e s m _ below meth c _ (fun r _ => r = some (.int 1)) hG hX hbl hR lo st μ K hf hk
  have hz := h _ _ hC AWc_wk (Nat.le_refl _) (Nat.zero_le _) s.heap []
  have hl := lv_entry ([.ref b]) (n := 4) (Nat.le_of_ble_eq_true rfl)
  rw [lg_entry_eq]
  refine hz _ ⟨fun k q hq => ?_, rfl⟩ va_S.rf ?_
  · have : wsO (D, tyf, s.heap.size, b) (fun _ _ => 0, fun _ _ => 0, fun _ _ => none, 0) = [] := rfl
    rw [this] at hq
    cases hq
  · exact hl

/-! the library's counts of bits -/
def num : List Nat → Nat
  | [] => 0
  | b :: r => b + 256 * num r
def byt : Nat → Nat → List Nat
  | 0, _ => []
  | k + 1, x => x % 256 :: byt k (x / 256)
def cN (x : Nat) : Nat → Nat
  | 0 => 0
  | k + 1 => cN x k + bI (x.testBit k)
theorem num_byt : ∀ (k x : Nat), x < 256 ^ k → num (byt k x) = x
  | 0, x, h => by
    have : x < 1 := h
    show 0 = x
    omega
  | k + 1, x, h => by
    have h2 : 256 ^ (k + 1) = 256 ^ k * 256 := Nat.pow_succ 256 k
    show x % 256 + 256 * num (byt k (x / 256)) = x
    rw [num_byt k (x / 256) (by omega)]
    omega
theorem byt_len : ∀ (k x : Nat), (byt k x).length = k
  | 0, _ => rfl
  | k + 1, x => by
    show (byt k (x / 256)).length + 1 = k + 1
    rw [byt_len k]
theorem byt_lt : ∀ (k x : Nat), ∀ b ∈ byt k x, b < 256
  | 0, x, b, h => absurd h List.not_mem_nil
  | k + 1, x, b, h => by
    rcases List.mem_cons.mp h with rfl | h
    · omega
    · exact byt_lt k _ b h
theorem and8 {b c x y : Nat} (hb : b < 256) (hc : c < 256) : (b + 256 * x) &&& (c + 256 * y) = (b &&& c) + 256 * (x &&& y) := by
  have h : b &&& c < 256 := Nat.lt_of_le_of_lt Nat.and_le_left hb
  apply Nat.eq_of_testBit_eq
  intro i
  rw [Nat.testBit_and, Nat.add_comm b, Nat.add_comm c, Nat.add_comm (b &&& c)]
  rw [show 256 * x + b = 2 ^ 8 * x + b from rfl, show 256 * y + c = 2 ^ 8 * y + c from rfl, show 256 * (x &&& y) + (b &&& c) = 2 ^ 8 * (x &&& y) + (b &&& c) from rfl]
  rw [Nat.testBit_two_pow_mul_add _ hb, Nat.testBit_two_pow_mul_add _ hc, Nat.testBit_two_pow_mul_add _ h]
  split
  · rw [Nat.testBit_and]
  · rw [Nat.testBit_and]
theorem cN_le (x : Nat) : ∀ k, cN x k ≤ k
  | 0 => Nat.le_refl _
  | k + 1 => by
    have := cN_le x k
    have := bI_le (x.testBit k)
    show cN x k + bI (x.testBit k) ≤ k + 1
    omega
theorem cN_low {b x : Nat} (hb : b < 256) : ∀ k, k ≤ 8 → cN (b + 256 * x) k = cN b k
  | 0, _ => rfl
  | k + 1, h => by
    show cN (b + 256 * x) k + bI ((b + 256 * x).testBit k) = cN b k + bI (b.testBit k)
    rw [cN_low hb k (by omega), Nat.add_comm b, show 256 * x + b = 2 ^ 8 * x + b from rfl, Nat.testBit_two_pow_mul_add _ hb, if_pos (by omega)]
theorem cN_high {b x : Nat} (hb : b < 256) : ∀ k, cN (b + 256 * x) (8 + k) = cN b 8 + cN x k
  | 0 => cN_low hb 8 (Nat.le_refl _)
  | k + 1 => by
    show cN (b + 256 * x) (8 + k) + bI ((b + 256 * x).testBit (8 + k)) = cN b 8 + (cN x k + bI (x.testBit k))
    rw [cN_high hb k, Nat.add_comm b, show 256 * x + b = 2 ^ 8 * x + b from rfl, Nat.testBit_two_pow_mul_add _ hb, if_neg (by omega), Nat.add_sub_cancel_left]
    omega
theorem cN_num : ∀ bs : List Nat, (∀ b ∈ bs, b < 256) → cN (num bs) (8 * bs.length) = (bs.map (fun b => cN b 8)).sum
  | [], _ => rfl
  | b :: bs, h => by
    have h1 := cN_num bs (fun c hc => h c (List.mem_cons_of_mem _ hc))
    rw [List.length_cons, Nat.mul_succ, Nat.add_comm, List.map_cons, List.sum_cons, ← h1]
    exact cN_high (h b List.mem_cons_self) _
def g1 (b : Nat) : Nat := b - (b / 2 &&& 85)
def g2 (b : Nat) : Nat := (b &&& 51) + (b / 4 &&& 51)
def g3 (b : Nat) : Nat := (b + b / 16) &&& 15
theorem g1_ok : ∀ b, b < 256 → g1 b < 256 := by decide +kernel
theorem g2_ok : ∀ b, b < 256 → g2 (g1 b) % 16 ≤ 4 ∧ g2 (g1 b) / 16 ≤ 4 := by decide +kernel
theorem g3_ok : ∀ b, b < 256 → g3 (g2 (g1 b)) = cN b 8 := by decide +kernel
theorem sh1 : ∀ b, b < 256 → ∀ t, t < 2 → (b / 2 + 128 * t) &&& 85 = b / 2 &&& 85 := by decide +kernel
theorem sh2 : ∀ b, b < 256 → ∀ t, t < 4 → (b / 4 + 64 * t) &&& 51 = b / 4 &&& 51 := by decide +kernel
theorem sh3 : ∀ b, b < 128 → ∀ t, t < 8 → (b + 16 * t) &&& 15 = b &&& 15 := by decide +kernel
theorem num1 : ∀ bs : List Nat, (∀ b ∈ bs, b < 256) → (num bs / 2) &&& num (bs.map (fun _ => 85)) ≤ num bs ∧ num bs - ((num bs / 2) &&& num (bs.map (fun _ => 85))) = num (bs.map g1)
  | [], _ => ⟨Nat.le_refl _, rfl⟩
  | b :: bs, h => by
    obtain ⟨h1, h2⟩ := num1 bs (fun c hc => h c (List.mem_cons_of_mem _ hc))
    have hb := h b List.mem_cons_self
    have e : (b + 256 * num bs) / 2 = (b / 2 + 128 * (num bs % 2)) + 256 * (num bs / 2) := by omega
    have hle : b / 2 &&& 85 ≤ b := Nat.le_trans Nat.and_le_left (by omega)
    simp only [num, List.map_cons]
    rw [e, and8 (by omega) (by omega), sh1 b hb _ (by omega), ← h2]
    unfold g1
    omega
theorem num2 : ∀ bs : List Nat, (∀ b ∈ bs, b < 256) → (num bs &&& num (bs.map (fun _ => 51))) + ((num bs / 4) &&& num (bs.map (fun _ => 51))) = num (bs.map g2)
  | [], _ => rfl
  | b :: bs, h => by
    have h2 := num2 bs (fun c hc => h c (List.mem_cons_of_mem _ hc))
    have hb := h b List.mem_cons_self
    have e : (b + 256 * num bs) / 4 = (b / 4 + 64 * (num bs % 4)) + 256 * (num bs / 4) := by omega
    simp only [num, List.map_cons]
    rw [e, and8 (by omega) (by omega), and8 (by omega) (by omega), sh2 b hb _ (by omega), ← h2]
    unfold g2
    omega
theorem num_mod {bs : List Nat} (h : ∀ b ∈ bs, b % 16 ≤ 4 ∧ b / 16 ≤ 4) : num bs % 16 ≤ 4 := by
  cases bs with
  | nil => exact Nat.zero_le _
  | cons b r =>
    have := (h b List.mem_cons_self).1
    show (b + 256 * num r) % 16 ≤ 4
    omega
theorem num3 : ∀ bs : List Nat, (∀ b ∈ bs, b % 16 ≤ 4 ∧ b / 16 ≤ 4) → (num bs + num bs / 16) &&& num (bs.map (fun _ => 15)) = num (bs.map g3)
  | [], _ => rfl
  | b :: bs, h => by
    have hr : ∀ c ∈ bs, c % 16 ≤ 4 ∧ c / 16 ≤ 4 := fun c hc => h c (List.mem_cons_of_mem _ hc)
    have h2 := num3 bs hr
    have h3 := num_mod hr
    obtain ⟨hb1, hb2⟩ := h b List.mem_cons_self
    have e : (b + 256 * num bs) + (b + 256 * num bs) / 16 = ((b + b / 16) + 16 * (num bs % 16)) + 256 * (num bs + num bs / 16) := by omega
    simp only [num, List.map_cons]
    rw [e, and8 (by omega) (by omega), sh3 _ (by omega) _ (by omega), ← h2]
    unfold g3
    rfl
theorem num_lt : ∀ (bs : List Nat) (m : Nat), (∀ b ∈ bs, b ≤ m) → num bs ≤ m * num (bs.map (fun _ => 1))
  | [], m, _ => Nat.zero_le _
  | b :: bs, m, h => by
    have h1 := num_lt bs m (fun c hc => h c (List.mem_cons_of_mem _ hc))
    have hb := h b List.mem_cons_self
    simp only [num, List.map_cons, Nat.mul_add, Nat.mul_one]
    have : m * (256 * num (bs.map (fun _ => 1))) = 256 * (m * num (bs.map (fun _ => 1))) := by
      rw [← Nat.mul_assoc, Nat.mul_comm m 256, Nat.mul_assoc]
    omega
/-- the last three sums -/
theorem nd1 {a b : Nat} (h : a < 256) : (a + 256 * b) / 256 = b := by omega
theorem nd2 {a b : Nat} (h : a < 65536) : (a + 65536 * b) / 65536 = b := by omega
theorem nd3 {a b : Nat} (h : a < 4294967296) : (a + 4294967296 * b) / 4294967296 = b := by omega
theorem ne2 (c0 c1 c2 N2 N3 : Nat) : (c0 + 256 * (c1 + 256 * N2)) + (c1 + 256 * (c2 + 256 * N3)) = (c0 + c1 + 256 * (c1 + c2)) + 65536 * (N2 + N3) := by omega
theorem ne3a (c0 c1 c2 c3 N : Nat) : c0 + 256 * (c1 + 256 * (c2 + 256 * (c3 + 256 * N))) = (c0 + 256 * c1 + 65536 * c2 + 16777216 * c3) + 4294967296 * N := by omega
theorem ne3b (a b c d e f g h : Nat) : (a + 4294967296 * e) + (b + 4294967296 * f) + ((c + 4294967296 * g) + (d + 4294967296 * h)) = (a + b + (c + d)) + 4294967296 * (e + f + (g + h)) := by omega
theorem ne3c {a b c d : Nat} (h0 : a ≤ 8) (h1 : b ≤ 8) (h2 : c ≤ 8) (h3 : d ≤ 8) : a + 256 * b + 65536 * c + 16777216 * d ≤ 134744072 := by omega
theorem ne3d {a b c d : Nat} (h0 : a ≤ 134744072) (h1 : b ≤ 134744072) (h2 : c ≤ 134744072) (h3 : d ≤ 134744072) : a + b + (c + d) < 4294967296 := by omega
theorem ne4a (a b c d e f g h : Nat) : (a + 256 * e) + (b + 256 * f) + ((c + 256 * g) + (d + 256 * h)) = (a + b + (c + d)) + 128 * (2 * (e + f + (g + h))) := by omega
theorem ne4b (a b u v : Nat) : (a + 128 * (2 * u)) + (b + 128 * (2 * v)) = (a + b) + 128 * (2 * (u + v)) := by omega
theorem num4 {c0 c1 c2 c3 c4 c5 c6 c7 N0 N1 N2 N3 N4 N5 N6 N7 : Nat} (h0 : c0 ≤ 8) (h1 : c1 ≤ 8) (h2 : c2 ≤ 8) (h3 : c3 ≤ 8) (h4 : c4 ≤ 8) (h5 : c5 ≤ 8) (h6 : c6 ≤ 8) (h7 : c7 ≤ 8) (e0 : N0 = c0 + 256 * N1) (e1 : N1 = c1 + 256 * N2) (e2 : N2 = c2 + 256 * N3) (e3 : N3 = c3 + 256 * N4) (e4 : N4 = c4 + 256 * N5) (e5 : N5 = c5 + 256 * N6) (e6 : N6 = c6 + 256 * N7) (e7 : N7 = c7 + 256 * 0) {y z w : Nat} (hy : y = N0 + N0 / 256) (hz : z = y + y / 65536) (hw : w = z + z / 4294967296) : w % 128 = (c0 + c1 + (c2 + c3)) + (c4 + c5 + (c6 + c7)) := by
  have q1 : N0 / 256 = N1 := by rw [e0]; exact nd1 (Nat.lt_of_le_of_lt h0 (by decide))
  rw [q1] at hy
  have a0 : N0 = c0 + 256 * (c1 + 256 * N2) := by rw [e0, e1]
  have a1 : N1 = c1 + 256 * (c2 + 256 * N3) := by rw [e1, e2]
  have q2 : y / 65536 = N2 + N3 := by
    rw [hy, a0, a1, ne2]
    exact nd2 (Nat.lt_of_le_of_lt (Nat.add_le_add (Nat.add_le_add h0 h1) (Nat.mul_le_mul (Nat.le_refl 256) (Nat.add_le_add h1 h2))) (by decide))
  rw [q2] at hz
  have b0 : N0 = (c0 + 256 * c1 + 65536 * c2 + 16777216 * c3) + 4294967296 * N4 := by rw [← ne3a, ← e3, ← e2, ← e1, ← e0]
  have b1 : N1 = (c1 + 256 * c2 + 65536 * c3 + 16777216 * c4) + 4294967296 * N5 := by rw [← ne3a, ← e4, ← e3, ← e2, ← e1]
  have b2 : N2 = (c2 + 256 * c3 + 65536 * c4 + 16777216 * c5) + 4294967296 * N6 := by rw [← ne3a, ← e5, ← e4, ← e3, ← e2]
  have b3 : N3 = (c3 + 256 * c4 + 65536 * c5 + 16777216 * c6) + 4294967296 * N7 := by rw [← ne3a, ← e6, ← e5, ← e4, ← e3]
  have sz : z = N0 + N1 + (N2 + N3) := by rw [hz, hy]
  have q3 : z / 4294967296 = N4 + N5 + (N6 + N7) := by
    have t : N0 + N1 + (N2 + N3) = _ := congr (congrArg HAdd.hAdd (congr (congrArg HAdd.hAdd b0) b1)) (congr (congrArg HAdd.hAdd b2) b3)
    rw [sz, t, ne3b]
    exact nd3 (ne3d (ne3c h0 h1 h2 h3) (ne3c h1 h2 h3 h4) (ne3c h2 h3 h4 h5) (ne3c h3 h4 h5 h6))
  rw [q3] at hw
  have s1 : N0 + N1 + (N2 + N3) = (c0 + c1 + (c2 + c3)) + 128 * (2 * (N1 + N2 + (N3 + N4))) := by rw [← ne4a, ← e0, ← e1, ← e2, ← e3]
  have s2 : N4 + N5 + (N6 + N7) = (c4 + c5 + (c6 + c7)) + 128 * (2 * (N5 + N6 + (N7 + 0))) := by rw [← ne4a, ← e4, ← e5, ← e6, ← e7]
  have sw : w = (c0 + c1 + (c2 + c3)) + (c4 + c5 + (c6 + c7)) + 128 * (2 * ((N1 + N2 + (N3 + N4)) + (N5 + N6 + (N7 + 0)))) := by rw [hw, sz, s1, s2, ne4b]
  rw [sw, Nat.add_mul_mod_self_left, Nat.mod_eq_of_lt]
  have u1 : c0 + c1 + (c2 + c3) ≤ 8 + 8 + (8 + 8) := Nat.add_le_add (Nat.add_le_add h0 h1) (Nat.add_le_add h2 h3)
  have u2 : c4 + c5 + (c6 + c7) ≤ 8 + 8 + (8 + 8) := Nat.add_le_add (Nat.add_le_add h4 h5) (Nat.add_le_add h6 h7)
  exact Nat.lt_of_le_of_lt (Nat.add_le_add u1 u2) (by decide)
theorem bo1 {p q : Nat} (h : p ≤ 3689348814741910323) (h2 : q ≤ 3689348814741910323) : p + q < 2 ^ 64 := Nat.lt_of_le_of_lt (Nat.add_le_add h h2) (by decide)
theorem le68 {x : Nat} (h : x % 16 ≤ 4 ∧ x / 16 ≤ 4) : x ≤ 68 := by omega
theorem bo2 {x d m : Nat} (h : x ≤ m) (hm : m + m < 2 ^ 64) : x + x / d < 2 ^ 64 := Nat.lt_of_le_of_lt (Nat.add_le_add h (Nat.le_trans (Nat.div_le_self x d) h)) hm
theorem bo3 {x d m : Nat} (h : x ≤ m) : x + x / d ≤ m + m := Nat.add_le_add h (Nat.le_trans (Nat.div_le_self x d) h)
theorem sum8 (c0 c1 c2 c3 c4 c5 c6 c7 : Nat) : (c0 + c1 + (c2 + c3)) + (c4 + c5 + (c6 + c7)) = c0 + (c1 + (c2 + (c3 + (c4 + (c5 + (c6 + (c7 + 0))))))) := by omega
def vN (v : Int64) : Nat := v.toUInt64.toNat
theorem vN_lt (v : Int64) : vN v < 2 ^ 64 := v.toUInt64.toNat_lt
theorem vN_and (a b : Int64) : vN (a &&& b) = vN a &&& vN b := by
  unfold vN
  rw [Int64.toUInt64_and, UInt64.toNat_and]
theorem vN_sub {a b : Int64} (h : vN b ≤ vN a) : vN (a - b) = vN a - vN b := by
  unfold vN at h ⊢
  rw [Int64.toUInt64_sub, UInt64.toNat_sub_of_le _ _ (UInt64.le_iff_toNat_le.mpr h)]
theorem vN_add {a b : Int64} (h : vN a + vN b < 2 ^ 64) : vN (a + b) = vN a + vN b := by
  unfold vN at h ⊢
  rw [Int64.toUInt64_add, UInt64.toNat_add, Nat.mod_eq_of_lt h]
theorem vN_shr (a : Int64) {p : Nat} (hp : p < 64) : vN ((a.toUInt64 >>> ((nI p).toInt64.toUInt64 &&& Int64.toUInt64 63)).toInt64) = vN a / 2 ^ p := by
  unfold vN
  show (a.toUInt64 >>> ((nI p).toInt64.toUInt64 &&& Int64.toUInt64 63)).toNat = _
  rw [UInt64.toNat_shiftRight, l_sh p hp, Nat.mod_eq_of_lt hp, Nat.shiftRight_eq_div_pow]
theorem l2i_nI (v : Int64) : v.toInt32 = nI (vN v) := by
  apply Int32.toBitVec_inj.1
  show v.toBitVec.signExtend 32 = BitVec.ofNat 32 v.toBitVec.toNat
  rw [BitVec.signExtend_eq_setWidth_of_le _ (by omega)]
  rfl
def cL (v : Int64) : Nat → Nat
  | 0 => 0
  | k + 1 => cL v k + bI (v.toBitVec.getLsbD k)
theorem cL_cN (v : Int64) : ∀ k, cL v k = cN (vN v) k
  | 0 => rfl
  | k + 1 => by
    show cL v k + bI (v.toBitVec.getLsbD k) = cN (vN v) k + bI ((vN v).testBit k)
    rw [cL_cN v k]
    rfl
theorem pop64 (v a b c d e f : Int64) (ha : a = v - ((v.toUInt64 >>> ((nI 1).toInt64.toUInt64 &&& Int64.toUInt64 63)).toInt64 &&& 6148914691236517205)) (hb : b = (a &&& 3689348814741910323) + ((a.toUInt64 >>> ((nI 2).toInt64.toUInt64 &&& Int64.toUInt64 63)).toInt64 &&& 3689348814741910323)) (hc : c = (b + (b.toUInt64 >>> ((nI 4).toInt64.toUInt64 &&& Int64.toUInt64 63)).toInt64) &&& 1085102592571150095) (hd : d = c + (c.toUInt64 >>> ((nI 8).toInt64.toUInt64 &&& Int64.toUInt64 63)).toInt64) (he : e = d + (d.toUInt64 >>> ((nI 16).toInt64.toUInt64 &&& Int64.toUInt64 63)).toInt64) (hf : f = e + (e.toUInt64 >>> ((nI 32).toInt64.toUInt64 &&& Int64.toUInt64 63)).toInt64) : f.toInt32 &&& nI 127 = nI (cL v 64) := by
  have hx := vN_lt v
  have hbs := byt_lt 8 (vN v)
  have hn := num_byt 8 (vN v) hx
  generalize hB : byt 8 (vN v) = B at hbs hn
  have hl : B.length = 8 := by rw [← hB, byt_len]
  have m1 : num (B.map (fun _ => 85)) = 6148914691236517205 := by rw [List.map_const', hl]; exact (by decide +kernel)
  have m2 : num ((B.map g1).map (fun _ => 51)) = 3689348814741910323 := by rw [List.map_const', List.length_map, hl]; exact (by decide +kernel)
  have m3 : num (((B.map g1).map g2).map (fun _ => 15)) = 1085102592571150095 := by rw [List.map_const', List.length_map, List.length_map, hl]; exact (by decide +kernel)
  have n1 : vN 6148914691236517205 = 6148914691236517205 := by decide +kernel
  have n2 : vN 3689348814741910323 = 3689348814741910323 := by decide +kernel
  have n3 : vN 1085102592571150095 = 1085102592571150095 := by decide +kernel
  have hb1 : ∀ x ∈ B.map g1, x < 256 := fun x hx => by
    obtain ⟨y, hy, rfl⟩ := List.mem_map.mp hx
    exact g1_ok y (hbs y hy)
  have hb2 : ∀ x ∈ (B.map g1).map g2, x % 16 ≤ 4 ∧ x / 16 ≤ 4 := fun x hx => by
    obtain ⟨y, hy, rfl⟩ := List.mem_map.mp hx
    obtain ⟨z, hz, rfl⟩ := List.mem_map.mp hy
    exact g2_ok z (hbs z hz)
  have ea : vN a = num (B.map g1) := by
    obtain ⟨p1, p2⟩ := num1 B hbs
    rw [m1, hn] at p1 p2
    have q : vN ((v.toUInt64 >>> ((nI 1).toInt64.toUInt64 &&& Int64.toUInt64 63)).toInt64 &&& 6148914691236517205) = vN v / 2 &&& 6148914691236517205 := by rw [vN_and, vN_shr _ (by omega), n1]
    rw [ha, vN_sub (by rw [q]; exact p1), q, p2]
  have eb : vN b = num ((B.map g1).map g2) := by
    have p2 := num2 (B.map g1) hb1
    rw [m2, ← ea] at p2
    have q1 : vN (a &&& 3689348814741910323) = vN a &&& 3689348814741910323 := by rw [vN_and, n2]
    have q2 : vN ((a.toUInt64 >>> ((nI 2).toInt64.toUInt64 &&& Int64.toUInt64 63)).toInt64 &&& 3689348814741910323) = vN a / 4 &&& 3689348814741910323 := by rw [vN_and, vN_shr _ (by omega), n2]
    have q3 : vN a &&& 3689348814741910323 ≤ 3689348814741910323 := Nat.and_le_right
    have q4 : vN a / 4 &&& 3689348814741910323 ≤ 3689348814741910323 := Nat.and_le_right
    rw [hb, vN_add (by rw [q1, q2]; exact bo1 q3 q4), q1, q2, p2]
  have ec : vN c = num (((B.map g1).map g2).map g3) := by
    have p2 := num3 _ hb2
    have hlt : num ((B.map g1).map g2) ≤ 68 * num (((B.map g1).map g2).map (fun _ => 1)) := num_lt _ 68 (fun x hx => le68 (hb2 x hx))
    have hm : num (((B.map g1).map g2).map (fun _ => 1)) = 72340172838076673 := by rw [List.map_const', List.length_map, List.length_map, hl]; exact (by decide +kernel)
    rw [m3, ← eb] at p2
    have q2 : vN ((b.toUInt64 >>> ((nI 4).toInt64.toUInt64 &&& Int64.toUInt64 63)).toInt64) = vN b / 16 := vN_shr _ (by omega)
    rw [hm, ← eb] at hlt
    rw [hc, vN_and, vN_add (by rw [q2]; exact bo2 hlt (by decide)), q2, n3, p2]
  have hcs : ((B.map g1).map g2).map g3 = B.map (fun x => cN x 8) := by
    rw [List.map_map, List.map_map]
    exact List.map_congr_left (fun x hx => g3_ok x (hbs x hx))
  rw [hcs] at ec
  have hs := cN_num B hbs
  rw [hn, hl] at hs
  rw [cL_cN, l2i_nI, nx_and]
  show nI (vN f &&& 127) = nI (cN (vN v) 64)
  rw [show (8 * 8 : Nat) = 64 from rfl] at hs
  rw [hs]
  have hle : ∀ x ∈ B.map (fun x => cN x 8), x ≤ 8 := fun x hx => by
    obtain ⟨y, _, rfl⟩ := List.mem_map.mp hx
    exact cN_le y 8
  have hl2 : (B.map (fun x => cN x 8)).length = 8 := by rw [List.length_map, hl]
  generalize B.map (fun x => cN x 8) = C at ec hle hl2
  match C, hl2 with
  | [c0, c1, c2, c3, c4, c5, c6, c7], _ =>
    have k4 := fun (y z w : Nat) => num4 (c0 := c0) (c1 := c1) (c2 := c2) (c3 := c3) (c4 := c4) (c5 := c5) (c6 := c6) (c7 := c7) (N1 := num [c1, c2, c3, c4, c5, c6, c7]) (N2 := num [c2, c3, c4, c5, c6, c7]) (N3 := num [c3, c4, c5, c6, c7]) (N4 := num [c4, c5, c6, c7]) (N5 := num [c5, c6, c7]) (N6 := num [c6, c7]) (N7 := num [c7]) (N0 := num [c0, c1, c2, c3, c4, c5, c6, c7]) (y := y) (z := z) (w := w) (hle _ (by simp)) (hle _ (by simp)) (hle _ (by simp)) (hle _ (by simp)) (hle _ (by simp)) (hle _ (by simp)) (hle _ (by simp)) (hle _ (by simp)) rfl rfl rfl rfl rfl rfl rfl rfl
    have k1 : vN c ≤ 8 * 72340172838076673 := by
      have := num_lt [c0, c1, c2, c3, c4, c5, c6, c7] 8 hle
      have h1 : num ([c0, c1, c2, c3, c4, c5, c6, c7].map (fun _ => 1)) = 72340172838076673 := by
        rw [List.map_const']
        exact (by decide +kernel : num (List.replicate 8 1) = 72340172838076673)
      rw [h1, ← ec] at this
      exact this
    rw [← ec] at k4
    have ed : vN d = vN c + vN c / 256 := by
      have q2 : vN ((c.toUInt64 >>> ((nI 8).toInt64.toUInt64 &&& Int64.toUInt64 63)).toInt64) = vN c / 256 := vN_shr _ (by omega)
      rw [hd, vN_add (by rw [q2]; exact bo2 k1 (by decide)), q2]
    have k2 : vN d ≤ 8 * 72340172838076673 + 8 * 72340172838076673 := by rw [ed]; exact bo3 k1
    have ee : vN e = vN d + vN d / 65536 := by
      have q2 : vN ((d.toUInt64 >>> ((nI 16).toInt64.toUInt64 &&& Int64.toUInt64 63)).toInt64) = vN d / 65536 := vN_shr _ (by omega)
      rw [he, vN_add (by rw [q2]; exact bo2 k2 (by decide)), q2]
    have k3 : vN e ≤ 8 * 72340172838076673 + 8 * 72340172838076673 + (8 * 72340172838076673 + 8 * 72340172838076673) := by rw [ee]; exact bo3 k2
    have ef : vN f = vN e + vN e / 4294967296 := by
      have q2 : vN ((e.toUInt64 >>> ((nI 32).toInt64.toUInt64 &&& Int64.toUInt64 63)).toInt64) = vN e / 4294967296 := vN_shr _ (by omega)
      rw [hf, vN_add (by rw [q2]; exact bo2 k3 (by decide)), q2]
    rw [show (127 : Nat) = 2 ^ 7 - 1 from rfl, Nat.and_two_pow_sub_one_eq_mod, show (2 ^ 7 : Nat) = 128 from rfl, k4 _ _ _ ed ee ef]
    simp only [List.sum_cons, List.sum_nil]
    rw [sum8]
def p64 (v : Int64) : Int32 :=
  let a := v - ((v.toUInt64 >>> ((nI 1).toInt64.toUInt64 &&& Int64.toUInt64 63)).toInt64 &&& 6148914691236517205)
  let b := (a &&& 3689348814741910323) + ((a.toUInt64 >>> ((nI 2).toInt64.toUInt64 &&& Int64.toUInt64 63)).toInt64 &&& 3689348814741910323)
  let c := (b + (b.toUInt64 >>> ((nI 4).toInt64.toUInt64 &&& Int64.toUInt64 63)).toInt64) &&& 1085102592571150095
  let d := c + (c.toUInt64 >>> ((nI 8).toInt64.toUInt64 &&& Int64.toUInt64 63)).toInt64
  let e := d + (d.toUInt64 >>> ((nI 16).toInt64.toUInt64 &&& Int64.toUInt64 63)).toInt64
  let f := e + (e.toUInt64 >>> ((nI 32).toInt64.toUInt64 &&& Int64.toUInt64 63)).toInt64
  f.toInt32 &&& nI 127
theorem p64_all (v : Int64) : p64 v = nI (cL v 64) := pop64 v _ _ _ _ _ _ rfl rfl rfl rfl rfl rfl
section LB2
variable {l : Launch} {X : XT} {I : Nat → Nat → Int32} {L : Nat → Nat → Int64} {Q : QT}
set_option maxRecDepth 100000 in
set_option maxHeartbeats 4000000 in
theorem ct_bits64 {v : Int64} (hQ : Q (some (.int (nI (cL v 64)))) (mk I L)) : CT l X mJ13_bitCount_95d88 0 [.long v] (mk I L) Q := by
  refine ct_introF okJ13_bitCount_95d88 (by decide +kernel) (Or.inr (Or.inl rfl)) (Nat.le_of_ble_eq_true rfl) fun A C W => ?_
  show A 0 [some (.long (v)), none] [] _
  apply C.vc (fun pc => false) 80; (simp only [↓vk kJ13_bitCount_95d88_0, ↓vk kJ13_bitCount_95d88_1, ↓vk kJ13_bitCount_95d88_2, ↓vk kJ13_bitCount_95d88_3, ↓vk kJ13_bitCount_95d88_4, ↓vk kJ13_bitCount_95d88_7, ↓vk kJ13_bitCount_95d88_8, ↓vk kJ13_bitCount_95d88_9, ↓vk kJ13_bitCount_95d88_10, ↓vk kJ13_bitCount_95d88_11, ↓vk kJ13_bitCount_95d88_14, ↓vk kJ13_bitCount_95d88_15, ↓vk kJ13_bitCount_95d88_16, ↓vk kJ13_bitCount_95d88_17, ↓vk kJ13_bitCount_95d88_18, ↓vk kJ13_bitCount_95d88_21, ↓vk kJ13_bitCount_95d88_22, ↓vk kJ13_bitCount_95d88_23, ↓vk kJ13_bitCount_95d88_24, ↓vk kJ13_bitCount_95d88_25, ↓vk kJ13_bitCount_95d88_26, ↓vk kJ13_bitCount_95d88_27, ↓vk kJ13_bitCount_95d88_28, ↓vk kJ13_bitCount_95d88_29, ↓vk kJ13_bitCount_95d88_32, ↓vk kJ13_bitCount_95d88_33, ↓vk kJ13_bitCount_95d88_34, ↓vk kJ13_bitCount_95d88_35, ↓vk kJ13_bitCount_95d88_36, ↓vk kJ13_bitCount_95d88_38, ↓vk kJ13_bitCount_95d88_39, ↓vk kJ13_bitCount_95d88_40, ↓vk kJ13_bitCount_95d88_41, ↓vk kJ13_bitCount_95d88_42, ↓vk kJ13_bitCount_95d88_43, ↓vk kJ13_bitCount_95d88_45, ↓vk kJ13_bitCount_95d88_46, ↓vk kJ13_bitCount_95d88_47, ↓vk kJ13_bitCount_95d88_48, ↓vk kJ13_bitCount_95d88_49, ↓vk kJ13_bitCount_95d88_50, ↓vk kJ13_bitCount_95d88_52, ↓vk kJ13_bitCount_95d88_53, ↓vk kJ13_bitCount_95d88_54, ↓vk kJ13_bitCount_95d88_55, ↓vk kJ13_bitCount_95d88_56, ↓vk kJ13_bitCount_95d88_57, ↓vk kJ13_bitCount_95d88_59, ↓vk kJ13_bitCount_95d88_60, ↓x_ii, ↓x_iret, ↓x_l2i, ↓x_li, ↓x_ll, ↓x_lload, ↓x_lstore, ↓x_push, ↓reduceIte, List.getElem?_cons_zero, List.getElem?_cons_succ, List.getD_cons_zero, List.getD_cons_succ, List.getD_nil, List.set_cons_zero, List.set_cons_succ, lset, lset2, isL, noD, cond_true, cond_false, if_true, if_false, Bool.false_eq_true, true_and, and_true, Nat.reduceAdd, Nat.reduceBEq, Nat.reduceSub, Nat.reduceEqDiff, Nat.reduceLT, Nat.reduceLeDiff, Bool.or_false, Bool.false_or, Bool.or_true, Bool.true_or, List.append_nil, List.nil_append, List.cons_append, Option.toList_some, Option.toList_none, lo0, List.replicate, List.length_cons, List.length_nil, muI, muL, callK, catS, List.map_cons, List.map_nil, List.sum_cons, List.sum_nil, vrf, swK, ofN, Value.category, reduceCtorEq, rf_0_0, rf_0_1, rf_0_2, rf_0_3, rf_0_4, rf_0_5, rf_0_6, rf_0_7, rf_0_8, rf_0_9, rf_1_0, rf_3_2, rf_3_3, rf_3_4, rf_7_1, rf_9_0, rf_9_1, rf_60_0, rf_60_1, rf_60_3, rf_60_4, rf_60_5, rf_60_7, rf_60_8, rf_60_11, rf_69_0, rf_69_2, rf_69_3, rf_69_4, rf_69_5, rf_69_6, rf_344_0, rf_344_1, rf_344_2, rf_344_3, rf_450_2, rf_450_3, rf_450_4, rf_454_0, rf_454_1, rf_454_3, rf_454_4, rf_454_5, rf_454_7, rf_454_8, rf_454_11, sh_0, sh_1, sh_2, sh_3, sh_4, sh_5, sh_6, sh_7, sh_8, sh_9, sh_10, sh_11, sh_60, sh_61, sh_62, sh_63, sh_64, sh_65, sh_66, sh_67, sh_68, sh_69, sh_70, sh_71, sh_72, sh_73, sh_74, sh_75, sh_344, sh_345, sh_346, sh_347, sh_348, sh_449, sh_450, sh_451, sh_452, sh_453, sh_454, sh_455, sh_456, sh_457, sh_458, sh_459, sh_460, sh_461, sh_462, al_2, al_4, al_5, al_6, al_10, al_11, al_62, al_63, al_64, al_65, al_66, al_67, al_70, al_71, al_72, al_73, al_345, al_346, al_347, al_451, al_452, al_453, al_456, al_457, al_458, al_459, al_460, al_461]); (try simp (discharger := omega) only [↓ni_bI1, ↓ni_bI1o, ↓ni_bI0, ↓ni_bI0n, ↓ni_bIe, ni_bIb, Nat.reduceEqDiff, Nat.reduceLT, Nat.reduceLeDiff, Nat.reduceAdd, Nat.reduceMul, not_true_eq_false, not_false_eq_true, true_implies, false_implies, and_true, true_and, lg_cmp_eq, nI_add, pk_mul, nI_clamp, ni_le, ni_lt, ni_eq, ni_lt0, ni_0le, ni_eq0, ni_0lt, ni_le0, ni_in, ni_m9, ni_9m, up2_ne, up2_eq, up2_kn, vnar0, vnar1, Nat.add_zero, Nat.zero_add, Nat.mul_zero])
  show Q (some (.int (p64 v))) _
  rw [p64_all]
  exact hQ
end LB2

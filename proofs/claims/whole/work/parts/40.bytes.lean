def bt (x : Int32) (i : Nat) : Bool := x.toBitVec.getLsbD i
theorem b_ext {x y : Int32} (h : ∀ i, i < 32 → bt x i = bt y i) : x = y := Int32.toBitVec_inj.mp (BitVec.eq_of_getLsbD_eq (fun i hi => h i hi))
theorem b_or (x y : Int32) (i : Nat) : bt (x ||| y) i = (bt x i || bt y i) := by unfold bt; rw [Int32.toBitVec_or, BitVec.getLsbD_or]
theorem b_and (x y : Int32) (i : Nat) : bt (x &&& y) i = (bt x i && bt y i) := by unfold bt; rw [Int32.toBitVec_and, BitVec.getLsbD_and]
theorem b_xor (x y : Int32) (i : Nat) : bt (x ^^^ y) i = (bt x i ^^ bt y i) := by unfold bt; rw [Int32.toBitVec_xor, BitVec.getLsbD_xor]
theorem b_big {x : Int32} {i : Nat} (h : 32 ≤ i) : bt x i = false := BitVec.getLsbD_of_ge _ _ h
theorem b_255 (i : Nat) : bt 255 i = decide (i < 8) := by
  rcases Nat.lt_or_ge i 32 with h | h
  · exact (by decide +kernel : ∀ i, i < 32 → bt 255 i = decide (i < 8)) i h
  · rw [b_big h, decide_eq_false (by omega)]
theorem b_65535 (i : Nat) : bt 65535 i = decide (i < 16) := by
  rcases Nat.lt_or_ge i 32 with h | h
  · exact (by decide +kernel : ∀ i, i < 32 → bt 65535 i = decide (i < 16)) i h
  · rw [b_big h, decide_eq_false (by omega)]
theorem b_m1 : ∀ i, i < 32 → bt (-1) i = true := by decide +kernel
theorem b_0 (i : Nat) : bt 0 i = false := BitVec.getLsbD_zero
theorem s_l : ∀ n, n < 32 → ((nI n &&& 31).toBitVec.smod 32).toNat = n := by decide +kernel
theorem s_u : ∀ n, n < 32 → (((nI n).toUInt32 &&& Int32.toUInt32 31).toBitVec % 32).toNat = n := by decide +kernel
theorem b_shl (n : Nat) (hn : n < 32) (x : Int32) {i : Nat} (hi : i < 32) : bt (x <<< (nI n &&& 31)) i = (decide (n ≤ i) && bt x (i - n)) := by
  unfold bt
  rw [Int32.toBitVec_shiftLeft]
  show (x.toBitVec <<< ((nI n &&& 31).toBitVec.smod 32).toNat).getLsbD i = _
  rw [s_l n hn, BitVec.getLsbD_shiftLeft]
  rcases Nat.lt_or_ge i n with h | h
  · simp [h, Nat.not_le.mpr h]
  · simp [hi, h, Nat.not_lt.mpr h]
theorem b_ushr (n : Nat) (hn : n < 32) (x : Int32) (i : Nat) : bt ((x.toUInt32 >>> ((nI n).toUInt32 &&& Int32.toUInt32 31)).toInt32) i = bt x (n + i) := by
  show (x.toUInt32 >>> ((nI n).toUInt32 &&& Int32.toUInt32 31)).toBitVec.getLsbD i = x.toUInt32.toBitVec.getLsbD (n + i)
  rw [UInt32.toBitVec_shiftRight]
  show (x.toUInt32.toBitVec >>> (((nI n).toUInt32 &&& Int32.toUInt32 31).toBitVec % 32).toNat).getLsbD i = _
  rw [s_u n hn, BitVec.getLsbD_ushiftRight]
theorem b_sshr (n : Nat) (hn : n < 32) (x : Int32) {i : Nat} (hi : i < 32) : bt (x >>> (nI n &&& 31)) i = if n + i < 32 then bt x (n + i) else bt x 31 := by
  unfold bt
  rw [Int32.toBitVec_shiftRight]
  show (x.toBitVec.sshiftRight ((nI n &&& 31).toBitVec.smod 32).toNat).getLsbD i = _
  rw [s_l n hn, BitVec.getLsbD_sshiftRight, BitVec.msb_eq_getLsbD_last]
  simp [hi]
theorem b_shl8 (x : Int32) {i : Nat} (hi : i < 32) : bt (x <<< ((8 : Int32) &&& 31)) i = (decide (8 ≤ i) && bt x (i - 8)) := b_shl 8 (by omega) x hi
theorem b_shl16 (x : Int32) {i : Nat} (hi : i < 32) : bt (x <<< ((16 : Int32) &&& 31)) i = (decide (16 ≤ i) && bt x (i - 16)) := b_shl 16 (by omega) x hi
theorem b_shl24 (x : Int32) {i : Nat} (hi : i < 32) : bt (x <<< ((24 : Int32) &&& 31)) i = (decide (24 ≤ i) && bt x (i - 24)) := b_shl 24 (by omega) x hi
theorem b_sshr8 (x : Int32) {i : Nat} (hi : i < 32) : bt (x >>> ((8 : Int32) &&& 31)) i = if 8 + i < 32 then bt x (8 + i) else bt x 31 := b_sshr 8 (by omega) x hi
theorem bp_b (x : Int32) : x.toInt8.toInt32 &&& 255 = x &&& 255 := by
  apply Int32.toBitVec_inj.mp
  rw [Int32.toBitVec_and, Int32.toBitVec_and, Int8.toBitVec_toInt32, Int32.toBitVec_toInt8]
  apply BitVec.eq_of_getLsbD_eq
  intro i hi
  rw [BitVec.getLsbD_and, BitVec.getLsbD_and]
  have hm : ∀ i < 32, 8 ≤ i → (255 : Int32).toBitVec.getLsbD i = false := by decide
  rcases Nat.lt_or_ge i 8 with z | z
  · rw [BitVec.getLsbD_signExtend, BitVec.getLsbD_signExtend, if_pos z, if_pos hi]
    simp only [z, hi, decide_true, Bool.true_and]
  · rw [hm i hi z]; simp
theorem bn_and (x : Int32) : bn x &&& nI 255 = nI (lb x) := (show x.toInt8.toInt32 &&& (255 : Int32) = x &&& (255 : Int32) from bp_b x).trans (and255 x)
theorem lb_bv (x : Int32) : lb x = x.toInt8.toBitVec.toNat := by
  rw [Int32.toBitVec_toInt8, BitVec.signExtend_eq_setWidth_of_le _ (by decide), BitVec.toNat_setWidth]; rfl
theorem bn_t8 (x : Int32) : (bn x).toInt8 = x.toInt8 := Int8.toInt8_toInt32 _
theorem bn_of8 {x y : Int32} (h : x.toInt8 = y.toInt8) : bn x = bn y := by rw [bn, bn, h]
theorem bn_of_lb {x y : Int32} (h : lb x = lb y) : bn x = bn y := by
  rw [lb_bv, lb_bv] at h
  exact bn_of8 (Int8.toBitVec_inj.mp (BitVec.eq_of_toNat_eq h))
theorem lb_bn (x : Int32) : lb (bn x) = lb x := by rw [lb_bv, lb_bv, bn_t8]
theorem lb_of_bn {x y : Int32} (h : bn x = bn y) : lb x = lb y := by rw [← lb_bn x, ← lb_bn y, h]
theorem lb_n {a : Nat} (h : a < 256) : lb (nI a) = a := by rw [lb, pk_tn (by omega)]; omega
theorem bn_lb (x : Int32) : bn x = bn (nI (lb x)) := bn_of_lb (by rw [lb_n (lb_lt x)])
theorem bn_bn (x : Int32) : bn (bn x) = bn x := bn_of8 (bn_t8 x)
theorem bn_m1 {a : Nat} (h : a < 256) : bn (nI a) = -1 ↔ a = 255 := by
  constructor
  · intro e
    have e2 : lb (bn (nI a)) = lb (-1) := by rw [e]
    rw [lb_bn, lb_n h, show lb (-1) = 255 by decide +kernel] at e2
    exact e2
  · intro e
    rw [e]; decide +kernel
theorem bn_add (x y : Int32) : bn (bn x + y) = bn (x + y) := bn_of8 (by rw [Int32.toInt8_add, Int32.toInt8_add, bn_t8])
theorem bn_cancel (x y : Int32) : bn (bn (x + y) + -y) = bn x := by
  rw [bn_add, Int32.add_assoc, Int32.add_right_neg, Int32.add_zero]
theorem bn_z : bn 0 = 0 := by decide +kernel
theorem lb_bits {x y : Int32} (h : ∀ i, i < 8 → bt x i = bt y i) : lb x = lb y := by
  rw [lb_bv, lb_bv, Int32.toBitVec_toInt8, Int32.toBitVec_toInt8, BitVec.signExtend_eq_setWidth_of_le _ (by decide), BitVec.signExtend_eq_setWidth_of_le _ (by decide)]
  congr 1
  apply BitVec.eq_of_getLsbD_eq
  intro i hi
  rw [BitVec.getLsbD_setWidth, BitVec.getLsbD_setWidth]
  have h9 := h i hi
  unfold bt at h9
  rw [h9]
theorem lb_shift {n : Nat} (hn : n ≤ 24) (v : Int32) : lb (ush v n) = lb (v >>> (nI n &&& 31)) := by
  apply lb_bits
  intro i hi
  rw [show bt (ush v n) i = bt v (n + i) from b_ushr n (by omega) v i, b_sshr n (by omega) v (by omega), if_pos (by omega)]
theorem nx_or (a b : Nat) : nI a ||| nI b = nI (a ||| b) := by
  apply Int32.toBitVec_inj.1
  show BitVec.ofNat 32 a ||| BitVec.ofNat 32 b = BitVec.ofNat 32 (a ||| b)
  apply BitVec.eq_of_getLsbD_eq
  intro i hi
  simp [hi]
theorem two_bytes {a b : Nat} (ha : a < 256) (hb : b < 256) : (nI a <<< (nI 8 &&& 31)) ||| nI b = nI (a * 256 + b) := by
  rw [pk_shlN (nI 8 &&& 31) 8 (by decide) (by omega), nx_or]
  congr 1
  have h := Nat.two_pow_add_eq_or_of_lt (i := 8) (b := b) (by omega) a
  rw [show a * 2 ^ 8 = 2 ^ 8 * a by omega, ← h]

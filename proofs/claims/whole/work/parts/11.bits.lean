/-! bits of an Int32 (begun with the kit's rows to paste) -/
def bt (x : Int32) (i : Nat) : Bool := x.toBitVec.getLsbD i
theorem b_ext {x y : Int32} (h : ∀ i, i < 32 → bt x i = bt y i) : x = y := Int32.toBitVec_inj.mp (BitVec.eq_of_getLsbD_eq (fun i hi => h i hi))
theorem b_or (x y : Int32) (i : Nat) : bt (x ||| y) i = (bt x i || bt y i) := by unfold bt; rw [Int32.toBitVec_or, BitVec.getLsbD_or]
theorem b_and (x y : Int32) (i : Nat) : bt (x &&& y) i = (bt x i && bt y i) := by unfold bt; rw [Int32.toBitVec_and, BitVec.getLsbD_and]
theorem b_xor (x y : Int32) (i : Nat) : bt (x ^^^ y) i = (bt x i ^^ bt y i) := by unfold bt; rw [Int32.toBitVec_xor, BitVec.getLsbD_xor]
theorem b_big {x : Int32} {i : Nat} (h : 32 ≤ i) : bt x i = false := BitVec.getLsbD_of_ge _ _ h
theorem b_m1 : ∀ i, i < 32 → bt (-1) i = true := by decide +kernel
theorem b_0 (i : Nat) : bt 0 i = false := BitVec.getLsbD_zero
theorem s_l : ∀ n, n < 32 → ((nI n &&& 31).toBitVec.smod 32).toNat = n := by decide +kernel
theorem s_u : ∀ n, n < 32 → (((nI n).toUInt32 &&& Int32.toUInt32 31).toBitVec % 32).toNat = n := by decide +kernel
theorem b_shl (n : Nat) (hn : n < 32) (x : Int32) {i : Nat} (hi : i < 32) : bt (x <<< (nI n &&& 31)) i = (decide (n ≤ i) && bt x (i - n)) := by
  unfold bt
  rw [Int32.toBitVec_shiftLeft]
  show (x.toBitVec <<< ((nI n &&& 31).toBitVec.smod 32).toNat).getLsbD i = _
  rw [s_l n hn, BitVec.getLsbD_shiftLeft]
  rcases Nat.lt_or_ge i n with h | h
  · simp [h, Nat.not_le.mpr h]
  · simp [hi, h, Nat.not_lt.mpr h]
theorem b_ushr (n : Nat) (hn : n < 32) (x : Int32) (i : Nat) : bt ((x.toUInt32 >>> ((nI n).toUInt32 &&& Int32.toUInt32 31)).toInt32) i = bt x (n + i) := by
  show (x.toUInt32 >>> ((nI n).toUInt32 &&& Int32.toUInt32 31)).toBitVec.getLsbD i = x.toUInt32.toBitVec.getLsbD (n + i)
  rw [UInt32.toBitVec_shiftRight]
  show (x.toUInt32.toBitVec >>> (((nI n).toUInt32 &&& Int32.toUInt32 31).toBitVec % 32).toNat).getLsbD i = _
  rw [s_u n hn, BitVec.getLsbD_ushiftRight]
theorem b_sshr (n : Nat) (hn : n < 32) (x : Int32) {i : Nat} (hi : i < 32) : bt (x >>> (nI n &&& 31)) i = if n + i < 32 then bt x (n + i) else bt x 31 := by
  unfold bt
  rw [Int32.toBitVec_shiftRight]
  show (x.toBitVec.sshiftRight ((nI n &&& 31).toBitVec.smod 32).toNat).getLsbD i = _
  rw [s_l n hn, BitVec.getLsbD_sshiftRight, BitVec.msb_eq_getLsbD_last]
  simp [hi]
theorem nx_and (a b : Nat) : nI a &&& nI b = nI (a &&& b) := by
  apply Int32.toBitVec_inj.1
  show BitVec.ofNat 32 a &&& BitVec.ofNat 32 b = BitVec.ofNat 32 (a &&& b)
  apply BitVec.eq_of_getLsbD_eq
  intro i hi
  simp [hi]
theorem bt_nI {a i : Nat} (h : i < 32) : bt (nI a) i = a.testBit i := by
  show (BitVec.ofNat 32 a).getLsbD i = _
  rw [BitVec.getLsbD_ofNat]
  simp [h]
theorem bt_1 (i : Nat) : bt (nI 1) i = decide (i = 0) := by
  rcases Nat.lt_or_ge i 32 with h | h
  · exact (by decide +kernel : ∀ i, i < 32 → bt (nI 1) i = decide (i = 0)) i h
  · rw [b_big h, decide_eq_false (by omega)]
/-- one bit asked for -/
theorem bt_ask (y : Int32) {v : Nat} (hv : v < 32) : (y >>> (nI v &&& 31)) &&& nI 1 = bI (bt y v) := by
  apply b_ext
  intro i hi
  rw [b_and, bt_1, b_sshr v hv y hi]
  by_cases h : i = 0
  · subst h
    rw [if_pos (by omega)]
    cases hb : bt y v <;> simp [hb, bI] <;> decide
  · simp [h]
    cases bt y v
    · show bt (nI 0) i = false
      rw [bt_nI hi]; simp
    · show bt (nI 1) i = false
      rw [bt_1]; simp [h]
theorem bt_pow {v : Nat} (hv : v < 32) {i : Nat} (hi : i < 32) : bt (nI 1 <<< (nI v &&& 31)) i = decide (i = v) := by
  rw [b_shl v hv _ hi, bt_1]
  by_cases h : v ≤ i
  · simp [h]; omega
  · simp [h]; omega
theorem bt_not (y : Int32) {i : Nat} (hi : i < 32) : bt (y ^^^ (-1)) i = !bt y i := by
  rw [b_xor, b_m1 i hi]
  simp
theorem bt_zero {y : Int32} : y = 0 ↔ ∀ i, i < 32 → bt y i = false := by
  constructor
  · intro h i _
    rw [h]
    exact b_0 i
  · intro h
    exact b_ext (fun i hi => by rw [h i hi, b_0])
/-- y with bit v put, taken away -/
def bon (y : Int32) (v : Nat) : Int32 := y ||| nI 1 <<< (nI v &&& 31)
def boff (y : Int32) (v : Nat) : Int32 := y &&& ((nI 1 <<< (nI v &&& 31)) ^^^ (-1))
theorem bt_on (y : Int32) {v : Nat} (hv : v < 32) {i : Nat} (hi : i < 32) : bt (bon y v) i = (bt y i || decide (i = v)) := by
  unfold bon
  rw [b_or, bt_pow hv hi]
theorem bt_off (y : Int32) {v : Nat} (hv : v < 32) {i : Nat} (hi : i < 32) : bt (boff y v) i = (bt y i && !decide (i = v)) := by
  unfold boff
  rw [b_and, bt_not _ hi, bt_pow hv hi]
/-- only the lowest n bits -/
def bw (n : Nat) (y : Int32) : Prop := ∀ i, n ≤ i → bt y i = false
theorem dn {P : Nat → Prop} (n : Nat) (hn : P n) (hs : ∀ i, i < n → P (i + 1) → P i) (i : Nat) (hi : i ≤ n) : P i := by
  have h : ∀ j, P (n - j) := by
    intro j
    induction j with
    | zero => exact hn
    | succ j ih =>
      rcases Nat.lt_or_ge j n with q | q
      · refine hs (n - (j + 1)) (by omega) ?_
        rw [show n - (j + 1) + 1 = n - j by omega]
        exact ih
      · rw [show n - (j + 1) = n - j by omega]
        exact ih
  have := h (n - i)
  rwa [show n - (n - i) = i by omega] at this
def sumN (f : Nat → Int32) : Nat → Int32
  | 0 => nI 0
  | n + 1 => sumN f n + f n

/-! Book: what its methods answer and change; c the Book's cell; the land's cells are 18 and on -/
def lowF (p : Nat → Bool) : Nat → Nat → Nat
  | 0, i => i
  | f + 1, i => if p i then i else lowF p f (i + 1)
/-- the lowest of seven bits (7: none) -/
def lowN (y : Int32) : Nat := lowF (bt y) 7 0
def lowI (j : Nat) : Int32 := if j < 7 then nI j else (-4)
theorem lowI_lt {j : Nat} (h : j < 7) : lowI j = nI j := if_pos h
/-- the rest, as bits -/
def restM (nv : Nat) (ib : Int32) : Int32 := ((nI 1 <<< (nI nv &&& 31)) - nI 1) &&& (ib ^^^ (-1))
/-- what one would swear to: an the neighbours in the book, hon the honest ones -/
def swornP (an hon : Int32) (ox wr : Nat → Int32) (v kd : Nat) : Int32 :=
  if kd = 1 then (if an &&& hon = 0 then ox v / nI 2 else ox v) else if kd = 2 then (if an &&& hon = 0 then nI 0 else ox v)
  else if kd = 3 then (if an = 0 then ox v else wr (lowN an)) else if kd = 4 then (if an = 0 then ox v else nI 0) else ox v
def swearM (M : xMem) (c v kd : Nat) (hon : Int32) : xMem :=
  let an := M 22 v &&& M c 5
  let M1 := up2 M (c + 2) v (swornP an hon (M (c + 1)) (M (c + 2)) v kd)
  let M2 := if kd = 4 ∧ ¬ an = 0 then up2 (up2 M1 (c + 1) (lowN an) (M (c + 1) (lowN an) + M (c + 1) v)) (c + 1) v (nI 0) else M1
  up2 M2 c 5 (bon (M c 5) v)
def askM (M : xMem) (c p v w kd : Nat) (hon : Int32) : xMem := swearM (up2 (up2 M (c + 4) p (M (c + 4) p + (M (24 + w) v + nI 1))) (c + 3) p (nI v)) c v kd hon
def checkM (M : xMem) (c v : Nat) : xMem := up2 (up2 M (c + 2) v (M (c + 1) v)) c 6 (bon (M c 6) v)
def strikeM (M : xMem) (c v : Nat) : xMem := up2 (up2 M c 5 (boff (M c 5) v)) c 6 (boff (M c 6) v)
/-- Book e copied into Book c: the entries; all -/
def cpE (M : xMem) (c e : Nat) : xMem := setR (setR (setR M c (M e)) (c + 1) (M (e + 1))) (c + 2) (M (e + 2))
def cpB (M : xMem) (c e : Nat) : xMem := setR (setR (cpE M c e) (c + 3) (M (e + 3))) (c + 4) (M (e + 4))
def openM (M : xMem) (c : Nat) : xMem := setR (setR (setR (setR (setR M c (fun _ => nI 0)) (c + 1) (M 20)) (c + 2) (fun _ => nI 0)) (c + 3) (M 21)) (c + 4) (fun _ => nI 0)
/-- the sum of what is written of those in the book; how many more would be of a set -/
def foundF (nv : Nat) (ib : Int32) (wr : Nat → Int32) : Int32 := sumN (fun v => if bt ib v then wr v else nI 0) nv
def gainF (nv : Nat) (set : Int32) (ox wr : Nat → Int32) : Int32 := sumN (fun v => if bt set v then ox v - wr v else nI 0) nv
def maxN (f : Nat → Int32) : Nat → Int32
  | 0 => nI 0
  | n + 1 => mxI (maxN f n) (f n)
/-- one of the neighbours in the book has the same written -/
def twinF (an : Int32) (wr : Nat → Int32) (v : Nat) : Nat → Bool
  | 0 => false
  | n + 1 => twinF an wr v n || (bt an n && decide (wr n = wr v))
section BK
variable {G : xGl} {d c e v p w nv np kd : Nat} {M : xMem} {Q : Option Value → List xSh → xMem → Prop}
theorem c_X0_holds (hc : isBk c) (hv : v < 7) (hQ : Q (some (.int (bI (bt (M c 5) v)))) SF M) : xC G mX0_holds d 0 0 [.ref (G.1 + c), .int (nI v)] SF M Q := by
  have h0 := bk0 hc
  refine xC_intro [some (.ref (G.1 + c)), some (.int (nI v))] rfl (by decide) (Nat.le_of_ble_eq_true rfl) ?_
  refine xs_aload eX0_holds_0 rfl ?_
  refine xs_getI eX0_holds_1 (by assumption) (by rfl) ?_
  refine xs_iload eX0_holds_4 rfl ?_
  refine xs_ishr eX0_holds_5 ?_
  refine xs_K eX0_holds_6 ?_
  refine xs_iand eX0_holds_7 ?_
  refine xs_eq1 (bt_ask _ (by omega)) ?_
  refine xs_ifeqB eX0_holds_8 (fun h8 => ?_) (fun h8 => ?_)
  · refine xs_K eX0_holds_15 ?_
    exact xs_iret eX0_holds_16 rfl (by first | exact bI_nar _ | rfl) (by rw [h8] at hQ; exact hQ)
  · refine xs_K eX0_holds_11 ?_
    refine xs_goto eX0_holds_12 ?_
    exact xs_iret eX0_holds_16 rfl (by first | exact bI_nar _ | rfl) (by rw [h8] at hQ; exact hQ)
theorem c_X0_isChecked (hc : isBk c) (hv : v < 7) (hQ : Q (some (.int (bI (bt (M c 6) v)))) SF M) : xC G mX0_isChecked d 0 0 [.ref (G.1 + c), .int (nI v)] SF M Q := by
  have h0 := bk0 hc
  refine xC_intro [some (.ref (G.1 + c)), some (.int (nI v))] rfl (by decide) (Nat.le_of_ble_eq_true rfl) ?_
  refine xs_aload eX0_isChecked_0 rfl ?_
  refine xs_getI eX0_isChecked_1 (by assumption) (by rfl) ?_
  refine xs_iload eX0_isChecked_4 rfl ?_
  refine xs_ishr eX0_isChecked_5 ?_
  refine xs_K eX0_isChecked_6 ?_
  refine xs_iand eX0_isChecked_7 ?_
  refine xs_eq1 (bt_ask _ (by omega)) ?_
  refine xs_ifeqB eX0_isChecked_8 (fun h8 => ?_) (fun h8 => ?_)
  · refine xs_K eX0_isChecked_15 ?_
    exact xs_iret eX0_isChecked_16 rfl (by first | exact bI_nar _ | rfl) (by rw [h8] at hQ; exact hQ)
  · refine xs_K eX0_isChecked_11 ?_
    refine xs_goto eX0_isChecked_12 ?_
    exact xs_iret eX0_isChecked_16 rfl (by first | exact bI_nar _ | rfl) (by rw [h8] at hQ; exact hQ)
theorem c_X0_canBeChecked (hc : isBk c) (hv : v < 7) (hQ : Q (some (.int (bI (bt (M c 5) v && !bt (M c 6) v)))) SF M) : xC G mX0_canBeChecked (d + 1) 0 0 [.ref (G.1 + c), .int (nI v)] SF M Q := by
  have h0 := bk0 hc
  refine xC_intro [some (.ref (G.1 + c)), some (.int (nI v))] rfl (by decide) (Nat.le_of_ble_eq_true rfl) ?_
  refine xs_aload eX0_canBeChecked_0 rfl ?_
  refine xs_iload eX0_canBeChecked_1 rfl ?_
  refine xs_callV1i eX0_canBeChecked_2 (by assumption) (Nat.le_of_ble_eq_true rfl) (c_X0_holds (by assumption) (by omega) ⟨_, rfl, ?_⟩)
  refine xs_ifeqB eX0_canBeChecked_5 (fun h5 => ?_) (fun h5 => ?_)
  · refine xs_K eX0_canBeChecked_20 ?_
    exact xs_iret eX0_canBeChecked_21 rfl (by first | exact bI_nar _ | rfl) (by simp_all [bI])
  · refine xs_aload eX0_canBeChecked_8 rfl ?_
    refine xs_iload eX0_canBeChecked_9 rfl ?_
    refine xs_callV1i eX0_canBeChecked_10 (by assumption) (Nat.le_of_ble_eq_true rfl) (c_X0_isChecked (by assumption) (by omega) ⟨_, rfl, ?_⟩)
    refine xs_ifneB eX0_canBeChecked_13 (fun h13 => ?_) (fun h13 => ?_)
    · refine xs_K eX0_canBeChecked_20 ?_
      exact xs_iret eX0_canBeChecked_21 rfl (by first | exact bI_nar _ | rfl) (by simp_all [bI])
    · refine xs_K eX0_canBeChecked_16 ?_
      refine xs_goto eX0_canBeChecked_17 ?_
      exact xs_iret eX0_canBeChecked_21 rfl (by first | exact bI_nar _ | rfl) (by simp_all [bI])
theorem c_X0_canBeAsked (hc : isBk c) (hp : p < 3) (hv : v < 7) (hw : M (c + 3) p = nI w) (hw7 : w < 7) (hQ : Q (some (.int (bI (!bt (M c 5) v && decide (M (24 + w) v < nI 1000000))))) SF M) : xC G mX0_canBeAsked (d + 1) 0 0 [.ref (G.1 + c), .int (nI p), .int (nI v)] SF M Q := by
  have h0 := bk0 hc
  have h3 := bk3 hc
  have l0 := sh18
  have l5 := sh23
  have lr := ldr (Or.inr rfl) w hw7
  refine xC_intro [some (.ref (G.1 + c)), some (.int (nI p)), some (.int (nI v))] rfl (by decide) (Nat.le_of_ble_eq_true rfl) ?_
  refine xs_aload eX0_canBeAsked_0 rfl ?_
  refine xs_iload eX0_canBeAsked_1 rfl ?_
  refine xs_callV1i eX0_canBeAsked_2 (by assumption) (Nat.le_of_ble_eq_true rfl) (c_X0_holds (by assumption) (by omega) ⟨_, rfl, ?_⟩)
  refine xs_ifneB eX0_canBeAsked_5 (fun h5 => ?_) (fun h5 => ?_)
  · refine xs_K eX0_canBeAsked_33 ?_
    exact xs_iret eX0_canBeAsked_34 rfl (by first | exact bI_nar _ | rfl) (by simp_all [bI])
  · refine xs_aload eX0_canBeAsked_8 rfl ?_
    refine xs_getR eX0_canBeAsked_9 (by assumption) (by rfl) ?_
    refine xs_getR eX0_canBeAsked_12 (by assumption) (by rfl) ?_
    refine xs_aload eX0_canBeAsked_15 rfl ?_
    refine xs_getR eX0_canBeAsked_16 (by assumption) (by rfl) ?_
    refine xs_iload eX0_canBeAsked_19 rfl ?_
    refine xs_iald eX0_canBeAsked_20 (by assumption) (by omega) (by decide) ?_
    refine xs_eq1 hw ?_
    refine xs_aald (r := 24 + w) eX0_canBeAsked_21 l5 rfl (by rcases (show w = 0 ∨ w = 1 ∨ w = 2 ∨ w = 3 ∨ w = 4 ∨ w = 5 ∨ w = 6 by omega) with rfl | rfl | rfl | rfl | rfl | rfl | rfl <;> rfl) (by decide) ?_
    refine xs_iload eX0_canBeAsked_22 rfl ?_
    refine xs_iald eX0_canBeAsked_23 (by assumption) (by omega) (by decide) ?_
    refine xs_K eX0_canBeAsked_24 ?_
    refine xs_icmp_ge eX0_canBeAsked_26 (fun h26 => ?_) (fun h26 => ?_)
    · refine xs_K eX0_canBeAsked_33 ?_
      exact xs_iret eX0_canBeAsked_34 rfl (by first | exact bI_nar _ | rfl) (Qev hQ (by rw [h5, decide_eq_false (Int32.not_lt.mpr h26)]; rfl))
    · refine xs_K eX0_canBeAsked_29 ?_
      refine xs_goto eX0_canBeAsked_30 ?_
      exact xs_iret eX0_canBeAsked_34 rfl (by first | exact bI_nar _ | rfl) (Qev hQ (by rw [h5, decide_eq_true (Int32.not_le.mp h26)]; rfl))
theorem c_X0_rest (hc : isBk c) (hn : M 18 5 = nI nv) (hQ : Q (some (.int (restM nv (M c 5)))) SF M) : xC G mX0_rest d 0 0 [.ref (G.1 + c)] SF M Q := by
  have h0 := bk0 hc
  have l0 := sh18
  refine xC_intro [some (.ref (G.1 + c))] rfl (by decide) (Nat.le_of_ble_eq_true rfl) ?_
  refine xs_K eX0_rest_0 ?_
  refine xs_aload eX0_rest_1 rfl ?_
  refine xs_getR eX0_rest_2 (by assumption) (by rfl) ?_
  refine xs_getI eX0_rest_5 (by assumption) (by rfl) ?_
  refine xs_eq1 hn ?_
  refine xs_ishl eX0_rest_8 ?_
  refine xs_K eX0_rest_9 ?_
  refine xs_isub eX0_rest_10 ?_
  refine xs_aload eX0_rest_11 rfl ?_
  refine xs_getI eX0_rest_12 (by assumption) (by rfl) ?_
  refine xs_K eX0_rest_15 ?_
  refine xs_ixor eX0_rest_16 ?_
  refine xs_iand eX0_rest_17 ?_
  exact xs_iretI eX0_rest_18 rfl (hQ)
theorem restM_bt {nv : Nat} (h7 : nv ≤ 7) (ib : Int32) {i : Nat} (hi : i < 32) : bt (restM nv ib) i = (decide (i < nv) && !bt ib i) := by
  unfold restM
  rw [b_and, bt_not _ hi]
  congr 1
  exact (by decide +kernel : ∀ nv, nv ≤ 7 → ∀ i, i < 32 → bt ((nI 1 <<< (nI nv &&& 31)) - nI 1) i = decide (i < nv)) nv h7 i hi
/-- few bits are a small number -/
theorem bw7 {y : Int32} (h : ∀ i, 7 ≤ i → i < 32 → bt y i = false) : ∃ a : Nat, a < 128 ∧ y = nI a := by
  refine ⟨y.toBitVec.toNat, ?_, Int32.toBitVec_inj.mp (by show _ = BitVec.ofNat 32 _; simp)⟩
  show y.toBitVec.toNat < 2 ^ 7
  apply Nat.lt_pow_two_of_testBit
  intro j hj
  rw [BitVec.testBit_toNat]
  rcases Nat.lt_or_ge j 32 with q | q
  · exact h j hj q
  · exact b_big q
theorem c_X0_restSize {a : Nat} (hc : isBk c) (hn : M 18 5 = nI nv) (h7 : nv ≤ 7) (hr : restM nv (M c 5) = nI a) (ha : a < 128) (hQ : Q (some (.int (nI (pc7 a)))) SF M) : xC G mX0_restSize (d + 1) 0 0 [.ref (G.1 + c)] SF M Q := by
  have h0 := bk0 hc
  refine xC_intro [some (.ref (G.1 + c))] rfl (by decide) (Nat.le_of_ble_eq_true rfl) ?_
  refine xs_aload eX0_restSize_0 rfl ?_
  refine xs_callV0i eX0_restSize_1 (by assumption) (Nat.le_of_ble_eq_true rfl) (c_X0_rest (by assumption) (by assumption) ⟨_, rfl, ?_⟩)
  refine xs_eq1 hr ?_
  refine xs_callS1i eX0_restSize_4 (Nat.le_of_ble_eq_true rfl) (c_bitCount (by omega) ⟨_, rfl, ?_⟩)
  exact xs_iretI eX0_restSize_7 rfl (hQ)
theorem c_X9_lowestOf {y : Int32} (hQ : Q (some (.int (lowI (lowN y)))) SF M) : xC G mX9_lowestOf d 0 0 [.int y] SF M Q := by
  refine xC_intro [some (.int y), none] rfl (by decide) (Nat.le_of_ble_eq_true rfl) ?_
  refine xs_K eX9_lowestOf_0 ?_
  refine xs_istore eX9_lowestOf_1 (Nat.le_of_ble_eq_true rfl) rfl rfl ?_
  refine dn (P := fun i => Q (some (.int (lowI (lowF (bt y) (7 - i) i)))) SF M → xW G mX9_lowestOf d 0 0 Q 2 [some (.int y), some (.int (nI i))] [] SF M) 7 ?_ ?_ 0 (by omega) hQ
  · intro hQ
    refine xs_iload eX9_lowestOf_2 rfl ?_
    refine xs_K eX9_lowestOf_3 ?_
    refine xs_icmp_ge eX9_lowestOf_5 (fun h5 => ?_) (fun h => absurd (Int32.le_refl _) h)
    refine xs_K eX9_lowestOf_24 ?_
    exact xs_iretI eX9_lowestOf_26 rfl (hQ)
  · intro i hi ih hQ
    rw [show 7 - i = (7 - (i + 1)) + 1 by omega, lowF] at hQ
    refine xs_iload eX9_lowestOf_2 rfl ?_
    refine xs_K eX9_lowestOf_3 ?_
    refine xs_icmp_ge eX9_lowestOf_5 (fun h => absurd h (nI_ge hi (by omega))) (fun h5 => ?_)
    refine xs_iload eX9_lowestOf_8 rfl ?_
    refine xs_iload eX9_lowestOf_9 rfl ?_
    refine xs_ishr eX9_lowestOf_10 ?_
    refine xs_K eX9_lowestOf_11 ?_
    refine xs_iand eX9_lowestOf_12 ?_
    refine xs_eq1 (bt_ask _ (by omega)) ?_
    refine xs_ifeqB eX9_lowestOf_13 (fun h13 => ?_) (fun h13 => ?_)
    · refine xs_inc1 eX9_lowestOf_18 rfl rfl rfl ?_
      refine xs_goto eX9_lowestOf_21 ?_
      exact ih (by simpa [h13] using hQ)
    · refine xs_iload eX9_lowestOf_16 rfl ?_
      exact xs_iretI eX9_lowestOf_17 rfl (Qev hQ (by simp only [h13, reduceIte]; exact lowI_lt hi))
theorem lowI_no {y : Int32} (hl : y = 0 ∨ lowN y < 7) : lowI (lowN y) = (-4) ↔ y = 0 := by
  constructor
  · intro h
    rcases hl with q | q
    · exact q
    · rw [lowI_lt q] at h
      exact absurd h ((by decide +kernel : ∀ j, j < 7 → ¬ nI j = (-4)) _ q)
  · intro h
    subst h
    decide +kernel
theorem c_X0_copied {y : Int32} (hc : isBk c) (hv : v < 7) (hl : y = 0 ∨ lowN y < 7) (hQ : Q (some (.int (if y = 0 then M (c + 1) v else M (c + 2) (lowN y)))) SF M) : xC G mX0_copied d 0 0 [.ref (G.1 + c), .int (nI v), .int (lowI (lowN y))] SF M Q := by
  have h0 := bk0 hc
  have h1 := bk1 hc
  have h2 := bk2 hc
  refine xC_intro [some (.ref (G.1 + c)), some (.int (nI v)), some (.int (lowI (lowN y)))] rfl (by decide) (Nat.le_of_ble_eq_true rfl) ?_
  refine xs_iload eX0_copied_0 rfl ?_
  refine xs_K eX0_copied_1 ?_
  refine xs_icmp_eq eX0_copied_3 (fun h3 => ?_) (fun h3 => ?_)
  · refine xs_aload eX0_copied_15 rfl ?_
    refine xs_getR eX0_copied_16 (by assumption) (by rfl) ?_
    refine xs_iload eX0_copied_19 rfl ?_
    refine xs_iald eX0_copied_20 (by assumption) (by omega) (by decide) ?_
    exact xs_iretI eX0_copied_21 rfl (Qev hQ (if_pos ((lowI_no hl).mp h3)))
  · have h7 := hl.resolve_left (fun q => h3 ((lowI_no hl).mpr q))
    refine xs_aload eX0_copied_6 rfl ?_
    refine xs_getR eX0_copied_7 (by assumption) (by rfl) ?_
    refine xs_iload eX0_copied_10 rfl ?_
    refine xs_eq1 (lowI_lt h7) ?_
    refine xs_iald eX0_copied_11 (by assumption) (h7) (by decide) ?_
    refine xs_goto eX0_copied_12 ?_
    exact xs_iretI eX0_copied_21 rfl (Qev hQ (if_neg (fun q => h3 ((lowI_no hl).mpr q))))
theorem c_X0_sworn {hon : Int32} (hc : isBk c) (hv : v < 7) (hk : kd < 5) (hl : M 22 v &&& M c 5 = 0 ∨ lowN (M 22 v &&& M c 5) < 7) (hQ : Q (some (.int (swornP (M 22 v &&& M c 5) hon (M (c + 1)) (M (c + 2)) v kd))) SF M) : xC G mX0_sworn (d + 1) 0 0 [.ref (G.1 + c), .int (nI v), .int (nI kd), .int hon] SF M Q := by
  have h0 := bk0 hc
  have h1 := bk1 hc
  have h2 := bk2 hc
  have l0 := sh18
  have l4 := sh22
  refine xC_intro [some (.ref (G.1 + c)), some (.int (nI v)), some (.int (nI kd)), some (.int hon), none, none] rfl (by decide) (Nat.le_of_ble_eq_true rfl) ?_
  refine xs_aload eX0_sworn_0 rfl ?_
  refine xs_getR eX0_sworn_1 (by assumption) (by rfl) ?_
  refine xs_getR eX0_sworn_4 (by assumption) (by rfl) ?_
  refine xs_iload eX0_sworn_7 rfl ?_
  refine xs_iald eX0_sworn_8 (by assumption) (by omega) (by decide) ?_
  refine xs_aload eX0_sworn_9 rfl ?_
  refine xs_getI eX0_sworn_10 (by assumption) (by rfl) ?_
  refine xs_iand eX0_sworn_13 ?_
  refine xs_istore eX0_sworn_14 (Nat.le_of_ble_eq_true rfl) rfl rfl ?_
  refine xs_iload eX0_sworn_16 rfl ?_
  refine xs_iload eX0_sworn_18 rfl ?_
  refine xs_iand eX0_sworn_19 ?_
  have K : ∀ b : Bool, b = !decide ((M 22 v &&& M c 5) &&& hon = 0) → xW G mX0_sworn (d + 1) 0 0 Q 28 [some (.ref (G.1 + c)), some (.int (nI v)), some (.int (nI kd)), some (.int hon), some (.int (M 22 v &&& M c 5)), none] [.int (bI b)] SF M := by
    intro b hb
    refine xs_istore eX0_sworn_28 (Nat.le_of_ble_eq_true rfl) rfl rfl ?_
    refine xs_iload eX0_sworn_30 rfl ?_
    rcases (show kd = 0 ∨ kd = 1 ∨ kd = 2 ∨ kd = 3 ∨ kd = 4 by omega) with rfl | rfl | rfl | rfl | rfl
    · refine xs_tsOut eX0_sworn_31 (by decide) ?_
      refine xs_aload eX0_sworn_126 rfl ?_
      refine xs_getR eX0_sworn_127 (by assumption) (by rfl) ?_
      refine xs_iload eX0_sworn_130 rfl ?_
      refine xs_iald eX0_sworn_131 (by assumption) (by omega) (by decide) ?_
      exact xs_iretI eX0_sworn_132 rfl (by simp_all [swornP])
    · refine xs_tsIn eX0_sworn_31 1 (by decide) (by decide) (by decide) rfl ?_
      refine xs_iload eX0_sworn_60 rfl ?_
      refine xs_ifeqB eX0_sworn_62 (fun h62 => ?_) (fun h62 => ?_)
      · refine xs_aload eX0_sworn_74 rfl ?_
        refine xs_getR eX0_sworn_75 (by assumption) (by rfl) ?_
        refine xs_iload eX0_sworn_78 rfl ?_
        refine xs_iald eX0_sworn_79 (by assumption) (by omega) (by decide) ?_
        refine xs_K eX0_sworn_80 ?_
        refine xs_idiv eX0_sworn_81 (by decide) ?_
        exact xs_iretI eX0_sworn_82 rfl (by simp_all [swornP])
      · refine xs_aload eX0_sworn_65 rfl ?_
        refine xs_getR eX0_sworn_66 (by assumption) (by rfl) ?_
        refine xs_iload eX0_sworn_69 rfl ?_
        refine xs_iald eX0_sworn_70 (by assumption) (by omega) (by decide) ?_
        refine xs_goto eX0_sworn_71 ?_
        exact xs_iretI eX0_sworn_82 rfl (by simp_all [swornP])
    · refine xs_tsIn eX0_sworn_31 2 (by decide) (by decide) (by decide) rfl ?_
      refine xs_iload eX0_sworn_83 rfl ?_
      refine xs_ifeqB eX0_sworn_85 (fun h85 => ?_) (fun h85 => ?_)
      · refine xs_K eX0_sworn_97 ?_
        exact xs_iretI eX0_sworn_98 rfl (by simp_all [swornP])
      · refine xs_aload eX0_sworn_88 rfl ?_
        refine xs_getR eX0_sworn_89 (by assumption) (by rfl) ?_
        refine xs_iload eX0_sworn_92 rfl ?_
        refine xs_iald eX0_sworn_93 (by assumption) (by omega) (by decide) ?_
        refine xs_goto eX0_sworn_94 ?_
        exact xs_iretI eX0_sworn_98 rfl (by simp_all [swornP])
    · refine xs_tsIn eX0_sworn_31 3 (by decide) (by decide) (by decide) rfl ?_
      refine xs_aload eX0_sworn_99 rfl ?_
      refine xs_iload eX0_sworn_100 rfl ?_
      refine xs_iload eX0_sworn_101 rfl ?_
      refine xs_callS1i eX0_sworn_103 (Nat.le_of_ble_eq_true rfl) (c_X9_lowestOf ⟨_, rfl, ?_⟩)
      refine xs_callV2i eX0_sworn_106 (by assumption) (Nat.le_of_ble_eq_true rfl) (c_X0_copied (by assumption) (by omega) (by assumption) ⟨_, rfl, ?_⟩)
      exact xs_iretI eX0_sworn_109 rfl (by simpa [swornP] using hQ)
    · refine xs_tsIn eX0_sworn_31 4 (by decide) (by decide) (by decide) rfl ?_
      refine xs_iload eX0_sworn_110 rfl ?_
      refine xs_if_eq eX0_sworn_112 (fun h112 => ?_) (fun h112 => ?_)
      · refine xs_aload eX0_sworn_119 rfl ?_
        refine xs_getR eX0_sworn_120 (by assumption) (by rfl) ?_
        refine xs_iload eX0_sworn_123 rfl ?_
        refine xs_iald eX0_sworn_124 (by assumption) (by omega) (by decide) ?_
        exact xs_iretI eX0_sworn_125 rfl (by simp_all [swornP])
      · refine xs_K eX0_sworn_115 ?_
        refine xs_goto eX0_sworn_116 ?_
        exact xs_iretI eX0_sworn_125 rfl (by simp_all [swornP])
  refine xs_if_eq eX0_sworn_20 (fun h20 => ?_) (fun h20 => ?_)
  · refine xs_K eX0_sworn_27 ?_
    exact K false (by simp [h20])
  · refine xs_K eX0_sworn_23 ?_
    refine xs_goto eX0_sworn_24 ?_
    exact K true (by simp [h20])
theorem c_X0_swear {hon : Int32} (hc : isBk c) (hv : v < 7) (hk : kd < 5) (hl : M 22 v &&& M c 5 = 0 ∨ lowN (M 22 v &&& M c 5) < 7) (hQ : Q (some (.int (swornP (M 22 v &&& M c 5) hon (M (c + 1)) (M (c + 2)) v kd))) SF (swearM M c v kd hon)) : xC G mX0_swear (d + 2) 0 0 [.ref (G.1 + c), .int (nI v), .int (nI kd), .int hon] SF M Q := by
  have h0 := bk0 hc
  have h1 := bk1 hc
  have h2 := bk2 hc
  have l0 := sh18
  have l4 := sh22
  obtain ⟨b1, b2⟩ := bkR hc
  refine xC_intro [some (.ref (G.1 + c)), some (.int (nI v)), some (.int (nI kd)), some (.int hon), none] rfl (by decide) (Nat.le_of_ble_eq_true rfl) ?_
  refine xs_aload eX0_swear_0 rfl ?_
  refine xs_getR eX0_swear_1 (by assumption) (by rfl) ?_
  refine xs_iload eX0_swear_4 rfl ?_
  refine xs_aload eX0_swear_5 rfl ?_
  refine xs_iload eX0_swear_6 rfl ?_
  refine xs_iload eX0_swear_7 rfl ?_
  refine xs_iload eX0_swear_8 rfl ?_
  refine xs_callV3i eX0_swear_9 (by assumption) (Nat.le_of_ble_eq_true rfl) (c_X0_sworn (by assumption) (by omega) (by omega) (by assumption) ⟨_, rfl, ?_⟩)
  refine xs_iast eX0_swear_12 (by assumption) (by omega) (by decide) ?_
  generalize hr : swornP (M 22 v &&& M c 5) hon (M (c + 1)) (M (c + 2)) v kd = r at hQ ⊢
  have e1 : up2 M (c + 2) v r 22 v = M 22 v := by rw [up2_ne (by omega)]
  have e2 : up2 M (c + 2) v r c 5 = M c 5 := by rw [up2_ne (by omega)]
  have e3 : ∀ j, up2 M (c + 2) v r (c + 1) j = M (c + 1) j := fun j => by rw [up2_ne (by omega)]
  have K : ∀ (g : Int32) (M2 : xMem), M2 c 5 = M c 5 → M2 (c + 2) v = r → M2 = (if kd = 4 ∧ ¬ (M 22 v &&& M c 5) = 0 then up2 (up2 (up2 M (c + 2) v r) (c + 1) (lowN (M 22 v &&& M c 5)) (M (c + 1) (lowN (M 22 v &&& M c 5)) + M (c + 1) v)) (c + 1) v (nI 0) else up2 M (c + 2) v r) → xW G mX0_swear (d + 2) 0 0 Q 72 [some (.ref (G.1 + c)), some (.int (nI v)), some (.int (nI kd)), some (.int hon), some (.int g)] [] SF M2 := by
    intro g M2 q1 q2 q3
    refine xs_aload eX0_swear_72 rfl ?_
    refine xs_dup eX0_swear_73 rfl ?_
    refine xs_getI eX0_swear_74 (by assumption) (by rfl) ?_
    refine xs_eq1 q1 ?_
    refine xs_K eX0_swear_77 ?_
    refine xs_iload eX0_swear_78 rfl ?_
    refine xs_ishl eX0_swear_79 ?_
    refine xs_ior eX0_swear_80 ?_
    refine xs_putI eX0_swear_81 (by assumption) (by rfl) rfl rfl ?_
    refine xs_aload eX0_swear_84 rfl ?_
    refine xs_getR eX0_swear_85 (by assumption) (by rfl) ?_
    refine xs_iload eX0_swear_88 rfl ?_
    refine xs_iald eX0_swear_89 (by assumption) (by omega) (by decide) ?_
    refine xs_eq1 (z := r) (by rw [up2_ne (by omega)]; exact q2) ?_
    exact xs_iretI eX0_swear_90 rfl (QeM hQ (by unfold swearM; simp only [hr]; rw [← q3]; rfl))
  refine xs_iload eX0_swear_13 rfl ?_
  refine xs_K eX0_swear_14 ?_
  refine xs_icmp_ne eX0_swear_15 (fun h15 => ?_) (fun h15 => ?_)
  · refine xs_K eX0_swear_38 ?_
    refine xs_istore eX0_swear_40 (Nat.le_of_ble_eq_true rfl) rfl rfl ?_
    refine xs_iload eX0_swear_42 rfl ?_
    refine xs_K eX0_swear_44 ?_
    refine xs_icmp_eq eX0_swear_46 (fun h46 => ?_) (fun h => absurd (rfl) h)
    exact K _ _ (by rw [up2_ne (by omega)]) (by simp [up2]) (by rw [if_neg (fun h => h15 (by rw [h.1]))])
  · refine xs_aload eX0_swear_18 rfl ?_
    refine xs_getR eX0_swear_19 (by assumption) (by rfl) ?_
    refine xs_getR eX0_swear_22 (by assumption) (by rfl) ?_
    refine xs_iload eX0_swear_25 rfl ?_
    refine xs_iald eX0_swear_26 (by assumption) (by omega) (by decide) ?_
    refine xs_aload eX0_swear_27 rfl ?_
    refine xs_getI eX0_swear_28 (by assumption) (by rfl) ?_
    refine xs_eq1 e2 ?_
    rw [e1]
    refine xs_iand eX0_swear_31 ?_
    refine xs_callS1i eX0_swear_32 (Nat.le_of_ble_eq_true rfl) (c_X9_lowestOf ⟨_, rfl, ?_⟩)
    refine xs_goto eX0_swear_35 ?_
    refine xs_istore eX0_swear_40 (Nat.le_of_ble_eq_true rfl) rfl rfl ?_
    refine xs_iload eX0_swear_42 rfl ?_
    refine xs_K eX0_swear_44 ?_
    refine xs_icmp_eq eX0_swear_46 (fun h46 => ?_) (fun h46 => ?_)
    · exact K _ _ (by rw [up2_ne (by omega)]) (by simp [up2]) (by rw [if_neg (fun h => h.2 ((lowI_no hl).mp h46))])
    · have h7 := hl.resolve_left (fun q => h46 ((lowI_no hl).mpr q))
      refine xs_aload eX0_swear_49 rfl ?_
      refine xs_getR eX0_swear_50 (by assumption) (by rfl) ?_
      refine xs_iload eX0_swear_53 rfl ?_
      refine xs_eq1 (lowI_lt h7) ?_
      refine xs_dup2 eX0_swear_55 rfl rfl ?_
      refine xs_iald eX0_swear_56 (by assumption) (h7) (by decide) ?_
      refine xs_aload eX0_swear_57 rfl ?_
      refine xs_getR eX0_swear_58 (by assumption) (by rfl) ?_
      refine xs_iload eX0_swear_61 rfl ?_
      refine xs_iald eX0_swear_62 (by assumption) (by omega) (by decide) ?_
      refine xs_iadd eX0_swear_63 ?_
      rw [e3, e3]
      refine xs_iast eX0_swear_64 (by assumption) (h7) (by decide) ?_
      refine xs_aload eX0_swear_65 rfl ?_
      refine xs_getR eX0_swear_66 (by assumption) (by rfl) ?_
      refine xs_iload eX0_swear_69 rfl ?_
      refine xs_K eX0_swear_70 ?_
      refine xs_iast eX0_swear_71 (by assumption) (by omega) (by decide) ?_
      exact K _ _ (by rw [up2_ne (by omega), up2_ne (by omega), up2_ne (by omega)]) (by simp [up2]) (by rw [if_pos ⟨(nI_eq (by omega) (by decide)).mp h15, fun q => h46 ((lowI_no hl).mpr q)⟩])
theorem c_X0_writeOxen (hc : isBk c) (hv : v < 7) (hQ : Q (some (.int (M (c + 1) v - M (c + 2) v))) SF (checkM M c v)) : xC G mX0_writeOxen d 0 0 [.ref (G.1 + c), .int (nI v)] SF M Q := by
  have h0 := bk0 hc
  have h1 := bk1 hc
  have h2 := bk2 hc
  refine xC_intro [some (.ref (G.1 + c)), some (.int (nI v)), none] rfl (by decide) (Nat.le_of_ble_eq_true rfl) ?_
  refine xs_aload eX0_writeOxen_0 rfl ?_
  refine xs_getR eX0_writeOxen_1 (by assumption) (by rfl) ?_
  refine xs_iload eX0_writeOxen_4 rfl ?_
  refine xs_iald eX0_writeOxen_5 (by assumption) (by omega) (by decide) ?_
  refine xs_aload eX0_writeOxen_6 rfl ?_
  refine xs_getR eX0_writeOxen_7 (by assumption) (by rfl) ?_
  refine xs_iload eX0_writeOxen_10 rfl ?_
  refine xs_iald eX0_writeOxen_11 (by assumption) (by omega) (by decide) ?_
  refine xs_isub eX0_writeOxen_12 ?_
  refine xs_istore eX0_writeOxen_13 (Nat.le_of_ble_eq_true rfl) rfl rfl ?_
  refine xs_aload eX0_writeOxen_14 rfl ?_
  refine xs_getR eX0_writeOxen_15 (by assumption) (by rfl) ?_
  refine xs_iload eX0_writeOxen_18 rfl ?_
  refine xs_aload eX0_writeOxen_19 rfl ?_
  refine xs_getR eX0_writeOxen_20 (by assumption) (by rfl) ?_
  refine xs_iload eX0_writeOxen_23 rfl ?_
  refine xs_iald eX0_writeOxen_24 (by assumption) (by omega) (by decide) ?_
  refine xs_iast eX0_writeOxen_25 (by assumption) (by omega) (by decide) ?_
  refine xs_aload eX0_writeOxen_26 rfl ?_
  refine xs_dup eX0_writeOxen_27 rfl ?_
  refine xs_getI eX0_writeOxen_28 (by assumption) (by rfl) ?_
  refine xs_eq1 (z := M c 6) (by rw [up2_ne (by omega)]) ?_
  refine xs_K eX0_writeOxen_31 ?_
  refine xs_iload eX0_writeOxen_32 rfl ?_
  refine xs_ishl eX0_writeOxen_33 ?_
  refine xs_ior eX0_writeOxen_34 ?_
  refine xs_putI eX0_writeOxen_35 (by assumption) (by rfl) rfl rfl ?_
  refine xs_iload eX0_writeOxen_38 rfl ?_
  exact xs_iretI eX0_writeOxen_39 rfl (hQ)
theorem c_X0_strikeOut (hc : isBk c) (hv : v < 7) (hQ : Q (some (.int (M (c + 2) v))) SF (strikeM M c v)) : xC G mX0_strikeOut d 0 0 [.ref (G.1 + c), .int (nI v)] SF M Q := by
  have h0 := bk0 hc
  have h2 := bk2 hc
  refine xC_intro [some (.ref (G.1 + c)), some (.int (nI v))] rfl (by decide) (Nat.le_of_ble_eq_true rfl) ?_
  refine xs_aload eX0_strikeOut_0 rfl ?_
  refine xs_dup eX0_strikeOut_1 rfl ?_
  refine xs_getI eX0_strikeOut_2 (by assumption) (by rfl) ?_
  refine xs_K eX0_strikeOut_5 ?_
  refine xs_iload eX0_strikeOut_6 rfl ?_
  refine xs_ishl eX0_strikeOut_7 ?_
  refine xs_K eX0_strikeOut_8 ?_
  refine xs_ixor eX0_strikeOut_9 ?_
  refine xs_iand eX0_strikeOut_10 ?_
  refine xs_putI eX0_strikeOut_11 (by assumption) (by rfl) rfl rfl ?_
  refine xs_aload eX0_strikeOut_14 rfl ?_
  refine xs_dup eX0_strikeOut_15 rfl ?_
  refine xs_getI eX0_strikeOut_16 (by assumption) (by rfl) ?_
  refine xs_eq1 (z := M c 6) (by simp [up2]) ?_
  refine xs_K eX0_strikeOut_19 ?_
  refine xs_iload eX0_strikeOut_20 rfl ?_
  refine xs_ishl eX0_strikeOut_21 ?_
  refine xs_K eX0_strikeOut_22 ?_
  refine xs_ixor eX0_strikeOut_23 ?_
  refine xs_iand eX0_strikeOut_24 ?_
  refine xs_putI eX0_strikeOut_25 (by assumption) (by rfl) rfl rfl ?_
  refine xs_aload eX0_strikeOut_28 rfl ?_
  refine xs_getR eX0_strikeOut_29 (by assumption) (by rfl) ?_
  refine xs_iload eX0_strikeOut_32 rfl ?_
  refine xs_iald eX0_strikeOut_33 (by assumption) (by omega) (by decide) ?_
  refine xs_eq1 (z := M (c + 2) v) (by rw [up2_ne (by omega), up2_ne (by omega)]) ?_
  exact xs_iretI eX0_strikeOut_34 rfl (hQ)
theorem c_X0_found (hc : isBk c) (hn : M 18 5 = nI nv) (h7 : nv ≤ 7) (hQ : Q (some (.int (foundF nv (M c 5) (M (c + 2))))) SF M) : xC G mX0_found d 0 0 [.ref (G.1 + c)] SF M Q := by
  have h0 := bk0 hc
  have h2 := bk2 hc
  have l0 := sh18
  refine xC_intro [some (.ref (G.1 + c)), none, none] rfl (by decide) (Nat.le_of_ble_eq_true rfl) ?_
  refine xs_K eX0_found_0 ?_
  refine xs_istore eX0_found_1 (Nat.le_of_ble_eq_true rfl) rfl rfl ?_
  refine xs_K eX0_found_2 ?_
  refine xs_istore eX0_found_3 (Nat.le_of_ble_eq_true rfl) rfl rfl ?_
  refine dn (P := fun i => xW G mX0_found d 0 0 Q 4 [some (.ref (G.1 + c)), some (.int (sumN (fun v => if bt (M c 5) v then M (c + 2) v else nI 0) i)), some (.int (nI i))] [] SF M) nv ?_ ?_ 0 (Nat.zero_le _)
  · refine xs_iload eX0_found_4 rfl ?_
    refine xs_aload eX0_found_5 rfl ?_
    refine xs_getR eX0_found_6 (by assumption) (by rfl) ?_
    refine xs_getI eX0_found_9 (by assumption) (by rfl) ?_
    refine xs_eq1 hn ?_
    refine xs_icmp_ge eX0_found_12 (fun h12 => ?_) (fun h => absurd (Int32.le_refl _) h)
    refine xs_iload eX0_found_45 rfl ?_
    exact xs_iretI eX0_found_46 rfl (hQ)
  · intro i hi ih
    refine xs_iload eX0_found_4 rfl ?_
    refine xs_aload eX0_found_5 rfl ?_
    refine xs_getR eX0_found_6 (by assumption) (by rfl) ?_
    refine xs_getI eX0_found_9 (by assumption) (by rfl) ?_
    refine xs_eq1 hn ?_
    refine xs_icmp_ge eX0_found_12 (fun h => absurd h (nI_ge hi (by omega))) (fun h12 => ?_)
    refine xs_iload eX0_found_15 rfl ?_
    refine xs_aload eX0_found_16 rfl ?_
    refine xs_getI eX0_found_17 (by assumption) (by rfl) ?_
    refine xs_iload eX0_found_20 rfl ?_
    refine xs_ishr eX0_found_21 ?_
    refine xs_K eX0_found_22 ?_
    refine xs_iand eX0_found_23 ?_
    refine xs_eq1 (bt_ask _ (by omega)) ?_
    refine xs_ifeqB eX0_found_24 (fun h24 => ?_) (fun h24 => ?_)
    · refine xs_K eX0_found_36 ?_
      refine xs_iadd eX0_found_37 ?_
      refine xs_istore eX0_found_38 (Nat.le_of_ble_eq_true rfl) rfl rfl ?_
      refine xs_inc1 eX0_found_39 rfl rfl rfl ?_
      refine xs_goto eX0_found_42 ?_
      simp only [sumN, h24, reduceIte, Bool.false_eq_true] at ih
      exact ih
    · refine xs_aload eX0_found_27 rfl ?_
      refine xs_getR eX0_found_28 (by assumption) (by rfl) ?_
      refine xs_iload eX0_found_31 rfl ?_
      refine xs_iald eX0_found_32 (by assumption) (by omega) (by decide) ?_
      refine xs_goto eX0_found_33 ?_
      refine xs_iadd eX0_found_37 ?_
      refine xs_istore eX0_found_38 (Nat.le_of_ble_eq_true rfl) rfl rfl ?_
      refine xs_inc1 eX0_found_39 rfl rfl rfl ?_
      refine xs_goto eX0_found_42 ?_
      simp only [sumN, h24, reduceIte, Bool.false_eq_true] at ih
      exact ih
theorem c_X0_allOxen (hc : isBk c) (hn : M 18 5 = nI nv) (h7 : nv ≤ 7) (hQ : Q (some (.int (sumN (M (c + 1)) nv))) SF M) : xC G mX0_allOxen d 0 0 [.ref (G.1 + c)] SF M Q := by
  have h0 := bk0 hc
  have h1 := bk1 hc
  have l0 := sh18
  refine xC_intro [some (.ref (G.1 + c)), none, none] rfl (by decide) (Nat.le_of_ble_eq_true rfl) ?_
  refine xs_K eX0_allOxen_0 ?_
  refine xs_istore eX0_allOxen_1 (Nat.le_of_ble_eq_true rfl) rfl rfl ?_
  refine xs_K eX0_allOxen_2 ?_
  refine xs_istore eX0_allOxen_3 (Nat.le_of_ble_eq_true rfl) rfl rfl ?_
  refine dn (P := fun i => xW G mX0_allOxen d 0 0 Q 4 [some (.ref (G.1 + c)), some (.int (sumN (M (c + 1)) i)), some (.int (nI i))] [] SF M) nv ?_ ?_ 0 (Nat.zero_le _)
  · refine xs_iload eX0_allOxen_4 rfl ?_
    refine xs_aload eX0_allOxen_5 rfl ?_
    refine xs_getR eX0_allOxen_6 (by assumption) (by rfl) ?_
    refine xs_getI eX0_allOxen_9 (by assumption) (by rfl) ?_
    refine xs_eq1 hn ?_
    refine xs_icmp_ge eX0_allOxen_12 (fun h12 => ?_) (fun h => absurd (Int32.le_refl _) h)
    refine xs_iload eX0_allOxen_30 rfl ?_
    exact xs_iretI eX0_allOxen_31 rfl (hQ)
  · intro i hi ih
    refine xs_iload eX0_allOxen_4 rfl ?_
    refine xs_aload eX0_allOxen_5 rfl ?_
    refine xs_getR eX0_allOxen_6 (by assumption) (by rfl) ?_
    refine xs_getI eX0_allOxen_9 (by assumption) (by rfl) ?_
    refine xs_eq1 hn ?_
    refine xs_icmp_ge eX0_allOxen_12 (fun h => absurd h (nI_ge hi (by omega))) (fun h12 => ?_)
    refine xs_iload eX0_allOxen_15 rfl ?_
    refine xs_aload eX0_allOxen_16 rfl ?_
    refine xs_getR eX0_allOxen_17 (by assumption) (by rfl) ?_
    refine xs_iload eX0_allOxen_20 rfl ?_
    refine xs_iald eX0_allOxen_21 (by assumption) (by omega) (by decide) ?_
    refine xs_iadd eX0_allOxen_22 ?_
    refine xs_istore eX0_allOxen_23 (Nat.le_of_ble_eq_true rfl) rfl rfl ?_
    refine xs_inc1 eX0_allOxen_24 rfl rfl rfl ?_
    refine xs_goto eX0_allOxen_27 ?_
    exact ih
theorem c_X0_mostDays (hc : isBk c) (hn : M 18 6 = nI np) (h7 : np ≤ 3) (hQ : Q (some (.int (maxN (M (c + 4)) np))) SF M) : xC G mX0_mostDays (d + 1) 0 0 [.ref (G.1 + c)] SF M Q := by
  have h0 := bk0 hc
  have h4 := bk4 hc
  have l0 := sh18
  refine xC_intro [some (.ref (G.1 + c)), none, none] rfl (by decide) (Nat.le_of_ble_eq_true rfl) ?_
  refine xs_K eX0_mostDays_0 ?_
  refine xs_istore eX0_mostDays_1 (Nat.le_of_ble_eq_true rfl) rfl rfl ?_
  refine xs_K eX0_mostDays_2 ?_
  refine xs_istore eX0_mostDays_3 (Nat.le_of_ble_eq_true rfl) rfl rfl ?_
  refine dn (P := fun i => xW G mX0_mostDays (d + 1) 0 0 Q 4 [some (.ref (G.1 + c)), some (.int (maxN (M (c + 4)) i)), some (.int (nI i))] [] SF M) np ?_ ?_ 0 (Nat.zero_le _)
  · refine xs_iload eX0_mostDays_4 rfl ?_
    refine xs_aload eX0_mostDays_5 rfl ?_
    refine xs_getR eX0_mostDays_6 (by assumption) (by rfl) ?_
    refine xs_getI eX0_mostDays_9 (by assumption) (by rfl) ?_
    refine xs_eq1 hn ?_
    refine xs_icmp_ge eX0_mostDays_12 (fun h12 => ?_) (fun h => absurd (Int32.le_refl _) h)
    refine xs_iload eX0_mostDays_32 rfl ?_
    exact xs_iretI eX0_mostDays_33 rfl (hQ)
  · intro i hi ih
    refine xs_iload eX0_mostDays_4 rfl ?_
    refine xs_aload eX0_mostDays_5 rfl ?_
    refine xs_getR eX0_mostDays_6 (by assumption) (by rfl) ?_
    refine xs_getI eX0_mostDays_9 (by assumption) (by rfl) ?_
    refine xs_eq1 hn ?_
    refine xs_icmp_ge eX0_mostDays_12 (fun h => absurd h (nI_ge hi (by omega))) (fun h12 => ?_)
    refine xs_iload eX0_mostDays_15 rfl ?_
    refine xs_aload eX0_mostDays_16 rfl ?_
    refine xs_getR eX0_mostDays_17 (by assumption) (by rfl) ?_
    refine xs_iload eX0_mostDays_20 rfl ?_
    refine xs_iald eX0_mostDays_21 (by assumption) (by omega) (by decide) ?_
    refine xs_max fX0_mostDays_22 (Nat.le_of_ble_eq_true rfl) ?_
    refine xs_istore eX0_mostDays_25 (Nat.le_of_ble_eq_true rfl) rfl rfl ?_
    refine xs_inc1 eX0_mostDays_26 rfl rfl rfl ?_
    refine xs_goto eX0_mostDays_29 ?_
    exact ih
theorem c_X0_gainOf {y : Int32} (hc : isBk c) (hn : M 18 5 = nI nv) (h7 : nv ≤ 7) (hQ : Q (some (.int (gainF nv y (M (c + 1)) (M (c + 2))))) SF M) : xC G mX0_gainOf d 0 0 [.ref (G.1 + c), .int y] SF M Q := by
  have h0 := bk0 hc
  have h1 := bk1 hc
  have h2 := bk2 hc
  have l0 := sh18
  refine xC_intro [some (.ref (G.1 + c)), some (.int y), none, none] rfl (by decide) (Nat.le_of_ble_eq_true rfl) ?_
  refine xs_K eX0_gainOf_0 ?_
  refine xs_istore eX0_gainOf_1 (Nat.le_of_ble_eq_true rfl) rfl rfl ?_
  refine xs_K eX0_gainOf_2 ?_
  refine xs_istore eX0_gainOf_3 (Nat.le_of_ble_eq_true rfl) rfl rfl ?_
  refine dn (P := fun i => xW G mX0_gainOf d 0 0 Q 4 [some (.ref (G.1 + c)), some (.int y), some (.int (sumN (fun v => if bt y v then M (c + 1) v - M (c + 2) v else nI 0) i)), some (.int (nI i))] [] SF M) nv ?_ ?_ 0 (Nat.zero_le _)
  · refine xs_iload eX0_gainOf_4 rfl ?_
    refine xs_aload eX0_gainOf_5 rfl ?_
    refine xs_getR eX0_gainOf_6 (by assumption) (by rfl) ?_
    refine xs_getI eX0_gainOf_9 (by assumption) (by rfl) ?_
    refine xs_eq1 hn ?_
    refine xs_icmp_ge eX0_gainOf_12 (fun h12 => ?_) (fun h => absurd (Int32.le_refl _) h)
    refine xs_iload eX0_gainOf_49 rfl ?_
    exact xs_iretI eX0_gainOf_50 rfl (hQ)
  · intro i hi ih
    refine xs_iload eX0_gainOf_4 rfl ?_
    refine xs_aload eX0_gainOf_5 rfl ?_
    refine xs_getR eX0_gainOf_6 (by assumption) (by rfl) ?_
    refine xs_getI eX0_gainOf_9 (by assumption) (by rfl) ?_
    refine xs_eq1 hn ?_
    refine xs_icmp_ge eX0_gainOf_12 (fun h => absurd h (nI_ge hi (by omega))) (fun h12 => ?_)
    refine xs_iload eX0_gainOf_15 rfl ?_
    refine xs_iload eX0_gainOf_16 rfl ?_
    refine xs_iload eX0_gainOf_17 rfl ?_
    refine xs_ishr eX0_gainOf_18 ?_
    refine xs_K eX0_gainOf_19 ?_
    refine xs_iand eX0_gainOf_20 ?_
    refine xs_eq1 (bt_ask _ (by omega)) ?_
    refine xs_ifeqB eX0_gainOf_21 (fun h21 => ?_) (fun h21 => ?_)
    · refine xs_K eX0_gainOf_40 ?_
      refine xs_iadd eX0_gainOf_41 ?_
      refine xs_istore eX0_gainOf_42 (Nat.le_of_ble_eq_true rfl) rfl rfl ?_
      refine xs_inc1 eX0_gainOf_43 rfl rfl rfl ?_
      refine xs_goto eX0_gainOf_46 ?_
      simp only [sumN, h21, reduceIte, Bool.false_eq_true] at ih
      exact ih
    · refine xs_aload eX0_gainOf_24 rfl ?_
      refine xs_getR eX0_gainOf_25 (by assumption) (by rfl) ?_
      refine xs_iload eX0_gainOf_28 rfl ?_
      refine xs_iald eX0_gainOf_29 (by assumption) (by omega) (by decide) ?_
      refine xs_aload eX0_gainOf_30 rfl ?_
      refine xs_getR eX0_gainOf_31 (by assumption) (by rfl) ?_
      refine xs_iload eX0_gainOf_34 rfl ?_
      refine xs_iald eX0_gainOf_35 (by assumption) (by omega) (by decide) ?_
      refine xs_isub eX0_gainOf_36 ?_
      refine xs_goto eX0_gainOf_37 ?_
      refine xs_iadd eX0_gainOf_41 ?_
      refine xs_istore eX0_gainOf_42 (Nat.le_of_ble_eq_true rfl) rfl rfl ?_
      refine xs_inc1 eX0_gainOf_43 rfl rfl rfl ?_
      refine xs_goto eX0_gainOf_46 ?_
      simp only [sumN, h21, reduceIte, Bool.false_eq_true] at ih
      exact ih
end BK

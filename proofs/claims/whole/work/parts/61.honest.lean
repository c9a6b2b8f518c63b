/-! HONEST, as numbers: the land with a set turned honest, weights, sums over sets, the greatest common divisor -/
def hoL (l : aLd) (t : Nat) : aLd := (l.1, l.2.1, (fun v => if t.testBit v then 0 else l.2.2.1 v), l.2.2.2.1, l.2.2.2.2.1 ||| t, l.2.2.2.2.2)
theorem okL_ho {l : aLd} {t : Nat} (hl : okL l) (ht : t < 128) : okL (hoL l t) := by
  obtain ⟨h1, h2, h3, h4, ⟨h5, h6⟩, h8⟩ := hl
  refine ⟨h1, h2, fun v hv => ?_, h4, ⟨Nat.or_lt_two_pow (n := 7) h5 ht, fun v hv => ?_⟩, h8⟩
  · show (if t.testBit v then 0 else l.2.2.1 v) < 5
    split
    · decide
    · exact h3 v hv
  · show (l.2.2.2.2.1 ||| t).testBit v = decide ((if t.testBit v then 0 else l.2.2.1 v) = 0)
    rw [Nat.testBit_or, h6 v hv]
    cases t.testBit v <;> simp
def hoB (l : aLd) (b : aBk) (t : Nat) : aBk := runB (hoL l t) b (bitsL (restN l.1 b.1))
def wtH (x r t : Nat) : Nat := x ^ pc7 t * (10 - x) ^ (pc7 r - pc7 t)
def upH (l : aLd) (b : aBk) (n x r : Nat) (T : Nat) : Nat := sumA (fun t => if decide (t &&& r = t) then (if n ≤ foundB l.1 (hoB l b t) then wtH x r t else 0) else 0) T
def spHon (w : aX) (y1 y2 y3 : Int32) : Int32 :=
  if wiB y1 (nI 0) (nI 500) && wiB y2 (nI 0) (nI 10) && wiB y3 (nI 0) (nI 1) then
    (let r := restN w.2.1.1 w.2.2.1.1
     let u := upH w.2.1 w.2.2.1 y1.toNatClampNeg y2.toNatClampNeg r 128
     if y3 = nI 0 then nI (u / Nat.gcd u (10 ^ pc7 r)) else nI (10 ^ pc7 r / Nat.gcd u (10 ^ pc7 r))) else (-1)
def wtF (a o x : Nat) : Nat → Nat
  | 0 => 1
  | v + 1 => if a.testBit v then wtF a o x v * x else if o.testBit v then wtF a o x v * (10 - x) else wtF a o x v
def cnN (a o : Nat) : Nat → Nat
  | 0 => 0
  | v + 1 => if a.testBit v then cnN a o v else if o.testBit v then cnN a o v + 1 else cnN a o v
theorem wtF_eq {a o x : Nat} : ∀ n, wtF a o x n = x ^ pcA a n * (10 - x) ^ cnN a o n
  | 0 => rfl
  | n + 1 => by
    rw [wtF, cnN, pcA, wtF_eq n]
    split
    · rw [Nat.pow_succ]
      simp only [Nat.mul_assoc, Nat.mul_comm, Nat.mul_left_comm]
    · split
      · rw [Nat.pow_succ, Nat.add_zero]
        simp only [Nat.mul_assoc]
      · rfl
def dfN (r t : Nat) : Nat := r &&& (127 ^^^ t)
theorem df_nI : ∀ r, r < 128 → ∀ t, t < 128 → nI r &&& (nI t ^^^ (-1)) = nI (dfN r t) := by decide +kernel
theorem cn_df : ∀ r, r < 128 → ∀ t, t < 128 → t &&& r = t → cnN t (dfN r t) 7 = pc7 r - pc7 t := by decide +kernel
theorem cn_all : ∀ m, m < 8 → ∀ s, s < 2 ^ m → cnN s 127 m = m - pc7 s := by decide +kernel
theorem wt_df {r t x : Nat} (hr : r < 128) (ht : t < 128) (h : t &&& r = t) : wtF t (dfN r t) x 7 = wtH x r t := by
  rw [wtF_eq, cn_df r hr t ht h, pcA_r 7 (by decide) t ht]
  rfl
theorem wt_10 : ∀ r, r < 128 → wtF r 0 10 7 = 10 ^ pc7 r := by decide +kernel
/-- the set of the rest that a set of places tells -/
def pdR (r s : Nat) : Nat → Nat × Nat
  | 0 => (0, 0)
  | v + 1 => if r.testBit v then (if s.testBit (pdR r s v).2 then sbt (pdR r s v).1 v else (pdR r s v).1, (pdR r s v).2 + 1) else pdR r s v
def pdN (r s : Nat) : Nat := (pdR r s 7).1
theorem pd_list : ∀ r, r < 128 → (List.range 128).filter (fun t => decide (t &&& r = t)) = (List.range (2 ^ pc7 r)).map (pdN r) := by decide +kernel
theorem pd_pc : ∀ r, r < 128 → ∀ s, s < 2 ^ pc7 r → pc7 (pdN r s) = pc7 s ∧ pdN r s < 128 ∧ pdN r s &&& r = pdN r s := by decide +kernel
theorem pd_bit : ∀ r, r < 128 → ∀ s, s < 2 ^ pc7 r → ∀ k, k < pc7 r → (pdN r s).testBit ((bitsL r).getD k 0) = s.testBit k := by decide +kernel
theorem bits_inj : ∀ r, r < 128 → ∀ k, k < pc7 r → ∀ j, j < k → (bitsL r).getD j 0 ≠ (bitsL r).getD k 0 := by decide +kernel
theorem sumA_f {p : Nat → Bool} {g : Nat → Nat} : ∀ n, sumA (fun t => if p t then g t else 0) n = ((List.range n).filter p).foldl (fun a t => a + g t) 0
  | 0 => rfl
  | n + 1 => by
    rw [sumA, sumA_f n, List.range_succ, List.filter_append, List.foldl_append]
    by_cases h : p n = true
    · rw [if_pos h, List.filter_cons_of_pos h]
      rfl
    · rw [if_neg h, List.filter_cons_of_neg h]
      rfl
theorem sumA_r {g : Nat → Nat} : ∀ n, (List.range n).foldl (fun a t => a + g t) 0 = sumA g n
  | 0 => rfl
  | n + 1 => by
    rw [sumA, ← sumA_r n, List.range_succ, List.foldl_append]
    rfl
theorem sum_pd {r : Nat} {g : Nat → Nat} (hr : r < 128) : sumA (fun t => if decide (t &&& r = t) then g t else 0) 128 = sumA (fun s => g (pdN r s)) (2 ^ pc7 r) := by
  rw [sumA_f (p := fun t => decide (t &&& r = t)), pd_list r hr, List.foldl_map]
  exact sumA_r (g := fun s => g (pdN r s)) _
theorem sumA_congr {f g : Nat → Nat} : ∀ {n : Nat}, (∀ s, s < n → f s = g s) → sumA f n = sumA g n
  | 0, _ => rfl
  | n + 1, h => by rw [sumA, sumA, sumA_congr (fun s hs => h s (by omega)), h n (by omega)]
theorem sumA_mono {f g : Nat → Nat} : ∀ {n : Nat}, (∀ s, s < n → f s ≤ g s) → sumA f n ≤ sumA g n
  | 0, _ => Nat.le_refl _
  | n + 1, h => by
    rw [sumA, sumA]
    have h1 := sumA_mono (n := n) (fun s hs => h s (by omega))
    have h2 := h n (by omega)
    omega
theorem bin_10 : ∀ m, m < 8 → ∀ x, x < 11 → sumA (fun s => x ^ pc7 s * (10 - x) ^ (m - pc7 s)) (2 ^ m) = 10 ^ m := by decide +kernel
theorem upH_pd {l : aLd} {b : aBk} {n x r : Nat} (hr : r < 128) : upH l b n x r 128 = sumA (fun s => if n ≤ foundB l.1 (hoB l b (pdN r s)) then x ^ pc7 s * (10 - x) ^ (pc7 r - pc7 s) else 0) (2 ^ pc7 r) := by
  unfold upH
  rw [sum_pd hr]
  refine sumA_congr (fun s hs => ?_)
  simp only [wtH, (pd_pc r hr s hs).1]
theorem ten7 : ∀ m, m < 8 → 10 ^ m ≤ 10000000 ∧ 0 < 10 ^ m := by decide
theorem upH_le {l : aLd} {b : aBk} {n x r : Nat} (hr : r < 128) (hx : x < 11) : upH l b n x r 128 ≤ 10000000 := by
  have hp := pc7_le r hr
  rw [upH_pd hr]
  refine Nat.le_trans (sumA_mono (g := fun s => x ^ pc7 s * (10 - x) ^ (pc7 r - pc7 s)) (fun s hs => ?_)) (Nat.le_trans (Nat.le_of_eq (bin_10 (pc7 r) (by omega) x hx)) (ten7 _ (by omega)).1)
  split
  · exact Nat.le_refl _
  · exact Nat.zero_le _
def stG : Nat → Nat → Nat → Bool
  | 0, _, b => decide (b = 0)
  | k + 1, a, b => decide (b = 0) || stG k b (a % b)
theorem stG_ok : ∀ (k a b : Nat), b < 2 ^ k → stG (2 * k) a b = true
  | 0, a, b, h => by
    have : b = 0 := by simpa using h
    simp [stG, this]
  | k + 1, a, b, h => by
    rw [show 2 * (k + 1) = 2 * k + 1 + 1 by omega, stG, stG]
    by_cases e : b = 0
    · simp [e]
    · by_cases e2 : a % b = 0
      · simp [e2]
      · have h1 := Nat.mod_lt a (show 0 < b by omega)
        have h2 := Nat.mod_lt b (show 0 < a % b by omega)
        have h3 : a % b + b % (a % b) ≤ b := by
          have h4 := Nat.div_add_mod b (a % b)
          have h5 : 0 < b / (a % b) := Nat.div_pos (by omega) (by omega)
          have h6 : a % b ≤ a % b * (b / (a % b)) := Nat.le_mul_of_pos_right _ h5
          omega
        rw [Nat.pow_succ] at h
        rw [stG_ok k _ _ (show b % (a % b) < 2 ^ k by omega)]
        simp
theorem gcd_st {a b : Nat} : Nat.gcd b (a % b) = Nat.gcd a b := by rw [Nat.gcd_comm b (a % b), ← Nat.gcd_rec, Nat.gcd_comm]
theorem nx_or (a b : Nat) : nI a ||| nI b = nI (a ||| b) := by
  apply Int32.toBitVec_inj.1
  show BitVec.ofNat 32 a ||| BitVec.ofNat 32 b = BitVec.ofNat 32 (a ||| b)
  apply BitVec.eq_of_getLsbD_eq
  intro i hi
  simp [hi]

/-! THE STATE as numbers: a book, a land; what the class's table holds of them -/
abbrev aBk : Type := Nat × Nat × (Nat → Nat) × (Nat → Nat) × (Nat → Nat) × (Nat → Nat)
/-- villages, parties, kinds, neighbours (bits), honest ones (bits), how far (1000000: no way) -/
abbrev aLd : Type := Nat × Nat × (Nat → Nat) × (Nat → Nat) × Nat × (Nat → Nat → Nat)
def sbt (a v : Nat) : Nat := a ||| (1 <<< v)
def cbt (a v : Nat) : Nat := a &&& (127 ^^^ (1 <<< v))
theorem bon_nI : ∀ a, a < 128 → ∀ v, v < 7 → bon (nI a) v = nI (sbt a v) ∧ sbt a v < 128 := by decide +kernel
theorem boff_nI : ∀ a, a < 128 → ∀ v, v < 7 → boff (nI a) v = nI (cbt a v) ∧ cbt a v < 128 := by decide +kernel
theorem sbt_lt : ∀ n, n < 8 → ∀ a, a < 2 ^ n → ∀ v, v < n → sbt a v < 2 ^ n := by decide +kernel
theorem cbt_lt : ∀ n, n < 8 → ∀ a, a < 2 ^ n → ∀ v, v < n → cbt a v < 2 ^ n := by decide +kernel
theorem sbt_bit : ∀ a, a < 128 → ∀ v, v < 7 → ∀ i, i < 8 → (sbt a v).testBit i = (a.testBit i || decide (i = v)) := by decide +kernel
theorem cbt_bit : ∀ a, a < 128 → ∀ v, v < 7 → ∀ i, i < 8 → (cbt a v).testBit i = (a.testBit i && !decide (i = v)) := by decide +kernel
def lowA (a : Nat) : Nat := lowF a.testBit 7 0
theorem lowF_congr {p q : Nat → Bool} : ∀ {f i : Nat}, (∀ j, i ≤ j → j < i + f → p j = q j) → lowF p f i = lowF q f i
  | 0, _, _ => rfl
  | f + 1, i, h => by
    simp only [lowF]
    rw [h i (Nat.le_refl _) (by omega), lowF_congr (f := f) (i := i + 1) (fun j h1 h2 => h j (by omega) (by omega))]
theorem lowN_nI {a : Nat} : lowN (nI a) = lowA a := lowF_congr (fun j _ h => bt_nI (by omega))
theorem lowA_lt : ∀ a, a < 128 → a ≠ 0 → lowA a < 7 := by decide +kernel
theorem lowA_bit : ∀ a, a < 128 → a ≠ 0 → a.testBit (lowA a) = true := by decide +kernel
theorem and_lt {a b n : Nat} (h : a < 2 ^ n) : a &&& b < 2 ^ n := Nat.lt_of_le_of_lt Nat.and_le_left h
theorem nI_and0 {a b : Nat} (ha : a < 128) : (nI a &&& nI b = 0) ↔ a &&& b = 0 := by
  rw [nx_and, ← nI_0]
  exact nI_eq (by have := and_lt (n := 7) (b := b) ha; omega) (by decide)
/-- what one would swear to -/
def swN (near : Nat → Nat) (hon : Nat) (b : aBk) (v kd : Nat) : Nat :=
  if kd = 1 then (if near v &&& b.1 &&& hon = 0 then b.2.2.1 v / 2 else b.2.2.1 v) else if kd = 2 then (if near v &&& b.1 &&& hon = 0 then 0 else b.2.2.1 v)
  else if kd = 3 then (if near v &&& b.1 = 0 then b.2.2.1 v else b.2.2.2.1 (lowA (near v &&& b.1))) else if kd = 4 then (if near v &&& b.1 = 0 then b.2.2.1 v else 0) else b.2.2.1 v
def swearB (near : Nat → Nat) (hon : Nat) (b : aBk) (v kd : Nat) : aBk :=
  (sbt b.1 v, b.2.1, (if kd = 4 ∧ near v &&& b.1 ≠ 0 then va_up (va_up b.2.2.1 (lowA (near v &&& b.1)) (b.2.2.1 (lowA (near v &&& b.1)) + b.2.2.1 v)) v 0 else b.2.2.1), va_up b.2.2.2.1 v (swN near hon b v kd), b.2.2.2.2.1, b.2.2.2.2.2)
def checkB (b : aBk) (v : Nat) : aBk := (b.1, sbt b.2.1 v, b.2.2.1, va_up b.2.2.2.1 v (b.2.2.1 v), b.2.2.2.2)
def strikeB (b : aBk) (v : Nat) : aBk := (cbt b.1 v, cbt b.2.1 v, b.2.2)
def goB (l : aLd) (b : aBk) (p v : Nat) : aBk := (b.1, b.2.1, b.2.2.1, b.2.2.2.1, va_up b.2.2.2.2.1 p v, va_up b.2.2.2.2.2 p (b.2.2.2.2.2 p + (l.2.2.2.2.2 (b.2.2.2.2.1 p) v + 1)))
def askB (l : aLd) (b : aBk) (p v : Nat) : aBk := swearB l.2.2.2.1 l.2.2.2.2.1 (goB l b p v) v (l.2.2.1 v)
def sumA (f : Nat → Nat) : Nat → Nat
  | 0 => 0
  | n + 1 => sumA f n + f n
def maxA (f : Nat → Nat) : Nat → Nat
  | 0 => 0
  | n + 1 => if maxA f n < f n then f n else maxA f n
def foundB (nv : Nat) (b : aBk) : Nat := sumA (fun v => if b.1.testBit v then b.2.2.2.1 v else 0) nv
/-- a book is as it can be: dy days at most -/
def okB (nv dy : Nat) (b : aBk) : Prop := b.1 < 2 ^ nv ∧ b.2.1 < 2 ^ nv ∧ sumA b.2.2.1 7 ≤ 420 ∧ (∀ v, v < 7 → b.2.2.2.1 v ≤ 420) ∧ (∀ p, p < 3 → b.2.2.2.2.1 p < nv ∧ b.2.2.2.2.2 p ≤ dy)
def okL (l : aLd) : Prop := (1 ≤ l.1 ∧ l.1 ≤ 7) ∧ (1 ≤ l.2.1 ∧ l.2.1 ≤ 3) ∧ (∀ v, v < 7 → l.2.2.1 v < 5) ∧ (∀ v, v < 7 → l.2.2.2.1 v < 2 ^ l.1) ∧ (l.2.2.2.2.1 < 128 ∧ ∀ v, v < l.1 → l.2.2.2.2.1.testBit v = decide (l.2.2.1 v = 0)) ∧ ∀ a b, a < l.1 → b < l.1 → l.2.2.2.2.2 a b ≤ 120 ∨ l.2.2.2.2.2 a b = 1000000
/-- the class's table holds a book at c, the land -/
def rB (M : xMem) (c : Nat) (b : aBk) : Prop := M c 5 = nI b.1 ∧ M c 6 = nI b.2.1 ∧ (∀ v, v < 7 → M (c + 1) v = nI (b.2.2.1 v) ∧ M (c + 2) v = nI (b.2.2.2.1 v)) ∧ ∀ p, p < 3 → M (c + 3) p = nI (b.2.2.2.2.1 p) ∧ M (c + 4) p = nI (b.2.2.2.2.2 p)
def rL (M : xMem) (l : aLd) : Prop := M 18 5 = nI l.1 ∧ M 18 6 = nI l.2.1 ∧ M 18 7 = nI l.2.2.2.2.1 ∧ (∀ v, v < 7 → M 19 v = nI (l.2.2.1 v) ∧ M 22 v = nI (l.2.2.2.1 v)) ∧ ∀ a b, a < 7 → b < 7 → M (24 + a) b = nI (l.2.2.2.2.2 a b)
theorem sumA_le {f : Nat → Nat} : ∀ {n v : Nat}, v < n → f v ≤ sumA f n
  | 0, v, h => by omega
  | n + 1, v, h => by
    simp only [sumA]
    by_cases e : v = n
    · subst e; omega
    · have := sumA_le (f := f) (n := n) (v := v) (by omega)
      omega
theorem okB_ox {nv dy : Nat} {b : aBk} (h : okB nv dy b) {v : Nat} (hv : v < 7) : b.2.2.1 v ≤ 420 := Nat.le_trans (sumA_le hv) h.2.2.1
theorem pow7 {n : Nat} (h : n ≤ 7) : 2 ^ n ≤ 128 := Nat.pow_le_pow_right (n := 2) (by decide) h
theorem rB_keep {M M1 : xMem} {c : Nat} {b : aBk} (h : rB M c b) (hk : ∀ a, c ≤ a → a ≤ c + 4 → M1 a = M a) : rB M1 c b := by
  obtain ⟨h1, h2, h3, h4⟩ := h
  refine ⟨by rw [hk c (by omega) (by omega)]; exact h1, by rw [hk c (by omega) (by omega)]; exact h2, fun v hv => ?_, fun p hp => ?_⟩
  · rw [hk (c + 1) (by omega) (by omega), hk (c + 2) (by omega) (by omega)]; exact h3 v hv
  · rw [hk (c + 3) (by omega) (by omega), hk (c + 4) (by omega) (by omega)]; exact h4 p hp
theorem rL_keep {M M1 : xMem} {l : aLd} (h : rL M l) (hk : ∀ a, 18 ≤ a → a ≤ 30 → M1 a = M a) : rL M1 l := by
  obtain ⟨h1, h2, h3, h4, h5⟩ := h
  refine ⟨by rw [hk 18 (by omega) (by omega)]; exact h1, by rw [hk 18 (by omega) (by omega)]; exact h2, by rw [hk 18 (by omega) (by omega)]; exact h3, fun v hv => ?_, fun a b ha hb => ?_⟩
  · rw [hk 19 (by omega) (by omega), hk 22 (by omega) (by omega)]; exact h4 v hv
  · rw [hk (24 + a) (by omega) (by omega)]; exact h5 a b ha hb
theorem sw_nI {near : Nat → Nat} {hon : Nat} {b : aBk} {v kd : Nat} {ox wr : Nat → Int32} (hv : v < 7) (hn : near v < 128) (hox : ∀ v, v < 7 → ox v = nI (b.2.2.1 v)) (hwr : ∀ v, v < 7 → wr v = nI (b.2.2.2.1 v)) (hb : b.2.2.1 v < 2 ^ 31) : swornP (nI (near v) &&& nI b.1) (nI hon) ox wr v kd = nI (swN near hon b v kd) := by
  have ha : near v &&& b.1 < 128 := and_lt (n := 7) hn
  unfold swornP swN
  rw [nx_and]
  have e1 : (nI (near v &&& b.1) = 0) = (near v &&& b.1 = 0) := propext (by rw [← nI_0]; exact nI_eq (by omega) (by decide))
  have e2 : (nI (near v &&& b.1) &&& nI hon = 0) = (near v &&& b.1 &&& hon = 0) := propext (nI_and0 ha)
  simp only [e1, e2, lowN_nI]
  by_cases k1 : kd = 1
  · rw [if_pos k1, if_pos k1]
    split
    · rw [hox v hv]; exact pk_div hb (by decide) (by decide)
    · exact hox v hv
  · rw [if_neg k1, if_neg k1]
    by_cases k2 : kd = 2
    · rw [if_pos k2, if_pos k2]
      split
      · rfl
      · exact hox v hv
    · rw [if_neg k2, if_neg k2]
      by_cases k3 : kd = 3
      · rw [if_pos k3, if_pos k3]
        split
        · exact hox v hv
        · exact hwr _ (lowA_lt _ ha (by assumption))
      · rw [if_neg k3, if_neg k3]
        by_cases k4 : kd = 4
        · rw [if_pos k4, if_pos k4]
          split
          · exact hox v hv
          · rfl
        · rw [if_neg k4, if_neg k4]
          exact hox v hv

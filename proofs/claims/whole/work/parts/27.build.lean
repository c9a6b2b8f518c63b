/-! A LAND out of items -/
/-- villages, parties, kinds, oxen, where parties begin, neighbours, honest ones, ways -/
abbrev aT : Type := Nat × Nat × (Nat → Nat) × (Nat → Nat) × (Nat → Nat) × (Nat → Nat) × Nat × (Nat → Nat → Nat)
def t0A : aT := (0, 0, fun _ => 0, fun _ => 0, fun _ => 0, fun _ => 0, 0, fun _ _ => 0)
def up2N (W : Nat → Nat → Nat) (a b y : Nat) : Nat → Nat → Nat := fun i j => if i = a ∧ j = b then y else W i j
def itemT (T : aT) (it : Nat × List Nat) : aT :=
  if it.1 = 118 then (T.1 + 1, T.2.1, va_up T.2.2.1 T.1 (it.2.getD 0 0), va_up T.2.2.2.1 T.1 (it.2.getD 1 0), T.2.2.2.2.1, T.2.2.2.2.2.1, (if it.2.getD 0 0 = 0 then sbt T.2.2.2.2.2.2.1 T.1 else T.2.2.2.2.2.2.1), T.2.2.2.2.2.2.2)
  else if it.1 = 119 then (T.1, T.2.1, T.2.2.1, T.2.2.2.1, T.2.2.2.2.1, va_up (va_up T.2.2.2.2.2.1 (it.2.getD 0 0) (sbt (T.2.2.2.2.2.1 (it.2.getD 0 0)) (it.2.getD 1 0))) (it.2.getD 1 0) (sbt (va_up T.2.2.2.2.2.1 (it.2.getD 0 0) (sbt (T.2.2.2.2.2.1 (it.2.getD 0 0)) (it.2.getD 1 0)) (it.2.getD 1 0)) (it.2.getD 0 0)), T.2.2.2.2.2.2.1, up2N (up2N T.2.2.2.2.2.2.2 (it.2.getD 0 0) (it.2.getD 1 0) (it.2.getD 2 0)) (it.2.getD 1 0) (it.2.getD 0 0) (it.2.getD 2 0))
  else (T.1, T.2.1 + 1, T.2.2.1, T.2.2.2.1, va_up T.2.2.2.2.1 T.2.1 (it.2.getD 0 0), T.2.2.2.2.2)
def buildT : List (Nat × List Nat) → aT → aT
  | [], T => T
  | it :: r, T => buildT r (itemT T it)
/-- an item that can be: of the villages and parties told so far -/
def okI (T : aT) (it : Nat × List Nat) : Prop := (∃ k o, it = (118, [k, o]) ∧ T.1 < 7 ∧ k < 5 ∧ o < 61) ∨ (∃ a b y, it = (119, [a, b, y]) ∧ a < T.1 ∧ b < T.1 ∧ a ≠ b ∧ 1 ≤ y ∧ y ≤ 20) ∨ (∃ v, it = (112, [v]) ∧ T.2.1 < 3 ∧ v < T.1)
/-- a land as far as it is told: below 2^nv the bits; ways of two in both rows -/
def okT (T : aT) : Prop := T.1 ≤ 7 ∧ T.2.1 ≤ 3 ∧ (∀ v, T.2.2.1 v < 5) ∧ (∀ v, T.2.2.2.1 v ≤ 60) ∧ (∀ p, T.2.2.2.2.1 p = 0 ∨ T.2.2.2.2.1 p < T.1) ∧ (∀ v, T.2.2.2.2.2.1 v < 2 ^ T.1) ∧ (T.2.2.2.2.2.2.1 < 2 ^ T.1 ∧ ∀ v, v < T.1 → T.2.2.2.2.2.2.1.testBit v = decide (T.2.2.1 v = 0)) ∧ (∀ a b, T.2.2.2.2.2.2.2 a b ≤ 20 ∧ (0 < T.2.2.2.2.2.2.2 a b ↔ (T.2.2.2.2.2.1 a).testBit b = true) ∧ T.2.2.2.2.2.2.2 a b = T.2.2.2.2.2.2.2 b a ∧ (0 < T.2.2.2.2.2.2.2 a b → a < T.1 ∧ b < T.1 ∧ a ≠ b))
theorem pw_mono {a b : Nat} (h : a ≤ b) : 2 ^ a ≤ 2 ^ b := Nat.pow_le_pow_right (by decide) h
theorem tb_hi {a n i : Nat} (h : a < 2 ^ n) (hi : n ≤ i) : a.testBit i = false := Nat.testBit_lt_two_pow (Nat.lt_of_lt_of_le h (pw_mono hi))
theorem okT_0 : okT t0A := by
  refine ⟨by decide, by decide, fun _ => by show 0 < 5; decide, fun _ => by show 0 ≤ 60; decide, fun _ => Or.inl rfl, fun _ => by show 0 < 2 ^ 0; decide, ⟨by decide, fun v h => absurd h (by show ¬ v < 0; omega)⟩, fun a b => ⟨by show 0 ≤ 20; decide, ?_, rfl, fun h => absurd h (by show ¬ 0 < 0; omega)⟩⟩
  show 0 < 0 ↔ (0 : Nat).testBit b = true
  simp
theorem sbt_bit' {a v i n : Nat} (hn : n ≤ 7) (ha : a < 2 ^ n) (hv : v < 7) : (sbt a v).testBit i = (a.testBit i || decide (i = v)) := by
  have h128 : a < 128 := Nat.lt_of_lt_of_le ha (pow7 hn)
  rcases Nat.lt_or_ge i 8 with h | h
  · exact sbt_bit a h128 v hv i h
  · rw [tb_hi (n := 7) (bon_nI a h128 v hv).2 (by omega), tb_hi (n := 7) h128 (by omega), decide_eq_false (by omega)]
    rfl
theorem up2N_two {W : Nat → Nat → Nat} {a b y i j : Nat} (hab : a ≠ b) : up2N (up2N W a b y) b a y i j = if (i = a ∧ j = b) ∨ (i = b ∧ j = a) then y else W i j := by
  simp only [up2N]
  by_cases h1 : i = b ∧ j = a
  · rw [if_pos h1, if_pos (Or.inr h1)]
  · rw [if_neg h1]
    by_cases h2 : i = a ∧ j = b
    · rw [if_pos h2, if_pos (Or.inl h2)]
    · rw [if_neg h2, if_neg (fun h => h.elim h2 h1)]
theorem near_two {nr : Nat → Nat} {a b i j n : Nat} (hn : n ≤ 7) (h6 : ∀ v, nr v < 2 ^ n) (ha : a < 7) (hb : b < 7) (hab : a ≠ b) : (va_up (va_up nr a (sbt (nr a) b)) b (sbt (va_up nr a (sbt (nr a) b) b) a) i).testBit j = ((nr i).testBit j || decide ((i = a ∧ j = b) ∨ (i = b ∧ j = a))) := by
  have e0 : va_up nr a (sbt (nr a) b) b = nr b := by simp [va_up, Ne.symm hab]
  rw [e0]
  by_cases h1 : i = b
  · have e1 : va_up (va_up nr a (sbt (nr a) b)) b (sbt (nr b) a) i = sbt (nr b) a := by simp [va_up, h1]
    rw [e1, sbt_bit' hn (h6 b) ha, h1]
    congr 1
    exact decide_eq_decide.mpr (by omega)
  · by_cases h2 : i = a
    · have e1 : va_up (va_up nr a (sbt (nr a) b)) b (sbt (nr b) a) i = sbt (nr a) b := by simp [va_up, h2, hab]
      rw [e1, sbt_bit' hn (h6 a) hb, h2]
      congr 1
      exact decide_eq_decide.mpr (by omega)
    · have e1 : va_up (va_up nr a (sbt (nr a) b)) b (sbt (nr b) a) i = nr i := by simp [va_up, h1, h2]
      rw [e1, decide_eq_false (by omega), Bool.or_false]
theorem okT_item {T : aT} {it : Nat × List Nat} (h : okT T) (hi : okI T it) : okT (itemT T it) ∧ (itemT T it).1 = itV T.1 it ∧ (itemT T it).2.1 = itP T.2.1 it := by
  obtain ⟨h1, h2, h3, h4, h5, h6, ⟨h7, h7b⟩, h8⟩ := h
  rcases hi with ⟨k, o, rfl, q1, q2, q3⟩ | ⟨a, b, y, rfl, q1, q2, q3, q4, q5⟩ | ⟨v, rfl, q1, q2⟩
  · refine ⟨?_, rfl, rfl⟩
    have m : 2 ^ T.1 ≤ 2 ^ (T.1 + 1) := pw_mono (by omega)
    refine ⟨by show T.1 + 1 ≤ 7; omega, h2, fun v => ?_, fun v => ?_, fun p => ?_, fun v => Nat.lt_of_lt_of_le (h6 v) m, ⟨?_, fun v hv => ?_⟩, fun a b => ⟨(h8 a b).1, (h8 a b).2.1, (h8 a b).2.2.1, fun h => ?_⟩⟩
    · show va_up T.2.2.1 T.1 k v < 5
      simp only [va_up]; split
      · exact q2
      · exact h3 v
    · show va_up T.2.2.2.1 T.1 o v ≤ 60
      simp only [va_up]; split
      · omega
      · exact h4 v
    · show T.2.2.2.2.1 p = 0 ∨ T.2.2.2.2.1 p < T.1 + 1
      rcases h5 p with h | h
      · exact Or.inl h
      · exact Or.inr (by omega)
    · show (if k = 0 then sbt T.2.2.2.2.2.2.1 T.1 else T.2.2.2.2.2.2.1) < 2 ^ (T.1 + 1)
      split
      · exact sbt_lt (T.1 + 1) (by omega) _ (by omega) T.1 (by omega)
      · omega
    · show (if k = 0 then sbt T.2.2.2.2.2.2.1 T.1 else T.2.2.2.2.2.2.1).testBit v = decide (va_up T.2.2.1 T.1 k v = 0)
      have hv : v < T.1 + 1 := hv
      by_cases e : v = T.1
      · have e9 : va_up T.2.2.1 T.1 k v = k := by simp [va_up, e]
        rw [e9]
        split
        · next hk => rw [sbt_bit' h1 h7 (by omega), e, hk]; simp
        · next hk => rw [e, tb_hi h7 (Nat.le_refl _), decide_eq_false hk]
      · have e9 : va_up T.2.2.1 T.1 k v = T.2.2.1 v := by simp [va_up, e]
        rw [e9, ← h7b v (by omega)]
        split
        · rw [sbt_bit' h1 h7 (by omega), decide_eq_false e, Bool.or_false]
        · rfl
    · have := (h8 a b).2.2.2 h
      exact ⟨by show a < T.1 + 1; omega, by show b < T.1 + 1; omega, this.2.2⟩
  · refine ⟨⟨h1, h2, h3, h4, h5, fun v => ?_, ⟨h7, h7b⟩, fun i j => ?_⟩, rfl, rfl⟩
    · show va_up (va_up T.2.2.2.2.2.1 a (sbt (T.2.2.2.2.2.1 a) b)) b (sbt (va_up T.2.2.2.2.2.1 a (sbt (T.2.2.2.2.2.1 a) b) b) a) v < 2 ^ T.1
      simp only [va_up]
      rw [if_neg (c := b = a) (fun e => q3 e.symm)]
      split
      · exact sbt_lt T.1 (by omega) _ (h6 b) a q1
      · split
        · exact sbt_lt T.1 (by omega) _ (h6 a) b q2
        · exact h6 v
    · show up2N (up2N T.2.2.2.2.2.2.2 a b y) b a y i j ≤ 20 ∧ (0 < up2N (up2N T.2.2.2.2.2.2.2 a b y) b a y i j ↔ (va_up (va_up T.2.2.2.2.2.1 a (sbt (T.2.2.2.2.2.1 a) b)) b (sbt (va_up T.2.2.2.2.2.1 a (sbt (T.2.2.2.2.2.1 a) b) b) a) i).testBit j = true) ∧ up2N (up2N T.2.2.2.2.2.2.2 a b y) b a y i j = up2N (up2N T.2.2.2.2.2.2.2 a b y) b a y j i ∧ (0 < up2N (up2N T.2.2.2.2.2.2.2 a b y) b a y i j → i < T.1 ∧ j < T.1 ∧ i ≠ j)
      have g := h8 i j
      rw [up2N_two q3, up2N_two q3, near_two h1 h6 (by omega) (by omega) q3]
      by_cases e : (i = a ∧ j = b) ∨ (i = b ∧ j = a)
      · have e' : (j = a ∧ i = b) ∨ (j = b ∧ i = a) := by omega
        rw [if_pos e, if_pos e', decide_eq_true e, Bool.or_true]
        exact ⟨q5, by simp; omega, rfl, fun _ => by omega⟩
      · have e' : ¬ ((j = a ∧ i = b) ∨ (j = b ∧ i = a)) := by omega
        rw [if_neg e, if_neg e', decide_eq_false e, Bool.or_false]
        exact g
  · refine ⟨⟨h1, by show T.2.1 + 1 ≤ 3; omega, h3, h4, fun p => ?_, h6, ⟨h7, h7b⟩, h8⟩, rfl, rfl⟩
    show va_up T.2.2.2.2.1 T.2.1 v p = 0 ∨ va_up T.2.2.2.2.1 T.2.1 v p < T.1
    simp only [va_up]
    split
    · exact Or.inr q2
    · exact h5 p
/-- the items of a text: all can be, one behind the other -/
def okIs : List (Nat × List Nat) → aT → Prop
  | [], _ => True
  | it :: r, T => okI T it ∧ okIs r (itemT T it)
theorem okT_build : ∀ {its : List (Nat × List Nat)} {T : aT}, okT T → okIs its T → okT (buildT its T)
  | [], _, h, _ => h
  | it :: r, T, h, hi => okT_build (its := r) (okT_item h hi.1).1 hi.2
theorem okIs_parse {l : Nat → Nat} {len : Nat} (hl : ∀ j, l j ≤ 126) : ∀ {f pl : Nat} {T : aT}, okT T → okIs (parseF l len f T.1 T.2.1 pl).1 T
  | 0, pl, T, h => trivial
  | f + 1, pl, T, h => by
    rw [parseF]
    split
    · cases hit : itemF l T.1 T.2.1 pl with
      | none => trivial
      | some q =>
        obtain ⟨it, q⟩ := q
        have hs := (itemF_some hl hit).2.2
        have ho := okT_item h hs
        refine ⟨hs, ?_⟩
        show okIs (parseF l len f (itV T.1 it) (itP T.2.1 it) q).1 (itemT T it)
        rw [← ho.2.1, ← ho.2.2]
        exact okIs_parse hl ho.1
    · trivial

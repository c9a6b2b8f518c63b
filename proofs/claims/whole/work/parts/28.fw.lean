/-! HOW FAR: the fewest days by way of the first k villages; what is not without a way is 120 at most -/
def rlx (k a b : Nat) (D : Nat → Nat → Nat) : Nat → Nat → Nat := up2N D a b (if D a k + D k b < D a b then D a k + D k b else D a b)
def fwK (n k : Nat) (D : Nat → Nat → Nat) : Nat → Nat → Nat := iterN (fun a D => iterN (rlx k a) n D) n D
def fwA (n : Nat) (D : Nat → Nat → Nat) : Nat → Nat → Nat := iterN (fun k D => fwK n k D) n D
def mnA (x y : Nat) : Nat := if y < x then y else x
theorem iterN_eq {α : Type} {f : Nat → α → α} {g : Nat → α} {n : Nat} (h : ∀ i, i < n → f i (g i) = g (i + 1)) : ∀ i, i ≤ n → iterN f i (g 0) = g i
  | 0, _ => rfl
  | i + 1, hi => by rw [iterN, iterN_eq h i (by omega), h i (by omega)]
theorem fwK_eq {n k : Nat} {D : Nat → Nat → Nat} (hk : k < n) (h0 : D k k = 0) : fwK n k D = fun i j => if i < n ∧ j < n then mnA (D i j) (D i k + D k j) else D i j := by
  have nk : ∀ i, mnA (D i k) (D i k + D k k) = D i k := fun i => by rw [h0]; unfold mnA; rw [if_neg (by omega)]
  have kn : ∀ j, mnA (D k j) (D k k + D k j) = D k j := fun j => by rw [h0]; unfold mnA; rw [if_neg (by omega)]
  have row : ∀ a, a < n → iterN (rlx k a) n (fun i j => if i < a ∧ j < n then mnA (D i j) (D i k + D k j) else D i j) = (fun i j => if i < a + 1 ∧ j < n then mnA (D i j) (D i k + D k j) else D i j) := by
    intro a ha
    have h := iterN_eq (f := rlx k a) (g := fun b i j => if (i < a ∧ j < n) ∨ (i = a ∧ j < b) then mnA (D i j) (D i k + D k j) else D i j) (n := n) (fun b hb => by
      funext i j
      simp only [rlx, up2N]
      have f1 : (if (a < a ∧ k < n) ∨ (True ∧ k < b) then mnA (D a k) (D a k + D k k) else D a k) = D a k := by split <;> simp [nk]
      have f2 : (if (k < a ∧ b < n) ∨ (k = a ∧ b < b) then mnA (D k b) (D k k + D k b) else D k b) = D k b := by split <;> simp [kn]
      have f3 : (if (a < a ∧ b < n) ∨ (True ∧ b < b) then mnA (D a b) (D a k + D k b) else D a b) = D a b := if_neg (by omega)
      rw [f1, f2, f3]
      by_cases e : i = a ∧ j = b
      · rw [if_pos e, e.1, e.2, if_pos (c := (a < a ∧ b < n) ∨ (a = a ∧ b < b + 1)) (by omega)]
        rfl
      · rw [if_neg e]
        have e2 : ((i < a ∧ j < n) ∨ (i = a ∧ j < b)) = ((i < a ∧ j < n) ∨ (i = a ∧ j < b + 1)) := propext (by omega)
        simp only [e2]) n (Nat.le_refl _)
    have g0 : (fun i j => if (i < a ∧ j < n) ∨ (i = a ∧ j < 0) then mnA (D i j) (D i k + D k j) else D i j) = (fun i j => if i < a ∧ j < n then mnA (D i j) (D i k + D k j) else D i j) := by
      funext i j
      have e2 : ((i < a ∧ j < n) ∨ (i = a ∧ j < 0)) = (i < a ∧ j < n) := propext (by omega)
      simp only [e2]
    have g1 : (fun i j => if (i < a ∧ j < n) ∨ (i = a ∧ j < n) then mnA (D i j) (D i k + D k j) else D i j) = (fun i j => if i < a + 1 ∧ j < n then mnA (D i j) (D i k + D k j) else D i j) := by
      funext i j
      have e2 : ((i < a ∧ j < n) ∨ (i = a ∧ j < n)) = (i < a + 1 ∧ j < n) := propext (by omega)
      simp only [e2]
    rw [← g0, ← g1]
    exact h
  have h := iterN_eq (f := fun a D => iterN (rlx k a) n D) (g := fun a i j => if i < a ∧ j < n then mnA (D i j) (D i k + D k j) else D i j) (n := n) row n (Nat.le_refl _)
  have g0 : (fun i j => if i < 0 ∧ j < n then mnA (D i j) (D i k + D k j) else D i j) = D := by
    funext i j
    rw [if_neg (by omega)]
  rw [g0] at h
  exact h
/-- as it is behind k villages -/
def fwI (n k : Nat) (E : Nat → Nat → Nat) : Prop := (∀ a, a < n → E a a = 0) ∧ (∀ a b, a < n → b < n → a ≠ b → 1 ≤ E a b) ∧ (∀ a b, a < n → b < n → E a b ≤ 1000000) ∧ (∀ c a b, c < k → a < n → b < n → E a b ≤ E a c + E c b) ∧ (∀ a b, a < n → b < n → a ≠ b → E a b < 1000000 → E a b ≤ 20 ∨ ∃ c, c < n ∧ c ≠ a ∧ c ≠ b ∧ E a c + E c b ≤ E a b) ∧ (∀ a b, a < n → b < n → E a b < 1000000 → E a b ≤ 20 * 2 ^ k)
theorem fwI_step {n k : Nat} {E : Nat → Nat → Nat} (hk : k < n) (h : fwI n k E) : fwI n (k + 1) (fwK n k E) := by
  obtain ⟨h1, h2, h3, h4, h5, h6⟩ := h
  have hkk := h1 k hk
  rw [fwK_eq hk hkk]
  have ev : ∀ a b, a < n → b < n → (if a < n ∧ b < n then mnA (E a b) (E a k + E k b) else E a b) = mnA (E a b) (E a k + E k b) := fun a b ha hb => if_pos ⟨ha, hb⟩
  have le1 : ∀ a b, mnA (E a b) (E a k + E k b) ≤ E a b ∧ mnA (E a b) (E a k + E k b) ≤ E a k + E k b := fun a b => by unfold mnA; split <;> omega
  have cs : ∀ a b, mnA (E a b) (E a k + E k b) = E a b ∨ mnA (E a b) (E a k + E k b) = E a k + E k b := fun a b => by unfold mnA; split <;> simp
  refine ⟨fun a ha => ?_, fun a b ha hb hab => ?_, fun a b ha hb => ?_, fun c a b hc ha hb => ?_, fun a b ha hb hab hf => ?_, fun a b ha hb hf => ?_⟩
  · simp only
    rw [ev a a ha ha]
    have := le1 a a
    have := h1 a ha
    omega
  · simp only
    rw [ev a b ha hb]
    rcases cs a b with e | e
    · rw [e]; exact h2 a b ha hb hab
    · rw [e]
      by_cases e1 : a = k
      · subst e1
        have := h2 a b ha hb hab
        omega
      · have := h2 a k ha hk e1
        omega
  · simp only
    rw [ev a b ha hb]
    have := le1 a b
    have := h3 a b ha hb
    omega
  · have hcn : c < n := by omega
    simp only
    rw [ev a b ha hb, ev a c ha hcn, ev c b hcn hb]
    have lab := le1 a b
    by_cases e : c = k
    · subst e
      have e1 : mnA (E a c) (E a c + E c c) = E a c := by rw [hkk]; unfold mnA; rw [if_neg (by omega)]
      have e2 : mnA (E c b) (E c c + E c b) = E c b := by rw [hkk]; unfold mnA; rw [if_neg (by omega)]
      rw [e1, e2]
      exact lab.2
    · have hck : c < k := by omega
      have t1 := h4 c a b hck ha hb
      have t2 := h4 c k b hck hk hb
      have t3 := h4 c a k hck ha hk
      rcases cs a c with e1 | e1 <;> rcases cs c b with e2 | e2 <;> rw [e1, e2] <;> omega
  · simp only at hf ⊢
    rw [ev a b ha hb] at hf ⊢
    rcases cs a b with e | e
    · rw [e] at hf
      rcases h5 a b ha hb hab hf with q | ⟨c, c1, c2, c3, c4⟩
      · left; rw [e]; exact q
      · right
        refine ⟨c, c1, c2, c3, ?_⟩
        rw [ev a c ha c1, ev c b c1 hb, e]
        have := (le1 a c).1
        have := (le1 c b).1
        omega
    · by_cases q1 : k = a
      · subst q1
        have e3 : mnA (E k b) (E k k + E k b) = E k b := by rw [hkk]; unfold mnA; rw [if_neg (by omega)]
        rw [e3] at hf
        rcases h5 k b ha hb hab hf with q | ⟨c, c1, c2, c3, c4⟩
        · left; rw [e3]; exact q
        · right
          refine ⟨c, c1, c2, c3, ?_⟩
          rw [ev k c ha c1, ev c b c1 hb, e3]
          have := (le1 k c).1
          have := (le1 c b).1
          omega
      · by_cases q2 : k = b
        · subst q2
          have e3 : mnA (E a k) (E a k + E k k) = E a k := by rw [hkk]; unfold mnA; rw [if_neg (by omega)]
          rw [e3] at hf
          rcases h5 a k ha hb hab hf with q | ⟨c, c1, c2, c3, c4⟩
          · left; rw [e3]; exact q
          · right
            refine ⟨c, c1, c2, c3, ?_⟩
            rw [ev a c ha c1, ev c k c1 hb, e3]
            have := (le1 a c).1
            have := (le1 c k).1
            omega
        · right
          refine ⟨k, hk, q1, q2, ?_⟩
          rw [ev a k ha hk, ev k b hk hb, e]
          have := (le1 a k).1
          have := (le1 k b).1
          omega
  · simp only at hf ⊢
    rw [ev a b ha hb] at hf ⊢
    have hp : 2 ^ (k + 1) = 2 * 2 ^ k := by rw [Nat.pow_succ]; omega
    rcases cs a b with e | e
    · rw [e] at hf ⊢
      have := h6 a b ha hb hf
      omega
    · rw [e] at hf ⊢
      have := h6 a k ha hk (by omega)
      have := h6 k b hk hb (by omega)
      omega
def cntB (p : Nat → Bool) : Nat → Nat
  | 0 => 0
  | n + 1 => cntB p n + (if p n then 1 else 0)
theorem cntB_add {p q r : Nat → Bool} : ∀ {n : Nat}, (∀ v, v < n → p v = true → r v = true) → (∀ v, v < n → q v = true → r v = true) → (∀ v, v < n → p v = true → q v = true → False) → cntB p n + cntB q n ≤ cntB r n
  | 0, _, _, _ => Nat.le_refl _
  | n + 1, h1, h2, h3 => by
    have ih := cntB_add (p := p) (q := q) (r := r) (n := n) (fun v hv => h1 v (by omega)) (fun v hv => h2 v (by omega)) (fun v hv => h3 v (by omega))
    have a1 := h1 n (by omega)
    have a2 := h2 n (by omega)
    have a3 := h3 n (by omega)
    simp only [cntB]
    cases hp : p n <;> cases hq : q n <;> cases hr : r n <;> simp_all <;> omega
theorem cntB_in {p : Nat → Bool} : ∀ {n v : Nat}, v < n → p v = true → 1 ≤ cntB p n
  | 0, v, h, _ => by omega
  | n + 1, v, h, hp => by
    simp only [cntB]
    by_cases e : v = n
    · rw [← e, if_pos hp]; omega
    · have := cntB_in (p := p) (n := n) (v := v) (by omega) hp
      omega
theorem cntB_le {p : Nat → Bool} : ∀ n, cntB p n ≤ n
  | 0 => Nat.le_refl _
  | n + 1 => by
    have := cntB_le (p := p) n
    simp only [cntB]
    split <;> omega
theorem cntB_out {p : Nat → Bool} : ∀ {n v : Nat}, v < n → p v = false → cntB p n + 1 ≤ n
  | 0, v, h, _ => by omega
  | n + 1, v, h, hp => by
    simp only [cntB]
    by_cases e : v = n
    · subst e
      have := cntB_le (p := p) v
      rw [hp]
      simp
      omega
    · have := cntB_out (p := p) (n := n) (v := v) (by omega) hp
      split <;> omega
theorem fwI_bound {n : Nat} {E : Nat → Nat → Nat} (h : fwI n n E) : ∀ m a b, a < n → b < n → E a b = m → m < 1000000 → m ≤ 20 * cntB (fun v => decide (E a v + E v b = E a b) && !decide (v = b)) n := by
  obtain ⟨h1, h2, h3, h4, h5, -⟩ := h
  intro m
  induction m using Nat.strongRecOn with
  | ind m ih =>
    intro a b ha hb he hm
    by_cases hab : a = b
    · subst hab
      rw [h1 a ha] at he
      omega
    · have haa := h1 a ha
      rcases h5 a b ha hb hab (by omega) with q | ⟨c, c1, c2, c3, c4⟩
      · have := cntB_in (p := fun v => decide (E a v + E v b = E a b) && !decide (v = b)) (n := n) (v := a) ha (by simp [haa, hab])
        omega
      · have t := h4 c a b c1 ha hb
        have p1 := h2 a c ha c1 (Ne.symm c2)
        have p2 := h2 c b c1 hb c3
        have i1 := ih (E a c) (by omega) a c ha c1 rfl (by omega)
        have i2 := ih (E c b) (by omega) c b c1 hb rfl (by omega)
        have hc := cntB_add (p := fun v => decide (E a v + E v c = E a c) && !decide (v = c)) (q := fun v => decide (E c v + E v b = E c b) && !decide (v = b)) (r := fun v => decide (E a v + E v b = E a b) && !decide (v = b)) (n := n) (fun v hv hp => by
            simp only [Bool.and_eq_true, decide_eq_true_eq, Bool.not_eq_true', decide_eq_false_iff_not] at hp ⊢
            have t2 := h4 c v b c1 hv hb
            have t3 := h4 v a b hv ha hb
            refine ⟨by omega, fun e => ?_⟩
            subst e
            omega) (fun v hv hp => by
            simp only [Bool.and_eq_true, decide_eq_true_eq, Bool.not_eq_true', decide_eq_false_iff_not] at hp ⊢
            have t2 := h4 c a v c1 ha hv
            have t3 := h4 v a b hv ha hb
            exact ⟨by omega, hp.2⟩) (fun v hv hp hq => by
            simp only [Bool.and_eq_true, decide_eq_true_eq, Bool.not_eq_true', decide_eq_false_iff_not] at hp hq
            have p3 := h2 v c hv c1 hp.2
            have t2 := h4 v a b hv ha hb
            omega)
        omega
theorem fwI_120 {n : Nat} {E : Nat → Nat → Nat} (hn : n ≤ 7) (h : fwI n n E) {a b : Nat} (ha : a < n) (hb : b < n) : E a b ≤ 120 ∨ E a b = 1000000 := by
  have h3 := h.2.2.1 a b ha hb
  by_cases hf : E a b < 1000000
  · left
    have h9 := fwI_bound h (E a b) a b ha hb rfl hf
    have := cntB_out (p := fun v => decide (E a v + E v b = E a b) && !decide (v = b)) (n := n) (v := b) hb (by simp)
    omega
  · right; omega
theorem fwI_all {n : Nat} {D : Nat → Nat → Nat} (h : fwI n 0 D) : ∀ k, k ≤ n → fwI n k (iterN (fun k D => fwK n k D) k D)
  | 0, _ => h
  | k + 1, hk => fwI_step (by omega) (fwI_all h k (by omega))
/-- the reference's: 9999 where there is no way -/
theorem fo_min {x y z : Nat} (hx : x ≤ 2560 ∨ x = 1000000) (hy : y ≤ 2560 ∨ y = 1000000) (hz : z ≤ 2560 ∨ z = 1000000) : mnA (fo x) (fo y + fo z) = fo (mnA x (y + z)) := by
  unfold fo mnA
  rcases hx with hx | hx <;> rcases hy with hy | hy <;> rcases hz with hz | hz <;> (repeat' split) <;> omega

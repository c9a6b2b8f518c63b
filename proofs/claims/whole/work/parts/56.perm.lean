/-! ORDERS, as numbers: all orders of a set one after the other; the next order -/
def kF (f : Nat → Nat) : Nat → Option Nat
  | 0 => none
  | n + 1 => if f (n + 1) < f n then kF f n else some n
def jF (f : Nat → Nat) (x : Nat) : Nat → Nat
  | 0 => 0
  | j + 1 => if f (j + 1) < x then jF f x j else j + 1
def swF (f : Nat → Nat) (a b : Nat) : Nat → Nat := va_up (va_up f a (f b)) b (f a)
def rvF : Nat → (Nat → Nat) → Nat → Nat → (Nat → Nat)
  | 0, f, _, _ => f
  | n + 1, f, a, b => if a < b then rvF n (swF f a b) (a + 1) (b - 1) else f
def nxF (m : Nat) (f : Nat → Nat) : Option (Nat → Nat) := match kF f (m - 1) with
  | none => none
  | some k => some (rvF 4 (swF f k (jF f (f k) (m - 1))) (k + 1) (m - 1))
def lfF (o : List Nat) : Nat → Nat := fun i => o.getD i 0
/-- all orders of a list, the first ones first -/
def pmL : Nat → List Nat → List (List Nat)
  | 0, _ => [[]]
  | n + 1, l => l.flatMap (fun v => (pmL n (l.filter (fun u => !Nat.beq u v))).map (fun o => v :: o))
def bitsL (r : Nat) : List Nat := (List.range 7).filter (fun v => r.testBit v)
def sameF (g : Nat → Nat) : List Nat → Nat → Bool
  | [], _ => true
  | a :: r, i => Nat.beq (g i) a && sameF g r (i + 1)
/-- o is one order, b the next one -/
def nextB (m : Nat) (o : List Nat) (b : List Nat) : Bool := match nxF m (lfF o) with
  | none => false
  | some g => sameF g b 0
def chnF (m : Nat) : List Nat → List (List Nat) → Bool
  | a, [] => (nxF m (lfF a)).isNone
  | a, b :: r => nextB m a b && chnF m b r
def sameL : List Nat → List Nat → Bool
  | [], [] => true
  | a :: r, b :: s => Nat.beq a b && sameL r s
  | _, _ => false
def chkP (r : Nat) : Bool := match pmL (pc7 r) (bitsL r) with
  | [] => false
  | a :: L => sameL a (bitsL r) && chnF (pc7 r) a L
theorem chk_0 : ∀ r, r < 64 → chkP r = true := by decide +kernel
theorem chk_1 : ∀ r, r < 63 → chkP (64 + r) = true := by decide +kernel
theorem chk_2 : chkP 127 = true := by decide +kernel
theorem chk_all : ∀ r, r < 128 → chkP r = true := by
  intro r hr
  by_cases h : r < 64
  · exact chk_0 r h
  · by_cases h2 : r = 127
    · rw [h2]; exact chk_2
    · have := chk_1 (r - 64) (by omega)
      rwa [show 64 + (r - 64) = r by omega] at this
theorem sameL_eq : ∀ {a b : List Nat}, sameL a b = true → a = b
  | [], [], _ => rfl
  | [], _ :: _, h => by cases h
  | _ :: _, [], h => by cases h
  | a :: r, b :: s, h => by
    simp only [sameL, Bool.and_eq_true] at h
    rw [Nat.eq_of_beq_eq_true h.1, sameL_eq h.2]
theorem sameF_eq {g : Nat → Nat} : ∀ {b : List Nat} {i : Nat}, sameF g b i = true → ∀ j, j < b.length → g (i + j) = b.getD j 0
  | [], _, _, j, hj => by cases hj
  | a :: r, i, h, j, hj => by
    simp only [sameF, Bool.and_eq_true] at h
    cases j with
    | zero => exact Nat.eq_of_beq_eq_true h.1
    | succ j =>
      have := sameF_eq (i := i + 1) h.2 j (by simpa using hj)
      rw [show i + (j + 1) = i + 1 + j by omega, this]
      rfl
theorem chk_get {r : Nat} (hr : r < 128) : ∃ L, pmL (pc7 r) (bitsL r) = bitsL r :: L ∧ chnF (pc7 r) (bitsL r) L = true := by
  have h := chk_all r hr
  unfold chkP at h
  split at h
  · cases h
  · next a L e =>
    rw [Bool.and_eq_true] at h
    have e2 := sameL_eq h.1
    subst e2
    exact ⟨L, e, h.2⟩
/-- every order has the list's length and its members -/
theorem pmL_len : ∀ {n : Nat} {l o : List Nat}, o ∈ pmL n l → o.length = n ∧ ∀ v ∈ o, v ∈ l
  | 0, l, o, h => by
    simp only [pmL, List.mem_singleton] at h
    subst h
    exact ⟨rfl, fun v hv => by cases hv⟩
  | n + 1, l, o, h => by
    simp only [pmL, List.mem_flatMap, List.mem_map] at h
    obtain ⟨v, hv, o1, ho1, rfl⟩ := h
    obtain ⟨h1, h2⟩ := pmL_len ho1
    refine ⟨by rw [List.length_cons, h1], fun u hu => ?_⟩
    rcases List.mem_cons.mp hu with e | e
    · rw [e]; exact hv
    · exact (List.mem_filter.mp (h2 u e)).1
theorem bitsL_mem {r v : Nat} : v ∈ bitsL r ↔ v < 7 ∧ r.testBit v = true := by
  unfold bitsL
  rw [List.mem_filter, List.mem_range]
theorem bitsL_c : ∀ r, r < 128 → ∀ v, v < 7 → bitsL (cbt r v) = (bitsL r).filter (fun u => !Nat.beq u v) := by decide +kernel
/-- the book behind an order; the first best of all orders -/
def runB (l : aLd) (b : aBk) (o : List Nat) : aBk := o.foldl (fun b v => swearB l.2.2.2.1 l.2.2.2.2.1 b v (l.2.2.1 v)) b
def betO (up : Bool) (x y : Nat) : Bool := if up then decide (y < x) else decide (x < y)
def wtO (up : Bool) (acc : Option (Nat × List Nat)) (x : Nat) (o : List Nat) : Option (Nat × List Nat) := match acc with
  | none => some (x, o)
  | some q => if betO up x q.1 then some (x, o) else some q
def stO (l : aLd) (b : aBk) (up : Bool) (acc : Option (Nat × List Nat)) (o : List Nat) : Option (Nat × List Nat) := wtO up acc (foundB l.1 (runB l b o)) o
def bstO (l : aLd) (b : aBk) (up : Bool) : Option (Nat × List Nat) := (pmL (pc7 (restN l.1 b.1)) (bitsL (restN l.1 b.1))).foldl (stO l b up) none
def spOrd (w : aX) (up : Bool) (y : Int32) : Int32 :=
  if wiB y (nI 0) (nI 7) then
    (if pc7 (restN w.2.1.1 w.2.2.1.1) < y.toNatClampNeg then (-4) else
      match bstO w.2.1 w.2.2.1 up with
      | none => (-4)
      | some q => if y.toNatClampNeg = 0 then nI q.1 else nI (q.2.getD (y.toNatClampNeg - 1) 0)) else (-1)
theorem stO_some {l : aLd} {b : aBk} {up : Bool} {o : List Nat} : ∀ {acc : Option (Nat × List Nat)}, ∃ q, stO l b up acc o = some q
  | none => ⟨_, rfl⟩
  | some q => by simp only [stO, wtO]; split <;> exact ⟨_, rfl⟩
theorem fold_some {l : aLd} {b : aBk} {up : Bool} : ∀ {L : List (List Nat)} {q : Nat × List Nat}, ∃ q', L.foldl (stO l b up) (some q) = some q'
  | [], q => ⟨q, rfl⟩
  | o :: L, q => by
    obtain ⟨q1, h1⟩ := stO_some (l := l) (b := b) (up := up) (o := o) (acc := some q)
    rw [List.foldl_cons, h1]
    exact fold_some
/-- what the best order is: found small, as long as the rest -/
def okO (m : Nat) (acc : Option (Nat × List Nat)) : Prop := ∀ q, acc = some q → q.1 ≤ 2940 ∧ q.2.length = m
theorem foundB_le {nv dy : Nat} {b : aBk} (h7 : nv ≤ 7) (h : okB nv dy b) : foundB nv b ≤ 2940 := by
  have : ∀ n, n ≤ 7 → sumA (fun v => if b.1.testBit v then b.2.2.2.1 v else 0) n ≤ 420 * n := by
    intro n
    induction n with
    | zero => intro _; exact Nat.le_refl _
    | succ n ih =>
      intro hn
      have h1 := ih (by omega)
      have h2 := h.2.2.2.1 n (by omega)
      rw [sumA]
      split <;> omega
  have := this nv h7
  unfold foundB
  omega
theorem okB_run {l : aLd} {dy : Nat} (hl : okL l) : ∀ {o : List Nat} {b : aBk}, okB l.1 dy b → (∀ v ∈ o, v < l.1) → okB l.1 dy (runB l b o)
  | [], b, hb, _ => hb
  | v :: o, b, hb, h => by
    have hv := h v (List.mem_cons_self ..)
    have h7 := hl.1.2
    exact okB_run (o := o) hl (okB_swear h7 hb hv (Nat.lt_of_lt_of_le (hl.2.2.2.1 v (by omega)) (pow7 h7))) (fun u hu => h u (List.mem_cons_of_mem _ hu))
theorem runB_snoc {l : aLd} {b : aBk} {o : List Nat} {v : Nat} : runB l b (o ++ [v]) = swearB l.2.2.2.1 l.2.2.2.2.1 (runB l b o) v (l.2.2.1 v) := by
  unfold runB
  rw [List.foldl_append]
  rfl
theorem stO_ok {l : aLd} {b : aBk} {up : Bool} {o : List Nat} {m dy : Nat} {acc : Option (Nat × List Nat)} (hl : okL l) (hb : okB l.1 dy b) (ho : ∀ v ∈ o, v < l.1) (hm : o.length = m) (h : okO m acc) : okO m (stO l b up acc o) := by
  have hf := foundB_le hl.1.2 (okB_run hl hb ho)
  intro q hq
  cases acc with
  | none =>
    simp only [stO, wtO, Option.some.injEq] at hq
    subst hq
    exact ⟨hf, hm⟩
  | some q0 =>
    simp only [stO, wtO] at hq
    split at hq
    · cases hq; exact ⟨hf, hm⟩
    · cases hq; exact h _ rfl

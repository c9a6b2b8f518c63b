/-! THE WORLD: text, land, book, what can be undone, what is kept, what is seen; how class and reference hold it; the answers -/
abbrev aX : Type := List Nat × aLd × aBk × List aBk × List aBk × List (Nat × Nat)
def okX (N : Nat) (w : aX) : Prop := (w.1.length ≤ 200 ∧ ∀ ch ∈ w.1, 32 ≤ ch ∧ ch ≤ 126) ∧ okL w.2.1 ∧ okB w.2.1.1 (121 * N) w.2.2.1 ∧ (w.2.2.2.1.length ≤ 8 ∧ ∀ b ∈ w.2.2.2.1, okB w.2.1.1 (121 * N) b) ∧ (w.2.2.2.2.1.length ≤ 2 ∧ ∀ b ∈ w.2.2.2.2.1, okB w.2.1.1 (121 * N) b) ∧ (w.2.2.2.2.2.length ≤ 6 ∧ ∀ q ∈ w.2.2.2.2.2, q.1 < w.2.1.1 ∧ q.2 ≤ 60)
/-- a Pile of the class, the newest first -/
def rP (M : xMem) (q N b : Nat) (L : List aBk) : Prop := ∃ o, o < N ∧ M q 1 = nI o ∧ M q 2 = nI L.length ∧ L.length ≤ N ∧ ∀ i k, L[i]? = some k → rB M (b + 5 * slN N o (L.length - 1 - i)) k
def rSeen (M : xMem) (L : List (Nat × Nat)) : Prop := M 95 2 = nI L.length ∧ ∀ i q, L[i]? = some q → M 96 i = nI q.1 ∧ M 97 i = nI q.2
def repC (w : aX) (M : xMem) : Prop := isTx M (fun j => w.1.getD j 0) w.1.length ∧ rL M w.2.1 ∧ rB M 31 w.2.2.1 ∧ rP M 41 8 43 w.2.2.2.1 ∧ rP M 83 2 85 w.2.2.2.2.1 ∧ rSeen M w.2.2.2.2.2
/-- a book in the reference's slots -/
def rS (M : xMem) (base : Nat) (b : aBk) : Prop := M 162 (base + 14) = nI b.1 ∧ M 162 (base + 15) = nI b.2.1 ∧ (∀ v, v < 7 → M 162 (base + v) = nI (b.2.2.1 v) ∧ M 162 (base + 7 + v) = nI (b.2.2.2.1 v)) ∧ ∀ p, p < 3 → M 162 (base + 16 + p) = nI (b.2.2.2.2.1 p) ∧ M 162 (base + 19 + p) = nI (b.2.2.2.2.2 p)
def fo (y : Nat) : Nat := if y = 1000000 then 9999 else y
def rLm (M : xMem) (l : aLd) : Prop := M 156 0 = nI l.1 ∧ M 156 2 = nI l.2.1 ∧ (∀ v, v < l.1 → M 157 v = nI (l.2.2.1 v)) ∧ (∀ a b, a < l.1 → b < l.1 → ∃ y, y < 100 ∧ M 158 (7 * a + b) = nI y ∧ (0 < y ↔ (l.2.2.2.1 a).testBit b = true)) ∧ ∀ a b, a < l.1 → b < l.1 → M 159 (7 * a + b) = nI (fo (l.2.2.2.2.2 a b))
def repM (w : aX) (M : xMem) : Prop := (M 156 12 = nI w.1.length ∧ ∀ j, j < w.1.length → M 163 j = nI (w.1.getD j 0)) ∧ rLm M w.2.1 ∧ rS M 0 w.2.2.1 ∧ (M 156 10 = nI w.2.2.2.1.length ∧ ∀ i k, w.2.2.2.1[i]? = some k → rS M (22 * (w.2.2.2.1.length - i)) k) ∧ (M 156 11 = nI w.2.2.2.2.1.length ∧ ∀ i k, w.2.2.2.2.1[i]? = some k → rS M (22 * (8 + w.2.2.2.2.1.length - i)) k) ∧ (M 156 17 = nI w.2.2.2.2.2.length ∧ ∀ i q, w.2.2.2.2.2[i]? = some q → M 164 i = nI q.1 ∧ M 165 i = nI q.2)
/-- the reference's cells stay; the class's do -/
def hiK (M M1 : xMem) : Prop := ∀ a, 156 ≤ a → M1 a = M a
def loK (M M1 : xMem) : Prop := ∀ a, a < 156 → M1 a = M a
theorem repM_hi {w : aX} {M M1 : xMem} (h : repM w M) (hk : hiK M M1) : repM w M1 := by
  have e := fun a (h : 156 ≤ a) => hk a h
  unfold repM rLm rS at h ⊢
  rw [e 156 (by omega), e 157 (by omega), e 158 (by omega), e 159 (by omega), e 162 (by omega), e 163 (by omega), e 164 (by omega), e 165 (by omega)]
  exact h
theorem rP_keep {M M1 : xMem} {q N b : Nat} {L : List aBk} (h : rP M q N b L) (hk : ∀ a, a = q ∨ (b ≤ a ∧ a < b + 5 * N) → M1 a = M a) : rP M1 q N b L := by
  obtain ⟨o, h1, h2, h3, h4, h5⟩ := h
  refine ⟨o, h1, by rw [hk q (Or.inl rfl)]; exact h2, by rw [hk q (Or.inl rfl)]; exact h3, h4, fun i k hi => ?_⟩
  have := slN_lt h1 (show L.length - 1 - i ≤ N by omega)
  exact rB_keep (h5 i k hi) (fun a g1 g2 => hk a (Or.inr ⟨by omega, by omega⟩))
theorem repC_lo {w : aX} {M M1 : xMem} (h : repC w M) (hk : loK M M1) : repC w M1 := by
  obtain ⟨h1, h2, h3, h4, h5, h6, h7⟩ := h
  exact ⟨isTx_keep h1 (hk 1 (by omega)) (hk 2 (by omega)), rL_keep h2 (fun a _ _ => hk a (by omega)), rB_keep h3 (fun a _ _ => hk a (by omega)), rP_keep h4 (fun a hpa => hk a (by omega)), rP_keep h5 (fun a hpa => hk a (by omega)), by rw [hk 95 (by omega)]; exact h6, fun i q hi => by rw [hk 96 (by omega), hk 97 (by omega)]; exact h7 i q hi⟩
/-! the answers, and the world behind them -/
def spWrite (w : aX) (y : Int32) : Int32 × aX := if wiB y (nI 32) (nI 126) then (if w.1.length = 200 then (-3, w) else (nI (w.1.length + 1), (w.1 ++ [y.toNatClampNeg], w.2))) else (-1, w)
def spWipe (w : aX) : Int32 × aX := (nI w.1.length, ([], w.2))
def spVill (w : aX) (y1 y2 : Int32) : Int32 :=
  let v := y1.toNatClampNeg
  if inN y1 w.2.1.1 && wiB y2 (nI 0) (nI 5) then
    (if y2 = nI 0 then nI (w.2.1.2.2.1 v) else if y2 = nI 1 then nI (w.2.2.1.2.2.1 v) else if y2 = nI 2 then (if w.2.2.1.1.testBit v then nI (w.2.2.1.2.2.2.1 v) else (-4))
    else if y2 = nI 3 then bI (w.2.2.1.2.1.testBit v) else if y2 = nI 4 then (if w.2.2.1.1.testBit v then (-4) else nI (swN w.2.1.2.2.2.1 w.2.1.2.2.2.2.1 w.2.2.1 v (w.2.1.2.2.1 v))) else nI (w.2.1.2.2.2.1 v))
  else (-1)
def spPart (w : aX) (y1 y2 : Int32) : Int32 :=
  if inN y1 w.2.1.2.1 && wiB y2 (nI 0) (nI 1) then (if y2 = nI 0 then nI (w.2.2.1.2.2.2.2.1 y1.toNatClampNeg) else nI (w.2.2.1.2.2.2.2.2 y1.toNatClampNeg)) else (-1)
def spFar (w : aX) (y1 y2 : Int32) : Int32 :=
  if inN y1 w.2.1.1 && inN y2 w.2.1.1 then (if w.2.1.2.2.2.2.2 y1.toNatClampNeg y2.toNatClampNeg = 1000000 then (-4) else nI (w.2.1.2.2.2.2.2 y1.toNatClampNeg y2.toNatClampNeg)) else (-1)
/-- before a change: the book as it stands can be come back to -/
def pastX (w : aX) : List aBk := (w.2.2.1 :: w.2.2.2.1).take 8
def canA (l : aLd) (b : aBk) (p v : Nat) : Bool := !b.1.testBit v && decide (l.2.2.2.2.2 (b.2.2.2.2.1 p) v ≠ 1000000)
def spAsk (w : aX) (y1 y2 : Int32) : Int32 × aX :=
  let p := y1.toNatClampNeg
  let v := y2.toNatClampNeg
  if inN y1 w.2.1.2.1 && inN y2 w.2.1.1 then
    (if canA w.2.1 w.2.2.1 p v then (nI (swN w.2.1.2.2.2.1 w.2.1.2.2.2.2.1 w.2.2.1 v (w.2.1.2.2.1 v)), (w.1, w.2.1, askB w.2.1 w.2.2.1 p v, pastX w, w.2.2.2.2)) else (-2, w))
  else (-1, w)
def spCheck (w : aX) (y : Int32) : Int32 × aX :=
  let v := y.toNatClampNeg
  if inN y w.2.1.1 then
    (if w.2.2.1.1.testBit v && !w.2.2.1.2.1.testBit v then (nI (w.2.2.1.2.2.1 v) - nI (w.2.2.1.2.2.2.1 v) + nI 500, (w.1, w.2.1, checkB w.2.2.1 v, pastX w, w.2.2.2.2)) else (-2, w))
  else (-1, w)
def spStrike (w : aX) (y : Int32) : Int32 × aX :=
  let v := y.toNatClampNeg
  if inN y w.2.1.1 then
    (if w.2.2.1.1.testBit v then (nI (w.2.2.1.2.2.2.1 v), (w.1, w.2.1, strikeB w.2.2.1 v, pastX w, w.2.2.2.2)) else (-2, w))
  else (-1, w)
def spUndo (w : aX) : Int32 × aX := match w.2.2.2.1 with
  | [] => (-2, w)
  | b :: r => (nI r.length, (w.1, w.2.1, b, r, w.2.2.2.2))
def spSee (w : aX) (y1 y2 : Int32) : Int32 × aX :=
  if inN y1 w.2.1.1 && wiB y2 (nI 0) (nI 60) then (if w.2.2.2.2.2.length = 6 then (-3, w) else (nI (w.2.2.2.2.2.length + 1), (w.1, w.2.1, w.2.2.1, w.2.2.2.1, w.2.2.2.2.1, w.2.2.2.2.2 ++ [(y1.toNatClampNeg, y2.toNatClampNeg)]))) else (-1, w)
def spForget (w : aX) : Int32 × aX := (nI w.2.2.2.2.2.length, (w.1, w.2.1, w.2.2.1, w.2.2.2.1, w.2.2.2.2.1, []))
def spKeep (w : aX) : Int32 × aX := if w.2.2.2.2.1.length = 2 then (-3, w) else (nI (w.2.2.2.2.1.length + 1), (w.1, w.2.1, w.2.2.1, w.2.2.2.1, w.2.2.1 :: w.2.2.2.2.1, w.2.2.2.2.2))
def spBack (w : aX) : Int32 × aX := match w.2.2.2.2.1 with
  | [] => (-2, w)
  | b :: r => (nI r.length, (w.1, w.2.1, b, [], r, w.2.2.2.2.2))
def maskA (p : Nat → Bool) : Nat → Nat
  | 0 => 0
  | n + 1 => if p n then sbt (maskA p n) n else maskA p n
def seenF (s : List (Nat × Nat)) (v y : Nat) : Bool := s.all (fun q => !(decide (q.1 = v) && !decide (q.2 = y)))
def spKinds (w : aX) (y : Int32) : Int32 :=
  let v := y.toNatClampNeg
  if inN y w.2.1.1 then (if w.2.2.1.1.testBit v then (-2) else nI (maskA (fun k => seenF w.2.2.2.2.2 v (swN w.2.1.2.2.2.1 w.2.1.2.2.2.2.1 w.2.2.1 v k)) 5)) else (-1)
def twinA (l : aLd) (b : aBk) (v : Nat) : Bool := (List.range l.1).any (fun u => (l.2.2.2.1 v).testBit u && b.1.testBit u && decide (b.2.2.2.1 u = b.2.2.2.1 v))
def spCopies (w : aX) : Int32 := nI (maskA (fun v => w.2.2.1.1.testBit v && twinA w.2.1 w.2.2.1 v) w.2.1.1)
def spAgree (w : aX) (y1 y2 : Int32) : Int32 :=
  let a := y1.toNatClampNeg
  let b := y2.toNatClampNeg
  if inN y1 w.2.1.1 && inN y2 w.2.1.1 && !decide (y1 = y2) then (if w.2.2.1.1.testBit a && w.2.2.1.1.testBit b then bI (decide (w.2.2.1.2.2.2.1 a + w.2.2.1.2.2.2.1 b = w.2.2.1.2.2.1 a + w.2.2.1.2.2.1 b)) else (-2)) else (-1)
def spCount (w : aX) (y : Int32) : Int32 :=
  if y = nI 0 then nI w.2.1.1 else if y = nI 1 then nI w.2.1.2.1 else if y = nI 2 then nI (pc7 w.2.2.1.1) else if y = nI 3 then nI (pc7 w.2.2.1.2.1) else if y = nI 4 then nI (foundB w.2.1.1 w.2.2.1)
  else if y = nI 5 then nI (sumA w.2.2.1.2.2.1 w.2.1.1) else if y = nI 6 then nI (maxA w.2.2.1.2.2.2.2.2 w.2.1.2.1) else if y = nI 7 then nI w.2.2.2.2.2.length else if y = nI 8 then nI w.2.2.2.1.length else if y = nI 9 then nI w.2.2.2.2.1.length
  else if y = nI 10 then nI w.1.length else (-1)

/-! CHECKS: the set of so many checks that gains most -/
def gnA (nv : Nat) (b : aBk) (s : Nat) : Int32 := sumN (fun v => if s.testBit v then nI (b.2.2.1 v) - nI (b.2.2.2.1 v) else nI 0) nv
def opA (b : aBk) : Nat := maskA (fun v => b.1.testBit v && !b.2.1.testBit v) 7
def ckV (o n s : Nat) : Bool := decide (s &&& o = s) && decide (pc7 s = n)
def ckA (nv : Nat) (b : aBk) (n : Nat) : Nat → Option Nat
  | 0 => none
  | s + 1 => if ckV (opA b) n s then (match ckA nv b n s with
    | none => some s
    | some t => if gnA nv b t < gnA nv b s then some s else some t) else ckA nv b n s
def spChecks (w : aX) (y1 y2 : Int32) : Int32 :=
  if wiB y1 (nI 1) (nI 3) && wiB y2 (nI 0) (nI 1) then
    (match ckA w.2.1.1 w.2.2.1 (mnA y1.toNatClampNeg (pc7 (opA w.2.2.1))) 128 with
    | none => (-1)
    | some s => if y2 = nI 0 then gnA w.2.1.1 w.2.2.1 s + nI 500 else nI s) else (-1)
theorem ck_ex : ∀ o, o < 128 → ∀ n, n ≤ pc7 o → (List.range 128).any (fun s => ckV o n s) = true := by decide +kernel
theorem ckA_some {nv n : Nat} {b : aBk} : ∀ {m s : Nat}, s < m → ckV (opA b) n s = true → (ckA nv b n m).isSome = true
  | 0, s, h, _ => by omega
  | m + 1, s, h, hv => by
    rw [ckA]
    by_cases e : s = m
    · subst e
      rw [if_pos hv]
      cases ckA nv b n s with
      | none => rfl
      | some t => simp only; split <;> rfl
    · have ih := ckA_some (nv := nv) (n := n) (b := b) (m := m) (s := s) (by omega) hv
      split
      · obtain ⟨t, ht⟩ := Option.isSome_iff_exists.mp ih
        rw [ht]
        simp only
        split <;> rfl
      · exact ih
theorem op_nI {b : aBk} (h1 : b.1 < 128) (h2 : b.2.1 < 128) : nI b.1 &&& (nI b.2.1 ^^^ (-1)) = nI (opA b) := by
  apply b_ext
  intro i hi
  rw [b_and, bt_not _ hi, bt_nI hi, bt_nI hi, bt_nI hi]
  rcases Nat.lt_or_ge i 8 with q | q
  · rw [opA, maskA_bit (by decide) i q]
    by_cases e : i < 7
    · simp [e]
    · rw [tb_hi (n := 7) h1 (by omega)]; simp [e]
  · rw [tb_hi (n := 7) h1 (by omega), tb_hi (n := 7) (show opA b < 2 ^ 7 from sbt_mask (by decide)) (by omega)]
    rfl

/-! THE REFERENCE reads an item -/
theorem numsAt_1 {l : Nat → Nat} {p : Nat} : numsAt l 1 p = (match (numAt l p).1 with
    | none => none
    | some v => if l (numAt l p).2 = 59 then some ([v], (numAt l p).2 + 1) else none) := by
  rw [numsAt]
  cases (numAt l p).1 with
  | none => rfl
  | some v => simp only [numsAt, Option.map_some, if_true]
theorem numsAt_2 {l : Nat → Nat} {r p : Nat} : numsAt l (r + 2) p = (match (numAt l p).1 with
    | none => none
    | some v => if l (numAt l p).2 = 44 then (numsAt l (r + 1) ((numAt l p).2 + 1)).map (fun q => (v :: q.1, q.2)) else none) := by
  rw [numsAt]
  cases (numAt l p).1 with
  | none => rfl
  | some v => simp only [Nat.add_eq_zero_iff, Nat.one_ne_zero, and_false, if_false]
theorem dg_44 {l : Nat → Nat} {q : Nat} (h : isDg (l q) = true) : l q ≠ 44 ∧ l q ≠ 59 := by
  unfold isDg at h
  simp only [Bool.and_eq_true, decide_eq_true_eq] at h
  omega
/-- what an item does to the reference's draft -/
def itR (M : xMem) (nv np : Nat) (it : Nat × List Nat) : xMem :=
  if it.1 = 118 then up2 (up2 (up2 M 160 nv (nI (it.2.getD 0 0))) 162 (242 + nv) (nI (it.2.getD 1 0))) 156 5 (nI (nv + 1))
  else if it.1 = 119 then up2 (up2 M 161 (7 * (it.2.getD 0 0) + (it.2.getD 1 0)) (nI (it.2.getD 2 0))) 161 (7 * (it.2.getD 1 0) + (it.2.getD 0 0)) (nI (it.2.getD 2 0))
  else up2 (up2 M 162 (242 + 16 + np) (nI (it.2.getD 0 0))) 156 7 (nI (np + 1))
def okJ (nv np : Nat) (it : Nat × List Nat) : Prop := (∃ k o, it = (118, [k, o]) ∧ nv < 7 ∧ k < 5 ∧ o < 61) ∨ (∃ a b y, it = (119, [a, b, y]) ∧ a < nv ∧ b < nv ∧ a ≠ b ∧ 1 ≤ y ∧ y ≤ 20) ∨ (∃ v, it = (112, [v]) ∧ np < 3 ∧ v < nv)
theorem itemF_v7 {l : Nat → Nat} {nv np pl : Nat} (h : l pl = 118) (h7 : ¬ nv < 7) : itemF l nv np pl = none := by
  rw [itemF_v h]
  split
  · rw [if_neg (by simp [okV, h7])]
  · rfl
theorem itemF_p3 {l : Nat → Nat} {nv np pl : Nat} (h : l pl = 112) (h3 : ¬ np < 3) : itemF l nv np pl = none := by
  rw [itemF_p h]
  split
  · rw [if_neg (by simp [okP, h3])]
  · rfl
/-- the first number of some is bad: by how it is written, or as it's more than can be -/
theorem nums_bad {l : Nat → Nat} {r p : Nat} (h : (numAt l p).1 = none ∨ isDg (l (numAt l p).2) = true) : numsAt l (r + 1) p = none := by
  rw [numsAt]
  cases hn : (numAt l p).1 with
  | none => rfl
  | some v =>
    simp only
    rw [if_neg]
    have h1 := dg_44 (h.resolve_left (by rw [hn]; exact fun q => by cases q))
    split
    · exact h1.2
    · exact h1.1
theorem wi_lo {v n : Nat} (hv : v < 100) (hn : n < 100) (h : wiB (nI v) (nI 0) (nI n) = false) : ¬ v ≤ n := by
  rw [wi_nI (by omega) (by decide) (by omega)] at h
  simp at h
  omega
theorem wi_hi {v n : Nat} (hv : v < 100) (hn : n < 100) (h : wiB (nI v) (nI 0) (nI n) = true) : v ≤ n := by
  rw [wi_nI (by omega) (by decide) (by omega)] at h
  simp at h
  omega
theorem in_lo {v n : Nat} (hv : v < 100) (hn : n < 100) (h : wiB (nI v) (nI 0) (nI n - nI 1) = false) : ¬ v < n := by
  have h := (show inN (nI v) n = false from h)
  rw [inN_eq (by omega) (by omega)] at h
  exact of_decide_eq_false h
theorem in_hi {v n : Nat} (hv : v < 100) (hn : n < 100) (h : wiB (nI v) (nI 0) (nI n - nI 1) = true) : v < n := by
  have h := (show inN (nI v) n = true from h)
  rw [inN_eq (by omega) (by omega)] at h
  exact of_decide_eq_true h
theorem v_bad1 {l : Nat → Nat} {nv np pl : Nat} (hl : ∀ j, l j ≤ 126) (h : l pl = 118) (hb : badN l (pl + 1) (nI 0) (nI 4)) : itemF l nv np pl = none := by
  rw [itemF_v h]
  rcases hb with hb | hb | ⟨v, h1, h2⟩
  · rw [nums_bad (Or.inl hb)]
  · rw [nums_bad (Or.inr hb)]
  · have hv := wi_lo (numAt_lt hl v h1) (by decide) h2
    rw [numsAt_2, h1]
    simp only
    split
    · next k o q hx =>
      split at hx
      · rw [Option.map_eq_some_iff] at hx
        obtain ⟨x, hx1, hx2⟩ := hx
        simp only [Prod.mk.injEq, List.cons.injEq] at hx2
        rw [if_neg (by simp [okV]; omega)]
      · cases hx
    · rfl
theorem v_bad2 {l : Nat → Nat} {nv np pl k : Nat} (hl : ∀ j, l j ≤ 126) (h : l pl = 118) (hk : (numAt l (pl + 1)).1 = some k) (hb : l (numAt l (pl + 1)).2 ≠ 44 ∨ badN l ((numAt l (pl + 1)).2 + 1) (nI 0) (nI 60)) : itemF l nv np pl = none := by
  rw [itemF_v h, numsAt_2, hk]
  simp only
  rcases hb with hb | hb | hb | ⟨v, h1, h2⟩
  · rw [if_neg hb]
  · rw [nums_bad (Or.inl hb)]; simp
  · rw [nums_bad (Or.inr hb)]; simp
  · have hv := wi_lo (numAt_lt hl v h1) (by decide) h2
    rw [numsAt_1, h1]
    simp only
    split
    · next k o q hx =>
      split at hx
      · rw [Option.map_eq_some_iff] at hx
        obtain ⟨x, hx1, hx2⟩ := hx
        split at hx1
        · cases hx1
          cases hx2
          rw [if_neg (by simp [okV]; omega)]
        · cases hx1
      · cases hx
    · rfl
theorem v_good {l : Nat → Nat} {nv np pl k o : Nat} (h : l pl = 118) (h7 : nv < 7) (hk : (numAt l (pl + 1)).1 = some k) (hk4 : k ≤ 4) (h44 : l (numAt l (pl + 1)).2 = 44) (ho : (numAt l ((numAt l (pl + 1)).2 + 1)).1 = some o) (ho6 : o ≤ 60) : itemF l nv np pl = if l (numAt l ((numAt l (pl + 1)).2 + 1)).2 = 59 then some ((118, [k, o]), (numAt l ((numAt l (pl + 1)).2 + 1)).2 + 1) else none := by
  rw [itemF_v h, numsAt_2, hk]
  simp only
  rw [if_pos h44, numsAt_1, ho]
  simp only
  by_cases e : l (numAt l ((numAt l (pl + 1)).2 + 1)).2 = 59
  · rw [if_pos e]
    simp only [Option.map_some]
    rw [if_pos (by simp [okV]; omega), if_pos e]
  · rw [if_neg e, if_neg e]
    rfl
theorem p_bad {l : Nat → Nat} {nv np pl : Nat} (hl : ∀ j, l j ≤ 126) (h : l pl = 112) (hn : nv < 100) (hb : badN l (pl + 1) (nI 0) (nI nv - nI 1)) : itemF l nv np pl = none := by
  rw [itemF_p h]
  rcases hb with hb | hb | ⟨v, h1, h2⟩
  · rw [nums_bad (Or.inl hb)]
  · rw [nums_bad (Or.inr hb)]
  · have hv := in_lo (numAt_lt hl v h1) hn h2
    rw [numsAt_1, h1]
    simp only
    split
    · next k q hx =>
      split at hx
      · cases hx
        rw [if_neg (by simp [okP]; omega)]
      · cases hx
    · rfl
theorem p_good {l : Nat → Nat} {nv np pl v : Nat} (h : l pl = 112) (h3 : np < 3) (hk : (numAt l (pl + 1)).1 = some v) (hv : v < nv) : itemF l nv np pl = if l (numAt l (pl + 1)).2 = 59 then some ((112, [v]), (numAt l (pl + 1)).2 + 1) else none := by
  rw [itemF_p h, numsAt_1, hk]
  simp only
  by_cases e : l (numAt l (pl + 1)).2 = 59
  · rw [if_pos e]
    simp only
    rw [if_pos (by simp [okP]; omega), if_pos e]
  · rw [if_neg e, if_neg e]
theorem w_bad1 {l : Nat → Nat} {nv np pl : Nat} (hl : ∀ j, l j ≤ 126) (h : l pl = 119) (hn : nv < 100) (hb : badN l (pl + 1) (nI 0) (nI nv - nI 1)) : itemF l nv np pl = none := by
  rw [itemF_w h]
  rcases hb with hb | hb | ⟨v, h1, h2⟩
  · rw [nums_bad (Or.inl hb)]
  · rw [nums_bad (Or.inr hb)]
  · have hv := in_lo (numAt_lt hl v h1) hn h2
    rw [numsAt_2, h1]
    simp only
    split
    · next a b y q hx =>
      split at hx
      · rw [Option.map_eq_some_iff] at hx
        obtain ⟨x, hx1, hx2⟩ := hx
        simp only [Prod.mk.injEq, List.cons.injEq] at hx2
        rw [if_neg (by simp [okW]; omega)]
      · cases hx
    · rfl
theorem w_bad2 {l : Nat → Nat} {nv np pl a : Nat} (hl : ∀ j, l j ≤ 126) (h : l pl = 119) (hn : nv < 100) (ha : (numAt l (pl + 1)).1 = some a) (hb : l (numAt l (pl + 1)).2 ≠ 44 ∨ badN l ((numAt l (pl + 1)).2 + 1) (nI 0) (nI nv - nI 1)) : itemF l nv np pl = none := by
  rw [itemF_w h, numsAt_2, ha]
  simp only
  rcases hb with hb | hb | hb | ⟨v, h1, h2⟩
  · rw [if_neg hb]
  · rw [nums_bad (Or.inl hb)]; simp
  · rw [nums_bad (Or.inr hb)]; simp
  · have hv := in_lo (numAt_lt hl v h1) hn h2
    rw [numsAt_2 (r := 0), h1]
    simp only
    split
    · next a b y q hx =>
      split at hx
      · rw [Option.map_eq_some_iff] at hx
        obtain ⟨x, hx1, hx2⟩ := hx
        split at hx1
        · rw [Option.map_eq_some_iff] at hx1
          obtain ⟨x2, hx3, hx4⟩ := hx1
          cases hx4
          simp only [Prod.mk.injEq, List.cons.injEq] at hx2
          rw [if_neg (by simp [okW]; omega)]
        · cases hx1
      · cases hx
    · rfl
theorem w_bad3 {l : Nat → Nat} {nv np pl a b : Nat} (hl : ∀ j, l j ≤ 126) (h : l pl = 119) (ha : (numAt l (pl + 1)).1 = some a) (h44 : l (numAt l (pl + 1)).2 = 44) (hb' : (numAt l ((numAt l (pl + 1)).2 + 1)).1 = some b) (hb : l (numAt l ((numAt l (pl + 1)).2 + 1)).2 ≠ 44 ∨ badN l ((numAt l ((numAt l (pl + 1)).2 + 1)).2 + 1) (nI 1) (nI 20)) : itemF l nv np pl = none := by
  rw [itemF_w h, numsAt_2, ha]
  simp only
  rw [if_pos h44, numsAt_2 (r := 0), hb']
  simp only
  rcases hb with hb | hb | hb | ⟨v, h1, h2⟩
  · rw [if_neg hb]; simp
  · rw [nums_bad (Or.inl hb)]; simp
  · rw [nums_bad (Or.inr hb)]; simp
  · have hv : ¬ (1 ≤ v ∧ v ≤ 20) := by
      have := numAt_lt hl v h1
      rw [wi_nI (by omega) (by decide) (by decide)] at h2
      simp at h2
      omega
    rw [numsAt_1, h1]
    simp only
    split
    · next a b y q hx =>
      rw [Option.map_eq_some_iff] at hx
      obtain ⟨x, hx1, hx2⟩ := hx
      split at hx1
      · rw [Option.map_eq_some_iff] at hx1
        obtain ⟨x2, hx3, hx4⟩ := hx1
        split at hx3
        · cases hx3
          cases hx4
          cases hx2
          rw [if_neg (by simp [okW]; omega)]
        · cases hx3
      · cases hx1
    · rfl
theorem w_good {l : Nat → Nat} {nv np pl a b y : Nat} (h : l pl = 119) (ha : (numAt l (pl + 1)).1 = some a) (h44 : l (numAt l (pl + 1)).2 = 44) (hb : (numAt l ((numAt l (pl + 1)).2 + 1)).1 = some b) (h44b : l (numAt l ((numAt l (pl + 1)).2 + 1)).2 = 44) (hy : (numAt l ((numAt l ((numAt l (pl + 1)).2 + 1)).2 + 1)).1 = some y) : itemF l nv np pl = if okW nv a b y then (if l (numAt l ((numAt l ((numAt l (pl + 1)).2 + 1)).2 + 1)).2 = 59 then some ((119, [a, b, y]), (numAt l ((numAt l ((numAt l (pl + 1)).2 + 1)).2 + 1)).2 + 1) else none) else none := by
  rw [itemF_w h, numsAt_2, ha]
  simp only
  rw [if_pos h44, numsAt_2 (r := 0), hb]
  simp only
  rw [if_pos h44b, numsAt_1, hy]
  simp only
  by_cases e : l (numAt l ((numAt l ((numAt l (pl + 1)).2 + 1)).2 + 1)).2 = 59
  · rw [if_pos e]
    simp only [Option.map_some]
    rw [if_pos e]
  · rw [if_neg e, if_neg e]
    simp

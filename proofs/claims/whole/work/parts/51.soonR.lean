/-! THE REFERENCE's soonest -/
theorem pcA_r : ∀ n, n < 8 → ∀ r, r < 2 ^ n → pcA r n = pc7 r := by decide +kernel
section SO
variable {G : xGl} {d N p v : Nat} {w : aX} {l : aLd} {b : aBk} {M : xMem} {S : List xSh} {Q : Option Value → List xSh → xMem → Prop} {y : Int32}
def soK (M M1 : xMem) : Prop := (∀ a, a ≠ 156 → a ≠ 166 → a ≠ 167 → M1 a = M a) ∧ ∀ j, j ≠ 22 → M1 156 j = M 156 j
theorem rLm_so {M M1 : xMem} (h : rLm M l) (hk : soK M M1) : rLm M1 l := rLm_keep h (hk.2 0 (by decide)) (hk.2 2 (by decide)) (hk.1 157 (by decide) (by decide) (by decide)) (hk.1 158 (by decide) (by decide) (by decide)) (hk.1 159 (by decide) (by decide) (by decide))
theorem repM_so {M M1 : xMem} (h : repM w M) (hk : soK M M1) : repM w M1 := by
  obtain ⟨⟨t1, t2⟩, r1, r2, ⟨r3, r3b⟩, ⟨r4, r4b⟩, ⟨r5, r6⟩⟩ := h
  have e := fun a (h1 : a ≠ 156) h2 h3 => hk.1 a h1 h2 h3
  have e162 := hk.1 162 (by decide) (by decide) (by decide)
  exact ⟨⟨by rw [hk.2 12 (by decide)]; exact t1, fun j hj => by rw [hk.1 163 (by decide) (by decide) (by decide)]; exact t2 j hj⟩, rLm_so r1 hk, rS_keep r2 (fun j _ _ => by rw [e162]), ⟨by rw [hk.2 10 (by decide)]; exact r3, fun i k hi => rS_keep (r3b i k hi) (fun j _ _ => by rw [e162])⟩, ⟨by rw [hk.2 11 (by decide)]; exact r4, fun i k hi => rS_keep (r4b i k hi) (fun j _ _ => by rw [e162])⟩, ⟨by rw [hk.2 17 (by decide)]; exact r5, fun i k hi => by rw [hk.1 164 (by decide) (by decide) (by decide), hk.1 165 (by decide) (by decide) (by decide)]; exact r6 i k hi⟩⟩
/-- the days of the best, or the mark of none -/
def bsT (o : Option (Nat × Nat)) : Nat := match o with
  | none => 89991
  | some q => q.1
theorem soon_loop {dy n : Nat} (hl : okL l) (hL : rLm M l) (hS : rS M 0 b) (hB : okB l.1 dy b) (hdy : dy < 80000) (hn : n < 3000) (hrt : ∀ p, p < l.2.1 → ∀ s, s < 2 ^ l.1 → M 167 (128 * p + s) = nI (fo (shA l (b.2.2.2.2.1 p) s))) (hQ : ∀ (M1 : xMem) (A : Option Value), (∀ a, a ≠ 156 → M1 a = M a) → (∀ j, j ≠ 22 → M1 156 j = M 156 j) → (∀ q, bsA l b (restN l.1 b.1) n = some q → M1 156 22 = nI q.2) → xW G mX10_soonest (d + 9) 0 0 Q 133 [some (.ref (G.1 + 156)), some (.int y), some (.int (nI n)), some (.int (nI (bsT (bsA l b (restN l.1 b.1) n)))), some (.int (nI n)), A] [] SF M1) : ∀ A, xW G mX10_soonest (d + 9) 0 0 Q 87 [some (.ref (G.1 + 156)), some (.int y), some (.int (nI n)), some (.int (nI 89991)), some (.int (nI 0)), A] [] SF M := by
  have s0 := sh156
  intro A
  generalize hrr : restN l.1 b.1 = r at *
  refine dn (P := fun c => ∀ (M1 : xMem) (A : Option Value), (∀ a, a ≠ 156 → M1 a = M a) → (∀ j, j ≠ 22 → M1 156 j = M 156 j) → (∀ q, bsA l b r c = some q → M1 156 22 = nI q.2) → xW G mX10_soonest (d + 9) 0 0 Q 87 [some (.ref (G.1 + 156)), some (.int y), some (.int (nI n)), some (.int (nI (bsT (bsA l b r c)))), some (.int (nI c)), A] [] SF M1) n ?_ ?_ 0 (by omega) M A (fun _ _ => rfl) (fun _ _ => rfl) (fun q hq => by cases hq)
  · intro M1 A f1 f2 f3
    have h9 := hQ M1 A f1 f2 f3
    refine xs_iload eX10_soonest_87 rfl ?_
    refine xs_iload eX10_soonest_89 rfl ?_
    refine xs_N_ge eX10_soonest_90 (by omega) (by omega) (fun h90 => ?_) (fun h => absurd h (by omega))
    exact h9
  · intro c hc ih M1 A f1 f2 f3
    have hk : soK M M1 := ⟨fun a a1 _ _ => f1 a a1, f2⟩
    have hL1 := rLm_so hL hk
    have hS1 : rS M1 0 b := rS_keep hS (fun j _ _ => by rw [f1 162 (by decide)])
    have hT := fun m (hm : dyA l b r c l.2.1 = some m) => dyA_le (r := r) (code := c) hl hB hl.2.1.2 hm
    have hbq := fun q (hq : bsA l b r c = some q) => dyA_le (r := r) hl hB hl.2.1.2 (bsA_lt hq).2
    have hb9 : bsT (bsA l b r c) ≤ 89991 := by
      cases hx : bsA l b r c with
      | none => exact Nat.le_refl _
      | some q => have := hbq q hx; show q.1 ≤ 89991; omega
    have ht9 : optT (dyA l b r c l.2.1) ≤ 89991 := by
      cases hx : dyA l b r c l.2.1 with
      | none => exact Nat.le_refl _
      | some q => have := hT q hx; show q ≤ 89991; omega
    have hd9 : optT (dyA l b r c l.2.1) < bsT (bsA l b r c) → bsA l b r (c + 1) = some (optT (dyA l b r c l.2.1), c) := by
      intro h
      rw [bsA]
      cases hx : dyA l b r c l.2.1 with
      | none => rw [hx] at h; have h : 89991 < bsT (bsA l b r c) := h; omega
      | some m =>
        rw [hx] at h
        cases hy : bsA l b r c with
        | none => rfl
        | some q =>
          rw [hy] at h
          have h : m < q.1 := h
          show (if m < q.1 then some (m, c) else some q) = some (m, c)
          rw [if_pos h]
    have hn9 : ¬ optT (dyA l b r c l.2.1) < bsT (bsA l b r c) → bsA l b r (c + 1) = bsA l b r c := by
      intro h
      rw [bsA]
      cases hx : dyA l b r c l.2.1 with
      | none => rfl
      | some m =>
        rw [hx] at h
        have hm := hT m hx
        cases hy : bsA l b r c with
        | none => rw [hy] at h; exact absurd (show m < 89991 by omega) h
        | some q =>
          rw [hy] at h
          have h : ¬ m < q.1 := h
          show (if m < q.1 then some (m, c) else some q) = some q
          rw [if_neg h]
    subst hrr
    refine xs_iload eX10_soonest_87 rfl ?_
    refine xs_iload eX10_soonest_89 rfl ?_
    refine xs_N_ge eX10_soonest_90 (by omega) (by omega) (fun h => absurd h (by omega)) (fun h90 => ?_)
    refine xs_aload eX10_soonest_93 rfl ?_
    refine xs_iload eX10_soonest_94 rfl ?_
    refine xs_callV1i eX10_soonest_96 (by assumption) (Nat.le_of_ble_eq_true rfl) (c_X10_takes (b := b) (dy := dy) hl hL1 hS1 hB hdy (by omega) (fun p hp s hs => by rw [f1 167 (by decide)]; exact hrt p hp s hs) ⟨_, rfl, ?_⟩)
    refine xs_istore eX10_soonest_99 (Nat.le_of_ble_eq_true rfl) rfl rfl ?_
    refine xs_aload eX10_soonest_101 rfl ?_
    refine xs_iload eX10_soonest_102 rfl ?_
    refine xs_iload eX10_soonest_104 rfl ?_
    refine xs_N_ge eX10_soonest_105 (by omega) (by omega) (fun h105 => ?_) (fun h105 => ?_)
    · refine xs_aload eX10_soonest_113 rfl ?_
      refine xs_getI eX10_soonest_114 (by assumption) (by rfl) ?_
      refine xs_putI eX10_soonest_117 (by assumption) (by rfl) rfl rfl ?_
      refine xs_iload eX10_soonest_120 rfl ?_
      refine xs_iload eX10_soonest_121 rfl ?_
      refine xs_callS2i eX10_soonest_123 (Nat.le_of_ble_eq_true rfl) (c_X10_smaller (by omega) (by omega) ⟨_, rfl, ?_⟩)
      refine xs_istore eX10_soonest_126 (Nat.le_of_ble_eq_true rfl) rfl rfl ?_
      refine xs_inc1 eX10_soonest_127 rfl rfl rfl ?_
      refine xs_goto eX10_soonest_130 ?_
      have e9 := hn9 (by omega)
      rw [e9] at ih
      rw [show mnA (bsT (bsA l b (restN l.1 b.1) c)) (optT (dyA l b (restN l.1 b.1) c l.2.1)) = bsT (bsA l b (restN l.1 b.1) c) by unfold mnA; rw [if_neg (by omega)]]
      exact ih _ _ (fun a ha => by rw [up2_ne ha]; exact f1 a ha) (fun j hj => by rw [up2_x, if_neg hj]; exact f2 j hj) (fun q hq => by rw [up2_x, if_pos rfl]; exact f3 q hq)
    · refine xs_iload eX10_soonest_108 rfl ?_
      refine xs_goto eX10_soonest_110 ?_
      refine xs_putI eX10_soonest_117 (by assumption) (by rfl) rfl rfl ?_
      refine xs_iload eX10_soonest_120 rfl ?_
      refine xs_iload eX10_soonest_121 rfl ?_
      refine xs_callS2i eX10_soonest_123 (Nat.le_of_ble_eq_true rfl) (c_X10_smaller (by omega) (by omega) ⟨_, rfl, ?_⟩)
      refine xs_istore eX10_soonest_126 (Nat.le_of_ble_eq_true rfl) rfl rfl ?_
      refine xs_inc1 eX10_soonest_127 rfl rfl rfl ?_
      refine xs_goto eX10_soonest_130 ?_
      have e9 := hd9 h105
      rw [e9] at ih
      rw [show mnA (bsT (bsA l b (restN l.1 b.1) c)) (optT (dyA l b (restN l.1 b.1) c l.2.1)) = optT (dyA l b (restN l.1 b.1) c l.2.1) by unfold mnA; rw [if_pos h105]]
      exact ih _ _ (fun a ha => by rw [up2_ne ha]; exact f1 a ha) (fun j hj => by rw [up2_x, if_neg hj]; exact f2 j hj) (fun q hq => by cases hq; rw [up2_x, if_pos rfl])
end SO

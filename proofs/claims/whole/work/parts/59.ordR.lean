/-! THE REFERENCE: lists, swaps, goesOn -/
def roK (M M1 : xMem) : Prop := (∀ a, a ≠ 156 → a ≠ 168 → a ≠ 169 → a ≠ 162 → M1 a = M a) ∧ (∀ j, j ≠ 23 → M1 156 j = M 156 j) ∧ ∀ j, j < 242 ∨ 264 ≤ j → M1 162 j = M 162 j
/-- the row holds an order -/
def rRow (M : xMem) (o : List Nat) : Prop := ∀ k, k < o.length → M 168 k = nI (o.getD k 0)
def rF (M : xMem) (m : Nat) (f : Nat → Nat) : Prop := ∀ k, k < m → M 168 k = nI (f k)
theorem iinc_z (y : Int32) : y + Int32.ofInt (-1) = y - nI 1 := by rw [show Int32.ofInt (-1) = -nI 1 by decide, Int32.sub_eq_add_neg]
theorem iinc_m {c : Nat} (h : 1 ≤ c) : nI c + Int32.ofInt (-1) = nI (c - 1) := (iinc_z _).trans (pk_sub h)
section OR
variable {G : xGl} {d N c p v : Nat} {w : aX} {l : aLd} {b : aBk} {M : xMem} {S : List xSh} {Q : Option Value → List xSh → xMem → Prop} {y : Int32}
theorem c_X10_lists (hl : okL l) (hL : rLm M l) (hS : rS M 0 b) (hQ : ∀ M1, (∀ a, a ≠ 156 → a ≠ 168 → M1 a = M a) → (∀ j, j ≠ 23 → M1 156 j = M 156 j) → M1 156 23 = nI (pc7 (restN l.1 b.1)) → rRow M1 (bitsL (restN l.1 b.1)) → Q none SF M1) : xC G mX10_lists (d + 2) 0 0 [.ref (G.1 + 156)] SF M Q := by
  have s0 := sh156
  have s1 := sh168
  have h7 := hl.1.2
  have hn := hL.1
  have hrl := restN_lt (ib := b.1) h7
  rw [show pc7 (restN l.1 b.1) = (bitsL (restN l.1 b.1)).length from rfl, ← bitsL_nv l.1 (by omega) _ hrl] at hQ
  have hbt : ∀ i, i < l.1 → (restN l.1 b.1).testBit i = !b.1.testBit i := fun i hi => by rw [restN_bt h7 (by omega), decide_eq_true hi, Bool.true_and]
  generalize restN l.1 b.1 = r at *
  refine xC_intro [some (.ref (G.1 + 156)), none] rfl (by decide) (Nat.le_of_ble_eq_true rfl) ?_
  refine xs_aload eX10_lists_0 rfl ?_
  refine xs_K eX10_lists_1 ?_
  refine xs_putI eX10_lists_2 (by assumption) (by rfl) rfl rfl ?_
  refine xs_K eX10_lists_5 ?_
  refine xs_istore eX10_lists_6 (Nat.le_of_ble_eq_true rfl) rfl rfl ?_
  refine dn (P := fun i => ∀ M1, (∀ a, a ≠ 156 → a ≠ 168 → M1 a = M a) → (∀ j, j ≠ 23 → M1 156 j = M 156 j) → M1 156 23 = nI ((List.range i).filter (fun v => r.testBit v)).length → rRow M1 ((List.range i).filter (fun v => r.testBit v)) → xW G mX10_lists (d + 2) 0 0 Q 7 [some (.ref (G.1 + 156)), some (.int (nI i))] [] SF M1) l.1 ?_ ?_ 0 (by omega) _ (fun a a1 a2 => up2_ne a1) (fun j hj => by rw [up2_x, if_neg hj]) (by rw [up2_x, if_pos rfl]; rfl) (fun k hk => by cases hk)
  · intro M1 f1 f2 f3 f4
    have hn1 : M1 156 0 = nI l.1 := by rw [f2 0 (by decide)]; exact hn
    refine xs_iload eX10_lists_7 rfl ?_
    refine xs_aload eX10_lists_8 rfl ?_
    refine xs_getI eX10_lists_9 (by assumption) (by rfl) ?_
    refine xs_eq1 hn1 ?_
    refine xs_N_ge eX10_lists_12 (by omega) (by omega) (fun h12 => ?_) (fun h => absurd h (by omega))
    exact xs_vret eX10_lists_49 rfl (hQ M1 f1 f2 f3 f4)
  · intro i hi ih M1 f1 f2 f3 f4
    have hn1 : M1 156 0 = nI l.1 := by rw [f2 0 (by decide)]; exact hn
    have hS1 : rS M1 0 b := rS_keep hS (fun j _ _ => by rw [f1 162 (by decide) (by decide)])
    have hb := hbt i hi
    have hlen : ((List.range i).filter (fun v => r.testBit v)).length ≤ i := by
      have := List.length_filter_le (fun v => r.testBit v) (List.range i)
      rwa [List.length_range] at this
    rw [List.range_succ, List.filter_append] at ih
    generalize (List.range i).filter (fun v => r.testBit v) = o at *
    refine xs_iload eX10_lists_7 rfl ?_
    refine xs_aload eX10_lists_8 rfl ?_
    refine xs_getI eX10_lists_9 (by assumption) (by rfl) ?_
    refine xs_eq1 hn1 ?_
    refine xs_N_ge eX10_lists_12 (by omega) (by omega) (fun h => absurd h (by omega)) (fun h12 => ?_)
    refine xs_aload eX10_lists_15 rfl ?_
    refine xs_iload eX10_lists_16 rfl ?_
    refine xs_callV1i eX10_lists_17 (by assumption) (Nat.le_of_ble_eq_true rfl) (c_X10_isIn hS1 (by omega) ⟨_, rfl, ?_⟩)
    refine xs_ifneB eX10_lists_20 (fun h20 => ?_) (fun h20 => ?_)
    · refine xs_inc1 eX10_lists_43 rfl rfl rfl ?_
      refine xs_goto eX10_lists_46 ?_
      rw [List.filter_cons_of_neg (by rw [hb, h20]; decide), List.filter_nil, List.append_nil] at ih
      exact ih M1 f1 f2 f3 f4
    · refine xs_aload eX10_lists_23 rfl ?_
      refine xs_getR eX10_lists_24 (by assumption) (by rfl) ?_
      refine xs_aload eX10_lists_27 rfl ?_
      refine xs_getI eX10_lists_28 (by assumption) (by rfl) ?_
      refine xs_eq1 f3 ?_
      refine xs_iload eX10_lists_31 rfl ?_
      refine xs_iast eX10_lists_32 (by assumption) (by omega) (by decide) ?_
      refine xs_aload eX10_lists_33 rfl ?_
      refine xs_dup eX10_lists_34 rfl ?_
      refine xs_getI eX10_lists_35 (by assumption) (by rfl) ?_
      refine xs_eq1 (z := nI o.length) (by rw [up2_ne (by decide)]; exact f3) ?_
      refine xs_K eX10_lists_38 ?_
      refine xs_iadd eX10_lists_39 ?_
      refine xs_eq1 (nI_add _ 1) ?_
      refine xs_putI eX10_lists_40 (by assumption) (by rfl) rfl rfl ?_
      refine xs_inc1 eX10_lists_43 rfl rfl rfl ?_
      refine xs_goto eX10_lists_46 ?_
      rw [List.filter_cons_of_pos (by rw [hb, h20]; rfl), List.filter_nil] at ih
      exact ih _ (fun a a1 a2 => by rw [up2_ne a1, up2_ne a2]; exact f1 a a1 a2) (fun j hj => by rw [up2_x, if_neg hj, up2_ne (by decide)]; exact f2 j hj) (by rw [up2_x, if_pos rfl, List.length_append]; rfl) (fun k hk => by
        rw [up2_ne (by decide), up2_x]
        rw [List.length_append] at hk
        have hk : k < o.length + 1 := hk
        by_cases e : k = o.length
        · rw [if_pos e, e]; simp [List.getD_eq_getElem?_getD]
        · rw [if_neg e, f4 k (by omega)]; simp only [List.getD_eq_getElem?_getD]; rw [List.getElem?_append_left (by omega)])
theorem c_X10_swaps {m i j : Nat} {f : Nat → Nat} (hi : i < m) (hj : j < m) (hm : m ≤ 7) (hF : rF M m f) (hQ : ∀ M1, (∀ a, a ≠ 168 → M1 a = M a) → rF M1 m (swF f i j) → Q none SF M1) : xC G mX10_swaps d 0 0 [.ref (G.1 + 156), .int (nI i), .int (nI j)] SF M Q := by
  have s0 := sh156
  have s1 := sh168
  have h1 := hF i hi
  have h2 := hF j hj
  have hq := hQ (up2 (up2 M 168 i (nI (f j))) 168 j (nI (f i))) (fun a ha => by rw [up2_ne ha, up2_ne ha]) (fun k hk => by
    rw [up2_x, up2_x]
    unfold swF va_up
    by_cases e : k = j
    · rw [if_pos e, if_pos e]
    · rw [if_neg e, if_neg e]
      by_cases e2 : k = i
      · rw [if_pos e2, if_pos e2]
      · rw [if_neg e2, if_neg e2]
        exact hF k hk)
  refine xC_intro [some (.ref (G.1 + 156)), some (.int (nI i)), some (.int (nI j)), none] rfl (by decide) (Nat.le_of_ble_eq_true rfl) ?_
  refine xs_aload eX10_swaps_0 rfl ?_
  refine xs_getR eX10_swaps_1 (by assumption) (by rfl) ?_
  refine xs_iload eX10_swaps_4 rfl ?_
  refine xs_iald eX10_swaps_5 (by assumption) (by omega) (by decide) ?_
  refine xs_eq1 h1 ?_
  refine xs_istore eX10_swaps_6 (Nat.le_of_ble_eq_true rfl) rfl rfl ?_
  refine xs_aload eX10_swaps_7 rfl ?_
  refine xs_getR eX10_swaps_8 (by assumption) (by rfl) ?_
  refine xs_iload eX10_swaps_11 rfl ?_
  refine xs_aload eX10_swaps_12 rfl ?_
  refine xs_getR eX10_swaps_13 (by assumption) (by rfl) ?_
  refine xs_iload eX10_swaps_16 rfl ?_
  refine xs_iald eX10_swaps_17 (by assumption) (by omega) (by decide) ?_
  refine xs_eq1 h2 ?_
  refine xs_iast eX10_swaps_18 (by assumption) (by omega) (by decide) ?_
  refine xs_aload eX10_swaps_19 rfl ?_
  refine xs_getR eX10_swaps_20 (by assumption) (by rfl) ?_
  refine xs_iload eX10_swaps_23 rfl ?_
  refine xs_iload eX10_swaps_24 rfl ?_
  refine xs_iast eX10_swaps_25 (by assumption) (by omega) (by decide) ?_
  exact xs_vret eX10_swaps_26 rfl (hq)
theorem kF_lt {f : Nat → Nat} : ∀ {n k : Nat}, kF f n = some k → k < n ∧ f k ≤ f (k + 1)
  | 0, k, h => by cases h
  | n + 1, k, h => by
    rw [kF] at h
    split at h
    · have := kF_lt h; omega
    · cases h; omega
theorem jF_ge {f : Nat → Nat} {x k : Nat} (hk : ¬ f k < x) : ∀ {j : Nat}, k ≤ j → k ≤ jF f x j ∧ jF f x j ≤ j
  | 0, h => by simp only [jF]; omega
  | j + 1, h => by
    rw [jF]
    split
    · next hx =>
      by_cases e : k = j + 1
      · rw [e] at hk; exact absurd hx hk
      · have := jF_ge (f := f) (x := x) (k := k) hk (j := j) (by omega)
        omega
    · omega
theorem c_X10_goesOn {m : Nat} {f : Nat → Nat} (hm : m ≤ 7) (hmn : M 156 23 = nI m) (hF : rF M m f) (hf7 : ∀ k, k < m → f k < 7) (hN : nxF m f = none → Q (some (.int (bI false))) SF M) (hQ : ∀ M1 g, nxF m f = some g → (∀ a, a ≠ 168 → M1 a = M a) → rF M1 m g → Q (some (.int (bI true))) SF M1) : xC G mX10_goesOn (d + 1) 0 0 [.ref (G.1 + 156)] SF M Q := by
  have s0 := sh156
  have s1 := sh168
  refine xC_intro [some (.ref (G.1 + 156)), none, none, none, none] rfl (by decide) (Nat.le_of_ble_eq_true rfl) ?_
  have K86 : ∀ (n : Nat) (M1 : xMem) (g : Nat → Nat) (a c : Nat) (A B : Int32), (∀ a, a ≠ 168 → M1 a = M a) → rF M1 m g → c < m → c ≤ a + 2 * n → a ≤ c + 1 → nxF m f = some (rvF n g a c) → xW G mX10_goesOn (d + 1) 0 0 Q 86 [some (.ref (G.1 + 156)), some (.int A), some (.int B), some (.int (nI a)), some (.int (nI c))] [] SF M1 := by
    intro n
    induction n with
    | zero =>
      intro M1 g a c A B f1 f2 hc hn ha hx
      refine xs_iload eX10_goesOn_86 rfl ?_
      refine xs_iload eX10_goesOn_87 rfl ?_
      refine xs_N_ge eX10_goesOn_89 (by omega) (by omega) (fun h89 => ?_) (fun h => absurd h (by omega))
      refine xs_K eX10_goesOn_108 ?_
      exact xs_iret eX10_goesOn_109 rfl (by first | exact bI_nar _ | rfl) (hQ M1 g hx f1 f2)
    | succ n ih =>
      intro M1 g a c A B f1 f2 hc hn ha hx
      rw [rvF] at hx
      by_cases e : a < c
      · rw [if_pos e] at hx
        refine xs_iload eX10_goesOn_86 rfl ?_
        refine xs_iload eX10_goesOn_87 rfl ?_
        refine xs_N_ge eX10_goesOn_89 (by omega) (by omega) (fun h => absurd h (by omega)) (fun h89 => ?_)
        refine xs_aload eX10_goesOn_92 rfl ?_
        refine xs_iload eX10_goesOn_93 rfl ?_
        refine xs_iload eX10_goesOn_94 rfl ?_
        refine xs_callV2v eX10_goesOn_96 (by assumption) (Nat.le_of_ble_eq_true rfl) (c_X10_swaps (m := m) (f := g) (by omega) hc hm f2 (fun M2 g1 g2 => ⟨rfl, ?_⟩))
        refine xs_inc1 eX10_goesOn_99 rfl rfl rfl ?_
        refine xs_iinc (v := nI (c - 1)) eX10_goesOn_102 rfl (iinc_m (by omega)) rfl rfl ?_
        skip
        refine xs_goto eX10_goesOn_105 ?_
        exact ih M2 _ _ _ _ _ (fun a ha => by rw [g1 a ha]; exact f1 a ha) g2 (by omega) (by omega) (by omega) hx
      · rw [if_neg e] at hx
        refine xs_iload eX10_goesOn_86 rfl ?_
        refine xs_iload eX10_goesOn_87 rfl ?_
        refine xs_N_ge eX10_goesOn_89 (by omega) (by omega) (fun h89 => ?_) (fun h => absurd h (by omega))
        refine xs_K eX10_goesOn_108 ?_
        exact xs_iret eX10_goesOn_109 rfl (by first | exact bI_nar _ | rfl) (hQ M1 g hx f1 f2)
  have K47 : ∀ k, kF f (m - 1) = some k → ∀ j, k ≤ j → j < m → jF f (f k) (m - 1) = jF f (f k) j → xW G mX10_goesOn (d + 1) 0 0 Q 47 [some (.ref (G.1 + 156)), some (.int (nI k)), some (.int (nI j)), none, none] [] SF M := by
    intro k hk j
    have hk1 := kF_lt hk
    have hfk := hF k (by omega)
    have hk7 := hf7 k (by omega)
    induction j with
    | zero =>
      intro h1 h2 h3
      have h0 : k = 0 := by omega
      subst h0
      rw [jF] at h3
      have K9 := fun M1 g1 g2 => K86 4 M1 (swF f 0 (jF f (f 0) (m - 1))) (0 + 1) (m - 1) (nI 0) (nI 0) g1 g2 (by omega) (by omega) (by omega) (by simp only [nxF, hk])
      rw [h3] at K9
      refine xs_aload eX10_goesOn_47 rfl ?_
      refine xs_getR eX10_goesOn_48 (by assumption) (by rfl) ?_
      refine xs_iload eX10_goesOn_51 rfl ?_
      refine xs_iald eX10_goesOn_52 (by assumption) (by omega) (by decide) ?_
      refine xs_eq1 hfk ?_
      refine xs_aload eX10_goesOn_53 rfl ?_
      refine xs_getR eX10_goesOn_54 (by assumption) (by rfl) ?_
      refine xs_iload eX10_goesOn_57 rfl ?_
      refine xs_iald eX10_goesOn_58 (by assumption) (by omega) (by decide) ?_
      refine xs_eq1 hfk ?_
      refine xs_N_ge eX10_goesOn_59 (by omega) (by omega) (fun h59 => ?_) (fun h => absurd h (by omega))
      refine xs_aload eX10_goesOn_68 rfl ?_
      refine xs_iload eX10_goesOn_69 rfl ?_
      refine xs_iload eX10_goesOn_70 rfl ?_
      refine xs_callV2v eX10_goesOn_71 (by assumption) (Nat.le_of_ble_eq_true rfl) (c_X10_swaps (m := m) (f := f) (by omega) (by omega) hm hF (fun M1 g1 g2 => ⟨rfl, ?_⟩))
      refine xs_iload eX10_goesOn_74 rfl ?_
      refine xs_K eX10_goesOn_75 ?_
      refine xs_iadd eX10_goesOn_76 ?_
      refine xs_eq1 (nI_add 0 1) ?_
      refine xs_istore eX10_goesOn_77 (Nat.le_of_ble_eq_true rfl) rfl rfl ?_
      refine xs_aload eX10_goesOn_78 rfl ?_
      refine xs_getI eX10_goesOn_79 (by assumption) (by rfl) ?_
      refine xs_eq1 (z := nI m) (by rw [g1 156 (by decide)]; exact hmn) ?_
      refine xs_K eX10_goesOn_82 ?_
      refine xs_isub eX10_goesOn_83 ?_
      refine xs_eq1 (pk_sub (by omega)) ?_
      refine xs_istore eX10_goesOn_84 (Nat.le_of_ble_eq_true rfl) rfl rfl ?_
      exact K9 M1 g1 g2
    | succ j ih =>
      intro h1 h2 h3
      have hfj := hF (j + 1) h2
      have hj7 := hf7 (j + 1) h2
      rw [jF] at h3
      by_cases e : f (j + 1) < f k
      · rw [if_pos e] at h3
        have hne : k ≠ j + 1 := fun q => by rw [q] at e; omega
        have ih9 := ih (by omega) (by omega) h3
        refine xs_aload eX10_goesOn_47 rfl ?_
        refine xs_getR eX10_goesOn_48 (by assumption) (by rfl) ?_
        refine xs_iload eX10_goesOn_51 rfl ?_
        refine xs_iald eX10_goesOn_52 (by assumption) (by omega) (by decide) ?_
        refine xs_eq1 hfj ?_
        refine xs_aload eX10_goesOn_53 rfl ?_
        refine xs_getR eX10_goesOn_54 (by assumption) (by rfl) ?_
        refine xs_iload eX10_goesOn_57 rfl ?_
        refine xs_iald eX10_goesOn_58 (by assumption) (by omega) (by decide) ?_
        refine xs_eq1 hfk ?_
        refine xs_N_ge eX10_goesOn_59 (by omega) (by omega) (fun h => absurd h (by omega)) (fun h59 => ?_)
        refine xs_iinc (v := nI j) eX10_goesOn_62 rfl (iinc_m (c := j + 1) (by omega)) rfl rfl ?_
        refine xs_goto eX10_goesOn_65 ?_
        exact ih9
      · rw [if_neg e] at h3
        have K9 := fun M1 g1 g2 => K86 4 M1 (swF f k (jF f (f k) (m - 1))) (k + 1) (m - 1) (nI k) (nI (j + 1)) g1 g2 (by omega) (by omega) (by omega) (by simp only [nxF, hk])
        rw [h3] at K9
        refine xs_aload eX10_goesOn_47 rfl ?_
        refine xs_getR eX10_goesOn_48 (by assumption) (by rfl) ?_
        refine xs_iload eX10_goesOn_51 rfl ?_
        refine xs_iald eX10_goesOn_52 (by assumption) (by omega) (by decide) ?_
        refine xs_eq1 hfj ?_
        refine xs_aload eX10_goesOn_53 rfl ?_
        refine xs_getR eX10_goesOn_54 (by assumption) (by rfl) ?_
        refine xs_iload eX10_goesOn_57 rfl ?_
        refine xs_iald eX10_goesOn_58 (by assumption) (by omega) (by decide) ?_
        refine xs_eq1 hfk ?_
        refine xs_N_ge eX10_goesOn_59 (by omega) (by omega) (fun h59 => ?_) (fun h => absurd h (by omega))
        refine xs_aload eX10_goesOn_68 rfl ?_
        refine xs_iload eX10_goesOn_69 rfl ?_
        refine xs_iload eX10_goesOn_70 rfl ?_
        refine xs_callV2v eX10_goesOn_71 (by assumption) (Nat.le_of_ble_eq_true rfl) (c_X10_swaps (m := m) (f := f) (by omega) (by omega) hm hF (fun M1 g1 g2 => ⟨rfl, ?_⟩))
        refine xs_iload eX10_goesOn_74 rfl ?_
        refine xs_K eX10_goesOn_75 ?_
        refine xs_iadd eX10_goesOn_76 ?_
        refine xs_eq1 (nI_add k 1) ?_
        refine xs_istore eX10_goesOn_77 (Nat.le_of_ble_eq_true rfl) rfl rfl ?_
        refine xs_aload eX10_goesOn_78 rfl ?_
        refine xs_getI eX10_goesOn_79 (by assumption) (by rfl) ?_
        refine xs_eq1 (z := nI m) (by rw [g1 156 (by decide)]; exact hmn) ?_
        refine xs_K eX10_goesOn_82 ?_
        refine xs_isub eX10_goesOn_83 ?_
        refine xs_eq1 (pk_sub (by omega)) ?_
        refine xs_istore eX10_goesOn_84 (Nat.le_of_ble_eq_true rfl) rfl rfl ?_
        exact K9 M1 g1 g2
  have K34 : ∀ k, kF f (m - 1) = some k → xW G mX10_goesOn (d + 1) 0 0 Q 34 [some (.ref (G.1 + 156)), some (.int (nI k)), none, none, none] [] SF M := by
    intro k hk
    have hk1 := kF_lt hk
    have K9 := K47 k hk (m - 1) (by omega) (by omega) rfl
    refine xs_iload eX10_goesOn_34 rfl ?_
    refine xs_N0_ge eX10_goesOn_35 (by omega) ?_
    refine xs_aload eX10_goesOn_40 rfl ?_
    refine xs_getI eX10_goesOn_41 (by assumption) (by rfl) ?_
    refine xs_eq1 hmn ?_
    refine xs_K eX10_goesOn_44 ?_
    refine xs_isub eX10_goesOn_45 ?_
    refine xs_eq1 (pk_sub (by omega)) ?_
    refine xs_istore eX10_goesOn_46 (Nat.le_of_ble_eq_true rfl) rfl rfl ?_
    exact K9
  have KN : nxF m f = none → ∀ z : Int32, z < 0 → xW G mX10_goesOn (d + 1) 0 0 Q 7 [some (.ref (G.1 + 156)), some (.int z), none, none, none] [] SF M := by
    intro h z hz
    refine xs_iload eX10_goesOn_7 rfl ?_
    refine xs_if_lt eX10_goesOn_8 (fun h8 => ?_) (fun h => absurd h (fun h => h hz))
    refine xs_iload eX10_goesOn_34 rfl ?_
    refine xs_if_ge eX10_goesOn_35 (fun h => absurd h (Int32.not_le.mpr hz)) (fun h35 => ?_)
    refine xs_K eX10_goesOn_38 ?_
    exact xs_iret eX10_goesOn_39 rfl (by first | exact bI_nar _ | rfl) (hN h)
  have K7 : ∀ n, n < m → kF f (m - 1) = kF f n → xW G mX10_goesOn (d + 1) 0 0 Q 7 [some (.ref (G.1 + 156)), some (.int (nI n - nI 1)), none, none, none] [] SF M := by
    intro n
    induction n with
    | zero =>
      intro h1 h2
      exact KN (by simp only [nxF, h2, kF]) _ (by decide)
    | succ n ih =>
      intro h1 h2
      rw [kF] at h2
      have e1 : nI (n + 1) - nI 1 = nI n := pk_sub (a := n + 1) (b := 1) (by omega)
      rw [e1]
      have hfa := hF n (by omega)
      have hfb := hF (n + 1) h1
      have h7a := hf7 n (by omega)
      have h7b := hf7 (n + 1) h1
      by_cases e : f (n + 1) < f n
      · rw [if_pos e] at h2
        have ih9 := ih (by omega) h2
        refine xs_iload eX10_goesOn_7 rfl ?_
        refine xs_N0_lt eX10_goesOn_8 (by omega) ?_
        refine xs_aload eX10_goesOn_11 rfl ?_
        refine xs_getR eX10_goesOn_12 (by assumption) (by rfl) ?_
        refine xs_iload eX10_goesOn_15 rfl ?_
        refine xs_iald eX10_goesOn_16 (by assumption) (by omega) (by decide) ?_
        refine xs_eq1 hfa ?_
        refine xs_aload eX10_goesOn_17 rfl ?_
        refine xs_getR eX10_goesOn_18 (by assumption) (by rfl) ?_
        refine xs_iload eX10_goesOn_21 rfl ?_
        refine xs_K eX10_goesOn_22 ?_
        refine xs_iadd eX10_goesOn_23 ?_
        refine xs_eq1 (nI_add n 1) ?_
        refine xs_iald eX10_goesOn_24 (by assumption) (by omega) (by decide) ?_
        refine xs_eq1 hfb ?_
        refine xs_N_le eX10_goesOn_25 (by omega) (by omega) (fun h => absurd h (by omega)) (fun h25 => ?_)
        refine xs_iinc (v := nI n - nI 1) eX10_goesOn_28 rfl (iinc_z _) rfl rfl ?_
        refine xs_goto eX10_goesOn_31 ?_
        exact ih9
      · rw [if_neg e] at h2
        have K9 := K34 n h2
        refine xs_iload eX10_goesOn_7 rfl ?_
        refine xs_N0_lt eX10_goesOn_8 (by omega) ?_
        refine xs_aload eX10_goesOn_11 rfl ?_
        refine xs_getR eX10_goesOn_12 (by assumption) (by rfl) ?_
        refine xs_iload eX10_goesOn_15 rfl ?_
        refine xs_iald eX10_goesOn_16 (by assumption) (by omega) (by decide) ?_
        refine xs_eq1 hfa ?_
        refine xs_aload eX10_goesOn_17 rfl ?_
        refine xs_getR eX10_goesOn_18 (by assumption) (by rfl) ?_
        refine xs_iload eX10_goesOn_21 rfl ?_
        refine xs_K eX10_goesOn_22 ?_
        refine xs_iadd eX10_goesOn_23 ?_
        refine xs_eq1 (nI_add n 1) ?_
        refine xs_iald eX10_goesOn_24 (by assumption) (by omega) (by decide) ?_
        refine xs_eq1 hfb ?_
        refine xs_N_le eX10_goesOn_25 (by omega) (by omega) (fun h25 => ?_) (fun h => absurd h (by omega))
        exact K9
  rcases Nat.eq_zero_or_pos m with e | e
  · subst e
    have K9 := KN rfl (nI 0 - nI 2) (by decide)
    refine xs_aload eX10_goesOn_0 rfl ?_
    refine xs_getI eX10_goesOn_1 (by assumption) (by rfl) ?_
    refine xs_eq1 hmn ?_
    refine xs_K eX10_goesOn_4 ?_
    refine xs_isub eX10_goesOn_5 ?_
    refine xs_istore eX10_goesOn_6 (Nat.le_of_ble_eq_true rfl) rfl rfl ?_
    exact K9
  · have K9 := K7 (m - 1) (by omega) rfl
    have e2 : nI m - nI 2 = nI (m - 1) - nI 1 := by
      have := pk_sub (a := m) (b := 1) (by omega)
      rw [← this, Int32.sub_sub, show nI 1 + nI 1 = nI 2 by decide]
    refine xs_aload eX10_goesOn_0 rfl ?_
    refine xs_getI eX10_goesOn_1 (by assumption) (by rfl) ?_
    refine xs_eq1 hmn ?_
    refine xs_K eX10_goesOn_4 ?_
    refine xs_isub eX10_goesOn_5 ?_
    refine xs_eq1 e2 ?_
    refine xs_istore eX10_goesOn_6 (Nat.le_of_ble_eq_true rfl) rfl rfl ?_
    exact K9
end OR

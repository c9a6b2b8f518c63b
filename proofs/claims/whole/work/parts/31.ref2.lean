/-! THE REFERENCE, second part: what stands beside, what one would swear, village, party, far, kinds, copies, agree -/
theorem maskA_bit {p : Nat → Bool} : ∀ {n : Nat}, n ≤ 7 → ∀ i, i < 8 → (maskA p n).testBit i = (decide (i < n) && p i)
  | 0, _, i, _ => by simp [maskA]
  | n + 1, h, i, hi => by
    have ih := maskA_bit (p := p) (n := n) (by omega) i hi
    have hl := sbt_mask (p := p) (n := n) (by omega)
    have h128 : maskA p n < 128 := Nat.lt_of_lt_of_le hl (pow7 (by omega))
    simp only [maskA]
    by_cases e : i = n
    · subst e
      split
      · next hp => rw [sbt_bit _ h128 i (by omega) i hi]; simp [hp]
      · next hp => rw [ih]; simp [hp]
    · have e2 : decide (i < n + 1) = decide (i < n) := decide_eq_decide.mpr (by omega)
      rw [e2, ← ih]
      split
      · rw [sbt_bit _ h128 n (by omega) i hi]; simp [e]
      · rfl
theorem bits_ext : ∀ a, a < 128 → ∀ b, b < 128 → (∀ i, i < 8 → a.testBit i = b.testBit i) → a = b := by
  intro a ha b hb h
  apply Nat.eq_of_testBit_eq
  intro i
  rcases Nat.lt_or_ge i 8 with q | q
  · exact h i q
  · rw [tb_hi (n := 7) ha (by omega), tb_hi (n := 7) hb (by omega)]
theorem maskA_self {a n : Nat} (hn : n ≤ 7) (ha : a < 2 ^ n) : maskA (fun j => a.testBit j) n = a := by
  have h128 : a < 128 := Nat.lt_of_lt_of_le ha (pow7 hn)
  refine bits_ext _ (Nat.lt_of_lt_of_le (sbt_mask hn) (pow7 hn)) _ h128 (fun i hi => ?_)
  rw [maskA_bit hn i hi]
  by_cases e : i < n
  · simp [e]
  · rw [tb_hi ha (by omega)]; simp
theorem lowA_is : ∀ a, a < 128 → ∀ i, i < 7 → a.testBit i = true → (∀ j, j < i → a.testBit j = false) → lowA a = i := by decide +kernel
theorem zero_is {a n : Nat} (hn : n ≤ 7) (ha : a < 2 ^ n) (h : ∀ j, j < n → a.testBit j = false) : a = 0 := by
  refine bits_ext _ (Nat.lt_of_lt_of_le ha (pow7 hn)) _ (by decide) (fun i hi => ?_)
  rw [Nat.zero_testBit]
  by_cases e : i < n
  · exact h i e
  · exact tb_hi ha (by omega)
def anyA (p : Nat → Bool) : Nat → Bool
  | 0 => false
  | n + 1 => anyA p n || p n
theorem anyA_iff {p : Nat → Bool} : ∀ {n : Nat}, anyA p n = true ↔ ∃ i, i < n ∧ p i = true
  | 0 => by simp [anyA]
  | n + 1 => by
    rw [anyA, Bool.or_eq_true, anyA_iff]
    constructor
    · rintro (⟨i, h1, h2⟩ | h)
      · exact ⟨i, by omega, h2⟩
      · exact ⟨n, by omega, h⟩
    · rintro ⟨i, h1, h2⟩
      by_cases e : i = n
      · subst e; exact Or.inr h2
      · exact Or.inl ⟨i, by omega, h2⟩
theorem anyA_hon {a h n : Nat} {k : Nat → Nat} (hn : n ≤ 7) (ha : a < 2 ^ n) (hh : ∀ v, v < n → h.testBit v = decide (k v = 0)) : anyA (fun j => a.testBit j && decide (k j = 0)) n = decide (a &&& h ≠ 0) := by
  have hl : a &&& h < 2 ^ n := and_lt ha
  by_cases e : a &&& h = 0
  · rw [decide_eq_false (by simp [e])]
    cases hx : anyA (fun j => a.testBit j && decide (k j = 0)) n with
    | false => rfl
    | true =>
      obtain ⟨i, h1, h2⟩ := anyA_iff.mp hx
      have h3 : (a &&& h).testBit i = true := by rw [Nat.testBit_and, hh i h1]; exact h2
      rw [e] at h3
      simp at h3
  · rw [decide_eq_true e]
    apply anyA_iff.mpr
    refine Classical.byContradiction (fun hc => e (zero_is hn hl (fun j hj => ?_)))
    rw [Nat.testBit_and, hh j hj]
    cases hx : (a.testBit j && decide (k j = 0)) with
    | false => rfl
    | true => exact absurd ⟨j, hj, hx⟩ hc
/-- the lowest of a set; none -/
def lowJ (a : Nat) : Int32 := if a = 0 then (-4) else nI (lowA a)
def nbA (l : aLd) (b : aBk) (v : Nat) : Nat := l.2.2.2.1 v &&& b.1
section R2
variable {G : xGl} {d N base : Nat} {w : aX} {l : aLd} {b : aBk} {M : xMem} {S : List xSh} {Q : Option Value → List xSh → xMem → Prop} {y y1 y2 : Int32}
theorem c_X10_areNear {a c : Nat} (hL : rLm M l) (h7 : l.1 ≤ 7) (ha : a < l.1) (hc : c < l.1) (hQ : Q (some (.int (bI ((l.2.2.2.1 a).testBit c)))) SF M) : xC G mX10_areNear d 0 0 [.ref (G.1 + 156), .int (nI a), .int (nI c)] SF M Q := by
  have s0 := sh156
  have s1 := sh158
  obtain ⟨y, y1, y2, y3⟩ := hL.2.2.2.1 a c ha hc
  refine xC_intro [some (.ref (G.1 + 156)), some (.int (nI a)), some (.int (nI c))] rfl (by decide) (Nat.le_of_ble_eq_true rfl) ?_
  refine xs_aload eX10_areNear_0 rfl ?_
  refine xs_getR eX10_areNear_1 (by assumption) (by rfl) ?_
  refine xs_K eX10_areNear_4 ?_
  refine xs_iload eX10_areNear_6 rfl ?_
  refine xs_imul eX10_areNear_7 ?_
  refine xs_eq1 (pk_mul 7 a) ?_
  refine xs_iload eX10_areNear_8 rfl ?_
  refine xs_iadd eX10_areNear_9 ?_
  refine xs_eq1 (nI_add _ c) ?_
  refine xs_iald eX10_areNear_10 (by assumption) (by omega) (by decide) ?_
  refine xs_eq1 y2 ?_
  refine xs_N0_le eX10_areNear_11 (by omega) (fun h11 => ?_) (fun h11 => ?_)
  · refine xs_K eX10_areNear_18 ?_
    exact xs_iret eX10_areNear_19 rfl (by first | exact bI_nar _ | rfl) (Qev hQ (by rw [Bool.eq_false_iff.mpr (show ¬ (l.2.2.2.1 a).testBit c = true from fun q => by have := y3.mpr q; omega)]; rfl))
  · refine xs_K eX10_areNear_14 ?_
    refine xs_goto eX10_areNear_15 ?_
    exact xs_iret eX10_areNear_19 rfl (by first | exact bI_nar _ | rfl) (Qev hQ (by rw [y3.mp (by omega)]; rfl))
theorem c_X10_besides {v : Nat} (hL : rLm M l) (hl : okL l) (hv : v < l.1) (hQ : Q (some (.int (nI (l.2.2.2.1 v)))) SF M) : xC G mX10_besides (d + 1) 0 0 [.ref (G.1 + 156), .int (nI v)] SF M Q := by
  have s0 := sh156
  have h7 := hl.1.2
  have hn := hL.1
  refine xC_intro [some (.ref (G.1 + 156)), some (.int (nI v)), none, none] rfl (by decide) (Nat.le_of_ble_eq_true rfl) ?_
  refine xs_K eX10_besides_0 ?_
  refine xs_istore eX10_besides_1 (Nat.le_of_ble_eq_true rfl) rfl rfl ?_
  refine xs_K eX10_besides_2 ?_
  refine xs_istore eX10_besides_3 (Nat.le_of_ble_eq_true rfl) rfl rfl ?_
  refine dn (P := fun i => xW G mX10_besides (d + 1) 0 0 Q 4 [some (.ref (G.1 + 156)), some (.int (nI v)), some (.int (nI (maskA (fun j => (l.2.2.2.1 v).testBit j) i))), some (.int (nI i))] [] SF M) l.1 ?_ ?_ 0 (by omega)
  · refine xs_iload eX10_besides_4 rfl ?_
    refine xs_aload eX10_besides_5 rfl ?_
    refine xs_getI eX10_besides_6 (by assumption) (by rfl) ?_
    refine xs_eq1 hn ?_
    refine xs_N_ge eX10_besides_9 (by omega) (by omega) (fun h9 => ?_) (fun h => absurd h (by omega))
    refine xs_iload eX10_besides_37 rfl ?_
    exact xs_iretI eX10_besides_38 rfl (Qev hQ (by rw [maskA_self h7 (hl.2.2.2.1 v (by omega))]))
  · intro i hi ih
    have hm := Nat.lt_of_lt_of_le (sbt_mask (p := fun j => (l.2.2.2.1 v).testBit j) (n := i) (by omega)) (pow7 (n := i) (by omega))
    simp only [maskA] at ih
    refine xs_iload eX10_besides_4 rfl ?_
    refine xs_aload eX10_besides_5 rfl ?_
    refine xs_getI eX10_besides_6 (by assumption) (by rfl) ?_
    refine xs_eq1 hn ?_
    refine xs_N_ge eX10_besides_9 (by omega) (by omega) (fun h => absurd h (by omega)) (fun h9 => ?_)
    refine xs_iload eX10_besides_12 rfl ?_
    refine xs_aload eX10_besides_13 rfl ?_
    refine xs_iload eX10_besides_14 rfl ?_
    refine xs_iload eX10_besides_15 rfl ?_
    refine xs_callV2i eX10_besides_16 (by assumption) (Nat.le_of_ble_eq_true rfl) (c_X10_areNear (by assumption) (by omega) (by omega) (by omega) ⟨_, rfl, ?_⟩)
    refine xs_ifeqB eX10_besides_19 (fun h19 => ?_) (fun h19 => ?_)
    · refine xs_K eX10_besides_28 ?_
      refine xs_ior eX10_besides_29 ?_
      refine xs_eq1 (z := nI (maskA (fun j => (l.2.2.2.1 v).testBit j) i)) (Int32.or_zero) ?_
      refine xs_istore eX10_besides_30 (Nat.le_of_ble_eq_true rfl) rfl rfl ?_
      refine xs_inc1 eX10_besides_31 rfl rfl rfl ?_
      refine xs_goto eX10_besides_34 ?_
      simp only [h19, Bool.false_eq_true, if_false] at ih
      exact ih
    · refine xs_K eX10_besides_22 ?_
      refine xs_iload eX10_besides_23 rfl ?_
      refine xs_ishl eX10_besides_24 ?_
      refine xs_goto eX10_besides_25 ?_
      refine xs_ior eX10_besides_29 ?_
      refine xs_eq1 (bon_nI _ hm i (by omega)).1 ?_
      refine xs_istore eX10_besides_30 (Nat.le_of_ble_eq_true rfl) rfl rfl ?_
      refine xs_inc1 eX10_besides_31 rfl rfl rfl ?_
      refine xs_goto eX10_besides_34 ?_
      simp only [h19, if_true] at ih
      exact ih
theorem c_X10_lowest {v : Nat} (hL : rLm M l) (hl : okL l) (hS : rS M base b) (hb : base ≤ 242) (hv : v < l.1) (hQ : Q (some (.int (lowJ (nbA l b v)))) SF M) : xC G mX10_lowest (d + 2) 0 0 [.ref (G.1 + 156), .int (nI base), .int (nI v)] SF M Q := by
  have s0 := sh156
  have s1 := sh162
  have h7 := hl.1.2
  have hn := hL.1
  have ha : nbA l b v < 2 ^ l.1 := and_lt (hl.2.2.2.1 v (by omega))
  have h128 : nbA l b v < 128 := Nat.lt_of_lt_of_le ha (pow7 h7)
  refine xC_intro [some (.ref (G.1 + 156)), some (.int (nI base)), some (.int (nI v)), none, none] rfl (by decide) (Nat.le_of_ble_eq_true rfl) ?_
  refine xs_aload eX10_lowest_0 rfl ?_
  refine xs_iload eX10_lowest_1 rfl ?_
  refine xs_callV1i eX10_lowest_2 (by assumption) (Nat.le_of_ble_eq_true rfl) (c_X10_besides (by assumption) (by assumption) (by omega) ⟨_, rfl, ?_⟩)
  refine xs_aload eX10_lowest_5 rfl ?_
  refine xs_getR eX10_lowest_6 (by assumption) (by rfl) ?_
  refine xs_iload eX10_lowest_9 rfl ?_
  refine xs_K eX10_lowest_10 ?_
  refine xs_iadd eX10_lowest_12 ?_
  refine xs_eq1 (nI_add base 14) ?_
  refine xs_iald eX10_lowest_13 (by assumption) (by omega) (by decide) ?_
  refine xs_eq1 hS.1 ?_
  refine xs_iand eX10_lowest_14 ?_
  refine xs_eq1 (nx_and _ _) ?_
  refine xs_istore eX10_lowest_15 (Nat.le_of_ble_eq_true rfl) rfl rfl ?_
  refine xs_K eX10_lowest_16 ?_
  refine xs_istore eX10_lowest_17 (Nat.le_of_ble_eq_true rfl) rfl rfl ?_
  refine dn (P := fun i => (∀ j, j < i → (nbA l b v).testBit j = false) → xW G mX10_lowest (d + 2) 0 0 Q 19 [some (.ref (G.1 + 156)), some (.int (nI base)), some (.int (nI v)), some (.int (nI (nbA l b v))), some (.int (nI i))] [] SF M) l.1 ?_ ?_ 0 (by omega) (fun j hj => by omega)
  · intro hz
    refine xs_iload eX10_lowest_19 rfl ?_
    refine xs_aload eX10_lowest_21 rfl ?_
    refine xs_getI eX10_lowest_22 (by assumption) (by rfl) ?_
    refine xs_eq1 hn ?_
    refine xs_N_ge eX10_lowest_25 (by omega) (by omega) (fun h25 => ?_) (fun h => absurd h (by omega))
    refine xs_K eX10_lowest_46 ?_
    exact xs_iretI eX10_lowest_48 rfl (Qev hQ (by rw [lowJ, if_pos (zero_is h7 ha hz)]))
  · intro i hi ih hz
    have hbt : bt (nI (nbA l b v)) i = (nbA l b v).testBit i := bt_nI (by omega)
    refine xs_iload eX10_lowest_19 rfl ?_
    refine xs_aload eX10_lowest_21 rfl ?_
    refine xs_getI eX10_lowest_22 (by assumption) (by rfl) ?_
    refine xs_eq1 hn ?_
    refine xs_N_ge eX10_lowest_25 (by omega) (by omega) (fun h => absurd h (by omega)) (fun h25 => ?_)
    refine xs_iload eX10_lowest_28 rfl ?_
    refine xs_iload eX10_lowest_29 rfl ?_
    refine xs_callS2i eX10_lowest_31 (Nat.le_of_ble_eq_true rfl) (c_X10_has (by omega) ⟨_, rfl, ?_⟩)
    rw [hbt]
    refine xs_ifeqB eX10_lowest_34 (fun h34 => ?_) (fun h34 => ?_)
    · refine xs_inc1 eX10_lowest_40 rfl rfl rfl ?_
      refine xs_goto eX10_lowest_43 ?_
      exact ih (fun j hj => by by_cases e : j = i; (subst e; exact h34); exact hz j (by omega))
    · refine xs_iload eX10_lowest_37 rfl ?_
      exact xs_iretI eX10_lowest_39 rfl (Qev hQ (by rw [lowJ, if_neg (fun e => by rw [e] at h34; simp at h34), lowA_is _ h128 i (by omega) h34 hz]))
theorem c_X10_isBesideHonest {v : Nat} (hL : rLm M l) (hl : okL l) (hS : rS M base b) (hb : base ≤ 242) (hv : v < l.1) (hQ : Q (some (.int (bI (decide (nbA l b v &&& l.2.2.2.2.1 ≠ 0))))) SF M) : xC G mX10_isBesideHonest (d + 2) 0 0 [.ref (G.1 + 156), .int (nI base), .int (nI v)] SF M Q := by
  have s0 := sh156
  have s1 := sh162
  have s2 := sh157
  have h7 := hl.1.2
  have hn := hL.1
  have ha : nbA l b v < 2 ^ l.1 := and_lt (hl.2.2.2.1 v (by omega))
  refine xC_intro [some (.ref (G.1 + 156)), some (.int (nI base)), some (.int (nI v)), none, none, none] rfl (by decide) (Nat.le_of_ble_eq_true rfl) ?_
  refine xs_aload eX10_isBesideHonest_0 rfl ?_
  refine xs_iload eX10_isBesideHonest_1 rfl ?_
  refine xs_callV1i eX10_isBesideHonest_2 (by assumption) (Nat.le_of_ble_eq_true rfl) (c_X10_besides (by assumption) (by assumption) (by omega) ⟨_, rfl, ?_⟩)
  refine xs_aload eX10_isBesideHonest_5 rfl ?_
  refine xs_getR eX10_isBesideHonest_6 (by assumption) (by rfl) ?_
  refine xs_iload eX10_isBesideHonest_9 rfl ?_
  refine xs_K eX10_isBesideHonest_10 ?_
  refine xs_iadd eX10_isBesideHonest_12 ?_
  refine xs_eq1 (nI_add base 14) ?_
  refine xs_iald eX10_isBesideHonest_13 (by assumption) (by omega) (by decide) ?_
  refine xs_eq1 hS.1 ?_
  refine xs_iand eX10_isBesideHonest_14 ?_
  refine xs_eq1 (nx_and _ _) ?_
  refine xs_istore eX10_isBesideHonest_15 (Nat.le_of_ble_eq_true rfl) rfl rfl ?_
  refine xs_K eX10_isBesideHonest_16 ?_
  refine xs_istore eX10_isBesideHonest_17 (Nat.le_of_ble_eq_true rfl) rfl rfl ?_
  refine xs_K eX10_isBesideHonest_19 ?_
  refine xs_istore eX10_isBesideHonest_20 (Nat.le_of_ble_eq_true rfl) rfl rfl ?_
  refine dn (P := fun i => xW G mX10_isBesideHonest (d + 2) 0 0 Q 22 [some (.ref (G.1 + 156)), some (.int (nI base)), some (.int (nI v)), some (.int (nI (nbA l b v))), some (.int (bI (anyA (fun j => (nbA l b v).testBit j && decide (l.2.2.1 j = 0)) i))), some (.int (nI i))] [] SF M) l.1 ?_ ?_ 0 (by omega)
  · rw [anyA_hon h7 ha hl.2.2.2.2.1.2]
    refine xs_iload eX10_isBesideHonest_22 rfl ?_
    refine xs_aload eX10_isBesideHonest_24 rfl ?_
    refine xs_getI eX10_isBesideHonest_25 (by assumption) (by rfl) ?_
    refine xs_eq1 hn ?_
    refine xs_N_ge eX10_isBesideHonest_28 (by omega) (by omega) (fun h28 => ?_) (fun h => absurd h (by omega))
    refine xs_iload eX10_isBesideHonest_68 rfl ?_
    exact xs_iret eX10_isBesideHonest_70 rfl (by first | exact bI_nar _ | rfl) (hQ)
  · intro i hi ih
    have hbt : bt (nI (nbA l b v)) i = (nbA l b v).testBit i := bt_nI (by omega)
    have hk := hL.2.2.1 i hi
    have hk5 := hl.2.2.1 i (by omega)
    simp only [anyA] at ih
    refine xs_iload eX10_isBesideHonest_22 rfl ?_
    refine xs_aload eX10_isBesideHonest_24 rfl ?_
    refine xs_getI eX10_isBesideHonest_25 (by assumption) (by rfl) ?_
    refine xs_eq1 hn ?_
    refine xs_N_ge eX10_isBesideHonest_28 (by omega) (by omega) (fun h => absurd h (by omega)) (fun h28 => ?_)
    refine xs_iload eX10_isBesideHonest_31 rfl ?_
    refine xs_ifneB eX10_isBesideHonest_33 (fun h33 => ?_) (fun h33 => ?_)
    · refine xs_K eX10_isBesideHonest_55 ?_
      refine xs_goto eX10_isBesideHonest_56 ?_
      refine xs_istore eX10_isBesideHonest_60 (Nat.le_of_ble_eq_true rfl) rfl rfl ?_
      refine xs_inc1 eX10_isBesideHonest_62 rfl rfl rfl ?_
      refine xs_goto eX10_isBesideHonest_65 ?_
      rw [h33] at ih
      exact ih
    · refine xs_iload eX10_isBesideHonest_36 rfl ?_
      refine xs_iload eX10_isBesideHonest_37 rfl ?_
      refine xs_callS2i eX10_isBesideHonest_39 (Nat.le_of_ble_eq_true rfl) (c_X10_has (by omega) ⟨_, rfl, ?_⟩)
      rw [hbt]
      refine xs_ifeqB eX10_isBesideHonest_42 (fun h42 => ?_) (fun h42 => ?_)
      · refine xs_K eX10_isBesideHonest_59 ?_
        refine xs_istore eX10_isBesideHonest_60 (Nat.le_of_ble_eq_true rfl) rfl rfl ?_
        refine xs_inc1 eX10_isBesideHonest_62 rfl rfl rfl ?_
        refine xs_goto eX10_isBesideHonest_65 ?_
        rw [h33, h42] at ih
        exact ih
      · refine xs_aload eX10_isBesideHonest_45 rfl ?_
        refine xs_getR eX10_isBesideHonest_46 (by assumption) (by rfl) ?_
        refine xs_iload eX10_isBesideHonest_49 rfl ?_
        refine xs_iald eX10_isBesideHonest_51 (by assumption) (by omega) (by decide) ?_
        refine xs_eq1 hk ?_
        refine xs_N0_ne eX10_isBesideHonest_52 (by omega) (fun h52 => ?_) (fun h52 => ?_)
        · refine xs_K eX10_isBesideHonest_59 ?_
          refine xs_istore eX10_isBesideHonest_60 (Nat.le_of_ble_eq_true rfl) rfl rfl ?_
          refine xs_inc1 eX10_isBesideHonest_62 rfl rfl rfl ?_
          refine xs_goto eX10_isBesideHonest_65 ?_
          rw [h33, h42, decide_eq_false h52] at ih
          exact ih
        · refine xs_K eX10_isBesideHonest_55 ?_
          refine xs_goto eX10_isBesideHonest_56 ?_
          refine xs_istore eX10_isBesideHonest_60 (Nat.le_of_ble_eq_true rfl) rfl rfl ?_
          refine xs_inc1 eX10_isBesideHonest_62 rfl rfl rfl ?_
          refine xs_goto eX10_isBesideHonest_65 ?_
          rw [h33, h42, decide_eq_true h52] at ih
          exact ih
theorem lowJ_ge {a : Nat} (h : a < 128) : (0 ≤ lowJ a ↔ a ≠ 0) := by
  unfold lowJ
  split
  · next e => simp [e]
  · next e => exact ⟨fun _ => e, fun _ => nI_pos' (by have := lowA_lt a h e; omega)⟩
theorem c_X10_sworn {v kd dy : Nat} (hL : rLm M l) (hl : okL l) (hS : rS M base b) (hB : okB l.1 dy b) (hb : base ≤ 242) (hv : v < l.1) (hk : kd < 5) (hQ : Q (some (.int (nI (swN l.2.2.2.1 l.2.2.2.2.1 b v kd)))) SF M) : xC G mX10_sworn (d + 3) 0 0 [.ref (G.1 + 156), .int (nI base), .int (nI v), .int (nI kd)] SF M Q := by
  have s0 := sh156
  have s1 := sh162
  have h7 := hl.1.2
  have ha : nbA l b v < 2 ^ l.1 := and_lt (hl.2.2.2.1 v (by omega))
  have h128 : nbA l b v < 128 := Nat.lt_of_lt_of_le ha (pow7 h7)
  have hv7 : v < 7 := by omega
  have hs := (hS.2.2.1 v hv7).1
  have hox := okB_ox hB hv7
  have hng := lowJ_ge h128
  unfold swN at hQ
  refine xC_intro [some (.ref (G.1 + 156)), some (.int (nI base)), some (.int (nI v)), some (.int (nI kd)), none, none] rfl (by decide) (Nat.le_of_ble_eq_true rfl) ?_
  have K : (kd = 1 ∨ kd = 2) → xW G mX10_sworn (d + 3) 0 0 Q 28 [some (.ref (G.1 + 156)), some (.int (nI base)), some (.int (nI v)), some (.int (nI kd)), some (.int (nI (b.2.2.1 v))), some (.int (lowJ (nbA l b v)))] [] SF M := by
    intro hkk
    refine xs_aload eX10_sworn_28 rfl ?_
    refine xs_iload eX10_sworn_29 rfl ?_
    refine xs_iload eX10_sworn_30 rfl ?_
    refine xs_callV2i eX10_sworn_31 (by assumption) (Nat.le_of_ble_eq_true rfl) (c_X10_isBesideHonest (b := b) (by assumption) (by assumption) (by assumption) (by omega) (by omega) ⟨_, rfl, ?_⟩)
    refine xs_ifeqB eX10_sworn_34 (fun h34 => ?_) (fun h34 => ?_)
    · refine xs_iload eX10_sworn_42 rfl ?_
      refine xs_K eX10_sworn_43 ?_
      refine xs_N_ne eX10_sworn_44 (by omega) (by omega) (fun h44 => ?_) (fun h44 => ?_)
      · refine xs_iload eX10_sworn_51 rfl ?_
        refine xs_K eX10_sworn_53 ?_
        refine xs_idiv eX10_sworn_54 (by decide) ?_
        refine xs_eq1 (pk_div (by omega) (by decide) (by decide)) ?_
        exact xs_iretI eX10_sworn_55 rfl (Qev hQ (by rw [if_pos (by omega), if_pos (show l.2.2.2.1 v &&& b.1 &&& l.2.2.2.2.1 = 0 from Classical.not_not.mp (of_decide_eq_false h34))]))
      · refine xs_K eX10_sworn_47 ?_
        refine xs_goto eX10_sworn_48 ?_
        exact xs_iretI eX10_sworn_55 rfl (Qev hQ (by rw [if_neg (by omega), if_pos h44, if_pos (show l.2.2.2.1 v &&& b.1 &&& l.2.2.2.2.1 = 0 from Classical.not_not.mp (of_decide_eq_false h34))]))
    · refine xs_iload eX10_sworn_37 rfl ?_
      refine xs_goto eX10_sworn_39 ?_
      exact xs_iretI eX10_sworn_55 rfl (Qev hQ (by have hz : ¬ (l.2.2.2.1 v &&& b.1 &&& l.2.2.2.2.1 = 0) := of_decide_eq_true h34; rcases hkk with e | e <;> simp [e, hz]))
  refine xs_aload eX10_sworn_0 rfl ?_
  refine xs_getR eX10_sworn_1 (by assumption) (by rfl) ?_
  refine xs_iload eX10_sworn_4 rfl ?_
  refine xs_iload eX10_sworn_5 rfl ?_
  refine xs_iadd eX10_sworn_6 ?_
  refine xs_eq1 (nI_add base v) ?_
  refine xs_iald eX10_sworn_7 (by assumption) (by omega) (by decide) ?_
  refine xs_eq1 hs ?_
  refine xs_istore eX10_sworn_8 (Nat.le_of_ble_eq_true rfl) rfl rfl ?_
  refine xs_aload eX10_sworn_10 rfl ?_
  refine xs_iload eX10_sworn_11 rfl ?_
  refine xs_iload eX10_sworn_12 rfl ?_
  refine xs_callV2i eX10_sworn_13 (by assumption) (Nat.le_of_ble_eq_true rfl) (c_X10_lowest (b := b) (by assumption) (by assumption) (by assumption) (by omega) (by omega) ⟨_, rfl, ?_⟩)
  refine xs_istore eX10_sworn_16 (Nat.le_of_ble_eq_true rfl) rfl rfl ?_
  refine xs_iload eX10_sworn_18 rfl ?_
  refine xs_K eX10_sworn_19 ?_
  refine xs_N_eq eX10_sworn_20 (by omega) (by omega) (fun h20 => ?_) (fun h20 => ?_)
  · exact K (Or.inl h20)
  · refine xs_iload eX10_sworn_23 rfl ?_
    refine xs_K eX10_sworn_24 ?_
    refine xs_N_ne eX10_sworn_25 (by omega) (by omega) (fun h25 => ?_) (fun h25 => ?_)
    · refine xs_iload eX10_sworn_56 rfl ?_
      refine xs_K eX10_sworn_57 ?_
      refine xs_N_ne eX10_sworn_58 (by omega) (by omega) (fun h58 => ?_) (fun h58 => ?_)
      · refine xs_iload eX10_sworn_84 rfl ?_
        refine xs_N0_eq eX10_sworn_85 (by omega) (fun h85 => ?_) (fun h85 => ?_)
        · refine xs_iload eX10_sworn_93 rfl ?_
          refine xs_goto eX10_sworn_95 ?_
          exact xs_iretI eX10_sworn_99 rfl (Qev hQ (by simp [h85]))
        · refine xs_iload eX10_sworn_88 rfl ?_
          refine xs_if_ge eX10_sworn_90 (fun h90 => ?_) (fun h90 => ?_)
          · refine xs_K eX10_sworn_98 ?_
            exact xs_iretI eX10_sworn_99 rfl (Qev hQ (by have hz : ¬ (l.2.2.2.1 v &&& b.1 = 0) := hng.mp h90; have e4 : kd = 4 := (by omega); simp [e4, hz]))
          · refine xs_iload eX10_sworn_93 rfl ?_
            refine xs_goto eX10_sworn_95 ?_
            exact xs_iretI eX10_sworn_99 rfl (Qev hQ (by have hz : l.2.2.2.1 v &&& b.1 = 0 := Classical.not_not.mp (fun q => h90 (hng.mpr q)); have e4 : kd = 4 := (by omega); simp [e4, hz]))
      · refine xs_iload eX10_sworn_61 rfl ?_
        refine xs_if_ge eX10_sworn_63 (fun h63 => ?_) (fun h63 => ?_)
        · refine xs_aload eX10_sworn_71 rfl ?_
          refine xs_getR eX10_sworn_72 (by assumption) (by rfl) ?_
          refine xs_iload eX10_sworn_75 rfl ?_
          refine xs_K eX10_sworn_76 ?_
          refine xs_iadd eX10_sworn_78 ?_
          refine xs_eq1 (nI_add base 7) ?_
          have hne := hng.mp h63
          have hlt := lowA_lt _ h128 hne
          refine xs_iload eX10_sworn_79 rfl ?_
          refine xs_eq1 (z := nI (lowA (nbA l b v))) (if_neg hne) ?_
          refine xs_iadd eX10_sworn_81 ?_
          refine xs_eq1 (nI_add _ _) ?_
          refine xs_iald eX10_sworn_82 (by assumption) (by omega) (by decide) ?_
          refine xs_eq1 (hS.2.2.1 _ hlt).2 ?_
          exact xs_iretI eX10_sworn_83 rfl (Qev hQ (by have hz : ¬ (l.2.2.2.1 v &&& b.1 = 0) := hne; simp [h58, hz]; rfl))
        · refine xs_iload eX10_sworn_66 rfl ?_
          refine xs_goto eX10_sworn_68 ?_
          exact xs_iretI eX10_sworn_83 rfl (Qev hQ (by have hz : l.2.2.2.1 v &&& b.1 = 0 := Classical.not_not.mp (fun q => h63 (hng.mpr q)); simp [h58, hz]))
    · exact K (Or.inr h25)
end R2

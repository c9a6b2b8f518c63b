/-! isWithin, Scroll, Sightings, Pile, the rest of Book -/
def wiB (y lo hi : Int32) : Bool := decide (lo ≤ y) && decide (y ≤ hi)
/-- y is one of n: 0, 1 .. -/
def inN (y : Int32) (n : Nat) : Bool := wiB y (nI 0) (nI n - nI 1)
theorem inN_of {y : Int32} {n : Nat} (hn : n < 2 ^ 31) (h : inN y n = true) : ∃ j, j < n ∧ y = nI j := by
  simp only [inN, wiB, Bool.and_eq_true, decide_eq_true_eq] at h
  obtain ⟨j, hj, rfl⟩ := nI_of (x := y) (Int32.not_lt.mpr h.1)
  refine ⟨j, ?_, rfl⟩
  rcases n with _ | n
  · exact absurd h.2 (by
      intro h2
      have h3 := Int32.le_iff_toInt_le.mp h2
      rw [nI_toInt hj] at h3
      have e : (nI 0 - nI 1).toInt = -1 := by decide
      rw [e] at h3
      omega)
  · have e : nI (n + 1) - nI 1 = nI n := nI_pred n
    rw [e] at h
    have := (nI_leI hj (by omega)).mp h.2
    omega
theorem inN_nI {j n : Nat} (hn : n < 2 ^ 31) (h : j < n) : inN (nI j) n = true := by
  simp only [inN, wiB, Bool.and_eq_true, decide_eq_true_eq]
  refine ⟨nI_le (by omega) (by omega), ?_⟩
  rcases n with _ | n
  · omega
  · have e : nI (n + 1) - nI 1 = nI n := nI_pred n
    rw [e]
    exact nI_le (by omega) (by omega)
section SM
variable {G : xGl} {d c e v p w nv np kd : Nat} {M : xMem} {Q : Option Value → List xSh → xMem → Prop} {S : List xSh}
theorem c_X9_isWithin {y lo hi : Int32} (hQ : Q (some (.int (bI (wiB y lo hi)))) S M) : xC G mX9_isWithin d 0 0 [.int y, .int lo, .int hi] S M Q := by
  refine xC_intro [some (.int y), some (.int lo), some (.int hi)] rfl (by decide) (Nat.le_of_ble_eq_true rfl) ?_
  refine xs_iload eX9_isWithin_0 rfl ?_
  refine xs_iload eX9_isWithin_1 rfl ?_
  refine xs_icmp_lt eX9_isWithin_2 (fun h2 => ?_) (fun h2 => ?_)
  · refine xs_K eX9_isWithin_14 ?_
    exact xs_iret eX9_isWithin_15 rfl (by first | exact bI_nar _ | rfl) (Qev hQ (by rw [wiB, decide_eq_false (Int32.not_le.mpr h2)]; rfl))
  · refine xs_iload eX9_isWithin_5 rfl ?_
    refine xs_iload eX9_isWithin_6 rfl ?_
    refine xs_icmp_gt eX9_isWithin_7 (fun h7 => ?_) (fun h7 => ?_)
    · refine xs_K eX9_isWithin_14 ?_
      exact xs_iret eX9_isWithin_15 rfl (by first | exact bI_nar _ | rfl) (Qev hQ (by rw [wiB, decide_eq_false (p := y ≤ hi) (Int32.not_le.mpr h7), Bool.and_false]; rfl))
    · refine xs_K eX9_isWithin_10 ?_
      refine xs_goto eX9_isWithin_11 ?_
      exact xs_iret eX9_isWithin_15 rfl (by first | exact bI_nar _ | rfl) (Qev hQ (by rw [wiB, decide_eq_true (Int32.not_lt.mp h2), decide_eq_true (Int32.not_lt.mp h7)]; rfl))
-- Scroll: cell 1, its letters 2
theorem c_X6_isFull {z : Nat} (hz : M 1 1 = nI z) (hz2 : z ≤ 200) (hQ : Q (some (.int (bI (decide (z = 200))))) SF M) : xC G mX6_isFull d 0 0 [.ref (G.1 + 1)] SF M Q := by
  have s1 := sh1
  refine xC_intro [some (.ref (G.1 + 1))] rfl (by decide) (Nat.le_of_ble_eq_true rfl) ?_
  refine xs_aload eX6_isFull_0 rfl ?_
  refine xs_getI eX6_isFull_1 (by assumption) (by rfl) ?_
  refine xs_eq1 hz ?_
  refine xs_K eX6_isFull_4 ?_
  refine xs_N_lt eX6_isFull_7 (by omega) (by omega) (fun h7 => ?_) (fun h7 => ?_)
  · refine xs_K eX6_isFull_14 ?_
    exact xs_iret eX6_isFull_15 rfl (by first | exact bI_nar _ | rfl) (Qev hQ (by rw [decide_eq_false (by omega)]; rfl))
  · refine xs_K eX6_isFull_10 ?_
    refine xs_goto eX6_isFull_11 ?_
    exact xs_iret eX6_isFull_15 rfl (by first | exact bI_nar _ | rfl) (Qev hQ (by rw [decide_eq_true (by omega)]; rfl))
theorem c_X6_clear (hQ : Q none SF (up2 M 1 1 (nI 0))) : xC G mX6_clear d 0 0 [.ref (G.1 + 1)] SF M Q := by
  have s1 := sh1
  refine xC_intro [some (.ref (G.1 + 1))] rfl (by decide) (Nat.le_of_ble_eq_true rfl) ?_
  refine xs_aload eX6_clear_0 rfl ?_
  refine xs_K eX6_clear_1 ?_
  refine xs_putI eX6_clear_2 (by assumption) (by rfl) rfl rfl ?_
  exact xs_vret eX6_clear_5 rfl (hQ)
theorem c_X6_add {z : Nat} {y : Int32} (hz : M 1 1 = nI z) (hz2 : z < 200) (hy : narrow .char (.int y) = .int y) (hQ : Q none SF (up2 (up2 M 2 z y) 1 1 (nI (z + 1)))) : xC G mX6_add (d + 1) 0 0 [.ref (G.1 + 1), .int y] SF M Q := by
  have s1 := sh1
  have s2 := sh2
  refine xC_intro [some (.ref (G.1 + 1)), some (.int y)] rfl (by decide) (Nat.le_of_ble_eq_true rfl) ?_
  refine xs_aload eX6_add_0 rfl ?_
  refine xs_callV0i eX6_add_1 (by assumption) (Nat.le_of_ble_eq_true rfl) (c_X6_isFull (by assumption) (by omega) ⟨_, rfl, ?_⟩)
  refine xs_ifneB eX6_add_4 (fun h4 => ?_) (fun h4 => ?_)
  · exact absurd (of_decide_eq_true h4) (by omega)
  · refine xs_aload eX6_add_7 rfl ?_
    refine xs_getR eX6_add_8 (by assumption) (by rfl) ?_
    refine xs_aload eX6_add_11 rfl ?_
    refine xs_getI eX6_add_12 (by assumption) (by rfl) ?_
    refine xs_eq1 hz ?_
    refine xs_iload eX6_add_15 rfl ?_
    refine xs_cast eX6_add_16 (by assumption) (by omega) (by decide) hy ?_
    refine xs_aload eX6_add_17 rfl ?_
    refine xs_dup eX6_add_18 rfl ?_
    refine xs_getI eX6_add_19 (by assumption) (by rfl) ?_
    refine xs_eq1 (z := nI z) (by rw [up2_ne (by decide)]; exact hz) ?_
    refine xs_K eX6_add_22 ?_
    refine xs_iadd eX6_add_23 ?_
    refine xs_eq1 (nI_add z 1) ?_
    refine xs_putI eX6_add_24 (by assumption) (by rfl) rfl rfl ?_
    exact xs_vret eX6_add_27 rfl hQ
/-- the letter at a place; behind the last one 0 -/
def letA (t : Nat → Int32) (len pl : Nat) : Int32 := if pl < len then t pl else nI 0
theorem c_X6_letterAt {z pl : Nat} (hz : M 1 1 = nI z) (hz2 : z ≤ 200) (hp : pl < 2000) (hc : ∀ j, j < z → narrow .char (.int (M 2 j)) = .int (M 2 j)) (hQ : Q (some (.int (letA (M 2) z pl))) SF M) : xC G mX6_letterAt d 0 0 [.ref (G.1 + 1), .int (nI pl)] SF M Q := by
  have s1 := sh1
  have s2 := sh2
  refine xC_intro [some (.ref (G.1 + 1)), some (.int (nI pl))] rfl (by decide) (Nat.le_of_ble_eq_true rfl) ?_
  refine xs_iload eX6_letterAt_0 rfl ?_
  refine xs_N0_lt eX6_letterAt_1 (by omega) ?_
  refine xs_iload eX6_letterAt_4 rfl ?_
  refine xs_aload eX6_letterAt_5 rfl ?_
  refine xs_getI eX6_letterAt_6 (by assumption) (by rfl) ?_
  refine xs_eq1 hz ?_
  refine xs_N_ge eX6_letterAt_9 (by omega) (by omega) (fun h9 => ?_) (fun h9 => ?_)
  · refine xs_K eX6_letterAt_21 ?_
    exact xs_iret eX6_letterAt_22 rfl (by first | rfl | exact hc _ h9) (Qev hQ (if_neg (by omega)))
  · refine xs_aload eX6_letterAt_12 rfl ?_
    refine xs_getR eX6_letterAt_13 (by assumption) (by rfl) ?_
    refine xs_iload eX6_letterAt_16 rfl ?_
    refine xs_cald eX6_letterAt_17 (by assumption) (by omega) (by decide) ?_
    refine xs_goto eX6_letterAt_18 ?_
    exact xs_iret eX6_letterAt_22 rfl (by first | rfl | exact hc _ h9) (Qev hQ (if_pos h9))
-- Sightings: cell 95, villages 96, numbers 97
theorem c_X8_isFull {z : Nat} (hz : M 95 2 = nI z) (hz2 : z ≤ 6) (hQ : Q (some (.int (bI (decide (z = 6))))) SF M) : xC G mX8_isFull d 0 0 [.ref (G.1 + 95)] SF M Q := by
  have s1 := sh95
  refine xC_intro [some (.ref (G.1 + 95))] rfl (by decide) (Nat.le_of_ble_eq_true rfl) ?_
  refine xs_aload eX8_isFull_0 rfl ?_
  refine xs_getI eX8_isFull_1 (by assumption) (by rfl) ?_
  refine xs_eq1 hz ?_
  refine xs_K eX8_isFull_4 ?_
  refine xs_N_lt eX8_isFull_6 (by omega) (by omega) (fun h6 => ?_) (fun h6 => ?_)
  · refine xs_K eX8_isFull_13 ?_
    exact xs_iret eX8_isFull_14 rfl (by first | exact bI_nar _ | rfl) (Qev hQ (by rw [decide_eq_false (by omega)]; rfl))
  · refine xs_K eX8_isFull_9 ?_
    refine xs_goto eX8_isFull_10 ?_
    exact xs_iret eX8_isFull_14 rfl (by first | exact bI_nar _ | rfl) (Qev hQ (by rw [decide_eq_true (by omega)]; rfl))
theorem c_X8_clear (hQ : Q none SF (up2 M 95 2 (nI 0))) : xC G mX8_clear d 0 0 [.ref (G.1 + 95)] SF M Q := by
  have s1 := sh95
  refine xC_intro [some (.ref (G.1 + 95))] rfl (by decide) (Nat.le_of_ble_eq_true rfl) ?_
  refine xs_aload eX8_clear_0 rfl ?_
  refine xs_K eX8_clear_1 ?_
  refine xs_putI eX8_clear_2 (by assumption) (by rfl) rfl rfl ?_
  exact xs_vret eX8_clear_5 rfl (hQ)
theorem c_X8_add {z : Nat} {y1 y2 : Int32} (hz : M 95 2 = nI z) (hz2 : z < 6) (hQ : Q none SF (up2 (up2 (up2 M 96 z y1) 97 z y2) 95 2 (nI (z + 1)))) : xC G mX8_add (d + 1) 0 0 [.ref (G.1 + 95), .int y1, .int y2] SF M Q := by
  have s1 := sh95
  have s2 := sh96
  have s3 := sh97
  have z1 : up2 M 96 z y1 95 2 = nI z := by rw [up2_ne (by decide)]; exact hz
  have z2 : up2 (up2 M 96 z y1) 97 z y2 95 2 = nI z := by rw [up2_ne (by decide)]; exact z1
  refine xC_intro [some (.ref (G.1 + 95)), some (.int y1), some (.int y2)] rfl (by decide) (Nat.le_of_ble_eq_true rfl) ?_
  refine xs_aload eX8_add_0 rfl ?_
  refine xs_callV0i eX8_add_1 (by assumption) (Nat.le_of_ble_eq_true rfl) (c_X8_isFull (by assumption) (by omega) ⟨_, rfl, ?_⟩)
  refine xs_ifneB eX8_add_4 (fun h4 => ?_) (fun h4 => ?_)
  · exact absurd (of_decide_eq_true h4) (by omega)
  · refine xs_aload eX8_add_7 rfl ?_
    refine xs_getR eX8_add_8 (by assumption) (by rfl) ?_
    refine xs_aload eX8_add_11 rfl ?_
    refine xs_getI eX8_add_12 (by assumption) (by rfl) ?_
    refine xs_eq1 hz ?_
    refine xs_iload eX8_add_15 rfl ?_
    refine xs_iast eX8_add_16 (by assumption) (by omega) (by decide) ?_
    refine xs_aload eX8_add_17 rfl ?_
    refine xs_getR eX8_add_18 (by assumption) (by rfl) ?_
    refine xs_aload eX8_add_21 rfl ?_
    refine xs_getI eX8_add_22 (by assumption) (by rfl) ?_
    refine xs_eq1 z1 ?_
    refine xs_iload eX8_add_25 rfl ?_
    refine xs_iast eX8_add_26 (by assumption) (by omega) (by decide) ?_
    refine xs_aload eX8_add_27 rfl ?_
    refine xs_dup eX8_add_28 rfl ?_
    refine xs_getI eX8_add_29 (by assumption) (by rfl) ?_
    refine xs_eq1 z2 ?_
    refine xs_K eX8_add_32 ?_
    refine xs_iadd eX8_add_33 ?_
    refine xs_eq1 (nI_add z 1) ?_
    refine xs_putI eX8_add_34 (by assumption) (by rfl) rfl rfl ?_
    exact xs_vret eX8_add_37 rfl hQ
/-- all that is seen of v is y -/
def fitsF (a b : Nat → Int32) (v y : Int32) : Nat → Bool
  | 0 => true
  | n + 1 => fitsF a b v y n && !(decide (a n = v) && !decide (b n = y))
theorem fitsF_off {a b : Nat → Int32} {v y : Int32} : ∀ {n i : Nat}, i < n → (decide (a i = v) && !decide (b i = y)) = true → fitsF a b v y n = false
  | 0, i, h, _ => by omega
  | n + 1, i, h, hb => by
    by_cases e : i = n
    · subst e
      simp only [fitsF, hb, Bool.not_true, Bool.and_false]
    · simp only [fitsF, fitsF_off (n := n) (i := i) (by omega) hb, Bool.false_and]
theorem c_X8_fits {z : Nat} {v y : Int32} (hz : M 95 2 = nI z) (hz2 : z ≤ 6) (hQ : Q (some (.int (bI (fitsF (M 96) (M 97) v y z)))) SF M) : xC G mX8_fits d 0 0 [.ref (G.1 + 95), .int v, .int y] SF M Q := by
  have s1 := sh95
  have s2 := sh96
  have s3 := sh97
  refine xC_intro [some (.ref (G.1 + 95)), some (.int v), some (.int y), none] rfl (by decide) (Nat.le_of_ble_eq_true rfl) ?_
  refine xs_K eX8_fits_0 ?_
  refine xs_istore eX8_fits_1 (Nat.le_of_ble_eq_true rfl) rfl rfl ?_
  refine dn (P := fun i => fitsF (M 96) (M 97) v y i = true → xW G mX8_fits d 0 0 Q 2 [some (.ref (G.1 + 95)), some (.int v), some (.int y), some (.int (nI i))] [] SF M) z ?_ ?_ 0 (Nat.zero_le _) rfl
  · intro hf
    refine xs_iload eX8_fits_2 rfl ?_
    refine xs_aload eX8_fits_3 rfl ?_
    refine xs_getI eX8_fits_4 (by assumption) (by rfl) ?_
    refine xs_eq1 hz ?_
    refine xs_icmp_ge eX8_fits_7 (fun h7 => ?_) (fun h => absurd (Int32.le_refl _) h)
    refine xs_K eX8_fits_38 ?_
    exact xs_iret eX8_fits_39 rfl (by first | exact bI_nar _ | rfl) (Qev hQ (by rw [hf]; rfl))
  · intro i hi ih hf
    refine xs_iload eX8_fits_2 rfl ?_
    refine xs_aload eX8_fits_3 rfl ?_
    refine xs_getI eX8_fits_4 (by assumption) (by rfl) ?_
    refine xs_eq1 hz ?_
    refine xs_icmp_ge eX8_fits_7 (fun h => absurd h (nI_ge hi (by omega))) (fun h7 => ?_)
    refine xs_aload eX8_fits_10 rfl ?_
    refine xs_getR eX8_fits_11 (by assumption) (by rfl) ?_
    refine xs_iload eX8_fits_14 rfl ?_
    refine xs_iald eX8_fits_15 (by assumption) (by omega) (by decide) ?_
    refine xs_iload eX8_fits_16 rfl ?_
    refine xs_icmp_ne eX8_fits_17 (fun h17 => ?_) (fun h17 => ?_)
    · refine xs_inc1 eX8_fits_32 rfl rfl rfl ?_
      refine xs_goto eX8_fits_35 ?_
      exact ih (by simp [fitsF, hf, h17])
    · refine xs_aload eX8_fits_20 rfl ?_
      refine xs_getR eX8_fits_21 (by assumption) (by rfl) ?_
      refine xs_iload eX8_fits_24 rfl ?_
      refine xs_iald eX8_fits_25 (by assumption) (by omega) (by decide) ?_
      refine xs_iload eX8_fits_26 rfl ?_
      refine xs_icmp_eq eX8_fits_27 (fun h27 => ?_) (fun h27 => ?_)
      · refine xs_inc1 eX8_fits_32 rfl rfl rfl ?_
        refine xs_goto eX8_fits_35 ?_
        exact ih (by simp [fitsF, hf, h27])
      · refine xs_K eX8_fits_30 ?_
        exact xs_iret eX8_fits_31 rfl (by first | exact bI_nar _ | rfl) (Qev hQ (by rw [fitsF_off hi (by simp [h17, h27])]; rfl))
end SM

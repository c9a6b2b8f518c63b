/-! THE REFERENCE, first part: in, has, smaller, larger, lives, joins, begins, copied, isVillage, write, wipe, what stands beside -/
theorem lc_lt {y z : Int32} : (lg_cmp y.toInt64 z.toInt64 < 0) ↔ y < z := by
  rw [lg_cmp_lt, Int64.lt_iff_toInt_lt, Int32.toInt_toInt64, Int32.toInt_toInt64, Int32.lt_iff_toInt_lt]
theorem lc_gt {y z : Int32} : (0 < lg_cmp y.toInt64 z.toInt64) ↔ z < y := by
  rw [lg_cmp_gt, Int64.lt_iff_toInt_lt, Int32.toInt_toInt64, Int32.toInt_toInt64, Int32.lt_iff_toInt_lt]
def mxA (x y : Nat) : Nat := if x < y then y else x
/-- only the slots from base on, 22 of them -/
def sK (base : Nat) (M M1 : xMem) : Prop := (∀ a, a ≠ 162 → M1 a = M a) ∧ ∀ j, j < base ∨ base + 22 ≤ j → M1 162 j = M 162 j
theorem sK_tr {base : Nat} {M M1 M2 : xMem} (h : sK base M M1) (h2 : sK base M1 M2) : sK base M M2 := ⟨fun a ha => (h2.1 a ha).trans (h.1 a ha), fun j hj => (h2.2 j hj).trans (h.2 j hj)⟩
theorem sK_rfl {base : Nat} {M : xMem} : sK base M M := ⟨fun _ _ => rfl, fun _ _ => rfl⟩
theorem sK_up {base j : Nat} {M : xMem} {y : Int32} (h : base ≤ j) (h2 : j < base + 22) : sK base M (up2 M 162 j y) := ⟨fun a ha => up2_ne ha, fun i hi => by rw [up2_row]; simp only [upd]; rw [if_neg (by omega)]⟩
theorem rS_keep {M M1 : xMem} {base : Nat} {b : aBk} (h : rS M base b) (hk : ∀ j, base ≤ j → j < base + 22 → M1 162 j = M 162 j) : rS M1 base b := by
  obtain ⟨h1, h2, h3, h4⟩ := h
  refine ⟨by rw [hk _ (by omega) (by omega)]; exact h1, by rw [hk _ (by omega) (by omega)]; exact h2, fun v hv => ?_, fun p hp => ?_⟩
  · rw [hk (base + v) (by omega) (by omega), hk (base + 7 + v) (by omega) (by omega)]; exact h3 v hv
  · rw [hk (base + 16 + p) (by omega) (by omega), hk (base + 19 + p) (by omega) (by omega)]; exact h4 p hp
theorem rLm_keep {M M1 : xMem} {l : aLd} (h : rLm M l) (h1 : M1 156 0 = M 156 0) (h2 : M1 156 2 = M 156 2) (h3 : M1 157 = M 157) (h4 : M1 158 = M 158) (h5 : M1 159 = M 159) : rLm M1 l := by
  unfold rLm at h ⊢
  rw [h1, h2, h3, h4, h5]
  exact h
def cpS (M : xMem) (fr to : Nat) : xMem := setR M 162 (fun j => if to ≤ j ∧ j < to + 22 then M 162 (fr + (j - to)) else M 162 j)
theorem cpS_k {M : xMem} {fr to : Nat} : sK to M (cpS M fr to) := ⟨fun a ha => setR_ne ha, fun j hj => by rw [cpS, setR_row]; rw [if_neg (by omega)]⟩
theorem rS_cp {M : xMem} {fr to : Nat} {b : aBk} (h : rS M fr b) : rS (cpS M fr to) to b := by
  have e : ∀ i, i < 22 → cpS M fr to 162 (to + i) = M 162 (fr + i) := fun i hi => by
    rw [cpS, setR_row]
    rw [if_pos (by omega), show to + i - to = i by omega]
  obtain ⟨h1, h2, h3, h4⟩ := h
  refine ⟨by rw [e 14 (by omega)]; exact h1, by rw [e 15 (by omega)]; exact h2, fun v hv => ?_, fun p hp => ?_⟩
  · rw [e v (by omega), show to + 7 + v = to + (7 + v) by omega, e (7 + v) (by omega), show fr + (7 + v) = fr + 7 + v by omega]; exact h3 v hv
  · rw [show to + 16 + p = to + (16 + p) by omega, e (16 + p) (by omega), show to + 19 + p = to + (19 + p) by omega, e (19 + p) (by omega), show fr + (16 + p) = fr + 16 + p by omega, show fr + (19 + p) = fr + 19 + p by omega]; exact h4 p hp
section R1
variable {G : xGl} {d N base : Nat} {w : aX} {l : aLd} {b : aBk} {M : xMem} {S : List xSh} {Q : Option Value → List xSh → xMem → Prop} {y y1 y2 : Int32}
theorem c_X10_in {y lo hi : Int32} {a b c : Int64} (ha : a = y.toInt64) (hb : b = lo.toInt64) (hc : c = hi.toInt64) (hQ : Q (some (.int (bI (wiB y lo hi)))) S M) : xC G mX10_in d 0 0 [.long a, .long b, .long c] S M Q := by
  subst ha hb hc
  refine xC_intro [some (.long y.toInt64), none, some (.long lo.toInt64), none, some (.long hi.toInt64), none] rfl (by decide) (Nat.le_of_ble_eq_true rfl) ?_
  refine xs_lload eX10_in_0 rfl ?_
  refine xs_lload eX10_in_1 rfl ?_
  refine xs_lcmp eX10_in_2 ?_
  refine xs_if_lt eX10_in_3 (fun h3 => ?_) (fun h3 => ?_)
  · refine xs_K eX10_in_17 ?_
    exact xs_iret eX10_in_18 rfl (by first | exact bI_nar _ | rfl) (Qev hQ (by rw [wiB, decide_eq_false (Int32.not_le.mpr (lc_lt.mp h3))]; rfl))
  · refine xs_lload eX10_in_6 rfl ?_
    refine xs_lload eX10_in_7 rfl ?_
    refine xs_lcmp eX10_in_9 ?_
    refine xs_if_gt eX10_in_10 (fun h10 => ?_) (fun h10 => ?_)
    · refine xs_K eX10_in_17 ?_
      exact xs_iret eX10_in_18 rfl (by first | exact bI_nar _ | rfl) (Qev hQ (by rw [wiB, decide_eq_false (p := y ≤ hi) (Int32.not_le.mpr (lc_gt.mp h10)), Bool.and_false]; rfl))
    · refine xs_K eX10_in_13 ?_
      refine xs_goto eX10_in_14 ?_
      exact xs_iret eX10_in_18 rfl (by first | exact bI_nar _ | rfl) (Qev hQ (by rw [wiB, decide_eq_true (Int32.not_lt.mp (fun q => h3 (lc_lt.mpr q))), decide_eq_true (Int32.not_lt.mp (fun q => h10 (lc_gt.mpr q)))]; rfl))
theorem c_X10_has {y : Int32} {v : Nat} (hv : v < 32) (hQ : Q (some (.int (bI (bt y v)))) S M) : xC G mX10_has d 0 0 [.int y, .int (nI v)] S M Q := by
  refine xC_intro [some (.int y), some (.int (nI v))] rfl (by decide) (Nat.le_of_ble_eq_true rfl) ?_
  refine xs_iload eX10_has_0 rfl ?_
  refine xs_iload eX10_has_1 rfl ?_
  refine xs_ishr eX10_has_2 ?_
  refine xs_K eX10_has_3 ?_
  refine xs_iand eX10_has_4 ?_
  refine xs_eq1 (bt_ask y hv) ?_
  refine xs_K eX10_has_5 ?_
  refine xs_icmp_ne eX10_has_6 (fun h6 => ?_) (fun h6 => ?_)
  · refine xs_K eX10_has_13 ?_
    exact xs_iret eX10_has_14 rfl (by first | exact bI_nar _ | rfl) (Qev hQ (by revert h6; cases bt y v <;> decide))
  · refine xs_K eX10_has_9 ?_
    refine xs_goto eX10_has_10 ?_
    exact xs_iret eX10_has_14 rfl (by first | exact bI_nar _ | rfl) (Qev hQ (by revert h6; cases bt y v <;> decide))
theorem c_X10_smaller {a b : Nat} (ha : a < 2 ^ 31) (hb : b < 2 ^ 31) (hQ : Q (some (.int (nI (mnA a b)))) S M) : xC G mX10_smaller d 0 0 [.int (nI a), .int (nI b)] S M Q := by
  refine xC_intro [some (.int (nI a)), some (.int (nI b))] rfl (by decide) (Nat.le_of_ble_eq_true rfl) ?_
  refine xs_iload eX10_smaller_0 rfl ?_
  refine xs_iload eX10_smaller_1 rfl ?_
  refine xs_N_ge eX10_smaller_2 (by omega) (by omega) (fun h2 => ?_) (fun h2 => ?_)
  · refine xs_iload eX10_smaller_9 rfl ?_
    exact xs_iretI eX10_smaller_10 rfl (Qev hQ (by unfold mnA; congr 1; split <;> omega))
  · refine xs_iload eX10_smaller_5 rfl ?_
    refine xs_goto eX10_smaller_6 ?_
    exact xs_iretI eX10_smaller_10 rfl (Qev hQ (by unfold mnA; congr 1; split <;> omega))
theorem c_X10_larger {a b : Nat} (ha : a < 2 ^ 31) (hb : b < 2 ^ 31) (hQ : Q (some (.int (nI (mxA a b)))) S M) : xC G mX10_larger d 0 0 [.int (nI a), .int (nI b)] S M Q := by
  refine xC_intro [some (.int (nI a)), some (.int (nI b))] rfl (by decide) (Nat.le_of_ble_eq_true rfl) ?_
  refine xs_iload eX10_larger_0 rfl ?_
  refine xs_iload eX10_larger_1 rfl ?_
  refine xs_N_ge eX10_larger_2 (by omega) (by omega) (fun h2 => ?_) (fun h2 => ?_)
  · refine xs_iload eX10_larger_9 rfl ?_
    exact xs_iretI eX10_larger_10 rfl (Qev hQ (by unfold mxA; congr 1; split <;> omega))
  · refine xs_iload eX10_larger_5 rfl ?_
    refine xs_goto eX10_larger_6 ?_
    exact xs_iretI eX10_larger_10 rfl (Qev hQ (by unfold mxA; congr 1; split <;> omega))
theorem c_X10_lives {n : Nat} {k o : Int32} (hn : M 156 5 = nI n) (hn7 : n < 7) (hb : base ≤ 242) (hQ : Q none SF (up2 (up2 (up2 M 160 n k) 162 (base + n) o) 156 5 (nI (n + 1)))) : xC G mX10_lives d 0 0 [.ref (G.1 + 156), .int (nI base), .int k, .int o] SF M Q := by
  have s0 := sh156
  have s1 := sh160
  have s2 := sh162
  refine xC_intro [some (.ref (G.1 + 156)), some (.int (nI base)), some (.int k), some (.int o)] rfl (by decide) (Nat.le_of_ble_eq_true rfl) ?_
  refine xs_aload eX10_lives_0 rfl ?_
  refine xs_getR eX10_lives_1 (by assumption) (by rfl) ?_
  refine xs_aload eX10_lives_4 rfl ?_
  refine xs_getI eX10_lives_5 (by assumption) (by rfl) ?_
  refine xs_eq1 hn ?_
  refine xs_iload eX10_lives_8 rfl ?_
  refine xs_iast eX10_lives_9 (by assumption) (by omega) (by decide) ?_
  refine xs_aload eX10_lives_10 rfl ?_
  refine xs_getR eX10_lives_11 (by assumption) (by rfl) ?_
  refine xs_iload eX10_lives_14 rfl ?_
  refine xs_aload eX10_lives_15 rfl ?_
  refine xs_getI eX10_lives_16 (by assumption) (by rfl) ?_
  refine xs_eq1 (z := nI n) (by rw [up2_ne (by decide)]; exact hn) ?_
  refine xs_iadd eX10_lives_19 ?_
  refine xs_eq1 (nI_add base n) ?_
  refine xs_iload eX10_lives_20 rfl ?_
  refine xs_iast eX10_lives_21 (by assumption) (by omega) (by decide) ?_
  refine xs_aload eX10_lives_22 rfl ?_
  refine xs_dup eX10_lives_23 rfl ?_
  refine xs_getI eX10_lives_24 (by assumption) (by rfl) ?_
  refine xs_eq1 (z := nI n) (by rw [up2_ne (by decide), up2_ne (by decide)]; exact hn) ?_
  refine xs_K eX10_lives_27 ?_
  refine xs_iadd eX10_lives_28 ?_
  refine xs_eq1 (nI_add n 1) ?_
  refine xs_putI eX10_lives_29 (by assumption) (by rfl) rfl rfl ?_
  exact xs_vret eX10_lives_32 rfl (hQ)
theorem c_X10_joins {a b : Nat} {y : Int32} (ha : a < 7) (hb : b < 7) (hQ : Q none SF (up2 (up2 M 161 (7 * a + b) y) 161 (7 * b + a) y)) : xC G mX10_joins d 0 0 [.ref (G.1 + 156), .int (nI a), .int (nI b), .int y] SF M Q := by
  have s0 := sh156
  have s1 := sh161
  refine xC_intro [some (.ref (G.1 + 156)), some (.int (nI a)), some (.int (nI b)), some (.int y)] rfl (by decide) (Nat.le_of_ble_eq_true rfl) ?_
  refine xs_aload eX10_joins_0 rfl ?_
  refine xs_getR eX10_joins_1 (by assumption) (by rfl) ?_
  refine xs_K eX10_joins_4 ?_
  refine xs_iload eX10_joins_6 rfl ?_
  refine xs_imul eX10_joins_7 ?_
  refine xs_eq1 (pk_mul 7 a) ?_
  refine xs_iload eX10_joins_8 rfl ?_
  refine xs_iadd eX10_joins_9 ?_
  refine xs_eq1 (nI_add _ b) ?_
  refine xs_iload eX10_joins_10 rfl ?_
  refine xs_iast eX10_joins_11 (by assumption) (by omega) (by decide) ?_
  refine xs_aload eX10_joins_12 rfl ?_
  refine xs_getR eX10_joins_13 (by assumption) (by rfl) ?_
  refine xs_K eX10_joins_16 ?_
  refine xs_iload eX10_joins_18 rfl ?_
  refine xs_imul eX10_joins_19 ?_
  refine xs_eq1 (pk_mul 7 b) ?_
  refine xs_iload eX10_joins_20 rfl ?_
  refine xs_iadd eX10_joins_21 ?_
  refine xs_eq1 (nI_add _ a) ?_
  refine xs_iload eX10_joins_22 rfl ?_
  refine xs_iast eX10_joins_23 (by assumption) (by omega) (by decide) ?_
  exact xs_vret eX10_joins_24 rfl (hQ)
theorem c_X10_begins {n : Nat} {v : Int32} (hn : M 156 7 = nI n) (hn3 : n < 3) (hb : base ≤ 242) (hQ : Q none SF (up2 (up2 M 162 (base + 16 + n) v) 156 7 (nI (n + 1)))) : xC G mX10_begins d 0 0 [.ref (G.1 + 156), .int (nI base), .int v] SF M Q := by
  have s0 := sh156
  have s2 := sh162
  refine xC_intro [some (.ref (G.1 + 156)), some (.int (nI base)), some (.int v)] rfl (by decide) (Nat.le_of_ble_eq_true rfl) ?_
  refine xs_aload eX10_begins_0 rfl ?_
  refine xs_getR eX10_begins_1 (by assumption) (by rfl) ?_
  refine xs_iload eX10_begins_4 rfl ?_
  refine xs_K eX10_begins_5 ?_
  refine xs_iadd eX10_begins_7 ?_
  refine xs_eq1 (nI_add base 16) ?_
  refine xs_aload eX10_begins_8 rfl ?_
  refine xs_getI eX10_begins_9 (by assumption) (by rfl) ?_
  refine xs_eq1 hn ?_
  refine xs_iadd eX10_begins_12 ?_
  refine xs_eq1 (nI_add _ n) ?_
  refine xs_iload eX10_begins_13 rfl ?_
  refine xs_iast eX10_begins_14 (by assumption) (by omega) (by decide) ?_
  refine xs_aload eX10_begins_15 rfl ?_
  refine xs_dup eX10_begins_16 rfl ?_
  refine xs_getI eX10_begins_17 (by assumption) (by rfl) ?_
  refine xs_eq1 (z := nI n) (by rw [up2_ne (by decide)]; exact hn) ?_
  refine xs_K eX10_begins_20 ?_
  refine xs_iadd eX10_begins_21 ?_
  refine xs_eq1 (nI_add n 1) ?_
  refine xs_putI eX10_begins_22 (by assumption) (by rfl) rfl rfl ?_
  exact xs_vret eX10_begins_25 rfl (hQ)
theorem c_X10_copied {fr to : Nat} (hf : fr ≤ 242) (ht : to ≤ 242) (hd : fr + 22 ≤ to ∨ to + 22 ≤ fr) (hQ : Q none SF (cpS M fr to)) : xC G mX10_copied d 0 0 [.ref (G.1 + 156), .int (nI fr), .int (nI to)] SF M Q := by
  have s0 := sh156
  have s2 := sh162
  refine xC_intro [some (.ref (G.1 + 156)), some (.int (nI fr)), some (.int (nI to)), none] rfl (by decide) (Nat.le_of_ble_eq_true rfl) ?_
  refine xs_K eX10_copied_0 ?_
  refine xs_istore eX10_copied_1 (Nat.le_of_ble_eq_true rfl) rfl rfl ?_
  refine xs_eqM (M1 := setR M 162 (fun j => if to ≤ j ∧ j < to + 0 then M 162 (fr + (j - to)) else M 162 j)) (by funext a; by_cases e : a = 162; subst e; rw [setR_row]; funext j; rw [if_neg (by omega)]; rw [setR_ne e]) ?_
  refine dn (P := fun i => xW G mX10_copied d 0 0 Q 2 [some (.ref (G.1 + 156)), some (.int (nI fr)), some (.int (nI to)), some (.int (nI i))] [] SF (setR M 162 (fun j => if to ≤ j ∧ j < to + i then M 162 (fr + (j - to)) else M 162 j))) 22 ?_ ?_ 0 (by omega)
  · refine xs_iload eX10_copied_2 rfl ?_
    refine xs_K eX10_copied_3 ?_
    refine xs_N_ge eX10_copied_5 (by omega) (by omega) (fun h5 => ?_) (fun h => absurd h (by omega))
    exact xs_vret eX10_copied_30 rfl (hQ)
  · intro i hi ih
    refine xs_iload eX10_copied_2 rfl ?_
    refine xs_K eX10_copied_3 ?_
    refine xs_N_ge eX10_copied_5 (by omega) (by omega) (fun h => absurd h (by omega)) (fun h5 => ?_)
    refine xs_aload eX10_copied_8 rfl ?_
    refine xs_getR eX10_copied_9 (by assumption) (by rfl) ?_
    refine xs_iload eX10_copied_12 rfl ?_
    refine xs_iload eX10_copied_13 rfl ?_
    refine xs_iadd eX10_copied_14 ?_
    refine xs_eq1 (nI_add to i) ?_
    refine xs_aload eX10_copied_15 rfl ?_
    refine xs_getR eX10_copied_16 (by assumption) (by rfl) ?_
    refine xs_iload eX10_copied_19 rfl ?_
    refine xs_iload eX10_copied_20 rfl ?_
    refine xs_iadd eX10_copied_21 ?_
    refine xs_eq1 (nI_add fr i) ?_
    refine xs_iald eX10_copied_22 (by assumption) (by omega) (by decide) ?_
    refine xs_iast eX10_copied_23 (by assumption) (by omega) (by decide) ?_
    refine xs_inc1 eX10_copied_24 rfl rfl rfl ?_
    refine xs_goto eX10_copied_27 ?_
    refine xs_eqM ?_ ih
    funext a
    by_cases e : a = 162
    · subst e
      rw [up2_row, setR_row, setR_row]
      funext j
      simp only [upd]
      by_cases e2 : j = to + i
      · rw [if_pos e2, if_neg (by omega), if_pos (by omega), show fr + (j - to) = fr + i by omega]
      · rw [if_neg e2]
        have e3 : (to ≤ j ∧ j < to + i) = (to ≤ j ∧ j < to + (i + 1)) := propext (by omega)
        simp only [e3]
    · rw [up2_ne e, setR_ne e, setR_ne e]
theorem c_X10_isVillage {nv : Nat} (hn : M 156 0 = nI nv) (hQ : Q (some (.int (bI (inN y nv)))) SF M) : xC G mX10_isVillage (d + 1) 0 0 [.ref (G.1 + 156), .int y] SF M Q := by
  have s0 := sh156
  refine xC_intro [some (.ref (G.1 + 156)), some (.int y)] rfl (by decide) (Nat.le_of_ble_eq_true rfl) ?_
  refine xs_iload eX10_isVillage_0 rfl ?_
  refine xs_i2l eX10_isVillage_1 ?_
  refine xs_KL eX10_isVillage_2 ?_
  refine xs_aload eX10_isVillage_3 rfl ?_
  refine xs_getI eX10_isVillage_4 (by assumption) (by rfl) ?_
  refine xs_eq1 hn ?_
  refine xs_K eX10_isVillage_7 ?_
  refine xs_isub eX10_isVillage_8 ?_
  refine xs_i2l eX10_isVillage_9 ?_
  refine xs_callS3i eX10_isVillage_10 (Nat.le_of_ble_eq_true rfl) (c_X10_in (lo := nI 0) rfl (by decide) rfl ⟨_, rfl, ?_⟩)
  exact xs_iret eX10_isVillage_13 rfl (by first | exact bI_nar _ | rfl) (hQ)
theorem c_X10_write (hR : repM w M) (hok : okX N w) (hQ : ∀ M1, loK M M1 → repM (spWrite w y).2 M1 → Q (some (.int (spWrite w y).1)) SF M1) : xC G mX10_write (d + 9) 0 0 [.ref (G.1 + 156), .int y] SF M Q := by
  have s0 := sh156
  have s1 := sh163
  have hl := hok.1.1
  obtain ⟨⟨t1, t2⟩, r1, r2, r3, r4, r5⟩ := id hR
  unfold spWrite at hQ
  refine xC_intro [some (.ref (G.1 + 156)), some (.int y)] rfl (by decide) (Nat.le_of_ble_eq_true rfl) ?_
  have K : wiB y (nI 32) (nI 126) = true → w.1.length ≠ 200 → ∃ j, y = nI j ∧ narrow .byte (.int y) = .int y ∧ y.toInt8.toInt32 = y ∧ Q (some (.int (nI (w.1.length + 1)))) SF (up2 (up2 M 163 w.1.length y) 156 12 (nI (w.1.length + 1))) := by
    intro h1 h2
    rw [if_pos h1, if_neg h2] at hQ
    obtain ⟨j, j1, j2, rfl⟩ := wi_of (by decide) (by decide) h1
    rw [nI_clamp (by omega)] at hQ
    have e8 : (nI j).toInt8.toInt32 = nI j := lg_i2b_small (by rw [nI_toInt (by omega)]; omega) (by rw [nI_toInt (by omega)]; omega)
    refine ⟨j, rfl, by show Value.int ((nI j).toInt8.toInt32) = _; rw [e8], e8, hQ _ (fun a ha => by rw [up2_ne (by omega), up2_ne (by omega)]) ⟨⟨?_, fun i hi => ?_⟩, ?_, ?_, ?_, ?_, ?_⟩⟩
    · rw [up2_row]; simp [upd]
    · rw [up2_ne (by decide), up2_row]
      simp only [upd, List.length_append, List.length_singleton] at hi ⊢
      by_cases q : i = w.1.length
      · rw [if_pos q, q]; simp
      · rw [if_neg q, t2 i (by omega)]
        simp [List.getD_eq_getElem?_getD, List.getElem?_append_left (show i < w.1.length by omega)]
    · exact rLm_keep r1 (by rw [up2_row, up2_ne (by decide)]; rfl) (by rw [up2_row, up2_ne (by decide)]; rfl) (by rw [up2_ne (by decide), up2_ne (by decide)]) (by rw [up2_ne (by decide), up2_ne (by decide)]) (by rw [up2_ne (by decide), up2_ne (by decide)])
    · exact rS_keep r2 (fun j _ _ => by rw [up2_ne (by decide), up2_ne (by decide)])
    · refine ⟨by rw [up2_row, up2_ne (by decide)]; exact r3.1, fun i k hi => rS_keep (r3.2 i k hi) (fun j _ _ => by rw [up2_ne (by decide), up2_ne (by decide)])⟩
    · refine ⟨by rw [up2_row, up2_ne (by decide)]; exact r4.1, fun i k hi => rS_keep (r4.2 i k hi) (fun j _ _ => by rw [up2_ne (by decide), up2_ne (by decide)])⟩
    · refine ⟨by rw [up2_row, up2_ne (by decide)]; exact r5.1, fun i k hi => by rw [up2_ne (by decide), up2_ne (by decide), up2_ne (by decide), up2_ne (by decide)]; exact r5.2 i k hi⟩
  refine xs_iload eX10_write_0 rfl ?_
  refine xs_i2l eX10_write_1 ?_
  refine xs_KL eX10_write_2 ?_
  refine xs_KL eX10_write_5 ?_
  refine xs_callS3i eX10_write_8 (Nat.le_of_ble_eq_true rfl) (c_X10_in (lo := nI 32) (hi := nI 126) rfl (by decide) (by decide) ⟨_, rfl, ?_⟩)
  refine xs_ifneB eX10_write_11 (fun h11 => ?_) (fun h11 => ?_)
  · refine xs_aload eX10_write_16 rfl ?_
    refine xs_getI eX10_write_17 (by assumption) (by rfl) ?_
    refine xs_eq1 t1 ?_
    refine xs_K eX10_write_20 ?_
    refine xs_N_ne eX10_write_23 (by omega) (by omega) (fun h23 => ?_) (fun h23 => ?_)
    · refine xs_aload eX10_write_29 rfl ?_
      refine xs_getR eX10_write_30 (by assumption) (by rfl) ?_
      refine xs_aload eX10_write_33 rfl ?_
      refine xs_getI eX10_write_34 (by assumption) (by rfl) ?_
      obtain ⟨j, ej, e1, e8, hq⟩ := K h11 h23
      refine xs_eq1 t1 ?_
      refine xs_iload eX10_write_37 rfl ?_
      refine xs_i2b eX10_write_38 ?_
      refine xs_eq1 e8 ?_
      refine xs_bast eX10_write_39 (by assumption) (by omega) (by decide) e1 ?_
      refine xs_aload eX10_write_40 rfl ?_
      refine xs_dup eX10_write_41 rfl ?_
      refine xs_getI eX10_write_42 (by assumption) (by rfl) ?_
      refine xs_eq1 (z := nI w.1.length) (by rw [up2_ne (by decide)]; exact t1) ?_
      refine xs_K eX10_write_45 ?_
      refine xs_iadd eX10_write_46 ?_
      refine xs_eq1 (nI_add _ 1) ?_
      refine xs_putI eX10_write_47 (by assumption) (by rfl) rfl rfl ?_
      refine xs_aload eX10_write_50 rfl ?_
      refine xs_getI eX10_write_51 (by assumption) (by rfl) ?_
      refine xs_eq1 (z := nI (w.1.length + 1)) (by rw [up2_row]; simp [upd]) ?_
      exact xs_iretI eX10_write_54 rfl (hq)
    · refine xs_K eX10_write_26 ?_
      exact xs_iretI eX10_write_28 rfl (by have h9 := hQ M; rw [if_pos h11, if_pos h23] at h9; exact h9 (fun _ _ => rfl) hR)
  · refine xs_K eX10_write_14 ?_
    exact xs_iretI eX10_write_15 rfl (by have h9 := hQ M; rw [if_neg (by rw [h11]; decide)] at h9; exact h9 (fun _ _ => rfl) hR)
theorem c_X10_wipe (hR : repM w M) (hQ : ∀ M1, loK M M1 → repM (spWipe w).2 M1 → Q (some (.int (spWipe w).1)) SF M1) : xC G mX10_wipe (d + 9) 0 0 [.ref (G.1 + 156)] SF M Q := by
  have s0 := sh156
  obtain ⟨⟨t1, t2⟩, r1, r2, r3, r4, r5⟩ := id hR
  have hQ1 := hQ (up2 M 156 12 (nI 0)) (fun a ha => up2_ne (by omega)) ⟨⟨by rw [up2_row]; simp [upd, spWipe], fun j hj => by simp [spWipe] at hj⟩, rLm_keep r1 (by rw [up2_row]; rfl) (by rw [up2_row]; rfl) (up2_ne (by decide)) (up2_ne (by decide)) (up2_ne (by decide)), rS_keep r2 (fun j _ _ => by rw [up2_ne (by decide)]), ⟨by rw [up2_row]; exact r3.1, fun i k hi => rS_keep (r3.2 i k hi) (fun j _ _ => by rw [up2_ne (by decide)])⟩, ⟨by rw [up2_row]; exact r4.1, fun i k hi => rS_keep (r4.2 i k hi) (fun j _ _ => by rw [up2_ne (by decide)])⟩, ⟨by rw [up2_row]; exact r5.1, fun i k hi => by rw [up2_ne (by decide), up2_ne (by decide)]; exact r5.2 i k hi⟩⟩
  refine xC_intro [some (.ref (G.1 + 156)), none] rfl (by decide) (Nat.le_of_ble_eq_true rfl) ?_
  refine xs_aload eX10_wipe_0 rfl ?_
  refine xs_getI eX10_wipe_1 (by assumption) (by rfl) ?_
  refine xs_eq1 t1 ?_
  refine xs_istore eX10_wipe_4 (Nat.le_of_ble_eq_true rfl) rfl rfl ?_
  refine xs_aload eX10_wipe_5 rfl ?_
  refine xs_K eX10_wipe_6 ?_
  refine xs_putI eX10_wipe_7 (by assumption) (by rfl) rfl rfl ?_
  refine xs_iload eX10_wipe_10 rfl ?_
  exact xs_iretI eX10_wipe_11 rfl (hQ1)
theorem c_X10_forget (hR : repM w M) (hQ : ∀ M1, loK M M1 → repM (spForget w).2 M1 → Q (some (.int (spForget w).1)) SF M1) : xC G mX10_forget (d + 9) 0 0 [.ref (G.1 + 156)] SF M Q := by
  have s0 := sh156
  obtain ⟨⟨t1, t2⟩, r1, r2, r3, r4, r5⟩ := id hR
  have r51 := r5.1
  have hQ1 := hQ (up2 M 156 17 (nI 0)) (fun a ha => up2_ne (by omega)) ⟨⟨by rw [up2_row]; exact t1, fun j hj => by rw [up2_ne (by decide)]; exact t2 j hj⟩, rLm_keep r1 (by rw [up2_row]; rfl) (by rw [up2_row]; rfl) (up2_ne (by decide)) (up2_ne (by decide)) (up2_ne (by decide)), rS_keep r2 (fun j _ _ => by rw [up2_ne (by decide)]), ⟨by rw [up2_row]; exact r3.1, fun i k hi => rS_keep (r3.2 i k hi) (fun j _ _ => by rw [up2_ne (by decide)])⟩, ⟨by rw [up2_row]; exact r4.1, fun i k hi => rS_keep (r4.2 i k hi) (fun j _ _ => by rw [up2_ne (by decide)])⟩, ⟨by rw [up2_row]; simp [upd, spForget], fun i k hi => by simp [spForget] at hi⟩⟩
  refine xC_intro [some (.ref (G.1 + 156)), none] rfl (by decide) (Nat.le_of_ble_eq_true rfl) ?_
  refine xs_aload eX10_forget_0 rfl ?_
  refine xs_getI eX10_forget_1 (by assumption) (by rfl) ?_
  refine xs_eq1 r51 ?_
  refine xs_istore eX10_forget_4 (Nat.le_of_ble_eq_true rfl) rfl rfl ?_
  refine xs_aload eX10_forget_5 rfl ?_
  refine xs_K eX10_forget_6 ?_
  refine xs_putI eX10_forget_7 (by assumption) (by rfl) rfl rfl ?_
  refine xs_iload eX10_forget_10 rfl ?_
  exact xs_iretI eX10_forget_11 rfl (hQ1)
theorem c_X10_see (hR : repM w M) (hok : okX N w) (hQ : ∀ M1, loK M M1 → repM (spSee w y1 y2).2 M1 → Q (some (.int (spSee w y1 y2).1)) SF M1) : xC G mX10_see (d + 9) 0 0 [.ref (G.1 + 156), .int y1, .int y2] SF M Q := by
  have s0 := sh156
  have s1 := sh164
  have s2 := sh165
  have hl := hok.2.2.2.2.2.1
  obtain ⟨⟨t1, t2⟩, r1, r2, r3, r4, ⟨r5, r6⟩⟩ := id hR
  have hn := r1.1
  have ho := hok.2.1.1
  unfold spSee at hQ
  refine xC_intro [some (.ref (G.1 + 156)), some (.int y1), some (.int y2)] rfl (by decide) (Nat.le_of_ble_eq_true rfl) ?_
  have K : inN y1 w.2.1.1 = true → wiB y2 (nI 0) (nI 60) = true → w.2.2.2.2.2.length ≠ 6 → Q (some (.int (nI (w.2.2.2.2.2.length + 1)))) SF (up2 (up2 (up2 M 164 w.2.2.2.2.2.length y1) 165 w.2.2.2.2.2.length y2) 156 17 (nI (w.2.2.2.2.2.length + 1))) := by
    intro h1 h2 h3
    rw [h1, h2] at hQ
    simp only [Bool.and_self, if_true] at hQ
    rw [if_neg h3] at hQ
    obtain ⟨j1, j1h, rfl⟩ := inN_of (by omega) h1
    obtain ⟨j2, j2h, j3h, rfl⟩ := wi_of (by decide) (by decide) h2
    rw [nI_clamp (by omega), nI_clamp (by omega)] at hQ
    refine hQ _ (fun a ha => by rw [up2_ne (by omega), up2_ne (by omega), up2_ne (by omega)]) ⟨⟨?_, fun i hi => ?_⟩, ?_, ?_, ?_, ?_, ?_⟩
    · rw [up2_row, up2_ne (by decide), up2_ne (by decide)]; exact t1
    · rw [up2_ne (by decide), up2_ne (by decide), up2_ne (by decide)]; exact t2 i hi
    · exact rLm_keep r1 (by rw [up2_row, up2_ne (by decide), up2_ne (by decide)]; rfl) (by rw [up2_row, up2_ne (by decide), up2_ne (by decide)]; rfl) (by rw [up2_ne (by decide), up2_ne (by decide), up2_ne (by decide)]) (by rw [up2_ne (by decide), up2_ne (by decide), up2_ne (by decide)]) (by rw [up2_ne (by decide), up2_ne (by decide), up2_ne (by decide)])
    · exact rS_keep r2 (fun j _ _ => by rw [up2_ne (by decide), up2_ne (by decide), up2_ne (by decide)])
    · refine ⟨by rw [up2_row, up2_ne (by decide), up2_ne (by decide)]; exact r3.1, fun i k hi => rS_keep (r3.2 i k hi) (fun j _ _ => by rw [up2_ne (by decide), up2_ne (by decide), up2_ne (by decide)])⟩
    · refine ⟨by rw [up2_row, up2_ne (by decide), up2_ne (by decide)]; exact r4.1, fun i k hi => rS_keep (r4.2 i k hi) (fun j _ _ => by rw [up2_ne (by decide), up2_ne (by decide), up2_ne (by decide)])⟩
    · refine ⟨by rw [up2_row]; simp [upd], fun i k hi => ?_⟩
      rw [up2_ne (by decide), up2_ne (by decide), up2_row, up2_ne (by decide), up2_row, up2_ne (by decide)]
      simp only [upd]
      by_cases q : i = w.2.2.2.2.2.length
      · rw [if_pos q, if_pos q]
        rw [q] at hi
        simp at hi
        rw [← hi]
        exact ⟨rfl, rfl⟩
      · rw [if_neg q, if_neg q]
        have hlt : i < (w.2.2.2.2.2 ++ [(j1, j2)]).length := (List.getElem?_eq_some_iff.mp hi).1
        rw [List.length_append, List.length_singleton] at hlt
        exact r6 i k (by rw [List.getElem?_append_left (by omega)] at hi; exact hi)
  have K2 : ¬ (inN y1 w.2.1.1 && wiB y2 (nI 0) (nI 60)) = true → Q (some (.int (-1))) SF M := fun h => by
    have h9 := hQ M
    rw [if_neg h] at h9
    exact h9 (fun _ _ => rfl) hR
  refine xs_aload eX10_see_0 rfl ?_
  refine xs_iload eX10_see_1 rfl ?_
  refine xs_callV1i eX10_see_2 (by assumption) (Nat.le_of_ble_eq_true rfl) (c_X10_isVillage (by assumption) ⟨_, rfl, ?_⟩)
  refine xs_ifeqB eX10_see_5 (fun h5 => ?_) (fun h5 => ?_)
  · refine xs_K eX10_see_20 ?_
    exact xs_iretI eX10_see_21 rfl (K2 (by simp [h5]))
  · refine xs_iload eX10_see_8 rfl ?_
    refine xs_i2l eX10_see_9 ?_
    refine xs_KL eX10_see_10 ?_
    refine xs_KL eX10_see_11 ?_
    refine xs_callS3i eX10_see_14 (Nat.le_of_ble_eq_true rfl) (c_X10_in (lo := nI 0) (hi := nI 60) rfl (by decide) (by decide) ⟨_, rfl, ?_⟩)
    refine xs_ifneB eX10_see_17 (fun h17 => ?_) (fun h17 => ?_)
    · refine xs_aload eX10_see_22 rfl ?_
      refine xs_getI eX10_see_23 (by assumption) (by rfl) ?_
      refine xs_eq1 r5 ?_
      refine xs_K eX10_see_26 ?_
      refine xs_N_ne eX10_see_28 (by omega) (by omega) (fun h28 => ?_) (fun h28 => ?_)
      · refine xs_aload eX10_see_34 rfl ?_
        refine xs_getR eX10_see_35 (by assumption) (by rfl) ?_
        refine xs_aload eX10_see_38 rfl ?_
        refine xs_getI eX10_see_39 (by assumption) (by rfl) ?_
        refine xs_eq1 r5 ?_
        refine xs_iload eX10_see_42 rfl ?_
        refine xs_iast eX10_see_43 (by assumption) (by omega) (by decide) ?_
        refine xs_aload eX10_see_44 rfl ?_
        refine xs_getR eX10_see_45 (by assumption) (by rfl) ?_
        refine xs_aload eX10_see_48 rfl ?_
        refine xs_getI eX10_see_49 (by assumption) (by rfl) ?_
        refine xs_eq1 (z := nI w.2.2.2.2.2.length) (by rw [up2_ne (by decide)]; exact r5) ?_
        refine xs_iload eX10_see_52 rfl ?_
        refine xs_iast eX10_see_53 (by assumption) (by omega) (by decide) ?_
        refine xs_aload eX10_see_54 rfl ?_
        refine xs_dup eX10_see_55 rfl ?_
        refine xs_getI eX10_see_56 (by assumption) (by rfl) ?_
        refine xs_eq1 (z := nI w.2.2.2.2.2.length) (by rw [up2_ne (by decide), up2_ne (by decide)]; exact r5) ?_
        refine xs_K eX10_see_59 ?_
        refine xs_iadd eX10_see_60 ?_
        refine xs_eq1 (nI_add _ 1) ?_
        refine xs_putI eX10_see_61 (by assumption) (by rfl) rfl rfl ?_
        refine xs_aload eX10_see_64 rfl ?_
        refine xs_getI eX10_see_65 (by assumption) (by rfl) ?_
        refine xs_eq1 (z := nI (w.2.2.2.2.2.length + 1)) (by rw [up2_row]; simp [upd]) ?_
        exact xs_iretI eX10_see_68 rfl (K h5 h17 h28)
      · refine xs_K eX10_see_31 ?_
        exact xs_iretI eX10_see_33 rfl (by have h9 := hQ M; rw [h5, h17] at h9; simp only [Bool.and_self, if_true] at h9; rw [if_pos h28] at h9; exact h9 (fun _ _ => rfl) hR)
    · refine xs_K eX10_see_20 ?_
      exact xs_iretI eX10_see_21 rfl (K2 (by simp [h17]))
end R1

/-! THE CLASS WHILE IT IS MADE: the shapes of its own cells alone (0 to 155), and its methods over them: copies by program of rows over all shapes -/
def SI : List xSh := [.inr (.inl (9, [some (some 1), some (some 3), some (some 5), some (some 18), some (some 31), some (some 36), some (some 41), some (some 83), some (some 95), some (some 98), some (some 106), some (some 150)])),
  .inr (.inl (6, [some (some 2), none])),
  .inl (.char, 200),
  .inr (.inl (5, [some (some 4), none])),
  .inl (.int, 3),
  .inr (.inl (2, [some (some 6), some (some 7), some (some 8), some (some 9), some (some 10), none, none, none])),
  .inl (.int, 7),
  .inl (.int, 7),
  .inl (.int, 3),
  .inl (.int, 7),
  .inr (.inr (.array .int, [some 11, some 12, some 13, some 14, some 15, some 16, some 17])),
  .inl (.int, 7),
  .inl (.int, 7),
  .inl (.int, 7),
  .inl (.int, 7),
  .inl (.int, 7),
  .inl (.int, 7),
  .inl (.int, 7),
  .inr (.inl (2, [some (some 19), some (some 20), some (some 21), some (some 22), some (some 23), none, none, none])),
  .inl (.int, 7),
  .inl (.int, 7),
  .inl (.int, 3),
  .inl (.int, 7),
  .inr (.inr (.array .int, [some 24, some 25, some 26, some 27, some 28, some 29, some 30])),
  .inl (.int, 7),
  .inl (.int, 7),
  .inl (.int, 7),
  .inl (.int, 7),
  .inl (.int, 7),
  .inl (.int, 7),
  .inl (.int, 7),
  .inr (.inl (0, [some (some 18), some (some 32), some (some 33), some (some 34), some (some 35), none, none])),
  .inl (.int, 7),
  .inl (.int, 7),
  .inl (.int, 3),
  .inl (.int, 3),
  .inr (.inl (0, [some (some 18), some (some 37), some (some 38), some (some 39), some (some 40), none, none])),
  .inl (.int, 7),
  .inl (.int, 7),
  .inl (.int, 3),
  .inl (.int, 3),
  .inr (.inl (4, [some (some 42), none, none])),
  .inr (.inr (.object "NotAnOx$Book", [some 43, some 48, some 53, some 58, some 63, some 68, some 73, some 78])),
  .inr (.inl (0, [some (some 18), some (some 44), some (some 45), some (some 46), some (some 47), none, none])),
  .inl (.int, 7),
  .inl (.int, 7),
  .inl (.int, 3),
  .inl (.int, 3),
  .inr (.inl (0, [some (some 18), some (some 49), some (some 50), some (some 51), some (some 52), none, none])),
  .inl (.int, 7),
  .inl (.int, 7),
  .inl (.int, 3),
  .inl (.int, 3),
  .inr (.inl (0, [some (some 18), some (some 54), some (some 55), some (some 56), some (some 57), none, none])),
  .inl (.int, 7),
  .inl (.int, 7),
  .inl (.int, 3),
  .inl (.int, 3),
  .inr (.inl (0, [some (some 18), some (some 59), some (some 60), some (some 61), some (some 62), none, none])),
  .inl (.int, 7),
  .inl (.int, 7),
  .inl (.int, 3),
  .inl (.int, 3),
  .inr (.inl (0, [some (some 18), some (some 64), some (some 65), some (some 66), some (some 67), none, none])),
  .inl (.int, 7),
  .inl (.int, 7),
  .inl (.int, 3),
  .inl (.int, 3),
  .inr (.inl (0, [some (some 18), some (some 69), some (some 70), some (some 71), some (some 72), none, none])),
  .inl (.int, 7),
  .inl (.int, 7),
  .inl (.int, 3),
  .inl (.int, 3),
  .inr (.inl (0, [some (some 18), some (some 74), some (some 75), some (some 76), some (some 77), none, none])),
  .inl (.int, 7),
  .inl (.int, 7),
  .inl (.int, 3),
  .inl (.int, 3),
  .inr (.inl (0, [some (some 18), some (some 79), some (some 80), some (some 81), some (some 82), none, none])),
  .inl (.int, 7),
  .inl (.int, 7),
  .inl (.int, 3),
  .inl (.int, 3),
  .inr (.inl (4, [some (some 84), none, none])),
  .inr (.inr (.object "NotAnOx$Book", [some 85, some 90])),
  .inr (.inl (0, [some (some 18), some (some 86), some (some 87), some (some 88), some (some 89), none, none])),
  .inl (.int, 7),
  .inl (.int, 7),
  .inl (.int, 3),
  .inl (.int, 3),
  .inr (.inl (0, [some (some 18), some (some 91), some (some 92), some (some 93), some (some 94), none, none])),
  .inl (.int, 7),
  .inl (.int, 7),
  .inl (.int, 3),
  .inl (.int, 3),
  .inr (.inl (8, [some (some 96), some (some 97), none])),
  .inl (.int, 6),
  .inl (.int, 6),
  .inr (.inl (7, [some (some 18), some (some 99), some (some 100), some (some 104), some (some 105), none])),
  .inl (.int, 896),
  .inr (.inr (.array .int, [some 101, some 102, some 103])),
  .inl (.int, 128),
  .inl (.int, 128),
  .inl (.int, 128),
  .inl (.int, 3),
  .inl (.int, 3),
  .inr (.inl (3, [some (some 18), some (some 107), some (some 108), some (some 109), none, none, none, none])),
  .inr (.inr (.object "NotAnOx$Book", [some 110, some 115, some 120, some 125, some 130, some 135, some 140, some 145])),
  .inl (.int, 7),
  .inl (.int, 7),
  .inr (.inl (0, [some (some 18), some (some 111), some (some 112), some (some 113), some (some 114), none, none])),
  .inl (.int, 7),
  .inl (.int, 7),
  .inl (.int, 3),
  .inl (.int, 3),
  .inr (.inl (0, [some (some 18), some (some 116), some (some 117), some (some 118), some (some 119), none, none])),
  .inl (.int, 7),
  .inl (.int, 7),
  .inl (.int, 3),
  .inl (.int, 3),
  .inr (.inl (0, [some (some 18), some (some 121), some (some 122), some (some 123), some (some 124), none, none])),
  .inl (.int, 7),
  .inl (.int, 7),
  .inl (.int, 3),
  .inl (.int, 3),
  .inr (.inl (0, [some (some 18), some (some 126), some (some 127), some (some 128), some (some 129), none, none])),
  .inl (.int, 7),
  .inl (.int, 7),
  .inl (.int, 3),
  .inl (.int, 3),
  .inr (.inl (0, [some (some 18), some (some 131), some (some 132), some (some 133), some (some 134), none, none])),
  .inl (.int, 7),
  .inl (.int, 7),
  .inl (.int, 3),
  .inl (.int, 3),
  .inr (.inl (0, [some (some 18), some (some 136), some (some 137), some (some 138), some (some 139), none, none])),
  .inl (.int, 7),
  .inl (.int, 7),
  .inl (.int, 3),
  .inl (.int, 3),
  .inr (.inl (0, [some (some 18), some (some 141), some (some 142), some (some 143), some (some 144), none, none])),
  .inl (.int, 7),
  .inl (.int, 7),
  .inl (.int, 3),
  .inl (.int, 3),
  .inr (.inl (0, [some (some 18), some (some 146), some (some 147), some (some 148), some (some 149), none, none])),
  .inl (.int, 7),
  .inl (.int, 7),
  .inl (.int, 3),
  .inl (.int, 3),
  .inr (.inl (1, [some (some 18), some (some 151), none, none])),
  .inr (.inl (0, [some (some 18), some (some 152), some (some 153), some (some 154), some (some 155), none, none])),
  .inl (.int, 7),
  .inl (.int, 7),
  .inl (.int, 3),
  .inl (.int, 3)]
theorem sh0_i : SI[0]? = some (.inr (.inl (9, [some (some 1), some (some 3), some (some 5), some (some 18), some (some 31), some (some 36), some (some 41), some (some 83), some (some 95), some (some 98), some (some 106), some (some 150)]))) := rfl
theorem sh1_i : SI[1]? = some (.inr (.inl (6, [some (some 2), none]))) := rfl
theorem sh2_i : SI[2]? = some (.inl (.char, 200)) := rfl
theorem sh3_i : SI[3]? = some (.inr (.inl (5, [some (some 4), none]))) := rfl
theorem sh4_i : SI[4]? = some (.inl (.int, 3)) := rfl
theorem sh18_i : SI[18]? = some (.inr (.inl (2, [some (some 19), some (some 20), some (some 21), some (some 22), some (some 23), none, none, none]))) := rfl
theorem sh20_i : SI[20]? = some (.inl (.int, 7)) := rfl
theorem sh21_i : SI[21]? = some (.inl (.int, 3)) := rfl
theorem sh95_i : SI[95]? = some (.inr (.inl (8, [some (some 96), some (some 97), none]))) := rfl
theorem bk_all_i : ∀ c ∈ bkL, SI[c]? = some (.inr (.inl (0, [some (some 18), some (some (c + 1)), some (some (c + 2)), some (some (c + 3)), some (some (c + 4)), none, none]))) ∧ SI[c + 1]? = some (.inl (.int, 7)) ∧ SI[c + 2]? = some (.inl (.int, 7)) ∧ SI[c + 3]? = some (.inl (.int, 3)) ∧ SI[c + 4]? = some (.inl (.int, 3)) ∧ 30 < c ∧ c < 152 := by
  unfold bkL
  repeat' (first | exact fun _ h => absurd h List.not_mem_nil | refine List.forall_mem_cons.mpr ⟨⟨rfl, rfl, rfl, rfl, rfl, by decide, by decide⟩, ?_⟩)
theorem bk0_i {c : Nat} (h : isBk c) : SI[c]? = some (.inr (.inl (0, [some (some 18), some (some (c + 1)), some (some (c + 2)), some (some (c + 3)), some (some (c + 4)), none, none]))) := (bk_all_i c h).1
theorem bk1_i {c : Nat} (h : isBk c) : SI[c + 1]? = some (.inl (.int, 7)) := (bk_all_i c h).2.1
theorem bk2_i {c : Nat} (h : isBk c) : SI[c + 2]? = some (.inl (.int, 7)) := (bk_all_i c h).2.2.1
theorem bk3_i {c : Nat} (h : isBk c) : SI[c + 3]? = some (.inl (.int, 3)) := (bk_all_i c h).2.2.2.1
theorem bk4_i {c : Nat} (h : isBk c) : SI[c + 4]? = some (.inl (.int, 3)) := (bk_all_i c h).2.2.2.2.1
theorem ld0_i {c : Nat} (h : isLd c) : SI[c]? = some (.inr (.inl (2, [some (some (c + 1)), some (some (c + 2)), some (some (c + 3)), some (some (c + 4)), some (some (c + 5)), none, none, none]))) := by rcases h with rfl | rfl <;> rfl
theorem ld1_i {c : Nat} (h : isLd c) : SI[c + 1]? = some (.inl (.int, 7)) := by rcases h with rfl | rfl <;> rfl
theorem ld2_i {c : Nat} (h : isLd c) : SI[c + 2]? = some (.inl (.int, 7)) := by rcases h with rfl | rfl <;> rfl
theorem ld3_i {c : Nat} (h : isLd c) : SI[c + 3]? = some (.inl (.int, 3)) := by rcases h with rfl | rfl <;> rfl
theorem ld4_i {c : Nat} (h : isLd c) : SI[c + 4]? = some (.inl (.int, 7)) := by rcases h with rfl | rfl <;> rfl
theorem ld5_i {c : Nat} (h : isLd c) : SI[c + 5]? = some (.inr (.inr (.array .int, [some (c + 6), some (c + 7), some (c + 8), some (c + 9), some (c + 10), some (c + 11), some (c + 12)]))) := by rcases h with rfl | rfl <;> rfl
theorem ldr_i {c : Nat} (h : isLd c) : ∀ a, a < 7 → SI[c + 6 + a]? = some (.inl (.int, 7)) := by
  intro a ha
  rcases (show a = 0 ∨ a = 1 ∨ a = 2 ∨ a = 3 ∨ a = 4 ∨ a = 5 ∨ a = 6 by omega) with rfl | rfl | rfl | rfl | rfl | rfl | rfl <;> rcases h with rfl | rfl <;> rfl

section ISM
variable {G : xGl} {d c e v p w nv np kd : Nat} {M : xMem} {Q : Option Value → List xSh → xMem → Prop} {S : List xSh}
theorem c_X6_isFull_i {z : Nat} (hz : M 1 1 = nI z) (hz2 : z ≤ 200) (hQ : Q (some (.int (bI (decide (z = 200))))) SI M) : xC G mX6_isFull d 0 0 [.ref (G.1 + 1)] SI M Q := by
  have s1 := sh1_i
  refine xC_intro [some (.ref (G.1 + 1))] rfl (by decide) (Nat.le_of_ble_eq_true rfl) ?_
  refine xs_aload eX6_isFull_0 rfl ?_
  refine xs_getI eX6_isFull_1 (by assumption) (by rfl) ?_
  refine xs_eq1 hz ?_
  refine xs_K eX6_isFull_4 ?_
  refine xs_N_lt eX6_isFull_7 (by omega) (by omega) (fun h7 => ?_) (fun h7 => ?_)
  · refine xs_K eX6_isFull_14 ?_
    exact xs_iret eX6_isFull_15 rfl (by first | exact bI_nar _ | rfl) (Qev hQ (by rw [decide_eq_false (by omega)]; rfl))
  · refine xs_K eX6_isFull_10 ?_
    refine xs_goto eX6_isFull_11 ?_
    exact xs_iret eX6_isFull_15 rfl (by first | exact bI_nar _ | rfl) (Qev hQ (by rw [decide_eq_true (by omega)]; rfl))
theorem c_X6_clear_i (hQ : Q none SI (up2 M 1 1 (nI 0))) : xC G mX6_clear d 0 0 [.ref (G.1 + 1)] SI M Q := by
  have s1 := sh1_i
  refine xC_intro [some (.ref (G.1 + 1))] rfl (by decide) (Nat.le_of_ble_eq_true rfl) ?_
  refine xs_aload eX6_clear_0 rfl ?_
  refine xs_K eX6_clear_1 ?_
  refine xs_putI eX6_clear_2 (by assumption) (by rfl) rfl rfl ?_
  exact xs_vret eX6_clear_5 rfl (hQ)
theorem c_X6_add_i {z : Nat} {y : Int32} (hz : M 1 1 = nI z) (hz2 : z < 200) (hy : narrow .char (.int y) = .int y) (hQ : Q none SI (up2 (up2 M 2 z y) 1 1 (nI (z + 1)))) : xC G mX6_add (d + 1) 0 0 [.ref (G.1 + 1), .int y] SI M Q := by
  have s1 := sh1_i
  have s2 := sh2_i
  refine xC_intro [some (.ref (G.1 + 1)), some (.int y)] rfl (by decide) (Nat.le_of_ble_eq_true rfl) ?_
  refine xs_aload eX6_add_0 rfl ?_
  refine xs_callV0i eX6_add_1 (by assumption) (Nat.le_of_ble_eq_true rfl) (c_X6_isFull_i (by assumption) (by omega) ⟨_, rfl, ?_⟩)
  refine xs_ifneB eX6_add_4 (fun h4 => ?_) (fun h4 => ?_)
  · exact absurd (of_decide_eq_true h4) (by omega)
  · refine xs_aload eX6_add_7 rfl ?_
    refine xs_getR eX6_add_8 (by assumption) (by rfl) ?_
    refine xs_aload eX6_add_11 rfl ?_
    refine xs_getI eX6_add_12 (by assumption) (by rfl) ?_
    refine xs_eq1 hz ?_
    refine xs_iload eX6_add_15 rfl ?_
    refine xs_cast eX6_add_16 (by assumption) (by omega) (by decide) hy ?_
    refine xs_aload eX6_add_17 rfl ?_
    refine xs_dup eX6_add_18 rfl ?_
    refine xs_getI eX6_add_19 (by assumption) (by rfl) ?_
    refine xs_eq1 (z := nI z) (by rw [up2_ne (by decide)]; exact hz) ?_
    refine xs_K eX6_add_22 ?_
    refine xs_iadd eX6_add_23 ?_
    refine xs_eq1 (nI_add z 1) ?_
    refine xs_putI eX6_add_24 (by assumption) (by rfl) rfl rfl ?_
    exact xs_vret eX6_add_27 rfl hQ
theorem c_X6_letterAt_i {z pl : Nat} (hz : M 1 1 = nI z) (hz2 : z ≤ 200) (hp : pl < 2000) (hc : ∀ j, j < z → narrow .char (.int (M 2 j)) = .int (M 2 j)) (hQ : Q (some (.int (letA (M 2) z pl))) SI M) : xC G mX6_letterAt d 0 0 [.ref (G.1 + 1), .int (nI pl)] SI M Q := by
  have s1 := sh1_i
  have s2 := sh2_i
  refine xC_intro [some (.ref (G.1 + 1)), some (.int (nI pl))] rfl (by decide) (Nat.le_of_ble_eq_true rfl) ?_
  refine xs_iload eX6_letterAt_0 rfl ?_
  refine xs_N0_lt eX6_letterAt_1 (by omega) ?_
  refine xs_iload eX6_letterAt_4 rfl ?_
  refine xs_aload eX6_letterAt_5 rfl ?_
  refine xs_getI eX6_letterAt_6 (by assumption) (by rfl) ?_
  refine xs_eq1 hz ?_
  refine xs_N_ge eX6_letterAt_9 (by omega) (by omega) (fun h9 => ?_) (fun h9 => ?_)
  · refine xs_K eX6_letterAt_21 ?_
    exact xs_iret eX6_letterAt_22 rfl (by first | rfl | exact hc _ h9) (Qev hQ (if_neg (by omega)))
  · refine xs_aload eX6_letterAt_12 rfl ?_
    refine xs_getR eX6_letterAt_13 (by assumption) (by rfl) ?_
    refine xs_iload eX6_letterAt_16 rfl ?_
    refine xs_cald eX6_letterAt_17 (by assumption) (by omega) (by decide) ?_
    refine xs_goto eX6_letterAt_18 ?_
    exact xs_iret eX6_letterAt_22 rfl (by first | rfl | exact hc _ h9) (Qev hQ (if_pos h9))
-- Sightings: cell 95, villages 96, numbers 97
theorem c_X8_clear_i (hQ : Q none SI (up2 M 95 2 (nI 0))) : xC G mX8_clear d 0 0 [.ref (G.1 + 95)] SI M Q := by
  have s1 := sh95_i
  refine xC_intro [some (.ref (G.1 + 95))] rfl (by decide) (Nat.le_of_ble_eq_true rfl) ?_
  refine xs_aload eX8_clear_0 rfl ?_
  refine xs_K eX8_clear_1 ?_
  refine xs_putI eX8_clear_2 (by assumption) (by rfl) rfl rfl ?_
  exact xs_vret eX8_clear_5 rfl (hQ)
end ISM
section IBK2
variable {G : xGl} {d c e v p w nv np kd : Nat} {M : xMem} {Q : Option Value → List xSh → xMem → Prop}
theorem c_X0_open_i (hc : isBk c) (hQ : Q none SI (openM M c)) : xC G mX0_open (d + 1) 0 0 [.ref (G.1 + c)] SI M Q := by
  have h0 := bk0_i hc
  have h1 := bk1_i hc
  have h2 := bk2_i hc
  have h3 := bk3_i hc
  have h4 := bk4_i hc
  have l0 := sh18_i
  have l2 := sh20_i
  have l3 := sh21_i
  obtain ⟨b1, b2⟩ := bkR hc
  refine xC_intro [some (.ref (G.1 + c))] rfl (by decide) (Nat.le_of_ble_eq_true rfl) ?_
  refine xs_aload eX0_open_0 rfl ?_
  refine xs_K eX0_open_1 ?_
  refine xs_putI eX0_open_2 (by assumption) (by rfl) rfl rfl ?_
  refine xs_aload eX0_open_5 rfl ?_
  refine xs_K eX0_open_6 ?_
  refine xs_putI eX0_open_7 (by assumption) (by rfl) rfl rfl ?_
  refine xs_rowO h0 (fun q h => by cases h; exact Nat.le_refl _) (f := fun _ => nI 0) (fun j hj => by rcases bkf j hj with rfl | rfl <;> simp [up2]) ?_
  have e1 : setR (up2 (up2 M c 5 (nI 0)) c 6 (nI 0)) c (fun _ => nI 0) = setR M c (fun _ => nI 0) := by
    funext a
    by_cases h : a = c
    · subst h
      rw [setR_row, setR_row]
    · rw [setR_ne h, setR_ne h, up2_ne h, up2_ne h]
  rw [e1]
  have e2 : setR M c (fun _ => nI 0) 20 = M 20 := setR_ne (by omega)
  have e3 : setR (setR (setR M c (fun _ => nI 0)) (c + 1) (M 20)) (c + 2) (fun _ => nI 0) 21 = M 21 := by rw [setR_ne (by omega), setR_ne (by omega), setR_ne (by omega)]
  refine xs_aload eX0_open_10 rfl ?_
  refine xs_getR eX0_open_11 (by assumption) (by rfl) ?_
  refine xs_getR eX0_open_14 (by assumption) (by rfl) ?_
  refine xs_K eX0_open_17 ?_
  refine xs_aload eX0_open_18 rfl ?_
  refine xs_getR eX0_open_19 (by assumption) (by rfl) ?_
  refine xs_K eX0_open_22 ?_
  refine xs_K eX0_open_23 ?_
  refine xs_copy eX0_open_25 (by assumption) (by assumption) (by decide) (Nat.le_of_ble_eq_true rfl) ?_
  rw [e2]
  refine xs_aload eX0_open_28 rfl ?_
  refine xs_getR eX0_open_29 (by assumption) (by rfl) ?_
  refine xs_K eX0_open_32 ?_
  refine xs_callS2v eX0_open_33 (Nat.le_of_ble_eq_true rfl) (c_fill (by assumption) (by decide) ⟨rfl, ?_⟩)
  refine xs_aload eX0_open_36 rfl ?_
  refine xs_getR eX0_open_37 (by assumption) (by rfl) ?_
  refine xs_getR eX0_open_40 (by assumption) (by rfl) ?_
  refine xs_K eX0_open_43 ?_
  refine xs_aload eX0_open_44 rfl ?_
  refine xs_getR eX0_open_45 (by assumption) (by rfl) ?_
  refine xs_K eX0_open_48 ?_
  refine xs_K eX0_open_49 ?_
  refine xs_copy eX0_open_50 (by assumption) (by assumption) (by decide) (Nat.le_of_ble_eq_true rfl) ?_
  rw [e3]
  refine xs_aload eX0_open_53 rfl ?_
  refine xs_getR eX0_open_54 (by assumption) (by rfl) ?_
  refine xs_K eX0_open_57 ?_
  refine xs_callS2v eX0_open_58 (Nat.le_of_ble_eq_true rfl) (c_fill (by assumption) (by decide) ⟨rfl, ?_⟩)
  exact xs_vret eX0_open_61 rfl (hQ)
end IBK2
theorem pl0_i {q N b : Nat} (h : isPl q N b) : SI[q]? = some (.inr (.inl (4, [some (some (q + 1)), none, none]))) := by rcases h with ⟨rfl, rfl, rfl⟩ | ⟨rfl, rfl, rfl⟩ <;> rfl
section IPL
variable {G : xGl} {d q N b o z c e : Nat} {M : xMem} {Q : Option Value → List xSh → xMem → Prop}
theorem c_X4_clear_i (hq : isPl q N b) (hQ : Q none SI (up2 (up2 M q 1 (nI 0)) q 2 (nI 0))) : xC G mX4_clear d 0 0 [.ref (G.1 + q)] SI M Q := by
  have p0 := pl0_i hq
  refine xC_intro [some (.ref (G.1 + q))] rfl (by decide) (Nat.le_of_ble_eq_true rfl) ?_
  refine xs_aload eX4_clear_0 rfl ?_
  refine xs_K eX4_clear_1 ?_
  refine xs_putI eX4_clear_2 (by assumption) (by rfl) rfl rfl ?_
  refine xs_aload eX4_clear_5 rfl ?_
  refine xs_K eX4_clear_6 ?_
  refine xs_putI eX4_clear_7 (by assumption) (by rfl) rfl rfl ?_
  exact xs_vret eX4_clear_10 rfl (hQ)
end IPL
section ILD
variable {G : xGl} {d c v a b nv np kd : Nat} {M : xMem} {Q : Option Value → List xSh → xMem → Prop}
theorem c_X2_isTold_i {y : Int32} (hc : isLd c) (hn : M c 5 = nI nv) (hQ : Q (some (.int (bI (inN y nv)))) SI M) : xC G mX2_isTold (d + 1) 0 0 [.ref (G.1 + c), .int y] SI M Q := by
  have h0 := ld0_i hc
  refine xC_intro [some (.ref (G.1 + c)), some (.int y)] rfl (by decide) (Nat.le_of_ble_eq_true rfl) ?_
  refine xs_iload eX2_isTold_0 rfl ?_
  refine xs_K eX2_isTold_1 ?_
  refine xs_aload eX2_isTold_2 rfl ?_
  refine xs_getI eX2_isTold_3 (by assumption) (by rfl) ?_
  refine xs_eq1 hn ?_
  refine xs_K eX2_isTold_6 ?_
  refine xs_isub eX2_isTold_7 ?_
  refine xs_callS3i eX2_isTold_8 (Nat.le_of_ble_eq_true rfl) (c_X9_isWithin ⟨_, rfl, ?_⟩)
  exact xs_iret eX2_isTold_11 rfl (by first | exact bI_nar _ | rfl) (hQ)
theorem c_X2_clear_i (hc : isLd c) (hQ : Q none SI (clearM M c)) : xC G mX2_clear (d + 1) 0 0 [.ref (G.1 + c)] SI M Q := by
  have h0 := ld0_i hc
  have h1 := ld1_i hc
  have h2 := ld2_i hc
  have h3 := ld3_i hc
  have h4 := ld4_i hc
  have h5 := ld5_i hc
  refine xC_intro [some (.ref (G.1 + c)), none, none] rfl (by decide) (Nat.le_of_ble_eq_true rfl) ?_
  refine xs_aload eX2_clear_0 rfl ?_
  refine xs_K eX2_clear_1 ?_
  refine xs_putI eX2_clear_2 (by assumption) (by rfl) rfl rfl ?_
  refine xs_aload eX2_clear_5 rfl ?_
  refine xs_K eX2_clear_6 ?_
  refine xs_putI eX2_clear_7 (by assumption) (by rfl) rfl rfl ?_
  refine xs_aload eX2_clear_10 rfl ?_
  refine xs_K eX2_clear_11 ?_
  refine xs_putI eX2_clear_12 (by assumption) (by rfl) rfl rfl ?_
  refine xs_rowO h0 (fun q h => by cases h; exact Nat.le_refl _) (f := fun _ => nI 0) (fun j hj => by rcases ldf j hj with rfl | rfl | rfl <;> simp [up2]) ?_
  have e1 : setR (up2 (up2 (up2 M c 5 (nI 0)) c 6 (nI 0)) c 7 (nI 0)) c (fun _ => nI 0) = setR M c (fun _ => nI 0) := by
    funext a
    by_cases h : a = c
    · subst h
      rw [setR_row, setR_row]
    · rw [setR_ne h, setR_ne h, up2_ne h, up2_ne h, up2_ne h]
  rw [e1]
  refine xs_aload eX2_clear_15 rfl ?_
  refine xs_getR eX2_clear_16 (by assumption) (by rfl) ?_
  refine xs_K eX2_clear_19 ?_
  refine xs_callS2v eX2_clear_20 (Nat.le_of_ble_eq_true rfl) (c_fill (by assumption) (by decide) ⟨rfl, ?_⟩)
  refine xs_aload eX2_clear_23 rfl ?_
  refine xs_getR eX2_clear_24 (by assumption) (by rfl) ?_
  refine xs_K eX2_clear_27 ?_
  refine xs_callS2v eX2_clear_28 (Nat.le_of_ble_eq_true rfl) (c_fill (by assumption) (by decide) ⟨rfl, ?_⟩)
  refine xs_aload eX2_clear_31 rfl ?_
  refine xs_getR eX2_clear_32 (by assumption) (by rfl) ?_
  refine xs_K eX2_clear_35 ?_
  refine xs_callS2v eX2_clear_36 (Nat.le_of_ble_eq_true rfl) (c_fill (by assumption) (by decide) ⟨rfl, ?_⟩)
  refine xs_aload eX2_clear_39 rfl ?_
  refine xs_getR eX2_clear_40 (by assumption) (by rfl) ?_
  refine xs_K eX2_clear_43 ?_
  refine xs_callS2v eX2_clear_44 (Nat.le_of_ble_eq_true rfl) (c_fill (by assumption) (by decide) ⟨rfl, ?_⟩)
  refine xs_K eX2_clear_47 ?_
  refine xs_istore eX2_clear_48 (Nat.le_of_ble_eq_true rfl) rfl rfl ?_
  generalize hM1 : setR (setR (setR (setR (setR M c (fun _ => nI 0)) (c + 1) (fun _ => nI 0)) (c + 2) (fun _ => nI 0)) (c + 3) (fun _ => nI 0)) (c + 4) (fun _ => nI 0) = M1
  have hf : ∀ (i j : Nat), i < 7 → M1 (c + 6 + i) j = M (c + 6 + i) j := fun i j hi => by rw [← hM1, setR_ne (by omega), setR_ne (by omega), setR_ne (by omega), setR_ne (by omega), setR_ne (by omega)]
  have K := dn (P := fun i => xW G mX2_clear (d + 1) 0 0 Q 49 [some (.ref (G.1 + c)), some (.int (nI i)), none] [] SI (fun a => if c + 6 ≤ a ∧ a < c + 6 + i then frow (a - (c + 6)) else M1 a)) 7 ?_ ?_ 0 (by omega)
  · refine xs_eqM ?_ K
    funext a
    rw [if_neg (by omega)]
  · have e9 : clearM M c = (fun a => if c + 6 ≤ a ∧ a < c + 6 + 7 then frow (a - (c + 6)) else M1 a) := by
      funext a
      simp only [clearM]
      by_cases q1 : c + 6 ≤ a ∧ a < c + 6 + 7
      · rw [if_pos q1, if_neg (by omega), if_pos (by omega)]
      · rw [if_neg q1, if_neg (c := c + 6 ≤ a ∧ a < c + 13) (by omega), ← hM1]
        by_cases q2 : a = c ∨ (c + 1 ≤ a ∧ a ≤ c + 4)
        · rw [if_pos q2]
          rcases (show a = c ∨ a = c + 1 ∨ a = c + 2 ∨ a = c + 3 ∨ a = c + 4 by omega) with h | h | h | h | h <;> rw [h] <;> simp [setR]
        · rw [if_neg q2, setR_ne (by omega), setR_ne (by omega), setR_ne (by omega), setR_ne (by omega), setR_ne (by omega)]
    refine xs_iload eX2_clear_49 rfl ?_
    refine xs_K eX2_clear_50 ?_
    refine xs_N_ge eX2_clear_52 (by omega) (by omega) (fun h52 => ?_) (fun h => absurd h (by omega))
    exact xs_vret eX2_clear_94 rfl (QeM hQ e9)
  · intro i hi ih
    have hr := ldr_i hc i hi
    refine xs_iload eX2_clear_49 rfl ?_
    refine xs_K eX2_clear_50 ?_
    refine xs_N_ge eX2_clear_52 (by omega) (by omega) (fun h => absurd h (by omega)) (fun h52 => ?_)
    refine xs_K eX2_clear_55 ?_
    refine xs_istore eX2_clear_56 (Nat.le_of_ble_eq_true rfl) rfl rfl ?_
    have K := dn (P := fun j => xW G mX2_clear (d + 1) 0 0 Q 57 [some (.ref (G.1 + c)), some (.int (nI i)), some (.int (nI j))] [] SI (setR (fun a => if c + 6 ≤ a ∧ a < c + 6 + i then frow (a - (c + 6)) else M1 a) (c + 6 + i) (fun jj => if jj < j then frow i jj else M1 (c + 6 + i) jj))) 7 ?_ ?_ 0 (by omega)
    · refine xs_eqM ?_ K
      funext a
      by_cases q : a = c + 6 + i
      · subst q
        rw [setR_row, if_neg (by omega)]
        simp
      · rw [setR_ne q]
    · refine xs_row hr (f := frow i) (fun j hj => by rw [setR_row]; simp [hj]) ?_
      refine xs_eqM (M1 := fun a => if c + 6 ≤ a ∧ a < c + 6 + (i + 1) then frow (a - (c + 6)) else M1 a) ?_ ?_
      · funext a
        by_cases q : a = c + 6 + i
        · subst q
          rw [setR_row, if_pos (by omega), show c + 6 + i - (c + 6) = i by omega]
        · rw [setR_ne q, setR_ne q]
          by_cases q2 : c + 6 ≤ a ∧ a < c + 6 + i
          · rw [if_pos q2, if_pos (by omega)]
          · rw [if_neg q2, if_neg (by omega)]
      · refine xs_iload eX2_clear_57 rfl ?_
        refine xs_K eX2_clear_58 ?_
        refine xs_N_ge eX2_clear_60 (by omega) (by omega) (fun h60 => ?_) (fun h => absurd h (by omega))
        refine xs_inc1 eX2_clear_88 rfl rfl rfl ?_
        refine xs_goto eX2_clear_91 ?_
        exact xs_kill 2 rfl ih
    · intro j hj ih2
      have e8 : ∀ y : Int32, y = frow i j → up2 (setR (fun a => if c + 6 ≤ a ∧ a < c + 6 + i then frow (a - (c + 6)) else M1 a) (c + 6 + i) (fun jj => if jj < j then frow i jj else M1 (c + 6 + i) jj)) (c + 6 + i) j y = setR (fun a => if c + 6 ≤ a ∧ a < c + 6 + i then frow (a - (c + 6)) else M1 a) (c + 6 + i) (fun jj => if jj < j + 1 then frow i jj else M1 (c + 6 + i) jj) := by
        intro y hy
        funext a
        by_cases q : a = c + 6 + i
        · subst q
          rw [up2_row, setR_row, setR_row]
          funext jj
          by_cases q2 : jj = j
          · subst q2
            simp [upd, hy]
          · simp only [upd, if_neg q2]
            by_cases q3 : jj < j
            · rw [if_pos q3, if_pos (by omega)]
            · rw [if_neg q3, if_neg (by omega)]
        · rw [up2_ne q, setR_ne q, setR_ne q]
      refine xs_iload eX2_clear_57 rfl ?_
      refine xs_K eX2_clear_58 ?_
      refine xs_N_ge eX2_clear_60 (by omega) (by omega) (fun h => absurd h (by omega)) (fun h60 => ?_)
      refine xs_aload eX2_clear_63 rfl ?_
      refine xs_getR eX2_clear_64 (by assumption) (by rfl) ?_
      refine xs_iload eX2_clear_67 rfl ?_
      refine xs_aald eX2_clear_68 h5 rfl (ldI hi) (Nat.le_of_ble_eq_true rfl) ?_
      refine xs_iload eX2_clear_69 rfl ?_
      refine xs_iload eX2_clear_70 rfl ?_
      refine xs_iload eX2_clear_71 rfl ?_
      refine xs_N_ne eX2_clear_72 (by omega) (by omega) (fun h72 => ?_) (fun h72 => ?_)
      · refine xs_K eX2_clear_79 ?_
        refine xs_iast eX2_clear_81 (by assumption) (by omega) (by decide) ?_
        refine xs_inc1 eX2_clear_82 rfl rfl rfl ?_
        refine xs_goto eX2_clear_85 ?_
        exact xs_eqM (e8 _ (by simp [frow, h72])) ih2
      · refine xs_K eX2_clear_75 ?_
        refine xs_goto eX2_clear_76 ?_
        refine xs_iast eX2_clear_81 (by assumption) (by omega) (by decide) ?_
        refine xs_inc1 eX2_clear_82 rfl rfl rfl ?_
        refine xs_goto eX2_clear_85 ?_
        exact xs_eqM (e8 _ (by simp [frow, h72])) ih2
theorem c_X2_addVillage_i {k1 k2 : Nat} (hc : isLd c) (hn : M c 5 = nI nv) (h7 : nv ≤ 7) (h1k : k1 < 100) (h2k : k2 < 100) (hQ : Q (some (.int (bI (okV nv k1 k2)))) SI (if okV nv k1 k2 then villM M c nv k1 (nI k2) else M)) : xC G mX2_addVillage (d + 1) 0 0 [.ref (G.1 + c), .int (nI k1), .int (nI k2)] SI M Q := by
  have h0 := ld0_i hc
  have h1 := ld1_i hc
  have h2 := ld2_i hc
  have K : ∀ (M2 : xMem), M2 c 5 = nI nv → M2 = (if k1 = 0 then up2 (up2 (up2 M (c + 1) nv (nI k1)) (c + 2) nv (nI k2)) c 7 (bon (M c 7) nv) else up2 (up2 M (c + 1) nv (nI k1)) (c + 2) nv (nI k2)) → okV nv k1 k2 = true → xW G mX2_addVillage (d + 1) 0 0 Q 69 [some (.ref (G.1 + c)), some (.int (nI k1)), some (.int (nI k2))] [] SI M2 := by
    intro M2 q1 q2 q3
    rw [q3, if_pos rfl] at hQ
    refine xs_aload eX2_addVillage_69 rfl ?_
    refine xs_dup eX2_addVillage_70 rfl ?_
    refine xs_getI eX2_addVillage_71 (by assumption) (by rfl) ?_
    refine xs_eq1 q1 ?_
    refine xs_K eX2_addVillage_74 ?_
    refine xs_iadd eX2_addVillage_75 ?_
    refine xs_eq1 (nI_add nv 1) ?_
    refine xs_putI eX2_addVillage_76 (by assumption) (by rfl) rfl rfl ?_
    refine xs_K eX2_addVillage_79 ?_
    exact xs_iret eX2_addVillage_80 rfl (by first | exact bI_nar _ | rfl) (QeM hQ (by rw [q2]; rfl))
  refine xC_intro [some (.ref (G.1 + c)), some (.int (nI k1)), some (.int (nI k2))] rfl (by decide) (Nat.le_of_ble_eq_true rfl) ?_
  refine xs_aload eX2_addVillage_0 rfl ?_
  refine xs_getI eX2_addVillage_1 (by assumption) (by rfl) ?_
  refine xs_eq1 hn ?_
  refine xs_K eX2_addVillage_4 ?_
  refine xs_N_ge eX2_addVillage_6 (by omega) (by omega) (fun h6 => ?_) (fun h6 => ?_)
  · refine xs_K eX2_addVillage_28 ?_
    exact xs_iret eX2_addVillage_29 rfl (by first | exact bI_nar _ | rfl) (Qeq hQ (by rw [okV, decide_eq_false (p := nv < 7) (by omega)]; rfl) (by rw [okV, decide_eq_false (p := nv < 7) (by omega)]; rfl))
  · refine xs_iload eX2_addVillage_9 rfl ?_
    refine xs_K eX2_addVillage_10 ?_
    refine xs_K eX2_addVillage_11 ?_
    refine xs_callS3i eX2_addVillage_12 (Nat.le_of_ble_eq_true rfl) (c_X9_isWithin ⟨_, rfl, ?_⟩)
    rw [wi_nI (by omega) (by decide) (by decide)]
    refine xs_ifeqB eX2_addVillage_15 (fun h15 => ?_) (fun h15 => ?_)
    · refine xs_K eX2_addVillage_28 ?_
      exact xs_iret eX2_addVillage_29 rfl (by first | exact bI_nar _ | rfl) (QF (by simp [okV] at h15 ⊢; omega) hQ)
    · refine xs_iload eX2_addVillage_18 rfl ?_
      refine xs_K eX2_addVillage_19 ?_
      refine xs_K eX2_addVillage_20 ?_
      refine xs_callS3i eX2_addVillage_22 (Nat.le_of_ble_eq_true rfl) (c_X9_isWithin ⟨_, rfl, ?_⟩)
      rw [wi_nI (by omega) (by decide) (by decide)]
      refine xs_ifneB eX2_addVillage_25 (fun h25 => ?_) (fun h25 => ?_)
      · have e9 : okV nv k1 k2 = true := by simp [okV] at h15 h25 ⊢; omega
        have z1 : up2 M (c + 1) nv (nI k1) c 5 = nI nv := by rw [up2_ne (by omega)]; exact hn
        have z2 : up2 (up2 M (c + 1) nv (nI k1)) (c + 2) nv (nI k2) c 5 = nI nv := by rw [up2_ne (by omega)]; exact z1
        have z3 : up2 (up2 M (c + 1) nv (nI k1)) (c + 2) nv (nI k2) c 7 = M c 7 := by rw [up2_ne (by omega), up2_ne (by omega)]
        refine xs_aload eX2_addVillage_30 rfl ?_
        refine xs_getR eX2_addVillage_31 (by assumption) (by rfl) ?_
        refine xs_aload eX2_addVillage_34 rfl ?_
        refine xs_getI eX2_addVillage_35 (by assumption) (by rfl) ?_
        refine xs_eq1 hn ?_
        refine xs_iload eX2_addVillage_38 rfl ?_
        refine xs_iast eX2_addVillage_39 (by assumption) (by omega) (by decide) ?_
        refine xs_aload eX2_addVillage_40 rfl ?_
        refine xs_getR eX2_addVillage_41 (by assumption) (by rfl) ?_
        refine xs_aload eX2_addVillage_44 rfl ?_
        refine xs_getI eX2_addVillage_45 (by assumption) (by rfl) ?_
        refine xs_eq1 z1 ?_
        refine xs_iload eX2_addVillage_48 rfl ?_
        refine xs_iast eX2_addVillage_49 (by assumption) (by omega) (by decide) ?_
        refine xs_iload eX2_addVillage_50 rfl ?_
        refine xs_N0_ne eX2_addVillage_51 (by omega) (fun h51 => ?_) (fun h51 => ?_)
        · exact K _ z2 (by rw [if_neg (show k1 ≠ 0 by omega)]) e9
        · refine xs_aload eX2_addVillage_54 rfl ?_
          refine xs_dup eX2_addVillage_55 rfl ?_
          refine xs_getI eX2_addVillage_56 (by assumption) (by rfl) ?_
          refine xs_eq1 z3 ?_
          refine xs_K eX2_addVillage_59 ?_
          refine xs_aload eX2_addVillage_60 rfl ?_
          refine xs_getI eX2_addVillage_61 (by assumption) (by rfl) ?_
          refine xs_eq1 z2 ?_
          refine xs_ishl eX2_addVillage_64 ?_
          refine xs_ior eX2_addVillage_65 ?_
          refine xs_putI eX2_addVillage_66 (by assumption) (by rfl) rfl rfl ?_
          exact K _ (by simp only [up2]; simp; simpa [up2] using z2) (by rw [if_pos (show k1 = 0 by omega)]; rfl) e9
      · refine xs_K eX2_addVillage_28 ?_
        exact xs_iret eX2_addVillage_29 rfl (by first | exact bI_nar _ | rfl) (QF (by simp [okV] at h25 ⊢; omega) hQ)
theorem c_X2_addWay_i {y : Nat} (hc : isLd c) (hn : M c 5 = nI nv) (h7 : nv ≤ 7) (ha : a < 100) (hb : b < 100) (hy : y < 100) (hQ : Q (some (.int (bI (okW nv a b y)))) SI (if okW nv a b y then wayM M c a b (nI y) else M)) : xC G mX2_addWay (d + 2) 0 0 [.ref (G.1 + c), .int (nI a), .int (nI b), .int (nI y)] SI M Q := by
  have h0 := ld0_i hc
  have h4 := ld4_i hc
  have h5 := ld5_i hc
  have K : okW nv a b y = true → xW G mX2_addWay (d + 2) 0 0 Q 33 [some (.ref (G.1 + c)), some (.int (nI a)), some (.int (nI b)), some (.int (nI y))] [] SI M := by
    intro q
    rw [q, if_pos rfl] at hQ
    simp [okW] at q
    have hra := ldr_i hc a (by omega)
    have hrb := ldr_i hc b (by omega)
    have z1 : up2 (up2 M (c + 6 + a) b (nI y)) (c + 6 + b) a (nI y) (c + 4) a = M (c + 4) a := by rw [up2_ne (by omega), up2_ne (by omega)]
    refine xs_aload eX2_addWay_33 rfl ?_
    refine xs_getR eX2_addWay_34 (by assumption) (by rfl) ?_
    refine xs_iload eX2_addWay_37 rfl ?_
    refine xs_aald eX2_addWay_38 h5 rfl (ldI (by omega)) (Nat.le_of_ble_eq_true rfl) ?_
    refine xs_iload eX2_addWay_39 rfl ?_
    refine xs_iload eX2_addWay_40 rfl ?_
    refine xs_iast eX2_addWay_41 (by assumption) (by omega) (by decide) ?_
    refine xs_aload eX2_addWay_42 rfl ?_
    refine xs_getR eX2_addWay_43 (by assumption) (by rfl) ?_
    refine xs_iload eX2_addWay_46 rfl ?_
    refine xs_aald eX2_addWay_47 h5 rfl (ldI (by omega)) (Nat.le_of_ble_eq_true rfl) ?_
    refine xs_iload eX2_addWay_48 rfl ?_
    refine xs_iload eX2_addWay_49 rfl ?_
    refine xs_iast eX2_addWay_50 (by assumption) (by omega) (by decide) ?_
    refine xs_aload eX2_addWay_51 rfl ?_
    refine xs_getR eX2_addWay_52 (by assumption) (by rfl) ?_
    refine xs_iload eX2_addWay_55 rfl ?_
    refine xs_dup2 eX2_addWay_56 rfl rfl ?_
    refine xs_iald eX2_addWay_57 (by assumption) (by omega) (by decide) ?_
    rw [z1]
    refine xs_K eX2_addWay_58 ?_
    refine xs_iload eX2_addWay_59 rfl ?_
    refine xs_ishl eX2_addWay_60 ?_
    refine xs_ior eX2_addWay_61 ?_
    refine xs_iast eX2_addWay_62 (by assumption) (by omega) (by decide) ?_
    refine xs_aload eX2_addWay_63 rfl ?_
    refine xs_getR eX2_addWay_64 (by assumption) (by rfl) ?_
    refine xs_iload eX2_addWay_67 rfl ?_
    refine xs_dup2 eX2_addWay_68 rfl rfl ?_
    refine xs_iald eX2_addWay_69 (by assumption) (by omega) (by decide) ?_
    refine xs_K eX2_addWay_70 ?_
    refine xs_iload eX2_addWay_71 rfl ?_
    refine xs_ishl eX2_addWay_72 ?_
    refine xs_ior eX2_addWay_73 ?_
    refine xs_iast eX2_addWay_74 (by assumption) (by omega) (by decide) ?_
    refine xs_K eX2_addWay_75 ?_
    exact xs_iret eX2_addWay_76 rfl (by first | exact bI_nar _ | rfl) (hQ)
  refine xC_intro [some (.ref (G.1 + c)), some (.int (nI a)), some (.int (nI b)), some (.int (nI y))] rfl (by decide) (Nat.le_of_ble_eq_true rfl) ?_
  refine xs_aload eX2_addWay_0 rfl ?_
  refine xs_iload eX2_addWay_1 rfl ?_
  refine xs_callV1i eX2_addWay_2 (by assumption) (Nat.le_of_ble_eq_true rfl) (c_X2_isTold_i (by assumption) (by assumption) ⟨_, rfl, ?_⟩)
  rw [inN_eq (by omega) (by omega)]
  refine xs_ifeqB eX2_addWay_5 (fun h5 => ?_) (fun h5 => ?_)
  · refine xs_K eX2_addWay_31 ?_
    exact xs_iret eX2_addWay_32 rfl (by first | exact bI_nar _ | rfl) (QF (by simp [okW] at h5 ⊢; omega) hQ)
  · refine xs_aload eX2_addWay_8 rfl ?_
    refine xs_iload eX2_addWay_9 rfl ?_
    refine xs_callV1i eX2_addWay_10 (by assumption) (Nat.le_of_ble_eq_true rfl) (c_X2_isTold_i (by assumption) (by assumption) ⟨_, rfl, ?_⟩)
    rw [inN_eq (by omega) (by omega)]
    refine xs_ifeqB eX2_addWay_13 (fun h13 => ?_) (fun h13 => ?_)
    · refine xs_K eX2_addWay_31 ?_
      exact xs_iret eX2_addWay_32 rfl (by first | exact bI_nar _ | rfl) (QF (by simp [okW] at h13 ⊢; omega) hQ)
    · refine xs_iload eX2_addWay_16 rfl ?_
      refine xs_iload eX2_addWay_17 rfl ?_
      refine xs_N_eq eX2_addWay_18 (by omega) (by omega) (fun h18 => ?_) (fun h18 => ?_)
      · refine xs_K eX2_addWay_31 ?_
        exact xs_iret eX2_addWay_32 rfl (by first | exact bI_nar _ | rfl) (QF (by simp [okW]; omega) hQ)
      · refine xs_iload eX2_addWay_21 rfl ?_
        refine xs_K eX2_addWay_22 ?_
        refine xs_K eX2_addWay_23 ?_
        refine xs_callS3i eX2_addWay_25 (Nat.le_of_ble_eq_true rfl) (c_X9_isWithin ⟨_, rfl, ?_⟩)
        rw [wi_nI (by omega) (by decide) (by decide)]
        refine xs_ifneB eX2_addWay_28 (fun h28 => ?_) (fun h28 => ?_)
        · exact K (by simp [okW] at h5 h13 h28 ⊢; omega)
        · refine xs_K eX2_addWay_31 ?_
          exact xs_iret eX2_addWay_32 rfl (by first | exact bI_nar _ | rfl) (QF (by simp [okW] at h28 ⊢; omega) hQ)
theorem c_X2_addParty_i (hc : isLd c) (hn : M c 5 = nI nv) (h7 : nv ≤ 7) (hp : M c 6 = nI np) (hp3 : np ≤ 3) (hv : v < 100) (hQ : Q (some (.int (bI (okP np nv v)))) SI (if okP np nv v then partM M c np v else M)) : xC G mX2_addParty (d + 2) 0 0 [.ref (G.1 + c), .int (nI v)] SI M Q := by
  have h0 := ld0_i hc
  have h3 := ld3_i hc
  refine xC_intro [some (.ref (G.1 + c)), some (.int (nI v))] rfl (by decide) (Nat.le_of_ble_eq_true rfl) ?_
  refine xs_aload eX2_addParty_0 rfl ?_
  refine xs_getI eX2_addParty_1 (by assumption) (by rfl) ?_
  refine xs_eq1 hp ?_
  refine xs_K eX2_addParty_4 ?_
  refine xs_N_ge eX2_addParty_5 (by omega) (by omega) (fun h5 => ?_) (fun h5 => ?_)
  · refine xs_K eX2_addParty_16 ?_
    exact xs_iret eX2_addParty_17 rfl (by first | exact bI_nar _ | rfl) (QF (by simp [okP]; omega) hQ)
  · refine xs_aload eX2_addParty_8 rfl ?_
    refine xs_iload eX2_addParty_9 rfl ?_
    refine xs_callV1i eX2_addParty_10 (by assumption) (Nat.le_of_ble_eq_true rfl) (c_X2_isTold_i (by assumption) (by assumption) ⟨_, rfl, ?_⟩)
    rw [inN_eq (by omega) (by omega)]
    refine xs_ifneB eX2_addParty_13 (fun h13 => ?_) (fun h13 => ?_)
    · refine xs_aload eX2_addParty_18 rfl ?_
      refine xs_getR eX2_addParty_19 (by assumption) (by rfl) ?_
      refine xs_aload eX2_addParty_22 rfl ?_
      refine xs_getI eX2_addParty_23 (by assumption) (by rfl) ?_
      refine xs_eq1 hp ?_
      refine xs_iload eX2_addParty_26 rfl ?_
      refine xs_iast eX2_addParty_27 (by assumption) (by omega) (by decide) ?_
      refine xs_aload eX2_addParty_28 rfl ?_
      refine xs_dup eX2_addParty_29 rfl ?_
      refine xs_getI eX2_addParty_30 (by assumption) (by rfl) ?_
      refine xs_eq1 (z := nI np) (by rw [up2_ne (by omega)]; exact hp) ?_
      refine xs_K eX2_addParty_33 ?_
      refine xs_iadd eX2_addParty_34 ?_
      refine xs_eq1 (nI_add np 1) ?_
      refine xs_putI eX2_addParty_35 (by assumption) (by rfl) rfl rfl ?_
      refine xs_K eX2_addParty_38 ?_
      exact xs_iret eX2_addParty_39 rfl (by first | exact bI_nar _ | rfl) (QT (by simp [okP] at h13 ⊢; omega) hQ)
    · refine xs_K eX2_addParty_16 ?_
      exact xs_iret eX2_addParty_17 rfl (by first | exact bI_nar _ | rfl) (QF (by simp [okP] at h13 ⊢; omega) hQ)
theorem c_X2_measure_i (hc : isLd c) (hn : M c 5 = nI nv) (h7 : nv ≤ 7) (hQ : Q none SI (measM M c nv)) : xC G mX2_measure (d + 1) 0 0 [.ref (G.1 + c)] SI M Q := by
  have h0 := ld0_i hc
  have h5 := ld5_i hc
  have i1 : ∀ (k a n : Nat) (M1 : xMem), M1 c = M c → iterN (relaxM c k a) n M1 c = M c := fun k a n M1 h => iterN_inv (P := fun (M1 : xMem) => M1 c = M c) (fun i y hy => relaxM_c.trans hy) n M1 h
  have i2 : ∀ (k n : Nat) (M1 : xMem), M1 c = M c → iterN (fun a M => iterN (relaxM c k a) nv M) n M1 c = M c := fun k n M1 h => iterN_inv (P := fun (M1 : xMem) => M1 c = M c) (fun i y hy => i1 k i nv y hy) n M1 h
  have i3 : ∀ n : Nat, iterN (fun k M => iterN (fun a M => iterN (relaxM c k a) nv M) nv M) n M c = M c := fun n => iterN_inv (P := fun (M1 : xMem) => M1 c = M c) (fun i y hy => i2 i nv y hy) n M rfl
  refine xC_intro [some (.ref (G.1 + c)), none, none, none] rfl (by decide) (Nat.le_of_ble_eq_true rfl) ?_
  refine xs_K eX2_measure_0 ?_
  refine xs_istore eX2_measure_1 (Nat.le_of_ble_eq_true rfl) rfl rfl ?_
  refine dn (P := fun i => xW G mX2_measure (d + 1) 0 0 Q 2 [some (.ref (G.1 + c)), some (.int (nI i)), none, none] [] SI (iterN (fun k M => iterN (fun a M => iterN (relaxM c k a) nv M) nv M) i M)) nv ?_ ?_ 0 (Nat.zero_le _)
  · refine xs_iload eX2_measure_2 rfl ?_
    refine xs_aload eX2_measure_3 rfl ?_
    refine xs_getI eX2_measure_4 (by assumption) (by rfl) ?_
    refine xs_eq1 (z := nI nv) (by rw [i3]; exact hn) ?_
    refine xs_N_ge eX2_measure_7 (by omega) (by omega) (fun h7 => ?_) (fun h => absurd h (by omega))
    exact xs_vret eX2_measure_84 rfl (hQ)
  · intro i hi ih
    refine xs_iload eX2_measure_2 rfl ?_
    refine xs_aload eX2_measure_3 rfl ?_
    refine xs_getI eX2_measure_4 (by assumption) (by rfl) ?_
    refine xs_eq1 (z := nI nv) (by rw [i3]; exact hn) ?_
    refine xs_N_ge eX2_measure_7 (by omega) (by omega) (fun h => absurd h (by omega)) (fun h7 => ?_)
    refine xs_K eX2_measure_10 ?_
    refine xs_istore eX2_measure_11 (Nat.le_of_ble_eq_true rfl) rfl rfl ?_
    refine dn (P := fun a => xW G mX2_measure (d + 1) 0 0 Q 12 [some (.ref (G.1 + c)), some (.int (nI i)), some (.int (nI a)), none] [] SI (iterN (fun a M => iterN (relaxM c i a) nv M) a (iterN (fun k M => iterN (fun a M => iterN (relaxM c k a) nv M) nv M) i M))) nv ?_ ?_ 0 (Nat.zero_le _)
    · refine xs_iload eX2_measure_12 rfl ?_
      refine xs_aload eX2_measure_13 rfl ?_
      refine xs_getI eX2_measure_14 (by assumption) (by rfl) ?_
      refine xs_eq1 (z := nI nv) (by rw [i2 _ _ _ (i3 i)]; exact hn) ?_
      refine xs_N_ge eX2_measure_17 (by omega) (by omega) (fun h17 => ?_) (fun h => absurd h (by omega))
      refine xs_inc1 eX2_measure_78 rfl rfl rfl ?_
      refine xs_goto eX2_measure_81 ?_
      exact xs_kill 2 rfl ih
    · intro a ha ih2
      refine xs_iload eX2_measure_12 rfl ?_
      refine xs_aload eX2_measure_13 rfl ?_
      refine xs_getI eX2_measure_14 (by assumption) (by rfl) ?_
      refine xs_eq1 (z := nI nv) (by rw [i2 _ _ _ (i3 i)]; exact hn) ?_
      refine xs_N_ge eX2_measure_17 (by omega) (by omega) (fun h => absurd h (by omega)) (fun h17 => ?_)
      refine xs_K eX2_measure_20 ?_
      refine xs_istore eX2_measure_21 (Nat.le_of_ble_eq_true rfl) rfl rfl ?_
      refine dn (P := fun b => xW G mX2_measure (d + 1) 0 0 Q 22 [some (.ref (G.1 + c)), some (.int (nI i)), some (.int (nI a)), some (.int (nI b))] [] SI (iterN (relaxM c i a) b (iterN (fun a M => iterN (relaxM c i a) nv M) a (iterN (fun k M => iterN (fun a M => iterN (relaxM c k a) nv M) nv M) i M)))) nv ?_ ?_ 0 (Nat.zero_le _)
      · refine xs_iload eX2_measure_22 rfl ?_
        refine xs_aload eX2_measure_23 rfl ?_
        refine xs_getI eX2_measure_24 (by assumption) (by rfl) ?_
        refine xs_eq1 (z := nI nv) (by rw [i1 _ _ _ _ (i2 _ _ _ (i3 i))]; exact hn) ?_
        refine xs_N_ge eX2_measure_27 (by omega) (by omega) (fun h27 => ?_) (fun h => absurd h (by omega))
        refine xs_inc1 eX2_measure_72 rfl rfl rfl ?_
        refine xs_goto eX2_measure_75 ?_
        exact xs_kill 3 rfl ih2
      · intro b hb ih3
        have hra := ldr_i hc a (by omega)
        have hri := ldr_i hc i (by omega)
        refine xs_iload eX2_measure_22 rfl ?_
        refine xs_aload eX2_measure_23 rfl ?_
        refine xs_getI eX2_measure_24 (by assumption) (by rfl) ?_
        refine xs_eq1 (z := nI nv) (by rw [i1 _ _ _ _ (i2 _ _ _ (i3 i))]; exact hn) ?_
        refine xs_N_ge eX2_measure_27 (by omega) (by omega) (fun h => absurd h (by omega)) (fun h27 => ?_)
        refine xs_aload eX2_measure_30 rfl ?_
        refine xs_getR eX2_measure_31 (by assumption) (by rfl) ?_
        refine xs_iload eX2_measure_34 rfl ?_
        refine xs_aald eX2_measure_35 h5 rfl (ldI (by omega)) (Nat.le_of_ble_eq_true rfl) ?_
        refine xs_iload eX2_measure_36 rfl ?_
        refine xs_aload eX2_measure_37 rfl ?_
        refine xs_getR eX2_measure_38 (by assumption) (by rfl) ?_
        refine xs_iload eX2_measure_41 rfl ?_
        refine xs_aald eX2_measure_42 h5 rfl (ldI (by omega)) (Nat.le_of_ble_eq_true rfl) ?_
        refine xs_iload eX2_measure_43 rfl ?_
        refine xs_iald eX2_measure_44 (by assumption) (by omega) (by decide) ?_
        refine xs_aload eX2_measure_45 rfl ?_
        refine xs_getR eX2_measure_46 (by assumption) (by rfl) ?_
        refine xs_iload eX2_measure_49 rfl ?_
        refine xs_aald eX2_measure_50 h5 rfl (ldI (by omega)) (Nat.le_of_ble_eq_true rfl) ?_
        refine xs_iload eX2_measure_51 rfl ?_
        refine xs_iald eX2_measure_52 (by assumption) (by omega) (by decide) ?_
        refine xs_aload eX2_measure_53 rfl ?_
        refine xs_getR eX2_measure_54 (by assumption) (by rfl) ?_
        refine xs_iload eX2_measure_57 rfl ?_
        refine xs_aald eX2_measure_58 h5 rfl (ldI (by omega)) (Nat.le_of_ble_eq_true rfl) ?_
        refine xs_iload eX2_measure_59 rfl ?_
        refine xs_iald eX2_measure_60 (by assumption) (by omega) (by decide) ?_
        refine xs_iadd eX2_measure_61 ?_
        refine xs_min fX2_measure_62 (Nat.le_of_ble_eq_true rfl) ?_
        refine xs_iast eX2_measure_65 (by assumption) (by omega) (by decide) ?_
        refine xs_inc1 eX2_measure_66 rfl rfl rfl ?_
        refine xs_goto eX2_measure_69 ?_
        exact ih3
end ILD
section IRD
variable {G : xGl} {d c pl len nv np : Nat} {t : Nat → Nat} {M : xMem} {Q : Option Value → List xSh → xMem → Prop}
theorem c_letterAt_i (ht : isTx M t len) (hp : pl < 2000) (hQ : Q (some (.int (nI (ltr t len pl)))) SI M) : xC G mX6_letterAt d 0 0 [.ref (G.1 + 1), .int (nI pl)] SI M Q :=
  c_X6_letterAt_i ht.1 ht.2.1 hp (fun j hj => by rw [(ht.2.2 j hj).1]; exact (pk_charN (by have := (ht.2.2 j hj).2.2; omega)).1) (by rw [ltr_letA ht]; exact hQ)
theorem c_X5_readNumber_i (ht : isTx M t len) (hp : M 3 1 = nI pl) (hp2 : pl < 1000) (hQ : Q (some (.int (optI (numAt (ltr t len) pl).1))) SI (up2 M 3 1 (nI (numAt (ltr t len) pl).2))) : xC G mX5_readNumber (d + 1) 0 0 [.ref (G.1 + 3), .ref (G.1 + 1)] SI M Q := by
  have s1 := sh1_i
  have s3 := sh3_i
  have hl := ltr_le ht
  have l1 := hl pl
  have l2 := hl (pl + 1)
  have e0 : up2 M 3 1 (nI pl) = M := by
    funext a i
    by_cases q : a = 3 ∧ i = 1
    · rw [q.1, q.2, hp]; simp [up2]
    · simp [up2, q]
  refine xC_intro [some (.ref (G.1 + 3)), some (.ref (G.1 + 1)), none, none, none] rfl (by decide) (Nat.le_of_ble_eq_true rfl) ?_
  have K2 : ∀ (M1 : xMem) (y : Int32), Q (some (.int y)) SI M1 → xW G mX5_readNumber (d + 1) 0 0 Q 5 [some (.ref (G.1 + 3)), some (.ref (G.1 + 1)), some (.int y), some (.int (nI 2)), none] [] SI M1 := by
    intro M1 y hq
    refine xs_iload eX5_readNumber_5 rfl ?_
    refine xs_K eX5_readNumber_6 ?_
    refine xs_N_ge eX5_readNumber_7 (by omega) (by omega) (fun h7 => ?_) (fun h => absurd h (by omega))
    refine xs_iload eX5_readNumber_71 rfl ?_
    exact xs_iretI eX5_readNumber_72 rfl (hq)
  have K1 : isDg (ltr t len pl) = true → xW G mX5_readNumber (d + 1) 0 0 Q 5 [some (.ref (G.1 + 3)), some (.ref (G.1 + 1)), some (.int (nI (ltr t len pl - 48))), some (.int (nI 1)), none] [] SI (up2 M 3 1 (nI (pl + 1))) := by
    intro hd
    have ht1 : isTx (up2 M 3 1 (nI (pl + 1))) t len := isTx_keep ht (up2_ne (by decide)) (up2_ne (by decide))
    have hp1 : up2 M 3 1 (nI (pl + 1)) 3 1 = nI (pl + 1) := by simp [up2]
    have e1 : up2 (up2 M 3 1 (nI (pl + 1))) 3 1 (nI (pl + 2)) = up2 M 3 1 (nI (pl + 2)) := by
      funext a i
      by_cases q : a = 3 ∧ i = 1 <;> simp [up2, q]
    simp only [isDg, Bool.and_eq_true, decide_eq_true_eq] at hd
    have f1 : isDg (ltr t len pl) = true := by simp [isDg]; omega
    refine xs_iload eX5_readNumber_5 rfl ?_
    refine xs_K eX5_readNumber_6 ?_
    refine xs_N_ge eX5_readNumber_7 (by omega) (by omega) (fun h => absurd h (by omega)) (fun h7 => ?_)
    refine xs_aload eX5_readNumber_10 rfl ?_
    refine xs_aload eX5_readNumber_11 rfl ?_
    refine xs_getI eX5_readNumber_12 (by assumption) (by rfl) ?_
    refine xs_eq1 hp1 ?_
    refine xs_callV1i eX5_readNumber_15 (by assumption) (Nat.le_of_ble_eq_true rfl) (c_letterAt_i (by assumption) (by omega) ⟨_, rfl, ?_⟩)
    refine xs_istore eX5_readNumber_18 (Nat.le_of_ble_eq_true rfl) rfl rfl ?_
    refine xs_iload eX5_readNumber_20 rfl ?_
    refine xs_K eX5_readNumber_22 ?_
    refine xs_N_lt eX5_readNumber_24 (by omega) (by omega) (fun h24 => ?_) (fun h24 => ?_)
    · refine xs_iload eX5_readNumber_34 rfl ?_
      exact xs_iretI eX5_readNumber_35 rfl (by rw [numAt, if_pos f1, if_neg (by simp [isDg]; omega)] at hQ; exact hQ)
    · refine xs_iload eX5_readNumber_27 rfl ?_
      refine xs_K eX5_readNumber_29 ?_
      refine xs_N_le eX5_readNumber_31 (by omega) (by omega) (fun h31 => ?_) (fun h31 => ?_)
      · refine xs_iload eX5_readNumber_36 rfl ?_
        refine xs_N0_ne eX5_readNumber_37 (by omega) (fun h37 => ?_) (fun h => absurd h (by omega))
        refine xs_iload eX5_readNumber_44 rfl ?_
        refine xs_K eX5_readNumber_45 ?_
        refine xs_imul eX5_readNumber_47 ?_
        refine xs_eq1 (pk_mul _ _) ?_
        refine xs_iload eX5_readNumber_48 rfl ?_
        refine xs_K eX5_readNumber_50 ?_
        refine xs_isub eX5_readNumber_52 ?_
        refine xs_eq1 (pk_sub (by omega)) ?_
        refine xs_iadd eX5_readNumber_53 ?_
        refine xs_eq1 (nI_add _ _) ?_
        refine xs_istore eX5_readNumber_54 (Nat.le_of_ble_eq_true rfl) rfl rfl ?_
        refine xs_aload eX5_readNumber_55 rfl ?_
        refine xs_dup eX5_readNumber_56 rfl ?_
        refine xs_getI eX5_readNumber_57 (by assumption) (by rfl) ?_
        refine xs_eq1 hp1 ?_
        refine xs_K eX5_readNumber_60 ?_
        refine xs_iadd eX5_readNumber_61 ?_
        refine xs_eq1 (nI_add (pl + 1) 1) ?_
        refine xs_putI eX5_readNumber_62 (by assumption) (by rfl) rfl rfl ?_
        refine xs_inc1 eX5_readNumber_65 rfl rfl rfl ?_
        refine xs_goto eX5_readNumber_68 ?_
        refine xs_kill 4 rfl ?_
        refine K2 _ _ ?_
        have f2 : isDg (ltr t len (pl + 1)) = true := by simp [isDg]; omega
        rw [numAt, if_pos f1, if_pos f2] at hQ
        rw [e1]
        exact hQ
      · refine xs_iload eX5_readNumber_34 rfl ?_
        exact xs_iretI eX5_readNumber_35 rfl (by rw [numAt, if_pos f1, if_neg (by simp [isDg]; omega)] at hQ; exact hQ)
  refine xs_K eX5_readNumber_0 ?_
  refine xs_istore eX5_readNumber_2 (Nat.le_of_ble_eq_true rfl) rfl rfl ?_
  refine xs_K eX5_readNumber_3 ?_
  refine xs_istore eX5_readNumber_4 (Nat.le_of_ble_eq_true rfl) rfl rfl ?_
  refine xs_iload eX5_readNumber_5 rfl ?_
  refine xs_K eX5_readNumber_6 ?_
  refine xs_N_ge eX5_readNumber_7 (by omega) (by omega) (fun h => absurd h (by omega)) (fun h7 => ?_)
  refine xs_aload eX5_readNumber_10 rfl ?_
  refine xs_aload eX5_readNumber_11 rfl ?_
  refine xs_getI eX5_readNumber_12 (by assumption) (by rfl) ?_
  refine xs_eq1 hp ?_
  refine xs_callV1i eX5_readNumber_15 (by assumption) (Nat.le_of_ble_eq_true rfl) (c_letterAt_i (by assumption) (by omega) ⟨_, rfl, ?_⟩)
  refine xs_istore eX5_readNumber_18 (Nat.le_of_ble_eq_true rfl) rfl rfl ?_
  refine xs_iload eX5_readNumber_20 rfl ?_
  refine xs_K eX5_readNumber_22 ?_
  refine xs_N_lt eX5_readNumber_24 (by omega) (by omega) (fun h24 => ?_) (fun h24 => ?_)
  · refine xs_iload eX5_readNumber_34 rfl ?_
    exact xs_iretI eX5_readNumber_35 rfl (by rw [numAt, if_neg (by simp [isDg]; omega)] at hQ; simp only [optI] at hQ; rw [e0] at hQ; exact hQ)
  · refine xs_iload eX5_readNumber_27 rfl ?_
    refine xs_K eX5_readNumber_29 ?_
    refine xs_N_le eX5_readNumber_31 (by omega) (by omega) (fun h31 => ?_) (fun h31 => ?_)
    · refine xs_iload eX5_readNumber_36 rfl ?_
      refine xs_N0_ne eX5_readNumber_37 (by omega) (fun h => absurd h (by omega)) (fun h37 => ?_)
      refine xs_K eX5_readNumber_40 ?_
      refine xs_goto eX5_readNumber_41 ?_
      refine xs_iload eX5_readNumber_48 rfl ?_
      refine xs_K eX5_readNumber_50 ?_
      refine xs_isub eX5_readNumber_52 ?_
      refine xs_eq1 (pk_sub (by omega)) ?_
      refine xs_iadd eX5_readNumber_53 ?_
      refine xs_eq1 (nI_add 0 _) ?_
      rw [Nat.zero_add]
      refine xs_istore eX5_readNumber_54 (Nat.le_of_ble_eq_true rfl) rfl rfl ?_
      refine xs_aload eX5_readNumber_55 rfl ?_
      refine xs_dup eX5_readNumber_56 rfl ?_
      refine xs_getI eX5_readNumber_57 (by assumption) (by rfl) ?_
      refine xs_eq1 hp ?_
      refine xs_K eX5_readNumber_60 ?_
      refine xs_iadd eX5_readNumber_61 ?_
      refine xs_eq1 (nI_add pl 1) ?_
      refine xs_putI eX5_readNumber_62 (by assumption) (by rfl) rfl rfl ?_
      refine xs_inc1 eX5_readNumber_65 rfl rfl rfl ?_
      refine xs_goto eX5_readNumber_68 ?_
      refine xs_kill 4 rfl ?_
      exact K1 (by simp [isDg]; omega)
    · refine xs_iload eX5_readNumber_34 rfl ?_
      exact xs_iretI eX5_readNumber_35 rfl (by rw [numAt, if_neg (by simp [isDg]; omega)] at hQ; simp only [optI] at hQ; rw [e0] at hQ; exact hQ)
theorem c_X5_readNumbers_i {w : Nat} (ht : isTx M t len) (hp : M 3 1 = nI pl) (hp2 : pl < 900) (hw : w ≤ 3) (hQ : ∀ M1, numsP (ltr t len) 0 w pl M M1 → Q (some (.int (bI (numsAt (ltr t len) w pl).isSome))) SI M1) : xC G mX5_readNumbers (d + 2) 0 0 [.ref (G.1 + 3), .ref (G.1 + 1), .int (nI w)] SI M Q := by
  have s1 := sh1_i
  have s3 := sh3_i
  have s4 := sh4_i
  have hl := ltr_le ht
  refine xC_intro [some (.ref (G.1 + 3)), some (.ref (G.1 + 1)), some (.int (nI w)), none, none] rfl (by decide) (Nat.le_of_ble_eq_true rfl) ?_
  refine xs_K eX5_readNumbers_0 ?_
  refine xs_istore eX5_readNumbers_1 (Nat.le_of_ble_eq_true rfl) rfl rfl ?_
  refine dn (P := fun i => ∀ (M1 : xMem) (pl : Nat), pl < 900 + 5 * i → offR M M1 → M1 3 1 = nI pl → (∀ M2, numsP (ltr t len) i (w - i) pl M1 M2 → Q (some (.int (bI (numsAt (ltr t len) (w - i) pl).isSome))) SI M2) → xW G mX5_readNumbers (d + 2) 0 0 Q 2 [some (.ref (G.1 + 3)), some (.ref (G.1 + 1)), some (.int (nI w)), some (.int (nI i)), none] [] SI M1) w ?_ ?_ 0 (Nat.zero_le _) M pl (by omega) (fun _ _ _ => rfl) hp hQ
  · intro M1 pl hpl ho hp1 hq
    have hq1 := hq M1 ⟨fun _ _ _ => rfl, fun q h => by
      rw [Nat.sub_self] at h
      cases h
      exact ⟨hp1, fun _ _ => rfl, fun j v h => by simp at h⟩⟩
    rw [Nat.sub_self] at hq1
    refine xs_iload eX5_readNumbers_2 rfl ?_
    refine xs_iload eX5_readNumbers_3 rfl ?_
    refine xs_N_ge eX5_readNumbers_4 (by omega) (by omega) (fun h4 => ?_) (fun h => absurd h (by omega))
    refine xs_K eX5_readNumbers_85 ?_
    exact xs_iret eX5_readNumbers_86 rfl (by first | exact bI_nar _ | rfl) (hq1)
  · intro i hi ih M1 pl hpl ho hp1 hq
    have ht1 : isTx M1 t len := isTx_keep ht (ho 1 (by decide) (by decide)) (ho 2 (by decide) (by decide))
    have hle := numAt_le (l := ltr t len) (pl := pl)
    have hlt := numAt_lt (l := ltr t len) (pl := pl) hl
    have hll := hl (numAt (ltr t len) pl).2
    rw [show w - i = (w - (i + 1)) + 1 by omega] at hq
    generalize hM3 : up2 (up2 M1 3 1 (nI (numAt (ltr t len) pl).2)) 4 i (optI (numAt (ltr t len) pl).1) = M3
    have o3 : offR M1 M3 := fun a q1 q2 => by rw [← hM3, up2_ne q2, up2_ne q1]
    have ht3 : isTx M3 t len := isTx_keep ht1 (o3 1 (by decide) (by decide)) (o3 2 (by decide) (by decide))
    have p3 : M3 3 1 = nI (numAt (ltr t len) pl).2 := by rw [← hM3]; simp [up2]
    have v3 : M3 4 i = optI (numAt (ltr t len) pl).1 := by rw [← hM3]; simp [up2]
    have w3 : ∀ j, j < i → M3 4 j = M1 4 j := fun j hj => by rw [← hM3]; simp [up2]; omega
    have K : ∀ ch : Nat, ch = (if w - (i + 1) = 0 then 59 else 44) → xW G mX5_readNumbers (d + 2) 0 0 Q 41 [some (.ref (G.1 + 3)), some (.ref (G.1 + 1)), some (.int (nI w)), some (.int (nI i)), none] [.int (nI ch)] SI M3 := by
      intro ch hch
      have hch2 : ch < 100 := by rw [hch]; split <;> decide
      have bad : numsAt (ltr t len) (w - (i + 1) + 1) pl = none → Q (some (.int (nI 0))) SI M3 := by
        intro hb
        have := hq M3 ⟨o3, fun q h => by rw [hb] at h; cases h⟩
        rw [hb] at this
        exact this
      cases hv : (numAt (ltr t len) pl).1 with
      | none =>
        rw [hv] at v3
        have bad := bad (by rw [numsAt, hv])
        refine xs_istore eX5_readNumbers_41 (Nat.le_of_ble_eq_true rfl) rfl rfl ?_
        refine xs_aload eX5_readNumbers_43 rfl ?_
        refine xs_getR eX5_readNumbers_44 (by assumption) (by rfl) ?_
        refine xs_iload eX5_readNumbers_47 rfl ?_
        refine xs_iald eX5_readNumbers_48 (by assumption) (by omega) (by decide) ?_
        refine xs_eq1 v3 ?_
        refine xs_K eX5_readNumbers_49 ?_
        refine xs_icmp_eq eX5_readNumbers_51 (fun h51 => ?_) (fun h => absurd (rfl) h)
        refine xs_K eX5_readNumbers_67 ?_
        exact xs_iret eX5_readNumbers_68 rfl (by first | exact bI_nar _ | rfl) (bad)
      | some v =>
        rw [hv] at v3
        have hv100 := hlt v hv
        refine xs_istore eX5_readNumbers_41 (Nat.le_of_ble_eq_true rfl) rfl rfl ?_
        refine xs_aload eX5_readNumbers_43 rfl ?_
        refine xs_getR eX5_readNumbers_44 (by assumption) (by rfl) ?_
        refine xs_iload eX5_readNumbers_47 rfl ?_
        refine xs_iald eX5_readNumbers_48 (by assumption) (by omega) (by decide) ?_
        refine xs_eq1 v3 ?_
        refine xs_K eX5_readNumbers_49 ?_
        refine xs_icmp_eq eX5_readNumbers_51 (fun h => absurd h (fun h => absurd h (by have := nI_pos (n := v) (by omega); intro h2; rw [show optI (some v) = nI v from rfl] at h2; rw [h2] at this; exact this (by decide)))) (fun h51 => ?_)
        refine xs_aload eX5_readNumbers_54 rfl ?_
        refine xs_aload eX5_readNumbers_55 rfl ?_
        refine xs_getI eX5_readNumbers_56 (by assumption) (by rfl) ?_
        refine xs_eq1 p3 ?_
        refine xs_callV1i eX5_readNumbers_59 (by assumption) (Nat.le_of_ble_eq_true rfl) (c_letterAt_i (by assumption) (by omega) ⟨_, rfl, ?_⟩)
        refine xs_iload eX5_readNumbers_62 rfl ?_
        refine xs_N_eq eX5_readNumbers_64 (by omega) (by omega) (fun h64 => ?_) (fun h64 => ?_)
        · refine xs_aload eX5_readNumbers_69 rfl ?_
          refine xs_dup eX5_readNumbers_70 rfl ?_
          refine xs_getI eX5_readNumbers_71 (by assumption) (by rfl) ?_
          refine xs_eq1 p3 ?_
          refine xs_K eX5_readNumbers_74 ?_
          refine xs_iadd eX5_readNumbers_75 ?_
          refine xs_eq1 (nI_add _ 1) ?_
          refine xs_putI eX5_readNumbers_76 (by assumption) (by rfl) rfl rfl ?_
          refine xs_inc1 eX5_readNumbers_79 rfl rfl rfl ?_
          refine xs_goto eX5_readNumbers_82 ?_
          refine xs_kill 4 rfl ?_
          refine ih _ ((numAt (ltr t len) pl).2 + 1) (by omega) (fun a q1 q2 => by rw [up2_ne q1, o3 a q1 q2, ho a q1 q2]) (by simp [up2]) ?_
          intro M2 hM2
          have hs : numsAt (ltr t len) (w - (i + 1) + 1) pl = (numsAt (ltr t len) (w - (i + 1)) ((numAt (ltr t len) pl).2 + 1)).map (fun q => (v :: q.1, q.2)) := by rw [numsAt, hv]; simp only; rw [if_pos (by rw [← hch]; exact h64)]
          have h9 := hq M2 ⟨fun a q1 q2 => by rw [hM2.1 a q1 q2, up2_ne q1, o3 a q1 q2], fun q h => ?_⟩
          · rw [hs, Option.isSome_map] at h9
            exact h9
          · rw [hs, Option.map_eq_some_iff] at h
            obtain ⟨q1, g1, rfl⟩ := h
            obtain ⟨g2, g3, g4⟩ := hM2.2 q1 g1
            refine ⟨g2, fun j hj => by rw [g3 j (by omega), up2_ne (by decide), w3 j hj], fun j u hu => ?_⟩
            rcases j with _ | j
            · simp at hu
              subst hu
              rw [Nat.add_zero, g3 i (by omega), up2_ne (by decide), v3]
              rfl
            · rw [show i + (j + 1) = i + 1 + j by omega]
              exact g4 j u (by simpa using hu)
        · refine xs_K eX5_readNumbers_67 ?_
          exact xs_iret eX5_readNumbers_68 rfl (by first | exact bI_nar _ | rfl) (bad (by rw [numsAt, hv]; simp only; rw [if_neg (by rw [← hch]; exact h64)]))
    refine xs_iload eX5_readNumbers_2 rfl ?_
    refine xs_iload eX5_readNumbers_3 rfl ?_
    refine xs_N_ge eX5_readNumbers_4 (by omega) (by omega) (fun h => absurd h (by omega)) (fun h4 => ?_)
    refine xs_iload eX5_readNumbers_7 rfl ?_
    refine xs_aload eX5_readNumbers_8 rfl ?_
    refine xs_getR eX5_readNumbers_9 (by assumption) (by rfl) ?_
    refine xs_alenI eX5_readNumbers_12 (by assumption) ?_
    refine xs_N_ge eX5_readNumbers_13 (by omega) (by omega) (fun h => absurd h (by omega)) (fun h13 => ?_)
    refine xs_aload eX5_readNumbers_16 rfl ?_
    refine xs_getR eX5_readNumbers_17 (by assumption) (by rfl) ?_
    refine xs_iload eX5_readNumbers_20 rfl ?_
    refine xs_aload eX5_readNumbers_21 rfl ?_
    refine xs_aload eX5_readNumbers_22 rfl ?_
    refine xs_callV1i eX5_readNumbers_23 (by assumption) (Nat.le_of_ble_eq_true rfl) (c_X5_readNumber_i (by assumption) (by assumption) (by omega) ⟨_, rfl, ?_⟩)
    refine xs_iast eX5_readNumbers_26 (by assumption) (by omega) (by decide) ?_
    rw [hM3]
    refine xs_iload eX5_readNumbers_27 rfl ?_
    refine xs_iload eX5_readNumbers_28 rfl ?_
    refine xs_K eX5_readNumbers_29 ?_
    refine xs_isub eX5_readNumbers_30 ?_
    refine xs_eq1 (pk_sub (show 1 ≤ w by omega)) ?_
    refine xs_N_ne eX5_readNumbers_31 (by omega) (by omega) (fun h31 => ?_) (fun h31 => ?_)
    · refine xs_K eX5_readNumbers_39 ?_
      exact K 44 (by rw [if_neg (by omega)])
    · refine xs_K eX5_readNumbers_34 ?_
      refine xs_goto eX5_readNumbers_36 ?_
      exact K 59 (by rw [if_pos (by omega)])
theorem c_X5_readItem_i (ht : isTx M t len) (hp : M 3 1 = nI pl) (hp2 : pl < 800) (hc : isLd c) (hn : M c 5 = nI nv) (h7 : nv ≤ 7) (hnp : M c 6 = nI np) (h3 : np ≤ 3) (hQ : ∀ M1, itemP (ltr t len) c nv np pl M M1 → Q (some (.int (bI (itemF (ltr t len) nv np pl).isSome))) SI M1) : xC G mX5_readItem (d + 3) 0 0 [.ref (G.1 + 3), .ref (G.1 + 1), .ref (G.1 + c)] SI M Q := by
  have s1 := sh1_i
  have s3 := sh3_i
  have s4 := sh4_i
  have g0 := ld0_i hc
  have c34 : c ≠ 3 ∧ c ≠ 4 ∧ c ≠ 1 ∧ c ≠ 2 := by rcases hc with rfl | rfl <;> decide
  have c5 : 5 ≤ c := by rcases hc with rfl | rfl <;> decide
  have hl := ltr_le ht
  have hl0 := hl pl
  have bad : itemF (ltr t len) nv np pl = none → ∀ M1, offR M M1 → Q (some (.int (nI 0))) SI M1 := by
    intro hb M1 ho
    have h9 := hQ M1 (by rw [itemP, hb]; exact ho)
    rw [hb] at h9
    exact h9
  have good : ∀ it q M1, itemF (ltr t len) nv np pl = some (it, q) → offR (itemM M c nv np it) M1 → M1 3 1 = nI q → Q (some (.int (nI 1))) SI M1 := by
    intro it q M1 hb ho hp1
    have h9 := hQ M1 (by rw [itemP, hb]; exact ⟨ho, hp1⟩)
    rw [hb] at h9
    exact h9
  refine xC_intro [some (.ref (G.1 + 3)), some (.ref (G.1 + 1)), some (.ref (G.1 + c)), none] rfl (by decide) (Nat.le_of_ble_eq_true rfl) ?_
  refine xs_aload eX5_readItem_0 rfl ?_
  refine xs_aload eX5_readItem_1 rfl ?_
  refine xs_getI eX5_readItem_2 (by assumption) (by rfl) ?_
  refine xs_eq1 hp ?_
  refine xs_callV1i eX5_readItem_5 (by assumption) (Nat.le_of_ble_eq_true rfl) (c_letterAt_i (by assumption) (by omega) ⟨_, rfl, ?_⟩)
  refine xs_istore eX5_readItem_8 (Nat.le_of_ble_eq_true rfl) rfl rfl ?_
  refine xs_aload eX5_readItem_9 rfl ?_
  refine xs_dup eX5_readItem_10 rfl ?_
  refine xs_getI eX5_readItem_11 (by assumption) (by rfl) ?_
  refine xs_eq1 hp ?_
  refine xs_K eX5_readItem_14 ?_
  refine xs_iadd eX5_readItem_15 ?_
  refine xs_eq1 (nI_add pl 1) ?_
  refine xs_putI eX5_readItem_16 (by assumption) (by rfl) rfl rfl ?_
  generalize hM1 : up2 M 3 1 (nI (pl + 1)) = M1
  have o1 : offR M M1 := fun a q1 q2 => by rw [← hM1, up2_ne q1]
  have ht1 : isTx M1 t len := isTx_keep ht (o1 1 (by decide) (by decide)) (o1 2 (by decide) (by decide))
  have hp1 : M1 3 1 = nI (pl + 1) := by rw [← hM1]; simp [up2]
  have hn1 : ∀ M2, offR M1 M2 → M2 c 5 = nI nv ∧ M2 c 6 = nI np := fun M2 h => by rw [h c c34.1 c34.2.1, o1 c c34.1 c34.2.1]; exact ⟨hn, hnp⟩
  refine xs_iload eX5_readItem_19 rfl ?_
  refine xs_K eX5_readItem_20 ?_
  refine xs_N_ne eX5_readItem_22 (by omega) (by omega) (fun h22 => ?_) (fun h22 => ?_)
  · refine xs_iload eX5_readItem_59 rfl ?_
    refine xs_K eX5_readItem_60 ?_
    refine xs_N_ne eX5_readItem_62 (by omega) (by omega) (fun h62 => ?_) (fun h62 => ?_)
    · refine xs_iload eX5_readItem_105 rfl ?_
      refine xs_K eX5_readItem_106 ?_
      refine xs_N_ne eX5_readItem_108 (by omega) (by omega) (fun h108 => ?_) (fun h108 => ?_)
      · refine xs_K eX5_readItem_137 ?_
        exact xs_iret eX5_readItem_138 rfl (by first | exact bI_nar _ | rfl) (bad (by rw [itemF, if_neg h22, if_neg h62, if_neg h108]) _ o1)
      · refine xs_aload eX5_readItem_111 rfl ?_
        refine xs_aload eX5_readItem_112 rfl ?_
        refine xs_K eX5_readItem_113 ?_
        refine xs_callV2i eX5_readItem_114 (by assumption) (Nat.le_of_ble_eq_true rfl) (c_X5_readNumbers_i (by assumption) (by assumption) (by omega) (by omega) (fun M2 hM2 => ⟨_, rfl, ?_⟩))
        refine xs_ifeqB eX5_readItem_117 (fun h117 => ?_) (fun h117 => ?_)
        · refine xs_K eX5_readItem_137 ?_
          exact xs_iret eX5_readItem_138 rfl (by first | exact bI_nar _ | rfl) (bad (by rw [itemF_p h108, Option.isSome_eq_false_iff.mp h117 |> Option.isNone_iff_eq_none.mp]) _ (offR_tr o1 hM2.1))
        · obtain ⟨⟨ls, q⟩, hs⟩ := Option.isSome_iff_exists.mp h117
          obtain ⟨v, e2⟩ := len1 (numsAt_le hs).2.2.1
          simp only at e2
          subst e2
          obtain ⟨g1, -, g2⟩ := hM2.2 _ hs
          have g3 := (numsAt_le hs).2.2.2 hl
          obtain ⟨n2, np2⟩ := hn1 M2 hM2.1
          have m0 : M2 4 0 = nI v := g2 0 v rfl
          have b0 := g3 v (by simp)
          refine xs_aload eX5_readItem_120 rfl ?_
          refine xs_aload eX5_readItem_121 rfl ?_
          refine xs_getR eX5_readItem_122 (by assumption) (by rfl) ?_
          refine xs_K eX5_readItem_125 ?_
          refine xs_iald eX5_readItem_126 (by assumption) (by omega) (by decide) ?_
          refine xs_eq1 m0 ?_
          refine xs_callV1i eX5_readItem_127 (by assumption) (Nat.le_of_ble_eq_true rfl) (c_X2_addParty_i (by assumption) (by assumption) (by omega) (by assumption) (by omega) (by omega) ⟨_, rfl, ?_⟩)
          refine xs_ifeqB eX5_readItem_130 (fun h130 => ?_) (fun h130 => ?_)
          · rw [if_neg (by rw [h130]; decide)]
            refine xs_K eX5_readItem_137 ?_
            exact xs_iret eX5_readItem_138 rfl (by first | exact bI_nar _ | rfl) (bad (by rw [itemF_p h108, hs]; simp only; rw [if_neg (by rw [h130]; decide)]) _ (offR_tr o1 hM2.1))
          · rw [if_pos h130]
            refine xs_K eX5_readItem_133 ?_
            refine xs_goto eX5_readItem_134 ?_
            exact xs_iret eX5_readItem_138 rfl (by first | exact bI_nar _ | rfl) (good (112, [v]) q _ (by rw [itemF_p h108, hs]; simp only; rw [if_pos h130]) (offR_part (offR_tr o1 hM2.1)) (by simp only [partM]; rw [up2_ne (by omega), up2_ne (by omega)]; exact g1))
    · refine xs_aload eX5_readItem_65 rfl ?_
      refine xs_aload eX5_readItem_66 rfl ?_
      refine xs_K eX5_readItem_67 ?_
      refine xs_callV2i eX5_readItem_68 (by assumption) (Nat.le_of_ble_eq_true rfl) (c_X5_readNumbers_i (by assumption) (by assumption) (by omega) (by omega) (fun M2 hM2 => ⟨_, rfl, ?_⟩))
      refine xs_ifeqB eX5_readItem_71 (fun h71 => ?_) (fun h71 => ?_)
      · refine xs_K eX5_readItem_103 ?_
        exact xs_iret eX5_readItem_104 rfl (by first | exact bI_nar _ | rfl) (bad (by rw [itemF_w h62, Option.isSome_eq_false_iff.mp h71 |> Option.isNone_iff_eq_none.mp]) _ (offR_tr o1 hM2.1))
      · obtain ⟨⟨ls, q⟩, hs⟩ := Option.isSome_iff_exists.mp h71
        obtain ⟨a, b, y, e2⟩ := len3 (numsAt_le hs).2.2.1
        simp only at e2
        subst e2
        obtain ⟨g1, -, g2⟩ := hM2.2 _ hs
        have g3 := (numsAt_le hs).2.2.2 hl
        obtain ⟨n2, np2⟩ := hn1 M2 hM2.1
        have m0 : M2 4 0 = nI a := g2 0 a rfl
        have b0 := g3 a (by simp)
        have m1 : M2 4 1 = nI b := g2 1 b rfl
        have b1 := g3 b (by simp)
        have m2 : M2 4 2 = nI y := g2 2 y rfl
        have b2 := g3 y (by simp)
        refine xs_aload eX5_readItem_74 rfl ?_
        refine xs_aload eX5_readItem_75 rfl ?_
        refine xs_getR eX5_readItem_76 (by assumption) (by rfl) ?_
        refine xs_K eX5_readItem_79 ?_
        refine xs_iald eX5_readItem_80 (by assumption) (by omega) (by decide) ?_
        refine xs_eq1 m0 ?_
        refine xs_aload eX5_readItem_81 rfl ?_
        refine xs_getR eX5_readItem_82 (by assumption) (by rfl) ?_
        refine xs_K eX5_readItem_85 ?_
        refine xs_iald eX5_readItem_86 (by assumption) (by omega) (by decide) ?_
        refine xs_eq1 m1 ?_
        refine xs_aload eX5_readItem_87 rfl ?_
        refine xs_getR eX5_readItem_88 (by assumption) (by rfl) ?_
        refine xs_K eX5_readItem_91 ?_
        refine xs_iald eX5_readItem_92 (by assumption) (by omega) (by decide) ?_
        refine xs_eq1 m2 ?_
        refine xs_callV3i eX5_readItem_93 (by assumption) (Nat.le_of_ble_eq_true rfl) (c_X2_addWay_i (by assumption) (by assumption) (by omega) (by omega) (by omega) (by omega) ⟨_, rfl, ?_⟩)
        refine xs_ifeqB eX5_readItem_96 (fun h96 => ?_) (fun h96 => ?_)
        · rw [if_neg (by rw [h96]; decide)]
          refine xs_K eX5_readItem_103 ?_
          exact xs_iret eX5_readItem_104 rfl (by first | exact bI_nar _ | rfl) (bad (by rw [itemF_w h62, hs]; simp only; rw [if_neg (by rw [h96]; decide)]) _ (offR_tr o1 hM2.1))
        · rw [if_pos h96]
          refine xs_K eX5_readItem_99 ?_
          refine xs_goto eX5_readItem_100 ?_
          exact xs_iret eX5_readItem_104 rfl (by first | exact bI_nar _ | rfl) (good (119, [a, b, y]) q _ (by rw [itemF_w h62, hs]; simp only; rw [if_pos h96]) (offR_way hc (offR_tr o1 hM2.1)) (by simp only [wayM]; rw [up2_ne (by omega), up2_ne (by omega), up2_ne (by omega), up2_ne (by omega)]; exact g1))
  · refine xs_aload eX5_readItem_25 rfl ?_
    refine xs_aload eX5_readItem_26 rfl ?_
    refine xs_K eX5_readItem_27 ?_
    refine xs_callV2i eX5_readItem_28 (by assumption) (Nat.le_of_ble_eq_true rfl) (c_X5_readNumbers_i (by assumption) (by assumption) (by omega) (by omega) (fun M2 hM2 => ⟨_, rfl, ?_⟩))
    refine xs_ifeqB eX5_readItem_31 (fun h31 => ?_) (fun h31 => ?_)
    · refine xs_K eX5_readItem_57 ?_
      exact xs_iret eX5_readItem_58 rfl (by first | exact bI_nar _ | rfl) (bad (by rw [itemF_v h22, Option.isSome_eq_false_iff.mp h31 |> Option.isNone_iff_eq_none.mp]) _ (offR_tr o1 hM2.1))
    · obtain ⟨⟨ls, q⟩, hs⟩ := Option.isSome_iff_exists.mp h31
      obtain ⟨k, o, e2⟩ := len2 (numsAt_le hs).2.2.1
      simp only at e2
      subst e2
      obtain ⟨g1, -, g2⟩ := hM2.2 _ hs
      have g3 := (numsAt_le hs).2.2.2 hl
      obtain ⟨n2, np2⟩ := hn1 M2 hM2.1
      have m0 : M2 4 0 = nI k := g2 0 k rfl
      have b0 := g3 k (by simp)
      have m1 : M2 4 1 = nI o := g2 1 o rfl
      have b1 := g3 o (by simp)
      refine xs_aload eX5_readItem_34 rfl ?_
      refine xs_aload eX5_readItem_35 rfl ?_
      refine xs_getR eX5_readItem_36 (by assumption) (by rfl) ?_
      refine xs_K eX5_readItem_39 ?_
      refine xs_iald eX5_readItem_40 (by assumption) (by omega) (by decide) ?_
      refine xs_eq1 m0 ?_
      refine xs_aload eX5_readItem_41 rfl ?_
      refine xs_getR eX5_readItem_42 (by assumption) (by rfl) ?_
      refine xs_K eX5_readItem_45 ?_
      refine xs_iald eX5_readItem_46 (by assumption) (by omega) (by decide) ?_
      refine xs_eq1 m1 ?_
      refine xs_callV2i eX5_readItem_47 (by assumption) (Nat.le_of_ble_eq_true rfl) (c_X2_addVillage_i (by assumption) (by assumption) (by omega) (by omega) (by omega) ⟨_, rfl, ?_⟩)
      refine xs_ifeqB eX5_readItem_50 (fun h50 => ?_) (fun h50 => ?_)
      · rw [if_neg (by rw [h50]; decide)]
        refine xs_K eX5_readItem_57 ?_
        exact xs_iret eX5_readItem_58 rfl (by first | exact bI_nar _ | rfl) (bad (by rw [itemF_v h22, hs]; simp only; rw [if_neg (by rw [h50]; decide)]) _ (offR_tr o1 hM2.1))
      · rw [if_pos h50]
        refine xs_K eX5_readItem_53 ?_
        refine xs_goto eX5_readItem_54 ?_
        exact xs_iret eX5_readItem_58 rfl (by first | exact bI_nar _ | rfl) (good (118, [k, o]) q _ (by rw [itemF_v h22, hs]; simp only; rw [if_pos h50]) (offR_vill hc (offR_tr o1 hM2.1)) (by simp only [villM]; rw [up2_ne (by omega)]; split <;> (first | rw [up2_ne (by omega), up2_ne (by omega), up2_ne (by omega)] | rw [up2_ne (by omega), up2_ne (by omega)]) <;> exact g1))
theorem c_X5_readAll_i (ht : isTx M t len) (hc : isLd c) (hQ : ∀ M1, offR (itemsM c 0 0 (parseF (ltr t len) len 200 0 0 0).1 (clearM M c)) M1 → Q (some (.int (optI (parseF (ltr t len) len 200 0 0 0).2))) SI M1) : xC G mX5_readAll (d + 4) 0 0 [.ref (G.1 + 3), .ref (G.1 + 1), .ref (G.1 + c)] SI M Q := by
  have s1 := sh1_i
  have s3 := sh3_i
  have g0 := ld0_i hc
  have c5 : 5 ≤ c := by rcases hc with rfl | rfl <;> decide
  have hlen := ht.2.1
  have hl := ltr_le ht
  refine xC_intro [some (.ref (G.1 + 3)), some (.ref (G.1 + 1)), some (.ref (G.1 + c)), none, none] rfl (by decide) (Nat.le_of_ble_eq_true rfl) ?_
  refine xs_aload eX5_readAll_0 rfl ?_
  refine xs_callV0v eX5_readAll_1 (by assumption) (Nat.le_of_ble_eq_true rfl) (c_X2_clear_i (by assumption) ⟨rfl, ?_⟩)
  refine xs_aload eX5_readAll_4 rfl ?_
  refine xs_K eX5_readAll_5 ?_
  refine xs_putI eX5_readAll_6 (by assumption) (by rfl) rfl rfl ?_
  refine xs_K eX5_readAll_9 ?_
  refine xs_istore eX5_readAll_10 (Nat.le_of_ble_eq_true rfl) rfl rfl ?_
  refine dn (P := fun i => ∀ (A M1 : xMem) (nv np pl : Nat), M1 3 1 = nI pl → pl < 220 → M1 1 = M 1 → M1 2 = M 2 → M1 c 5 = nI nv → nv ≤ 7 → M1 c 6 = nI np → np ≤ 3 → (∀ M2, offR (itemsM c nv np (parseF (ltr t len) len (200 - i) nv np pl).1 M1) M2 → Q (some (.int (optI (parseF (ltr t len) len (200 - i) nv np pl).2))) SI M2) → xW G mX5_readAll (d + 4) 0 0 Q 11 [some (.ref (G.1 + 3)), some (.ref (G.1 + 1)), some (.ref (G.1 + c)), some (.int (nI i)), none] [] SI M1) 200 ?_ ?_ 0 (by omega) M _ 0 0 0 (by simp [up2]) (by omega) (by rw [up2_ne (by decide), clearM_low (by omega)]) (by rw [up2_ne (by decide), clearM_low (by omega)]) (by rw [up2_ne (by omega)]; simp [clearM]) (by omega) (by rw [up2_ne (by omega)]; simp [clearM]) (by omega) (fun M2 h => hQ M2 (offR_tr (offR_items hc (fun a q1 q2 => by rw [up2_ne q1])) h))
  · intro A M1 nv np pl hp hpl h1 h2 hn h7 hnp h3 hq
    have hq1 := hq M1 (by rw [Nat.sub_self]; exact fun _ _ _ => rfl)
    rw [Nat.sub_self] at hq1
    refine xs_iload eX5_readAll_11 rfl ?_
    refine xs_K eX5_readAll_12 ?_
    refine xs_N_ge eX5_readAll_15 (by omega) (by omega) (fun h15 => ?_) (fun h => absurd h (by omega))
    refine xs_K eX5_readAll_53 ?_
    exact xs_iretI eX5_readAll_55 rfl (hq1)
  · intro i hi ih A M1 nv np pl hp hpl h1 h2 hn h7 hnp h3 hq
    have ht1 : isTx M1 t len := isTx_keep ht h1 h2
    rw [show 200 - i = (200 - (i + 1)) + 1 by omega, parseF] at hq
    refine xs_iload eX5_readAll_11 rfl ?_
    refine xs_K eX5_readAll_12 ?_
    refine xs_N_ge eX5_readAll_15 (by omega) (by omega) (fun h => absurd h (by omega)) (fun h15 => ?_)
    refine xs_aload eX5_readAll_18 rfl ?_
    refine xs_getI eX5_readAll_19 (by assumption) (by rfl) ?_
    refine xs_eq1 hp ?_
    refine xs_aload eX5_readAll_22 rfl ?_
    refine xs_getI eX5_readAll_23 (by assumption) (by rfl) ?_
    refine xs_eq1 ht1.1 ?_
    refine xs_N_ge eX5_readAll_26 (by omega) (by omega) (fun h26 => ?_) (fun h26 => ?_)
    · refine xs_K eX5_readAll_53 ?_
      exact xs_iretI eX5_readAll_55 rfl (by rw [if_neg (by omega)] at hq; exact hq M1 (fun _ _ _ => rfl))
    · refine xs_aload eX5_readAll_29 rfl ?_
      refine xs_getI eX5_readAll_30 (by assumption) (by rfl) ?_
      refine xs_eq1 hp ?_
      refine xs_istore eX5_readAll_33 (Nat.le_of_ble_eq_true rfl) rfl rfl ?_
      refine xs_aload eX5_readAll_35 rfl ?_
      refine xs_aload eX5_readAll_36 rfl ?_
      refine xs_aload eX5_readAll_37 rfl ?_
      refine xs_callV2i eX5_readAll_38 (by assumption) (Nat.le_of_ble_eq_true rfl) (c_X5_readItem_i (by assumption) (by assumption) (by omega) (by assumption) (by assumption) (by omega) (by assumption) (by omega) (fun M2 hM2 => ⟨_, rfl, ?_⟩))
      refine xs_ifneB eX5_readAll_41 (fun h41 => ?_) (fun h41 => ?_)
      · refine xs_inc1 eX5_readAll_47 rfl rfl rfl ?_
        refine xs_goto eX5_readAll_50 ?_
        obtain ⟨⟨it, q⟩, hit⟩ := Option.isSome_iff_exists.mp h41
        obtain ⟨r1, r2, r3⟩ := itemF_some hl hit
        rw [itemP, hit] at hM2
        obtain ⟨ho, hp2⟩ := hM2
        rw [if_pos h26, hit] at hq
        have hw : it.1 = 119 → it.2.getD 0 0 < 7 ∧ it.2.getD 1 0 < 7 := by
          intro h9
          rcases r3 with ⟨k, o, rfl, -⟩ | ⟨a, b, y, rfl, q1, q2, -⟩ | ⟨v, rfl, -⟩
          · cases h9
          · exact ⟨by simp; omega, by simp; omega⟩
          · cases h9
        have hi9 := itemM_n (it := it) hn hnp
        refine xs_kill 4 rfl ?_
        refine ih A M2 (itV nv it) (itP np it) q hp2 (by omega) ?_ ?_ ?_ ?_ ?_ ?_ (fun M3 h9 => hq M3 ?_)
        · rw [ho 1 (by decide) (by decide), itemM_low (by omega) hw]; exact h1
        · rw [ho 2 (by decide) (by decide), itemM_low (by omega) hw]; exact h2
        · rw [ho c (by omega) (by omega)]; exact hi9.1
        · rcases r3 with ⟨k, o, rfl, q1, -⟩ | ⟨a, b, y, rfl, q1, q2, -⟩ | ⟨v, rfl, -⟩ <;> simp [itV] <;> omega
        · rw [ho c (by omega) (by omega)]; exact hi9.2
        · rcases r3 with ⟨k, o, rfl, q1, -⟩ | ⟨a, b, y, rfl, q1, q2, -⟩ | ⟨v, rfl, q1, -⟩ <;> simp [itP] <;> omega
        · show offR (itemsM c (itV nv it) (itP np it) (parseF (ltr t len) len (200 - (i + 1)) (itV nv it) (itP np it) q).1 (itemM M1 c nv np it)) M3
          exact offR_tr (offR_items hc ho) h9
      · have hno := Option.isNone_iff_eq_none.mp (Option.isSome_eq_false_iff.mp h41)
        rw [itemP, hno] at hM2
        rw [if_pos h26, hno] at hq
        refine xs_iload eX5_readAll_44 rfl ?_
        exact xs_iretI eX5_readAll_46 rfl (hq M2 hM2)
end IRD
section ILY
variable {G : xGl} {d N : Nat} {w : aX} {M : xMem} {Q : Option Value → List xSh → xMem → Prop}
theorem c_X9_layScroll_i (hT : isTx M (fun j => w.1.getD j 0) w.1.length) (hok : okX N w) (hQ : ∀ M1, hiK M M1 → repC (w.1, ldT (prT w), bkT (prT w), [], [], []) M1 → Q none SI M1) : xC G mX9_layScroll (d + 8) 0 0 [.ref (G.1 + 0)] SI M Q := by
  have s0 := sh0_i
  have s3 := sh3_i
  have isl : isLd 18 := Or.inr rfl
  have l0 := ld0_i isl
  have b0 := bk0_i isBk31
  have isb := isBk31
  have isp := pl83
  have isp41 := pl41
  have s95 := sh95_i
  have p0 := pl0_i pl83
  have p41 := pl0_i pl41
  have ho := okT_prT hok
  have h7 := ho.1.1
  refine xC_intro [some (.ref (G.1 + 0))] rfl (by decide) (Nat.le_of_ble_eq_true rfl) ?_
  refine xs_aload eX9_layScroll_0 rfl ?_
  refine xs_getR eX9_layScroll_1 (by assumption) (by rfl) ?_
  refine xs_aload eX9_layScroll_4 rfl ?_
  refine xs_getR eX9_layScroll_5 (by assumption) (by rfl) ?_
  refine xs_aload eX9_layScroll_8 rfl ?_
  refine xs_getR eX9_layScroll_9 (by assumption) (by rfl) ?_
  refine xs_callV2i eX9_layScroll_12 (by assumption) (Nat.le_of_ble_eq_true rfl) (c_X5_readAll_i (t := fun j => w.1.getD j 0) (len := w.1.length) hT isl (fun M1 h1 => ⟨_, rfl, ?_⟩))
  have g1 : ∀ a, a < 3 ∨ (5 ≤ a ∧ a < 18) ∨ 31 ≤ a → M1 a = M a := fun a ha => (h1 a (by omega) (by omega)).trans ((itemsM_low (T := t0A) (by omega) okT_0 ho.2).trans (clearM_low (by omega)))
  have g2 : rT M1 18 (prT w) := rT_keep (rT_items (T := t0A) rT_clear okT_0 ho.2) (fun a h2 h3 => h1 a (by omega) (by omega))
  have hn := g2.1
  have hQ9 := hQ (laidM M1 (prT w).1) (fun a ha => (laidM_ne h7 (by omega)).trans (g1 a (by omega))) (repC_laid (isTx_keep hT (g1 1 (by omega)) (g1 2 (by omega))) g2 ho.1)
  refine xs_pop eX9_layScroll_15 rfl ?_
  refine xs_aload eX9_layScroll_16 rfl ?_
  refine xs_getR eX9_layScroll_17 (by assumption) (by rfl) ?_
  refine xs_callV0v eX9_layScroll_20 (by assumption) (Nat.le_of_ble_eq_true rfl) (c_X2_measure_i (nv := (prT w).1) isl hn h7 ⟨rfl, ?_⟩)
  refine xs_aload eX9_layScroll_23 rfl ?_
  refine xs_getR eX9_layScroll_24 (by assumption) (by rfl) ?_
  refine xs_callV0v eX9_layScroll_27 (by assumption) (Nat.le_of_ble_eq_true rfl) (c_X0_open_i isb ⟨rfl, ?_⟩)
  refine xs_aload eX9_layScroll_30 rfl ?_
  refine xs_getR eX9_layScroll_31 (by assumption) (by rfl) ?_
  refine xs_callV0v eX9_layScroll_34 (by assumption) (Nat.le_of_ble_eq_true rfl) (c_X8_clear_i ⟨rfl, ?_⟩)
  refine xs_aload eX9_layScroll_37 rfl ?_
  refine xs_getR eX9_layScroll_38 (by assumption) (by rfl) ?_
  refine xs_callV0v eX9_layScroll_41 (by assumption) (Nat.le_of_ble_eq_true rfl) (c_X4_clear_i isp41 ⟨rfl, ?_⟩)
  refine xs_aload eX9_layScroll_44 rfl ?_
  refine xs_getR eX9_layScroll_45 (by assumption) (by rfl) ?_
  refine xs_callV0v eX9_layScroll_48 (by assumption) (Nat.le_of_ble_eq_true rfl) (c_X4_clear_i isp ⟨rfl, ?_⟩)
  exact xs_vret eX9_layScroll_51 rfl (hQ9)
end ILY

/-! THE WORLD STAYS AS IT CAN BE: behind one call more -/
theorem okX_more {N : Nat} {w : aX} (h : okX N w) : okX (N + 1) w := by
  obtain ⟨h1, h2, h3, ⟨h4, h5⟩, ⟨h6, h7⟩, h8⟩ := h
  exact ⟨h1, h2, okB_more h3 (by omega), ⟨h4, fun b hb => okB_more (h5 b hb) (by omega)⟩, ⟨h6, fun b hb => okB_more (h7 b hb) (by omega)⟩, h8⟩
theorem okX_past {N : Nat} {w : aX} {b : aBk} (h : okX N w) (hb : okB w.2.1.1 (121 * (N + 1)) b) : okX (N + 1) (w.1, w.2.1, b, pastX w, w.2.2.2.2) := by
  obtain ⟨h1, h2, h3, ⟨h4, h5⟩, ⟨h6, h7⟩, h8⟩ := okX_more h
  refine ⟨h1, h2, hb, ⟨by unfold pastX; rw [List.length_take]; omega, fun b9 hb9 => ?_⟩, ⟨h6, h7⟩, h8⟩
  rcases List.mem_cons.mp (List.mem_of_mem_take hb9) with e | e
  · rw [e]; exact h3
  · exact h5 b9 e
theorem okX_write {N : Nat} {w : aX} {y : Int32} (h : okX N w) : okX (N + 1) (spWrite w y).2 := by
  unfold spWrite
  split
  · next hy =>
    split
    · exact okX_more h
    · next hl =>
      obtain ⟨⟨h0, h1⟩, h2⟩ := okX_more h
      obtain ⟨j, j1, j2, rfl⟩ := wi_of (by decide) (by decide) hy
      refine ⟨⟨by show (w.1 ++ _).length ≤ 200; rw [List.length_append]; show w.1.length + 1 ≤ 200; omega, fun ch hc => ?_⟩, h2⟩
      rcases List.mem_append.mp hc with e | e
      · exact h1 ch e
      · rw [List.mem_singleton.mp e, nI_clamp (by omega)]; omega
  · exact okX_more h
theorem okX_wipe {N : Nat} {w : aX} (h : okX N w) : okX (N + 1) (spWipe w).2 := by
  obtain ⟨⟨h0, h1⟩, h2⟩ := okX_more h
  exact ⟨⟨Nat.zero_le _, fun ch hc => by cases hc⟩, h2⟩
theorem okX_ask {N : Nat} {w : aX} {y1 y2 : Int32} (h : okX N w) : okX (N + 1) (spAsk w y1 y2).2 := by
  unfold spAsk
  dsimp only
  split
  · next hy =>
    rw [Bool.and_eq_true] at hy
    split
    · next hc =>
      obtain ⟨p, hp, rfl⟩ := inN_of (by have := h.2.1.2.1; omega) hy.1
      obtain ⟨v, hv, rfl⟩ := inN_of (by have := h.2.1.1; omega) hy.2
      have b1 := h.2.1.2.1
      have b2 := h.2.1.1
      have hp2 : (nI p).toNatClampNeg = p := nI_clamp (by omega)
      have hv2 : (nI v).toNatClampNeg = v := nI_clamp (by omega)
      rw [hp2, hv2] at hc ⊢
      simp only [canA, Bool.and_eq_true, decide_eq_true_eq] at hc
      exact okX_past h (okB_more (okB_ask h.2.1 h.2.2.1 hp hv hc.2) (by omega))
    · exact okX_more h
  · exact okX_more h
theorem okX_check {N : Nat} {w : aX} {y : Int32} (h : okX N w) : okX (N + 1) (spCheck w y).2 := by
  unfold spCheck
  dsimp only
  split
  · next hy =>
    split
    · obtain ⟨v, hv, rfl⟩ := inN_of (by have := h.2.1.1; omega) hy
      rw [nI_clamp (by have := h.2.1.1; omega)] at *
      exact okX_past h (okB_more (okB_check h.2.1.1.2 h.2.2.1 hv) (by omega))
    · exact okX_more h
  · exact okX_more h
theorem okX_strike {N : Nat} {w : aX} {y : Int32} (h : okX N w) : okX (N + 1) (spStrike w y).2 := by
  unfold spStrike
  dsimp only
  split
  · next hy =>
    split
    · obtain ⟨v, hv, rfl⟩ := inN_of (by have := h.2.1.1; omega) hy
      rw [nI_clamp (by have := h.2.1.1; omega)] at *
      exact okX_past h (okB_more (okB_strike h.2.1.1.2 h.2.2.1 hv) (by omega))
    · exact okX_more h
  · exact okX_more h
theorem okX_undo {N : Nat} {w : aX} (h : okX N w) : okX (N + 1) (spUndo w).2 := by
  unfold spUndo
  split
  · exact okX_more h
  · next b r e =>
    obtain ⟨h1, h2, h3, ⟨h4, h5⟩, h6, h8⟩ := okX_more h
    rw [e] at h4 h5
    exact ⟨h1, h2, h5 b (List.mem_cons_self ..), ⟨by rw [List.length_cons] at h4; show r.length ≤ 8; omega, fun b9 hb => h5 b9 (List.mem_cons_of_mem _ hb)⟩, h6, h8⟩
theorem okX_see {N : Nat} {w : aX} {y1 y2 : Int32} (h : okX N w) : okX (N + 1) (spSee w y1 y2).2 := by
  unfold spSee
  split
  · next hy =>
    rw [Bool.and_eq_true] at hy
    split
    · exact okX_more h
    · next hl =>
      obtain ⟨v, hv, rfl⟩ := inN_of (by have := h.2.1.1; omega) hy.1
      obtain ⟨n, -, hn, rfl⟩ := wi_of (by decide) (by decide) hy.2
      obtain ⟨h1, h2, h3, h4, h6, ⟨h8, h9⟩⟩ := okX_more h
      refine ⟨h1, h2, h3, h4, h6, ⟨by show (w.2.2.2.2.2 ++ _).length ≤ 6; rw [List.length_append]; show w.2.2.2.2.2.length + 1 ≤ 6; omega, fun q hq => ?_⟩⟩
      rcases List.mem_append.mp hq with e | e
      · exact h9 q e
      · rw [List.mem_singleton.mp e, nI_clamp (by have := h.2.1.1; omega), nI_clamp (by omega)]
        exact ⟨hv, hn⟩
  · exact okX_more h
theorem okX_forget {N : Nat} {w : aX} (h : okX N w) : okX (N + 1) (spForget w).2 := by
  obtain ⟨h1, h2, h3, h4, h6, h8⟩ := okX_more h
  exact ⟨h1, h2, h3, h4, h6, ⟨Nat.zero_le _, fun q hq => by cases hq⟩⟩
theorem okX_keep {N : Nat} {w : aX} (h : okX N w) : okX (N + 1) (spKeep w).2 := by
  unfold spKeep
  split
  · exact okX_more h
  · next hl =>
    obtain ⟨h1, h2, h3, h4, ⟨h6, h7⟩, h8⟩ := okX_more h
    refine ⟨h1, h2, h3, h4, ⟨by show w.2.2.2.2.1.length + 1 ≤ 2; omega, fun b hb => ?_⟩, h8⟩
    rcases List.mem_cons.mp hb with e | e
    · rw [e]; exact h3
    · exact h7 b e
theorem okX_back {N : Nat} {w : aX} (h : okX N w) : okX (N + 1) (spBack w).2 := by
  unfold spBack
  split
  · exact okX_more h
  · next b r e =>
    obtain ⟨h1, h2, h3, h4, ⟨h6, h7⟩, h8⟩ := okX_more h
    rw [e] at h6 h7
    exact ⟨h1, h2, h7 b (List.mem_cons_self ..), ⟨Nat.zero_le _, fun q hq => by cases hq⟩, ⟨by rw [List.length_cons] at h6; show r.length ≤ 2; omega, fun b9 hb => h7 b9 (List.mem_cons_of_mem _ hb)⟩, h8⟩
/-! THE START: what the constant text tells -/
def bk9 : aBk := (0, 0, fun _ => 0, fun _ => 0, fun _ => 0, fun _ => 0)
def ld9 : aLd := (1, 1, fun _ => 0, fun _ => 0, 1, fun _ _ => 0)
def wx0 : aX := (xbl, ld9, bk9, [], [], [])
def it0 : List (Nat × List Nat) := [(118, [0, 12]), (118, [1, 20]), (118, [2, 9]), (118, [3, 15]), (118, [4, 18]), (118, [1, 7]), (119, [0, 1, 2]), (119, [1, 2, 3]), (119, [2, 3, 1]), (119, [3, 4, 2]), (119, [4, 5, 4]), (119, [0, 5, 6]), (119, [1, 4, 3]), (112, [0]), (112, [3])]
theorem prs0 : prs wx0 = (it0, none) := by decide +kernel
def T0 : aT := prT wx0
theorem T0_eq : T0 = buildT it0 t0A := by unfold T0 prT; rw [prs0]
theorem T0_n : T0.1 = 6 ∧ T0.2.1 = 2 := by rw [T0_eq]; decide +kernel
theorem xbl_ok : xbl.length = 89 ∧ ∀ ch ∈ xbl, 32 ≤ ch ∧ ch ≤ 126 := by decide +kernel
theorem okX_w0 : okX 0 wx0 := by
  refine ⟨⟨by show xbl.length ≤ 200; rw [xbl_ok.1]; decide, xbl_ok.2⟩, ⟨⟨by decide, by decide⟩, ⟨by decide, by decide⟩, fun v _ => by show 0 < 5; decide, fun v _ => by show 0 < 2 ^ 1; decide, ⟨by show 1 < 128; decide, fun v hv => ?_⟩, fun a b _ _ => Or.inl (by show 0 ≤ 120; decide)⟩, ⟨by show 0 < 2 ^ 1; decide, by show 0 < 2 ^ 1; decide, by show sumA (fun _ => 0) 7 ≤ 420; decide, fun v _ => Nat.zero_le _, fun p _ => ⟨by show 0 < 1; decide, Nat.zero_le _⟩⟩, ⟨Nat.zero_le _, fun b hb => by cases hb⟩, ⟨Nat.zero_le _, fun b hb => by cases hb⟩, ⟨Nat.zero_le _, fun b hb => by cases hb⟩⟩
  have hv : v < 1 := hv
  rw [show v = 0 by omega]
  decide
/-- the world of a new object -/
def wS : aX := ([], ldT T0, bkT T0, [], [], [])
theorem okX_wS : okX 0 wS := by
  have h := okX_lay okX_w0
  unfold spLay at h
  rw [if_pos ⟨by rw [prs0], by rw [show prT wx0 = T0 from rfl, T0_n.1]; decide, by rw [show prT wx0 = T0 from rfl, T0_n.2]; decide⟩] at h
  exact ⟨⟨Nat.zero_le _, fun ch hc => by cases hc⟩, h.2⟩

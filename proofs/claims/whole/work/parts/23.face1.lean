/-! THE CLASS's FACE, first part: text, village, party, far, see, forget, kinds, copies, agree, count -/
theorem wi_of {y : Int32} {lo hi : Nat} (hl : lo < 2 ^ 31) (hh : hi < 2 ^ 31) (h : wiB y (nI lo) (nI hi) = true) : ∃ j, lo ≤ j ∧ j ≤ hi ∧ y = nI j := by
  simp only [wiB, Bool.and_eq_true, decide_eq_true_eq] at h
  have h0 : ¬ y < 0 := Int32.not_lt.mpr (Int32.le_trans (nI_pos' hl) h.1)
  obtain ⟨j, hj, rfl⟩ := nI_of h0
  exact ⟨j, (nI_leI hl hj).mp h.1, (nI_leI hj hh).mp h.2, rfl⟩
theorem repC_up {w : aX} {M : xMem} {a j : Nat} {y : Int32} (h : repC w M) (ha : a = 3 ∨ a = 4 ∨ (5 ≤ a ∧ a ≤ 17) ∨ (36 ≤ a ∧ a ≤ 40) ∨ (98 ≤ a ∧ a < 156)) : repC w (up2 M a j y) := by
  obtain ⟨h1, h2, h3, h4, h5, h6, h7⟩ := h
  exact ⟨isTx_keep h1 (up2_ne (by omega)) (up2_ne (by omega)), rL_keep h2 (fun a _ _ => up2_ne (by omega)), rB_keep h3 (fun a _ _ => up2_ne (by omega)), rP_keep h4 (fun a hpa => up2_ne (by omega)), rP_keep h5 (fun a hpa => up2_ne (by omega)), by rw [up2_ne (by omega)]; exact h6, fun i q hi => by rw [up2_ne (by omega), up2_ne (by omega)]; exact h7 i q hi⟩
/-- the scratch cells of the class: reader, draft, trial, sharing, orders, chance -/
def scr (a : Nat) : Prop := a = 3 ∨ a = 4 ∨ (5 ≤ a ∧ a ≤ 17) ∨ (36 ≤ a ∧ a ≤ 40) ∨ (98 ≤ a ∧ a < 156)
theorem repC_scr {w : aX} {M M1 : xMem} (h : repC w M) (hk : ∀ a, a < 156 → ¬ scr a → M1 a = M a) : repC w M1 := by
  obtain ⟨h1, h2, h3, h4, h5, h6, h7⟩ := h
  have k : ∀ a, (a = 1 ∨ a = 2 ∨ (18 ≤ a ∧ a ≤ 35) ∨ (41 ≤ a ∧ a ≤ 97)) → M1 a = M a := fun a ha => hk a (by omega) (by unfold scr; omega)
  exact ⟨isTx_keep h1 (k 1 (by omega)) (k 2 (by omega)), rL_keep h2 (fun a _ _ => k a (by omega)), rB_keep h3 (fun a _ _ => k a (by omega)), rP_keep h4 (fun a hpa => k a (by omega)), rP_keep h5 (fun a hpa => k a (by omega)), by rw [k 95 (by omega)]; exact h6, fun i q hi => by rw [k 96 (by omega), k 97 (by omega)]; exact h7 i q hi⟩
theorem isBk31 : isBk 31 := by unfold isBk; decide
theorem isBk36 : isBk 36 := by unfold isBk; decide
theorem isTx_snoc {M : xMem} {l : List Nat} {j : Nat} (h : isTx M (fun i => l.getD i 0) l.length) (hl : l.length < 200) (h1 : 32 ≤ j) (h2 : j ≤ 126) : isTx (up2 (up2 M 2 l.length (nI j)) 1 1 (nI (l.length + 1))) (fun i => (l ++ [j]).getD i 0) (l ++ [j]).length := by
  obtain ⟨t1, t2, t3⟩ := h
  refine ⟨by simp [up2], by simp; omega, fun i hi => ?_⟩
  rw [up2_ne (by decide), up2_row]
  simp only [upd, List.length_append, List.length_singleton] at hi ⊢
  by_cases q : i = l.length
  · rw [if_pos q, q]
    simp
    omega
  · rw [if_neg q]
    have h9 := t3 i (by omega)
    simp only at h9
    have e : (l ++ [j]).getD i 0 = l.getD i 0 := by simp [List.getD_eq_getElem?_getD, List.getElem?_append_left (show i < l.length by omega)]
    rw [e]
    exact h9
section FC
variable {G : xGl} {d N : Nat} {w : aX} {M : xMem} {Q : Option Value → List xSh → xMem → Prop} {y y1 y2 : Int32}
theorem c_X9_isVillage {nv : Nat} (hn : M 18 5 = nI nv) (hQ : Q (some (.int (bI (inN y nv)))) SF M) : xC G mX9_isVillage (d + 1) 0 0 [.ref (G.1 + 0), .int y] SF M Q := by
  have s0 := sh0
  have l0 := sh18
  refine xC_intro [some (.ref (G.1 + 0)), some (.int y)] rfl (by decide) (Nat.le_of_ble_eq_true rfl) ?_
  refine xs_iload eX9_isVillage_0 rfl ?_
  refine xs_K eX9_isVillage_1 ?_
  refine xs_aload eX9_isVillage_2 rfl ?_
  refine xs_getR eX9_isVillage_3 (by assumption) (by rfl) ?_
  refine xs_getI eX9_isVillage_6 (by assumption) (by rfl) ?_
  refine xs_eq1 hn ?_
  refine xs_K eX9_isVillage_9 ?_
  refine xs_isub eX9_isVillage_10 ?_
  refine xs_callS3i eX9_isVillage_11 (Nat.le_of_ble_eq_true rfl) (c_X9_isWithin ⟨_, rfl, ?_⟩)
  exact xs_iret eX9_isVillage_14 rfl (by first | exact bI_nar _ | rfl) (hQ)
theorem c_X9_isParty {np : Nat} (hn : M 18 6 = nI np) (hQ : Q (some (.int (bI (inN y np)))) SF M) : xC G mX9_isParty (d + 1) 0 0 [.ref (G.1 + 0), .int y] SF M Q := by
  have s0 := sh0
  have l0 := sh18
  refine xC_intro [some (.ref (G.1 + 0)), some (.int y)] rfl (by decide) (Nat.le_of_ble_eq_true rfl) ?_
  refine xs_iload eX9_isParty_0 rfl ?_
  refine xs_K eX9_isParty_1 ?_
  refine xs_aload eX9_isParty_2 rfl ?_
  refine xs_getR eX9_isParty_3 (by assumption) (by rfl) ?_
  refine xs_getI eX9_isParty_6 (by assumption) (by rfl) ?_
  refine xs_eq1 hn ?_
  refine xs_K eX9_isParty_9 ?_
  refine xs_isub eX9_isParty_10 ?_
  refine xs_callS3i eX9_isParty_11 (Nat.le_of_ble_eq_true rfl) (c_X9_isWithin ⟨_, rfl, ?_⟩)
  exact xs_iret eX9_isParty_14 rfl (by first | exact bI_nar _ | rfl) (hQ)
theorem c_X9_write (hR : repC w M) (hok : okX N w) (hQ : ∀ M1, hiK M M1 → repC (spWrite w y).2 M1 → Q (some (.int (spWrite w y).1)) SF M1) : xC G mX9_write (d + 9) 0 0 [.ref (G.1 + 0), .int y] SF M Q := by
  have s0 := sh0
  have s1 := sh1
  obtain ⟨⟨t1, t2, t3⟩, hR2⟩ := id hR
  unfold spWrite at hQ
  refine xC_intro [some (.ref (G.1 + 0)), some (.int y)] rfl (by decide) (Nat.le_of_ble_eq_true rfl) ?_
  refine xs_iload eX9_write_0 rfl ?_
  refine xs_K eX9_write_1 ?_
  refine xs_K eX9_write_3 ?_
  refine xs_callS3i eX9_write_5 (Nat.le_of_ble_eq_true rfl) (c_X9_isWithin ⟨_, rfl, ?_⟩)
  refine xs_ifneB eX9_write_8 (fun h8 => ?_) (fun h8 => ?_)
  · refine xs_aload eX9_write_13 rfl ?_
    refine xs_getR eX9_write_14 (by assumption) (by rfl) ?_
    refine xs_callV0i eX9_write_17 (by assumption) (Nat.le_of_ble_eq_true rfl) (c_X6_isFull (by assumption) (by omega) ⟨_, rfl, ?_⟩)
    refine xs_ifeqB eX9_write_20 (fun h20 => ?_) (fun h20 => ?_)
    · obtain ⟨j, j1, j2, rfl⟩ := wi_of (by decide) (by decide) h8
      have hlt : w.1.length < 200 := by have := of_decide_eq_false h20; omega
      have hcj := nI_clamp (n := j) (by omega)
      have e31 : ((nI j).toUInt32 % 65536).toInt32 = nI j := by rw [pk_char, pk_tn (by omega), Nat.mod_eq_of_lt (by omega)]
      rw [if_pos h8, if_neg (by omega), hcj] at hQ
      have hnc := (pk_charN (q := j) (by omega)).1
      obtain ⟨h2, h3, h4, h5, h6, h7⟩ := hR2
      have hQ1 := hQ (up2 (up2 M 2 w.1.length (nI j)) 1 1 (nI (w.1.length + 1))) (fun a h => by rw [up2_ne (by omega), up2_ne (by omega)]) ⟨isTx_snoc hR.1 hlt (by omega) (by omega), rL_keep h2 (fun a _ _ => by rw [up2_ne (by omega), up2_ne (by omega)]), rB_keep h3 (fun a _ _ => by rw [up2_ne (by omega), up2_ne (by omega)]), rP_keep h4 (fun a hpa => by rw [up2_ne (by omega), up2_ne (by omega)]), rP_keep h5 (fun a hpa => by rw [up2_ne (by omega), up2_ne (by omega)]), by rw [up2_ne (by omega), up2_ne (by omega)]; exact h6, fun i q hi => by rw [up2_ne (by omega), up2_ne (by omega), up2_ne (by omega), up2_ne (by omega)]; exact h7 i q hi⟩
      refine xs_aload eX9_write_26 rfl ?_
      refine xs_getR eX9_write_27 (by assumption) (by rfl) ?_
      refine xs_iload eX9_write_30 rfl ?_
      refine xs_i2c eX9_write_31 ?_
      refine xs_eq1 e31 ?_
      refine xs_callV1v eX9_write_32 (by assumption) (Nat.le_of_ble_eq_true rfl) (c_X6_add (by assumption) (by omega) (by assumption) ⟨rfl, ?_⟩)
      refine xs_aload eX9_write_35 rfl ?_
      refine xs_getR eX9_write_36 (by assumption) (by rfl) ?_
      refine xs_getI eX9_write_39 (by assumption) (by rfl) ?_
      refine xs_eq1 (z := nI (w.1.length + 1)) (by simp [up2]) ?_
      exact xs_iretI eX9_write_42 rfl (hQ1)
    · refine xs_K eX9_write_23 ?_
      exact xs_iretI eX9_write_25 rfl (by rw [if_pos h8, if_pos (of_decide_eq_true h20)] at hQ; exact hQ M (fun _ _ => rfl) hR)
  · refine xs_K eX9_write_11 ?_
    exact xs_iretI eX9_write_12 rfl (by rw [if_neg (by rw [h8]; decide)] at hQ; exact hQ M (fun _ _ => rfl) hR)
theorem c_X9_wipe (hR : repC w M) (hQ : ∀ M1, hiK M M1 → repC (spWipe w).2 M1 → Q (some (.int (spWipe w).1)) SF M1) : xC G mX9_wipe (d + 9) 0 0 [.ref (G.1 + 0)] SF M Q := by
  have s0 := sh0
  have s1 := sh1
  obtain ⟨⟨t1, t2, t3⟩, h2, h3, h4, h5, h6, h7⟩ := id hR
  have hQ1 := hQ (up2 M 1 1 (nI 0)) (fun a h => up2_ne (by omega)) ⟨⟨by simp [up2, spWipe], by simp [spWipe], fun j hj => by simp [spWipe] at hj⟩, rL_keep h2 (fun a _ _ => up2_ne (by omega)), rB_keep h3 (fun a _ _ => up2_ne (by omega)), rP_keep h4 (fun a hpa => up2_ne (by omega)), rP_keep h5 (fun a hpa => up2_ne (by omega)), by rw [up2_ne (by omega)]; exact h6, fun i q hi => by rw [up2_ne (by omega), up2_ne (by omega)]; exact h7 i q hi⟩
  refine xC_intro [some (.ref (G.1 + 0)), none] rfl (by decide) (Nat.le_of_ble_eq_true rfl) ?_
  refine xs_aload eX9_wipe_0 rfl ?_
  refine xs_getR eX9_wipe_1 (by assumption) (by rfl) ?_
  refine xs_getI eX9_wipe_4 (by assumption) (by rfl) ?_
  refine xs_istore eX9_wipe_7 (Nat.le_of_ble_eq_true rfl) rfl rfl ?_
  refine xs_aload eX9_wipe_8 rfl ?_
  refine xs_getR eX9_wipe_9 (by assumption) (by rfl) ?_
  refine xs_callV0v eX9_wipe_12 (by assumption) (Nat.le_of_ble_eq_true rfl) (c_X6_clear ⟨rfl, ?_⟩)
  refine xs_iload eX9_wipe_15 rfl ?_
  exact xs_iretI eX9_wipe_16 rfl (Qev hQ1 t1.symm)
theorem c_X9_forget (hR : repC w M) (hQ : ∀ M1, hiK M M1 → repC (spForget w).2 M1 → Q (some (.int (spForget w).1)) SF M1) : xC G mX9_forget (d + 9) 0 0 [.ref (G.1 + 0)] SF M Q := by
  have s0 := sh0
  have s1 := sh95
  obtain ⟨h1, h2, h3, h4, h5, h6, h7⟩ := id hR
  have hQ1 := hQ (up2 M 95 2 (nI 0)) (fun a h => up2_ne (by omega)) ⟨isTx_keep h1 (up2_ne (by omega)) (up2_ne (by omega)), rL_keep h2 (fun a _ _ => up2_ne (by omega)), rB_keep h3 (fun a _ _ => up2_ne (by omega)), rP_keep h4 (fun a hpa => up2_ne (by omega)), rP_keep h5 (fun a hpa => up2_ne (by omega)), by simp [up2, spForget], fun i q hi => by simp [spForget] at hi⟩
  refine xC_intro [some (.ref (G.1 + 0)), none] rfl (by decide) (Nat.le_of_ble_eq_true rfl) ?_
  refine xs_aload eX9_forget_0 rfl ?_
  refine xs_getR eX9_forget_1 (by assumption) (by rfl) ?_
  refine xs_getI eX9_forget_4 (by assumption) (by rfl) ?_
  refine xs_istore eX9_forget_7 (Nat.le_of_ble_eq_true rfl) rfl rfl ?_
  refine xs_aload eX9_forget_8 rfl ?_
  refine xs_getR eX9_forget_9 (by assumption) (by rfl) ?_
  refine xs_callV0v eX9_forget_12 (by assumption) (Nat.le_of_ble_eq_true rfl) (c_X8_clear ⟨rfl, ?_⟩)
  refine xs_iload eX9_forget_15 rfl ?_
  exact xs_iretI eX9_forget_16 rfl (Qev hQ1 h6.symm)
theorem c_X9_party (hR : repC w M) (hok : okX N w) (hQ : Q (some (.int (spPart w y1 y2))) SF M) : xC G mX9_party (d + 9) 0 0 [.ref (G.1 + 0), .int y1, .int y2] SF M Q := by
  have s0 := sh0
  have b0 := bk0 isBk31
  have b3 := bk3 isBk31
  have b4 := bk4 isBk31
  obtain ⟨-, hL, hB, -⟩ := id hR
  have hn := hL.2.1
  have ho := hok.2.1.2.1
  unfold spPart at hQ
  have K : inN y1 w.2.1.2.1 = true → wiB y2 (nI 0) (nI 1) = true → xW G mX9_party (d + 9) 0 0 Q 19 [some (.ref (G.1 + 0)), some (.int y1), some (.int y2)] [] SF M := by
    intro q1 q2
    rw [q1, q2] at hQ
    obtain ⟨p, hp, rfl⟩ := inN_of (by omega) q1
    obtain ⟨k, -, hk, rfl⟩ := wi_of (by decide) (by decide) q2
    rw [nI_clamp (by omega)] at hQ
    have hr := hB.2.2.2 p (by omega)
    refine xs_iload eX9_party_19 rfl ?_
    refine xs_N0_ne eX9_party_20 (by omega) (fun h20 => ?_) (fun h20 => ?_)
    · refine xs_aload eX9_party_35 rfl ?_
      refine xs_getR eX9_party_36 (by assumption) (by rfl) ?_
      refine xs_getR eX9_party_39 (by assumption) (by rfl) ?_
      refine xs_iload eX9_party_42 rfl ?_
      refine xs_iald eX9_party_43 (by assumption) (by omega) (by decide) ?_
      refine xs_eq1 hr.2 ?_
      exact xs_iretI eX9_party_44 rfl (by have e : nI k ≠ nI 0 := fun h => h20 ((nI_eq (by omega) (by decide)).mp h); simp only [Bool.and_self, if_true, e, if_false] at hQ; exact hQ)
    · refine xs_aload eX9_party_23 rfl ?_
      refine xs_getR eX9_party_24 (by assumption) (by rfl) ?_
      refine xs_getR eX9_party_27 (by assumption) (by rfl) ?_
      refine xs_iload eX9_party_30 rfl ?_
      refine xs_iald eX9_party_31 (by assumption) (by omega) (by decide) ?_
      refine xs_eq1 hr.1 ?_
      refine xs_goto eX9_party_32 ?_
      skip
      exact xs_iretI eX9_party_44 rfl (by subst h20; simp only [Bool.and_self, if_true] at hQ; exact hQ)
  refine xC_intro [some (.ref (G.1 + 0)), some (.int y1), some (.int y2)] rfl (by decide) (Nat.le_of_ble_eq_true rfl) ?_
  refine xs_aload eX9_party_0 rfl ?_
  refine xs_iload eX9_party_1 rfl ?_
  refine xs_callV1i eX9_party_2 (by assumption) (Nat.le_of_ble_eq_true rfl) (c_X9_isParty (by assumption) ⟨_, rfl, ?_⟩)
  refine xs_ifeqB eX9_party_5 (fun h5 => ?_) (fun h5 => ?_)
  · refine xs_K eX9_party_17 ?_
    exact xs_iretI eX9_party_18 rfl (by rw [h5] at hQ; exact hQ)
  · refine xs_iload eX9_party_8 rfl ?_
    refine xs_K eX9_party_9 ?_
    refine xs_K eX9_party_10 ?_
    refine xs_callS3i eX9_party_11 (Nat.le_of_ble_eq_true rfl) (c_X9_isWithin ⟨_, rfl, ?_⟩)
    refine xs_ifneB eX9_party_14 (fun h14 => ?_) (fun h14 => ?_)
    · exact K h5 h14
    · refine xs_K eX9_party_17 ?_
      exact xs_iretI eX9_party_18 rfl (by rw [h5, h14] at hQ; exact hQ)
end FC

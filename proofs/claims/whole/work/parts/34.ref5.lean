/-! THE REFERENCE, fifth part: ask, check, strike, undo, keep, back -/
section R5
variable {G : xGl} {d N base dy : Nat} {w : aX} {l : aLd} {b : aBk} {M : xMem} {S : List xSh} {Q : Option Value → List xSh → xMem → Prop} {y y1 y2 : Int32}
theorem loK_tr {M M1 M2 : xMem} (h : loK M M1) (h2 : loK M1 M2) : loK M M2 := fun a ha => (h2 a ha).trans (h a ha)
theorem loK_sK {base : Nat} {M M1 : xMem} (h : sK base M M1) : loK M M1 := fun a ha => h.1 a (by omega)
theorem c_X10_ask (hR : repM w M) (hok : okX N w) (hN : N ≤ 600) (hQ : ∀ M1, loK M M1 → repM (spAsk w y1 y2).2 M1 → Q (some (.int (spAsk w y1 y2).1)) SF M1) : xC G mX10_ask (d + 9) 0 0 [.ref (G.1 + 156), .int y1, .int y2] SF M Q := by
  have s0 := sh156
  obtain ⟨-, hL, hS, -⟩ := id hR
  have hn := hL.1
  have hnp := hL.2.1
  have hl := hok.2.1
  have hB := hok.2.2.1
  have ho := hl.1
  have hop := hl.2.1
  unfold spAsk at hQ
  dsimp only at hQ
  refine xC_intro [some (.ref (G.1 + 156)), some (.int y1), some (.int y2)] rfl (by decide) (Nat.le_of_ble_eq_true rfl) ?_
  have K : inN y1 w.2.1.2.1 = true → inN y2 w.2.1.1 = true → xW G mX10_ask (d + 9) 0 0 Q 26 [some (.ref (G.1 + 156)), some (.int y1), some (.int y2)] [] SF M := by
    intro q1 q2
    obtain ⟨p, hp, rfl⟩ := inN_of (by omega) q1
    obtain ⟨v, hv, rfl⟩ := inN_of (by omega) q2
    rw [q1, q2, nI_clamp (by omega), nI_clamp (by omega)] at hQ
    simp only [Bool.and_self, if_true] at hQ
    refine xs_aload eX10_ask_26 rfl ?_
    refine xs_K eX10_ask_27 ?_
    refine xs_iload eX10_ask_28 rfl ?_
    refine xs_iload eX10_ask_29 rfl ?_
    refine xs_callV3i eX10_ask_30 (by assumption) (Nat.le_of_ble_eq_true rfl) (c_X10_canAsk (b := w.2.2.1) (dy := 121 * N) hL hl hS hB (by omega) (by omega) (by omega) ⟨_, rfl, ?_⟩)
    refine xs_ifneB eX10_ask_33 (fun h33 => ?_) (fun h33 => ?_)
    · refine xs_aload eX10_ask_39 rfl ?_
      refine xs_callV0v eX10_ask_40 (by assumption) (Nat.le_of_ble_eq_true rfl) (c_X10_known hR hok (fun M1 e1 e2 => ⟨rfl, ?_⟩))
      refine xs_aload eX10_ask_43 rfl ?_
      refine xs_K eX10_ask_44 ?_
      refine xs_iload eX10_ask_45 rfl ?_
      refine xs_iload eX10_ask_46 rfl ?_
      refine xs_callV3i eX10_ask_47 (by assumption) (Nat.le_of_ble_eq_true rfl) (c_X10_asks (b := w.2.2.1) (dy := 121 * N) e2.2.1 hl e2.2.2.1 hB (by omega) (by omega) (by omega) h33 (by omega) (fun M2 e3 e4 => ⟨_, rfl, ?_⟩))
      have hQ9 := hQ M2
      rw [if_pos h33] at hQ9
      have hQ9 := hQ9 (loK_tr e1 (loK_sK e3)) (repM_now e2 e3 e4)
      exact xs_iretI eX10_ask_50 rfl (hQ9)
    · have hQ8 := hQ M
      rw [if_neg (by rw [h33]; decide)] at hQ8
      have hQ8 := hQ8 (fun _ _ => rfl) hR
      refine xs_K eX10_ask_36 ?_
      exact xs_iretI eX10_ask_38 rfl (hQ8)
  have K2 : ¬ (inN y1 w.2.1.2.1 && inN y2 w.2.1.1) = true → Q (some (.int (-1))) SF M := fun h => by
    have h9 := hQ M
    rw [if_neg h] at h9
    exact h9 (fun _ _ => rfl) hR
  refine xs_iload eX10_ask_0 rfl ?_
  refine xs_i2l eX10_ask_1 ?_
  refine xs_KL eX10_ask_2 ?_
  refine xs_aload eX10_ask_3 rfl ?_
  refine xs_getI eX10_ask_4 (by assumption) (by rfl) ?_
  refine xs_eq1 hnp ?_
  refine xs_K eX10_ask_7 ?_
  refine xs_isub eX10_ask_8 ?_
  refine xs_i2l eX10_ask_9 ?_
  refine xs_callS3i eX10_ask_10 (Nat.le_of_ble_eq_true rfl) (c_X10_in (lo := nI 0) (hi := nI w.2.1.2.1 - nI 1) rfl (by decide) rfl ⟨_, rfl, ?_⟩)
  refine xs_ifeqB eX10_ask_13 (fun h13 => ?_) (fun h13 => ?_)
  · have h13 : inN y1 w.2.1.2.1 = false := h13
    refine xs_K eX10_ask_24 ?_
    exact xs_iretI eX10_ask_25 rfl (K2 (by simp [h13]))
  · have h13 : inN y1 w.2.1.2.1 = true := h13
    refine xs_aload eX10_ask_16 rfl ?_
    refine xs_iload eX10_ask_17 rfl ?_
    refine xs_callV1i eX10_ask_18 (by assumption) (Nat.le_of_ble_eq_true rfl) (c_X10_isVillage (by assumption) ⟨_, rfl, ?_⟩)
    refine xs_ifneB eX10_ask_21 (fun h21 => ?_) (fun h21 => ?_)
    · exact K h13 h21
    · refine xs_K eX10_ask_24 ?_
      exact xs_iretI eX10_ask_25 rfl (K2 (by simp [h21]))
theorem c_X10_check (hR : repM w M) (hok : okX N w) (hQ : ∀ M1, loK M M1 → repM (spCheck w y).2 M1 → Q (some (.int (spCheck w y).1)) SF M1) : xC G mX10_check (d + 9) 0 0 [.ref (G.1 + 156), .int y] SF M Q := by
  have s0 := sh156
  have s1 := sh162
  obtain ⟨-, hL, hS, -⟩ := id hR
  have hn := hL.1
  have hl := hok.2.1
  have hB := hok.2.2.1
  have ho := hl.1
  have hib := okX_ib hok
  unfold spCheck at hQ
  dsimp only at hQ
  refine xC_intro [some (.ref (G.1 + 156)), some (.int y), none] rfl (by decide) (Nat.le_of_ble_eq_true rfl) ?_
  have K : inN y w.2.1.1 = true → xW G mX10_check (d + 9) 0 0 Q 10 [some (.ref (G.1 + 156)), some (.int y), none] [] SF M := by
    intro q1
    obtain ⟨v, hv, rfl⟩ := inN_of (by omega) q1
    rw [q1, nI_clamp (by omega)] at hQ
    simp only [if_true] at hQ
    have hv7 : v < 7 := by omega
    refine xs_aload eX10_check_10 rfl ?_
    refine xs_K eX10_check_11 ?_
    refine xs_iload eX10_check_12 rfl ?_
    refine xs_callV2i eX10_check_13 (by assumption) (Nat.le_of_ble_eq_true rfl) (c_X10_canCheck (b := w.2.2.1) hS (by omega) (by omega) ⟨_, rfl, ?_⟩)
    refine xs_ifneB eX10_check_16 (fun h16 => ?_) (fun h16 => ?_)
    · refine xs_aload eX10_check_22 rfl ?_
      refine xs_callV0v eX10_check_23 (by assumption) (Nat.le_of_ble_eq_true rfl) (c_X10_known hR hok (fun M1 e1 e2 => ⟨rfl, ?_⟩))
      refine xs_aload eX10_check_26 rfl ?_
      refine xs_getR eX10_check_27 (by assumption) (by rfl) ?_
      refine xs_K eX10_check_30 ?_
      refine xs_iload eX10_check_32 rfl ?_
      refine xs_iadd eX10_check_33 ?_
      refine xs_eq1 (nI_add 7 v) ?_
      refine xs_iald eX10_check_34 (by assumption) (by omega) (by decide) ?_
      refine xs_eq1 (z := nI (w.2.2.1.2.2.2.1 v)) (by have := (e2.2.2.1.2.2.1 v hv7).2; rw [show 0 + 7 + v = 7 + v by omega] at this; exact this) ?_
      refine xs_istore eX10_check_35 (Nat.le_of_ble_eq_true rfl) rfl rfl ?_
      refine xs_aload eX10_check_36 rfl ?_
      refine xs_K eX10_check_37 ?_
      refine xs_iload eX10_check_38 rfl ?_
      refine xs_callV2v eX10_check_39 (by assumption) (Nat.le_of_ble_eq_true rfl) (c_X10_checked (b := w.2.2.1) e2.2.2.1 hib.2 (by omega) hv7 (fun M2 e3 e4 => ⟨rfl, ?_⟩))
      refine xs_aload eX10_check_42 rfl ?_
      refine xs_getR eX10_check_43 (by assumption) (by rfl) ?_
      refine xs_iload eX10_check_46 rfl ?_
      refine xs_iald eX10_check_47 (by assumption) (by omega) (by decide) ?_
      refine xs_eq1 (z := nI (w.2.2.1.2.2.1 v)) (by have := (e4.2.2.1 v hv7).1; rw [show 0 + v = v by omega] at this; exact this) ?_
      refine xs_iload eX10_check_48 rfl ?_
      refine xs_isub eX10_check_49 ?_
      refine xs_K eX10_check_50 ?_
      refine xs_iadd eX10_check_53 ?_
      have hQ9 := hQ M2
      rw [if_pos h16] at hQ9
      have hQ9 := hQ9 (loK_tr e1 (loK_sK e3)) (repM_now e2 e3 e4)
      exact xs_iretI eX10_check_54 rfl (hQ9)
    · have hQ8 := hQ M
      rw [if_neg (by rw [h16]; decide)] at hQ8
      have hQ8 := hQ8 (fun _ _ => rfl) hR
      refine xs_K eX10_check_19 ?_
      exact xs_iretI eX10_check_21 rfl (hQ8)
  refine xs_aload eX10_check_0 rfl ?_
  refine xs_iload eX10_check_1 rfl ?_
  refine xs_callV1i eX10_check_2 (by assumption) (Nat.le_of_ble_eq_true rfl) (c_X10_isVillage (by assumption) ⟨_, rfl, ?_⟩)
  refine xs_ifneB eX10_check_5 (fun h5 => ?_) (fun h5 => ?_)
  · exact K h5
  · refine xs_K eX10_check_8 ?_
    exact xs_iretI eX10_check_9 rfl (by have h9 := hQ M; rw [if_neg (by rw [h5]; decide)] at h9; exact h9 (fun _ _ => rfl) hR)
theorem c_X10_strike (hR : repM w M) (hok : okX N w) (hQ : ∀ M1, loK M M1 → repM (spStrike w y).2 M1 → Q (some (.int (spStrike w y).1)) SF M1) : xC G mX10_strike (d + 9) 0 0 [.ref (G.1 + 156), .int y] SF M Q := by
  have s0 := sh156
  have s1 := sh162
  obtain ⟨-, hL, hS, -⟩ := id hR
  have hn := hL.1
  have hl := hok.2.1
  have hB := hok.2.2.1
  have ho := hl.1
  have hib := okX_ib hok
  unfold spStrike at hQ
  dsimp only at hQ
  refine xC_intro [some (.ref (G.1 + 156)), some (.int y)] rfl (by decide) (Nat.le_of_ble_eq_true rfl) ?_
  have K : inN y w.2.1.1 = true → xW G mX10_strike (d + 9) 0 0 Q 10 [some (.ref (G.1 + 156)), some (.int y)] [] SF M := by
    intro q1
    obtain ⟨v, hv, rfl⟩ := inN_of (by omega) q1
    rw [q1, nI_clamp (by omega)] at hQ
    simp only [if_true] at hQ
    have hv7 : v < 7 := by omega
    refine xs_aload eX10_strike_10 rfl ?_
    refine xs_iload eX10_strike_11 rfl ?_
    refine xs_callV1i eX10_strike_12 (by assumption) (Nat.le_of_ble_eq_true rfl) (c_X10_isIn hS (by omega) ⟨_, rfl, ?_⟩)
    refine xs_ifneB eX10_strike_15 (fun h15 => ?_) (fun h15 => ?_)
    · refine xs_aload eX10_strike_21 rfl ?_
      refine xs_callV0v eX10_strike_22 (by assumption) (Nat.le_of_ble_eq_true rfl) (c_X10_known hR hok (fun M1 e1 e2 => ⟨rfl, ?_⟩))
      refine xs_aload eX10_strike_25 rfl ?_
      refine xs_K eX10_strike_26 ?_
      refine xs_iload eX10_strike_27 rfl ?_
      refine xs_callV2v eX10_strike_28 (by assumption) (Nat.le_of_ble_eq_true rfl) (c_X10_struck (b := w.2.2.1) e2.2.2.1 hib.1 hib.2 (by omega) hv7 (fun M2 e3 e4 => ⟨rfl, ?_⟩))
      refine xs_aload eX10_strike_31 rfl ?_
      refine xs_getR eX10_strike_32 (by assumption) (by rfl) ?_
      refine xs_K eX10_strike_35 ?_
      refine xs_iload eX10_strike_37 rfl ?_
      refine xs_iadd eX10_strike_38 ?_
      refine xs_eq1 (nI_add 7 v) ?_
      refine xs_iald eX10_strike_39 (by assumption) (by omega) (by decide) ?_
      refine xs_eq1 (z := nI (w.2.2.1.2.2.2.1 v)) (by have := (e4.2.2.1 v hv7).2; rw [show 0 + 7 + v = 7 + v by omega] at this; exact this) ?_
      have hQ9 := hQ M2
      rw [if_pos h15] at hQ9
      have hQ9 := hQ9 (loK_tr e1 (loK_sK e3)) (repM_now e2 e3 e4)
      exact xs_iretI eX10_strike_40 rfl (hQ9)
    · have hQ8 := hQ M
      rw [if_neg (by rw [h15]; decide)] at hQ8
      have hQ8 := hQ8 (fun _ _ => rfl) hR
      refine xs_K eX10_strike_18 ?_
      exact xs_iretI eX10_strike_20 rfl (hQ8)
  refine xs_aload eX10_strike_0 rfl ?_
  refine xs_iload eX10_strike_1 rfl ?_
  refine xs_callV1i eX10_strike_2 (by assumption) (Nat.le_of_ble_eq_true rfl) (c_X10_isVillage (by assumption) ⟨_, rfl, ?_⟩)
  refine xs_ifneB eX10_strike_5 (fun h5 => ?_) (fun h5 => ?_)
  · exact K h5
  · refine xs_K eX10_strike_8 ?_
    exact xs_iretI eX10_strike_9 rfl (by have h9 := hQ M; rw [if_neg (by rw [h5]; decide)] at h9; exact h9 (fun _ _ => rfl) hR)
theorem c_X10_undo (hR : repM w M) (hok : okX N w) (hQ : ∀ M1, loK M M1 → repM (spUndo w).2 M1 → Q (some (.int (spUndo w).1)) SF M1) : xC G mX10_undo (d + 9) 0 0 [.ref (G.1 + 156)] SF M Q := by
  have s0 := sh156
  obtain ⟨⟨t1, t2⟩, r1, r2, ⟨r3, r3b⟩, ⟨r4, r4b⟩, ⟨r5, r6⟩⟩ := id hR
  have h8 := hok.2.2.2.1.1
  have h2 := hok.2.2.2.2.1.1
  unfold spUndo at hQ
  refine xC_intro [some (.ref (G.1 + 156))] rfl (by decide) (Nat.le_of_ble_eq_true rfl) ?_
  cases hl : w.2.2.2.1 with
  | nil =>
    rw [hl] at hQ r3
    rw [List.length_nil] at r3
    refine xs_aload eX10_undo_0 rfl ?_
    refine xs_getI eX10_undo_1 (by assumption) (by rfl) ?_
    refine xs_eq1 r3 ?_
    refine xs_N0_ne eX10_undo_4 (by omega) (fun h => absurd h (by omega)) (fun h4 => ?_)
    refine xs_K eX10_undo_7 ?_
    exact xs_iretI eX10_undo_9 rfl (hQ M (fun _ _ => rfl) hR)
  | cons k r =>
    rw [hl] at hQ r3 r3b h8
    rw [List.length_cons] at r3 r3b h8
    have ck := cpS_k (M := M) (fr := 22 * (r.length + 1)) (to := 0)
    have cb : rS (cpS M (22 * (r.length + 1)) 0) 0 k := rS_cp (r3b 0 k rfl)
    have f1 : cpS M (22 * (r.length + 1)) 0 156 = M 156 := ck.1 156 (by decide)
    have hQ1 := hQ (up2 (cpS M (22 * (r.length + 1)) 0) 156 10 (nI r.length)) (fun a ha => by rw [up2_ne (by omega)]; exact ck.1 a (by omega)) ⟨⟨by rw [up2_row, f1]; exact t1, fun j hj => by rw [up2_ne (by decide), ck.1 163 (by decide)]; exact t2 j hj⟩, rLm_keep r1 (by rw [up2_row, f1]; rfl) (by rw [up2_row, f1]; rfl) (by rw [up2_ne (by decide), ck.1 157 (by decide)]) (by rw [up2_ne (by decide), ck.1 158 (by decide)]) (by rw [up2_ne (by decide), ck.1 159 (by decide)]), rS_keep cb (fun j _ _ => by rw [up2_ne (by decide)]), ⟨by rw [up2_row]; simp [upd], fun i q hi => ?_⟩, ⟨by rw [up2_row, f1]; exact r4, fun i q hi => ?_⟩, ⟨by rw [up2_row, f1]; exact r5, fun i q hi => by rw [up2_ne (by decide), ck.1 164 (by decide), up2_ne (by decide), ck.1 165 (by decide)]; exact r6 i q hi⟩⟩
    refine xs_aload eX10_undo_0 rfl ?_
    refine xs_getI eX10_undo_1 (by assumption) (by rfl) ?_
    refine xs_eq1 r3 ?_
    refine xs_N0_ne eX10_undo_4 (by omega) (fun h4 => ?_) (fun h => absurd h (by omega))
    refine xs_aload eX10_undo_10 rfl ?_
    refine xs_aload eX10_undo_11 rfl ?_
    refine xs_getI eX10_undo_12 (by assumption) (by rfl) ?_
    refine xs_eq1 r3 ?_
    refine xs_K eX10_undo_15 ?_
    refine xs_imul eX10_undo_17 ?_
    refine xs_eq1 (z := nI (22 * (r.length + 1))) (by rw [pk_mul, Nat.mul_comm]) ?_
    refine xs_K eX10_undo_18 ?_
    refine xs_callV2v eX10_undo_19 (by assumption) (Nat.le_of_ble_eq_true rfl) (c_X10_copied (by omega) (by omega) (by omega) ⟨rfl, ?_⟩)
    refine xs_aload eX10_undo_22 rfl ?_
    refine xs_dup eX10_undo_23 rfl ?_
    refine xs_getI eX10_undo_24 (by assumption) (by rfl) ?_
    refine xs_eq1 (z := nI (r.length + 1)) (by rw [f1]; exact r3) ?_
    refine xs_K eX10_undo_27 ?_
    refine xs_isub eX10_undo_28 ?_
    refine xs_eq1 (nI_pred r.length) ?_
    refine xs_putI eX10_undo_29 (by assumption) (by rfl) rfl rfl ?_
    refine xs_aload eX10_undo_32 rfl ?_
    refine xs_getI eX10_undo_33 (by assumption) (by rfl) ?_
    refine xs_eq1 (z := nI r.length) (by rw [up2_row]; simp [upd]) ?_
    exact xs_iretI eX10_undo_36 rfl (hQ1)
    · have hlt := (List.getElem?_eq_some_iff.mp hi).1
      have hlt : i < r.length := hlt
      show rS _ (22 * (r.length - i)) q
      have := r3b (i + 1) q hi
      rw [show r.length + 1 - (i + 1) = r.length - i by omega] at this
      exact rS_keep this (fun j _ _ => by rw [up2_ne (by decide)]; exact ck.2 j (by omega))
    · have hlt := (List.getElem?_eq_some_iff.mp hi).1
      have hlt : i < w.2.2.2.2.1.length := hlt
      exact rS_keep (r4b i q hi) (fun j _ _ => by rw [up2_ne (by decide)]; exact ck.2 j (by omega))
theorem c_X10_keep (hR : repM w M) (hok : okX N w) (hQ : ∀ M1, loK M M1 → repM (spKeep w).2 M1 → Q (some (.int (spKeep w).1)) SF M1) : xC G mX10_keep (d + 9) 0 0 [.ref (G.1 + 156)] SF M Q := by
  have s0 := sh156
  obtain ⟨⟨t1, t2⟩, r1, r2, ⟨r3, r3b⟩, ⟨r4, r4b⟩, ⟨r5, r6⟩⟩ := id hR
  have h8 := hok.2.2.2.1.1
  have h2 := hok.2.2.2.2.1.1
  unfold spKeep at hQ
  refine xC_intro [some (.ref (G.1 + 156))] rfl (by decide) (Nat.le_of_ble_eq_true rfl) ?_
  by_cases e : w.2.2.2.2.1.length = 2
  · rw [if_pos e] at hQ
    refine xs_aload eX10_keep_0 rfl ?_
    refine xs_getI eX10_keep_1 (by assumption) (by rfl) ?_
    refine xs_eq1 r4 ?_
    refine xs_K eX10_keep_4 ?_
    refine xs_N_ne eX10_keep_5 (by omega) (by omega) (fun h => absurd h (by omega)) (fun h5 => ?_)
    refine xs_K eX10_keep_8 ?_
    exact xs_iretI eX10_keep_10 rfl (hQ M (fun _ _ => rfl) hR)
  · rw [if_neg e] at hQ
    have ck := cpS_k (M := M) (fr := 0) (to := 22 * (9 + w.2.2.2.2.1.length))
    have cb : rS (cpS M 0 (22 * (9 + w.2.2.2.2.1.length))) (22 * (9 + w.2.2.2.2.1.length)) w.2.2.1 := rS_cp r2
    have f1 : cpS M 0 (22 * (9 + w.2.2.2.2.1.length)) 156 = M 156 := ck.1 156 (by decide)
    have hQ1 := hQ (up2 (cpS M 0 (22 * (9 + w.2.2.2.2.1.length))) 156 11 (nI (w.2.2.2.2.1.length + 1))) (fun a ha => by rw [up2_ne (by omega)]; exact ck.1 a (by omega)) ⟨⟨by rw [up2_row, f1]; exact t1, fun j hj => by rw [up2_ne (by decide), ck.1 163 (by decide)]; exact t2 j hj⟩, rLm_keep r1 (by rw [up2_row, f1]; rfl) (by rw [up2_row, f1]; rfl) (by rw [up2_ne (by decide), ck.1 157 (by decide)]) (by rw [up2_ne (by decide), ck.1 158 (by decide)]) (by rw [up2_ne (by decide), ck.1 159 (by decide)]), rS_keep r2 (fun j _ _ => by rw [up2_ne (by decide)]; exact ck.2 j (by omega)), ⟨by rw [up2_row, f1]; exact r3, fun i q hi => ?_⟩, ⟨by rw [up2_row]; simp [upd], fun i q hi => ?_⟩, ⟨by rw [up2_row, f1]; exact r5, fun i q hi => by rw [up2_ne (by decide), ck.1 164 (by decide), up2_ne (by decide), ck.1 165 (by decide)]; exact r6 i q hi⟩⟩
    refine xs_aload eX10_keep_0 rfl ?_
    refine xs_getI eX10_keep_1 (by assumption) (by rfl) ?_
    refine xs_eq1 r4 ?_
    refine xs_K eX10_keep_4 ?_
    refine xs_N_ne eX10_keep_5 (by omega) (by omega) (fun h5 => ?_) (fun h => absurd h (by omega))
    refine xs_aload eX10_keep_11 rfl ?_
    refine xs_K eX10_keep_12 ?_
    refine xs_K eX10_keep_13 ?_
    refine xs_aload eX10_keep_15 rfl ?_
    refine xs_getI eX10_keep_16 (by assumption) (by rfl) ?_
    refine xs_eq1 r4 ?_
    refine xs_iadd eX10_keep_19 ?_
    refine xs_eq1 (nI_add 9 _) ?_
    refine xs_K eX10_keep_20 ?_
    refine xs_imul eX10_keep_22 ?_
    refine xs_eq1 (z := nI (22 * (9 + w.2.2.2.2.1.length))) (by rw [pk_mul, Nat.mul_comm]) ?_
    refine xs_callV2v eX10_keep_23 (by assumption) (Nat.le_of_ble_eq_true rfl) (c_X10_copied (by omega) (by omega) (by omega) ⟨rfl, ?_⟩)
    refine xs_aload eX10_keep_26 rfl ?_
    refine xs_dup eX10_keep_27 rfl ?_
    refine xs_getI eX10_keep_28 (by assumption) (by rfl) ?_
    refine xs_eq1 (z := nI w.2.2.2.2.1.length) (by rw [f1]; exact r4) ?_
    refine xs_K eX10_keep_31 ?_
    refine xs_iadd eX10_keep_32 ?_
    refine xs_eq1 (nI_add _ 1) ?_
    refine xs_putI eX10_keep_33 (by assumption) (by rfl) rfl rfl ?_
    refine xs_aload eX10_keep_36 rfl ?_
    refine xs_getI eX10_keep_37 (by assumption) (by rfl) ?_
    refine xs_eq1 (z := nI (w.2.2.2.2.1.length + 1)) (by rw [up2_row]; simp [upd]) ?_
    exact xs_iretI eX10_keep_40 rfl (hQ1)
    · have hlt := (List.getElem?_eq_some_iff.mp hi).1
      have hlt : i < w.2.2.2.1.length := hlt
      show rS _ (22 * (w.2.2.2.1.length - i)) q
      exact rS_keep (r3b i q hi) (fun j _ _ => by rw [up2_ne (by decide)]; exact ck.2 j (by omega))
    · show rS _ (22 * (8 + (w.2.2.1 :: w.2.2.2.2.1).length - i)) q
      rw [List.length_cons]
      rcases i with _ | i
      · cases hi
        rw [show 8 + (w.2.2.2.2.1.length + 1) - 0 = 9 + w.2.2.2.2.1.length by omega]
        exact rS_keep cb (fun j _ _ => by rw [up2_ne (by decide)])
      · have hi' : w.2.2.2.2.1[i]? = some q := hi
        have hlt := (List.getElem?_eq_some_iff.mp hi').1
        rw [show 8 + (w.2.2.2.2.1.length + 1) - (i + 1) = 8 + w.2.2.2.2.1.length - i by omega]
        exact rS_keep (r4b i q hi') (fun j _ _ => by rw [up2_ne (by decide)]; exact ck.2 j (by omega))
theorem c_X10_back (hR : repM w M) (hok : okX N w) (hQ : ∀ M1, loK M M1 → repM (spBack w).2 M1 → Q (some (.int (spBack w).1)) SF M1) : xC G mX10_back (d + 9) 0 0 [.ref (G.1 + 156)] SF M Q := by
  have s0 := sh156
  obtain ⟨⟨t1, t2⟩, r1, r2, ⟨r3, r3b⟩, ⟨r4, r4b⟩, ⟨r5, r6⟩⟩ := id hR
  have h2 := hok.2.2.2.2.1.1
  unfold spBack at hQ
  refine xC_intro [some (.ref (G.1 + 156))] rfl (by decide) (Nat.le_of_ble_eq_true rfl) ?_
  cases hl : w.2.2.2.2.1 with
  | nil =>
    rw [hl] at hQ r4
    rw [List.length_nil] at r4
    refine xs_aload eX10_back_0 rfl ?_
    refine xs_getI eX10_back_1 (by assumption) (by rfl) ?_
    refine xs_eq1 r4 ?_
    refine xs_N0_ne eX10_back_4 (by omega) (fun h => absurd h (by omega)) (fun h4 => ?_)
    refine xs_K eX10_back_7 ?_
    exact xs_iretI eX10_back_9 rfl (hQ M (fun _ _ => rfl) hR)
  | cons k r =>
    rw [hl] at hQ r4 r4b h2
    rw [List.length_cons] at r4 r4b h2
    have e0 : ∀ a, a ≠ 156 → up2 M 156 11 (nI r.length) a = M a := fun a ha => up2_ne ha
    have ck := cpS_k (M := up2 M 156 11 (nI r.length)) (fr := 22 * (9 + r.length)) (to := 0)
    have cb : rS (cpS (up2 M 156 11 (nI r.length)) (22 * (9 + r.length)) 0) 0 k := rS_cp (rS_keep (by have := r4b 0 k rfl; rw [show 8 + (r.length + 1) - 0 = 9 + r.length by omega] at this; exact this) (fun j _ _ => by rw [e0 162 (by decide)]))
    have f1 : cpS (up2 M 156 11 (nI r.length)) (22 * (9 + r.length)) 0 156 = upd (M 156) 11 (nI r.length) := by rw [ck.1 156 (by decide), up2_row]
    have hQ1 := hQ (up2 (cpS (up2 M 156 11 (nI r.length)) (22 * (9 + r.length)) 0) 156 10 (nI 0)) (fun a ha => by rw [up2_ne (by omega), ck.1 a (by omega)]; exact e0 a (by omega)) ⟨⟨by rw [up2_row, f1]; exact t1, fun j hj => by rw [up2_ne (by decide), ck.1 163 (by decide), e0 163 (by decide)]; exact t2 j hj⟩, rLm_keep r1 (by rw [up2_row, f1]; rfl) (by rw [up2_row, f1]; rfl) (by rw [up2_ne (by decide), ck.1 157 (by decide), e0 157 (by decide)]) (by rw [up2_ne (by decide), ck.1 158 (by decide), e0 158 (by decide)]) (by rw [up2_ne (by decide), ck.1 159 (by decide), e0 159 (by decide)]), rS_keep cb (fun j _ _ => by rw [up2_ne (by decide)]), ⟨by rw [up2_row]; simp [upd], fun i q hi => by simp at hi⟩, ⟨by rw [up2_row, f1]; simp [upd], fun i q hi => ?_⟩, ⟨by rw [up2_row, f1]; exact r5, fun i q hi => by rw [up2_ne (by decide), ck.1 164 (by decide), e0 164 (by decide), up2_ne (by decide), ck.1 165 (by decide), e0 165 (by decide)]; exact r6 i q hi⟩⟩
    refine xs_aload eX10_back_0 rfl ?_
    refine xs_getI eX10_back_1 (by assumption) (by rfl) ?_
    refine xs_eq1 r4 ?_
    refine xs_N0_ne eX10_back_4 (by omega) (fun h4 => ?_) (fun h => absurd h (by omega))
    refine xs_aload eX10_back_10 rfl ?_
    refine xs_dup eX10_back_11 rfl ?_
    refine xs_getI eX10_back_12 (by assumption) (by rfl) ?_
    refine xs_eq1 r4 ?_
    refine xs_K eX10_back_15 ?_
    refine xs_isub eX10_back_16 ?_
    refine xs_eq1 (nI_pred r.length) ?_
    refine xs_putI eX10_back_17 (by assumption) (by rfl) rfl rfl ?_
    refine xs_aload eX10_back_20 rfl ?_
    refine xs_K eX10_back_21 ?_
    refine xs_aload eX10_back_23 rfl ?_
    refine xs_getI eX10_back_24 (by assumption) (by rfl) ?_
    refine xs_eq1 (z := nI r.length) (by rw [up2_row]; simp [upd]) ?_
    refine xs_iadd eX10_back_27 ?_
    refine xs_eq1 (nI_add 9 _) ?_
    refine xs_K eX10_back_28 ?_
    refine xs_imul eX10_back_30 ?_
    refine xs_eq1 (z := nI (22 * (9 + r.length))) (by rw [pk_mul, Nat.mul_comm]) ?_
    refine xs_K eX10_back_31 ?_
    refine xs_callV2v eX10_back_32 (by assumption) (Nat.le_of_ble_eq_true rfl) (c_X10_copied (by omega) (by omega) (by omega) ⟨rfl, ?_⟩)
    refine xs_aload eX10_back_35 rfl ?_
    refine xs_K eX10_back_36 ?_
    refine xs_putI eX10_back_37 (by assumption) (by rfl) rfl rfl ?_
    refine xs_aload eX10_back_40 rfl ?_
    refine xs_getI eX10_back_41 (by assumption) (by rfl) ?_
    refine xs_eq1 (z := nI r.length) (by rw [up2_row, f1]; simp [upd]) ?_
    exact xs_iretI eX10_back_44 rfl (hQ1)
    · have hlt := (List.getElem?_eq_some_iff.mp hi).1
      have hlt : i < r.length := hlt
      show rS _ (22 * (8 + r.length - i)) q
      have := r4b (i + 1) q hi
      rw [show 8 + (r.length + 1) - (i + 1) = 8 + r.length - i by omega] at this
      exact rS_keep this (fun j _ _ => by rw [up2_ne (by decide), ck.2 j (by omega), e0 162 (by decide)])
end R5

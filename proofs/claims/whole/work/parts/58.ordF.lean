/-! most, least of the class -/
section OF
variable {G : xGl} {d N c p v : Nat} {w : aX} {l : aLd} {b : aBk} {M : xMem} {S : List xSh} {Q : Option Value → List xSh → xMem → Prop} {y : Int32}
theorem c_X3_seek {dy : Nat} {up : Bool} (hl : okL l) (hL : rL M l) (hB : rE M 31 b) (hb : okB l.1 dy b) (hQ : ∀ M1, (∀ a, a < 106 ∨ 149 < a → M1 a = M a) → ordS M1 (bstO l b up) → okO (pc7 (restN l.1 b.1)) (bstO l b up) → Q none SF M1) : xC G mX3_seek (d + 11) 0 0 [.ref (G.1 + 106), .ref (G.1 + 31), .int (bI up)] SF M Q := by
  have s0 := sh106
  have s7 := sh107
  have b0 := bk0 isBk31
  have t0 := sh110
  have isb := isBk31
  have h7 := hl.1.2
  have hrl := restN_lt (ib := b.1) h7
  have hr128 := Nat.lt_of_lt_of_le hrl (pow7 h7)
  have hpc := pc7_le _ hr128
  unfold bstO at hQ
  generalize hr : restN l.1 b.1 = r at *
  obtain ⟨M2, hM2⟩ : ∃ M2, M2 = up2 (up2 M 106 4 (bI up)) 106 5 (nI 0) := ⟨_, rfl⟩
  have k2 : ∀ a, a ≠ 106 → M2 a = M a := fun a ha => by rw [hM2, up2_ne ha, up2_ne ha]
  have hn2 : M2 18 5 = nI l.1 := by rw [k2 18 (by decide)]; exact hL.1
  have hr2 : restM l.1 (M2 31 5) = nI r := by rw [k2 31 (by decide), hB.1, rest_nI h7, hr]
  obtain ⟨M3, hM3⟩ : ∃ M3, M3 = cpE (up2 M2 106 6 (nI (pc7 r))) 110 31 := ⟨_, rfl⟩
  have k3 : ∀ a, a < 106 ∨ 112 < a → M3 a = M a := fun a ha => by rw [hM3, cpE_ne (by omega), up2_ne (by omega), k2 a (by omega)]
  have hE3 : rE M3 110 b := by
    rw [hM3]
    exact rE_cp (by omega) (rE_keep hB (fun a a1 a2 => by rw [up2_ne (by omega), k2 a (by omega)]))
  have e106 : ∀ j, M3 106 j = if j = 6 then nI (pc7 r) else if j = 5 then nI 0 else if j = 4 then bI up else M 106 j := fun j => by
    rw [hM3, cpE_ne (by omega), up2_x, hM2, up2_x, up2_x]
  have GO : ∀ Q' : Option Value → List xSh → xMem → Prop, (∀ M1, orK 0 M3 M1 → ordS M1 ((pmL (pc7 r) (bitsL r)).foldl (stO l b up) none) → okO (pc7 r) ((pmL (pc7 r) (bitsL r)).foldl (stO l b up) none) → Q' none SF M1) → xC G mX3_goOn (d + 10) 0 0 [.ref (G.1 + 106), .int (nI 0)] SF M3 Q' := by
    intro Q' hq
    have h9 := c_X3_goOn (G := G) (d := d + (7 - pc7 r)) (b0 := b) (up := up) hl hb hpc (pc7 r) 0 [] r none M3 Q' (by omega) (rL_keep hL (fun a _ _ => k3 a (by omega))) (by rw [e106, if_pos rfl]) (by rw [e106, if_neg (by decide), if_neg (by decide), if_pos rfl]) rfl (fun k hk => by omega) (fun v hv => by cases hv) hE3 hr rfl ⟨by rw [e106, if_neg (by decide), if_pos rfl]; rfl, fun q hq => by cases hq⟩ (fun q hq => by cases hq) hq
    rw [show d + (7 - pc7 r) + pc7 r + 3 = d + 10 by omega] at h9
    exact h9
  refine xC_intro [some (.ref (G.1 + 106)), some (.ref (G.1 + 31)), some (.int (bI up))] rfl (by decide) (Nat.le_of_ble_eq_true rfl) ?_
  refine xs_aload eX3_seek_0 rfl ?_
  refine xs_iload eX3_seek_1 rfl ?_
  refine xs_putI eX3_seek_2 (by assumption) (by rfl) (bI_nar _) (bI_fit _) ?_
  refine xs_aload eX3_seek_5 rfl ?_
  refine xs_K eX3_seek_6 ?_
  refine xs_putI eX3_seek_7 (by assumption) (by rfl) (bI_nar false) (bI_fit false) ?_
  rw [← hM2]
  refine xs_aload eX3_seek_10 rfl ?_
  refine xs_aload eX3_seek_11 rfl ?_
  refine xs_callV0i eX3_seek_12 (by assumption) (Nat.le_of_ble_eq_true rfl) (c_X0_restSize isb hn2 h7 hr2 hr128 ⟨_, rfl, ?_⟩)
  refine xs_putI eX3_seek_15 (by assumption) (by rfl) rfl rfl ?_
  refine xs_aload eX3_seek_18 rfl ?_
  refine xs_getR eX3_seek_19 (by assumption) (by rfl) ?_
  refine xs_K eX3_seek_22 ?_
  refine xs_aald (r := 110) eX3_seek_23 s7 rfl rfl (Nat.le_of_ble_eq_true rfl) ?_
  refine xs_aload eX3_seek_24 rfl ?_
  refine xs_callV1v eX3_seek_25 (by assumption) (Nat.le_of_ble_eq_true rfl) (c_X0_copyEntries (isBkO 0 (by decide)) isb (by decide) ⟨rfl, ?_⟩)
  rw [← hM3]
  refine xs_aload eX3_seek_28 rfl ?_
  refine xs_K eX3_seek_29 ?_
  refine xs_callV1v eX3_seek_30 (by assumption) (Nat.le_of_ble_eq_true rfl) (GO _ (fun M4 g1 g2 g3 => ⟨rfl, ?_⟩))
  exact xs_vret eX3_seek_33 rfl (hQ M4 (fun a ha => by rw [g1.1 a ha, k3 a (by omega)]) g2 g3)
theorem c_X9_bestOrder {up : Bool} (hR : repC w M) (hok : okX N w) (hQ : ∀ M1, hiK M M1 → repC w M1 → Q (some (.int (spOrd w up y))) SF M1) : xC G mX9_bestOrder (d + 12) 0 0 [.ref (G.1 + 0), .int y, .int (bI up)] SF M Q := by
  have s0 := sh0
  have b0 := bk0 isBk31
  have o0 := sh106
  have o3 := sh109
  have isb := isBk31
  obtain ⟨-, hL, hB, -⟩ := id hR
  have hl := hok.2.1
  have h7 := hl.1.2
  have hn := hL.1
  have hrl := restN_lt (ib := w.2.2.1.1) h7
  have hr128 := Nat.lt_of_lt_of_le hrl (pow7 h7)
  have hpc := pc7_le _ hr128
  have hrM : restM w.2.1.1 (M 31 5) = nI (restN w.2.1.1 w.2.2.1.1) := by rw [hB.1, rest_nI h7]
  unfold spOrd at hQ
  refine xC_intro [some (.ref (G.1 + 0)), some (.int y), some (.int (bI up))] rfl (by decide) (Nat.le_of_ble_eq_true rfl) ?_
  have K12 : wiB y (nI 0) (nI 7) = true → xW G mX9_bestOrder (d + 12) 0 0 Q 12 [some (.ref (G.1 + 0)), some (.int y), some (.int (bI up))] [] SF M := by
    intro q1
    simp only [q1, if_true] at hQ
    obtain ⟨k, -, k2, rfl⟩ := wi_of (by decide) (by decide) q1
    rw [nI_clamp (by omega)] at hQ
    have K26 : k ≤ pc7 (restN w.2.1.1 w.2.2.1.1) → xW G mX9_bestOrder (d + 12) 0 0 Q 26 [some (.ref (G.1 + 0)), some (.int (nI k)), some (.int (bI up))] [] SF M := by
      intro hkm
      rw [if_neg (by omega)] at hQ
      obtain ⟨L, eL, -⟩ := chk_get hr128
      obtain ⟨q, hq⟩ : ∃ q, bstO w.2.1 w.2.2.1 up = some q := by
        unfold bstO
        rw [eL, List.foldl_cons]
        obtain ⟨q1, h1⟩ := stO_some (l := w.2.1) (b := w.2.2.1) (up := up) (o := bitsL (restN w.2.1.1 w.2.2.1.1)) (acc := none)
        rw [h1]
        exact fold_some
      rw [hq] at hQ
      simp only at hQ
      refine xs_aload eX9_bestOrder_26 rfl ?_
      refine xs_getR eX9_bestOrder_27 (by assumption) (by rfl) ?_
      refine xs_aload eX9_bestOrder_30 rfl ?_
      refine xs_getR eX9_bestOrder_31 (by assumption) (by rfl) ?_
      refine xs_iload eX9_bestOrder_34 rfl ?_
      refine xs_callV2v eX9_bestOrder_35 (by assumption) (Nat.le_of_ble_eq_true rfl) (c_X3_seek (b := w.2.2.1) (dy := 121 * N) hl hL hB.e hok.2.2.1 (fun M1 f1 f2 f3 => ⟨rfl, ?_⟩))
      rw [hq] at f2 f3
      have hs := f2.2 q rfl
      have hle := (f3 q rfl).2
      have hq9 := hQ M1 (fun a ha => f1 a (by omega)) (repC_scr hR (fun a _ hs => f1 a (by unfold scr at hs; omega)))
      refine xs_iload eX9_bestOrder_38 rfl ?_
      refine xs_N0_ne eX9_bestOrder_39 (by omega) (fun h39 => ?_) (fun h39 => ?_)
      · refine xs_aload eX9_bestOrder_52 rfl ?_
        refine xs_getR eX9_bestOrder_53 (by assumption) (by rfl) ?_
        refine xs_getR eX9_bestOrder_56 (by assumption) (by rfl) ?_
        refine xs_iload eX9_bestOrder_59 rfl ?_
        refine xs_K eX9_bestOrder_60 ?_
        refine xs_isub eX9_bestOrder_61 ?_
        refine xs_eq1 (pk_sub (by omega)) ?_
        refine xs_iald eX9_bestOrder_62 (by assumption) (by omega) (by decide) ?_
        refine xs_eq1 (hs.2 (k - 1) (by omega)) ?_
        exact xs_iretI eX9_bestOrder_63 rfl (by rw [if_neg h39] at hq9; exact hq9)
      · refine xs_aload eX9_bestOrder_42 rfl ?_
        refine xs_getR eX9_bestOrder_43 (by assumption) (by rfl) ?_
        refine xs_getI eX9_bestOrder_46 (by assumption) (by rfl) ?_
        refine xs_eq1 hs.1 ?_
        refine xs_goto eX9_bestOrder_49 ?_
        exact xs_iretI eX9_bestOrder_63 rfl (by rw [if_pos h39] at hq9; exact hq9)
    refine xs_iload eX9_bestOrder_12 rfl ?_
    refine xs_aload eX9_bestOrder_13 rfl ?_
    refine xs_getR eX9_bestOrder_14 (by assumption) (by rfl) ?_
    refine xs_callV0i eX9_bestOrder_17 (by assumption) (Nat.le_of_ble_eq_true rfl) (c_X0_restSize isb hn h7 hrM hr128 ⟨_, rfl, ?_⟩)
    refine xs_N_le eX9_bestOrder_20 (by omega) (by omega) (fun h20 => ?_) (fun h20 => ?_)
    · exact K26 h20
    · refine xs_K eX9_bestOrder_23 ?_
      exact xs_iretI eX9_bestOrder_25 rfl (by rw [if_pos h20] at hQ; exact hQ M (fun _ _ => rfl) hR)
  refine xs_iload eX9_bestOrder_0 rfl ?_
  refine xs_K eX9_bestOrder_1 ?_
  refine xs_K eX9_bestOrder_2 ?_
  refine xs_callS3i eX9_bestOrder_4 (Nat.le_of_ble_eq_true rfl) (c_X9_isWithin ⟨_, rfl, ?_⟩)
  refine xs_ifneB eX9_bestOrder_7 (fun h7 => ?_) (fun h7 => ?_)
  · exact K12 h7
  · refine xs_K eX9_bestOrder_10 ?_
    exact xs_iretI eX9_bestOrder_11 rfl (by simp only [h7, Bool.false_eq_true, if_false] at hQ; exact hQ M (fun _ _ => rfl) hR)
theorem c_X9_most (hR : repC w M) (hok : okX N w) (hQ : ∀ M1, hiK M M1 → repC w M1 → Q (some (.int (spOrd w true y))) SF M1) : xC G mX9_most (d + 13) 0 0 [.ref (G.1 + 0), .int y] SF M Q := by
  have s0 := sh0
  refine xC_intro [some (.ref (G.1 + 0)), some (.int y)] rfl (by decide) (Nat.le_of_ble_eq_true rfl) ?_
  refine xs_aload eX9_most_0 rfl ?_
  refine xs_iload eX9_most_1 rfl ?_
  refine xs_K eX9_most_2 ?_
  refine xs_callV2i eX9_most_3 (by assumption) (Nat.le_of_ble_eq_true rfl) (c_X9_bestOrder (up := true) hR hok (fun M1 f1 f2 => ⟨_, rfl, ?_⟩))
  exact xs_iretI eX9_most_6 rfl (hQ M1 f1 f2)
theorem c_X9_least (hR : repC w M) (hok : okX N w) (hQ : ∀ M1, hiK M M1 → repC w M1 → Q (some (.int (spOrd w false y))) SF M1) : xC G mX9_least (d + 13) 0 0 [.ref (G.1 + 0), .int y] SF M Q := by
  have s0 := sh0
  refine xC_intro [some (.ref (G.1 + 0)), some (.int y)] rfl (by decide) (Nat.le_of_ble_eq_true rfl) ?_
  refine xs_aload eX9_least_0 rfl ?_
  refine xs_iload eX9_least_1 rfl ?_
  refine xs_K eX9_least_2 ?_
  refine xs_callV2i eX9_least_3 (by assumption) (Nat.le_of_ble_eq_true rfl) (c_X9_bestOrder (up := false) hR hok (fun M1 f1 f2 => ⟨_, rfl, ?_⟩))
  exact xs_iretI eX9_least_6 rfl (hQ M1 f1 f2)
end OF

/-! THE CLASS's FACE, second part: village, far, see, kinds, copies, agree, count -/
theorem wi_out {y : Int32} {h : Nat} (hh : h < 2 ^ 31) (hw : wiB y (nI 0) (nI h) = false) : y.toInt < 0 ∨ (h : Int) < y.toInt := by
  by_cases h1 : y.toInt < 0
  · exact Or.inl h1
  · refine Or.inr ?_
    have e1 : nI 0 ≤ y := Int32.le_iff_toInt_le.mpr (by rw [nI_toInt (by decide)]; omega)
    have e2 : ¬ y ≤ nI h := fun q => by
      rw [wiB, decide_eq_true e1, decide_eq_true q] at hw
      cases hw
    exact Int.not_le.mp (fun q => e2 (Int32.le_iff_toInt_le.mpr (by rw [nI_toInt hh]; exact q)))
theorem ts5 (y : Int32) : (wiB y (nI 0) (nI 5) = false ∧ (y.toInt < 0 ∨ (5 : Int) < y.toInt)) ∨ y = nI 0 ∨ y = nI 1 ∨ y = nI 2 ∨ y = nI 3 ∨ y = nI 4 ∨ y = nI 5 := by
  cases h : wiB y (nI 0) (nI 5) with
  | false => exact Or.inl ⟨rfl, wi_out (h := 5) (by decide) h⟩
  | true =>
    obtain ⟨j, -, hj, rfl⟩ := wi_of (by decide) (by decide) h
    rcases (show j = 0 ∨ j = 1 ∨ j = 2 ∨ j = 3 ∨ j = 4 ∨ j = 5 by omega) with rfl | rfl | rfl | rfl | rfl | rfl <;> simp
theorem ts10 (y : Int32) : (wiB y (nI 0) (nI 10) = false ∧ (y.toInt < 0 ∨ (10 : Int) < y.toInt)) ∨ y = nI 0 ∨ y = nI 1 ∨ y = nI 2 ∨ y = nI 3 ∨ y = nI 4 ∨ y = nI 5 ∨ y = nI 6 ∨ y = nI 7 ∨ y = nI 8 ∨ y = nI 9 ∨ y = nI 10 := by
  cases h : wiB y (nI 0) (nI 10) with
  | false => exact Or.inl ⟨rfl, wi_out (h := 10) (by decide) h⟩
  | true =>
    obtain ⟨j, -, hj, rfl⟩ := wi_of (by decide) (by decide) h
    rcases (show j = 0 ∨ j = 1 ∨ j = 2 ∨ j = 3 ∨ j = 4 ∨ j = 5 ∨ j = 6 ∨ j = 7 ∨ j = 8 ∨ j = 9 ∨ j = 10 by omega) with rfl | rfl | rfl | rfl | rfl | rfl | rfl | rfl | rfl | rfl | rfl <;> simp
theorem rB_bt {M : xMem} {c : Nat} {b : aBk} (h : rB M c b) {v : Nat} (hv : v < 7) : bt (M c 5) v = b.1.testBit v ∧ bt (M c 6) v = b.2.1.testBit v := by
  rw [h.1, h.2.1, bt_nI (by omega), bt_nI (by omega)]
  exact ⟨rfl, rfl⟩
theorem an_low {M : xMem} {c v near : Nat} {b : aBk} (hE : M c 5 = nI b.1) (hn : M 22 v = nI near) (hn2 : near < 128) : M 22 v &&& M c 5 = 0 ∨ lowN (M 22 v &&& M c 5) < 7 := by
  rw [hn, hE, nx_and, lowN_nI]
  have ha : near &&& b.1 < 128 := and_lt (n := 7) hn2
  by_cases h : near &&& b.1 = 0
  · left; rw [h]; rfl
  · right; exact lowA_lt _ ha h
theorem okX_near {N : Nat} {w : aX} (h : okX N w) {v : Nat} (hv : v < 7) : w.2.1.2.2.2.1 v < 128 := Nat.lt_of_lt_of_le (h.2.1.2.2.2.1 v hv) (pow7 h.2.1.1.2)
theorem okX_ib {N : Nat} {w : aX} (h : okX N w) : w.2.2.1.1 < 128 ∧ w.2.2.1.2.1 < 128 := ⟨Nat.lt_of_lt_of_le h.2.2.1.1 (pow7 h.2.1.1.2), Nat.lt_of_lt_of_le h.2.2.1.2.1 (pow7 h.2.1.1.2)⟩
section FC2
variable {G : xGl} {d N : Nat} {w : aX} {M : xMem} {Q : Option Value → List xSh → xMem → Prop} {y y1 y2 : Int32}
theorem c_X9_village (hR : repC w M) (hok : okX N w) (hQ : Q (some (.int (spVill w y1 y2))) SF M) : xC G mX9_village (d + 9) 0 0 [.ref (G.1 + 0), .int y1, .int y2] SF M Q := by
  have s0 := sh0
  have b0 := bk0 isBk31
  have b1 := bk1 isBk31
  have b2 := bk2 isBk31
  have l0 := sh18
  have l1 := sh19
  have l4 := sh22
  have isb := isBk31
  obtain ⟨-, hL, hB, -⟩ := id hR
  have hn := hL.1
  have ho := hok.2.1.1
  unfold spVill at hQ
  dsimp only at hQ
  have K : inN y1 w.2.1.1 = true → xW G mX9_village (d + 9) 0 0 Q 10 [some (.ref (G.1 + 0)), some (.int y1), some (.int y2)] [] SF M := by
    intro q1
    obtain ⟨v, hv, rfl⟩ := inN_of (by omega) q1
    rw [q1, nI_clamp (by omega)] at hQ
    have hv7 : v < 7 := by omega
    have hlv := hL.2.2.2.1 v hv7
    have hbv := hB.2.2.1 v hv7
    have hkd := hok.2.1.2.2.1 v hv7
    have hbb := rB_bt hB hv7
    have hne := okX_near hok hv7
    have hl := an_low (v := v) hB.1 hlv.2 hne
    have hsw := sw_of (kd := w.2.1.2.2.1 v) (hon := w.2.1.2.2.2.2.1) hv7 hB.e hlv.2 hne (fun v hv => okB_ox hok.2.2.1 hv)
    refine xs_iload eX9_village_10 rfl ?_
    rcases ts5 y2 with ⟨hw, hw2⟩ | rfl | rfl | rfl | rfl | rfl | rfl
    · refine xs_tsOut eX9_village_11 hw2 ?_
      refine xs_K eX9_village_162 ?_
      exact xs_iretI eX9_village_163 rfl (by rw [hw] at hQ; exact hQ)
    · refine xs_tsIn eX9_village_11 0 (by decide) (by decide) (by decide) rfl ?_
      refine xs_aload eX9_village_48 rfl ?_
      refine xs_getR eX9_village_49 (by assumption) (by rfl) ?_
      refine xs_getR eX9_village_52 (by assumption) (by rfl) ?_
      refine xs_iload eX9_village_55 rfl ?_
      refine xs_iald eX9_village_56 (by assumption) (by omega) (by decide) ?_
      refine xs_eq1 hlv.1 ?_
      exact xs_iretI eX9_village_57 rfl (hQ)
    · refine xs_tsIn eX9_village_11 1 (by decide) (by decide) (by decide) rfl ?_
      refine xs_aload eX9_village_58 rfl ?_
      refine xs_getR eX9_village_59 (by assumption) (by rfl) ?_
      refine xs_getR eX9_village_62 (by assumption) (by rfl) ?_
      refine xs_iload eX9_village_65 rfl ?_
      refine xs_iald eX9_village_66 (by assumption) (by omega) (by decide) ?_
      refine xs_eq1 hbv.1 ?_
      exact xs_iretI eX9_village_67 rfl (hQ)
    · refine xs_tsIn eX9_village_11 2 (by decide) (by decide) (by decide) rfl ?_
      refine xs_aload eX9_village_68 rfl ?_
      refine xs_getR eX9_village_69 (by assumption) (by rfl) ?_
      refine xs_iload eX9_village_72 rfl ?_
      refine xs_callV1i eX9_village_73 (by assumption) (Nat.le_of_ble_eq_true rfl) (c_X0_holds (by assumption) (by omega) ⟨_, rfl, ?_⟩)
      refine xs_ifeqB eX9_village_76 (fun h76 => ?_) (fun h76 => ?_)
      · refine xs_K eX9_village_91 ?_
        exact xs_iretI eX9_village_93 rfl (by rw [← hbb.1, h76] at hQ; exact hQ)
      · refine xs_aload eX9_village_79 rfl ?_
        refine xs_getR eX9_village_80 (by assumption) (by rfl) ?_
        refine xs_getR eX9_village_83 (by assumption) (by rfl) ?_
        refine xs_iload eX9_village_86 rfl ?_
        refine xs_iald eX9_village_87 (by assumption) (by omega) (by decide) ?_
        refine xs_eq1 hbv.2 ?_
        refine xs_goto eX9_village_88 ?_
        exact xs_iretI eX9_village_93 rfl (by rw [← hbb.1, h76] at hQ; exact hQ)
    · refine xs_tsIn eX9_village_11 3 (by decide) (by decide) (by decide) rfl ?_
      refine xs_aload eX9_village_94 rfl ?_
      refine xs_getR eX9_village_95 (by assumption) (by rfl) ?_
      refine xs_iload eX9_village_98 rfl ?_
      refine xs_callV1i eX9_village_99 (by assumption) (Nat.le_of_ble_eq_true rfl) (c_X0_isChecked (by assumption) (by omega) ⟨_, rfl, ?_⟩)
      refine xs_ifeqB eX9_village_102 (fun h102 => ?_) (fun h102 => ?_)
      · refine xs_K eX9_village_109 ?_
        exact xs_iretI eX9_village_110 rfl (by rw [← hbb.2, h102] at hQ; exact hQ)
      · refine xs_K eX9_village_105 ?_
        refine xs_goto eX9_village_106 ?_
        exact xs_iretI eX9_village_110 rfl (by rw [← hbb.2, h102] at hQ; exact hQ)
    · refine xs_tsIn eX9_village_11 4 (by decide) (by decide) (by decide) rfl ?_
      refine xs_aload eX9_village_111 rfl ?_
      refine xs_getR eX9_village_112 (by assumption) (by rfl) ?_
      refine xs_iload eX9_village_115 rfl ?_
      refine xs_callV1i eX9_village_116 (by assumption) (Nat.le_of_ble_eq_true rfl) (c_X0_holds (by assumption) (by omega) ⟨_, rfl, ?_⟩)
      refine xs_ifeqB eX9_village_119 (fun h119 => ?_) (fun h119 => ?_)
      · refine xs_aload eX9_village_127 rfl ?_
        refine xs_getR eX9_village_128 (by assumption) (by rfl) ?_
        refine xs_iload eX9_village_131 rfl ?_
        refine xs_aload eX9_village_132 rfl ?_
        refine xs_getR eX9_village_133 (by assumption) (by rfl) ?_
        refine xs_getR eX9_village_136 (by assumption) (by rfl) ?_
        refine xs_iload eX9_village_139 rfl ?_
        refine xs_iald eX9_village_140 (by assumption) (by omega) (by decide) ?_
        refine xs_eq1 hlv.1 ?_
        refine xs_aload eX9_village_141 rfl ?_
        refine xs_getR eX9_village_142 (by assumption) (by rfl) ?_
        refine xs_getI eX9_village_145 (by assumption) (by rfl) ?_
        refine xs_eq1 hL.2.2.1 ?_
        refine xs_callV3i eX9_village_148 (by assumption) (Nat.le_of_ble_eq_true rfl) (c_X0_sworn (by assumption) (by omega) (by omega) (by assumption) ⟨_, rfl, ?_⟩)
        refine xs_eq1 hsw ?_
        exact xs_iretI eX9_village_151 rfl (by rw [← hbb.1, h119] at hQ; exact hQ)
      · refine xs_K eX9_village_122 ?_
        refine xs_goto eX9_village_124 ?_
        skip
        exact xs_iretI eX9_village_151 rfl (by rw [← hbb.1, h119] at hQ; exact hQ)
    · refine xs_tsIn eX9_village_11 5 (by decide) (by decide) (by decide) rfl ?_
      refine xs_aload eX9_village_152 rfl ?_
      refine xs_getR eX9_village_153 (by assumption) (by rfl) ?_
      refine xs_getR eX9_village_156 (by assumption) (by rfl) ?_
      refine xs_iload eX9_village_159 rfl ?_
      refine xs_iald eX9_village_160 (by assumption) (by omega) (by decide) ?_
      refine xs_eq1 hlv.2 ?_
      exact xs_iretI eX9_village_161 rfl (hQ)
  refine xC_intro [some (.ref (G.1 + 0)), some (.int y1), some (.int y2)] rfl (by decide) (Nat.le_of_ble_eq_true rfl) ?_
  refine xs_aload eX9_village_0 rfl ?_
  refine xs_iload eX9_village_1 rfl ?_
  refine xs_callV1i eX9_village_2 (by assumption) (Nat.le_of_ble_eq_true rfl) (c_X9_isVillage (by assumption) ⟨_, rfl, ?_⟩)
  refine xs_ifneB eX9_village_5 (fun h5 => ?_) (fun h5 => ?_)
  · exact K h5
  · refine xs_K eX9_village_8 ?_
    exact xs_iretI eX9_village_9 rfl (by rw [h5] at hQ; exact hQ)
theorem c_X9_far (hR : repC w M) (hok : okX N w) (hQ : Q (some (.int (spFar w y1 y2))) SF M) : xC G mX9_far (d + 9) 0 0 [.ref (G.1 + 0), .int y1, .int y2] SF M Q := by
  have s0 := sh0
  have l0 := sh18
  have l5 := sh23
  obtain ⟨-, hL, hB, -⟩ := id hR
  have hn := hL.1
  have ho := hok.2.1.1
  unfold spFar at hQ
  have K : inN y1 w.2.1.1 = true → inN y2 w.2.1.1 = true → xW G mX9_far (d + 9) 0 0 Q 18 [some (.ref (G.1 + 0)), some (.int y1), some (.int y2)] [] SF M := by
    intro q1 q2
    obtain ⟨a, ha, rfl⟩ := inN_of (by omega) q1
    obtain ⟨b, hb, rfl⟩ := inN_of (by omega) q2
    rw [q1, q2, nI_clamp (by omega), nI_clamp (by omega)] at hQ
    have hr := ldr (Or.inr rfl) a (show a < 7 by omega)
    have hD := hL.2.2.2.2 a b (by omega) (by omega)
    have hdb := hok.2.1.2.2.2.2.2 a b ha hb
    have hD2 : M (18 + 6 + a) b = nI (w.2.1.2.2.2.2.2 a b) := hD
    generalize w.2.1.2.2.2.2.2 a b = y at *
    refine xs_aload eX9_far_18 rfl ?_
    refine xs_getR eX9_far_19 (by assumption) (by rfl) ?_
    refine xs_getR eX9_far_22 (by assumption) (by rfl) ?_
    refine xs_iload eX9_far_25 rfl ?_
    refine xs_aald eX9_far_26 l5 rfl (ldI (c := 18) (by omega)) (Nat.le_of_ble_eq_true rfl) ?_
    refine xs_iload eX9_far_27 rfl ?_
    refine xs_iald eX9_far_28 (by assumption) (by omega) (by decide) ?_
    refine xs_eq1 hD2 ?_
    refine xs_K eX9_far_29 ?_
    refine xs_N_ge eX9_far_31 (by omega) (by omega) (fun h31 => ?_) (fun h31 => ?_)
    · refine xs_K eX9_far_48 ?_
      exact xs_iretI eX9_far_50 rfl (by rw [Bool.and_self, if_pos rfl, if_pos (by omega)] at hQ; exact hQ)
    · refine xs_aload eX9_far_34 rfl ?_
      refine xs_getR eX9_far_35 (by assumption) (by rfl) ?_
      refine xs_getR eX9_far_38 (by assumption) (by rfl) ?_
      refine xs_iload eX9_far_41 rfl ?_
      refine xs_aald eX9_far_42 l5 rfl (ldI (c := 18) (by omega)) (Nat.le_of_ble_eq_true rfl) ?_
      refine xs_iload eX9_far_43 rfl ?_
      refine xs_iald eX9_far_44 (by assumption) (by omega) (by decide) ?_
      refine xs_eq1 hD2 ?_
      refine xs_goto eX9_far_45 ?_
      exact xs_iretI eX9_far_50 rfl (by rw [Bool.and_self, if_pos rfl, if_neg (by omega)] at hQ; exact hQ)
  refine xC_intro [some (.ref (G.1 + 0)), some (.int y1), some (.int y2)] rfl (by decide) (Nat.le_of_ble_eq_true rfl) ?_
  refine xs_aload eX9_far_0 rfl ?_
  refine xs_iload eX9_far_1 rfl ?_
  refine xs_callV1i eX9_far_2 (by assumption) (Nat.le_of_ble_eq_true rfl) (c_X9_isVillage (by assumption) ⟨_, rfl, ?_⟩)
  refine xs_ifeqB eX9_far_5 (fun h5 => ?_) (fun h5 => ?_)
  · refine xs_K eX9_far_16 ?_
    exact xs_iretI eX9_far_17 rfl (by rw [h5] at hQ; exact hQ)
  · refine xs_aload eX9_far_8 rfl ?_
    refine xs_iload eX9_far_9 rfl ?_
    refine xs_callV1i eX9_far_10 (by assumption) (Nat.le_of_ble_eq_true rfl) (c_X9_isVillage (by assumption) ⟨_, rfl, ?_⟩)
    refine xs_ifneB eX9_far_13 (fun h13 => ?_) (fun h13 => ?_)
    · exact K h5 h13
    · refine xs_K eX9_far_16 ?_
      exact xs_iretI eX9_far_17 rfl (by rw [h5, h13] at hQ; exact hQ)
theorem c_X9_see (hR : repC w M) (hok : okX N w) (hQ : ∀ M1, hiK M M1 → repC (spSee w y1 y2).2 M1 → Q (some (.int (spSee w y1 y2).1)) SF M1) : xC G mX9_see (d + 9) 0 0 [.ref (G.1 + 0), .int y1, .int y2] SF M Q := by
  have s0 := sh0
  have s1 := sh95
  obtain ⟨h1, hL, h3, h4, h5', h6, h7⟩ := id hR
  have hn := hL.1
  have ho := hok.2.1.1
  have hz := hok.2.2.2.2.2.1
  unfold spSee at hQ
  have K : inN y1 w.2.1.1 = true → wiB y2 (nI 0) (nI 60) = true → xW G mX9_see (d + 9) 0 0 Q 20 [some (.ref (G.1 + 0)), some (.int y1), some (.int y2)] [] SF M := by
    intro q1 q2
    rw [q1, q2, Bool.and_self, if_pos rfl] at hQ
    obtain ⟨a, ha, rfl⟩ := inN_of (by omega) q1
    obtain ⟨b, -, hb, rfl⟩ := wi_of (by decide) (by decide) q2
    rw [nI_clamp (by omega), nI_clamp (by omega)] at hQ
    have hQ1 : ¬ w.2.2.2.2.2.length = 6 → Q (some (.int (nI (w.2.2.2.2.2.length + 1)))) SF (up2 (up2 (up2 M 96 w.2.2.2.2.2.length (nI a)) 97 w.2.2.2.2.2.length (nI b)) 95 2 (nI (w.2.2.2.2.2.length + 1))) := by
      intro hne
      rw [if_neg hne] at hQ
      refine hQ _ (fun x hx => by rw [up2_ne (by omega), up2_ne (by omega), up2_ne (by omega)]) ⟨isTx_keep h1 (by rw [up2_ne (by omega), up2_ne (by omega), up2_ne (by omega)]) (by rw [up2_ne (by omega), up2_ne (by omega), up2_ne (by omega)]), rL_keep hL (fun x _ _ => by rw [up2_ne (by omega), up2_ne (by omega), up2_ne (by omega)]), rB_keep h3 (fun x _ _ => by rw [up2_ne (by omega), up2_ne (by omega), up2_ne (by omega)]), rP_keep h4 (fun x hpa => by rw [up2_ne (by omega), up2_ne (by omega), up2_ne (by omega)]), rP_keep h5' (fun x hpa => by rw [up2_ne (by omega), up2_ne (by omega), up2_ne (by omega)]), by simp [up2], fun i q hi => ?_⟩
      rw [up2_ne (by decide), up2_ne (by decide), up2_row, up2_ne (by decide), up2_row, up2_ne (by decide)]
      simp only [upd]
      by_cases e : i = w.2.2.2.2.2.length
      · subst e
        simp at hi
        subst hi
        simp
      · have hlt : i < w.2.2.2.2.2.length := by
          have := (List.getElem?_eq_some_iff.mp hi).1
          simp at this
          omega
        simp only at hi
        rw [List.getElem?_append_left hlt] at hi
        rw [if_neg e, if_neg e]
        exact h7 i q hi
    refine xs_aload eX9_see_20 rfl ?_
    refine xs_getR eX9_see_21 (by assumption) (by rfl) ?_
    refine xs_callV0i eX9_see_24 (by assumption) (Nat.le_of_ble_eq_true rfl) (c_X8_isFull (by assumption) (by omega) ⟨_, rfl, ?_⟩)
    refine xs_ifeqB eX9_see_27 (fun h27 => ?_) (fun h27 => ?_)
    · refine xs_aload eX9_see_33 rfl ?_
      refine xs_getR eX9_see_34 (by assumption) (by rfl) ?_
      refine xs_iload eX9_see_37 rfl ?_
      refine xs_iload eX9_see_38 rfl ?_
      have hlt : w.2.2.2.2.2.length < 6 := by have := of_decide_eq_false h27; omega
      refine xs_callV2v eX9_see_39 (by assumption) (Nat.le_of_ble_eq_true rfl) (c_X8_add (by assumption) (by omega) ⟨rfl, ?_⟩)
      refine xs_aload eX9_see_42 rfl ?_
      refine xs_getR eX9_see_43 (by assumption) (by rfl) ?_
      refine xs_getI eX9_see_46 (by assumption) (by rfl) ?_
      refine xs_eq1 (z := nI (w.2.2.2.2.2.length + 1)) (by simp [up2]) ?_
      exact xs_iretI eX9_see_49 rfl (hQ1 (of_decide_eq_false h27))
    · refine xs_K eX9_see_30 ?_
      exact xs_iretI eX9_see_32 rfl (by rw [if_pos (of_decide_eq_true h27)] at hQ; exact hQ M (fun _ _ => rfl) hR)
  refine xC_intro [some (.ref (G.1 + 0)), some (.int y1), some (.int y2)] rfl (by decide) (Nat.le_of_ble_eq_true rfl) ?_
  refine xs_aload eX9_see_0 rfl ?_
  refine xs_iload eX9_see_1 rfl ?_
  refine xs_callV1i eX9_see_2 (by assumption) (Nat.le_of_ble_eq_true rfl) (c_X9_isVillage (by assumption) ⟨_, rfl, ?_⟩)
  refine xs_ifeqB eX9_see_5 (fun h5 => ?_) (fun h5 => ?_)
  · refine xs_K eX9_see_18 ?_
    exact xs_iretI eX9_see_19 rfl (by rw [h5] at hQ; exact hQ M (fun _ _ => rfl) hR)
  · refine xs_iload eX9_see_8 rfl ?_
    refine xs_K eX9_see_9 ?_
    refine xs_K eX9_see_10 ?_
    refine xs_callS3i eX9_see_12 (Nat.le_of_ble_eq_true rfl) (c_X9_isWithin ⟨_, rfl, ?_⟩)
    refine xs_ifneB eX9_see_15 (fun h15 => ?_) (fun h15 => ?_)
    · exact K h5 h15
    · refine xs_K eX9_see_18 ?_
      exact xs_iretI eX9_see_19 rfl (by rw [h5, h15] at hQ; exact hQ M (fun _ _ => rfl) hR)
theorem fits_seen {M : xMem} {v y : Nat} (hv : v < 2 ^ 31) (hy : y < 2 ^ 31) : ∀ {L : List (Nat × Nat)} {n : Nat}, n ≤ L.length → (∀ i q, L[i]? = some q → M 96 i = nI q.1 ∧ M 97 i = nI q.2) → (∀ q ∈ L, q.1 < 2 ^ 31 ∧ q.2 < 2 ^ 31) → fitsF (M 96) (M 97) (nI v) (nI y) n = seenF (L.take n) v y
  | L, 0, _, _, _ => by simp [fitsF, seenF]
  | L, n + 1, hn, h1, h2 => by
    have hlt : n < L.length := by omega
    have ih := fits_seen (M := M) hv hy (L := L) (n := n) (by omega) h1 h2
    have he : L[n]? = some L[n] := List.getElem?_eq_getElem hlt
    have g := h1 n _ he
    have g2 := h2 _ (List.getElem_mem hlt)
    rw [fitsF, ih, g.1, g.2, List.take_succ, he]
    simp only [seenF, Option.toList, List.all_append, List.all_cons, List.all_nil, Bool.and_true]
    have e1 : (nI L[n].1 = nI v) = (L[n].1 = v) := propext (nI_eq g2.1 hv)
    have e2 : (nI L[n].2 = nI y) = (L[n].2 = y) := propext (nI_eq g2.2 hy)
    simp only [e1, e2]
theorem sbt_mask : ∀ {p : Nat → Bool} {n : Nat}, n ≤ 7 → maskA p n < 2 ^ n
  | p, 0, _ => Nat.lt_succ_self 0
  | p, n + 1, h => by
    have ih := sbt_mask (p := p) (n := n) (by omega)
    have h2 : 2 ^ n ≤ 2 ^ (n + 1) := Nat.pow_le_pow_right (by decide) (by omega)
    simp only [maskA]
    split
    · exact sbt_lt (n + 1) (by omega) _ (by omega) n (by omega)
    · omega
theorem c_X9_kinds (hR : repC w M) (hok : okX N w) (hQ : Q (some (.int (spKinds w y))) SF M) : xC G mX9_kinds (d + 9) 0 0 [.ref (G.1 + 0), .int y] SF M Q := by
  have s0 := sh0
  have s1 := sh95
  have b0 := bk0 isBk31
  have l0 := sh18
  have isb := isBk31
  obtain ⟨-, hL, hB, -, -, h6, h7⟩ := id hR
  have hn := hL.1
  have ho := hok.2.1.1
  have hz := hok.2.2.2.2.2.1
  unfold spKinds at hQ
  dsimp only at hQ
  have K : inN y w.2.1.1 = true → xW G mX9_kinds (d + 9) 0 0 Q 10 [some (.ref (G.1 + 0)), some (.int y), none, none] [] SF M := by
    intro q1
    obtain ⟨v, hv, rfl⟩ := inN_of (by omega) q1
    rw [q1, if_pos rfl, nI_clamp (by omega)] at hQ
    have hv7 : v < 7 := by omega
    have hlv := hL.2.2.2.1 v hv7
    have hbb := rB_bt hB hv7
    have hne := okX_near hok hv7
    have hl := an_low (v := v) hB.1 hlv.2 hne
    have hsw := fun kd => sw_of (kd := kd) (hon := w.2.1.2.2.2.2.1) hv7 hB.e hlv.2 hne (fun v hv => okB_ox hok.2.2.1 hv)
    have hft : ∀ kd, fitsF (M 96) (M 97) (nI v) (nI (swN w.2.1.2.2.2.1 w.2.1.2.2.2.2.1 w.2.2.1 v kd)) w.2.2.2.2.2.length = seenF w.2.2.2.2.2 v (swN w.2.1.2.2.2.1 w.2.1.2.2.2.2.1 w.2.2.1 v kd) := by
      intro kd
      have h9 := swN_le (hon := w.2.1.2.2.2.2.1) (kd := kd) hok.2.2.1 hv7 hne
      rw [fits_seen (L := w.2.2.2.2.2) (by omega) (by omega) (Nat.le_refl _) h7 (fun q hq => by have := hok.2.2.2.2.2.2 q hq; omega), List.take_length]
    have K2 : w.2.2.1.1.testBit v = false → xW G mX9_kinds (d + 9) 0 0 Q 24 [some (.ref (G.1 + 0)), some (.int (nI v)), none, none] [] SF M := by
      intro q2
      rw [q2] at hQ
      refine xs_K eX9_kinds_24 ?_
      refine xs_istore eX9_kinds_25 (Nat.le_of_ble_eq_true rfl) rfl rfl ?_
      refine xs_K eX9_kinds_26 ?_
      refine xs_istore eX9_kinds_27 (Nat.le_of_ble_eq_true rfl) rfl rfl ?_
      refine dn (P := fun k => xW G mX9_kinds (d + 9) 0 0 Q 28 [some (.ref (G.1 + 0)), some (.int (nI v)), some (.int (nI (maskA (fun k => seenF w.2.2.2.2.2 v (swN w.2.1.2.2.2.1 w.2.1.2.2.2.2.1 w.2.2.1 v k)) k))), some (.int (nI k))] [] SF M) 5 ?_ ?_ 0 (by omega)
      · refine xs_iload eX9_kinds_28 rfl ?_
        refine xs_K eX9_kinds_29 ?_
        refine xs_N_ge eX9_kinds_30 (by omega) (by omega) (fun h30 => ?_) (fun h => absurd h (by omega))
        refine xs_iload eX9_kinds_72 rfl ?_
        exact xs_iretI eX9_kinds_73 rfl (hQ)
      · intro k hk ih
        have hm := sbt_mask (p := fun k => seenF w.2.2.2.2.2 v (swN w.2.1.2.2.2.1 w.2.1.2.2.2.2.1 w.2.2.1 v k)) (n := k) (by omega)
        have hp := pow7 (n := k) (by omega)
        refine xs_iload eX9_kinds_28 rfl ?_
        refine xs_K eX9_kinds_29 ?_
        refine xs_N_ge eX9_kinds_30 (by omega) (by omega) (fun h => absurd h (by omega)) (fun h30 => ?_)
        refine xs_aload eX9_kinds_33 rfl ?_
        refine xs_getR eX9_kinds_34 (by assumption) (by rfl) ?_
        refine xs_iload eX9_kinds_37 rfl ?_
        refine xs_aload eX9_kinds_38 rfl ?_
        refine xs_getR eX9_kinds_39 (by assumption) (by rfl) ?_
        refine xs_iload eX9_kinds_42 rfl ?_
        refine xs_iload eX9_kinds_43 rfl ?_
        refine xs_aload eX9_kinds_44 rfl ?_
        refine xs_getR eX9_kinds_45 (by assumption) (by rfl) ?_
        refine xs_getI eX9_kinds_48 (by assumption) (by rfl) ?_
        refine xs_eq1 hL.2.2.1 ?_
        refine xs_callV3i eX9_kinds_51 (by assumption) (Nat.le_of_ble_eq_true rfl) (c_X0_sworn (by assumption) (by omega) (by omega) (by assumption) ⟨_, rfl, ?_⟩)
        refine xs_eq1 (hsw k) ?_
        refine xs_callV2i eX9_kinds_54 (by assumption) (Nat.le_of_ble_eq_true rfl) (c_X8_fits (by assumption) (by omega) ⟨_, rfl, ?_⟩)
        rw [hft k]
        refine xs_ifeqB eX9_kinds_57 (fun h57 => ?_) (fun h57 => ?_)
        · refine xs_inc1 eX9_kinds_66 rfl rfl rfl ?_
          refine xs_goto eX9_kinds_69 ?_
          simp only [maskA, h57, reduceIte, Bool.false_eq_true] at ih
          exact ih
        · refine xs_iload eX9_kinds_60 rfl ?_
          refine xs_K eX9_kinds_61 ?_
          refine xs_iload eX9_kinds_62 rfl ?_
          refine xs_ishl eX9_kinds_63 ?_
          refine xs_ior eX9_kinds_64 ?_
          refine xs_eq1 (bon_nI _ (by omega) k (by omega)).1 ?_
          refine xs_istore eX9_kinds_65 (Nat.le_of_ble_eq_true rfl) rfl rfl ?_
          refine xs_inc1 eX9_kinds_66 rfl rfl rfl ?_
          refine xs_goto eX9_kinds_69 ?_
          simp only [maskA, h57, reduceIte] at ih
          exact ih
    refine xs_aload eX9_kinds_10 rfl ?_
    refine xs_getR eX9_kinds_11 (by assumption) (by rfl) ?_
    refine xs_iload eX9_kinds_14 rfl ?_
    refine xs_callV1i eX9_kinds_15 (by assumption) (Nat.le_of_ble_eq_true rfl) (c_X0_holds (by assumption) (by omega) ⟨_, rfl, ?_⟩)
    refine xs_ifeqB eX9_kinds_18 (fun h18 => ?_) (fun h18 => ?_)
    · exact K2 (by rw [← hbb.1]; exact h18)
    · refine xs_K eX9_kinds_21 ?_
      exact xs_iretI eX9_kinds_23 rfl (by rw [← hbb.1, h18] at hQ; exact hQ)
  refine xC_intro [some (.ref (G.1 + 0)), some (.int y), none, none] rfl (by decide) (Nat.le_of_ble_eq_true rfl) ?_
  refine xs_aload eX9_kinds_0 rfl ?_
  refine xs_iload eX9_kinds_1 rfl ?_
  refine xs_callV1i eX9_kinds_2 (by assumption) (Nat.le_of_ble_eq_true rfl) (c_X9_isVillage (by assumption) ⟨_, rfl, ?_⟩)
  refine xs_ifneB eX9_kinds_5 (fun h5 => ?_) (fun h5 => ?_)
  · exact K h5
  · refine xs_K eX9_kinds_8 ?_
    exact xs_iretI eX9_kinds_9 rfl (by rw [h5] at hQ; exact hQ)
theorem twin_eq {M : xMem} {c : Nat} {w : aX} {N : Nat} (hL : rL M w.2.1) (hB : rB M c w.2.2.1) (hok : okX N w) {v : Nat} (hv : v < 7) : ∀ n, n ≤ 7 → twinF (M 22 v &&& M c 5) (M (c + 2)) v n = (List.range n).any (fun u => (w.2.1.2.2.2.1 v).testBit u && w.2.2.1.1.testBit u && decide (w.2.2.1.2.2.2.1 u = w.2.2.1.2.2.2.1 v))
  | 0, _ => rfl
  | n + 1, h => by
    have hu := hB.2.2.1 n (by omega)
    have hvv := hB.2.2.1 v hv
    have b1 := hok.2.2.1.2.2.2.1 n (by omega)
    have b2 := hok.2.2.1.2.2.2.1 v hv
    rw [twinF, twin_eq hL hB hok hv n (by omega), List.range_succ, List.any_append]
    simp only [List.any_cons, List.any_nil, Bool.or_false]
    rw [b_and, (hL.2.2.2.1 v hv).2, hB.1, bt_nI (by omega), bt_nI (by omega), hu.2, hvv.2]
    have e1 : (nI (w.2.2.1.2.2.2.1 n) = nI (w.2.2.1.2.2.2.1 v)) = (w.2.2.1.2.2.2.1 n = w.2.2.1.2.2.2.1 v) := propext (nI_eq (by omega) (by omega))
    simp only [e1]
theorem c_X9_copies (hR : repC w M) (hok : okX N w) (hQ : Q (some (.int (spCopies w))) SF M) : xC G mX9_copies (d + 9) 0 0 [.ref (G.1 + 0)] SF M Q := by
  have s0 := sh0
  have b0 := bk0 isBk31
  have l0 := sh18
  have isb := isBk31
  obtain ⟨-, hL, hB, -⟩ := id hR
  have hn := hL.1
  have ho := hok.2.1.1
  unfold spCopies at hQ
  refine xC_intro [some (.ref (G.1 + 0)), none, none] rfl (by decide) (Nat.le_of_ble_eq_true rfl) ?_
  refine xs_K eX9_copies_0 ?_
  refine xs_istore eX9_copies_1 (Nat.le_of_ble_eq_true rfl) rfl rfl ?_
  refine xs_K eX9_copies_2 ?_
  refine xs_istore eX9_copies_3 (Nat.le_of_ble_eq_true rfl) rfl rfl ?_
  refine dn (P := fun k => xW G mX9_copies (d + 9) 0 0 Q 4 [some (.ref (G.1 + 0)), some (.int (nI (maskA (fun v => w.2.2.1.1.testBit v && twinA w.2.1 w.2.2.1 v) k))), some (.int (nI k))] [] SF M) w.2.1.1 ?_ ?_ 0 (Nat.zero_le _)
  · refine xs_iload eX9_copies_4 rfl ?_
    refine xs_aload eX9_copies_5 rfl ?_
    refine xs_getR eX9_copies_6 (by assumption) (by rfl) ?_
    refine xs_getI eX9_copies_9 (by assumption) (by rfl) ?_
    refine xs_eq1 hn ?_
    refine xs_N_ge eX9_copies_12 (by omega) (by omega) (fun h12 => ?_) (fun h => absurd h (by omega))
    refine xs_iload eX9_copies_49 rfl ?_
    exact xs_iretI eX9_copies_50 rfl (hQ)
  · intro k hk ih
    have hm := sbt_mask (p := fun v => w.2.2.1.1.testBit v && twinA w.2.1 w.2.2.1 v) (n := k) (by omega)
    have hp := pow7 (n := k) (by omega)
    have hbb := rB_bt hB (show k < 7 by omega)
    have ht : twinF (M 22 k &&& M 31 5) (M (31 + 2)) k w.2.1.1 = twinA w.2.1 w.2.2.1 k := twin_eq hL hB hok (show k < 7 by omega) _ (by omega)
    simp only [maskA] at ih
    refine xs_iload eX9_copies_4 rfl ?_
    refine xs_aload eX9_copies_5 rfl ?_
    refine xs_getR eX9_copies_6 (by assumption) (by rfl) ?_
    refine xs_getI eX9_copies_9 (by assumption) (by rfl) ?_
    refine xs_eq1 hn ?_
    refine xs_N_ge eX9_copies_12 (by omega) (by omega) (fun h => absurd h (by omega)) (fun h12 => ?_)
    refine xs_aload eX9_copies_15 rfl ?_
    refine xs_getR eX9_copies_16 (by assumption) (by rfl) ?_
    refine xs_iload eX9_copies_19 rfl ?_
    refine xs_callV1i eX9_copies_20 (by assumption) (Nat.le_of_ble_eq_true rfl) (c_X0_holds (by assumption) (by omega) ⟨_, rfl, ?_⟩)
    refine xs_ifeqB eX9_copies_23 (fun h23 => ?_) (fun h23 => ?_)
    · refine xs_inc1 eX9_copies_43 rfl rfl rfl ?_
      refine xs_goto eX9_copies_46 ?_
      have hk1 : (w.2.2.1.1.testBit k && twinA w.2.1 w.2.2.1 k) = false := by rw [← hbb.1, h23]; rfl
      simp only [hk1, Bool.false_eq_true, if_false] at ih
      exact ih
    · refine xs_aload eX9_copies_26 rfl ?_
      refine xs_getR eX9_copies_27 (by assumption) (by rfl) ?_
      refine xs_iload eX9_copies_30 rfl ?_
      refine xs_callV1i eX9_copies_31 (by assumption) (Nat.le_of_ble_eq_true rfl) (c_X0_hasTwin (by assumption) (by omega) (by assumption) (by omega) ⟨_, rfl, ?_⟩)
      refine xs_ifeqB eX9_copies_34 (fun h34 => ?_) (fun h34 => ?_)
      · refine xs_inc1 eX9_copies_43 rfl rfl rfl ?_
        refine xs_goto eX9_copies_46 ?_
        have hk1 : (w.2.2.1.1.testBit k && twinA w.2.1 w.2.2.1 k) = false := by rw [← hbb.1, h23, ← ht, h34]; rfl
        simp only [hk1, Bool.false_eq_true, if_false] at ih
        exact ih
      · refine xs_iload eX9_copies_37 rfl ?_
        refine xs_K eX9_copies_38 ?_
        refine xs_iload eX9_copies_39 rfl ?_
        refine xs_ishl eX9_copies_40 ?_
        refine xs_ior eX9_copies_41 ?_
        refine xs_eq1 (bon_nI _ (by omega) k (by omega)).1 ?_
        refine xs_istore eX9_copies_42 (Nat.le_of_ble_eq_true rfl) rfl rfl ?_
        refine xs_inc1 eX9_copies_43 rfl rfl rfl ?_
        refine xs_goto eX9_copies_46 ?_
        have hk1 : (w.2.2.1.1.testBit k && twinA w.2.1 w.2.2.1 k) = true := by rw [← hbb.1, h23, ← ht, h34]; rfl
        simp only [hk1, if_true] at ih
        exact ih
theorem gain2 {ox wr : Nat → Int32} {a b : Nat} (hab : a ≠ b) (ha : a < 7) (hb : b < 7) : ∀ n, n ≤ 7 → gainF n (nI 1 <<< (nI a &&& 31) ||| nI 1 <<< (nI b &&& 31)) ox wr = (if a < n then ox a - wr a else nI 0) + (if b < n then ox b - wr b else nI 0)
  | 0, _ => by simp [gainF, sumN]; decide
  | n + 1, h => by
    have ih := gain2 (ox := ox) (wr := wr) hab ha hb n (by omega)
    unfold gainF at ih ⊢
    rw [sumN, ih, b_or, bt_pow (by omega) (by omega), bt_pow (by omega) (by omega)]
    by_cases e1 : n = a
    · subst e1
      simp only [decide_true, Bool.true_or, if_true]
      rw [if_neg (c := n < n) (by omega), if_pos (c := n < n + 1) (by omega)]
      by_cases e2 : b < n
      · rw [if_pos e2, if_pos (by omega)]
        simp only [nI_0, Int32.zero_add]
        exact Int32.add_comm _ _
      · rw [if_neg e2, if_neg (by omega)]
        simp only [nI_0, Int32.zero_add, Int32.add_zero]
    · by_cases e2 : n = b
      · subst e2
        simp only [decide_true, Bool.or_true, if_true]
        rw [if_neg (c := n < n) (by omega), if_pos (c := n < n + 1) (by omega)]
        by_cases e3 : a < n
        · rw [if_pos e3, if_pos (by omega)]
          simp only [nI_0, Int32.add_zero]
        · rw [if_neg e3, if_neg (by omega)]
          simp only [nI_0, Int32.zero_add]
      · simp only [e1, e2, decide_false, Bool.or_self, Bool.false_eq_true, if_false]
        have f1 : (a < n) = (a < n + 1) := propext (by omega)
        have f2 : (b < n) = (b < n + 1) := propext (by omega)
        simp only [f1, f2, nI_0, Int32.add_zero]
theorem diff0 {a b c d : Nat} (ha : a < 1000) (hb : b < 1000) (hc : c < 1000) (hd : d < 1000) : (nI a - nI b) + (nI c - nI d) = 0 ↔ b + d = a + c := by
  have e : (nI a - nI b) + (nI c - nI d) = nI (a + c) - nI (b + d) := by
    rw [← nI_add, ← nI_add]
    simp only [Int32.sub_eq_add_neg, Int32.neg_add]
    ac_rfl
  rw [e]
  constructor
  · intro h
    have h2 := pk_sub_toInt (a := a + c) (b := b + d) (by omega) (by omega)
    rw [h] at h2
    have h3 : (0 : Int32).toInt = 0 := by decide
    omega
  · intro h
    rw [h, Int32.sub_self]
theorem c_X9_agree (hR : repC w M) (hok : okX N w) (hQ : Q (some (.int (spAgree w y1 y2))) SF M) : xC G mX9_agree (d + 9) 0 0 [.ref (G.1 + 0), .int y1, .int y2] SF M Q := by
  have s0 := sh0
  have b0 := bk0 isBk31
  have isb := isBk31
  obtain ⟨-, hL, hB, -⟩ := id hR
  have hn := hL.1
  have ho := hok.2.1.1
  have ho7 := ho.2
  unfold spAgree at hQ
  dsimp only at hQ
  have K : inN y1 w.2.1.1 = true → inN y2 w.2.1.1 = true → y1 ≠ y2 → xW G mX9_agree (d + 9) 0 0 Q 23 [some (.ref (G.1 + 0)), some (.int y1), some (.int y2)] [] SF M := by
    intro q1 q2 q3
    rw [q1, q2, decide_eq_false q3] at hQ
    obtain ⟨a, ha, rfl⟩ := inN_of (by omega) q1
    obtain ⟨b, hb, rfl⟩ := inN_of (by omega) q2
    have hab : a ≠ b := fun e => q3 (by rw [e])
    rw [nI_clamp (by omega), nI_clamp (by omega)] at hQ
    have ba := rB_bt hB (show a < 7 by omega)
    have bb := rB_bt hB (show b < 7 by omega)
    have ra := hB.2.2.1 a (by omega)
    have rb := hB.2.2.1 b (by omega)
    have oa := okB_ox hok.2.2.1 (show a < 7 by omega)
    have ob := okB_ox hok.2.2.1 (show b < 7 by omega)
    have wa := hok.2.2.1.2.2.2.1 a (by omega)
    have wb := hok.2.2.1.2.2.2.1 b (by omega)
    have hg := gain2 (ox := M (31 + 1)) (wr := M (31 + 2)) hab (by omega) (by omega) w.2.1.1 ho7
    rw [if_pos ha, if_pos hb, ra.1, ra.2, rb.1, rb.2] at hg
    have hd := diff0 (a := w.2.2.1.2.2.1 a) (b := w.2.2.1.2.2.2.1 a) (c := w.2.2.1.2.2.1 b) (d := w.2.2.1.2.2.2.1 b) (by omega) (by omega) (by omega) (by omega)
    refine xs_aload eX9_agree_23 rfl ?_
    refine xs_getR eX9_agree_24 (by assumption) (by rfl) ?_
    refine xs_iload eX9_agree_27 rfl ?_
    refine xs_callV1i eX9_agree_28 (by assumption) (Nat.le_of_ble_eq_true rfl) (c_X0_holds (by assumption) (by omega) ⟨_, rfl, ?_⟩)
    refine xs_ifeqB eX9_agree_31 (fun h31 => ?_) (fun h31 => ?_)
    · refine xs_K eX9_agree_45 ?_
      exact xs_iretI eX9_agree_47 rfl (by rw [← ba.1, h31] at hQ; exact hQ)
    · refine xs_aload eX9_agree_34 rfl ?_
      refine xs_getR eX9_agree_35 (by assumption) (by rfl) ?_
      refine xs_iload eX9_agree_38 rfl ?_
      refine xs_callV1i eX9_agree_39 (by assumption) (Nat.le_of_ble_eq_true rfl) (c_X0_holds (by assumption) (by omega) ⟨_, rfl, ?_⟩)
      refine xs_ifneB eX9_agree_42 (fun h42 => ?_) (fun h42 => ?_)
      · refine xs_aload eX9_agree_48 rfl ?_
        refine xs_getR eX9_agree_49 (by assumption) (by rfl) ?_
        refine xs_K eX9_agree_52 ?_
        refine xs_iload eX9_agree_53 rfl ?_
        refine xs_ishl eX9_agree_54 ?_
        refine xs_K eX9_agree_55 ?_
        refine xs_iload eX9_agree_56 rfl ?_
        refine xs_ishl eX9_agree_57 ?_
        refine xs_ior eX9_agree_58 ?_
        refine xs_callV1i eX9_agree_59 (by assumption) (Nat.le_of_ble_eq_true rfl) (c_X0_gainOf (by assumption) (by assumption) (by omega) ⟨_, rfl, ?_⟩)
        refine xs_eq1 hg ?_
        refine xs_if_ne eX9_agree_62 (fun h62 => ?_) (fun h62 => ?_)
        · refine xs_K eX9_agree_69 ?_
          exact xs_iretI eX9_agree_70 rfl (by rw [← ba.1, h31, ← bb.1, h42] at hQ; simp only [Bool.not_false, Bool.and_self, if_true] at hQ; rw [decide_eq_false (fun e => h62 (hd.mpr e))] at hQ; exact hQ)
        · refine xs_K eX9_agree_65 ?_
          refine xs_goto eX9_agree_66 ?_
          exact xs_iretI eX9_agree_70 rfl (by rw [← ba.1, h31, ← bb.1, h42] at hQ; simp only [Bool.not_false, Bool.and_self, if_true] at hQ; rw [decide_eq_true (hd.mp h62)] at hQ; exact hQ)
      · refine xs_K eX9_agree_45 ?_
        exact xs_iretI eX9_agree_47 rfl (by rw [← ba.1, h31, ← bb.1, h42] at hQ; exact hQ)
  refine xC_intro [some (.ref (G.1 + 0)), some (.int y1), some (.int y2)] rfl (by decide) (Nat.le_of_ble_eq_true rfl) ?_
  refine xs_aload eX9_agree_0 rfl ?_
  refine xs_iload eX9_agree_1 rfl ?_
  refine xs_callV1i eX9_agree_2 (by assumption) (Nat.le_of_ble_eq_true rfl) (c_X9_isVillage (by assumption) ⟨_, rfl, ?_⟩)
  refine xs_ifeqB eX9_agree_5 (fun h5 => ?_) (fun h5 => ?_)
  · refine xs_K eX9_agree_21 ?_
    exact xs_iretI eX9_agree_22 rfl (by rw [h5] at hQ; exact hQ)
  · refine xs_aload eX9_agree_8 rfl ?_
    refine xs_iload eX9_agree_9 rfl ?_
    refine xs_callV1i eX9_agree_10 (by assumption) (Nat.le_of_ble_eq_true rfl) (c_X9_isVillage (by assumption) ⟨_, rfl, ?_⟩)
    refine xs_ifeqB eX9_agree_13 (fun h13 => ?_) (fun h13 => ?_)
    · refine xs_K eX9_agree_21 ?_
      exact xs_iretI eX9_agree_22 rfl (by rw [h5, h13] at hQ; exact hQ)
    · refine xs_iload eX9_agree_16 rfl ?_
      refine xs_iload eX9_agree_17 rfl ?_
      refine xs_icmp_ne eX9_agree_18 (fun h18 => ?_) (fun h18 => ?_)
      · exact K h5 h13 h18
      · refine xs_K eX9_agree_21 ?_
        exact xs_iretI eX9_agree_22 rfl (by rw [decide_eq_true h18, Bool.not_true, Bool.and_false] at hQ; exact hQ)
end FC2

/-! THE REFERENCE, sixth part: village, party, far, agree, kinds, copies -/
section R6
variable {G : xGl} {d N base dy : Nat} {w : aX} {l : aLd} {b : aBk} {M : xMem} {S : List xSh} {Q : Option Value → List xSh → xMem → Prop} {y y1 y2 : Int32}
theorem xs_eqL {m : xM} {k n pc : Nat} {st : List Value} {L L1 : List (Option Value)} (h : L = L1) (kk : xW G m d k n Q pc L1 st S M) : xW G m d k n Q pc L st S M := h ▸ kk
theorem nI_e {j k : Nat} (hj : j < 2 ^ 31) (hk : k < 2 ^ 31) : (nI j = nI k) = (j = k) := propext (nI_eq hj hk)
theorem c_X10_village (hR : repM w M) (hok : okX N w) (hQ : Q (some (.int (spVill w y1 y2))) SF M) : xC G mX10_village (d + 9) 0 0 [.ref (G.1 + 156), .int y1, .int y2] SF M Q := by
  have s0 := sh156
  have s1 := sh157
  have s2 := sh162
  obtain ⟨-, hL, hS, -⟩ := id hR
  have hn := hL.1
  have hl := hok.2.1
  have hB := hok.2.2.1
  have ho := hl.1
  unfold spVill at hQ
  dsimp only at hQ
  refine xC_intro [some (.ref (G.1 + 156)), some (.int y1), some (.int y2)] rfl (by decide) (Nat.le_of_ble_eq_true rfl) ?_
  have K : inN y1 w.2.1.1 = true → wiB y2 (nI 0) (nI 5) = true → xW G mX10_village (d + 9) 0 0 Q 22 [some (.ref (G.1 + 156)), some (.int y1), some (.int y2)] [] SF M := by
    intro q1 q2
    obtain ⟨v, hv, rfl⟩ := inN_of (by omega) q1
    obtain ⟨j, -, hj, rfl⟩ := wi_of (by decide) (by decide) q2
    rw [q1, q2, nI_clamp (by omega)] at hQ
    simp only [Bool.and_self, if_true, nI_e (show j < 2 ^ 31 by omega) (show 0 < 2 ^ 31 by decide), nI_e (show j < 2 ^ 31 by omega) (show 1 < 2 ^ 31 by decide), nI_e (show j < 2 ^ 31 by omega) (show 2 < 2 ^ 31 by decide), nI_e (show j < 2 ^ 31 by omega) (show 3 < 2 ^ 31 by decide), nI_e (show j < 2 ^ 31 by omega) (show 4 < 2 ^ 31 by decide)] at hQ
    have hv7 : v < 7 := by omega
    have hk := hL.2.2.1 v hv
    have hk5 := hl.2.2.1 v hv7
    have ha : M 162 v = nI (w.2.2.1.2.2.1 v) := by have := (hS.2.2.1 v hv7).1; rw [show 0 + v = v by omega] at this; exact this
    have hw : M 162 (7 + v) = nI (w.2.2.1.2.2.2.1 v) := by have := (hS.2.2.1 v hv7).2; rw [show 0 + 7 + v = 7 + v by omega] at this; exact this
    have hbt : bt (M 162 15) v = w.2.2.1.2.1.testBit v := (rS_bt hS (v := v) (by omega)).2
    refine xs_iload eX10_village_22 rfl ?_
    refine xs_N0_ne eX10_village_23 (by omega) (fun h23 => ?_) (fun h23 => ?_)
    · refine xs_iload eX10_village_35 rfl ?_
      refine xs_K eX10_village_36 ?_
      refine xs_N_ne eX10_village_37 (by omega) (by omega) (fun h37 => ?_) (fun h37 => ?_)
      · refine xs_iload eX10_village_49 rfl ?_
        refine xs_K eX10_village_50 ?_
        refine xs_N_ne eX10_village_51 (by omega) (by omega) (fun h51 => ?_) (fun h51 => ?_)
        · refine xs_iload eX10_village_79 rfl ?_
          refine xs_K eX10_village_80 ?_
          refine xs_N_ne eX10_village_81 (by omega) (by omega) (fun h81 => ?_) (fun h81 => ?_)
          · refine xs_iload eX10_village_98 rfl ?_
            refine xs_K eX10_village_99 ?_
            refine xs_N_ne eX10_village_100 (by omega) (by omega) (fun h100 => ?_) (fun h100 => ?_)
            · refine xs_aload eX10_village_131 rfl ?_
              refine xs_iload eX10_village_132 rfl ?_
              refine xs_callV1i eX10_village_133 (by assumption) (Nat.le_of_ble_eq_true rfl) (c_X10_besides hL hl hv ⟨_, rfl, ?_⟩)
              exact xs_iretI eX10_village_136 rfl (Qev hQ (by simp [h23, h37, h51, h81, h100]))
            · refine xs_aload eX10_village_103 rfl ?_
              refine xs_iload eX10_village_104 rfl ?_
              refine xs_callV1i eX10_village_105 (by assumption) (Nat.le_of_ble_eq_true rfl) (c_X10_isIn hS (by omega) ⟨_, rfl, ?_⟩)
              refine xs_ifeqB eX10_village_108 (fun h108 => ?_) (fun h108 => ?_)
              · refine xs_aload eX10_village_116 rfl ?_
                refine xs_K eX10_village_117 ?_
                refine xs_iload eX10_village_118 rfl ?_
                refine xs_aload eX10_village_119 rfl ?_
                refine xs_getR eX10_village_120 (by assumption) (by rfl) ?_
                refine xs_iload eX10_village_123 rfl ?_
                refine xs_iald eX10_village_124 (by assumption) (by omega) (by decide) ?_
                refine xs_eq1 hk ?_
                refine xs_callV3i eX10_village_125 (by assumption) (Nat.le_of_ble_eq_true rfl) (c_X10_sworn (b := w.2.2.1) (dy := 121 * N) hL hl hS hB (by omega) hv hk5 ⟨_, rfl, ?_⟩)
                refine xs_goto eX10_village_128 ?_
                exact xs_iretI eX10_village_136 rfl (Qev hQ (by simp [h23, h37, h51, h81, h100, h108]))
              · refine xs_K eX10_village_111 ?_
                refine xs_goto eX10_village_113 ?_
                exact xs_iretI eX10_village_136 rfl (Qev hQ (by simp [h23, h37, h51, h81, h100, h108]))
          · refine xs_aload eX10_village_84 rfl ?_
            refine xs_getR eX10_village_85 (by assumption) (by rfl) ?_
            refine xs_K eX10_village_88 ?_
            refine xs_iald eX10_village_90 (by assumption) (by omega) (by decide) ?_
            refine xs_iload eX10_village_91 rfl ?_
            refine xs_ishr eX10_village_92 ?_
            refine xs_K eX10_village_93 ?_
            refine xs_iand eX10_village_94 ?_
            refine xs_eq1 ((bt_ask _ (by omega)).trans (by rw [hbt])) ?_
            refine xs_goto eX10_village_95 ?_
            exact xs_iretI eX10_village_136 rfl (Qev hQ (by simp [h23, h37, h51, h81]))
        · refine xs_aload eX10_village_54 rfl ?_
          refine xs_iload eX10_village_55 rfl ?_
          refine xs_callV1i eX10_village_56 (by assumption) (Nat.le_of_ble_eq_true rfl) (c_X10_isIn hS (by omega) ⟨_, rfl, ?_⟩)
          refine xs_ifeqB eX10_village_59 (fun h59 => ?_) (fun h59 => ?_)
          · refine xs_K eX10_village_74 ?_
            refine xs_goto eX10_village_76 ?_
            exact xs_iretI eX10_village_136 rfl (Qev hQ (by simp [h23, h37, h51, h59]))
          · refine xs_aload eX10_village_62 rfl ?_
            refine xs_getR eX10_village_63 (by assumption) (by rfl) ?_
            refine xs_K eX10_village_66 ?_
            refine xs_iload eX10_village_68 rfl ?_
            refine xs_iadd eX10_village_69 ?_
            refine xs_eq1 (nI_add 7 v) ?_
            refine xs_iald eX10_village_70 (by assumption) (by omega) (by decide) ?_
            refine xs_eq1 hw ?_
            refine xs_goto eX10_village_71 ?_
            exact xs_iretI eX10_village_136 rfl (Qev hQ (by simp [h23, h37, h51, h59]))
      · refine xs_aload eX10_village_40 rfl ?_
        refine xs_getR eX10_village_41 (by assumption) (by rfl) ?_
        refine xs_iload eX10_village_44 rfl ?_
        refine xs_iald eX10_village_45 (by assumption) (by omega) (by decide) ?_
        refine xs_eq1 ha ?_
        refine xs_goto eX10_village_46 ?_
        exact xs_iretI eX10_village_136 rfl (Qev hQ (by simp [h23, h37]))
    · refine xs_aload eX10_village_26 rfl ?_
      refine xs_getR eX10_village_27 (by assumption) (by rfl) ?_
      refine xs_iload eX10_village_30 rfl ?_
      refine xs_iald eX10_village_31 (by assumption) (by omega) (by decide) ?_
      refine xs_eq1 hk ?_
      refine xs_goto eX10_village_32 ?_
      exact xs_iretI eX10_village_136 rfl (Qev hQ (by simp [h23]))
  have K2 : ¬ (inN y1 w.2.1.1 && wiB y2 (nI 0) (nI 5)) = true → Q (some (.int (-1))) SF M := fun h => by
    rw [if_neg h] at hQ
    exact hQ
  refine xs_aload eX10_village_0 rfl ?_
  refine xs_iload eX10_village_1 rfl ?_
  refine xs_callV1i eX10_village_2 (by assumption) (Nat.le_of_ble_eq_true rfl) (c_X10_isVillage (by assumption) ⟨_, rfl, ?_⟩)
  refine xs_ifeqB eX10_village_5 (fun h5 => ?_) (fun h5 => ?_)
  · refine xs_K eX10_village_20 ?_
    exact xs_iretI eX10_village_21 rfl (K2 (by simp [h5]))
  · refine xs_iload eX10_village_8 rfl ?_
    refine xs_i2l eX10_village_9 ?_
    refine xs_KL eX10_village_10 ?_
    refine xs_KL eX10_village_11 ?_
    refine xs_callS3i eX10_village_14 (Nat.le_of_ble_eq_true rfl) (c_X10_in (lo := nI 0) (hi := nI 5) rfl (by decide) (by decide) ⟨_, rfl, ?_⟩)
    refine xs_ifneB eX10_village_17 (fun h17 => ?_) (fun h17 => ?_)
    · exact K h5 h17
    · refine xs_K eX10_village_20 ?_
      exact xs_iretI eX10_village_21 rfl (K2 (by simp [h17]))
theorem c_X10_party (hR : repM w M) (hok : okX N w) (hQ : Q (some (.int (spPart w y1 y2))) SF M) : xC G mX10_party (d + 9) 0 0 [.ref (G.1 + 156), .int y1, .int y2] SF M Q := by
  have s0 := sh156
  have s2 := sh162
  obtain ⟨-, hL, hS, -⟩ := id hR
  have hnp := hL.2.1
  have hop := hok.2.1.2.1
  unfold spPart at hQ
  refine xC_intro [some (.ref (G.1 + 156)), some (.int y1), some (.int y2)] rfl (by decide) (Nat.le_of_ble_eq_true rfl) ?_
  have K : inN y1 w.2.1.2.1 = true → wiB y2 (nI 0) (nI 1) = true → xW G mX10_party (d + 9) 0 0 Q 28 [some (.ref (G.1 + 156)), some (.int y1), some (.int y2)] [] SF M := by
    intro q1 q2
    obtain ⟨p, hp, rfl⟩ := inN_of (by omega) q1
    obtain ⟨j, -, hj, rfl⟩ := wi_of (by decide) (by decide) q2
    rw [q1, q2, nI_clamp (by omega)] at hQ
    simp only [Bool.and_self, if_true, nI_e (show j < 2 ^ 31 by omega) (show 0 < 2 ^ 31 by decide)] at hQ
    have ha : M 162 (16 + p) = nI (w.2.2.1.2.2.2.2.1 p) := by have := (hS.2.2.2 p (by omega)).1; rw [show 0 + 16 + p = 16 + p by omega] at this; exact this
    have hw : M 162 (19 + p) = nI (w.2.2.1.2.2.2.2.2 p) := by have := (hS.2.2.2 p (by omega)).2; rw [show 0 + 19 + p = 19 + p by omega] at this; exact this
    refine xs_iload eX10_party_28 rfl ?_
    refine xs_N0_ne eX10_party_29 (by omega) (fun h29 => ?_) (fun h29 => ?_)
    · refine xs_aload eX10_party_44 rfl ?_
      refine xs_getR eX10_party_45 (by assumption) (by rfl) ?_
      refine xs_K eX10_party_48 ?_
      refine xs_iload eX10_party_50 rfl ?_
      refine xs_iadd eX10_party_51 ?_
      refine xs_eq1 (nI_add 19 p) ?_
      refine xs_iald eX10_party_52 (by assumption) (by omega) (by decide) ?_
      refine xs_eq1 hw ?_
      exact xs_iretI eX10_party_53 rfl (Qev hQ (by simp [h29]))
    · refine xs_aload eX10_party_32 rfl ?_
      refine xs_getR eX10_party_33 (by assumption) (by rfl) ?_
      refine xs_K eX10_party_36 ?_
      refine xs_iload eX10_party_38 rfl ?_
      refine xs_iadd eX10_party_39 ?_
      refine xs_eq1 (nI_add 16 p) ?_
      refine xs_iald eX10_party_40 (by assumption) (by omega) (by decide) ?_
      refine xs_eq1 ha ?_
      refine xs_goto eX10_party_41 ?_
      exact xs_iretI eX10_party_53 rfl (Qev hQ (by simp [h29]))
  have K2 : ¬ (inN y1 w.2.1.2.1 && wiB y2 (nI 0) (nI 1)) = true → Q (some (.int (-1))) SF M := fun h => by
    rw [if_neg h] at hQ
    exact hQ
  refine xs_iload eX10_party_0 rfl ?_
  refine xs_i2l eX10_party_1 ?_
  refine xs_KL eX10_party_2 ?_
  refine xs_aload eX10_party_3 rfl ?_
  refine xs_getI eX10_party_4 (by assumption) (by rfl) ?_
  refine xs_eq1 hnp ?_
  refine xs_K eX10_party_7 ?_
  refine xs_isub eX10_party_8 ?_
  refine xs_i2l eX10_party_9 ?_
  refine xs_callS3i eX10_party_10 (Nat.le_of_ble_eq_true rfl) (c_X10_in (lo := nI 0) (hi := nI w.2.1.2.1 - nI 1) rfl (by decide) rfl ⟨_, rfl, ?_⟩)
  refine xs_ifeqB eX10_party_13 (fun h13 => ?_) (fun h13 => ?_)
  · have h13 : inN y1 w.2.1.2.1 = false := h13
    refine xs_K eX10_party_26 ?_
    exact xs_iretI eX10_party_27 rfl (K2 (by simp [h13]))
  · have h13 : inN y1 w.2.1.2.1 = true := h13
    refine xs_iload eX10_party_16 rfl ?_
    refine xs_i2l eX10_party_17 ?_
    refine xs_KL eX10_party_18 ?_
    refine xs_KL eX10_party_19 ?_
    refine xs_callS3i eX10_party_20 (Nat.le_of_ble_eq_true rfl) (c_X10_in (lo := nI 0) (hi := nI 1) rfl (by decide) (by decide) ⟨_, rfl, ?_⟩)
    refine xs_ifneB eX10_party_23 (fun h23 => ?_) (fun h23 => ?_)
    · exact K h13 h23
    · refine xs_K eX10_party_26 ?_
      exact xs_iretI eX10_party_27 rfl (K2 (by simp [h23]))
theorem c_X10_far (hR : repM w M) (hok : okX N w) (hQ : Q (some (.int (spFar w y1 y2))) SF M) : xC G mX10_far (d + 9) 0 0 [.ref (G.1 + 156), .int y1, .int y2] SF M Q := by
  have s0 := sh156
  have s2 := sh159
  obtain ⟨-, hL, hS, -⟩ := id hR
  have hn := hL.1
  have hl := hok.2.1
  have ho := hl.1
  unfold spFar at hQ
  refine xC_intro [some (.ref (G.1 + 156)), some (.int y1), some (.int y2)] rfl (by decide) (Nat.le_of_ble_eq_true rfl) ?_
  have K : inN y1 w.2.1.1 = true → inN y2 w.2.1.1 = true → xW G mX10_far (d + 9) 0 0 Q 20 [some (.ref (G.1 + 156)), some (.int y1), some (.int y2)] [] SF M := by
    intro q1 q2
    obtain ⟨a, ha, rfl⟩ := inN_of (by omega) q1
    obtain ⟨c, hc, rfl⟩ := inN_of (by omega) q2
    rw [q1, q2, nI_clamp (by omega), nI_clamp (by omega)] at hQ
    simp only [Bool.and_self, if_true] at hQ
    have hf := hL.2.2.2.2 a c ha hc
    have hfl := hl.2.2.2.2.2 a c ha hc
    have hfo : fo (w.2.1.2.2.2.2.2 a c) < 10000 := by unfold fo; split <;> omega
    have hfe : fo (w.2.1.2.2.2.2.2 a c) < 9999 ↔ w.2.1.2.2.2.2.2 a c ≠ 1000000 := by unfold fo; split <;> omega
    refine xs_aload eX10_far_20 rfl ?_
    refine xs_getR eX10_far_21 (by assumption) (by rfl) ?_
    refine xs_K eX10_far_24 ?_
    refine xs_iload eX10_far_26 rfl ?_
    refine xs_imul eX10_far_27 ?_
    refine xs_eq1 (pk_mul 7 a) ?_
    refine xs_iload eX10_far_28 rfl ?_
    refine xs_iadd eX10_far_29 ?_
    refine xs_eq1 (nI_add _ c) ?_
    refine xs_iald eX10_far_30 (by assumption) (by omega) (by decide) ?_
    refine xs_eq1 hf ?_
    refine xs_K eX10_far_31 ?_
    refine xs_N_ge eX10_far_34 (by omega) (by omega) (fun h34 => ?_) (fun h34 => ?_)
    · refine xs_K eX10_far_51 ?_
      exact xs_iretI eX10_far_53 rfl (Qev hQ (by rw [if_pos (by omega)]))
    · refine xs_aload eX10_far_37 rfl ?_
      refine xs_getR eX10_far_38 (by assumption) (by rfl) ?_
      refine xs_K eX10_far_41 ?_
      refine xs_iload eX10_far_43 rfl ?_
      refine xs_imul eX10_far_44 ?_
      refine xs_eq1 (pk_mul 7 a) ?_
      refine xs_iload eX10_far_45 rfl ?_
      refine xs_iadd eX10_far_46 ?_
      refine xs_eq1 (nI_add _ c) ?_
      refine xs_iald eX10_far_47 (by assumption) (by omega) (by decide) ?_
      refine xs_eq1 hf ?_
      refine xs_goto eX10_far_48 ?_
      exact xs_iretI eX10_far_53 rfl (Qev hQ (by rw [if_neg (by omega), fo, if_neg (by omega)]))
  have K2 : ¬ (inN y1 w.2.1.1 && inN y2 w.2.1.1) = true → Q (some (.int (-1))) SF M := fun h => by
    rw [if_neg h] at hQ
    exact hQ
  refine xs_aload eX10_far_0 rfl ?_
  refine xs_iload eX10_far_1 rfl ?_
  refine xs_callV1i eX10_far_2 (by assumption) (Nat.le_of_ble_eq_true rfl) (c_X10_isVillage (by assumption) ⟨_, rfl, ?_⟩)
  refine xs_ifeqB eX10_far_5 (fun h5 => ?_) (fun h5 => ?_)
  · refine xs_K eX10_far_16 ?_
    refine xs_goto eX10_far_17 ?_
    exact xs_iretI eX10_far_53 rfl (K2 (by simp [h5]))
  · refine xs_aload eX10_far_8 rfl ?_
    refine xs_iload eX10_far_9 rfl ?_
    refine xs_callV1i eX10_far_10 (by assumption) (Nat.le_of_ble_eq_true rfl) (c_X10_isVillage (by assumption) ⟨_, rfl, ?_⟩)
    refine xs_ifneB eX10_far_13 (fun h13 => ?_) (fun h13 => ?_)
    · exact K h5 h13
    · refine xs_K eX10_far_16 ?_
      refine xs_goto eX10_far_17 ?_
      exact xs_iretI eX10_far_53 rfl (K2 (by simp [h13]))
theorem c_X10_agree (hR : repM w M) (hok : okX N w) (hQ : Q (some (.int (spAgree w y1 y2))) SF M) : xC G mX10_agree (d + 9) 0 0 [.ref (G.1 + 156), .int y1, .int y2] SF M Q := by
  have s0 := sh156
  have s2 := sh162
  obtain ⟨-, hL, hS, -⟩ := id hR
  have hn := hL.1
  have hl := hok.2.1
  have hB := hok.2.2.1
  have ho := hl.1
  unfold spAgree at hQ
  dsimp only at hQ
  refine xC_intro [some (.ref (G.1 + 156)), some (.int y1), some (.int y2)] rfl (by decide) (Nat.le_of_ble_eq_true rfl) ?_
  have K : inN y1 w.2.1.1 = true → inN y2 w.2.1.1 = true → y1 ≠ y2 → xW G mX10_agree (d + 9) 0 0 Q 23 [some (.ref (G.1 + 156)), some (.int y1), some (.int y2)] [] SF M := by
    intro q1 q2 q3
    rw [q1, q2, decide_eq_false q3] at hQ
    simp only [Bool.and_self, Bool.not_false, if_true] at hQ
    obtain ⟨a, ha, rfl⟩ := inN_of (by omega) q1
    obtain ⟨c, hc, rfl⟩ := inN_of (by omega) q2
    rw [nI_clamp (by omega), nI_clamp (by omega)] at hQ
    have ha7 : a < 7 := by omega
    have hc7 : c < 7 := by omega
    have a1 : M 162 a = nI (w.2.2.1.2.2.1 a) := by have := (hS.2.2.1 a ha7).1; rw [show 0 + a = a by omega] at this; exact this
    have a2 : M 162 (7 + a) = nI (w.2.2.1.2.2.2.1 a) := by have := (hS.2.2.1 a ha7).2; rw [show 0 + 7 + a = 7 + a by omega] at this; exact this
    have c1 : M 162 c = nI (w.2.2.1.2.2.1 c) := by have := (hS.2.2.1 c hc7).1; rw [show 0 + c = c by omega] at this; exact this
    have c2 : M 162 (7 + c) = nI (w.2.2.1.2.2.2.1 c) := by have := (hS.2.2.1 c hc7).2; rw [show 0 + 7 + c = 7 + c by omega] at this; exact this
    have l1 := okB_ox hB ha7
    have l2 := okB_ox hB hc7
    have l3 := hB.2.2.2.1 a ha7
    have l4 := hB.2.2.2.1 c hc7
    refine xs_aload eX10_agree_23 rfl ?_
    refine xs_iload eX10_agree_24 rfl ?_
    refine xs_callV1i eX10_agree_25 (by assumption) (Nat.le_of_ble_eq_true rfl) (c_X10_isIn hS (by omega) ⟨_, rfl, ?_⟩)
    refine xs_ifeqB eX10_agree_28 (fun h28 => ?_) (fun h28 => ?_)
    · refine xs_K eX10_agree_39 ?_
      exact xs_iretI eX10_agree_41 rfl (by rw [h28] at hQ; exact hQ)
    · refine xs_aload eX10_agree_31 rfl ?_
      refine xs_iload eX10_agree_32 rfl ?_
      refine xs_callV1i eX10_agree_33 (by assumption) (Nat.le_of_ble_eq_true rfl) (c_X10_isIn hS (by omega) ⟨_, rfl, ?_⟩)
      refine xs_ifneB eX10_agree_36 (fun h36 => ?_) (fun h36 => ?_)
      · refine xs_aload eX10_agree_42 rfl ?_
        refine xs_getR eX10_agree_43 (by assumption) (by rfl) ?_
        refine xs_K eX10_agree_46 ?_
        refine xs_iload eX10_agree_48 rfl ?_
        refine xs_iadd eX10_agree_49 ?_
        refine xs_eq1 (nI_add 7 a) ?_
        refine xs_iald eX10_agree_50 (by assumption) (by omega) (by decide) ?_
        refine xs_eq1 a2 ?_
        refine xs_aload eX10_agree_51 rfl ?_
        refine xs_getR eX10_agree_52 (by assumption) (by rfl) ?_
        refine xs_K eX10_agree_55 ?_
        refine xs_iload eX10_agree_57 rfl ?_
        refine xs_iadd eX10_agree_58 ?_
        refine xs_eq1 (nI_add 7 c) ?_
        refine xs_iald eX10_agree_59 (by assumption) (by omega) (by decide) ?_
        refine xs_eq1 c2 ?_
        refine xs_iadd eX10_agree_60 ?_
        refine xs_eq1 (nI_add _ _) ?_
        refine xs_aload eX10_agree_61 rfl ?_
        refine xs_getR eX10_agree_62 (by assumption) (by rfl) ?_
        refine xs_iload eX10_agree_65 rfl ?_
        refine xs_iald eX10_agree_66 (by assumption) (by omega) (by decide) ?_
        refine xs_eq1 a1 ?_
        refine xs_aload eX10_agree_67 rfl ?_
        refine xs_getR eX10_agree_68 (by assumption) (by rfl) ?_
        refine xs_iload eX10_agree_71 rfl ?_
        refine xs_iald eX10_agree_72 (by assumption) (by omega) (by decide) ?_
        refine xs_eq1 c1 ?_
        refine xs_iadd eX10_agree_73 ?_
        refine xs_eq1 (nI_add _ _) ?_
        refine xs_N_ne eX10_agree_74 (by omega) (by omega) (fun h74 => ?_) (fun h74 => ?_)
        · refine xs_K eX10_agree_81 ?_
          exact xs_iretI eX10_agree_82 rfl (by rw [h28, h36, decide_eq_false (by omega)] at hQ; exact hQ)
        · refine xs_K eX10_agree_77 ?_
          refine xs_goto eX10_agree_78 ?_
          exact xs_iretI eX10_agree_82 rfl (by rw [h28, h36, decide_eq_true (by omega)] at hQ; exact hQ)
      · refine xs_K eX10_agree_39 ?_
        exact xs_iretI eX10_agree_41 rfl (by rw [h28, h36] at hQ; exact hQ)
  have K2 : ¬ (inN y1 w.2.1.1 && inN y2 w.2.1.1 && !decide (y1 = y2)) = true → Q (some (.int (-1))) SF M := fun h => by
    rw [if_neg h] at hQ
    exact hQ
  refine xs_aload eX10_agree_0 rfl ?_
  refine xs_iload eX10_agree_1 rfl ?_
  refine xs_callV1i eX10_agree_2 (by assumption) (Nat.le_of_ble_eq_true rfl) (c_X10_isVillage (by assumption) ⟨_, rfl, ?_⟩)
  refine xs_ifeqB eX10_agree_5 (fun h5 => ?_) (fun h5 => ?_)
  · refine xs_K eX10_agree_21 ?_
    exact xs_iretI eX10_agree_22 rfl (K2 (by simp [h5]))
  · refine xs_aload eX10_agree_8 rfl ?_
    refine xs_iload eX10_agree_9 rfl ?_
    refine xs_callV1i eX10_agree_10 (by assumption) (Nat.le_of_ble_eq_true rfl) (c_X10_isVillage (by assumption) ⟨_, rfl, ?_⟩)
    refine xs_ifeqB eX10_agree_13 (fun h13 => ?_) (fun h13 => ?_)
    · refine xs_K eX10_agree_21 ?_
      exact xs_iretI eX10_agree_22 rfl (K2 (by simp [h13]))
    · refine xs_iload eX10_agree_16 rfl ?_
      refine xs_iload eX10_agree_17 rfl ?_
      refine xs_icmp_ne eX10_agree_18 (fun h18 => ?_) (fun h18 => ?_)
      · exact K h5 h13 h18
      · refine xs_K eX10_agree_21 ?_
        exact xs_iretI eX10_agree_22 rfl (K2 (by simp [h18]))
theorem seenF_s {s : List (Nat × Nat)} {i v z : Nat} {q : Nat × Nat} (h : s[i]? = some q) : seenF (s.take (i + 1)) v z = (seenF (s.take i) v z && !(decide (q.1 = v) && !decide (q.2 = z))) := by
  unfold seenF
  rw [List.take_succ, h, List.all_append]
  simp
theorem c_X10_kinds (hR : repM w M) (hok : okX N w) (hQ : Q (some (.int (spKinds w y))) SF M) : xC G mX10_kinds (d + 9) 0 0 [.ref (G.1 + 156), .int y] SF M Q := by
  have s0 := sh156
  have s2 := sh164
  have s3 := sh165
  obtain ⟨-, hL, hS, -, -, r5, r6⟩ := id hR
  have hn := hL.1
  have hl := hok.2.1
  have hB := hok.2.2.1
  have ho := hl.1
  have hz := hok.2.2.2.2.2.1
  unfold spKinds at hQ
  dsimp only at hQ
  refine xC_intro [some (.ref (G.1 + 156)), some (.int y), none, none, none, none] rfl (by decide) (Nat.le_of_ble_eq_true rfl) ?_
  have K : inN y w.2.1.1 = true → xW G mX10_kinds (d + 9) 0 0 Q 10 [some (.ref (G.1 + 156)), some (.int y), none, none, none, none] [] SF M := by
    intro q1
    obtain ⟨v, hv, rfl⟩ := inN_of (by omega) q1
    rw [q1, if_pos rfl, nI_clamp (by omega)] at hQ
    have hv7 : v < 7 := by omega
    have hne := okX_near hok hv7
    have K2 : w.2.2.1.1.testBit v = false → xW G mX10_kinds (d + 9) 0 0 Q 21 [some (.ref (G.1 + 156)), some (.int (nI v)), none, none, none, none] [] SF M := by
      intro q2
      rw [q2] at hQ
      refine xs_K eX10_kinds_21 ?_
      refine xs_istore eX10_kinds_22 (Nat.le_of_ble_eq_true rfl) rfl rfl ?_
      refine xs_K eX10_kinds_23 ?_
      refine xs_istore eX10_kinds_24 (Nat.le_of_ble_eq_true rfl) rfl rfl ?_
      refine dn (P := fun k => ∀ A B, xW G mX10_kinds (d + 9) 0 0 Q 25 [some (.ref (G.1 + 156)), some (.int (nI v)), some (.int (nI (maskA (fun k => seenF w.2.2.2.2.2 v (swN w.2.1.2.2.2.1 w.2.1.2.2.2.2.1 w.2.2.1 v k)) k))), some (.int (nI k)), A, B] [] SF M) 5 ?_ ?_ 0 (by omega) none none
      · intro A B
        refine xs_iload eX10_kinds_25 rfl ?_
        refine xs_K eX10_kinds_26 ?_
        refine xs_N_ge eX10_kinds_27 (by omega) (by omega) (fun h27 => ?_) (fun h => absurd h (by omega))
        refine xs_iload eX10_kinds_112 rfl ?_
        exact xs_iretI eX10_kinds_113 rfl (hQ)
      · intro k hk ih A B
        have hm := sbt_mask (p := fun k => seenF w.2.2.2.2.2 v (swN w.2.1.2.2.2.1 w.2.1.2.2.2.2.1 w.2.2.1 v k)) (n := k) (by omega)
        have hp := pow7 (n := k) (by omega)
        have hsl := swN_le (hon := w.2.1.2.2.2.2.1) (kd := k) hok.2.2.1 hv7 hne
        refine xs_iload eX10_kinds_25 rfl ?_
        refine xs_K eX10_kinds_26 ?_
        refine xs_N_ge eX10_kinds_27 (by omega) (by omega) (fun h => absurd h (by omega)) (fun h27 => ?_)
        refine xs_K eX10_kinds_30 ?_
        refine xs_istore eX10_kinds_31 (Nat.le_of_ble_eq_true rfl) rfl rfl ?_
        refine xs_K eX10_kinds_33 ?_
        refine xs_istore eX10_kinds_34 (Nat.le_of_ble_eq_true rfl) rfl rfl ?_
        refine xs_eqL (L1 := [some (.ref (G.1 + 156)), some (.int (nI v)), some (.int (nI (maskA (fun k => seenF w.2.2.2.2.2 v (swN w.2.1.2.2.2.1 w.2.1.2.2.2.2.1 w.2.2.1 v k)) k))), some (.int (nI k)), some (.int (bI (seenF (w.2.2.2.2.2.take 0) v (swN w.2.1.2.2.2.1 w.2.1.2.2.2.2.1 w.2.2.1 v k)))), some (.int (nI 0))]) rfl ?_
        refine dn (P := fun i => xW G mX10_kinds (d + 9) 0 0 Q 36 [some (.ref (G.1 + 156)), some (.int (nI v)), some (.int (nI (maskA (fun k => seenF w.2.2.2.2.2 v (swN w.2.1.2.2.2.1 w.2.1.2.2.2.2.1 w.2.2.1 v k)) k))), some (.int (nI k)), some (.int (bI (seenF (w.2.2.2.2.2.take i) v (swN w.2.1.2.2.2.1 w.2.1.2.2.2.2.1 w.2.2.1 v k)))), some (.int (nI i))] [] SF M) w.2.2.2.2.2.length ?_ ?_ 0 (Nat.zero_le _)
        · rw [List.take_length]
          refine xs_iload eX10_kinds_36 rfl ?_
          refine xs_aload eX10_kinds_38 rfl ?_
          refine xs_getI eX10_kinds_39 (by assumption) (by rfl) ?_
          refine xs_eq1 r5 ?_
          refine xs_N_ge eX10_kinds_42 (by omega) (by omega) (fun h42 => ?_) (fun h => absurd h (by omega))
          refine xs_iload eX10_kinds_91 rfl ?_
          refine xs_iload eX10_kinds_92 rfl ?_
          refine xs_ifeqB eX10_kinds_94 (fun h94 => ?_) (fun h94 => ?_)
          · refine xs_K eX10_kinds_103 ?_
            refine xs_ior eX10_kinds_104 ?_
            refine xs_eq1 (z := nI (maskA (fun k => seenF w.2.2.2.2.2 v (swN w.2.1.2.2.2.1 w.2.1.2.2.2.2.1 w.2.2.1 v k)) k)) (Int32.or_zero) ?_
            refine xs_istore eX10_kinds_105 (Nat.le_of_ble_eq_true rfl) rfl rfl ?_
            refine xs_inc1 eX10_kinds_106 rfl rfl rfl ?_
            refine xs_goto eX10_kinds_109 ?_
            simp only [maskA, h94, reduceIte, Bool.false_eq_true] at ih
            exact ih _ _
          · refine xs_K eX10_kinds_97 ?_
            refine xs_iload eX10_kinds_98 rfl ?_
            refine xs_ishl eX10_kinds_99 ?_
            refine xs_goto eX10_kinds_100 ?_
            refine xs_ior eX10_kinds_104 ?_
            refine xs_eq1 (bon_nI _ (by omega) k (by omega)).1 ?_
            refine xs_istore eX10_kinds_105 (Nat.le_of_ble_eq_true rfl) rfl rfl ?_
            refine xs_inc1 eX10_kinds_106 rfl rfl rfl ?_
            refine xs_goto eX10_kinds_109 ?_
            simp only [maskA, h94, reduceIte] at ih
            exact ih _ _
        · intro i hi ih2
          obtain ⟨q, hq⟩ : ∃ q, w.2.2.2.2.2[i]? = some q := ⟨_, List.getElem?_eq_getElem hi⟩
          have hqq := r6 i q hq
          have hqm := hok.2.2.2.2.2.2 q (List.mem_of_getElem? hq)
          rw [seenF_s hq] at ih2
          refine xs_iload eX10_kinds_36 rfl ?_
          refine xs_aload eX10_kinds_38 rfl ?_
          refine xs_getI eX10_kinds_39 (by assumption) (by rfl) ?_
          refine xs_eq1 r5 ?_
          refine xs_N_ge eX10_kinds_42 (by omega) (by omega) (fun h => absurd h (by omega)) (fun h42 => ?_)
          refine xs_iload eX10_kinds_45 rfl ?_
          refine xs_ifeqB eX10_kinds_47 (fun h47 => ?_) (fun h47 => ?_)
          · refine xs_K eX10_kinds_82 ?_
            refine xs_istore eX10_kinds_83 (Nat.le_of_ble_eq_true rfl) rfl rfl ?_
            refine xs_inc1 eX10_kinds_85 rfl rfl rfl ?_
            refine xs_goto eX10_kinds_88 ?_
            rw [h47] at ih2
            exact ih2
          · refine xs_aload eX10_kinds_50 rfl ?_
            refine xs_getR eX10_kinds_51 (by assumption) (by rfl) ?_
            refine xs_iload eX10_kinds_54 rfl ?_
            refine xs_iald eX10_kinds_56 (by assumption) (by omega) (by decide) ?_
            refine xs_eq1 hqq.1 ?_
            refine xs_iload eX10_kinds_57 rfl ?_
            refine xs_N_ne eX10_kinds_58 (by omega) (by omega) (fun h58 => ?_) (fun h58 => ?_)
            · refine xs_K eX10_kinds_78 ?_
              refine xs_goto eX10_kinds_79 ?_
              refine xs_istore eX10_kinds_83 (Nat.le_of_ble_eq_true rfl) rfl rfl ?_
              refine xs_inc1 eX10_kinds_85 rfl rfl rfl ?_
              refine xs_goto eX10_kinds_88 ?_
              rw [h47, decide_eq_false h58] at ih2
              exact ih2
            · refine xs_aload eX10_kinds_61 rfl ?_
              refine xs_K eX10_kinds_62 ?_
              refine xs_iload eX10_kinds_63 rfl ?_
              refine xs_iload eX10_kinds_64 rfl ?_
              refine xs_callV3i eX10_kinds_65 (by assumption) (Nat.le_of_ble_eq_true rfl) (c_X10_sworn (b := w.2.2.1) (dy := 121 * N) hL hl hS hB (by omega) hv hk ⟨_, rfl, ?_⟩)
              refine xs_aload eX10_kinds_68 rfl ?_
              refine xs_getR eX10_kinds_69 (by assumption) (by rfl) ?_
              refine xs_iload eX10_kinds_72 rfl ?_
              refine xs_iald eX10_kinds_74 (by assumption) (by omega) (by decide) ?_
              refine xs_eq1 hqq.2 ?_
              refine xs_N_ne eX10_kinds_75 (by omega) (by omega) (fun h75 => ?_) (fun h75 => ?_)
              · refine xs_K eX10_kinds_82 ?_
                refine xs_istore eX10_kinds_83 (Nat.le_of_ble_eq_true rfl) rfl rfl ?_
                refine xs_inc1 eX10_kinds_85 rfl rfl rfl ?_
                refine xs_goto eX10_kinds_88 ?_
                rw [h47, decide_eq_true h58, decide_eq_false (p := q.2 = _) (fun e => h75 e.symm)] at ih2
                exact ih2
              · refine xs_K eX10_kinds_78 ?_
                refine xs_goto eX10_kinds_79 ?_
                refine xs_istore eX10_kinds_83 (Nat.le_of_ble_eq_true rfl) rfl rfl ?_
                refine xs_inc1 eX10_kinds_85 rfl rfl rfl ?_
                refine xs_goto eX10_kinds_88 ?_
                rw [h47, decide_eq_true h58, decide_eq_true (p := q.2 = _) h75.symm] at ih2
                exact ih2
    refine xs_aload eX10_kinds_10 rfl ?_
    refine xs_iload eX10_kinds_11 rfl ?_
    refine xs_callV1i eX10_kinds_12 (by assumption) (Nat.le_of_ble_eq_true rfl) (c_X10_isIn hS (by omega) ⟨_, rfl, ?_⟩)
    refine xs_ifeqB eX10_kinds_15 (fun h15 => ?_) (fun h15 => ?_)
    · exact K2 h15
    · refine xs_K eX10_kinds_18 ?_
      exact xs_iretI eX10_kinds_20 rfl (by rw [h15] at hQ; exact hQ)
  refine xs_aload eX10_kinds_0 rfl ?_
  refine xs_iload eX10_kinds_1 rfl ?_
  refine xs_callV1i eX10_kinds_2 (by assumption) (Nat.le_of_ble_eq_true rfl) (c_X10_isVillage (by assumption) ⟨_, rfl, ?_⟩)
  refine xs_ifneB eX10_kinds_5 (fun h5 => ?_) (fun h5 => ?_)
  · exact K h5
  · refine xs_K eX10_kinds_8 ?_
    exact xs_iretI eX10_kinds_9 rfl (by rw [h5] at hQ; exact hQ)
end R6

/-! honest of the class: weigh, honest -/
section HC2
variable {G : xGl} {d N c p v : Nat} {w : aX} {l : aLd} {b : aBk} {M : xMem} {S : List xSh} {Q : Option Value → List xSh → xMem → Prop} {y y1 y2 y3 : Int32}
theorem c_X1_weigh {n x r dy : Nat} (hl : okL l) (hL : rL M l) (hB : rE M 31 b) (hb : okB l.1 dy b) (hn : n ≤ 500) (hx : x ≤ 10) (hr : restN l.1 b.1 = r) (hQ : ∀ M1, (∀ a, a < 150 ∨ 155 < a → M1 a = M a) → M1 150 2 = nI (upH l b n x r 128 / Nat.gcd (upH l b n x r 128) (10 ^ pc7 r)) → M1 150 3 = nI (10 ^ pc7 r / Nat.gcd (upH l b n x r 128) (10 ^ pc7 r)) → Q none SF M1) : xC G mX1_weigh (d + 4) 0 0 [.ref (G.1 + 150), .ref (G.1 + 31), .int (nI n), .int (nI x)] SF M Q := by
  have s0 := sh150
  have b0 := bk0 isBk31
  have isb := isBk31
  have h7 := hl.1.2
  have hnv := hL.1
  have hrl : r < 2 ^ l.1 := by rw [← hr]; exact restN_lt h7
  have hr128 := Nat.lt_of_lt_of_le hrl (pow7 h7)
  have hpc := pc7_le _ hr128
  have hrM : restM l.1 (M 31 5) = nI r := by rw [hB.1, rest_nI h7, hr]
  have ht := ten7 (pc7 r) (by omega)
  have hu := upH_le (l := l) (b := b) (n := n) hr128 (show x < 11 by omega)
  have hw10 := wt_10 r hr128
  refine xC_intro [some (.ref (G.1 + 150)), some (.ref (G.1 + 31)), some (.int (nI n)), some (.int (nI x)), none, none] rfl (by decide) (Nat.le_of_ble_eq_true rfl) ?_
  refine xs_aload eX1_weigh_0 rfl ?_
  refine xs_callV0i eX1_weigh_1 (by assumption) (Nat.le_of_ble_eq_true rfl) (c_X0_rest (by assumption) (by assumption) ⟨_, rfl, ?_⟩)
  refine xs_eq1 hrM ?_
  refine xs_istore eX1_weigh_4 (Nat.le_of_ble_eq_true rfl) rfl rfl ?_
  refine xs_aload eX1_weigh_6 rfl ?_
  refine xs_K eX1_weigh_7 ?_
  refine xs_putI eX1_weigh_8 (by assumption) (by rfl) rfl rfl ?_
  refine xs_aload eX1_weigh_11 rfl ?_
  refine xs_iload eX1_weigh_12 rfl ?_
  refine xs_K eX1_weigh_14 ?_
  refine xs_K eX1_weigh_15 ?_
  refine xs_callS3i eX1_weigh_17 (Nat.le_of_ble_eq_true rfl) (c_X1_weightOf (a := r) (o := 0) (x := 10) (by decide) ⟨_, rfl, ?_⟩)
  rw [hw10]
  refine xs_putI eX1_weigh_20 (by assumption) (by rfl) rfl rfl ?_
  refine xs_K eX1_weigh_23 ?_
  refine xs_istore eX1_weigh_24 (Nat.le_of_ble_eq_true rfl) rfl rfl ?_
  generalize 10 ^ pc7 r = al at *
  refine dn (P := fun T => ∀ M1, (∀ a, a < 150 ∨ 155 < a → M1 a = M a) → M1 150 2 = nI (upH l b n x r T) → M1 150 3 = nI al → xW G mX1_weigh (d + 4) 0 0 Q 26 [some (.ref (G.1 + 150)), some (.ref (G.1 + 31)), some (.int (nI n)), some (.int (nI x)), some (.int (nI r)), some (.int (nI T))] [] SF M1) 128 ?_ ?_ 0 (by omega) _ (fun a ha => by rw [up2_ne (by omega), up2_ne (by omega)]) (by rw [up2_x, if_neg (by decide), up2_x, if_pos rfl]; rfl) (by rw [up2_x, if_pos rfl])
  · intro M1 f1 f2 f3
    generalize upH l b n x r 128 = u at *
    have hg := Nat.gcd_pos_of_pos_right u ht.2
    have hgl := Nat.gcd_le_right (m := u) (n := al) ht.2
    generalize hgg : Nat.gcd u al = g at *
    have hnz : ¬ nI g = 0 := nI_ne0 hg (by omega)
    have hq := hQ (up2 (up2 M1 150 2 (nI (u / g))) 150 3 (nI (al / g))) (fun a ha => by rw [up2_ne (by omega), up2_ne (by omega)]; exact f1 a ha) (by rw [up2_x, if_neg (by decide), up2_x, if_pos rfl]) (by rw [up2_x, if_pos rfl])
    refine xs_iload eX1_weigh_26 rfl ?_
    refine xs_K eX1_weigh_28 ?_
    refine xs_N_ge eX1_weigh_31 (by omega) (by omega) (fun h31 => ?_) (fun h => absurd h (by omega))
    refine xs_aload eX1_weigh_83 rfl ?_
    refine xs_getI eX1_weigh_84 (by assumption) (by rfl) ?_
    refine xs_eq1 f2 ?_
    refine xs_aload eX1_weigh_87 rfl ?_
    refine xs_getI eX1_weigh_88 (by assumption) (by rfl) ?_
    refine xs_eq1 f3 ?_
    refine xs_callS2i eX1_weigh_91 (Nat.le_of_ble_eq_true rfl) (c_X1_commonDivisor (by omega) (by omega) ⟨_, rfl, ?_⟩)
    rw [hgg]
    refine xs_istore eX1_weigh_94 (Nat.le_of_ble_eq_true rfl) rfl rfl ?_
    refine xs_iload eX1_weigh_96 rfl ?_
    refine xs_N0_le eX1_weigh_98 (by omega) (fun h => absurd h (by omega)) (fun h98 => ?_)
    refine xs_aload eX1_weigh_101 rfl ?_
    refine xs_dup eX1_weigh_102 rfl ?_
    refine xs_getI eX1_weigh_103 (by assumption) (by rfl) ?_
    refine xs_eq1 f2 ?_
    refine xs_iload eX1_weigh_106 rfl ?_
    refine xs_idiv eX1_weigh_108 (hnz) ?_
    refine xs_eq1 (pk_div (by omega) hg (by omega)) ?_
    refine xs_putI eX1_weigh_109 (by assumption) (by rfl) rfl rfl ?_
    refine xs_aload eX1_weigh_112 rfl ?_
    refine xs_dup eX1_weigh_113 rfl ?_
    refine xs_getI eX1_weigh_114 (by assumption) (by rfl) ?_
    refine xs_eq1 (z := nI al) (by rw [up2_x, if_neg (by decide)]; exact f3) ?_
    refine xs_iload eX1_weigh_117 rfl ?_
    refine xs_idiv eX1_weigh_119 (hnz) ?_
    refine xs_eq1 (pk_div (by omega) hg (by omega)) ?_
    refine xs_putI eX1_weigh_120 (by assumption) (by rfl) rfl rfl ?_
    exact xs_vret eX1_weigh_123 rfl (hq)
  · intro T hT ih M1 f1 f2 f3
    have hL1 : rL M1 l := rL_keep hL (fun a _ _ => f1 a (by omega))
    have hB1 : rE M1 31 b := rE_keep hB (fun a _ _ => f1 a (by omega))
    have hs : upH l b n x r (T + 1) = upH l b n x r T + (if decide (T &&& r = T) then (if n ≤ foundB l.1 (hoB l b T) then wtH x r T else 0) else 0) := rfl
    rw [hs] at ih
    have hsub := sub_z T hT r hr128
    have hdf := df_nI r hr128 T hT
    have hwt := fun h => wt_df (x := x) hr128 hT h
    have hfl : foundB l.1 (hoB l b T) ≤ 2940 := foundB_le (dy := dy) h7 (okB_run (l := hoL l T) (okL_ho hl hT) hb (fun v hv => by
      obtain ⟨g1, g2⟩ := bitsL_mem.mp hv
      rw [restN_bt h7 (by omega)] at g2
      simp only [Bool.and_eq_true, decide_eq_true_eq] at g2
      exact g2.1))
    have FW : ∀ (M0 : xMem) (Q' : Option Value → List xSh → xMem → Prop), rL M0 l → rE M0 31 b → (∀ M2, (∀ a, a < 151 ∨ 155 < a → M2 a = M0 a) → Q' (some (.int (nI (foundB l.1 (hoB l b T))))) SF M2) → xC G mX1_foundWith (d + 3) 0 0 [.ref (G.1 + 150), .ref (G.1 + 31), .int (nI T)] SF M0 Q' := fun M0 Q' k1 k2 k3 => c_X1_foundWith hl k1 k2 hb hT k3
    generalize upH l b n x r T = u at *
    generalize foundB l.1 (hoB l b T) = F at *
    have no : ∀ M2, (∀ a, a < 151 ∨ 155 < a → M2 a = M1 a) → (if decide (T &&& r = T) then (if n ≤ F then wtH x r T else 0) else 0) = 0 → xW G mX1_weigh (d + 4) 0 0 Q 77 [some (.ref (G.1 + 150)), some (.ref (G.1 + 31)), some (.int (nI n)), some (.int (nI x)), some (.int (nI r)), some (.int (nI T))] [] SF M2 := by
      intro M2 g1 e
      rw [e, Nat.add_zero] at ih
      have h9 := ih M2 (fun a ha => by rw [g1 a (by omega)]; exact f1 a ha) (by rw [g1 150 (by omega)]; exact f2) (by rw [g1 150 (by omega)]; exact f3)
      refine xs_inc1 eX1_weigh_77 rfl rfl rfl ?_
      refine xs_goto eX1_weigh_80 ?_
      exact h9
    refine xs_iload eX1_weigh_26 rfl ?_
    refine xs_K eX1_weigh_28 ?_
    refine xs_N_ge eX1_weigh_31 (by omega) (by omega) (fun h => absurd h (by omega)) (fun h31 => ?_)
    refine xs_iload eX1_weigh_34 rfl ?_
    refine xs_iload eX1_weigh_36 rfl ?_
    refine xs_K eX1_weigh_38 ?_
    refine xs_ixor eX1_weigh_39 ?_
    refine xs_iand eX1_weigh_40 ?_
    refine xs_if_ne eX1_weigh_41 (fun h41 => ?_) (fun h41 => ?_)
    · exact no M1 (fun _ _ => rfl) (by rw [decide_eq_false (fun q => h41 (hsub.mpr q))]; rfl)
    · refine xs_aload eX1_weigh_44 rfl ?_
      refine xs_aload eX1_weigh_45 rfl ?_
      refine xs_iload eX1_weigh_46 rfl ?_
      refine xs_callV2i eX1_weigh_48 (by assumption) (Nat.le_of_ble_eq_true rfl) (FW M1 _ hL1 hB1 (fun M2 g1 => ⟨_, rfl, ?_⟩))
      refine xs_iload eX1_weigh_51 rfl ?_
      refine xs_N_lt eX1_weigh_52 (by omega) (by omega) (fun h52 => ?_) (fun h52 => ?_)
      · exact no M2 g1 (by rw [decide_eq_true (hsub.mp h41)]; simp only [if_true]; rw [if_neg (by omega)])
      · refine xs_aload eX1_weigh_55 rfl ?_
        refine xs_dup eX1_weigh_56 rfl ?_
        refine xs_getI eX1_weigh_57 (by assumption) (by rfl) ?_
        refine xs_eq1 (z := nI u) (by rw [g1 150 (by omega)]; exact f2) ?_
        refine xs_iload eX1_weigh_60 rfl ?_
        refine xs_iload eX1_weigh_62 rfl ?_
        refine xs_iload eX1_weigh_64 rfl ?_
        refine xs_K eX1_weigh_66 ?_
        refine xs_ixor eX1_weigh_67 ?_
        refine xs_iand eX1_weigh_68 ?_
        refine xs_eq1 hdf ?_
        refine xs_iload eX1_weigh_69 rfl ?_
        refine xs_callS3i eX1_weigh_70 (Nat.le_of_ble_eq_true rfl) (c_X1_weightOf (a := T) (o := dfN r T) (x := x) hx ⟨_, rfl, ?_⟩)
        rw [hwt (hsub.mp h41)]
        refine xs_iadd eX1_weigh_73 ?_
        refine xs_eq1 (nI_add _ _) ?_
        refine xs_putI eX1_weigh_74 (by assumption) (by rfl) rfl rfl ?_
        rw [decide_eq_true (hsub.mp h41)] at ih
        simp only [if_true] at ih
        rw [if_pos h52] at ih
        have h9 := ih (up2 M2 150 2 (nI (u + wtH x r T))) (fun a ha => by rw [up2_ne (by omega), g1 a (by omega)]; exact f1 a ha) (by rw [up2_x, if_pos rfl]) (by rw [up2_x, if_neg (by decide), g1 150 (by omega)]; exact f3)
        refine xs_inc1 eX1_weigh_77 rfl rfl rfl ?_
        refine xs_goto eX1_weigh_80 ?_
        exact h9
theorem c_X9_honest (hR : repC w M) (hok : okX N w) (hQ : ∀ M1, hiK M M1 → repC w M1 → Q (some (.int (spHon w y1 y2 y3))) SF M1) : xC G mX9_honest (d + 9) 0 0 [.ref (G.1 + 0), .int y1, .int y2, .int y3] SF M Q := by
  have s0 := sh0
  have c0 := sh150
  obtain ⟨-, hL, hB, -⟩ := id hR
  have hl := hok.2.1
  unfold spHon at hQ
  dsimp only at hQ
  have K : wiB y1 (nI 0) (nI 500) = true → wiB y2 (nI 0) (nI 10) = true → wiB y3 (nI 0) (nI 1) = true → xW G mX9_honest (d + 9) 0 0 Q 32 [some (.ref (G.1 + 0)), some (.int y1), some (.int y2), some (.int y3)] [] SF M := by
    intro q1 q2 q3
    simp only [q1, q2, q3, Bool.and_self, if_true] at hQ
    obtain ⟨n, -, hn, rfl⟩ := wi_of (by decide) (by decide) q1
    obtain ⟨x, -, hx, rfl⟩ := wi_of (by decide) (by decide) q2
    obtain ⟨k, -, hk, rfl⟩ := wi_of (by decide) (by decide) q3
    rw [nI_clamp (by omega), nI_clamp (by omega)] at hQ
    simp only [nI_e (show k < 2 ^ 31 by omega) (show 0 < 2 ^ 31 by decide)] at hQ
    refine xs_aload eX9_honest_32 rfl ?_
    refine xs_getR eX9_honest_33 (by assumption) (by rfl) ?_
    refine xs_aload eX9_honest_36 rfl ?_
    refine xs_getR eX9_honest_37 (by assumption) (by rfl) ?_
    refine xs_iload eX9_honest_40 rfl ?_
    refine xs_iload eX9_honest_41 rfl ?_
    refine xs_callV3v eX9_honest_42 (by assumption) (Nat.le_of_ble_eq_true rfl) (c_X1_weigh (b := w.2.2.1) (dy := 121 * N) hl hL hB.e hok.2.2.1 hn hx rfl (fun M1 f1 f2 f3 => ⟨rfl, ?_⟩))
    have hq := hQ M1 (fun a ha => f1 a (by omega)) (repC_scr hR (fun a _ hs => f1 a (by unfold scr at hs; omega)))
    refine xs_iload eX9_honest_45 rfl ?_
    refine xs_N0_ne eX9_honest_46 (by omega) (fun h46 => ?_) (fun h46 => ?_)
    · refine xs_aload eX9_honest_59 rfl ?_
      refine xs_getR eX9_honest_60 (by assumption) (by rfl) ?_
      refine xs_getI eX9_honest_63 (by assumption) (by rfl) ?_
      refine xs_eq1 f3 ?_
      exact xs_iretI eX9_honest_66 rfl (by rw [if_neg h46] at hq; exact hq)
    · refine xs_aload eX9_honest_49 rfl ?_
      refine xs_getR eX9_honest_50 (by assumption) (by rfl) ?_
      refine xs_getI eX9_honest_53 (by assumption) (by rfl) ?_
      refine xs_eq1 f2 ?_
      refine xs_goto eX9_honest_56 ?_
      exact xs_iretI eX9_honest_66 rfl (by rw [if_pos h46] at hq; exact hq)
  refine xC_intro [some (.ref (G.1 + 0)), some (.int y1), some (.int y2), some (.int y3)] rfl (by decide) (Nat.le_of_ble_eq_true rfl) ?_
  refine xs_iload eX9_honest_0 rfl ?_
  refine xs_K eX9_honest_1 ?_
  refine xs_K eX9_honest_2 ?_
  refine xs_callS3i eX9_honest_5 (Nat.le_of_ble_eq_true rfl) (c_X9_isWithin ⟨_, rfl, ?_⟩)
  refine xs_ifeqB eX9_honest_8 (fun h8 => ?_) (fun h8 => ?_)
  · refine xs_K eX9_honest_30 ?_
    exact xs_iretI eX9_honest_31 rfl (by simp only [h8, Bool.false_and, Bool.false_eq_true, if_false] at hQ; exact hQ M (fun _ _ => rfl) hR)
  · refine xs_iload eX9_honest_11 rfl ?_
    refine xs_K eX9_honest_12 ?_
    refine xs_K eX9_honest_13 ?_
    refine xs_callS3i eX9_honest_15 (Nat.le_of_ble_eq_true rfl) (c_X9_isWithin ⟨_, rfl, ?_⟩)
    refine xs_ifeqB eX9_honest_18 (fun h18 => ?_) (fun h18 => ?_)
    · refine xs_K eX9_honest_30 ?_
      exact xs_iretI eX9_honest_31 rfl (by simp only [h8, h18, Bool.and_false, Bool.false_and, Bool.false_eq_true, if_false] at hQ; exact hQ M (fun _ _ => rfl) hR)
    · refine xs_iload eX9_honest_21 rfl ?_
      refine xs_K eX9_honest_22 ?_
      refine xs_K eX9_honest_23 ?_
      refine xs_callS3i eX9_honest_24 (Nat.le_of_ble_eq_true rfl) (c_X9_isWithin ⟨_, rfl, ?_⟩)
      refine xs_ifneB eX9_honest_27 (fun h27 => ?_) (fun h27 => ?_)
      · exact K h8 h18 h27
      · refine xs_K eX9_honest_30 ?_
        exact xs_iretI eX9_honest_31 rfl (by simp only [h27, Bool.and_false, Bool.false_eq_true, if_false] at hQ; exact hQ M (fun _ _ => rfl) hR)
end HC2

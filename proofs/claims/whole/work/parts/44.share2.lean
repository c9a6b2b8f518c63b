/-! Sharing.walkFrom, shareOut, daysOfShares -/
section SW
variable {G : xGl} {d N c p v : Nat} {w : aX} {l : aLd} {b : aBk} {M : xMem} {S : List xSh} {Q : Option Value → List xSh → xMem → Prop} {y : Int32}
theorem wkP_s {M M1 : xMem} {r at0 s : Nat} (h : wkP l M M1 r at0 c s) (hs : ¬ s &&& r = s) : wkP l M M1 r at0 c (s + 1) := by
  obtain ⟨h1, h2, h3⟩ := h
  refine ⟨h1, fun s' a1 a2 => ?_, fun s' v a1 a2 a3 a4 => ?_⟩
  · by_cases e : s' = s
    · subst e; exact absurd a2 hs
    · exact h2 s' (by omega) a2
  · by_cases e : s' = s
    · subst e; exact absurd a2 hs
    · exact h3 s' v (by omega) a2 a3 a4
theorem c_X7_walkFrom {at0 r : Nat} (hl : okL l) (hL : rL M l) (ha : at0 < l.1) (hr : r < 2 ^ l.1) (hc : c = 101 ∨ c = 102 ∨ c = 103) (hQ : ∀ M1, wkP l M M1 r at0 c 128 → Q none SF M1) : xC G mX7_walkFrom (d + 2) 0 0 [.ref (G.1 + 98), .int (nI at0), .int (nI r), .ref (G.1 + c)] SF M Q := by
  have s0 := sh98
  have s1 := sh99
  have l0 := sh18
  have sc : SF[c]? = some (.inl (.int, 128)) := by rcases hc with rfl | rfl | rfl <;> rfl
  have h7 := hl.1.2
  have hr128 := Nat.lt_of_lt_of_le hr (pow7 h7)
  refine xC_intro [some (.ref (G.1 + 98)), some (.int (nI at0)), some (.int (nI r)), some (.ref (G.1 + c)), none, none, none] rfl (by decide) (Nat.le_of_ble_eq_true rfl) ?_
  refine xs_aload eX7_walkFrom_0 rfl ?_
  refine xs_K eX7_walkFrom_1 ?_
  refine xs_K eX7_walkFrom_2 ?_
  refine xs_iast eX7_walkFrom_3 (by assumption) (by omega) (by decide) ?_
  refine xs_K eX7_walkFrom_4 ?_
  refine xs_istore eX7_walkFrom_5 (Nat.le_of_ble_eq_true rfl) rfl rfl ?_
  refine dn (P := fun i => ∀ (M1 : xMem) (A B : Option Value), wkP l M M1 r at0 c (i + 1) → xW G mX7_walkFrom (d + 2) 0 0 Q 7 [some (.ref (G.1 + 98)), some (.int (nI at0)), some (.int (nI r)), some (.ref (G.1 + c)), some (.int (nI (i + 1))), A, B] [] SF M1) 127 ?_ ?_ 0 (by omega) _ none none ⟨fun a _ a2 => up2_ne a2, fun s a1 a2 => ?_, fun s v a1 a2 a3 a4 => ?_⟩
  · intro M1 A B h
    refine xs_iload eX7_walkFrom_7 rfl ?_
    refine xs_K eX7_walkFrom_9 ?_
    refine xs_N_ge eX7_walkFrom_12 (by omega) (by omega) (fun h12 => ?_) (fun h => absurd h (by omega))
    exact xs_vret eX7_walkFrom_116 rfl (hQ M1 h)
  · intro i hi ih M1 A B h
    have hsub := sub_z (i + 1) (by omega) r hr128
    have K27 : (i + 1) &&& r = i + 1 → xW G mX7_walkFrom (d + 2) 0 0 Q 27 [some (.ref (G.1 + 98)), some (.int (nI at0)), some (.int (nI r)), some (.ref (G.1 + c)), some (.int (nI (i + 1))), A, B] [] SF M1 := by
      intro hs
      generalize hsi : i + 1 = s at *
      have hs0 : s ≠ 0 := by omega
      have h128 : s < 128 := by omega
      have hsl := sub_lt hr hs
      obtain ⟨g1, g2, g3⟩ := h
      refine xs_aload eX7_walkFrom_27 rfl ?_
      refine xs_iload eX7_walkFrom_28 rfl ?_
      refine xs_K eX7_walkFrom_30 ?_
      refine xs_iast eX7_walkFrom_32 (by assumption) (by omega) (by decide) ?_
      refine xs_K eX7_walkFrom_33 ?_
      refine xs_istore eX7_walkFrom_34 (Nat.le_of_ble_eq_true rfl) rfl rfl ?_
      refine dn (P := fun v => ∀ (M2 : xMem) (B : Option Value), (∀ a, a ≠ 99 → a ≠ c → M2 a = M a) → (∀ s', s' < s → s' &&& r = s' → M2 c s' = nI (shA l at0 s')) → (∀ s' v, s' < s → s' &&& r = s' → v < l.1 → s'.testBit v = true → M2 99 (s' * 7 + v) = nI (tbA l at0 s' v)) → M2 c s = nI (foldM (fun v => s.testBit v) (fun v => tbA l at0 s v) 1000000 v) → (∀ u, u < v → s.testBit u = true → M2 99 (s * 7 + u) = nI (tbA l at0 s u)) → xW G mX7_walkFrom (d + 2) 0 0 Q 36 [some (.ref (G.1 + 98)), some (.int (nI at0)), some (.int (nI r)), some (.ref (G.1 + c)), some (.int (nI s)), some (.int (nI v)), B] [] SF M2) l.1 ?_ ?_ 0 (by omega) _ _ (fun a a1 a2 => by rw [up2_ne a2]; exact g1 a a1 a2) (fun s' a1 a2 => by rw [up2_x, if_neg (by omega)]; exact g2 s' a1 a2) (fun s' v a1 a2 a3 a4 => by rw [up2_ne (by omega)]; exact g3 s' v a1 a2 a3 a4) (by rw [up2_x, if_pos rfl]; rfl) (fun u hu => by omega)
      · intro M2 B f1 f2 f3 f4 f5
        have e0 : M2 18 5 = nI l.1 := by rw [f1 18 (by omega) (by omega)]; exact hL.1
        have hw : wkP l M M2 r at0 c (s + 1) := ⟨f1, fun s' a1 a2 => by
            by_cases e : s' = s
            · subst e; rw [shA, if_neg hs0]; exact f4
            · exact f2 s' (by omega) a2, fun s' v a1 a2 a3 a4 => by
            by_cases e : s' = s
            · subst e; exact f5 v a3 a4
            · exact f3 s' v (by omega) a2 a3 a4⟩
        refine xs_iload eX7_walkFrom_36 rfl ?_
        refine xs_aload eX7_walkFrom_38 rfl ?_
        refine xs_getR eX7_walkFrom_39 (by assumption) (by rfl) ?_
        refine xs_getI eX7_walkFrom_42 (by assumption) (by rfl) ?_
        refine xs_eq1 e0 ?_
        refine xs_N_ge eX7_walkFrom_45 (by omega) (by omega) (fun h45 => ?_) (fun h => absurd h (by omega))
        refine xs_inc1 eX7_walkFrom_110 rfl rfl rfl ?_
        refine xs_goto eX7_walkFrom_113 ?_
        exact ih M2 _ _ hw
      · intro v hv ih2 M2 B f1 f2 f3 f4 f5
        have e0 : M2 18 5 = nI l.1 := by rw [f1 18 (by omega) (by omega)]; exact hL.1
        have hL2 : rL M2 l := rL_keep hL (fun a _ _ => f1 a (by omega) (by omega))
        simp only [foldM] at ih2
        have hfz := foldM_z (p := fun v => s.testBit v) (f := fun v => tbA l at0 s v) (z := 1000000) (n := v)
        refine xs_iload eX7_walkFrom_36 rfl ?_
        refine xs_aload eX7_walkFrom_38 rfl ?_
        refine xs_getR eX7_walkFrom_39 (by assumption) (by rfl) ?_
        refine xs_getI eX7_walkFrom_42 (by assumption) (by rfl) ?_
        refine xs_eq1 e0 ?_
        refine xs_N_ge eX7_walkFrom_45 (by omega) (by omega) (fun h => absurd h (by omega)) (fun h45 => ?_)
        refine xs_iload eX7_walkFrom_48 rfl ?_
        refine xs_iload eX7_walkFrom_50 rfl ?_
        refine xs_ishr eX7_walkFrom_52 ?_
        refine xs_K eX7_walkFrom_53 ?_
        refine xs_iand eX7_walkFrom_54 ?_
        refine xs_eq1 ((bt_ask _ (by omega)).trans (by rw [bt_nI (by omega)])) ?_
        refine xs_ifeqB eX7_walkFrom_55 (fun h55 => ?_) (fun h55 => ?_)
        · refine xs_inc1 eX7_walkFrom_104 rfl rfl rfl ?_
          refine xs_goto eX7_walkFrom_107 ?_
          simp only [h55, Bool.false_eq_true, if_false] at ih2
          refine ih2 M2 _ f1 f2 f3 f4 (fun u hu hb => ?_)
          by_cases e : u = v
          · subst e; rw [h55] at hb; cases hb
          · exact f5 u (by omega) hb
        · have ht := tbA_847 hl ha hsl hv h55
          have hcl := cbt_less s h128 v (by omega) h55
          refine xs_aload eX7_walkFrom_58 rfl ?_
          refine xs_iload eX7_walkFrom_59 rfl ?_
          refine xs_iload eX7_walkFrom_60 rfl ?_
          refine xs_K eX7_walkFrom_62 ?_
          refine xs_iload eX7_walkFrom_63 rfl ?_
          refine xs_ishl eX7_walkFrom_65 ?_
          refine xs_K eX7_walkFrom_66 ?_
          refine xs_ixor eX7_walkFrom_67 ?_
          refine xs_iand eX7_walkFrom_68 ?_
          refine xs_eq1 (boff_nI s h128 v (by omega)).1 ?_
          refine xs_iload eX7_walkFrom_69 rfl ?_
          refine xs_callV3i eX7_walkFrom_71 (by assumption) (Nat.le_of_ble_eq_true rfl) (c_X7_walkTo hl hL2 ha hsl hv h55 (fun u hu hb => f3 _ u hcl.1 (sub_c s h128 r hr128 hs v (by omega)) hu hb) ⟨_, rfl, ?_⟩)
          refine xs_istore eX7_walkFrom_74 (Nat.le_of_ble_eq_true rfl) rfl rfl ?_
          refine xs_aload eX7_walkFrom_76 rfl ?_
          refine xs_getR eX7_walkFrom_77 (by assumption) (by rfl) ?_
          refine xs_iload eX7_walkFrom_80 rfl ?_
          refine xs_K eX7_walkFrom_82 ?_
          refine xs_imul eX7_walkFrom_84 ?_
          refine xs_eq1 (pk_mul s 7) ?_
          refine xs_iload eX7_walkFrom_85 rfl ?_
          refine xs_iadd eX7_walkFrom_87 ?_
          refine xs_eq1 (nI_add _ v) ?_
          refine xs_iload eX7_walkFrom_88 rfl ?_
          refine xs_iast eX7_walkFrom_90 (by assumption) (by omega) (by decide) ?_
          refine xs_aload eX7_walkFrom_91 rfl ?_
          refine xs_iload eX7_walkFrom_92 rfl ?_
          refine xs_aload eX7_walkFrom_94 rfl ?_
          refine xs_iload eX7_walkFrom_95 rfl ?_
          refine xs_iald eX7_walkFrom_97 (by assumption) (by omega) (by decide) ?_
          refine xs_eq1 (z := nI (foldM (fun v => s.testBit v) (fun v => tbA l at0 s v) 1000000 v)) (by rw [up2_ne (by omega)]; exact f4) ?_
          refine xs_iload eX7_walkFrom_98 rfl ?_
          refine xs_min fX7_walkFrom_100 (Nat.le_of_ble_eq_true rfl) ?_
          refine xs_eq1 (mn_nI (by omega) (by omega)) ?_
          refine xs_iast eX7_walkFrom_103 (by assumption) (by omega) (by decide) ?_
          refine xs_inc1 eX7_walkFrom_104 rfl rfl rfl ?_
          refine xs_goto eX7_walkFrom_107 ?_
          simp only [h55, if_true] at ih2
          refine ih2 _ _ (fun a a1 a2 => by rw [up2_ne a2, up2_ne a1]; exact f1 a a1 a2) (fun s' a1 a2 => by rw [up2_x, if_neg (by omega), up2_ne (by omega)]; exact f2 s' a1 a2) (fun s' v' a1 a2 a3 a4 => by rw [up2_ne (by omega), up2_x, if_neg (by omega)]; exact f3 s' v' a1 a2 a3 a4) (by rw [up2_x, if_pos rfl]; rfl) (fun u hu hb => ?_)
          rw [up2_ne (by omega), up2_x]
          by_cases e : u = v
          · rw [if_pos (by rw [e]), e]
          · rw [if_neg (by omega)]; exact f5 u (by omega) hb
    refine xs_iload eX7_walkFrom_7 rfl ?_
    refine xs_K eX7_walkFrom_9 ?_
    refine xs_N_ge eX7_walkFrom_12 (by omega) (by omega) (fun h => absurd h (by omega)) (fun h12 => ?_)
    refine xs_iload eX7_walkFrom_15 rfl ?_
    refine xs_iload eX7_walkFrom_17 rfl ?_
    refine xs_K eX7_walkFrom_18 ?_
    refine xs_ixor eX7_walkFrom_19 ?_
    refine xs_iand eX7_walkFrom_20 ?_
    refine xs_if_eq eX7_walkFrom_21 (fun h21 => ?_) (fun h21 => ?_)
    · exact K27 (hsub.mp h21)
    · refine xs_goto eX7_walkFrom_24 ?_
      refine xs_inc1 eX7_walkFrom_110 rfl rfl rfl ?_
      refine xs_goto eX7_walkFrom_113 ?_
      exact ih M1 _ _ (wkP_s h (fun q => h21 (hsub.mpr q)))
  · rw [show s = 0 by omega, up2_x, if_pos rfl]; rfl
  · rw [show s = 0 by omega] at a4; simp at a4
end SW

/-! soonest of the class -/
section S5
variable {G : xGl} {d N c p v : Nat} {w : aX} {l : aLd} {b : aBk} {M : xMem} {S : List xSh} {Q : Option Value → List xSh → xMem → Prop} {y : Int32}
theorem whoA_lt {r np nv code v : Nat} (h : 1 ≤ np) : whoA r np nv code v < np := Nat.mod_lt _ (by omega)
theorem c_X7_whoAsks {r : Nat} {o : Option (Nat × Nat)} (hl : okL l) (hL : rL M l) (hv : v < l.1) (hrv : r.testBit v = true) (hf : M 98 5 = optD (o.map (·.1))) (ho : ∀ q, o = some q → q.1 < 2 ^ 31 ∧ ∀ p, p < 3 → M 105 p = nI (setA r l.2.1 l.1 q.2 p)) (hQ : Q (some (.int (match o with | none => (-4) | some q => nI (whoA r l.2.1 l.1 q.2 v)))) SF M) : xC G mX7_whoAsks (d + 1) 0 0 [.ref (G.1 + 98), .int (nI v)] SF M Q := by
  have s0 := sh98
  have s5 := sh105
  have l0 := sh18
  have h7 := hl.1.2
  have h3 := hl.2.1
  have e6 := hL.2.1
  refine xC_intro [some (.ref (G.1 + 98)), some (.int (nI v)), none] rfl (by decide) (Nat.le_of_ble_eq_true rfl) ?_
  cases o with
  | none =>
    refine xs_aload eX7_whoAsks_0 rfl ?_
    refine xs_getI eX7_whoAsks_1 (by assumption) (by rfl) ?_
    refine xs_eq1 hf ?_
    refine xs_K eX7_whoAsks_4 ?_
    refine xs_icmp_ne eX7_whoAsks_6 (fun h => absurd h (fun h => h rfl)) (fun h6 => ?_)
    refine xs_K eX7_whoAsks_9 ?_
    exact xs_iretI eX7_whoAsks_11 rfl (hQ)
  | some q =>
    obtain ⟨hq1, hq2⟩ := ho q rfl
    have hne : (nI q.1 : Int32) ≠ -4 := fun e => by
      have := (optD_4 (o := some q.1) (fun m hm => by cases hm; exact hq1)).mp e
      cases this
    have hwl := whoA_lt (r := r) (nv := l.1) (code := q.2) (v := v) h3.1
    refine xs_aload eX7_whoAsks_0 rfl ?_
    refine xs_getI eX7_whoAsks_1 (by assumption) (by rfl) ?_
    refine xs_eq1 (z := nI q.1) hf ?_
    refine xs_K eX7_whoAsks_4 ?_
    refine xs_icmp_ne eX7_whoAsks_6 (fun h6 => ?_) (fun h => absurd h (hne))
    refine xs_K eX7_whoAsks_12 ?_
    refine xs_istore eX7_whoAsks_13 (Nat.le_of_ble_eq_true rfl) rfl rfl ?_
    refine dn (P := fun p => p ≤ whoA r l.2.1 l.1 q.2 v → xW G mX7_whoAsks (d + 1) 0 0 Q 14 [some (.ref (G.1 + 98)), some (.int (nI v)), some (.int (nI p))] [] SF M) l.2.1 ?_ ?_ 0 (by omega) (by omega)
    · intro h; omega
    · intro p hp ih hle
      have hb : bt (M 105 p) v = decide (whoA r l.2.1 l.1 q.2 v = p) := by rw [hq2 p (by omega), bt_nI (by omega), setA_bt h7 hv, hrv, Bool.true_and]
      refine xs_iload eX7_whoAsks_14 rfl ?_
      refine xs_aload eX7_whoAsks_15 rfl ?_
      refine xs_getR eX7_whoAsks_16 (by assumption) (by rfl) ?_
      refine xs_getI eX7_whoAsks_19 (by assumption) (by rfl) ?_
      refine xs_eq1 e6 ?_
      refine xs_N_ge eX7_whoAsks_22 (by omega) (by omega) (fun h => absurd h (by omega)) (fun h22 => ?_)
      refine xs_aload eX7_whoAsks_25 rfl ?_
      refine xs_getR eX7_whoAsks_26 (by assumption) (by rfl) ?_
      refine xs_iload eX7_whoAsks_29 rfl ?_
      refine xs_iald eX7_whoAsks_30 (by assumption) (by omega) (by decide) ?_
      refine xs_iload eX7_whoAsks_31 rfl ?_
      refine xs_ishr eX7_whoAsks_32 ?_
      refine xs_K eX7_whoAsks_33 ?_
      refine xs_iand eX7_whoAsks_34 ?_
      refine xs_eq1 ((bt_ask _ (by omega)).trans (by rw [hb])) ?_
      refine xs_ifeqB eX7_whoAsks_35 (fun h35 => ?_) (fun h35 => ?_)
      · refine xs_inc1 eX7_whoAsks_40 rfl rfl rfl ?_
        refine xs_goto eX7_whoAsks_43 ?_
        exact ih (by have := of_decide_eq_false h35; omega)
      · refine xs_iload eX7_whoAsks_38 rfl ?_
        exact xs_iretI eX7_whoAsks_39 rfl (Qev hQ (by show nI (whoA r l.2.1 l.1 q.2 v) = nI p; rw [of_decide_eq_true h35]))
theorem c_X9_soonest (hN : N ≤ 600) (hR : repC w M) (hok : okX N w) (hQ : ∀ M1, hiK M M1 → repC w M1 → Q (some (.int (spSoon w y))) SF M1) : xC G mX9_soonest (d + 9) 0 0 [.ref (G.1 + 0), .int y] SF M Q := by
  have s0 := sh0
  have s98 := sh98
  have b0 := bk0 isBk31
  have isb := isBk31
  obtain ⟨-, hL, hB, -⟩ := id hR
  have hn := hL.1
  have hl := hok.2.1
  have hob := hok.2.2.1
  have h7 := hl.1.2
  have hr := restN_lt (ib := w.2.2.1.1) h7
  unfold spSoon at hQ
  dsimp only at hQ
  refine xC_intro [some (.ref (G.1 + 0)), some (.int y)] rfl (by decide) (Nat.le_of_ble_eq_true rfl) ?_
  have fr : ∀ M1, shF M M1 → hiK M M1 ∧ repC w M1 := fun M1 h => ⟨fun a ha => h a (by omega), repC_scr hR (fun a ha hs => h a (by unfold scr at hs; omega))⟩
  have bl : ∀ q, bsA w.2.1 w.2.2.1 (restN w.2.1.1 w.2.2.1.1) (w.2.1.2.1 ^ pc7 (restN w.2.1.1 w.2.2.1.1)) = some q → q.1 < 2 ^ 31 := fun q hq => by
    have := dyA_le hl hob hl.2.1.2 (bsA_lt hq).2
    omega
  by_cases e : y = -1
  · subst e
    refine xs_iload eX9_soonest_0 rfl ?_
    refine xs_K eX9_soonest_1 ?_
    refine xs_icmp_eq eX9_soonest_2 (fun h2 => ?_) (fun h => absurd (rfl) h)
    refine xs_iload eX9_soonest_15 rfl ?_
    refine xs_K eX9_soonest_16 ?_
    refine xs_icmp_eq eX9_soonest_17 (fun h17 => ?_) (fun h => absurd (rfl) h)
    refine xs_aload eX9_soonest_34 rfl ?_
    refine xs_getR eX9_soonest_35 (by assumption) (by rfl) ?_
    refine xs_aload eX9_soonest_38 rfl ?_
    refine xs_getR eX9_soonest_39 (by assumption) (by rfl) ?_
    refine xs_callV1v eX9_soonest_42 (by assumption) (Nat.le_of_ble_eq_true rfl) (c_X7_seek (b := w.2.2.1) (dy := 121 * N) hl hL hB hob (by omega) (fun M1 f1 f2 f3 => ⟨rfl, ?_⟩))
    refine xs_iload eX9_soonest_45 rfl ?_
    refine xs_K eX9_soonest_46 ?_
    refine xs_icmp_ne eX9_soonest_47 (fun h => absurd h (fun h => h rfl)) (fun h47 => ?_)
    refine xs_aload eX9_soonest_50 rfl ?_
    refine xs_getR eX9_soonest_51 (by assumption) (by rfl) ?_
    refine xs_getI eX9_soonest_54 (by assumption) (by rfl) ?_
    refine xs_eq1 f2 ?_
    have hq := hQ M1 (fr M1 f1).1 (fr M1 f1).2
    rw [if_pos rfl] at hq
    refine xs_goto eX9_soonest_57 ?_
    exact xs_iretI eX9_soonest_68 rfl (Qev hq (by cases bsA w.2.1 w.2.2.1 (restN w.2.1.1 w.2.2.1.1) (w.2.1.2.1 ^ pc7 (restN w.2.1.1 w.2.2.1.1)) <;> rfl))
  · simp only [if_neg e] at hQ
    have K15 : inN y w.2.1.1 = true → xW G mX9_soonest (d + 9) 0 0 Q 15 [some (.ref (G.1 + 0)), some (.int y)] [] SF M := by
      intro q1
      obtain ⟨v, hv, rfl⟩ := inN_of (by omega) q1
      rw [nI_clamp (by omega)] at hQ
      simp only [q1, if_true] at hQ
      have hbb := rB_bt hB (show v < 7 by omega)
      refine xs_iload eX9_soonest_15 rfl ?_
      refine xs_K eX9_soonest_16 ?_
      refine xs_icmp_eq eX9_soonest_17 (fun h => absurd h (e)) (fun h17 => ?_)
      refine xs_aload eX9_soonest_20 rfl ?_
      refine xs_getR eX9_soonest_21 (by assumption) (by rfl) ?_
      refine xs_iload eX9_soonest_24 rfl ?_
      refine xs_callV1i eX9_soonest_25 (by assumption) (Nat.le_of_ble_eq_true rfl) (c_X0_holds isb (by omega) ⟨_, rfl, ?_⟩)
      rw [hbb.1]
      refine xs_ifeqB eX9_soonest_28 (fun h28 => ?_) (fun h28 => ?_)
      · have hrv : (restN w.2.1.1 w.2.2.1.1).testBit v = true := by rw [restN_bt h7 (by omega), h28]; simp [hv]
        refine xs_aload eX9_soonest_34 rfl ?_
        refine xs_getR eX9_soonest_35 (by assumption) (by rfl) ?_
        refine xs_aload eX9_soonest_38 rfl ?_
        refine xs_getR eX9_soonest_39 (by assumption) (by rfl) ?_
        refine xs_callV1v eX9_soonest_42 (by assumption) (Nat.le_of_ble_eq_true rfl) (c_X7_seek (b := w.2.2.1) (dy := 121 * N) hl hL hB hob (by omega) (fun M1 f1 f2 f3 => ⟨rfl, ?_⟩))
        refine xs_iload eX9_soonest_45 rfl ?_
        refine xs_K eX9_soonest_46 ?_
        refine xs_icmp_ne eX9_soonest_47 (fun h47 => ?_) (fun h => absurd h (e))
        refine xs_aload eX9_soonest_60 rfl ?_
        refine xs_getR eX9_soonest_61 (by assumption) (by rfl) ?_
        refine xs_iload eX9_soonest_64 rfl ?_
        refine xs_callV1i eX9_soonest_65 (by assumption) (Nat.le_of_ble_eq_true rfl) (c_X7_whoAsks (o := bsA w.2.1 w.2.2.1 (restN w.2.1.1 w.2.2.1.1) (w.2.1.2.1 ^ pc7 (restN w.2.1.1 w.2.2.1.1))) hl (rL_keep hL (fun a _ _ => f1 a (by omega))) hv hrv f2 (fun q hq => ⟨bl q hq, f3 q hq⟩) ⟨_, rfl, ?_⟩)
        have hq := hQ M1 (fr M1 f1).1 (fr M1 f1).2
        simp only [h28, Bool.false_eq_true, if_false] at hq
        exact xs_iretI eX9_soonest_68 rfl (hq)
      · have hq := hQ M (fun _ _ => rfl) hR
        simp only [h28, if_true] at hq
        refine xs_K eX9_soonest_31 ?_
        exact xs_iretI eX9_soonest_33 rfl (hq)
    refine xs_iload eX9_soonest_0 rfl ?_
    refine xs_K eX9_soonest_1 ?_
    refine xs_icmp_eq eX9_soonest_2 (fun h => absurd h (e)) (fun h2 => ?_)
    refine xs_aload eX9_soonest_5 rfl ?_
    refine xs_iload eX9_soonest_6 rfl ?_
    refine xs_callV1i eX9_soonest_7 (by assumption) (Nat.le_of_ble_eq_true rfl) (c_X9_isVillage (by assumption) ⟨_, rfl, ?_⟩)
    refine xs_ifneB eX9_soonest_10 (fun h10 => ?_) (fun h10 => ?_)
    · exact K15 h10
    · refine xs_K eX9_soonest_13 ?_
      exact xs_iretI eX9_soonest_14 rfl (by have h9 := hQ M (fun _ _ => rfl) hR; simp only [h10, Bool.false_eq_true, if_false] at h9; exact h9)
end S5

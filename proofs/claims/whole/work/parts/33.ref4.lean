/-! THE REFERENCE, fourth part: check, strike, known, ask, undo, keep, back -/
section R4
variable {G : xGl} {d N base dy : Nat} {w : aX} {l : aLd} {b : aBk} {M : xMem} {S : List xSh} {Q : Option Value → List xSh → xMem → Prop} {y y1 y2 : Int32}
theorem c_X10_canCheck {v : Nat} (hS : rS M base b) (hb : base ≤ 242) (hv : v < 32) (hQ : Q (some (.int (bI (b.1.testBit v && !b.2.1.testBit v)))) SF M) : xC G mX10_canCheck (d + 1) 0 0 [.ref (G.1 + 156), .int (nI base), .int (nI v)] SF M Q := by
  have s0 := sh156
  have s1 := sh162
  have hbt := rS_bt hS hv
  refine xC_intro [some (.ref (G.1 + 156)), some (.int (nI base)), some (.int (nI v))] rfl (by decide) (Nat.le_of_ble_eq_true rfl) ?_
  refine xs_aload eX10_canCheck_0 rfl ?_
  refine xs_getR eX10_canCheck_1 (by assumption) (by rfl) ?_
  refine xs_iload eX10_canCheck_4 rfl ?_
  refine xs_K eX10_canCheck_5 ?_
  refine xs_iadd eX10_canCheck_7 ?_
  refine xs_eq1 (nI_add base 14) ?_
  refine xs_iald eX10_canCheck_8 (by assumption) (by omega) (by decide) ?_
  refine xs_aload eX10_canCheck_9 rfl ?_
  refine xs_getR eX10_canCheck_10 (by assumption) (by rfl) ?_
  refine xs_iload eX10_canCheck_13 rfl ?_
  refine xs_K eX10_canCheck_14 ?_
  refine xs_iadd eX10_canCheck_16 ?_
  refine xs_eq1 (nI_add base 15) ?_
  refine xs_iald eX10_canCheck_17 (by assumption) (by omega) (by decide) ?_
  refine xs_K eX10_canCheck_18 ?_
  refine xs_ixor eX10_canCheck_19 ?_
  refine xs_iand eX10_canCheck_20 ?_
  refine xs_iload eX10_canCheck_21 rfl ?_
  refine xs_callS2i eX10_canCheck_22 (Nat.le_of_ble_eq_true rfl) (c_X10_has (by omega) ⟨_, rfl, ?_⟩)
  exact xs_iret eX10_canCheck_25 rfl (by first | exact bI_nar _ | rfl) (Qev hQ (by rw [b_and, bt_not _ hv, hbt.1, hbt.2]))
theorem c_X10_checked {v : Nat} (hS : rS M base b) (hc : b.2.1 < 128) (hb : base ≤ 242) (hv : v < 7) (hQ : ∀ M1, sK base M M1 → rS M1 base (checkB b v) → Q none SF M1) : xC G mX10_checked d 0 0 [.ref (G.1 + 156), .int (nI base), .int (nI v)] SF M Q := by
  have s0 := sh156
  have s1 := sh162
  have hs := (hS.2.2.1 v hv).1
  have q1 := rS_wr (i := v) (y := b.2.2.1 v) hS hv
  have q2 := rS_ck (y := sbt b.2.1 v) q1
  have hQ1 := hQ _ (sK_tr (sK_up (by omega) (by omega)) (sK_up (by omega) (by omega))) q2
  refine xC_intro [some (.ref (G.1 + 156)), some (.int (nI base)), some (.int (nI v))] rfl (by decide) (Nat.le_of_ble_eq_true rfl) ?_
  refine xs_aload eX10_checked_0 rfl ?_
  refine xs_getR eX10_checked_1 (by assumption) (by rfl) ?_
  refine xs_iload eX10_checked_4 rfl ?_
  refine xs_K eX10_checked_5 ?_
  refine xs_iadd eX10_checked_7 ?_
  refine xs_eq1 (nI_add base 7) ?_
  refine xs_iload eX10_checked_8 rfl ?_
  refine xs_iadd eX10_checked_9 ?_
  refine xs_eq1 (nI_add _ v) ?_
  refine xs_aload eX10_checked_10 rfl ?_
  refine xs_getR eX10_checked_11 (by assumption) (by rfl) ?_
  refine xs_iload eX10_checked_14 rfl ?_
  refine xs_iload eX10_checked_15 rfl ?_
  refine xs_iadd eX10_checked_16 ?_
  refine xs_eq1 (nI_add base v) ?_
  refine xs_iald eX10_checked_17 (by assumption) (by omega) (by decide) ?_
  refine xs_eq1 hs ?_
  refine xs_iast eX10_checked_18 (by assumption) (by omega) (by decide) ?_
  refine xs_aload eX10_checked_19 rfl ?_
  refine xs_getR eX10_checked_20 (by assumption) (by rfl) ?_
  refine xs_iload eX10_checked_23 rfl ?_
  refine xs_K eX10_checked_24 ?_
  refine xs_iadd eX10_checked_26 ?_
  refine xs_eq1 (nI_add base 15) ?_
  refine xs_dup2 eX10_checked_27 rfl rfl ?_
  refine xs_iald eX10_checked_28 (by assumption) (by omega) (by decide) ?_
  refine xs_eq1 (z := nI b.2.1) q1.2.1 ?_
  refine xs_K eX10_checked_29 ?_
  refine xs_iload eX10_checked_30 rfl ?_
  refine xs_ishl eX10_checked_31 ?_
  refine xs_ior eX10_checked_32 ?_
  refine xs_eq1 (bon_nI _ hc v hv).1 ?_
  refine xs_iast eX10_checked_33 (by assumption) (by omega) (by decide) ?_
  exact xs_vret eX10_checked_34 rfl (hQ1)
theorem c_X10_struck {v : Nat} (hS : rS M base b) (hi : b.1 < 128) (hc : b.2.1 < 128) (hb : base ≤ 242) (hv : v < 7) (hQ : ∀ M1, sK base M M1 → rS M1 base (strikeB b v) → Q none SF M1) : xC G mX10_struck d 0 0 [.ref (G.1 + 156), .int (nI base), .int (nI v)] SF M Q := by
  have s0 := sh156
  have s1 := sh162
  have q1 := rS_ib (y := cbt b.1 v) hS
  have q2 := rS_ck (y := cbt b.2.1 v) q1
  have hQ1 := hQ _ (sK_tr (sK_up (by omega) (by omega)) (sK_up (by omega) (by omega))) q2
  refine xC_intro [some (.ref (G.1 + 156)), some (.int (nI base)), some (.int (nI v))] rfl (by decide) (Nat.le_of_ble_eq_true rfl) ?_
  refine xs_aload eX10_struck_0 rfl ?_
  refine xs_getR eX10_struck_1 (by assumption) (by rfl) ?_
  refine xs_iload eX10_struck_4 rfl ?_
  refine xs_K eX10_struck_5 ?_
  refine xs_iadd eX10_struck_7 ?_
  refine xs_eq1 (nI_add base 14) ?_
  refine xs_dup2 eX10_struck_8 rfl rfl ?_
  refine xs_iald eX10_struck_9 (by assumption) (by omega) (by decide) ?_
  refine xs_eq1 hS.1 ?_
  refine xs_K eX10_struck_10 ?_
  refine xs_iload eX10_struck_11 rfl ?_
  refine xs_ishl eX10_struck_12 ?_
  refine xs_K eX10_struck_13 ?_
  refine xs_ixor eX10_struck_14 ?_
  refine xs_iand eX10_struck_15 ?_
  refine xs_eq1 (boff_nI _ hi v hv).1 ?_
  refine xs_iast eX10_struck_16 (by assumption) (by omega) (by decide) ?_
  refine xs_aload eX10_struck_17 rfl ?_
  refine xs_getR eX10_struck_18 (by assumption) (by rfl) ?_
  refine xs_iload eX10_struck_21 rfl ?_
  refine xs_K eX10_struck_22 ?_
  refine xs_iadd eX10_struck_24 ?_
  refine xs_eq1 (nI_add base 15) ?_
  refine xs_dup2 eX10_struck_25 rfl rfl ?_
  refine xs_iald eX10_struck_26 (by assumption) (by omega) (by decide) ?_
  refine xs_eq1 (z := nI b.2.1) q1.2.1 ?_
  refine xs_K eX10_struck_27 ?_
  refine xs_iload eX10_struck_28 rfl ?_
  refine xs_ishl eX10_struck_29 ?_
  refine xs_K eX10_struck_30 ?_
  refine xs_ixor eX10_struck_31 ?_
  refine xs_iand eX10_struck_32 ?_
  refine xs_eq1 (boff_nI _ hc v hv).1 ?_
  refine xs_iast eX10_struck_33 (by assumption) (by omega) (by decide) ?_
  exact xs_vret eX10_struck_34 rfl (hQ1)
def shM (M : xMem) (i : Nat) : xMem := setR M 162 (fun j => if 22 ≤ j ∧ j < i then M 162 (j + 22) else M 162 j)
theorem c_X10_known (hR : repM w M) (hok : okX N w) (hQ : ∀ M1, loK M M1 → repM (w.1, w.2.1, w.2.2.1, pastX w, w.2.2.2.2) M1 → Q none SF M1) : xC G mX10_known (d + 1) 0 0 [.ref (G.1 + 156)] SF M Q := by
  have s0 := sh156
  have s1 := sh162
  obtain ⟨⟨t1, t2⟩, r1, r2, ⟨r3, r3b⟩, ⟨r4, r4b⟩, ⟨r5, r6⟩⟩ := id hR
  have h8 := hok.2.2.2.1.1
  have h2 := hok.2.2.2.2.1.1
  have K : ∀ (M2 : xMem) (n : Nat) (L : Option Value), n < 8 → M2 156 10 = nI n → (∀ j, j ≠ 10 → M2 156 j = M 156 j) → (∀ a, a ≠ 156 → a ≠ 162 → M2 a = M a) → (∀ j, j < 22 ∨ 176 ≤ j → M2 162 j = M 162 j) → (pastX w).length = n + 1 → (∀ i k, (pastX w)[i + 1]? = some k → rS M2 (22 * (n - i)) k) → xW G mX10_known (d + 1) 0 0 Q 46 [some (.ref (G.1 + 156)), L] [] SF M2 := by
    intro M2 n L hn e1 e2 e3 e4 hp1 hp2
    have e5 : up2 M2 156 10 (nI (n + 1)) 156 10 = nI (n + 1) := by rw [up2_row]; simp [upd]
    have e6 : ∀ j, j ≠ 10 → cpS (up2 M2 156 10 (nI (n + 1))) 0 (22 * (n + 1)) 156 j = M 156 j := fun j hj => by rw [cpS_k.1 156 (by decide), up2_row]; simp only [upd]; rw [if_neg hj]; exact e2 j hj
    have e7 : ∀ a, a ≠ 156 → a ≠ 162 → cpS (up2 M2 156 10 (nI (n + 1))) 0 (22 * (n + 1)) a = M a := fun a h1 h2 => by rw [cpS_k.1 a h2, up2_ne h1]; exact e3 a h1 h2
    have e8 : ∀ j, j < 22 * (n + 1) ∨ 22 * (n + 1) + 22 ≤ j → cpS (up2 M2 156 10 (nI (n + 1))) 0 (22 * (n + 1)) 162 j = M2 162 j := fun j hj => by rw [cpS_k.2 j hj, up2_ne (by decide)]
    have hQ1 := hQ (cpS (up2 M2 156 10 (nI (n + 1))) 0 (22 * (n + 1))) (fun a ha => e7 a (by omega) (by omega)) ⟨⟨by rw [e6 12 (by decide)]; exact t1, fun j hj => by rw [e7 163 (by decide) (by decide)]; exact t2 j hj⟩, rLm_keep r1 (e6 0 (by decide)) (e6 2 (by decide)) (e7 157 (by decide) (by decide)) (e7 158 (by decide) (by decide)) (e7 159 (by decide) (by decide)), rS_keep r2 (fun j j1 j2 => (e8 j (by omega)).trans (e4 j (by omega))), ⟨by rw [cpS_k.1 156 (by decide), e5, hp1], fun i k hi => ?_⟩, ⟨by rw [e6 11 (by decide)]; exact r4, fun i k hi => ?_⟩, ⟨by rw [e6 17 (by decide)]; exact r5, fun i k hi => by rw [e7 164 (by decide) (by decide), e7 165 (by decide) (by decide)]; exact r6 i k hi⟩⟩
    refine xs_aload eX10_known_46 rfl ?_
    refine xs_dup eX10_known_47 rfl ?_
    refine xs_getI eX10_known_48 (by assumption) (by rfl) ?_
    refine xs_eq1 e1 ?_
    refine xs_K eX10_known_51 ?_
    refine xs_iadd eX10_known_52 ?_
    refine xs_eq1 (nI_add n 1) ?_
    refine xs_putI eX10_known_53 (by assumption) (by rfl) rfl rfl ?_
    refine xs_aload eX10_known_56 rfl ?_
    refine xs_K eX10_known_57 ?_
    refine xs_aload eX10_known_58 rfl ?_
    refine xs_getI eX10_known_59 (by assumption) (by rfl) ?_
    refine xs_eq1 e5 ?_
    refine xs_K eX10_known_62 ?_
    refine xs_imul eX10_known_64 ?_
    refine xs_eq1 (z := nI (22 * (n + 1))) (by rw [show nI 22 = nI 22 from rfl, pk_mul, Nat.mul_comm]) ?_
    refine xs_callV2v eX10_known_65 (by assumption) (Nat.le_of_ble_eq_true rfl) (c_X10_copied (by omega) (by omega) (by omega) ⟨rfl, ?_⟩)
    exact xs_vret eX10_known_68 rfl (hQ1)
    · have hlt := (List.getElem?_eq_some_iff.mp hi).1
      show rS _ (22 * ((pastX w).length - i)) k
      have hlt : i < (pastX w).length := hlt
      rw [hp1] at hlt ⊢
      rcases i with _ | i
      · have hk : w.2.2.1 = k := by
          have : (pastX w)[0]? = some w.2.2.1 := by simp [pastX]
          rw [show (pastX w)[0]? = some k from hi] at this
          cases this
          rfl
        subst hk
        exact rS_cp (rS_keep r2 (fun j j1 j2 => by rw [up2_ne (by decide)]; exact e4 j (by omega)))
      · rw [show n + 1 - (i + 1) = n - i by omega]
        exact rS_keep (hp2 i k hi) (fun j j1 j2 => e8 j (by omega))
    · have hlt := (List.getElem?_eq_some_iff.mp hi).1
      have hlt : i < w.2.2.2.2.1.length := hlt
      exact rS_keep (r4b i k hi) (fun j j1 j2 => (e8 j (by omega)).trans (e4 j (by omega)))
  refine xC_intro [some (.ref (G.1 + 156)), none] rfl (by decide) (Nat.le_of_ble_eq_true rfl) ?_
  by_cases e : w.2.2.2.1.length = 8
  · refine xs_aload eX10_known_0 rfl ?_
    refine xs_getI eX10_known_1 (by assumption) (by rfl) ?_
    refine xs_eq1 r3 ?_
    refine xs_K eX10_known_4 ?_
    refine xs_N_ne eX10_known_6 (by omega) (by omega) (fun h => absurd h (by omega)) (fun h6 => ?_)
    refine xs_K eX10_known_9 ?_
    refine xs_istore eX10_known_11 (Nat.le_of_ble_eq_true rfl) rfl rfl ?_
    refine xs_eqM (M1 := shM M (22 + 0)) (by unfold shM; funext a; by_cases e : a = 162; subst e; rw [setR_row]; funext j; rw [if_neg (by omega)]; rw [setR_ne e]) ?_
    refine dn (P := fun i => xW G mX10_known (d + 1) 0 0 Q 12 [some (.ref (G.1 + 156)), some (.int (nI (22 + i)))] [] SF (shM M (22 + i))) 154 ?_ ?_ 0 (by omega)
    · refine xs_iload eX10_known_12 rfl ?_
      refine xs_K eX10_known_13 ?_
      refine xs_N_ge eX10_known_16 (by omega) (by omega) (fun h16 => ?_) (fun h => absurd h (by omega))
      refine xs_aload eX10_known_40 rfl ?_
      refine xs_K eX10_known_41 ?_
      refine xs_putI eX10_known_43 (by assumption) (by rfl) rfl rfl ?_
      refine K _ 7 _ (by omega) (by rw [up2_row]; simp [upd]) (fun j hj => ?_) (fun a h1 h2 => ?_) (fun j hj => ?_) ?_ (fun i k hi => ?_)
      · rw [up2_row]; simp only [upd]; rw [if_neg hj, shM, setR_ne (by decide)]
      · rw [up2_ne h1, shM, setR_ne h2]
      · rw [up2_ne (by decide), shM, setR_row, if_neg (by omega)]
      · simp [pastX, e]
      · have hlt := (List.getElem?_eq_some_iff.mp hi).1
        have hl9 : (pastX w).length = 8 := by simp [pastX, e]
        have hi9 : i < 7 := by omega
        have hk : w.2.2.2.1[i]? = some k := by
          rw [pastX, List.getElem?_take, if_pos (by omega)] at hi
          simpa using hi
        have hr := r3b i k hk
        rw [e] at hr
        obtain ⟨g1, g2, g3, g4⟩ := hr
        have ee : ∀ j, 22 * (7 - i) ≤ j → j < 22 * (7 - i) + 22 → up2 (shM M (22 + 154)) 156 10 (nI 7) 162 j = M 162 (j + 22) := fun j j1 j2 => by rw [up2_ne (by decide), shM, setR_row, if_pos (by omega)]
        have e9 : 22 * (8 - i) = 22 * (7 - i) + 22 := by omega
        rw [e9] at g1 g2 g3 g4
        refine ⟨by rw [ee _ (by omega) (by omega), show 22 * (7 - i) + 14 + 22 = 22 * (7 - i) + 22 + 14 by omega]; exact g1, by rw [ee _ (by omega) (by omega), show 22 * (7 - i) + 15 + 22 = 22 * (7 - i) + 22 + 15 by omega]; exact g2, fun v hv => ⟨?_, ?_⟩, fun p hp => ⟨?_, ?_⟩⟩
        · rw [ee _ (by omega) (by omega), show 22 * (7 - i) + v + 22 = 22 * (7 - i) + 22 + v by omega]; exact (g3 v hv).1
        · rw [ee _ (by omega) (by omega), show 22 * (7 - i) + 7 + v + 22 = 22 * (7 - i) + 22 + 7 + v by omega]; exact (g3 v hv).2
        · rw [ee _ (by omega) (by omega), show 22 * (7 - i) + 16 + p + 22 = 22 * (7 - i) + 22 + 16 + p by omega]; exact (g4 p hp).1
        · rw [ee _ (by omega) (by omega), show 22 * (7 - i) + 19 + p + 22 = 22 * (7 - i) + 22 + 19 + p by omega]; exact (g4 p hp).2
    · intro i hi ih
      refine xs_iload eX10_known_12 rfl ?_
      refine xs_K eX10_known_13 ?_
      refine xs_N_ge eX10_known_16 (by omega) (by omega) (fun h => absurd h (by omega)) (fun h16 => ?_)
      refine xs_aload eX10_known_19 rfl ?_
      refine xs_getR eX10_known_20 (by assumption) (by rfl) ?_
      refine xs_iload eX10_known_23 rfl ?_
      refine xs_aload eX10_known_24 rfl ?_
      refine xs_getR eX10_known_25 (by assumption) (by rfl) ?_
      refine xs_iload eX10_known_28 rfl ?_
      refine xs_K eX10_known_29 ?_
      refine xs_iadd eX10_known_31 ?_
      refine xs_eq1 (nI_add _ 22) ?_
      refine xs_iald eX10_known_32 (by assumption) (by omega) (by decide) ?_
      refine xs_iast eX10_known_33 (by assumption) (by omega) (by decide) ?_
      refine xs_inc1 eX10_known_34 rfl rfl rfl ?_
      refine xs_goto eX10_known_37 ?_
      refine xs_eqM ?_ ih
      unfold shM
      funext a
      by_cases e : a = 162
      · subst e
        rw [up2_row, setR_row, setR_row]
        funext j
        simp only [upd]
        by_cases e2 : j = 22 + i
        · rw [if_pos e2, if_neg (by omega), if_pos (by omega), e2]
        · rw [if_neg e2]
          have e3 : (22 ≤ j ∧ j < 22 + i) = (22 ≤ j ∧ j < 22 + (i + 1)) := propext (by omega)
          simp only [e3]
      · rw [up2_ne e, setR_ne e, setR_ne e]
  · refine xs_aload eX10_known_0 rfl ?_
    refine xs_getI eX10_known_1 (by assumption) (by rfl) ?_
    refine xs_eq1 r3 ?_
    refine xs_K eX10_known_4 ?_
    refine xs_N_ne eX10_known_6 (by omega) (by omega) (fun h6 => ?_) (fun h => absurd h (by omega))
    refine K M w.2.2.2.1.length _ (by omega) r3 (fun _ _ => rfl) (fun _ _ _ => rfl) (fun _ _ => rfl) ?_ (fun i k hi => ?_)
    · simp [pastX]; omega
    · have hk : w.2.2.2.1[i]? = some k := by
        rw [pastX, List.getElem?_take] at hi
        split at hi
        · simpa using hi
        · cases hi
      exact r3b i k hk
end R4

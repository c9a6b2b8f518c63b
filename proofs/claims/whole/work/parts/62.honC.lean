/-! honest of the class -/
theorem isBk151 : isBk 151 := by unfold isBk; decide
section HC
variable {G : xGl} {d N c p v : Nat} {w : aX} {l : aLd} {b : aBk} {M : xMem} {S : List xSh} {Q : Option Value → List xSh → xMem → Prop} {y y1 y2 y3 : Int32}
theorem c_X1_weightOf {a o x : Nat} (hx : x ≤ 10) (hQ : Q (some (.int (nI (wtF a o x 7)))) S M) : xC G mX1_weightOf d 0 0 [.int (nI a), .int (nI o), .int (nI x)] S M Q := by
  refine xC_intro [some (.int (nI a)), some (.int (nI o)), some (.int (nI x)), none, none] rfl (by decide) (Nat.le_of_ble_eq_true rfl) ?_
  refine xs_K eX1_weightOf_0 ?_
  refine xs_istore eX1_weightOf_1 (Nat.le_of_ble_eq_true rfl) rfl rfl ?_
  refine xs_K eX1_weightOf_2 ?_
  refine xs_istore eX1_weightOf_3 (Nat.le_of_ble_eq_true rfl) rfl rfl ?_
  refine dn (P := fun i => xW G mX1_weightOf d 0 0 Q 5 [some (.int (nI a)), some (.int (nI o)), some (.int (nI x)), some (.int (nI (wtF a o x i))), some (.int (nI i))] [] S M) 7 ?_ ?_ 0 (by omega)
  · refine xs_iload eX1_weightOf_5 rfl ?_
    refine xs_K eX1_weightOf_7 ?_
    refine xs_N_ge eX1_weightOf_9 (by omega) (by omega) (fun h9 => ?_) (fun h => absurd h (by omega))
    refine xs_iload eX1_weightOf_50 rfl ?_
    exact xs_iretI eX1_weightOf_51 rfl (hQ)
  · intro i hi ih
    rw [wtF] at ih
    refine xs_iload eX1_weightOf_5 rfl ?_
    refine xs_K eX1_weightOf_7 ?_
    refine xs_N_ge eX1_weightOf_9 (by omega) (by omega) (fun h => absurd h (by omega)) (fun h9 => ?_)
    refine xs_iload eX1_weightOf_12 rfl ?_
    refine xs_iload eX1_weightOf_13 rfl ?_
    refine xs_ishr eX1_weightOf_15 ?_
    refine xs_K eX1_weightOf_16 ?_
    refine xs_iand eX1_weightOf_17 ?_
    refine xs_eq1 ((bt_ask _ (by omega)).trans (by rw [bt_nI (by omega)])) ?_
    refine xs_ifeqB eX1_weightOf_18 (fun h18 => ?_) (fun h18 => ?_)
    · refine xs_iload eX1_weightOf_28 rfl ?_
      refine xs_iload eX1_weightOf_29 rfl ?_
      refine xs_ishr eX1_weightOf_31 ?_
      refine xs_K eX1_weightOf_32 ?_
      refine xs_iand eX1_weightOf_33 ?_
      refine xs_eq1 ((bt_ask _ (by omega)).trans (by rw [bt_nI (by omega)])) ?_
      refine xs_ifeqB eX1_weightOf_34 (fun h34 => ?_) (fun h34 => ?_)
      · refine xs_inc1 eX1_weightOf_44 rfl rfl rfl ?_
        refine xs_goto eX1_weightOf_47 ?_
        simp only [h18, h34, Bool.false_eq_true, if_false] at ih
        exact ih
      · refine xs_iload eX1_weightOf_37 rfl ?_
        refine xs_K eX1_weightOf_38 ?_
        refine xs_iload eX1_weightOf_40 rfl ?_
        refine xs_isub eX1_weightOf_41 ?_
        refine xs_eq1 (pk_sub (by omega)) ?_
        refine xs_imul eX1_weightOf_42 ?_
        refine xs_eq1 (pk_mul _ _) ?_
        refine xs_istore eX1_weightOf_43 (Nat.le_of_ble_eq_true rfl) rfl rfl ?_
        refine xs_inc1 eX1_weightOf_44 rfl rfl rfl ?_
        refine xs_goto eX1_weightOf_47 ?_
        simp only [h18, h34, Bool.false_eq_true, if_false, if_true] at ih
        exact ih
    · refine xs_iload eX1_weightOf_21 rfl ?_
      refine xs_iload eX1_weightOf_22 rfl ?_
      refine xs_imul eX1_weightOf_23 ?_
      refine xs_eq1 (pk_mul _ _) ?_
      refine xs_istore eX1_weightOf_24 (Nat.le_of_ble_eq_true rfl) rfl rfl ?_
      refine xs_goto eX1_weightOf_25 ?_
      refine xs_inc1 eX1_weightOf_44 rfl rfl rfl ?_
      refine xs_goto eX1_weightOf_47 ?_
      simp only [h18, if_true] at ih
      exact ih
theorem c_X1_commonDivisor {a b : Nat} (ha : a < 2 ^ 31) (hb : b < 2 ^ 31) (hQ : Q (some (.int (nI (Nat.gcd a b)))) S M) : xC G mX1_commonDivisor d 0 0 [.int (nI a), .int (nI b)] S M Q := by
  refine xC_intro [some (.int (nI a)), some (.int (nI b)), none, none, none, none] rfl (by decide) (Nat.le_of_ble_eq_true rfl) ?_
  generalize hg : Nat.gcd a b = g at *
  have hst := stG_ok 32 a b (by omega)
  refine xs_iload eX1_commonDivisor_0 rfl ?_
  refine xs_istore eX1_commonDivisor_1 (Nat.le_of_ble_eq_true rfl) rfl rfl ?_
  refine xs_iload eX1_commonDivisor_2 rfl ?_
  refine xs_istore eX1_commonDivisor_3 (Nat.le_of_ble_eq_true rfl) rfl rfl ?_
  refine xs_K eX1_commonDivisor_4 ?_
  refine xs_istore eX1_commonDivisor_5 (Nat.le_of_ble_eq_true rfl) rfl rfl ?_
  refine dn (P := fun i => ∀ (a1 b1 : Nat) (E : Option Value), stG (64 - i) a1 b1 = true → Nat.gcd a1 b1 = g → a1 < 2 ^ 31 → b1 < 2 ^ 31 → xW G mX1_commonDivisor d 0 0 Q 7 [some (.int (nI a)), some (.int (nI b)), some (.int (nI a1)), some (.int (nI b1)), some (.int (nI i)), E] [] S M) 64 ?_ ?_ 0 (by omega) a b none hst hg ha hb
  · intro a1 b1 E h1 h2 h3 h4
    have h0 : b1 = 0 := of_decide_eq_true h1
    subst h0
    rw [Nat.gcd_zero_right] at h2
    subst h2
    refine xs_iload eX1_commonDivisor_7 rfl ?_
    refine xs_K eX1_commonDivisor_9 ?_
    refine xs_N_ge eX1_commonDivisor_11 (by omega) (by omega) (fun h11 => ?_) (fun h => absurd h (by omega))
    refine xs_iload eX1_commonDivisor_34 rfl ?_
    exact xs_iretI eX1_commonDivisor_35 rfl (hQ)
  · intro i hi ih a1 b1 E h1 h2 h3 h4
    have K0 : b1 = 0 → Q (some (.int (nI a1))) S M := fun e => by
      subst e
      rw [Nat.gcd_zero_right] at h2
      subst h2
      exact hQ
    have K1 : b1 ≠ 0 → nI a1 - nI a1 / nI b1 * nI b1 = nI (a1 % b1) := fun e => pk_rem h3 (by omega) h4
    have K2 : b1 ≠ 0 → stG (64 - (i + 1)) b1 (a1 % b1) = true := fun e => by
      rw [show 64 - i = (64 - (i + 1)) + 1 by omega, stG] at h1
      simpa [e] using h1
    refine xs_iload eX1_commonDivisor_7 rfl ?_
    refine xs_K eX1_commonDivisor_9 ?_
    refine xs_N_ge eX1_commonDivisor_11 (by omega) (by omega) (fun h => absurd h (by omega)) (fun h11 => ?_)
    refine xs_iload eX1_commonDivisor_14 rfl ?_
    refine xs_N0_eq eX1_commonDivisor_15 (by omega) (fun h15 => ?_) (fun h15 => ?_)
    · refine xs_iload eX1_commonDivisor_34 rfl ?_
      exact xs_iretI eX1_commonDivisor_35 rfl (K0 h15)
    · refine xs_iload eX1_commonDivisor_18 rfl ?_
      refine xs_iload eX1_commonDivisor_19 rfl ?_
      refine xs_irem eX1_commonDivisor_20 (nI_ne0 (by omega) h4) ?_
      refine xs_eq1 (K1 h15) ?_
      refine xs_istore eX1_commonDivisor_21 (Nat.le_of_ble_eq_true rfl) rfl rfl ?_
      refine xs_iload eX1_commonDivisor_23 rfl ?_
      refine xs_istore eX1_commonDivisor_24 (Nat.le_of_ble_eq_true rfl) rfl rfl ?_
      refine xs_iload eX1_commonDivisor_25 rfl ?_
      refine xs_istore eX1_commonDivisor_27 (Nat.le_of_ble_eq_true rfl) rfl rfl ?_
      refine xs_inc1 eX1_commonDivisor_28 rfl rfl rfl ?_
      refine xs_goto eX1_commonDivisor_31 ?_
      exact ih b1 (a1 % b1) _ (K2 h15) (gcd_st.trans h2) h4 (by have := Nat.mod_lt a1 (show 0 < b1 by omega); omega)
theorem c_X1_foundWith {t dy : Nat} (hl : okL l) (hL : rL M l) (hB : rE M 31 b) (hb : okB l.1 dy b) (ht : t < 128) (hQ : ∀ M1, (∀ a, a < 151 ∨ 155 < a → M1 a = M a) → Q (some (.int (nI (foundB l.1 (hoB l b t))))) SF M1) : xC G mX1_foundWith (d + 3) 0 0 [.ref (G.1 + 150), .ref (G.1 + 31), .int (nI t)] SF M Q := by
  have s0 := sh150
  have b0 := bk0 isBk31
  have t0 := bk0 isBk151
  have isb := isBk31
  have ist := isBk151
  have l0 := sh18
  have l1 := sh19
  have h7 := hl.1.2
  have hho := okL_ho (t := t) hl ht
  have hrl := restN_lt (ib := b.1) h7
  have hr := fun v (hv : v < l.1) => restN_bt (nv := l.1) (ib := b.1) h7 (show v < 8 by omega)
  unfold hoB at hQ
  generalize restN l.1 b.1 = r at *
  have hon : M 18 7 ||| nI t = nI (l.2.2.2.2.1 ||| t) := by rw [hL.2.2.1, nx_or]
  refine xC_intro [some (.ref (G.1 + 150)), some (.ref (G.1 + 31)), some (.int (nI t)), none, none] rfl (by decide) (Nat.le_of_ble_eq_true rfl) ?_
  refine xs_aload eX1_foundWith_0 rfl ?_
  refine xs_getR eX1_foundWith_1 (by assumption) (by rfl) ?_
  refine xs_getI eX1_foundWith_4 (by assumption) (by rfl) ?_
  refine xs_iload eX1_foundWith_7 rfl ?_
  refine xs_ior eX1_foundWith_8 ?_
  refine xs_eq1 hon ?_
  refine xs_istore eX1_foundWith_9 (Nat.le_of_ble_eq_true rfl) rfl rfl ?_
  refine xs_aload eX1_foundWith_10 rfl ?_
  refine xs_getR eX1_foundWith_11 (by assumption) (by rfl) ?_
  refine xs_aload eX1_foundWith_14 rfl ?_
  refine xs_callV1v eX1_foundWith_15 (by assumption) (Nat.le_of_ble_eq_true rfl) (c_X0_copyEntries ist isb (by decide) ⟨rfl, ?_⟩)
  refine xs_K eX1_foundWith_18 ?_
  refine xs_istore eX1_foundWith_19 (Nat.le_of_ble_eq_true rfl) rfl rfl ?_
  refine dn (P := fun i => ∀ M1, (∀ a, a < 151 ∨ 155 < a → M1 a = M a) → rE M1 151 (runB (hoL l t) b ((List.range i).filter (fun v => r.testBit v))) → okB l.1 dy (runB (hoL l t) b ((List.range i).filter (fun v => r.testBit v))) → xW G mX1_foundWith (d + 3) 0 0 Q 21 [some (.ref (G.1 + 150)), some (.ref (G.1 + 31)), some (.int (nI t)), some (.int (nI (l.2.2.2.2.1 ||| t))), some (.int (nI i))] [] SF M1) l.1 ?_ ?_ 0 (by omega) _ (fun a ha => cpE_ne (by omega)) (rE_cp (by omega) hB) hb
  · intro M1 f1 f2 f3
    rw [bitsL_nv l.1 (by omega) r hrl] at f2 f3
    have hn1 : M1 18 5 = nI l.1 := by rw [f1 18 (by omega)]; exact hL.1
    have hf : foundF l.1 (M1 151 5) (M1 (151 + 2)) = nI (foundB l.1 (runB (hoL l t) b (bitsL r))) := by
      rw [f2.1]
      exact found_nI _ (by omega) (fun v hv => (f2.2.2 v hv).2)
    have hq := hQ M1 f1
    refine xs_iload eX1_foundWith_21 rfl ?_
    refine xs_aload eX1_foundWith_23 rfl ?_
    refine xs_getR eX1_foundWith_24 (by assumption) (by rfl) ?_
    refine xs_getI eX1_foundWith_27 (by assumption) (by rfl) ?_
    refine xs_eq1 hn1 ?_
    refine xs_N_ge eX1_foundWith_30 (by omega) (by omega) (fun h30 => ?_) (fun h => absurd h (by omega))
    refine xs_aload eX1_foundWith_82 rfl ?_
    refine xs_getR eX1_foundWith_83 (by assumption) (by rfl) ?_
    refine xs_callV0i eX1_foundWith_86 (by assumption) (Nat.le_of_ble_eq_true rfl) (c_X0_found (by assumption) (by assumption) (by omega) ⟨_, rfl, ?_⟩)
    rw [hf]
    exact xs_iretI eX1_foundWith_89 rfl (hq)
  · intro i hi ih M1 f1 f2 f3
    have hL1 : rL M1 l := rL_keep hL (fun a _ _ => f1 a (by omega))
    have hn1 := hL1.1
    have hi7 : i < 7 := by omega
    have hri := hr i hi
    rw [decide_eq_true hi, Bool.true_and] at hri
    have hh : bt (M1 31 5) i = b.1.testBit i := by rw [f1 31 (by omega), hB.1]; exact bt_nI (by omega)
    have hru := range_f (r := r) (i := i) (g := fun b v => swearB (hoL l t).2.2.2.1 (hoL l t).2.2.2.2.1 b v ((hoL l t).2.2.1 v)) (a := b)
    have ih2 : ∀ M1, (∀ a, a < 151 ∨ 155 < a → M1 a = M a) → rE M1 151 (if r.testBit i then swearB (hoL l t).2.2.2.1 (hoL l t).2.2.2.2.1 (runB (hoL l t) b ((List.range i).filter (fun v => r.testBit v))) i ((hoL l t).2.2.1 i) else runB (hoL l t) b ((List.range i).filter (fun v => r.testBit v))) → okB l.1 dy (if r.testBit i then swearB (hoL l t).2.2.2.1 (hoL l t).2.2.2.2.1 (runB (hoL l t) b ((List.range i).filter (fun v => r.testBit v))) i ((hoL l t).2.2.1 i) else runB (hoL l t) b ((List.range i).filter (fun v => r.testBit v))) → xW G mX1_foundWith (d + 3) 0 0 Q 21 [some (.ref (G.1 + 150)), some (.ref (G.1 + 31)), some (.int (nI t)), some (.int (nI (l.2.2.2.2.1 ||| t))), some (.int (nI (i + 1)))] [] SF M1 := fun M2 g1 g2 g3 => ih M2 g1 (by unfold runB; rw [hru]; exact g2) (by unfold runB; rw [hru]; exact g3)
    generalize runB (hoL l t) b ((List.range i).filter (fun v => r.testBit v)) = bk at *
    have hne : l.2.2.2.1 i < 128 := Nat.lt_of_lt_of_le (hl.2.2.2.1 i hi7) (pow7 h7)
    have hnr : M1 22 i = nI (l.2.2.2.1 i) := (hL1.2.2.2.1 i hi7).2
    have hkd : M1 19 i = nI (l.2.2.1 i) := (hL1.2.2.2.1 i hi7).1
    have hib : bk.1 < 128 := Nat.lt_of_lt_of_le f3.1 (pow7 h7)
    have han := an_low (v := i) f2.1 hnr hne
    have hE3 := fun kd => rE_swear (kd := kd) (hon := l.2.2.2.2.1 ||| t) ist hi7 f2 hnr hne hib (fun v hv => okB_ox f3 hv)
    have hO3 := okB_swear (hon := l.2.2.2.2.1 ||| t) (kd := (hoL l t).2.2.1 i) h7 f3 hi hne
    have K71 : ∀ kd : Nat, kd = (hoL l t).2.2.1 i → r.testBit i = true → xW G mX1_foundWith (d + 3) 0 0 Q 71 [some (.ref (G.1 + 150)), some (.ref (G.1 + 31)), some (.int (nI t)), some (.int (nI (l.2.2.2.2.1 ||| t))), some (.int (nI i))] [.int (nI kd), .int (nI i), .ref (G.1 + 151)] SF M1 := by
      intro kd hk hri
      have hk5 : kd < 5 := by rw [hk]; exact hho.2.2.1 i hi7
      have hE4 := hE3 kd
      simp only [hri, if_true] at ih2
      subst hk
      refine xs_iload eX1_foundWith_71 rfl ?_
      refine xs_callV3i eX1_foundWith_72 (by assumption) (Nat.le_of_ble_eq_true rfl) (c_X0_swear (hon := nI (l.2.2.2.2.1 ||| t)) ist hi7 hk5 han ⟨_, rfl, ?_⟩)
      refine xs_pop eX1_foundWith_75 rfl ?_
      refine xs_inc1 eX1_foundWith_76 rfl rfl rfl ?_
      refine xs_goto eX1_foundWith_79 ?_
      exact ih2 _ (fun a ha => by rw [swearM_ne (by omega)]; exact f1 a ha) hE4 hO3
    refine xs_iload eX1_foundWith_21 rfl ?_
    refine xs_aload eX1_foundWith_23 rfl ?_
    refine xs_getR eX1_foundWith_24 (by assumption) (by rfl) ?_
    refine xs_getI eX1_foundWith_27 (by assumption) (by rfl) ?_
    refine xs_eq1 hn1 ?_
    refine xs_N_ge eX1_foundWith_30 (by omega) (by omega) (fun h => absurd h (by omega)) (fun h30 => ?_)
    refine xs_aload eX1_foundWith_33 rfl ?_
    refine xs_iload eX1_foundWith_34 rfl ?_
    refine xs_callV1i eX1_foundWith_36 (by assumption) (Nat.le_of_ble_eq_true rfl) (c_X0_holds isb (by omega) ⟨_, rfl, ?_⟩)
    rw [hh]
    refine xs_ifneB eX1_foundWith_39 (fun h39 => ?_) (fun h39 => ?_)
    · refine xs_inc1 eX1_foundWith_76 rfl rfl rfl ?_
      refine xs_goto eX1_foundWith_79 ?_
      rw [hri, h39] at ih2
      exact ih2 M1 f1 f2 f3
    · refine xs_aload eX1_foundWith_42 rfl ?_
      refine xs_getR eX1_foundWith_43 (by assumption) (by rfl) ?_
      refine xs_iload eX1_foundWith_46 rfl ?_
      refine xs_iload eX1_foundWith_48 rfl ?_
      refine xs_iload eX1_foundWith_49 rfl ?_
      refine xs_ishr eX1_foundWith_51 ?_
      refine xs_K eX1_foundWith_52 ?_
      refine xs_iand eX1_foundWith_53 ?_
      refine xs_eq1 ((bt_ask _ (by omega)).trans (by rw [bt_nI (by omega)])) ?_
      refine xs_ifeqB eX1_foundWith_54 (fun h54 => ?_) (fun h54 => ?_)
      · refine xs_aload eX1_foundWith_61 rfl ?_
        refine xs_getR eX1_foundWith_62 (by assumption) (by rfl) ?_
        refine xs_getR eX1_foundWith_65 (by assumption) (by rfl) ?_
        refine xs_iload eX1_foundWith_68 rfl ?_
        refine xs_iald eX1_foundWith_70 (by assumption) (by omega) (by decide) ?_
        refine xs_eq1 hkd ?_
        exact K71 _ (by show _ = (if t.testBit i then 0 else l.2.2.1 i); rw [h54]; rfl) (by rw [hri, h39]; rfl)
      · refine xs_K eX1_foundWith_57 ?_
        refine xs_goto eX1_foundWith_58 ?_
        exact K71 0 (by show _ = (if t.testBit i then 0 else l.2.2.1 i); rw [h54]; rfl) (by rw [hri, h39]; rfl)
end HC

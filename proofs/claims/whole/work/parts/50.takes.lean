/-! THE REFERENCE's askedBy, takes -/
section TK
variable {G : xGl} {d N p v : Nat} {w : aX} {l : aLd} {b : aBk} {M : xMem} {S : List xSh} {Q : Option Value → List xSh → xMem → Prop} {y : Int32}
theorem c_X10_askedBy {code : Nat} (hl : okL l) (hL : rLm M l) (hS : rS M 0 b) (hv : v < l.1) (hc : code < 2 ^ 30) (hQ : Q (some (.int (nI (whoA (restN l.1 b.1) l.2.1 l.1 code v)))) SF M) : xC G mX10_askedBy (d + 1) 0 0 [.ref (G.1 + 156), .int (nI code), .int (nI v)] SF M Q := by
  have s0 := sh156
  have h7 := hl.1.2
  have hp1 := hl.2.1
  have hn := hL.1
  have hnp := hL.2.1
  have nz : ¬ nI l.2.1 = 0 := nI_ne0 (by omega) (by omega)
  have hr := restN_lt (ib := b.1) h7
  refine xC_intro [some (.ref (G.1 + 156)), some (.int (nI code)), some (.int (nI v)), none, none, none] rfl (by decide) (Nat.le_of_ble_eq_true rfl) ?_
  refine xs_aload eX10_askedBy_0 rfl ?_
  refine xs_callV0i eX10_askedBy_1 (by assumption) (Nat.le_of_ble_eq_true rfl) (c_X10_rest hn h7 hS ⟨_, rfl, ?_⟩)
  refine xs_istore eX10_askedBy_4 (Nat.le_of_ble_eq_true rfl) rfl rfl ?_
  refine xs_iload eX10_askedBy_5 rfl ?_
  refine xs_istore eX10_askedBy_6 (Nat.le_of_ble_eq_true rfl) rfl rfl ?_
  refine xs_aload eX10_askedBy_8 rfl ?_
  refine xs_getI eX10_askedBy_9 (by assumption) (by rfl) ?_
  refine xs_eq1 hn ?_
  refine xs_K eX10_askedBy_12 ?_
  refine xs_isub eX10_askedBy_13 ?_
  refine xs_eq1 (z := nI (l.1 - 1 - 0)) (pk_sub (by omega)) ?_
  refine xs_istore eX10_askedBy_14 (Nat.le_of_ble_eq_true rfl) rfl rfl ?_
  generalize restN l.1 b.1 = r at *
  unfold whoA at hQ
  refine dn (P := fun k => xW G mX10_askedBy (d + 1) 0 0 Q 16 [some (.ref (G.1 + 156)), some (.int (nI code)), some (.int (nI v)), some (.int (nI r)), some (.int (nI (lfA r l.2.1 l.1 code k))), some (.int (nI (l.1 - 1 - k)))] [] SF M) (l.1 - 1 - v) ?_ ?_ 0 (by omega)
  · have hlf := lfA_le (r := r) (np := l.2.1) (nv := l.1) (code := code) (l.1 - 1 - v)
    refine xs_iload eX10_askedBy_16 rfl ?_
    refine xs_iload eX10_askedBy_18 rfl ?_
    refine xs_N_le eX10_askedBy_19 (by omega) (by omega) (fun h19 => ?_) (fun h => absurd h (by omega))
    refine xs_iload eX10_askedBy_51 rfl ?_
    refine xs_aload eX10_askedBy_53 rfl ?_
    refine xs_getI eX10_askedBy_54 (by assumption) (by rfl) ?_
    refine xs_eq1 hnp ?_
    refine xs_irem eX10_askedBy_57 (nz) ?_
    refine xs_eq1 (pk_rem (by omega) (by omega) (by omega)) ?_
    exact xs_iretI eX10_askedBy_58 rfl (hQ)
  · intro k hk ih
    have hlf := lfA_le (r := r) (np := l.2.1) (nv := l.1) (code := code) k
    have hbt : bt (nI r) (l.1 - 1 - k) = r.testBit (l.1 - 1 - k) := bt_nI (by omega)
    have hdec : nI (l.1 - 1 - k) + Int32.ofInt (-1) = nI (l.1 - 1 - (k + 1)) := by
      rw [vJ_d, show l.1 - 1 - k = (l.1 - 1 - (k + 1)) + 1 by omega, vJ_s]
    simp only [lfA] at ih
    rw [← hdec] at ih
    refine xs_iload eX10_askedBy_16 rfl ?_
    refine xs_iload eX10_askedBy_18 rfl ?_
    refine xs_N_le eX10_askedBy_19 (by omega) (by omega) (fun h => absurd h (by omega)) (fun h19 => ?_)
    refine xs_iload eX10_askedBy_22 rfl ?_
    refine xs_iload eX10_askedBy_23 rfl ?_
    refine xs_callS2i eX10_askedBy_25 (Nat.le_of_ble_eq_true rfl) (c_X10_has (by omega) ⟨_, rfl, ?_⟩)
    rw [hbt]
    refine xs_ifeqB eX10_askedBy_28 (fun h28 => ?_) (fun h28 => ?_)
    · refine xs_iload eX10_askedBy_41 rfl ?_
      refine xs_istore eX10_askedBy_43 (Nat.le_of_ble_eq_true rfl) rfl rfl ?_
      refine xs_iinc eX10_askedBy_45 rfl rfl rfl rfl ?_
      refine xs_goto eX10_askedBy_48 ?_
      simp only [h28, Bool.false_eq_true, if_false] at ih
      exact ih
    · refine xs_iload eX10_askedBy_31 rfl ?_
      refine xs_aload eX10_askedBy_33 rfl ?_
      refine xs_getI eX10_askedBy_34 (by assumption) (by rfl) ?_
      refine xs_eq1 hnp ?_
      refine xs_idiv eX10_askedBy_37 (nz) ?_
      refine xs_eq1 (pk_div (by omega) (by omega) (by omega)) ?_
      refine xs_goto eX10_askedBy_38 ?_
      refine xs_istore eX10_askedBy_43 (Nat.le_of_ble_eq_true rfl) rfl rfl ?_
      refine xs_iinc eX10_askedBy_45 rfl rfl rfl rfl ?_
      refine xs_goto eX10_askedBy_48 ?_
      simp only [h28, if_true] at ih
      exact ih
/-- days, or the mark of none -/
def optT (o : Option Nat) : Nat := match o with
  | none => 89991
  | some m => m
theorem c_X10_takes {code dy : Nat} (hl : okL l) (hL : rLm M l) (hS : rS M 0 b) (hB : okB l.1 dy b) (hdy : dy < 80000) (hc : code < 2 ^ 30) (hrt : ∀ p, p < l.2.1 → ∀ s, s < 2 ^ l.1 → M 167 (128 * p + s) = nI (fo (shA l (b.2.2.2.2.1 p) s))) (hQ : Q (some (.int (nI (optT (dyA l b (restN l.1 b.1) code l.2.1))))) SF M) : xC G mX10_takes (d + 2) 0 0 [.ref (G.1 + 156), .int (nI code)] SF M Q := by
  have s0 := sh156
  have s1 := sh162
  have s4 := sh167
  have h7 := hl.1.2
  have h3 := hl.2.1.2
  have hn := hL.1
  have hnp := hL.2.1
  have hr := restN_lt (ib := b.1) h7
  refine xC_intro [some (.ref (G.1 + 156)), some (.int (nI code)), none, none, none, none, none] rfl (by decide) (Nat.le_of_ble_eq_true rfl) ?_
  refine xs_aload eX10_takes_0 rfl ?_
  refine xs_callV0i eX10_takes_1 (by assumption) (Nat.le_of_ble_eq_true rfl) (c_X10_rest hn h7 hS ⟨_, rfl, ?_⟩)
  refine xs_istore eX10_takes_4 (Nat.le_of_ble_eq_true rfl) rfl rfl ?_
  refine xs_K eX10_takes_5 ?_
  refine xs_istore eX10_takes_6 (Nat.le_of_ble_eq_true rfl) rfl rfl ?_
  refine xs_K eX10_takes_7 ?_
  refine xs_istore eX10_takes_8 (Nat.le_of_ble_eq_true rfl) rfl rfl ?_
  refine dn (P := fun p => ∀ A B, xW G mX10_takes (d + 2) 0 0 Q 10 [some (.ref (G.1 + 156)), some (.int (nI code)), some (.int (nI (restN l.1 b.1))), some (.int (nI (optT (dyA l b (restN l.1 b.1) code p)))), some (.int (nI p)), A, B] [] SF M) l.2.1 ?_ ?_ 0 (by omega) none none
  · intro A B
    refine xs_iload eX10_takes_10 rfl ?_
    refine xs_aload eX10_takes_12 rfl ?_
    refine xs_getI eX10_takes_13 (by assumption) (by rfl) ?_
    refine xs_eq1 hnp ?_
    refine xs_N_ge eX10_takes_16 (by omega) (by omega) (fun h16 => ?_) (fun h => absurd h (by omega))
    refine xs_iload eX10_takes_135 rfl ?_
    exact xs_iretI eX10_takes_136 rfl (hQ)
  · intro p hp ih A B
    have hml : optT (dyA l b (restN l.1 b.1) code p) ≤ 89991 := by
      cases hx : dyA l b (restN l.1 b.1) code p with
      | none => exact Nat.le_refl _
      | some m => have := dyA_le hl hB (by omega) hx; show m ≤ 89991; omega
    refine xs_iload eX10_takes_10 rfl ?_
    refine xs_aload eX10_takes_12 rfl ?_
    refine xs_getI eX10_takes_13 (by assumption) (by rfl) ?_
    refine xs_eq1 hnp ?_
    refine xs_N_ge eX10_takes_16 (by omega) (by omega) (fun h => absurd h (by omega)) (fun h16 => ?_)
    refine xs_K eX10_takes_19 ?_
    refine xs_istore eX10_takes_20 (Nat.le_of_ble_eq_true rfl) rfl rfl ?_
    refine xs_K eX10_takes_22 ?_
    refine xs_istore eX10_takes_23 (Nat.le_of_ble_eq_true rfl) rfl rfl ?_
    refine dn (P := fun v => xW G mX10_takes (d + 2) 0 0 Q 25 [some (.ref (G.1 + 156)), some (.int (nI code)), some (.int (nI (restN l.1 b.1))), some (.int (nI (optT (dyA l b (restN l.1 b.1) code p)))), some (.int (nI p)), some (.int (nI (maskA (fun v => (restN l.1 b.1).testBit v && decide (whoA (restN l.1 b.1) l.2.1 l.1 code v = p)) v))), some (.int (nI v))] [] SF M) l.1 ?_ ?_ 0 (by omega)
    · have hsl := setA_lt (r := restN l.1 b.1) (np := l.2.1) (code := code) (p := p) h7
      have hsh := hrt p hp _ hsl
      have h847 := shA_847 (s := setA (restN l.1 b.1) l.2.1 l.1 code p) hl (hB.2.2.2.2 p (by omega)).1 hsl
      have hs128 := Nat.lt_of_lt_of_le hsl (pow7 h7)
      have hd : M 162 (19 + p) = nI (b.2.2.2.2.2 p) := by have := (hS.2.2.2 p (by omega)).2; rw [show 0 + 19 + p = 19 + p by omega] at this; exact this
      have hdl := (hB.2.2.2.2 p (by omega)).2
      rw [dyA] at ih
      show xW G mX10_takes (d + 2) 0 0 Q 25 [some (.ref (G.1 + 156)), some (.int (nI code)), some (.int (nI (restN l.1 b.1))), some (.int (nI (optT (dyA l b (restN l.1 b.1) code p)))), some (.int (nI p)), some (.int (nI (setA (restN l.1 b.1) l.2.1 l.1 code p))), some (.int (nI l.1))] [] SF M
      generalize setA (restN l.1 b.1) l.2.1 l.1 code p = st at *
      have hf9 : fo (shA l (b.2.2.2.2.1 p) st) < 9999 ↔ shA l (b.2.2.2.2.1 p) st ≠ 1000000 := by unfold fo; split <;> omega
      have hfl : fo (shA l (b.2.2.2.2.1 p) st) ≤ 9999 := fo_847 h847
      have fin : ∀ y : Nat, y = (if shA l (b.2.2.2.2.1 p) st = 1000000 then 89991 else b.2.2.2.2.2 p + shA l (b.2.2.2.2.1 p) st) → ∀ A B, xW G mX10_takes (d + 2) 0 0 Q 10 [some (.ref (G.1 + 156)), some (.int (nI code)), some (.int (nI (restN l.1 b.1))), some (.int (nI (mxA (optT (dyA l b (restN l.1 b.1) code p)) y))), some (.int (nI (p + 1))), A, B] [] SF M := by
        intro y hy A B
        have ih9 := ih A B
        have e : mxA (optT (dyA l b (restN l.1 b.1) code p)) y = optT (match dyA l b (restN l.1 b.1) code p with
          | none => none
          | some m => if shA l (b.2.2.2.2.1 p) st = 1000000 then none else some (mxA m (b.2.2.2.2.2 p + shA l (b.2.2.2.2.1 p) st))) := by
          cases hx : dyA l b (restN l.1 b.1) code p with
          | none =>
            show mxA 89991 y = 89991
            unfold mxA
            rw [hy]
            split <;> split <;> omega
          | some m =>
            rw [hx] at hml
            have hml : m ≤ 89991 := hml
            show mxA m y = optT (if shA l (b.2.2.2.2.1 p) st = 1000000 then none else some (mxA m (b.2.2.2.2.2 p + shA l (b.2.2.2.2.1 p) st)))
            rw [hy]
            by_cases e : shA l (b.2.2.2.2.1 p) st = 1000000
            · rw [if_pos e, if_pos e]
              show mxA m 89991 = 89991
              unfold mxA
              split <;> omega
            · rw [if_neg e, if_neg e]
              rfl
        rw [e]
        exact ih9
      generalize optT (dyA l b (restN l.1 b.1) code p) = ot at *
      refine xs_iload eX10_takes_25 rfl ?_
      refine xs_aload eX10_takes_27 rfl ?_
      refine xs_getI eX10_takes_28 (by assumption) (by rfl) ?_
      refine xs_eq1 hn ?_
      refine xs_N_ge eX10_takes_31 (by omega) (by omega) (fun h31 => ?_) (fun h => absurd h (by omega))
      refine xs_iload eX10_takes_74 rfl ?_
      refine xs_aload eX10_takes_75 rfl ?_
      refine xs_getR eX10_takes_76 (by assumption) (by rfl) ?_
      refine xs_K eX10_takes_79 ?_
      refine xs_iload eX10_takes_82 rfl ?_
      refine xs_imul eX10_takes_84 ?_
      refine xs_eq1 (pk_mul 128 p) ?_
      refine xs_iload eX10_takes_85 rfl ?_
      refine xs_iadd eX10_takes_87 ?_
      refine xs_eq1 (nI_add _ st) ?_
      refine xs_iald eX10_takes_88 (by assumption) (by omega) (by decide) ?_
      refine xs_eq1 hsh ?_
      refine xs_K eX10_takes_89 ?_
      refine xs_N_ge eX10_takes_92 (by omega) (by omega) (fun h92 => ?_) (fun h92 => ?_)
      · refine xs_K eX10_takes_123 ?_
        refine xs_callS2i eX10_takes_125 (Nat.le_of_ble_eq_true rfl) (c_X10_larger (by omega) (by omega) ⟨_, rfl, ?_⟩)
        refine xs_istore eX10_takes_128 (Nat.le_of_ble_eq_true rfl) rfl rfl ?_
        refine xs_inc1 eX10_takes_129 rfl rfl rfl ?_
        refine xs_goto eX10_takes_132 ?_
        exact fin 89991 (by rw [if_pos (by omega)]) _ _
      · refine xs_aload eX10_takes_95 rfl ?_
        refine xs_getR eX10_takes_96 (by assumption) (by rfl) ?_
        refine xs_K eX10_takes_99 ?_
        refine xs_iload eX10_takes_101 rfl ?_
        refine xs_iadd eX10_takes_103 ?_
        refine xs_eq1 (nI_add 19 p) ?_
        refine xs_iald eX10_takes_104 (by assumption) (by omega) (by decide) ?_
        refine xs_eq1 hd ?_
        refine xs_aload eX10_takes_105 rfl ?_
        refine xs_getR eX10_takes_106 (by assumption) (by rfl) ?_
        refine xs_K eX10_takes_109 ?_
        refine xs_iload eX10_takes_112 rfl ?_
        refine xs_imul eX10_takes_114 ?_
        refine xs_eq1 (pk_mul 128 p) ?_
        refine xs_iload eX10_takes_115 rfl ?_
        refine xs_iadd eX10_takes_117 ?_
        refine xs_eq1 (nI_add _ st) ?_
        refine xs_iald eX10_takes_118 (by assumption) (by omega) (by decide) ?_
        refine xs_eq1 hsh ?_
        refine xs_iadd eX10_takes_119 ?_
        refine xs_eq1 (nI_add _ _) ?_
        refine xs_goto eX10_takes_120 ?_
        refine xs_callS2i eX10_takes_125 (Nat.le_of_ble_eq_true rfl) (c_X10_larger (by omega) (by omega) ⟨_, rfl, ?_⟩)
        refine xs_istore eX10_takes_128 (Nat.le_of_ble_eq_true rfl) rfl rfl ?_
        refine xs_inc1 eX10_takes_129 rfl rfl rfl ?_
        refine xs_goto eX10_takes_132 ?_
        exact fin _ (by rw [if_neg (by omega), fo, if_neg (by omega)]) _ _
    · intro v hv ih2
      have hm := Nat.lt_of_lt_of_le (sbt_mask (p := fun v => (restN l.1 b.1).testBit v && decide (whoA (restN l.1 b.1) l.2.1 l.1 code v = p)) (n := v) (by omega)) (pow7 (n := v) (by omega))
      have hbt : bt (nI (restN l.1 b.1)) v = (restN l.1 b.1).testBit v := bt_nI (by omega)
      have hwl := whoA_lt (r := restN l.1 b.1) (nv := l.1) (code := code) (v := v) hl.2.1.1
      simp only [maskA] at ih2
      generalize maskA (fun v => (restN l.1 b.1).testBit v && decide (whoA (restN l.1 b.1) l.2.1 l.1 code v = p)) v = mk at *
      refine xs_iload eX10_takes_25 rfl ?_
      refine xs_aload eX10_takes_27 rfl ?_
      refine xs_getI eX10_takes_28 (by assumption) (by rfl) ?_
      refine xs_eq1 hn ?_
      refine xs_N_ge eX10_takes_31 (by omega) (by omega) (fun h => absurd h (by omega)) (fun h31 => ?_)
      refine xs_iload eX10_takes_34 rfl ?_
      refine xs_iload eX10_takes_36 rfl ?_
      refine xs_iload eX10_takes_37 rfl ?_
      refine xs_callS2i eX10_takes_39 (Nat.le_of_ble_eq_true rfl) (c_X10_has (by omega) ⟨_, rfl, ?_⟩)
      rw [hbt]
      refine xs_ifeqB eX10_takes_42 (fun h42 => ?_) (fun h42 => ?_)
      · refine xs_K eX10_takes_64 ?_
        refine xs_ior eX10_takes_65 ?_
        refine xs_eq1 (z := nI mk) (Int32.or_zero) ?_
        refine xs_istore eX10_takes_66 (Nat.le_of_ble_eq_true rfl) rfl rfl ?_
        refine xs_inc1 eX10_takes_68 rfl rfl rfl ?_
        refine xs_goto eX10_takes_71 ?_
        simp only [h42, Bool.false_and, Bool.false_eq_true, if_false] at ih2
        exact ih2
      · refine xs_aload eX10_takes_45 rfl ?_
        refine xs_iload eX10_takes_46 rfl ?_
        refine xs_iload eX10_takes_47 rfl ?_
        refine xs_callV2i eX10_takes_49 (by assumption) (Nat.le_of_ble_eq_true rfl) (c_X10_askedBy hl hL hS hv hc ⟨_, rfl, ?_⟩)
        refine xs_iload eX10_takes_52 rfl ?_
        refine xs_N_ne eX10_takes_54 (by omega) (by omega) (fun h54 => ?_) (fun h54 => ?_)
        · refine xs_K eX10_takes_64 ?_
          refine xs_ior eX10_takes_65 ?_
          refine xs_eq1 (z := nI mk) (Int32.or_zero) ?_
          refine xs_istore eX10_takes_66 (Nat.le_of_ble_eq_true rfl) rfl rfl ?_
          refine xs_inc1 eX10_takes_68 rfl rfl rfl ?_
          refine xs_goto eX10_takes_71 ?_
          simp only [h42, h54, Bool.true_and, decide_false, Bool.false_eq_true, if_false] at ih2
          exact ih2
        · refine xs_K eX10_takes_57 ?_
          refine xs_iload eX10_takes_58 rfl ?_
          refine xs_ishl eX10_takes_60 ?_
          refine xs_goto eX10_takes_61 ?_
          refine xs_ior eX10_takes_65 ?_
          refine xs_eq1 (bon_nI _ hm v (by omega)).1 ?_
          refine xs_istore eX10_takes_66 (Nat.le_of_ble_eq_true rfl) rfl rfl ?_
          refine xs_inc1 eX10_takes_68 rfl rfl rfl ?_
          refine xs_goto eX10_takes_71 ?_
          simp only [h42, h54, Bool.true_and, decide_true, if_true] at ih2
          exact ih2
end TK

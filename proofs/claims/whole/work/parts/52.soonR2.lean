/-! THE REFERENCE's soonest, whole -/
section SP
variable {G : xGl} {d N p v : Nat} {w : aX} {l : aLd} {b : aBk} {M : xMem} {S : List xSh} {Q : Option Value → List xSh → xMem → Prop} {y : Int32}
theorem wi_m1 {n : Nat} (hn : n < 100) : wiB y (-1) (nI n - nI 1) = true → y = -1 ∨ inN y n = true := by
  intro h
  by_cases e : y = -1
  · exact Or.inl e
  · right
    simp only [inN, wiB, Bool.and_eq_true, decide_eq_true_eq] at h ⊢
    refine ⟨?_, h.2⟩
    have h1 := Int32.le_iff_toInt_le.mp h.1
    have e1 : (-1 : Int32).toInt = -1 := by decide
    have e2 : (nI 0).toInt = 0 := by decide
    refine Int32.le_iff_toInt_le.mpr ?_
    have : y.toInt ≠ -1 := fun q => e (Int32.toInt_inj.mp (q.trans e1.symm))
    omega
theorem wi_m2 {n : Nat} (hn : n < 100) (h : wiB y (-1) (nI n - nI 1) = false) : y ≠ -1 ∧ inN y n = false := by
  constructor
  · rintro rfl
    revert h
    have : ∀ n, n < 100 → ¬ wiB (-1) (-1) (nI n - nI 1) = false := by decide +kernel
    exact this n hn
  · cases hi : inN y n with
    | false => rfl
    | true =>
      simp only [inN, wiB, Bool.and_eq_true, decide_eq_true_eq] at hi
      have : wiB y (-1) (nI n - nI 1) = true := by
        simp only [wiB, Bool.and_eq_true, decide_eq_true_eq]
        exact ⟨Int32.le_trans (by decide) hi.1, hi.2⟩
      rw [this] at h
      cases h
theorem c_X10_soonest (hN : N ≤ 600) (hR : repM w M) (hok : okX N w) (hQ : ∀ M1, loK M M1 → repM w M1 → Q (some (.int (spSoon w y))) SF M1) : xC G mX10_soonest (d + 9) 0 0 [.ref (G.1 + 156), .int y] SF M Q := by
  have s0 := sh156
  obtain ⟨-, hL, hS, -⟩ := id hR
  have hl := hok.2.1
  have hB := hok.2.2.1
  have h7 := hl.1.2
  have h3 := hl.2.1
  have hn := hL.1
  have hnp := hL.2.1
  have hr := restN_lt (ib := w.2.2.1.1) h7
  have hr128 := Nat.lt_of_lt_of_le hr (pow7 h7)
  have hpc := pc7_le _ hr128
  have hcodes := pw_2187 w.2.1.2.1 (by omega) _ hpc
  unfold spSoon at hQ
  dsimp only at hQ
  refine xC_intro [some (.ref (G.1 + 156)), some (.int y), none, none, none, none] rfl (by decide) (Nat.le_of_ble_eq_true rfl) ?_
  have K133 : (y = -1 ∨ inN y w.2.1.1 = true) → ∀ (M1 : xMem) (A : Option Value) (n : Nat), n = w.2.1.2.1 ^ pc7 (restN w.2.1.1 w.2.2.1.1) → soK M M1 → (∀ q, bsA w.2.1 w.2.2.1 (restN w.2.1.1 w.2.2.1.1) n = some q → M1 156 22 = nI q.2) → xW G mX10_soonest (d + 9) 0 0 Q 133 [some (.ref (G.1 + 156)), some (.int y), some (.int (nI n)), some (.int (nI (bsT (bsA w.2.1 w.2.2.1 (restN w.2.1.1 w.2.2.1.1) n)))), some (.int (nI n)), A] [] SF M1 := by
    intro hy M1 A n hnn hk hsh
    have hq := hQ M1 (fun a ha => hk.1 a (by omega) (by omega) (by omega)) (repM_so hR hk)
    have hL1 := rLm_so hL hk
    have hS1 : rS M1 0 w.2.2.1 := rS_keep hS (fun j _ _ => by rw [hk.1 162 (by decide) (by decide) (by decide)])
    have hn1 := hL1.1
    rw [← hnn] at hq
    have hbq := fun q (hq : bsA w.2.1 w.2.2.1 (restN w.2.1.1 w.2.2.1.1) n = some q) => dyA_le hl hB hl.2.1.2 (bsA_lt hq).2
    have hbl := fun q (hq : bsA w.2.1 w.2.2.1 (restN w.2.1.1 w.2.2.1.1) n = some q) => (bsA_lt hq).1
    cases hx : bsA w.2.1 w.2.2.1 (restN w.2.1.1 w.2.2.1.1) n with
    | none =>
      rw [hx] at hq
      have hq4 : Q (some (.int (-4))) SF M1 := Qev hq (by
        rcases hy with e | e
        · rw [if_pos e]
        · by_cases e2 : y = -1
          · rw [if_pos e2]
          · rw [if_neg e2, if_pos e]; split <;> rfl)
      refine xs_iload eX10_soonest_133 rfl ?_
      refine xs_K eX10_soonest_134 ?_
      refine xs_icmp_ne eX10_soonest_136 (fun h => absurd h (fun h => h rfl)) (fun h136 => ?_)
      refine xs_K eX10_soonest_139 ?_
      refine xs_goto eX10_soonest_141 ?_
      exact xs_iretI eX10_soonest_177 rfl (hq4)
    | some q =>
      rw [hx] at hq
      have hq1 := hbq q hx
      have hq2 := hbl q hx
      have hs22 := hsh q hx
      have hne : ¬ (nI q.1 = nI 89991) := fun e => by have := (nI_eq (by omega) (by decide)).mp e; omega
      show xW G mX10_soonest (d + 9) 0 0 Q 133 [some (.ref (G.1 + 156)), some (.int y), some (.int (nI n)), some (.int (nI q.1)), some (.int (nI n)), A] [] SF M1
      by_cases e2 : y = -1
      · subst e2
        rw [if_pos rfl] at hq
        refine xs_iload eX10_soonest_133 rfl ?_
        refine xs_K eX10_soonest_134 ?_
        refine xs_icmp_ne eX10_soonest_136 (fun h136 => ?_) (fun h => absurd h (hne))
        refine xs_iload eX10_soonest_144 rfl ?_
        refine xs_if_ge eX10_soonest_145 (fun h => absurd h (by decide)) (fun h145 => ?_)
        refine xs_iload eX10_soonest_148 rfl ?_
        refine xs_goto eX10_soonest_149 ?_
        exact xs_iretI eX10_soonest_177 rfl (hq)
      · have e := hy.resolve_left e2
        obtain ⟨v, hv, rfl⟩ := inN_of (by omega) e
        rw [if_neg e2, if_pos e, nI_clamp (by omega)] at hq
        have hbt : bt (nI (restN w.2.1.1 w.2.2.1.1)) v = !w.2.2.1.1.testBit v := by rw [bt_nI (by omega), restN_bt h7 (by omega), decide_eq_true hv, Bool.true_and]
        refine xs_iload eX10_soonest_133 rfl ?_
        refine xs_K eX10_soonest_134 ?_
        refine xs_icmp_ne eX10_soonest_136 (fun h136 => ?_) (fun h => absurd h (hne))
        refine xs_iload eX10_soonest_144 rfl ?_
        refine xs_N0_ge eX10_soonest_145 (by omega) ?_
        refine xs_aload eX10_soonest_152 rfl ?_
        refine xs_callV0i eX10_soonest_153 (by assumption) (Nat.le_of_ble_eq_true rfl) (c_X10_rest hn1 h7 hS1 ⟨_, rfl, ?_⟩)
        refine xs_iload eX10_soonest_156 rfl ?_
        refine xs_callS2i eX10_soonest_157 (Nat.le_of_ble_eq_true rfl) (c_X10_has (by omega) ⟨_, rfl, ?_⟩)
        rw [hbt]
        refine xs_ifeqB eX10_soonest_160 (fun h160 => ?_) (fun h160 => ?_)
        · refine xs_K eX10_soonest_175 ?_
          exact xs_iretI eX10_soonest_177 rfl (by rw [if_pos (by simpa using h160)] at hq; exact hq)
        · refine xs_aload eX10_soonest_163 rfl ?_
          refine xs_aload eX10_soonest_164 rfl ?_
          refine xs_getI eX10_soonest_165 (by assumption) (by rfl) ?_
          refine xs_eq1 hs22 ?_
          refine xs_iload eX10_soonest_168 rfl ?_
          refine xs_callV2i eX10_soonest_169 (by assumption) (Nat.le_of_ble_eq_true rfl) (c_X10_askedBy (code := q.2) hl hL1 hS1 hv (by omega) ⟨_, rfl, ?_⟩)
          refine xs_goto eX10_soonest_172 ?_
          exact xs_iretI eX10_soonest_177 rfl (by rw [if_neg (by simpa using h160)] at hq; exact hq)
  have K62 : (y = -1 ∨ inN y w.2.1.1 = true) → ∀ n : Nat, n = w.2.1.2.1 ^ pc7 (restN w.2.1.1 w.2.2.1.1) → xW G mX10_soonest (d + 9) 0 0 Q 62 [some (.ref (G.1 + 156)), some (.int y), some (.int (nI n)), some (.int (nI 0)), none, none] [] SF M := by
    intro hy n hnn
    refine dn (P := fun p => ∀ M1 : xMem, soK M M1 → (∀ p', p' < p → ∀ s, s < 2 ^ w.2.1.1 → M1 167 (128 * p' + s) = nI (fo (shA w.2.1 (w.2.2.1.2.2.2.2.1 p') s))) → xW G mX10_soonest (d + 9) 0 0 Q 62 [some (.ref (G.1 + 156)), some (.int y), some (.int (nI n)), some (.int (nI p)), none, none] [] SF M1) w.2.1.2.1 ?_ ?_ 0 (by omega) M ⟨fun _ _ _ _ => rfl, fun _ _ => rfl⟩ (fun p hp => by omega)
    · intro M1 hk hrt
      have hL1 := rLm_so hL hk
      have hS1 : rS M1 0 w.2.2.1 := rS_keep hS (fun j _ _ => by rw [hk.1 162 (by decide) (by decide) (by decide)])
      have hnp1 := hL1.2.1
      have SL := soon_loop (G := G) (d := d) (Q := Q) (y := y) (dy := 121 * N) (n := n) hl hL1 hS1 hB (by omega) (by omega) hrt (fun M2 A f1 f2 f3 => K133 hy M2 A n hnn ⟨fun a a1 a2 a3 => (f1 a a1).trans (hk.1 a a1 a2 a3), fun j hj => (f2 j hj).trans (hk.2 j hj)⟩ f3)
      refine xs_iload eX10_soonest_62 rfl ?_
      refine xs_aload eX10_soonest_63 rfl ?_
      refine xs_getI eX10_soonest_64 (by assumption) (by rfl) ?_
      refine xs_eq1 hnp1 ?_
      refine xs_N_ge eX10_soonest_67 (by omega) (by omega) (fun h67 => ?_) (fun h => absurd h (by omega))
      refine xs_K eX10_soonest_81 ?_
      refine xs_istore eX10_soonest_83 (Nat.le_of_ble_eq_true rfl) rfl rfl ?_
      refine xs_K eX10_soonest_84 ?_
      refine xs_istore eX10_soonest_85 (Nat.le_of_ble_eq_true rfl) rfl rfl ?_
      exact SL _
    · intro p hp ih M1 hk hrt
      have hL1 := rLm_so hL hk
      have hS1 : rS M1 0 w.2.2.1 := rS_keep hS (fun j _ _ => by rw [hk.1 162 (by decide) (by decide) (by decide)])
      have hnp1 := hL1.2.1
      have h2 := pow7 h7
      refine xs_iload eX10_soonest_62 rfl ?_
      refine xs_aload eX10_soonest_63 rfl ?_
      refine xs_getI eX10_soonest_64 (by assumption) (by rfl) ?_
      refine xs_eq1 hnp1 ?_
      refine xs_N_ge eX10_soonest_67 (by omega) (by omega) (fun h => absurd h (by omega)) (fun h67 => ?_)
      refine xs_aload eX10_soonest_70 rfl ?_
      refine xs_iload eX10_soonest_71 rfl ?_
      refine xs_callV1v eX10_soonest_72 (by assumption) (Nat.le_of_ble_eq_true rfl) (c_X10_routes (b := w.2.2.1) (dy := 121 * N) hl hL1 hS1 hB (by omega) (fun M2 g => ⟨rfl, ?_⟩))
      refine xs_inc1 eX10_soonest_75 rfl rfl rfl ?_
      refine xs_goto eX10_soonest_78 ?_
      refine ih M2 ⟨fun a a1 a2 a3 => (g.1 a a2 a3).trans (hk.1 a a1 a2 a3), fun j hj => by rw [g.1 156 (by decide) (by decide)]; exact hk.2 j hj⟩ (fun p2 hp2 s hs => ?_)
      by_cases e : p2 = p
      · subst e; exact g.2.2.1 s hs
      · rw [g.2.1 _ (by omega)]; exact hrt p2 (by omega) s hs
  have K20 : (y = -1 ∨ inN y w.2.1.1 = true) → xW G mX10_soonest (d + 9) 0 0 Q 20 [some (.ref (G.1 + 156)), some (.int y), none, none, none, none] [] SF M := by
    intro hy
    have K62' := K62 hy _ rfl
    refine xs_K eX10_soonest_20 ?_
    refine xs_istore eX10_soonest_21 (Nat.le_of_ble_eq_true rfl) rfl rfl ?_
    refine xs_K eX10_soonest_22 ?_
    refine xs_istore eX10_soonest_23 (Nat.le_of_ble_eq_true rfl) rfl rfl ?_
    refine dn (P := fun i => xW G mX10_soonest (d + 9) 0 0 Q 24 [some (.ref (G.1 + 156)), some (.int y), some (.int (nI (w.2.1.2.1 ^ pcA (restN w.2.1.1 w.2.2.1.1) i))), some (.int (nI i)), none, none] [] SF M) w.2.1.1 ?_ ?_ 0 (by omega)
    · rw [pcA_r w.2.1.1 (by omega) _ hr]
      refine xs_iload eX10_soonest_24 rfl ?_
      refine xs_aload eX10_soonest_25 rfl ?_
      refine xs_getI eX10_soonest_26 (by assumption) (by rfl) ?_
      refine xs_eq1 hn ?_
      refine xs_N_ge eX10_soonest_29 (by omega) (by omega) (fun h29 => ?_) (fun h => absurd h (by omega))
      refine xs_K eX10_soonest_60 ?_
      refine xs_istore eX10_soonest_61 (Nat.le_of_ble_eq_true rfl) rfl rfl ?_
      exact K62'
    · intro i hi ih
      have hbt : bt (nI (restN w.2.1.1 w.2.2.1.1)) i = (restN w.2.1.1 w.2.2.1.1).testBit i := bt_nI (by omega)
      simp only [pcA] at ih
      refine xs_iload eX10_soonest_24 rfl ?_
      refine xs_aload eX10_soonest_25 rfl ?_
      refine xs_getI eX10_soonest_26 (by assumption) (by rfl) ?_
      refine xs_eq1 hn ?_
      refine xs_N_ge eX10_soonest_29 (by omega) (by omega) (fun h => absurd h (by omega)) (fun h29 => ?_)
      refine xs_iload eX10_soonest_32 rfl ?_
      refine xs_aload eX10_soonest_33 rfl ?_
      refine xs_callV0i eX10_soonest_34 (by assumption) (Nat.le_of_ble_eq_true rfl) (c_X10_rest hn h7 hS ⟨_, rfl, ?_⟩)
      refine xs_iload eX10_soonest_37 rfl ?_
      refine xs_callS2i eX10_soonest_38 (Nat.le_of_ble_eq_true rfl) (c_X10_has (by omega) ⟨_, rfl, ?_⟩)
      rw [hbt]
      refine xs_ifeqB eX10_soonest_41 (fun h41 => ?_) (fun h41 => ?_)
      · refine xs_K eX10_soonest_51 ?_
        refine xs_imul eX10_soonest_52 ?_
        refine xs_eq1 ((pk_mul _ 1).trans (by rw [Nat.mul_one])) ?_
        refine xs_istore eX10_soonest_53 (Nat.le_of_ble_eq_true rfl) rfl rfl ?_
        refine xs_inc1 eX10_soonest_54 rfl rfl rfl ?_
        refine xs_goto eX10_soonest_57 ?_
        simp only [h41, Bool.false_eq_true, if_false, Nat.add_zero] at ih
        exact ih
      · refine xs_aload eX10_soonest_44 rfl ?_
        refine xs_getI eX10_soonest_45 (by assumption) (by rfl) ?_
        refine xs_eq1 hnp ?_
        refine xs_goto eX10_soonest_48 ?_
        refine xs_imul eX10_soonest_52 ?_
        refine xs_eq1 (pk_mul _ _) ?_
        refine xs_istore eX10_soonest_53 (Nat.le_of_ble_eq_true rfl) rfl rfl ?_
        refine xs_inc1 eX10_soonest_54 rfl rfl rfl ?_
        refine xs_goto eX10_soonest_57 ?_
        simp only [h41, if_true, Nat.pow_succ] at ih
        exact ih
  refine xs_iload eX10_soonest_0 rfl ?_
  refine xs_i2l eX10_soonest_1 ?_
  refine xs_KL eX10_soonest_2 ?_
  refine xs_aload eX10_soonest_5 rfl ?_
  refine xs_getI eX10_soonest_6 (by assumption) (by rfl) ?_
  refine xs_eq1 hn ?_
  refine xs_K eX10_soonest_9 ?_
  refine xs_isub eX10_soonest_10 ?_
  refine xs_i2l eX10_soonest_11 ?_
  refine xs_callS3i eX10_soonest_12 (Nat.le_of_ble_eq_true rfl) (c_X10_in (lo := -1) (hi := nI w.2.1.1 - nI 1) rfl (by decide) rfl ⟨_, rfl, ?_⟩)
  refine xs_ifneB eX10_soonest_15 (fun h15 => ?_) (fun h15 => ?_)
  · exact K20 (wi_m1 (by omega) h15)
  · refine xs_K eX10_soonest_18 ?_
    exact xs_iretI eX10_soonest_19 rfl (by obtain ⟨h1, h2⟩ := wi_m2 (by omega) h15; have h9 := hQ M (fun _ _ => rfl) hR; rw [if_neg h1, if_neg (by rw [h2]; decide)] at h9; exact h9)
end SP

/-! THE REFERENCE, seventh part: copies, count, shire -/
def pcA (a : Nat) : Nat → Nat
  | 0 => 0
  | n + 1 => pcA a n + (if a.testBit n then 1 else 0)
theorem pcA_7 : ∀ a, a < 128 → pcA a 7 = pc7 a := by decide +kernel
theorem pcA_le (a : Nat) : ∀ n, pcA a n ≤ n
  | 0 => Nat.le_refl _
  | n + 1 => by
    have := pcA_le a n
    simp only [pcA]
    split <;> omega
section R7
variable {G : xGl} {d N base dy : Nat} {w : aX} {l : aLd} {b : aBk} {M : xMem} {S : List xSh} {Q : Option Value → List xSh → xMem → Prop} {y y1 y2 y3 : Int32}
theorem c_X10_bits {a : Nat} (ha : a < 128) (hQ : Q (some (.int (nI (pc7 a)))) S M) : xC G mX10_bits d 0 0 [.int (nI a)] S M Q := by
  refine xC_intro [some (.int (nI a)), none, none] rfl (by decide) (Nat.le_of_ble_eq_true rfl) ?_
  refine xs_K eX10_bits_0 ?_
  refine xs_istore eX10_bits_1 (Nat.le_of_ble_eq_true rfl) rfl rfl ?_
  refine xs_K eX10_bits_2 ?_
  refine xs_istore eX10_bits_3 (Nat.le_of_ble_eq_true rfl) rfl rfl ?_
  refine dn (P := fun i => xW G mX10_bits d 0 0 Q 4 [some (.int (nI a)), some (.int (nI (pcA a i))), some (.int (nI i))] [] S M) 7 ?_ ?_ 0 (by omega)
  · refine xs_iload eX10_bits_4 rfl ?_
    refine xs_K eX10_bits_5 ?_
    refine xs_N_ge eX10_bits_7 (by omega) (by omega) (fun h7 => ?_) (fun h => absurd h (by omega))
    refine xs_iload eX10_bits_24 rfl ?_
    exact xs_iretI eX10_bits_25 rfl (Qev hQ (by rw [pcA_7 a ha]))
  · intro i hi ih
    have e : bI (bt (nI a) i) = nI (if a.testBit i then 1 else 0) := by rw [bt_nI (by omega)]; cases a.testBit i <;> rfl
    refine xs_iload eX10_bits_4 rfl ?_
    refine xs_K eX10_bits_5 ?_
    refine xs_N_ge eX10_bits_7 (by omega) (by omega) (fun h => absurd h (by omega)) (fun h7 => ?_)
    refine xs_iload eX10_bits_10 rfl ?_
    refine xs_iload eX10_bits_11 rfl ?_
    refine xs_iload eX10_bits_12 rfl ?_
    refine xs_ishr eX10_bits_13 ?_
    refine xs_K eX10_bits_14 ?_
    refine xs_iand eX10_bits_15 ?_
    refine xs_eq1 ((bt_ask _ (by omega)).trans e) ?_
    refine xs_iadd eX10_bits_16 ?_
    refine xs_eq1 (nI_add _ _) ?_
    refine xs_istore eX10_bits_17 (Nat.le_of_ble_eq_true rfl) rfl rfl ?_
    refine xs_inc1 eX10_bits_18 rfl rfl rfl ?_
    refine xs_goto eX10_bits_21 ?_
    exact ih
theorem c_X10_oxen {nv : Nat} (hn : M 156 0 = nI nv) (h7 : nv ≤ 7) (hS : rS M 0 b) (hQ : Q (some (.int (nI (sumA b.2.2.1 nv)))) SF M) : xC G mX10_oxen d 0 0 [.ref (G.1 + 156)] SF M Q := by
  have s0 := sh156
  have s1 := sh162
  refine xC_intro [some (.ref (G.1 + 156)), none, none] rfl (by decide) (Nat.le_of_ble_eq_true rfl) ?_
  refine xs_K eX10_oxen_0 ?_
  refine xs_istore eX10_oxen_1 (Nat.le_of_ble_eq_true rfl) rfl rfl ?_
  refine xs_K eX10_oxen_2 ?_
  refine xs_istore eX10_oxen_3 (Nat.le_of_ble_eq_true rfl) rfl rfl ?_
  refine dn (P := fun i => xW G mX10_oxen d 0 0 Q 4 [some (.ref (G.1 + 156)), some (.int (nI (sumA b.2.2.1 i))), some (.int (nI i))] [] SF M) nv ?_ ?_ 0 (by omega)
  · refine xs_iload eX10_oxen_4 rfl ?_
    refine xs_aload eX10_oxen_5 rfl ?_
    refine xs_getI eX10_oxen_6 (by assumption) (by rfl) ?_
    refine xs_eq1 hn ?_
    refine xs_N_ge eX10_oxen_9 (by omega) (by omega) (fun h9 => ?_) (fun h => absurd h (by omega))
    refine xs_iload eX10_oxen_27 rfl ?_
    exact xs_iretI eX10_oxen_28 rfl (hQ)
  · intro i hi ih
    have ha : M 162 i = nI (b.2.2.1 i) := by have := (hS.2.2.1 i (by omega)).1; rw [show 0 + i = i by omega] at this; exact this
    refine xs_iload eX10_oxen_4 rfl ?_
    refine xs_aload eX10_oxen_5 rfl ?_
    refine xs_getI eX10_oxen_6 (by assumption) (by rfl) ?_
    refine xs_eq1 hn ?_
    refine xs_N_ge eX10_oxen_9 (by omega) (by omega) (fun h => absurd h (by omega)) (fun h9 => ?_)
    refine xs_iload eX10_oxen_12 rfl ?_
    refine xs_aload eX10_oxen_13 rfl ?_
    refine xs_getR eX10_oxen_14 (by assumption) (by rfl) ?_
    refine xs_iload eX10_oxen_17 rfl ?_
    refine xs_iald eX10_oxen_18 (by assumption) (by omega) (by decide) ?_
    refine xs_eq1 ha ?_
    refine xs_iadd eX10_oxen_19 ?_
    refine xs_eq1 (nI_add _ _) ?_
    refine xs_istore eX10_oxen_20 (Nat.le_of_ble_eq_true rfl) rfl rfl ?_
    refine xs_inc1 eX10_oxen_21 rfl rfl rfl ?_
    refine xs_goto eX10_oxen_24 ?_
    exact ih
theorem maxA_le {f : Nat → Nat} {z : Nat} : ∀ {n : Nat}, (∀ i, i < n → f i ≤ z) → maxA f n ≤ z
  | 0, _ => Nat.zero_le _
  | n + 1, h => by
    have := maxA_le (f := f) (z := z) (n := n) (fun i hi => h i (by omega))
    have := h n (by omega)
    simp only [maxA]
    split <;> omega
theorem c_X10_mostDays {np nv : Nat} (hn : M 156 2 = nI np) (h3 : np ≤ 3) (hS : rS M base b) (hB : okB nv dy b) (hb : base ≤ 242) (hdy : dy < 2 ^ 30) (hQ : Q (some (.int (nI (maxA b.2.2.2.2.2 np)))) SF M) : xC G mX10_mostDays (d + 1) 0 0 [.ref (G.1 + 156), .int (nI base)] SF M Q := by
  have s0 := sh156
  have s1 := sh162
  refine xC_intro [some (.ref (G.1 + 156)), some (.int (nI base)), none, none] rfl (by decide) (Nat.le_of_ble_eq_true rfl) ?_
  refine xs_K eX10_mostDays_0 ?_
  refine xs_istore eX10_mostDays_1 (Nat.le_of_ble_eq_true rfl) rfl rfl ?_
  refine xs_K eX10_mostDays_2 ?_
  refine xs_istore eX10_mostDays_3 (Nat.le_of_ble_eq_true rfl) rfl rfl ?_
  refine dn (P := fun i => xW G mX10_mostDays (d + 1) 0 0 Q 4 [some (.ref (G.1 + 156)), some (.int (nI base)), some (.int (nI (maxA b.2.2.2.2.2 i))), some (.int (nI i))] [] SF M) np ?_ ?_ 0 (by omega)
  · refine xs_iload eX10_mostDays_4 rfl ?_
    refine xs_aload eX10_mostDays_5 rfl ?_
    refine xs_getI eX10_mostDays_6 (by assumption) (by rfl) ?_
    refine xs_eq1 hn ?_
    refine xs_N_ge eX10_mostDays_9 (by omega) (by omega) (fun h9 => ?_) (fun h => absurd h (by omega))
    refine xs_iload eX10_mostDays_34 rfl ?_
    exact xs_iretI eX10_mostDays_35 rfl (hQ)
  · intro i hi ih
    have ha := (hS.2.2.2 i (by omega)).2
    have hl1 := maxA_le (f := b.2.2.2.2.2) (z := dy) (n := i) (fun j hj => (hB.2.2.2.2 j (by omega)).2)
    have hl2 := (hB.2.2.2.2 i (by omega)).2
    refine xs_iload eX10_mostDays_4 rfl ?_
    refine xs_aload eX10_mostDays_5 rfl ?_
    refine xs_getI eX10_mostDays_6 (by assumption) (by rfl) ?_
    refine xs_eq1 hn ?_
    refine xs_N_ge eX10_mostDays_9 (by omega) (by omega) (fun h => absurd h (by omega)) (fun h9 => ?_)
    refine xs_iload eX10_mostDays_12 rfl ?_
    refine xs_aload eX10_mostDays_13 rfl ?_
    refine xs_getR eX10_mostDays_14 (by assumption) (by rfl) ?_
    refine xs_iload eX10_mostDays_17 rfl ?_
    refine xs_K eX10_mostDays_18 ?_
    refine xs_iadd eX10_mostDays_20 ?_
    refine xs_eq1 (nI_add base 19) ?_
    refine xs_iload eX10_mostDays_21 rfl ?_
    refine xs_iadd eX10_mostDays_22 ?_
    refine xs_eq1 (nI_add _ i) ?_
    refine xs_iald eX10_mostDays_23 (by assumption) (by omega) (by decide) ?_
    refine xs_eq1 ha ?_
    refine xs_callS2i eX10_mostDays_24 (Nat.le_of_ble_eq_true rfl) (c_X10_larger (by omega) (by omega) ⟨_, rfl, ?_⟩)
    refine xs_istore eX10_mostDays_27 (Nat.le_of_ble_eq_true rfl) rfl rfl ?_
    refine xs_inc1 eX10_mostDays_28 rfl rfl rfl ?_
    refine xs_goto eX10_mostDays_31 ?_
    exact ih
theorem c_X10_count (hN : N ≤ 600) (hR : repM w M) (hok : okX N w) (hQ : Q (some (.int (spCount w y))) SF M) : xC G mX10_count (d + 9) 0 0 [.ref (G.1 + 156), .int y] SF M Q := by
  have s0 := sh156
  have s1 := sh162
  obtain ⟨⟨t1, t2⟩, hL, hS, ⟨r3, -⟩, ⟨r4, -⟩, r5, -⟩ := id hR
  have hn := hL.1
  have hnp := hL.2.1
  have hl := hok.2.1
  have hB := hok.2.2.1
  have h7 := hl.1.2
  have h3 := hl.2.1.2
  have hib := okX_ib hok
  have e14 : M 162 14 = nI w.2.2.1.1 := hS.1
  have e15 : M 162 15 = nI w.2.2.1.2.1 := hS.2.1
  unfold spCount at hQ
  refine xC_intro [some (.ref (G.1 + 156)), some (.int y)] rfl (by decide) (Nat.le_of_ble_eq_true rfl) ?_
  refine xs_iload eX10_count_0 rfl ?_
  refine xs_if_ne eX10_count_1 (fun h1 => ?_) (fun h1 => ?_)
  · have h1 : y ≠ nI 0 := h1
    refine xs_iload eX10_count_11 rfl ?_
    refine xs_K eX10_count_12 ?_
    refine xs_icmp_ne eX10_count_13 (fun h13 => ?_) (fun h13 => ?_)
    · refine xs_iload eX10_count_23 rfl ?_
      refine xs_K eX10_count_24 ?_
      refine xs_icmp_ne eX10_count_25 (fun h25 => ?_) (fun h25 => ?_)
      · refine xs_iload eX10_count_41 rfl ?_
        refine xs_K eX10_count_42 ?_
        refine xs_icmp_ne eX10_count_43 (fun h43 => ?_) (fun h43 => ?_)
        · refine xs_iload eX10_count_59 rfl ?_
          refine xs_K eX10_count_60 ?_
          refine xs_icmp_ne eX10_count_61 (fun h61 => ?_) (fun h61 => ?_)
          · refine xs_iload eX10_count_72 rfl ?_
            refine xs_K eX10_count_73 ?_
            refine xs_icmp_ne eX10_count_74 (fun h74 => ?_) (fun h74 => ?_)
            · refine xs_iload eX10_count_84 rfl ?_
              refine xs_K eX10_count_85 ?_
              refine xs_icmp_ne eX10_count_87 (fun h87 => ?_) (fun h87 => ?_)
              · refine xs_iload eX10_count_98 rfl ?_
                refine xs_K eX10_count_99 ?_
                refine xs_icmp_ne eX10_count_101 (fun h101 => ?_) (fun h101 => ?_)
                · refine xs_iload eX10_count_111 rfl ?_
                  refine xs_K eX10_count_112 ?_
                  refine xs_icmp_ne eX10_count_114 (fun h114 => ?_) (fun h114 => ?_)
                  · refine xs_iload eX10_count_124 rfl ?_
                    refine xs_K eX10_count_125 ?_
                    refine xs_icmp_ne eX10_count_127 (fun h127 => ?_) (fun h127 => ?_)
                    · refine xs_iload eX10_count_137 rfl ?_
                      refine xs_K eX10_count_138 ?_
                      refine xs_icmp_ne eX10_count_140 (fun h140 => ?_) (fun h140 => ?_)
                      · refine xs_K eX10_count_150 ?_
                        exact xs_iretI eX10_count_151 rfl (Qev hQ (by rw [if_neg h1, if_neg h13, if_neg h25, if_neg h43, if_neg h61, if_neg h74, if_neg h87, if_neg h101, if_neg h114, if_neg h127, if_neg h140]))
                      · refine xs_aload eX10_count_143 rfl ?_
                        refine xs_getI eX10_count_144 (by assumption) (by rfl) ?_
                        refine xs_eq1 t1 ?_
                        refine xs_goto eX10_count_147 ?_
                        exact xs_iretI eX10_count_151 rfl (Qev hQ (by rw [if_neg h1, if_neg h13, if_neg h25, if_neg h43, if_neg h61, if_neg h74, if_neg h87, if_neg h101, if_neg h114, if_neg h127, if_pos h140]))
                    · refine xs_aload eX10_count_130 rfl ?_
                      refine xs_getI eX10_count_131 (by assumption) (by rfl) ?_
                      refine xs_eq1 r4 ?_
                      refine xs_goto eX10_count_134 ?_
                      exact xs_iretI eX10_count_151 rfl (Qev hQ (by rw [if_neg h1, if_neg h13, if_neg h25, if_neg h43, if_neg h61, if_neg h74, if_neg h87, if_neg h101, if_neg h114, if_pos h127]))
                  · refine xs_aload eX10_count_117 rfl ?_
                    refine xs_getI eX10_count_118 (by assumption) (by rfl) ?_
                    refine xs_eq1 r3 ?_
                    refine xs_goto eX10_count_121 ?_
                    exact xs_iretI eX10_count_151 rfl (Qev hQ (by rw [if_neg h1, if_neg h13, if_neg h25, if_neg h43, if_neg h61, if_neg h74, if_neg h87, if_neg h101, if_pos h114]))
                · refine xs_aload eX10_count_104 rfl ?_
                  refine xs_getI eX10_count_105 (by assumption) (by rfl) ?_
                  refine xs_eq1 r5 ?_
                  refine xs_goto eX10_count_108 ?_
                  exact xs_iretI eX10_count_151 rfl (Qev hQ (by rw [if_neg h1, if_neg h13, if_neg h25, if_neg h43, if_neg h61, if_neg h74, if_neg h87, if_pos h101]))
              · refine xs_aload eX10_count_90 rfl ?_
                refine xs_K eX10_count_91 ?_
                refine xs_callV1i eX10_count_92 (by assumption) (Nat.le_of_ble_eq_true rfl) (c_X10_mostDays (b := w.2.2.1) (dy := 121 * N) hnp h3 hS hB (by omega) (by omega) ⟨_, rfl, ?_⟩)
                refine xs_goto eX10_count_95 ?_
                exact xs_iretI eX10_count_151 rfl (Qev hQ (by rw [if_neg h1, if_neg h13, if_neg h25, if_neg h43, if_neg h61, if_neg h74, if_pos h87]))
            · refine xs_aload eX10_count_77 rfl ?_
              refine xs_callV0i eX10_count_78 (by assumption) (Nat.le_of_ble_eq_true rfl) (c_X10_oxen (b := w.2.2.1) hn h7 hS ⟨_, rfl, ?_⟩)
              refine xs_goto eX10_count_81 ?_
              exact xs_iretI eX10_count_151 rfl (Qev hQ (by rw [if_neg h1, if_neg h13, if_neg h25, if_neg h43, if_neg h61, if_pos h74]))
          · refine xs_aload eX10_count_64 rfl ?_
            refine xs_K eX10_count_65 ?_
            refine xs_callV1i eX10_count_66 (by assumption) (Nat.le_of_ble_eq_true rfl) (c_X10_found (b := w.2.2.1) (dy := 121 * N) hL hl hS hB (by omega) ⟨_, rfl, ?_⟩)
            refine xs_goto eX10_count_69 ?_
            exact xs_iretI eX10_count_151 rfl (Qev hQ (by rw [if_neg h1, if_neg h13, if_neg h25, if_neg h43, if_pos h61]))
        · refine xs_aload eX10_count_46 rfl ?_
          refine xs_getR eX10_count_47 (by assumption) (by rfl) ?_
          refine xs_K eX10_count_50 ?_
          refine xs_iald eX10_count_52 (by assumption) (by omega) (by decide) ?_
          refine xs_eq1 e15 ?_
          refine xs_callS1i eX10_count_53 (Nat.le_of_ble_eq_true rfl) (c_X10_bits hib.2 ⟨_, rfl, ?_⟩)
          refine xs_goto eX10_count_56 ?_
          exact xs_iretI eX10_count_151 rfl (Qev hQ (by rw [if_neg h1, if_neg h13, if_neg h25, if_pos h43]))
      · refine xs_aload eX10_count_28 rfl ?_
        refine xs_getR eX10_count_29 (by assumption) (by rfl) ?_
        refine xs_K eX10_count_32 ?_
        refine xs_iald eX10_count_34 (by assumption) (by omega) (by decide) ?_
        refine xs_eq1 e14 ?_
        refine xs_callS1i eX10_count_35 (Nat.le_of_ble_eq_true rfl) (c_X10_bits hib.1 ⟨_, rfl, ?_⟩)
        refine xs_goto eX10_count_38 ?_
        exact xs_iretI eX10_count_151 rfl (Qev hQ (by rw [if_neg h1, if_neg h13, if_pos h25]))
    · refine xs_aload eX10_count_16 rfl ?_
      refine xs_getI eX10_count_17 (by assumption) (by rfl) ?_
      refine xs_eq1 hnp ?_
      refine xs_goto eX10_count_20 ?_
      exact xs_iretI eX10_count_151 rfl (Qev hQ (by rw [if_neg h1, if_pos h13]))
  · have h1 : y = nI 0 := h1
    refine xs_aload eX10_count_4 rfl ?_
    refine xs_getI eX10_count_5 (by assumption) (by rfl) ?_
    refine xs_eq1 hn ?_
    refine xs_goto eX10_count_8 ?_
    exact xs_iretI eX10_count_151 rfl (Qev hQ (by rw [if_pos h1]))
theorem sbt_twice : ∀ a, a < 128 → ∀ v, v < 7 → sbt (sbt a v) v = sbt a v := by decide +kernel
theorem any_s {p : Nat → Bool} {n : Nat} : (List.range (n + 1)).any p = ((List.range n).any p || p n) := by
  rw [List.range_succ, List.any_append]
  simp
theorem cp_acc {i a p : Bool} {mk v : Nat} (hm : mk < 128) (hv : v < 7) : (if (i && p) = true then sbt (if (i && a) = true then sbt mk v else mk) v else (if (i && a) = true then sbt mk v else mk)) = (if (i && (a || p)) = true then sbt mk v else mk) := by
  cases i <;> cases a <;> cases p <;> simp [sbt_twice mk hm v hv]
theorem c_X10_copies (hR : repM w M) (hok : okX N w) (hQ : Q (some (.int (spCopies w))) SF M) : xC G mX10_copies (d + 9) 0 0 [.ref (G.1 + 156)] SF M Q := by
  have s0 := sh156
  have s1 := sh162
  obtain ⟨-, hL, hS, -⟩ := id hR
  have hn := hL.1
  have hl := hok.2.1
  have hB := hok.2.2.1
  have h7 := hl.1.2
  have hwr : ∀ v, v < 7 → M 162 (7 + v) = nI (w.2.2.1.2.2.2.1 v) := fun v hv => by have := (hS.2.2.1 v hv).2; rw [show 0 + 7 + v = 7 + v by omega] at this; exact this
  unfold spCopies at hQ
  refine xC_intro [some (.ref (G.1 + 156)), none, none, none, none] rfl (by decide) (Nat.le_of_ble_eq_true rfl) ?_
  refine xs_K eX10_copies_0 ?_
  refine xs_istore eX10_copies_1 (Nat.le_of_ble_eq_true rfl) rfl rfl ?_
  refine xs_K eX10_copies_2 ?_
  refine xs_istore eX10_copies_3 (Nat.le_of_ble_eq_true rfl) rfl rfl ?_
  refine dn (P := fun v => ∀ A B, xW G mX10_copies (d + 9) 0 0 Q 4 [some (.ref (G.1 + 156)), some (.int (nI (maskA (fun v => w.2.2.1.1.testBit v && twinA w.2.1 w.2.2.1 v) v))), some (.int (nI v)), A, B] [] SF M) w.2.1.1 ?_ ?_ 0 (by omega) none none
  · intro A B
    refine xs_iload eX10_copies_4 rfl ?_
    refine xs_aload eX10_copies_5 rfl ?_
    refine xs_getI eX10_copies_6 (by assumption) (by rfl) ?_
    refine xs_eq1 hn ?_
    refine xs_N_ge eX10_copies_9 (by omega) (by omega) (fun h9 => ?_) (fun h => absurd h (by omega))
    refine xs_iload eX10_copies_102 rfl ?_
    exact xs_iretI eX10_copies_103 rfl (hQ)
  · intro v hv ih A B
    have hm := Nat.lt_of_lt_of_le (sbt_mask (p := fun v => w.2.2.1.1.testBit v && twinA w.2.1 w.2.2.1 v) (n := v) (by omega)) (pow7 (n := v) (by omega))
    have hv7 : v < 7 := by omega
    simp only [maskA] at ih
    generalize maskA (fun v => w.2.2.1.1.testBit v && twinA w.2.1 w.2.2.1 v) v = mk at hm ih ⊢
    have hm2 := (bon_nI mk hm v hv7).2
    refine xs_iload eX10_copies_4 rfl ?_
    refine xs_aload eX10_copies_5 rfl ?_
    refine xs_getI eX10_copies_6 (by assumption) (by rfl) ?_
    refine xs_eq1 hn ?_
    refine xs_N_ge eX10_copies_9 (by omega) (by omega) (fun h => absurd h (by omega)) (fun h9 => ?_)
    refine xs_K eX10_copies_12 ?_
    refine xs_istore eX10_copies_13 (Nat.le_of_ble_eq_true rfl) rfl rfl ?_
    refine dn (P := fun u => ∀ B, xW G mX10_copies (d + 9) 0 0 Q 14 [some (.ref (G.1 + 156)), some (.int (nI (if (w.2.2.1.1.testBit v && (List.range u).any (fun u => (w.2.1.2.2.2.1 v).testBit u && w.2.2.1.1.testBit u && decide (w.2.2.1.2.2.2.1 u = w.2.2.1.2.2.2.1 v))) = true then sbt mk v else mk))), some (.int (nI v)), some (.int (nI u)), B] [] SF M) w.2.1.1 ?_ ?_ 0 (by omega) B |> fun h => xs_eqL (by simp) h
    · intro B
      refine xs_iload eX10_copies_14 rfl ?_
      refine xs_aload eX10_copies_15 rfl ?_
      refine xs_getI eX10_copies_16 (by assumption) (by rfl) ?_
      refine xs_eq1 hn ?_
      refine xs_N_ge eX10_copies_19 (by omega) (by omega) (fun h19 => ?_) (fun h => absurd h (by omega))
      refine xs_inc1 eX10_copies_96 rfl rfl rfl ?_
      refine xs_goto eX10_copies_99 ?_
      exact ih _ _
    · intro u hu ih2 B
      have hu7 : u < 7 := by omega
      have l3 := hB.2.2.2.1 u hu7
      have l4 := hB.2.2.2.1 v hv7
      have hw1 := hwr u hu7
      have hw2 := hwr v hv7
      rw [any_s, ← cp_acc hm hv7] at ih2
      have hA : (if (w.2.2.1.1.testBit v && (List.range u).any (fun u => (w.2.1.2.2.2.1 v).testBit u && w.2.2.1.1.testBit u && decide (w.2.2.1.2.2.2.1 u = w.2.2.1.2.2.2.1 v))) = true then sbt mk v else mk) < 128 := by split <;> assumption
      generalize (if (w.2.2.1.1.testBit v && (List.range u).any (fun u => (w.2.1.2.2.2.1 v).testBit u && w.2.2.1.1.testBit u && decide (w.2.2.1.2.2.2.1 u = w.2.2.1.2.2.2.1 v))) = true then sbt mk v else mk) = A at hA ih2 ⊢
      have K : ∀ fl : Bool, (w.2.2.1.1.testBit v && ((w.2.1.2.2.2.1 v).testBit u && w.2.2.1.1.testBit u && decide (w.2.2.1.2.2.2.1 u = w.2.2.1.2.2.2.1 v))) = fl → xW G mX10_copies (d + 9) 0 0 Q 73 [some (.ref (G.1 + 156)), some (.int (nI A)), some (.int (nI v)), some (.int (nI u)), B] [.int (bI fl)] SF M := by
        intro fl hfl
        rw [hfl] at ih2
        refine xs_istore eX10_copies_73 (Nat.le_of_ble_eq_true rfl) rfl rfl ?_
        refine xs_iload eX10_copies_75 rfl ?_
        refine xs_iload eX10_copies_76 rfl ?_
        refine xs_ifeqB eX10_copies_78 (fun h78 => ?_) (fun h78 => ?_)
        · refine xs_K eX10_copies_87 ?_
          refine xs_ior eX10_copies_88 ?_
          refine xs_eq1 (z := nI A) (Int32.or_zero) ?_
          refine xs_istore eX10_copies_89 (Nat.le_of_ble_eq_true rfl) rfl rfl ?_
          refine xs_inc1 eX10_copies_90 rfl rfl rfl ?_
          refine xs_goto eX10_copies_93 ?_
          simp only [h78, Bool.false_eq_true, if_false] at ih2
          exact ih2 _
        · refine xs_K eX10_copies_81 ?_
          refine xs_iload eX10_copies_82 rfl ?_
          refine xs_ishl eX10_copies_83 ?_
          refine xs_goto eX10_copies_84 ?_
          refine xs_ior eX10_copies_88 ?_
          refine xs_eq1 (bon_nI _ hA v hv7).1 ?_
          refine xs_istore eX10_copies_89 (Nat.le_of_ble_eq_true rfl) rfl rfl ?_
          refine xs_inc1 eX10_copies_90 rfl rfl rfl ?_
          refine xs_goto eX10_copies_93 ?_
          simp only [h78, if_true] at ih2
          exact ih2 _
      refine xs_iload eX10_copies_14 rfl ?_
      refine xs_aload eX10_copies_15 rfl ?_
      refine xs_getI eX10_copies_16 (by assumption) (by rfl) ?_
      refine xs_eq1 hn ?_
      refine xs_N_ge eX10_copies_19 (by omega) (by omega) (fun h => absurd h (by omega)) (fun h19 => ?_)
      refine xs_aload eX10_copies_22 rfl ?_
      refine xs_iload eX10_copies_23 rfl ?_
      refine xs_callV1i eX10_copies_24 (by assumption) (Nat.le_of_ble_eq_true rfl) (c_X10_isIn hS (by omega) ⟨_, rfl, ?_⟩)
      refine xs_ifeqB eX10_copies_27 (fun h27 => ?_) (fun h27 => ?_)
      · refine xs_K eX10_copies_72 ?_
        exact K false (by simp [h27])
      · refine xs_aload eX10_copies_30 rfl ?_
        refine xs_iload eX10_copies_31 rfl ?_
        refine xs_callV1i eX10_copies_32 (by assumption) (Nat.le_of_ble_eq_true rfl) (c_X10_isIn hS (by omega) ⟨_, rfl, ?_⟩)
        refine xs_ifeqB eX10_copies_35 (fun h35 => ?_) (fun h35 => ?_)
        · refine xs_K eX10_copies_72 ?_
          exact K false (by simp [h35])
        · refine xs_aload eX10_copies_38 rfl ?_
          refine xs_iload eX10_copies_39 rfl ?_
          refine xs_iload eX10_copies_40 rfl ?_
          refine xs_callV2i eX10_copies_41 (by assumption) (Nat.le_of_ble_eq_true rfl) (c_X10_areNear hL h7 hv hu ⟨_, rfl, ?_⟩)
          refine xs_ifeqB eX10_copies_44 (fun h44 => ?_) (fun h44 => ?_)
          · refine xs_K eX10_copies_72 ?_
            exact K false (by simp [h44])
          · refine xs_aload eX10_copies_47 rfl ?_
            refine xs_getR eX10_copies_48 (by assumption) (by rfl) ?_
            refine xs_K eX10_copies_51 ?_
            refine xs_iload eX10_copies_53 rfl ?_
            refine xs_iadd eX10_copies_54 ?_
            refine xs_eq1 (nI_add 7 v) ?_
            refine xs_iald eX10_copies_55 (by assumption) (by omega) (by decide) ?_
            refine xs_eq1 hw2 ?_
            refine xs_aload eX10_copies_56 rfl ?_
            refine xs_getR eX10_copies_57 (by assumption) (by rfl) ?_
            refine xs_K eX10_copies_60 ?_
            refine xs_iload eX10_copies_62 rfl ?_
            refine xs_iadd eX10_copies_63 ?_
            refine xs_eq1 (nI_add 7 u) ?_
            refine xs_iald eX10_copies_64 (by assumption) (by omega) (by decide) ?_
            refine xs_eq1 hw1 ?_
            refine xs_N_ne eX10_copies_65 (by omega) (by omega) (fun h65 => ?_) (fun h65 => ?_)
            · refine xs_K eX10_copies_72 ?_
              exact K false (by simp [Ne.symm h65])
            · refine xs_K eX10_copies_68 ?_
              refine xs_goto eX10_copies_69 ?_
              exact K true (by simp [h27, h35, h44, h65])
/-! shire -/
theorem c_X10_shire (hN : N ≤ 600) (hR : repM w M) (hok : okX N w) (hQ : ∀ M1, loK M M1 → repM w M1 → Q (some (.int (spShire w y1 y2 y3))) SF M1) : xC G mX10_shire (d + 9) 0 0 [.ref (G.1 + 156), .int y1, .int y2, .int y3] SF M Q := by
  have s0 := sh156
  have s1 := sh162
  obtain ⟨-, hL, hS, -⟩ := id hR
  have hl := hok.2.1
  obtain ⟨⟨l1, l2⟩, ⟨l3, l4⟩, -⟩ := id hl
  unfold spShire at hQ
  refine xC_intro [some (.ref (G.1 + 156)), some (.int y1), some (.int y2), some (.int y3), none, none, none, none, none, none, none, none] rfl (by decide) (Nat.le_of_ble_eq_true rfl) ?_
  have K : wiB y1 (nI 0) (nI 9999) = true → wiB y2 (nI 1) (nI 40) = true → wiB y3 (nI 0) (nI 1) = true → xW G mX10_shire (d + 9) 0 0 Q 36 [some (.ref (G.1 + 156)), some (.int y1), some (.int y2), some (.int y3), none, none, none, none, none, none, none, none] [] SF M := by
    intro q1 q2 q3
    simp only [q1, q2, q3, Bool.and_self, if_true] at hQ
    obtain ⟨z, -, hz, rfl⟩ := wi_of (by decide) (by decide) q1
    obtain ⟨n, hn1, hn2, rfl⟩ := wi_of (by decide) (by decide) q2
    obtain ⟨k, -, hk, rfl⟩ := wi_of (by decide) (by decide) q3
    rw [nI_clamp (by omega), nI_clamp (by omega)] at hQ
    simp only [nI_e (show k < 2 ^ 31 by omega) (show 0 < 2 ^ 31 by decide)] at hQ
    refine xs_aload eX10_shire_36 rfl ?_
    refine xs_K eX10_shire_37 ?_
    refine xs_K eX10_shire_38 ?_
    refine xs_callV2v eX10_shire_41 (by assumption) (Nat.le_of_ble_eq_true rfl) (c_X10_copied (by omega) (by omega) (by omega) ⟨rfl, ?_⟩)
    refine xs_K eX10_shire_44 ?_
    refine xs_istore eX10_shire_45 (Nat.le_of_ble_eq_true rfl) rfl rfl ?_
    refine xs_K eX10_shire_47 ?_
    refine xs_istore eX10_shire_48 (Nat.le_of_ble_eq_true rfl) rfl rfl ?_
    refine dn (P := fun i => ∀ (M1 : xMem) (t : Nat) (A B C D : Option Value), t ≤ 420 * i → sK 242 M M1 → rS M1 242 (shireB w.2.1 w.2.2.1 z i) → xW G mX10_shire (d + 9) 0 0 Q 50 [some (.ref (G.1 + 156)), some (.int (nI z)), some (.int (nI n)), some (.int (nI k)), some (.int (nI t)), some (.int (nI i)), none, none, A, B, C, D] [] SF M1) n ?_ ?_ 0 (Nat.zero_le _) _ 0 none none none none (by omega) cpS_k (rS_cp hS)
    · intro M1 t A B C D ht o1 hS1
      have hob := okB_shire (z := z) hl hok.2.2.1 n
      have hL1 := rLm_sK hL o1
      have hnp := hL1.2.1
      have hq := hQ M1 (loK_sK o1) (repM_tr hR hok o1)
      refine xs_iload eX10_shire_50 rfl ?_
      refine xs_iload eX10_shire_52 rfl ?_
      refine xs_N_ge eX10_shire_53 (by omega) (by omega) (fun h53 => ?_) (fun h => absurd h (by omega))
      refine xs_iload eX10_shire_219 rfl ?_
      refine xs_N0_ge eX10_shire_221 (by omega) ?_
      refine xs_iload eX10_shire_229 rfl ?_
      refine xs_N0_ne eX10_shire_230 (by omega) (fun h230 => ?_) (fun h230 => ?_)
      · refine xs_aload eX10_shire_243 rfl ?_
        refine xs_K eX10_shire_244 ?_
        refine xs_callV1i eX10_shire_247 (by assumption) (Nat.le_of_ble_eq_true rfl) (c_X10_mostDays (b := shireB w.2.1 w.2.2.1 z n) (dy := 121 * N + 121 * n) (nv := w.2.1.1) hnp l4 hS1 hob (by omega) (by omega) ⟨_, rfl, ?_⟩)
        exact xs_iretI eX10_shire_250 rfl (Qev hq (by rw [if_neg h230]))
      · refine xs_aload eX10_shire_233 rfl ?_
        refine xs_K eX10_shire_234 ?_
        refine xs_callV1i eX10_shire_237 (by assumption) (Nat.le_of_ble_eq_true rfl) (c_X10_found (b := shireB w.2.1 w.2.2.1 z n) (dy := 121 * N + 121 * n) hL1 hl hS1 hob (by omega) ⟨_, rfl, ?_⟩)
        refine xs_goto eX10_shire_240 ?_
        exact xs_iretI eX10_shire_250 rfl (Qev hq (by rw [if_pos h230]))
    · intro i hi ih M1 t A B C D ht o1 hS1
      have hob := okB_shire (z := z) hl hok.2.2.1 i
      have hL1 := rLm_sK hL o1
      have hnv := hL1.1
      have hnp := hL1.2.1
      have hst : shireB w.2.1 w.2.2.1 z (i + 1) = stepB w.2.1 (shireB w.2.1 w.2.2.1 z i) (drawN z i) := rfl
      rw [hst] at ih
      have hdr := drawN_lt z i
      have hdk := draw_ok hz (show i < 40 by omega)
      generalize drawN z i = dr at *
      generalize shireB w.2.1 w.2.2.1 z i = b at *
      have hp : dr % w.2.1.2.1 < w.2.1.2.1 := Nat.mod_lt _ (by omega)
      have hv : dr / 8 % w.2.1.1 < w.2.1.1 := Nat.mod_lt _ (by omega)
      have nz1 : ¬ nI w.2.1.2.1 = 0 := nI_ne0 (by omega) (by omega)
      have nz2 : ¬ nI w.2.1.1 = 0 := nI_ne0 (by omega) (by omega)
      have q1 : nI dr - nI dr / nI w.2.1.2.1 * nI w.2.1.2.1 = nI (dr % w.2.1.2.1) := pk_rem (by omega) (by omega) (by omega)
      have q2 : nI dr / nI 8 - nI dr / nI 8 / nI w.2.1.1 * nI w.2.1.1 = nI (dr / 8 % w.2.1.1) := by rw [pk_div (by omega) (by decide) (by decide)]; exact pk_rem (by omega) (by omega) (by omega)
      have q3 : nI dr / nI 64 - nI dr / nI 64 / nI 3 * nI 3 = nI (dr / 64 % 3) := by rw [pk_div (by omega) (by decide) (by decide)]; exact pk_rem (by omega) (by omega) (by omega)
      unfold stepB at ih
      generalize dr % w.2.1.2.1 = p at *
      generalize dr / 8 % w.2.1.1 = v at *
      have ht3 : dr / 64 % 3 < 3 := Nat.mod_lt _ (by decide)
      generalize dr / 64 % 3 = tr at *
      have hv7 : v < 7 := by omega
      have hp3 : p < 3 := by omega
      have hne : w.2.1.2.2.2.1 v < 128 := okX_near hok hv7
      have hib : b.1 < 128 := Nat.lt_of_lt_of_le hob.1 (pow7 l2)
      have hck : b.2.1 < 128 := Nat.lt_of_lt_of_le hob.2.1 (pow7 l2)
      have hsl := swN_le (hon := w.2.1.2.2.2.2.1) (kd := w.2.1.2.2.1 v) hob hv7 hne
      have hbt : bt (M1 162 256) v = b.1.testBit v := (rS_bt hS1 (v := v) (by omega)).1
      have r4 : canA w.2.1 b p v = false → ¬ (tr = 0 ∧ (b.1.testBit v && !b.2.1.testBit v) = true) → ¬ (tr = 1 ∧ b.1.testBit v = true) → ∀ A B C D, xW G mX10_shire (d + 9) 0 0 Q 50 [some (.ref (G.1 + 156)), some (.int (nI z)), some (.int (nI n)), some (.int (nI k)), some (.int (nI t)), some (.int (nI (i + 1))), none, none, A, B, C, D] [] SF M1 := fun h h2 h3 A B C D => by
        rw [if_neg (by rw [h]; decide), if_neg h2, if_neg h3] at ih
        exact ih M1 t A B C D (by omega) o1 hS1
      refine xs_iload eX10_shire_50 rfl ?_
      refine xs_iload eX10_shire_52 rfl ?_
      refine xs_N_ge eX10_shire_53 (by omega) (by omega) (fun h => absurd h (by omega)) (fun h53 => ?_)
      refine xs_KL eX10_shire_56 ?_
      refine xs_iload eX10_shire_59 rfl ?_
      refine xs_i2l eX10_shire_60 ?_
      refine xs_lmul eX10_shire_61 ?_
      refine xs_KL eX10_shire_62 ?_
      refine xs_iload eX10_shire_65 rfl ?_
      refine xs_i2l eX10_shire_67 ?_
      refine xs_lmul eX10_shire_68 ?_
      refine xs_ladd eX10_shire_69 ?_
      refine xs_KL eX10_shire_70 ?_
      refine xs_ladd eX10_shire_71 ?_
      refine xs_lstore eX10_shire_72 (Nat.le_of_ble_eq_true rfl) rfl rfl ?_
      refine xs_lload eX10_shire_74 rfl ?_
      refine xs_lload eX10_shire_76 rfl ?_
      refine xs_lmul eX10_shire_78 ?_
      refine xs_KL eX10_shire_79 ?_
      refine xs_lrem eX10_shire_82 (by decide) ?_
      refine xs_KL eX10_shire_83 ?_
      refine xs_ldiv eX10_shire_86 (by decide) ?_
      refine xs_l2i eX10_shire_87 ?_
      refine xs_eq1 hdk ?_
      refine xs_istore eX10_shire_88 (Nat.le_of_ble_eq_true rfl) rfl rfl ?_
      refine xs_iload eX10_shire_90 rfl ?_
      refine xs_aload eX10_shire_92 rfl ?_
      refine xs_getI eX10_shire_93 (by assumption) (by rfl) ?_
      refine xs_eq1 hnp ?_
      refine xs_irem eX10_shire_96 (nz1) ?_
      refine xs_eq1 q1 ?_
      refine xs_istore eX10_shire_97 (Nat.le_of_ble_eq_true rfl) rfl rfl ?_
      refine xs_iload eX10_shire_99 rfl ?_
      refine xs_K eX10_shire_101 ?_
      refine xs_idiv eX10_shire_103 (by decide) ?_
      refine xs_aload eX10_shire_104 rfl ?_
      refine xs_getI eX10_shire_105 (by assumption) (by rfl) ?_
      refine xs_eq1 hnv ?_
      refine xs_irem eX10_shire_108 (nz2) ?_
      refine xs_eq1 q2 ?_
      refine xs_istore eX10_shire_109 (Nat.le_of_ble_eq_true rfl) rfl rfl ?_
      refine xs_iload eX10_shire_111 rfl ?_
      refine xs_K eX10_shire_113 ?_
      refine xs_idiv eX10_shire_115 (by decide) ?_
      refine xs_K eX10_shire_116 ?_
      refine xs_irem eX10_shire_117 (by decide) ?_
      refine xs_eq1 q3 ?_
      refine xs_istore eX10_shire_118 (Nat.le_of_ble_eq_true rfl) rfl rfl ?_
      refine xs_aload eX10_shire_120 rfl ?_
      refine xs_K eX10_shire_121 ?_
      refine xs_iload eX10_shire_124 rfl ?_
      refine xs_iload eX10_shire_126 rfl ?_
      refine xs_callV3i eX10_shire_128 (by assumption) (Nat.le_of_ble_eq_true rfl) (c_X10_canAsk (b := b) (dy := 121 * N + 121 * i) hL1 hl hS1 hob (by omega) hp3 hv ⟨_, rfl, ?_⟩)
      refine xs_ifeqB eX10_shire_131 (fun h131 => ?_) (fun h131 => ?_)
      · refine xs_iload eX10_shire_153 rfl ?_
        refine xs_N0_ne eX10_shire_155 (by omega) (fun h155 => ?_) (fun h155 => ?_)
        · refine xs_iload eX10_shire_182 rfl ?_
          refine xs_K eX10_shire_184 ?_
          refine xs_N_ne eX10_shire_185 (by omega) (by omega) (fun h185 => ?_) (fun h185 => ?_)
          · refine xs_inc1 eX10_shire_213 rfl rfl rfl ?_
            refine xs_goto eX10_shire_216 ?_
            refine xs_kill 6 rfl ?_
            exact r4 h131 (fun q => by omega) (fun q => by omega) _ _ _ _
          · refine xs_aload eX10_shire_188 rfl ?_
            refine xs_getR eX10_shire_189 (by assumption) (by rfl) ?_
            refine xs_K eX10_shire_192 ?_
            refine xs_iald eX10_shire_195 (by assumption) (by omega) (by decide) ?_
            refine xs_iload eX10_shire_196 rfl ?_
            refine xs_callS2i eX10_shire_198 (Nat.le_of_ble_eq_true rfl) (c_X10_has (by omega) ⟨_, rfl, ?_⟩)
            rw [hbt]
            refine xs_ifeqB eX10_shire_201 (fun h201 => ?_) (fun h201 => ?_)
            · refine xs_inc1 eX10_shire_213 rfl rfl rfl ?_
              refine xs_goto eX10_shire_216 ?_
              refine xs_kill 6 rfl ?_
              exact r4 h131 (fun q => by omega) (fun q => by rw [h201] at q; cases q.2) _ _ _ _
            · refine xs_aload eX10_shire_204 rfl ?_
              refine xs_K eX10_shire_205 ?_
              refine xs_iload eX10_shire_208 rfl ?_
              refine xs_callV2v eX10_shire_210 (by assumption) (Nat.le_of_ble_eq_true rfl) (c_X10_struck (b := b) hS1 hib hck (by omega) hv7 (fun M2 e3 e4 => ⟨rfl, ?_⟩))
              refine xs_inc1 eX10_shire_213 rfl rfl rfl ?_
              refine xs_goto eX10_shire_216 ?_
              refine xs_kill 6 rfl ?_
              rw [if_neg (by rw [h131]; decide), if_neg (fun q => by omega), if_pos ⟨h185, h201⟩] at ih
              exact ih M2 t _ _ _ _ (by omega) (sK_tr o1 e3) e4
        · refine xs_aload eX10_shire_158 rfl ?_
          refine xs_K eX10_shire_159 ?_
          refine xs_iload eX10_shire_162 rfl ?_
          refine xs_callV2i eX10_shire_164 (by assumption) (Nat.le_of_ble_eq_true rfl) (c_X10_canCheck (b := b) hS1 (by omega) (by omega) ⟨_, rfl, ?_⟩)
          refine xs_ifeqB eX10_shire_167 (fun h167 => ?_) (fun h167 => ?_)
          · refine xs_iload eX10_shire_182 rfl ?_
            refine xs_K eX10_shire_184 ?_
            refine xs_N_ne eX10_shire_185 (by omega) (by omega) (fun h185 => ?_) (fun h185 => ?_)
            · refine xs_inc1 eX10_shire_213 rfl rfl rfl ?_
              refine xs_goto eX10_shire_216 ?_
              refine xs_kill 6 rfl ?_
              exact r4 h131 (fun q => by rw [h167] at q; cases q.2) (fun q => by omega) _ _ _ _
            · refine xs_aload eX10_shire_188 rfl ?_
              refine xs_getR eX10_shire_189 (by assumption) (by rfl) ?_
              refine xs_K eX10_shire_192 ?_
              refine xs_iald eX10_shire_195 (by assumption) (by omega) (by decide) ?_
              refine xs_iload eX10_shire_196 rfl ?_
              refine xs_callS2i eX10_shire_198 (Nat.le_of_ble_eq_true rfl) (c_X10_has (by omega) ⟨_, rfl, ?_⟩)
              rw [hbt]
              refine xs_ifeqB eX10_shire_201 (fun h201 => ?_) (fun h201 => ?_)
              · refine xs_inc1 eX10_shire_213 rfl rfl rfl ?_
                refine xs_goto eX10_shire_216 ?_
                omega
              · refine xs_aload eX10_shire_204 rfl ?_
                refine xs_K eX10_shire_205 ?_
                refine xs_iload eX10_shire_208 rfl ?_
                refine xs_callV2v eX10_shire_210 (by assumption) (Nat.le_of_ble_eq_true rfl) (c_X10_struck (b := b) hS1 hib hck (by omega) hv7 (fun M2 e3 e4 => ⟨rfl, ?_⟩))
                refine xs_inc1 eX10_shire_213 rfl rfl rfl ?_
                refine xs_goto eX10_shire_216 ?_
                omega
          · refine xs_aload eX10_shire_170 rfl ?_
            refine xs_K eX10_shire_171 ?_
            refine xs_iload eX10_shire_174 rfl ?_
            refine xs_callV2v eX10_shire_176 (by assumption) (Nat.le_of_ble_eq_true rfl) (c_X10_checked (b := b) hS1 hck (by omega) hv7 (fun M2 e3 e4 => ⟨rfl, ?_⟩))
            refine xs_goto eX10_shire_179 ?_
            refine xs_inc1 eX10_shire_213 rfl rfl rfl ?_
            refine xs_goto eX10_shire_216 ?_
            refine xs_kill 6 rfl ?_
            rw [if_neg (by rw [h131]; decide), if_pos ⟨h155, h167⟩] at ih
            exact ih M2 t _ _ _ _ (by omega) (sK_tr o1 e3) e4
      · refine xs_iload eX10_shire_134 rfl ?_
        refine xs_aload eX10_shire_136 rfl ?_
        refine xs_K eX10_shire_137 ?_
        refine xs_iload eX10_shire_140 rfl ?_
        refine xs_iload eX10_shire_142 rfl ?_
        refine xs_callV3i eX10_shire_144 (by assumption) (Nat.le_of_ble_eq_true rfl) (c_X10_asks (b := b) (dy := 121 * N + 121 * i) hL1 hl hS1 hob (by omega) hp3 hv h131 (by omega) (fun M2 e3 e4 => ⟨_, rfl, ?_⟩))
        refine xs_iadd eX10_shire_147 ?_
        refine xs_eq1 (nI_add t _) ?_
        refine xs_istore eX10_shire_148 (Nat.le_of_ble_eq_true rfl) rfl rfl ?_
        refine xs_goto eX10_shire_150 ?_
        refine xs_inc1 eX10_shire_213 rfl rfl rfl ?_
        refine xs_goto eX10_shire_216 ?_
        refine xs_kill 6 rfl ?_
        rw [if_pos h131] at ih
        exact ih M2 _ _ _ _ _ (by omega) (sK_tr o1 e3) e4
  have K2 : ¬ (wiB y1 (nI 0) (nI 9999) && wiB y2 (nI 1) (nI 40) && wiB y3 (nI 0) (nI 1)) = true → Q (some (.int (-1))) SF M := fun h => by
    have h9 := hQ M
    rw [if_neg h] at h9
    exact h9 (fun _ _ => rfl) hR
  refine xs_iload eX10_shire_0 rfl ?_
  refine xs_i2l eX10_shire_1 ?_
  refine xs_KL eX10_shire_2 ?_
  refine xs_KL eX10_shire_3 ?_
  refine xs_callS3i eX10_shire_6 (Nat.le_of_ble_eq_true rfl) (c_X10_in (lo := nI 0) (hi := nI 9999) rfl (by decide) (by decide) ⟨_, rfl, ?_⟩)
  refine xs_ifeqB eX10_shire_9 (fun h9 => ?_) (fun h9 => ?_)
  · refine xs_K eX10_shire_34 ?_
    exact xs_iretI eX10_shire_35 rfl (K2 (by simp [h9]))
  · refine xs_iload eX10_shire_12 rfl ?_
    refine xs_i2l eX10_shire_13 ?_
    refine xs_KL eX10_shire_14 ?_
    refine xs_KL eX10_shire_15 ?_
    refine xs_callS3i eX10_shire_18 (Nat.le_of_ble_eq_true rfl) (c_X10_in (lo := nI 1) (hi := nI 40) rfl (by decide) (by decide) ⟨_, rfl, ?_⟩)
    refine xs_ifeqB eX10_shire_21 (fun h21 => ?_) (fun h21 => ?_)
    · refine xs_K eX10_shire_34 ?_
      exact xs_iretI eX10_shire_35 rfl (K2 (by simp [h21]))
    · refine xs_iload eX10_shire_24 rfl ?_
      refine xs_i2l eX10_shire_25 ?_
      refine xs_KL eX10_shire_26 ?_
      refine xs_KL eX10_shire_27 ?_
      refine xs_callS3i eX10_shire_28 (Nat.le_of_ble_eq_true rfl) (c_X10_in (lo := nI 0) (hi := nI 1) rfl (by decide) (by decide) ⟨_, rfl, ?_⟩)
      refine xs_ifneB eX10_shire_31 (fun h31 => ?_) (fun h31 => ?_)
      · exact K h9 h21 h31
      · refine xs_K eX10_shire_34 ?_
        exact xs_iretI eX10_shire_35 rfl (K2 (by simp [h31]))
end R7

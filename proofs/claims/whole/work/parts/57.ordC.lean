/-! ORDERS of the class: weighOrder, goOn, seek, most, least -/
def orK (dp : Nat) (M M1 : xMem) : Prop := (∀ a, a < 106 ∨ 149 < a → M1 a = M a) ∧ M1 106 4 = M 106 4 ∧ M1 106 6 = M 106 6 ∧ (∀ a, 110 ≤ a → a < 115 + 5 * dp → M1 a = M a) ∧ ∀ k, k < dp → M1 108 k = M 108 k
def ordS (M : xMem) (acc : Option (Nat × List Nat)) : Prop := M 106 5 = bI acc.isSome ∧ ∀ q, acc = some q → M 106 7 = nI q.1 ∧ ∀ k, k < q.2.length → M 109 k = nI (q.2.getD k 0)
theorem ordS_keep {M M1 : xMem} {acc : Option (Nat × List Nat)} (h : ordS M acc) (h1 : M1 106 = M 106) (h2 : M1 109 = M 109) : ordS M1 acc := by
  unfold ordS at h ⊢
  rw [h1, h2]
  exact h
theorem isBkO : ∀ i, i < 8 → isBk (110 + 5 * i) := by unfold isBk; decide +kernel
theorem ldO {a : Nat} (ha : a < 8) : ([some 110, some 115, some 120, some 125, some 130, some 135, some 140, some 145] : List (Option Nat))[a]? = some (some (110 + 5 * a)) := by
  rcases (show a = 0 ∨ a = 1 ∨ a = 2 ∨ a = 3 ∨ a = 4 ∨ a = 5 ∨ a = 6 ∨ a = 7 by omega) with rfl | rfl | rfl | rfl | rfl | rfl | rfl | rfl <;> rfl
theorem bitsL_nv : ∀ n, n < 8 → ∀ r, r < 2 ^ n → (List.range n).filter (fun v => r.testBit v) = bitsL r := by decide +kernel
theorem restN_sbt {nv ib v : Nat} (h7 : nv ≤ 7) (hi : ib < 128) (hv : v < 7) : restN nv (sbt ib v) = cbt (restN nv ib) v := by
  have h1 := Nat.lt_of_lt_of_le (restN_lt (ib := ib) h7) (pow7 h7)
  have h2 := Nat.lt_of_lt_of_le (restN_lt (ib := sbt ib v) h7) (pow7 h7)
  refine bits_ext _ h2 _ (boff_nI _ h1 v hv).2 (fun i hi8 => ?_)
  rw [restN_bt h7 hi8, cbt_bit _ h1 v hv i hi8, restN_bt h7 hi8, sbt_bit _ hi v hv i hi8]
  cases ib.testBit i <;> cases decide (i < nv) <;> cases decide (i = v) <;> rfl
theorem range_f {r i : Nat} {α : Type} {g : α → Nat → α} {a : α} : ((List.range (i + 1)).filter (fun v => r.testBit v)).foldl g a = if r.testBit i then g (((List.range i).filter (fun v => r.testBit v)).foldl g a) i else ((List.range i).filter (fun v => r.testBit v)).foldl g a := by
  rw [List.range_succ, List.filter_append, List.foldl_append]
  by_cases h : r.testBit i = true
  · rw [if_pos h, List.filter_cons_of_pos h]
    rfl
  · rw [if_neg h, List.filter_cons_of_neg h]
    rfl
section OC
variable {G : xGl} {d N c p v : Nat} {w : aX} {l : aLd} {b : aBk} {M : xMem} {S : List xSh} {Q : Option Value → List xSh → xMem → Prop} {y : Int32}
theorem c_X3_weighOrder {x : Nat} {up : Bool} {o : List Nat} {acc : Option (Nat × List Nat)} (hx : x ≤ 2940) (hu : M 106 4 = bI up) (hO : ordS M acc) (hok : okO o.length acc) (hp : ∀ k, k < o.length → M 108 k = nI (o.getD k 0)) (hQ : ∀ M1, (∀ a, a ≠ 106 → a ≠ 109 → M1 a = M a) → (∀ j, j ≠ 5 → j ≠ 7 → M1 106 j = M 106 j) → ordS M1 (wtO up acc x o) → Q none SF M1) : xC G mX3_weighOrder (d + 1) 0 0 [.ref (G.1 + 106), .int (nI x)] SF M Q := by
  have s0 := sh106
  have s1 := sh108
  have s2 := sh109
  refine xC_intro [some (.ref (G.1 + 106)), some (.int (nI x))] rfl (by decide) (Nat.le_of_ble_eq_true rfl) ?_
  have K33 : wtO up acc x o = some (x, o) → xW G mX3_weighOrder (d + 1) 0 0 Q 33 [some (.ref (G.1 + 106)), some (.int (nI x))] [] SF M := by
    intro h
    rw [h] at hQ
    have hq := hQ (setR (up2 (up2 M 106 5 (nI 1)) 106 7 (nI x)) 109 (M 108)) (fun a a1 a2 => by rw [setR_ne a2, up2_ne a1, up2_ne a1]) (fun j j1 j2 => by rw [setR_ne (by decide), up2_x, if_neg j2, up2_x, if_neg j1]) ⟨by rw [setR_ne (by decide), up2_x, if_neg (by decide), up2_x, if_pos rfl]; rfl, fun q hq => by
      cases hq
      exact ⟨by rw [setR_ne (by decide), up2_x, if_pos rfl], fun k hk => by rw [setR_row]; exact hp k hk⟩⟩
    refine xs_aload eX3_weighOrder_33 rfl ?_
    refine xs_K eX3_weighOrder_34 ?_
    refine xs_putI eX3_weighOrder_35 (by assumption) (by rfl) (bI_nar true) (bI_fit true) ?_
    refine xs_aload eX3_weighOrder_38 rfl ?_
    refine xs_iload eX3_weighOrder_39 rfl ?_
    refine xs_putI eX3_weighOrder_40 (by assumption) (by rfl) rfl rfl ?_
    refine xs_aload eX3_weighOrder_43 rfl ?_
    refine xs_getR eX3_weighOrder_44 (by assumption) (by rfl) ?_
    refine xs_K eX3_weighOrder_47 ?_
    refine xs_aload eX3_weighOrder_48 rfl ?_
    refine xs_getR eX3_weighOrder_49 (by assumption) (by rfl) ?_
    refine xs_K eX3_weighOrder_52 ?_
    refine xs_K eX3_weighOrder_53 ?_
    refine xs_copy eX3_weighOrder_55 (by assumption) (by assumption) (by decide) (Nat.le_of_ble_eq_true rfl) ?_
    exact xs_vret eX3_weighOrder_58 rfl (QeM hq (by rw [up2_ne (by decide), up2_ne (by decide)]))
  have K58 : wtO up acc x o = acc → Q none SF M := fun h => hQ M (fun _ _ _ => rfl) (fun _ _ _ => rfl) (by rw [h]; exact hO)
  have hO1 := hO.1
  cases acc with
  | none =>
    refine xs_aload eX3_weighOrder_0 rfl ?_
    refine xs_getI eX3_weighOrder_1 (by assumption) (by rfl) ?_
    refine xs_eq1 hO1 ?_
    refine xs_ifeqB eX3_weighOrder_4 (fun h4 => ?_) (fun h => absurd h (by decide))
    exact K33 rfl
  | some q =>
    have hb := (hO.2 q rfl).1
    have hq1 := (hok q rfl).1
    refine xs_aload eX3_weighOrder_0 rfl ?_
    refine xs_getI eX3_weighOrder_1 (by assumption) (by rfl) ?_
    refine xs_eq1 hO1 ?_
    refine xs_ifeqB eX3_weighOrder_4 (fun h => absurd h (by simp)) (fun h4 => ?_)
    refine xs_aload eX3_weighOrder_7 rfl ?_
    refine xs_getI eX3_weighOrder_8 (by assumption) (by rfl) ?_
    refine xs_eq1 hu ?_
    refine xs_ifeqB eX3_weighOrder_11 (fun h11 => ?_) (fun h11 => ?_)
    · refine xs_iload eX3_weighOrder_25 rfl ?_
      refine xs_aload eX3_weighOrder_26 rfl ?_
      refine xs_getI eX3_weighOrder_27 (by assumption) (by rfl) ?_
      refine xs_eq1 hb ?_
      refine xs_N_ge eX3_weighOrder_30 (by omega) (by omega) (fun h30 => ?_) (fun h30 => ?_)
      · exact xs_vret eX3_weighOrder_58 rfl (K58 (by simp only [wtO]; rw [if_neg (by simp [betO, h11]; omega)]))
      · exact K33 (by simp only [wtO]; rw [if_pos (by simp [betO, h11]; omega)])
    · refine xs_iload eX3_weighOrder_14 rfl ?_
      refine xs_aload eX3_weighOrder_15 rfl ?_
      refine xs_getI eX3_weighOrder_16 (by assumption) (by rfl) ?_
      refine xs_eq1 hb ?_
      refine xs_N_le eX3_weighOrder_19 (by omega) (by omega) (fun h19 => ?_) (fun h19 => ?_)
      · exact xs_vret eX3_weighOrder_58 rfl (K58 (by simp only [wtO]; rw [if_neg (by simp [betO, h11]; omega)]))
      · refine xs_goto eX3_weighOrder_22 ?_
        exact K33 (by simp only [wtO]; rw [if_pos (by simp [betO, h11]; omega)])
theorem c_X3_goOn {b0 : aBk} {dy m : Nat} {up : Bool} (hl : okL l) (hb0 : okB l.1 dy b0) (hm : m ≤ 7) : ∀ (n dp : Nat) (o : List Nat) (r : Nat) (acc : Option (Nat × List Nat)) (M : xMem) (Q : Option Value → List xSh → xMem → Prop), dp + n = m → rL M l → M 106 6 = nI m → M 106 4 = bI up → o.length = dp → (∀ k, k < dp → M 108 k = nI (o.getD k 0)) → (∀ v ∈ o, v < l.1) → rE M (110 + 5 * dp) (runB l b0 o) → restN l.1 (runB l b0 o).1 = r → pc7 r = n → ordS M acc → okO m acc → (∀ M1, orK dp M M1 → ordS M1 ((pmL n (bitsL r)).foldl (fun a e => stO l b0 up a (o ++ e)) acc) → okO m ((pmL n (bitsL r)).foldl (fun a e => stO l b0 up a (o ++ e)) acc) → Q none SF M1) → xC G mX3_goOn (d + n + 3) 0 0 [.ref (G.1 + 106), .int (nI dp)] SF M Q := by
  have s0 := sh106
  have s7 := sh107
  have s8 := sh108
  have l0 := sh18
  have l1 := sh19
  have h7 := hl.1.2
  intro n
  induction n with
  | zero =>
    intro dp o r acc M Q hdp hL h6 h4 hlen hor hmem hE hr hpc hO hok hQ
    have hn := hL.1
    have isb := isBkO dp (by omega)
    have bk := bk0 isb
    have hbo := okB_run hl hb0 hmem
    have hf : foundF l.1 (M (110 + 5 * dp) 5) (M (110 + 5 * dp + 2)) = nI (foundB l.1 (runB l b0 o)) := by
      rw [hE.1]
      exact found_nI _ (by omega) (fun v hv => (hE.2.2 v hv).2)
    have e0 : (pmL 0 (bitsL r)).foldl (fun a e => stO l b0 up a (o ++ e)) acc = wtO up acc (foundB l.1 (runB l b0 o)) o := by
      show stO l b0 up acc (o ++ []) = _
      rw [List.append_nil]
      rfl
    rw [e0] at hQ
    have hfl := foundB_le h7 hbo
    have hko := stO_ok (up := up) hl hb0 hmem (by omega) hok
    refine xC_intro [some (.ref (G.1 + 106)), some (.int (nI dp)), none, none, none, none] rfl (by decide) (Nat.le_of_ble_eq_true rfl) ?_
    refine xs_iload eX3_goOn_0 rfl ?_
    refine xs_aload eX3_goOn_1 rfl ?_
    refine xs_getI eX3_goOn_2 (by assumption) (by rfl) ?_
    refine xs_eq1 h6 ?_
    refine xs_N_ge eX3_goOn_5 (by omega) (by omega) (fun h5 => ?_) (fun h => absurd h (by omega))
    refine xs_aload eX3_goOn_14 rfl ?_
    refine xs_aload eX3_goOn_15 rfl ?_
    refine xs_getR eX3_goOn_16 (by assumption) (by rfl) ?_
    refine xs_iload eX3_goOn_19 rfl ?_
    refine xs_aald eX3_goOn_20 s7 rfl (ldO (by omega)) (Nat.le_of_ble_eq_true rfl) ?_
    refine xs_callV0i eX3_goOn_21 (by assumption) (Nat.le_of_ble_eq_true rfl) (c_X0_found (by assumption) (by assumption) (by omega) ⟨_, rfl, ?_⟩)
    rw [hf]
    refine xs_callV1v eX3_goOn_24 (by assumption) (Nat.le_of_ble_eq_true rfl) (c_X3_weighOrder (up := up) (o := o) (acc := acc) hfl h4 hO (by rw [hlen, show dp = m by omega]; exact hok) (by rw [hlen]; exact hor) (fun M1 f1 f2 f3 => ⟨rfl, ?_⟩))
    exact xs_vret eX3_goOn_27 rfl (hQ M1 ⟨fun a ha => f1 a (by omega) (by omega), f2 4 (by decide) (by decide), f2 6 (by decide) (by decide), fun a a1 a2 => f1 a (by omega) (by omega), fun k hk => by rw [f1 108 (by decide) (by decide)]⟩ f3 hko)
  | succ n IH =>
    intro dp o r acc M Q hdp hL h6 h4 hlen hor hmem hE hr hpc hO hok hQ
    have hn := hL.1
    have isb := isBkO dp (by omega)
    have bk := bk0 isb
    have isb2 := isBkO (dp + 1) (by omega)
    have bk2' := bk0 isb2
    have ne2 : 110 + 5 * (dp + 1) ≠ 110 + 5 * dp := by omega
    have hbo := okB_run hl hb0 hmem
    have hrl : r < 2 ^ l.1 := by rw [← hr]; exact restN_lt h7
    have hr128 := Nat.lt_of_lt_of_le hrl (pow7 h7)
    have hrM : restM l.1 (M (110 + 5 * dp) 5) = nI r := by rw [hE.1, rest_nI h7, hr]
    have hib : (runB l b0 o).1 < 128 := Nat.lt_of_lt_of_le hbo.1 (pow7 h7)
    refine xC_intro [some (.ref (G.1 + 106)), some (.int (nI dp)), none, none, none, none] rfl (by decide) (Nat.le_of_ble_eq_true rfl) ?_
    refine xs_iload eX3_goOn_0 rfl ?_
    refine xs_aload eX3_goOn_1 rfl ?_
    refine xs_getI eX3_goOn_2 (by assumption) (by rfl) ?_
    refine xs_eq1 h6 ?_
    refine xs_N_ge eX3_goOn_5 (by omega) (by omega) (fun h => absurd h (by omega)) (fun h5 => ?_)
    refine xs_iload eX3_goOn_8 rfl ?_
    refine xs_K eX3_goOn_9 ?_
    refine xs_N_lt eX3_goOn_11 (by omega) (by omega) (fun h11 => ?_) (fun h => absurd h (by omega))
    refine xs_aload eX3_goOn_28 rfl ?_
    refine xs_getR eX3_goOn_29 (by assumption) (by rfl) ?_
    refine xs_iload eX3_goOn_32 rfl ?_
    refine xs_aald eX3_goOn_33 s7 rfl (ldO (by omega)) (Nat.le_of_ble_eq_true rfl) ?_
    refine xs_astore eX3_goOn_34 (Nat.le_of_ble_eq_true rfl) rfl rfl ?_
    refine xs_aload eX3_goOn_35 rfl ?_
    refine xs_getR eX3_goOn_36 (by assumption) (by rfl) ?_
    refine xs_iload eX3_goOn_39 rfl ?_
    refine xs_K eX3_goOn_40 ?_
    refine xs_iadd eX3_goOn_41 ?_
    refine xs_eq1 (nI_add dp 1) ?_
    refine xs_aald eX3_goOn_42 s7 rfl (ldO (by omega)) (Nat.le_of_ble_eq_true rfl) ?_
    refine xs_astore eX3_goOn_43 (Nat.le_of_ble_eq_true rfl) rfl rfl ?_
    refine xs_aload eX3_goOn_44 rfl ?_
    refine xs_callV0i eX3_goOn_45 (by assumption) (Nat.le_of_ble_eq_true rfl) (c_X0_rest (by assumption) (by assumption) ⟨_, rfl, ?_⟩)
    refine xs_eq1 hrM ?_
    refine xs_istore eX3_goOn_48 (Nat.le_of_ble_eq_true rfl) rfl rfl ?_
    refine xs_K eX3_goOn_50 ?_
    refine xs_istore eX3_goOn_51 (Nat.le_of_ble_eq_true rfl) rfl rfl ?_
    obtain ⟨SG, hSG⟩ : ∃ SG : Option (Nat × List Nat) → Nat → Option (Nat × List Nat), SG = fun a v => (pmL n ((bitsL r).filter (fun u => !Nat.beq u v))).foldl (fun a e => stO l b0 up a (o ++ v :: e)) a := ⟨_, rfl⟩
    have eQ : (pmL (n + 1) (bitsL r)).foldl (fun a e => stO l b0 up a (o ++ e)) acc = (bitsL r).foldl SG acc := by
      rw [pmL, List.foldl_flatMap, hSG]
      simp only [List.foldl_map]
    rw [eQ] at hQ
    refine dn (P := fun i => ∀ M1, orK dp M M1 → ordS M1 (((List.range i).filter (fun v => r.testBit v)).foldl SG acc) → okO m (((List.range i).filter (fun v => r.testBit v)).foldl SG acc) → xW G mX3_goOn (d + (n + 1) + 3) 0 0 Q 53 [some (.ref (G.1 + 106)), some (.int (nI dp)), some (.ref (G.1 + (110 + 5 * dp))), some (.ref (G.1 + (110 + 5 * (dp + 1)))), some (.int (nI r)), some (.int (nI i))] [] SF M1) l.1 ?_ ?_ 0 (by omega) M ⟨fun _ _ => rfl, rfl, rfl, fun _ _ _ => rfl, fun _ _ => rfl⟩ hO hok
    · intro M1 k1 o1 ok1
      rw [bitsL_nv l.1 (by omega) r hrl] at o1 ok1
      have hn1 : M1 18 5 = nI l.1 := by rw [k1.1 18 (by omega)]; exact hn
      refine xs_iload eX3_goOn_53 rfl ?_
      refine xs_aload eX3_goOn_55 rfl ?_
      refine xs_getR eX3_goOn_56 (by assumption) (by rfl) ?_
      refine xs_getI eX3_goOn_59 (by assumption) (by rfl) ?_
      refine xs_eq1 hn1 ?_
      refine xs_N_ge eX3_goOn_62 (by omega) (by omega) (fun h62 => ?_) (fun h => absurd h (by omega))
      exact xs_vret eX3_goOn_125 rfl (hQ M1 k1 o1 ok1)
    · intro i hi ih M1 k1 o1 ok1
      rw [range_f] at ih
      generalize ((List.range i).filter (fun v => r.testBit v)).foldl SG acc = ac at *
      have hL1 : rL M1 l := rL_keep hL (fun a _ _ => k1.1 a (by omega))
      have hn1 := hL1.1
      have hE1 : rE M1 (110 + 5 * dp) (runB l b0 o) := rE_keep hE (fun a a1 a2 => k1.2.2.2.1 a (by omega) (by omega))
      have hi7 : i < 7 := by omega
      have hne : l.2.2.2.1 i < 128 := Nat.lt_of_lt_of_le (hl.2.2.2.1 i hi7) (pow7 h7)
      have hk5 := hl.2.2.1 i hi7
      have hE2 := rE_cp (c := 110 + 5 * (dp + 1)) (by omega) hE1
      have k2 : ∀ a, a < 110 + 5 * (dp + 1) ∨ 112 + 5 * (dp + 1) < a → cpE M1 (110 + 5 * (dp + 1)) (110 + 5 * dp) a = M1 a := fun a ha => cpE_ne (by omega)
      have hkd : cpE M1 (110 + 5 * (dp + 1)) (110 + 5 * dp) 19 i = nI (l.2.2.1 i) := by rw [k2 19 (by omega)]; exact (hL1.2.2.2.1 i hi7).1
      have hho : cpE M1 (110 + 5 * (dp + 1)) (110 + 5 * dp) 18 7 = nI l.2.2.2.2.1 := by rw [k2 18 (by omega)]; exact hL1.2.2.1
      have hnr : cpE M1 (110 + 5 * (dp + 1)) (110 + 5 * dp) 22 i = nI (l.2.2.2.1 i) := by rw [k2 22 (by omega)]; exact (hL1.2.2.2.1 i hi7).2
      have han := an_low (v := i) hE2.1 hnr hne
      have hE3 := rE_swear (kd := l.2.2.1 i) (hon := l.2.2.2.2.1) isb2 hi7 hE2 hnr hne hib (fun v hv => okB_ox hbo hv)
      obtain ⟨M4, hM4⟩ : ∃ M4, M4 = up2 (swearM (cpE M1 (110 + 5 * (dp + 1)) (110 + 5 * dp)) (110 + 5 * (dp + 1)) i (l.2.2.1 i) (nI l.2.2.2.2.1)) 108 dp (nI i) := ⟨_, rfl⟩
      have f0 : ∀ a, a ≠ 108 → (a < 110 + 5 * (dp + 1) ∨ 114 + 5 * (dp + 1) < a) → M4 a = M1 a := fun a a1 a2 => by rw [hM4, up2_ne a1, swearM_ne (by omega), k2 a (by omega)]
      have f5 : ∀ k, M4 108 k = if k = dp then nI i else M1 108 k := fun k => by rw [hM4, up2_x, swearM_ne (by omega), k2 108 (by omega)]
      have hE4 : rE M4 (110 + 5 * (dp + 1)) (runB l b0 (o ++ [i])) := by
        rw [runB_snoc]
        exact rE_keep hE3 (fun a a1 a2 => by rw [hM4, up2_ne (by omega)])
      have hrun : (runB l b0 (o ++ [i])).1 = sbt (runB l b0 o).1 i := by rw [runB_snoc]; rfl
      have e106 := f0 106 (by decide) (by omega)
      have hst : (fun (a : Option (Nat × List Nat)) (e : List Nat) => stO l b0 up a (o ++ [i] ++ e)) = (fun a e => stO l b0 up a (o ++ i :: e)) := by
        funext a e
        rw [List.append_assoc]
        rfl
      refine xs_iload eX3_goOn_53 rfl ?_
      refine xs_aload eX3_goOn_55 rfl ?_
      refine xs_getR eX3_goOn_56 (by assumption) (by rfl) ?_
      refine xs_getI eX3_goOn_59 (by assumption) (by rfl) ?_
      refine xs_eq1 hn1 ?_
      refine xs_N_ge eX3_goOn_62 (by omega) (by omega) (fun h => absurd h (by omega)) (fun h62 => ?_)
      refine xs_iload eX3_goOn_65 rfl ?_
      refine xs_iload eX3_goOn_67 rfl ?_
      refine xs_ishr eX3_goOn_69 ?_
      refine xs_K eX3_goOn_70 ?_
      refine xs_iand eX3_goOn_71 ?_
      refine xs_eq1 ((bt_ask _ (by omega)).trans (by rw [bt_nI (by omega)])) ?_
      refine xs_ifeqB eX3_goOn_72 (fun h72 => ?_) (fun h72 => ?_)
      · refine xs_inc1 eX3_goOn_119 rfl rfl rfl ?_
        refine xs_goto eX3_goOn_122 ?_
        simp only [h72, Bool.false_eq_true, if_false] at ih
        exact ih M1 k1 o1 ok1
      · refine xs_aload eX3_goOn_75 rfl ?_
        refine xs_aload eX3_goOn_76 rfl ?_
        refine xs_callV1v eX3_goOn_77 (by assumption) (Nat.le_of_ble_eq_true rfl) (c_X0_copyEntries (by assumption) (by assumption) (by assumption) ⟨rfl, ?_⟩)
        refine xs_aload eX3_goOn_80 rfl ?_
        refine xs_iload eX3_goOn_81 rfl ?_
        refine xs_aload eX3_goOn_83 rfl ?_
        refine xs_getR eX3_goOn_84 (by assumption) (by rfl) ?_
        refine xs_getR eX3_goOn_87 (by assumption) (by rfl) ?_
        refine xs_iload eX3_goOn_90 rfl ?_
        refine xs_iald eX3_goOn_92 (by assumption) (by omega) (by decide) ?_
        refine xs_eq1 hkd ?_
        refine xs_aload eX3_goOn_93 rfl ?_
        refine xs_getR eX3_goOn_94 (by assumption) (by rfl) ?_
        refine xs_getI eX3_goOn_97 (by assumption) (by rfl) ?_
        refine xs_eq1 hho ?_
        refine xs_callV3i eX3_goOn_100 (by assumption) (Nat.le_of_ble_eq_true rfl) (c_X0_swear isb2 hi7 hk5 han ⟨_, rfl, ?_⟩)
        refine xs_pop eX3_goOn_103 rfl ?_
        refine xs_aload eX3_goOn_104 rfl ?_
        refine xs_getR eX3_goOn_105 (by assumption) (by rfl) ?_
        refine xs_iload eX3_goOn_108 rfl ?_
        refine xs_iload eX3_goOn_109 rfl ?_
        refine xs_iast eX3_goOn_111 (by assumption) (by omega) (by decide) ?_
        rw [← hM4]
        refine xs_aload eX3_goOn_112 rfl ?_
        refine xs_iload eX3_goOn_113 rfl ?_
        refine xs_K eX3_goOn_114 ?_
        refine xs_iadd eX3_goOn_115 ?_
        refine xs_eq1 (nI_add dp 1) ?_
        have hcb := cbt_less r hr128 i hi7 h72
        refine xs_callV1v eX3_goOn_116 (by assumption) (Nat.le_of_ble_eq_true rfl) (IH (dp + 1) (o ++ [i]) (cbt r i) ac M4 _ (by omega) (rL_keep hL1 (fun a _ _ => f0 a (by omega) (by omega))) (by rw [e106, k1.2.2.1]; exact h6) (by rw [e106, k1.2.1]; exact h4) (by rw [List.length_append, hlen]; rfl) (fun k hk => by
          rw [f5]
          by_cases e : k = dp
          · rw [if_pos e, e, ← hlen]; simp [List.getD_eq_getElem?_getD]
          · rw [if_neg e, k1.2.2.2.2 k (by omega), hor k (by omega)]; simp only [List.getD_eq_getElem?_getD]; rw [List.getElem?_append_left (by omega)]) (fun v hv => (List.mem_append.mp hv).elim (hmem v) (fun h => by rw [List.mem_singleton.mp h]; exact hi)) hE4 (by rw [hrun, restN_sbt h7 hib hi7, hr]) (by omega) (ordS_keep o1 e106 (f0 109 (by decide) (by omega))) ok1 (fun M5 g1 g2 g3 => ⟨rfl, ?_⟩))
        refine xs_inc1 eX3_goOn_119 rfl rfl rfl ?_
        refine xs_goto eX3_goOn_122 ?_
        simp only [h72, if_true] at ih
        rw [hst, bitsL_c r hr128 i hi7] at g2 g3
        rw [hSG] at ih
        exact ih M5 ⟨fun a ha => by rw [g1.1 a ha, f0 a (by omega) (by omega), k1.1 a ha], by rw [g1.2.1, e106, k1.2.1], by rw [g1.2.2.1, e106, k1.2.2.1], fun a a1 a2 => by rw [g1.2.2.2.1 a a1 (by omega), f0 a (by omega) (by omega), k1.2.2.2.1 a a1 a2], fun k hk => by rw [g1.2.2.2.2 k (by omega), f5, if_neg (by omega), k1.2.2.2.2 k hk]⟩ g2 g3
end OC

/-! THE REFERENCE, third part: a book's slots changed; village, party, far; what is asked, checked, struck, undone, kept -/
theorem up2_s {M : xMem} {j i : Nat} {y : Int32} : up2 M 162 j y 162 i = if i = j then y else M 162 i := by rw [up2_row]; rfl
theorem rS_ox {M : xMem} {base i y : Nat} {b : aBk} (h : rS M base b) (hi : i < 7) : rS (up2 M 162 (base + i) (nI y)) base (b.1, b.2.1, va_up b.2.2.1 i y, b.2.2.2) := by
  obtain ⟨h1, h2, h3, h4⟩ := h
  refine ⟨by rw [up2_s, if_neg (by omega)]; exact h1, by rw [up2_s, if_neg (by omega)]; exact h2, fun v hv => ⟨?_, by rw [up2_s, if_neg (by omega)]; exact (h3 v hv).2⟩, fun p hp => ⟨by rw [up2_s, if_neg (by omega)]; exact (h4 p hp).1, by rw [up2_s, if_neg (by omega)]; exact (h4 p hp).2⟩⟩
  rw [up2_s]
  simp only [va_up]
  by_cases e : v = i
  · rw [if_pos (by omega), if_pos e]
  · rw [if_neg (by omega), if_neg e]; exact (h3 v hv).1
theorem rS_wr {M : xMem} {base i y : Nat} {b : aBk} (h : rS M base b) (hi : i < 7) : rS (up2 M 162 (base + 7 + i) (nI y)) base (b.1, b.2.1, b.2.2.1, va_up b.2.2.2.1 i y, b.2.2.2.2) := by
  obtain ⟨h1, h2, h3, h4⟩ := h
  refine ⟨by rw [up2_s, if_neg (by omega)]; exact h1, by rw [up2_s, if_neg (by omega)]; exact h2, fun v hv => ⟨by rw [up2_s, if_neg (by omega)]; exact (h3 v hv).1, ?_⟩, fun p hp => ⟨by rw [up2_s, if_neg (by omega)]; exact (h4 p hp).1, by rw [up2_s, if_neg (by omega)]; exact (h4 p hp).2⟩⟩
  rw [up2_s]
  simp only [va_up]
  by_cases e : v = i
  · rw [if_pos (by omega), if_pos e]
  · rw [if_neg (by omega), if_neg e]; exact (h3 v hv).2
theorem rS_ib {M : xMem} {base y : Nat} {b : aBk} (h : rS M base b) : rS (up2 M 162 (base + 14) (nI y)) base (y, b.2) := by
  obtain ⟨h1, h2, h3, h4⟩ := h
  exact ⟨by rw [up2_s, if_pos rfl], by rw [up2_s, if_neg (by omega)]; exact h2, fun v hv => ⟨by rw [up2_s, if_neg (by omega)]; exact (h3 v hv).1, by rw [up2_s, if_neg (by omega)]; exact (h3 v hv).2⟩, fun p hp => ⟨by rw [up2_s, if_neg (by omega)]; exact (h4 p hp).1, by rw [up2_s, if_neg (by omega)]; exact (h4 p hp).2⟩⟩
theorem rS_ck {M : xMem} {base y : Nat} {b : aBk} (h : rS M base b) : rS (up2 M 162 (base + 15) (nI y)) base (b.1, y, b.2.2) := by
  obtain ⟨h1, h2, h3, h4⟩ := h
  exact ⟨by rw [up2_s, if_neg (by omega)]; exact h1, by rw [up2_s, if_pos rfl], fun v hv => ⟨by rw [up2_s, if_neg (by omega)]; exact (h3 v hv).1, by rw [up2_s, if_neg (by omega)]; exact (h3 v hv).2⟩, fun p hp => ⟨by rw [up2_s, if_neg (by omega)]; exact (h4 p hp).1, by rw [up2_s, if_neg (by omega)]; exact (h4 p hp).2⟩⟩
theorem rS_at {M : xMem} {base i y : Nat} {b : aBk} (h : rS M base b) (hi : i < 3) : rS (up2 M 162 (base + 16 + i) (nI y)) base (b.1, b.2.1, b.2.2.1, b.2.2.2.1, va_up b.2.2.2.2.1 i y, b.2.2.2.2.2) := by
  obtain ⟨h1, h2, h3, h4⟩ := h
  refine ⟨by rw [up2_s, if_neg (by omega)]; exact h1, by rw [up2_s, if_neg (by omega)]; exact h2, fun v hv => ⟨by rw [up2_s, if_neg (by omega)]; exact (h3 v hv).1, by rw [up2_s, if_neg (by omega)]; exact (h3 v hv).2⟩, fun p hp => ⟨?_, by rw [up2_s, if_neg (by omega)]; exact (h4 p hp).2⟩⟩
  rw [up2_s]
  simp only [va_up]
  by_cases e : p = i
  · rw [if_pos (by omega), if_pos e]
  · rw [if_neg (by omega), if_neg e]; exact (h4 p hp).1
theorem rS_hd {M : xMem} {base i y : Nat} {b : aBk} (h : rS M base b) (hi : i < 3) : rS (up2 M 162 (base + 19 + i) (nI y)) base (b.1, b.2.1, b.2.2.1, b.2.2.2.1, b.2.2.2.2.1, va_up b.2.2.2.2.2 i y) := by
  obtain ⟨h1, h2, h3, h4⟩ := h
  refine ⟨by rw [up2_s, if_neg (by omega)]; exact h1, by rw [up2_s, if_neg (by omega)]; exact h2, fun v hv => ⟨by rw [up2_s, if_neg (by omega)]; exact (h3 v hv).1, by rw [up2_s, if_neg (by omega)]; exact (h3 v hv).2⟩, fun p hp => ⟨by rw [up2_s, if_neg (by omega)]; exact (h4 p hp).1, ?_⟩⟩
  rw [up2_s]
  simp only [va_up]
  by_cases e : p = i
  · rw [if_pos (by omega), if_pos e]
  · rw [if_neg (by omega), if_neg e]; exact (h4 p hp).2
theorem rLm_sK {M M1 : xMem} {base : Nat} {l : aLd} (h : rLm M l) (hk : sK base M M1) : rLm M1 l := rLm_keep h (by rw [hk.1 156 (by decide)]) (by rw [hk.1 156 (by decide)]) (hk.1 157 (by decide)) (hk.1 158 (by decide)) (hk.1 159 (by decide))
theorem repM_now {w : aX} {M M1 : xMem} {b : aBk} (h : repM w M) (hk : sK 0 M M1) (hS : rS M1 0 b) : repM (w.1, w.2.1, b, w.2.2.2) M1 := by
  obtain ⟨⟨t1, t2⟩, r1, r2, ⟨r3, r3b⟩, ⟨r4, r4b⟩, ⟨r5, r6⟩⟩ := h
  have e := hk.1
  refine ⟨⟨by rw [e 156 (by decide)]; exact t1, fun j hj => by rw [e 163 (by decide)]; exact t2 j hj⟩, rLm_sK r1 hk, hS, ⟨by rw [e 156 (by decide)]; exact r3, fun i k hi => rS_keep (r3b i k hi) (fun j h1 _ => hk.2 j ?_)⟩, ⟨by rw [e 156 (by decide)]; exact r4, fun i k hi => rS_keep (r4b i k hi) (fun j h1 _ => hk.2 j ?_)⟩, ⟨by rw [e 156 (by decide)]; exact r5, fun i k hi => by rw [e 164 (by decide), e 165 (by decide)]; exact r6 i k hi⟩⟩
  · have := (List.getElem?_eq_some_iff.mp hi).1
    right; omega
  · have := (List.getElem?_eq_some_iff.mp hi).1
    right; omega
/-- only the draft's slots -/
theorem repM_tr {w : aX} {M M1 : xMem} {N : Nat} (h : repM w M) (hok : okX N w) (hk : sK 242 M M1) : repM w M1 := by
  obtain ⟨⟨t1, t2⟩, r1, r2, ⟨r3, r3b⟩, ⟨r4, r4b⟩, ⟨r5, r6⟩⟩ := h
  have e := hk.1
  have h8 := hok.2.2.2.1.1
  have h2 := hok.2.2.2.2.1.1
  refine ⟨⟨by rw [e 156 (by decide)]; exact t1, fun j hj => by rw [e 163 (by decide)]; exact t2 j hj⟩, rLm_sK r1 hk, rS_keep r2 (fun j _ _ => hk.2 j (by omega)), ⟨by rw [e 156 (by decide)]; exact r3, fun i k hi => rS_keep (r3b i k hi) (fun j h1 _ => hk.2 j (by omega))⟩, ⟨by rw [e 156 (by decide)]; exact r4, fun i k hi => rS_keep (r4b i k hi) (fun j h1 _ => hk.2 j (by omega))⟩, ⟨by rw [e 156 (by decide)]; exact r5, fun i k hi => by rw [e 164 (by decide), e 165 (by decide)]; exact r6 i k hi⟩⟩
section R3
variable {G : xGl} {d N base dy : Nat} {w : aX} {l : aLd} {b : aBk} {M : xMem} {S : List xSh} {Q : Option Value → List xSh → xMem → Prop} {y y1 y2 : Int32}
theorem rS_bt (hS : rS M base b) {v : Nat} (hv : v < 32) : bt (M 162 (base + 14)) v = b.1.testBit v ∧ bt (M 162 (base + 15)) v = b.2.1.testBit v := by
  rw [hS.1, hS.2.1]
  exact ⟨bt_nI hv, bt_nI hv⟩
theorem c_X10_writes {v : Nat} (hL : rLm M l) (hl : okL l) (hS : rS M base b) (hB : okB l.1 dy b) (hb : base ≤ 242) (hv : v < l.1) (hQ : ∀ M1, sK base M M1 → rS M1 base (swearB l.2.2.2.1 l.2.2.2.2.1 b v (l.2.2.1 v)) → Q (some (.int (nI (swN l.2.2.2.1 l.2.2.2.2.1 b v (l.2.2.1 v))))) SF M1) : xC G mX10_writes (d + 4) 0 0 [.ref (G.1 + 156), .int (nI base), .int (nI v)] SF M Q := by
  have s0 := sh156
  have s1 := sh162
  have s2 := sh157
  have h7 := hl.1.2
  have hv7 : v < 7 := by omega
  have hk := hL.2.2.1 v hv
  have hk5 := hl.2.2.1 v hv7
  have ha : nbA l b v < 2 ^ l.1 := and_lt (hl.2.2.2.1 v (by omega))
  have h128 : nbA l b v < 128 := Nat.lt_of_lt_of_le ha (pow7 h7)
  have hng := lowJ_ge h128
  have hib : b.1 < 128 := Nat.lt_of_lt_of_le hB.1 (pow7 h7)
  have hs := (hS.2.2.1 v hv7).1
  unfold swearB at hQ
  refine xC_intro [some (.ref (G.1 + 156)), some (.int (nI base)), some (.int (nI v)), none, none] rfl (by decide) (Nat.le_of_ble_eq_true rfl) ?_
  have K : ∀ (M2 : xMem) (ox : Nat → Nat), sK base M M2 → rS M2 base (b.1, b.2.1, ox, b.2.2.2) → (if l.2.2.1 v = 4 ∧ l.2.2.2.1 v &&& b.1 ≠ 0 then va_up (va_up b.2.2.1 (lowA (l.2.2.2.1 v &&& b.1)) (b.2.2.1 (lowA (l.2.2.2.1 v &&& b.1)) + b.2.2.1 v)) v 0 else b.2.2.1) = ox → xW G mX10_writes (d + 4) 0 0 Q 65 [some (.ref (G.1 + 156)), some (.int (nI base)), some (.int (nI v)), some (.int (nI (swN l.2.2.2.1 l.2.2.2.2.1 b v (l.2.2.1 v)))), some (.int (lowJ (nbA l b v)))] [] SF M2 := by
    intro M2 ox k1 k2 k3
    rw [k3] at hQ
    have q1 := rS_wr (y := swN l.2.2.2.1 l.2.2.2.2.1 b v (l.2.2.1 v)) k2 hv7
    have q2 := rS_ib (y := sbt b.1 v) q1
    have hQ1 := hQ _ (sK_tr k1 (sK_tr (sK_up (by omega) (by omega)) (sK_up (by omega) (by omega)))) q2
    refine xs_aload eX10_writes_65 rfl ?_
    refine xs_getR eX10_writes_66 (by assumption) (by rfl) ?_
    refine xs_iload eX10_writes_69 rfl ?_
    refine xs_K eX10_writes_70 ?_
    refine xs_iadd eX10_writes_72 ?_
    refine xs_eq1 (nI_add base 7) ?_
    refine xs_iload eX10_writes_73 rfl ?_
    refine xs_iadd eX10_writes_74 ?_
    refine xs_eq1 (nI_add _ v) ?_
    refine xs_iload eX10_writes_75 rfl ?_
    refine xs_iast eX10_writes_76 (by assumption) (by omega) (by decide) ?_
    refine xs_aload eX10_writes_77 rfl ?_
    refine xs_getR eX10_writes_78 (by assumption) (by rfl) ?_
    refine xs_iload eX10_writes_81 rfl ?_
    refine xs_K eX10_writes_82 ?_
    refine xs_iadd eX10_writes_84 ?_
    refine xs_eq1 (nI_add base 14) ?_
    refine xs_dup2 eX10_writes_85 rfl rfl ?_
    refine xs_iald eX10_writes_86 (by assumption) (by omega) (by decide) ?_
    refine xs_eq1 (z := nI b.1) q1.1 ?_
    refine xs_K eX10_writes_87 ?_
    refine xs_iload eX10_writes_88 rfl ?_
    refine xs_ishl eX10_writes_89 ?_
    refine xs_ior eX10_writes_90 ?_
    refine xs_eq1 (bon_nI _ hib v hv7).1 ?_
    refine xs_iast eX10_writes_91 (by assumption) (by omega) (by decide) ?_
    refine xs_iload eX10_writes_92 rfl ?_
    exact xs_iretI eX10_writes_93 rfl (hQ1)
  refine xs_aload eX10_writes_0 rfl ?_
  refine xs_iload eX10_writes_1 rfl ?_
  refine xs_iload eX10_writes_2 rfl ?_
  refine xs_aload eX10_writes_3 rfl ?_
  refine xs_getR eX10_writes_4 (by assumption) (by rfl) ?_
  refine xs_iload eX10_writes_7 rfl ?_
  refine xs_iald eX10_writes_8 (by assumption) (by omega) (by decide) ?_
  refine xs_eq1 hk ?_
  refine xs_callV3i eX10_writes_9 (by assumption) (Nat.le_of_ble_eq_true rfl) (c_X10_sworn (b := b) (dy := dy) hL hl hS hB hb hv hk5 ⟨_, rfl, ?_⟩)
  refine xs_istore eX10_writes_12 (Nat.le_of_ble_eq_true rfl) rfl rfl ?_
  refine xs_aload eX10_writes_13 rfl ?_
  refine xs_iload eX10_writes_14 rfl ?_
  refine xs_iload eX10_writes_15 rfl ?_
  refine xs_callV2i eX10_writes_16 (by assumption) (Nat.le_of_ble_eq_true rfl) (c_X10_lowest (b := b) hL hl hS hb hv ⟨_, rfl, ?_⟩)
  refine xs_istore eX10_writes_19 (Nat.le_of_ble_eq_true rfl) rfl rfl ?_
  refine xs_aload eX10_writes_21 rfl ?_
  refine xs_getR eX10_writes_22 (by assumption) (by rfl) ?_
  refine xs_iload eX10_writes_25 rfl ?_
  refine xs_iald eX10_writes_26 (by assumption) (by omega) (by decide) ?_
  refine xs_eq1 hk ?_
  refine xs_K eX10_writes_27 ?_
  refine xs_N_ne eX10_writes_28 (by omega) (by omega) (fun h28 => ?_) (fun h28 => ?_)
  · exact K M b.2.2.1 sK_rfl hS (if_neg (fun q => h28 q.1))
  · refine xs_iload eX10_writes_31 rfl ?_
    refine xs_if_lt eX10_writes_33 (fun h33 => ?_) (fun h33 => ?_)
    · exact K M b.2.2.1 sK_rfl hS (if_neg (fun q => absurd (hng.mpr q.2) (Int32.not_le.mpr h33)))
    · have hne : nbA l b v ≠ 0 := hng.mp (Int32.not_lt.mp h33)
      have hlt := lowA_lt _ h128 hne
      have hlo := (hS.2.2.1 _ hlt).1
      have q1 := rS_ox (i := lowA (nbA l b v)) (y := b.2.2.1 (lowA (nbA l b v)) + b.2.2.1 v) hS hlt
      have q2 := rS_ox (i := v) (y := 0) q1 hv7
      refine xs_aload eX10_writes_36 rfl ?_
      refine xs_getR eX10_writes_37 (by assumption) (by rfl) ?_
      refine xs_iload eX10_writes_40 rfl ?_
      refine xs_iload eX10_writes_41 rfl ?_
      refine xs_eq1 (z := nI (lowA (nbA l b v))) (if_neg hne) ?_
      refine xs_iadd eX10_writes_43 ?_
      refine xs_eq1 (nI_add base _) ?_
      refine xs_dup2 eX10_writes_44 rfl rfl ?_
      refine xs_iald eX10_writes_45 (by assumption) (by omega) (by decide) ?_
      refine xs_eq1 hlo ?_
      refine xs_aload eX10_writes_46 rfl ?_
      refine xs_getR eX10_writes_47 (by assumption) (by rfl) ?_
      refine xs_iload eX10_writes_50 rfl ?_
      refine xs_iload eX10_writes_51 rfl ?_
      refine xs_iadd eX10_writes_52 ?_
      refine xs_eq1 (nI_add base v) ?_
      refine xs_iald eX10_writes_53 (by assumption) (by omega) (by decide) ?_
      refine xs_eq1 hs ?_
      refine xs_iadd eX10_writes_54 ?_
      refine xs_eq1 (nI_add _ _) ?_
      refine xs_iast eX10_writes_55 (by assumption) (by omega) (by decide) ?_
      refine xs_aload eX10_writes_56 rfl ?_
      refine xs_getR eX10_writes_57 (by assumption) (by rfl) ?_
      refine xs_iload eX10_writes_60 rfl ?_
      refine xs_iload eX10_writes_61 rfl ?_
      refine xs_iadd eX10_writes_62 ?_
      refine xs_eq1 (nI_add base v) ?_
      refine xs_K eX10_writes_63 ?_
      refine xs_iast eX10_writes_64 (by assumption) (by omega) (by decide) ?_
      exact K _ _ (sK_tr (sK_up (by omega) (by omega)) (sK_up (by omega) (by omega))) q2 (if_pos ⟨h28, hne⟩)
theorem c_X10_found (hL : rLm M l) (hl : okL l) (hS : rS M base b) (hB : okB l.1 dy b) (hb : base ≤ 242) (hQ : Q (some (.int (nI (foundB l.1 b)))) SF M) : xC G mX10_found (d + 1) 0 0 [.ref (G.1 + 156), .int (nI base)] SF M Q := by
  have s0 := sh156
  have s1 := sh162
  have h7 := hl.1.2
  have hn := hL.1
  unfold foundB at hQ
  refine xC_intro [some (.ref (G.1 + 156)), some (.int (nI base)), none, none] rfl (by decide) (Nat.le_of_ble_eq_true rfl) ?_
  refine xs_K eX10_found_0 ?_
  refine xs_istore eX10_found_1 (Nat.le_of_ble_eq_true rfl) rfl rfl ?_
  refine xs_K eX10_found_2 ?_
  refine xs_istore eX10_found_3 (Nat.le_of_ble_eq_true rfl) rfl rfl ?_
  refine dn (P := fun i => xW G mX10_found (d + 1) 0 0 Q 4 [some (.ref (G.1 + 156)), some (.int (nI base)), some (.int (nI (sumA (fun v => if b.1.testBit v then b.2.2.2.1 v else 0) i))), some (.int (nI i))] [] SF M) l.1 ?_ ?_ 0 (by omega)
  · refine xs_iload eX10_found_4 rfl ?_
    refine xs_aload eX10_found_5 rfl ?_
    refine xs_getI eX10_found_6 (by assumption) (by rfl) ?_
    refine xs_eq1 hn ?_
    refine xs_N_ge eX10_found_9 (by omega) (by omega) (fun h9 => ?_) (fun h => absurd h (by omega))
    refine xs_iload eX10_found_52 rfl ?_
    exact xs_iretI eX10_found_53 rfl (hQ)
  · intro i hi ih
    have hbt := (rS_bt hS (v := i) (by omega)).1
    have hw := (hS.2.2.1 i (by omega)).2
    simp only [sumA] at ih
    refine xs_iload eX10_found_4 rfl ?_
    refine xs_aload eX10_found_5 rfl ?_
    refine xs_getI eX10_found_6 (by assumption) (by rfl) ?_
    refine xs_eq1 hn ?_
    refine xs_N_ge eX10_found_9 (by omega) (by omega) (fun h => absurd h (by omega)) (fun h9 => ?_)
    refine xs_iload eX10_found_12 rfl ?_
    refine xs_aload eX10_found_13 rfl ?_
    refine xs_getR eX10_found_14 (by assumption) (by rfl) ?_
    refine xs_iload eX10_found_17 rfl ?_
    refine xs_K eX10_found_18 ?_
    refine xs_iadd eX10_found_20 ?_
    refine xs_eq1 (nI_add base 14) ?_
    refine xs_iald eX10_found_21 (by assumption) (by omega) (by decide) ?_
    refine xs_iload eX10_found_22 rfl ?_
    refine xs_callS2i eX10_found_23 (Nat.le_of_ble_eq_true rfl) (c_X10_has (by omega) ⟨_, rfl, ?_⟩)
    rw [hbt]
    refine xs_ifeqB eX10_found_26 (fun h26 => ?_) (fun h26 => ?_)
    · refine xs_K eX10_found_43 ?_
      refine xs_iadd eX10_found_44 ?_
      refine xs_eq1 (nI_add _ 0) ?_
      refine xs_istore eX10_found_45 (Nat.le_of_ble_eq_true rfl) rfl rfl ?_
      refine xs_inc1 eX10_found_46 rfl rfl rfl ?_
      refine xs_goto eX10_found_49 ?_
      simp only [h26, Bool.false_eq_true, if_false] at ih
      exact ih
    · refine xs_aload eX10_found_29 rfl ?_
      refine xs_getR eX10_found_30 (by assumption) (by rfl) ?_
      refine xs_iload eX10_found_33 rfl ?_
      refine xs_K eX10_found_34 ?_
      refine xs_iadd eX10_found_36 ?_
      refine xs_eq1 (nI_add base 7) ?_
      refine xs_iload eX10_found_37 rfl ?_
      refine xs_iadd eX10_found_38 ?_
      refine xs_eq1 (nI_add _ i) ?_
      refine xs_iald eX10_found_39 (by assumption) (by omega) (by decide) ?_
      refine xs_eq1 hw ?_
      refine xs_goto eX10_found_40 ?_
      refine xs_iadd eX10_found_44 ?_
      refine xs_eq1 (nI_add _ _) ?_
      refine xs_istore eX10_found_45 (Nat.le_of_ble_eq_true rfl) rfl rfl ?_
      refine xs_inc1 eX10_found_46 rfl rfl rfl ?_
      refine xs_goto eX10_found_49 ?_
      simp only [h26, if_true] at ih
      exact ih
theorem c_X10_isIn {v : Nat} (hS : rS M 0 b) (hv : v < 32) (hQ : Q (some (.int (bI (b.1.testBit v)))) SF M) : xC G mX10_isIn (d + 1) 0 0 [.ref (G.1 + 156), .int (nI v)] SF M Q := by
  have s0 := sh156
  have s1 := sh162
  have hbt := (rS_bt hS hv).1
  refine xC_intro [some (.ref (G.1 + 156)), some (.int (nI v))] rfl (by decide) (Nat.le_of_ble_eq_true rfl) ?_
  refine xs_aload eX10_isIn_0 rfl ?_
  refine xs_getR eX10_isIn_1 (by assumption) (by rfl) ?_
  refine xs_K eX10_isIn_4 ?_
  refine xs_iald eX10_isIn_6 (by assumption) (by omega) (by decide) ?_
  refine xs_iload eX10_isIn_7 rfl ?_
  refine xs_callS2i eX10_isIn_8 (Nat.le_of_ble_eq_true rfl) (c_X10_has (by omega) ⟨_, rfl, ?_⟩)
  exact xs_iret eX10_isIn_11 rfl (by first | exact bI_nar _ | rfl) (Qev hQ (by rw [← hbt]))
theorem c_X10_canAsk {p v : Nat} (hL : rLm M l) (hl : okL l) (hS : rS M base b) (hB : okB l.1 dy b) (hb : base ≤ 242) (hp : p < 3) (hv : v < l.1) (hQ : Q (some (.int (bI (canA l b p v)))) SF M) : xC G mX10_canAsk (d + 1) 0 0 [.ref (G.1 + 156), .int (nI base), .int (nI p), .int (nI v)] SF M Q := by
  have s0 := sh156
  have s1 := sh162
  have s2 := sh159
  have h7 := hl.1.2
  have hbt := (rS_bt hS (v := v) (by omega)).1
  have hat := (hS.2.2.2 p hp).1
  have hal := (hB.2.2.2.2 p hp).1
  have hf := hL.2.2.2.2 _ v hal hv
  have hfl := hl.2.2.2.2.2 _ v hal hv
  have hfo : fo (l.2.2.2.2.2 (b.2.2.2.2.1 p) v) < 10000 := by unfold fo; split <;> omega
  have hfe : fo (l.2.2.2.2.2 (b.2.2.2.2.1 p) v) < 9999 ↔ l.2.2.2.2.2 (b.2.2.2.2.1 p) v ≠ 1000000 := by unfold fo; split <;> omega
  unfold canA at hQ
  refine xC_intro [some (.ref (G.1 + 156)), some (.int (nI base)), some (.int (nI p)), some (.int (nI v))] rfl (by decide) (Nat.le_of_ble_eq_true rfl) ?_
  refine xs_aload eX10_canAsk_0 rfl ?_
  refine xs_getR eX10_canAsk_1 (by assumption) (by rfl) ?_
  refine xs_iload eX10_canAsk_4 rfl ?_
  refine xs_K eX10_canAsk_5 ?_
  refine xs_iadd eX10_canAsk_7 ?_
  refine xs_eq1 (nI_add base 14) ?_
  refine xs_iald eX10_canAsk_8 (by assumption) (by omega) (by decide) ?_
  refine xs_iload eX10_canAsk_9 rfl ?_
  refine xs_callS2i eX10_canAsk_10 (Nat.le_of_ble_eq_true rfl) (c_X10_has (by omega) ⟨_, rfl, ?_⟩)
  rw [hbt]
  refine xs_ifneB eX10_canAsk_13 (fun h13 => ?_) (fun h13 => ?_)
  · refine xs_K eX10_canAsk_47 ?_
    exact xs_iret eX10_canAsk_48 rfl (by first | exact bI_nar _ | rfl) (Qev hQ (by rw [h13]; rfl))
  · refine xs_aload eX10_canAsk_16 rfl ?_
    refine xs_getR eX10_canAsk_17 (by assumption) (by rfl) ?_
    refine xs_K eX10_canAsk_20 ?_
    refine xs_aload eX10_canAsk_22 rfl ?_
    refine xs_getR eX10_canAsk_23 (by assumption) (by rfl) ?_
    refine xs_iload eX10_canAsk_26 rfl ?_
    refine xs_K eX10_canAsk_27 ?_
    refine xs_iadd eX10_canAsk_29 ?_
    refine xs_eq1 (nI_add base 16) ?_
    refine xs_iload eX10_canAsk_30 rfl ?_
    refine xs_iadd eX10_canAsk_31 ?_
    refine xs_eq1 (nI_add _ p) ?_
    refine xs_iald eX10_canAsk_32 (by assumption) (by omega) (by decide) ?_
    refine xs_eq1 hat ?_
    refine xs_imul eX10_canAsk_33 ?_
    refine xs_eq1 (pk_mul 7 _) ?_
    refine xs_iload eX10_canAsk_34 rfl ?_
    refine xs_iadd eX10_canAsk_35 ?_
    refine xs_eq1 (nI_add _ v) ?_
    refine xs_iald eX10_canAsk_36 (by assumption) (by omega) (by decide) ?_
    refine xs_eq1 hf ?_
    refine xs_K eX10_canAsk_37 ?_
    refine xs_N_ge eX10_canAsk_40 (by omega) (by omega) (fun h40 => ?_) (fun h40 => ?_)
    · refine xs_K eX10_canAsk_47 ?_
      exact xs_iret eX10_canAsk_48 rfl (by first | exact bI_nar _ | rfl) (Qev hQ (by rw [h13, decide_eq_false (by omega)]; rfl))
    · refine xs_K eX10_canAsk_43 ?_
      refine xs_goto eX10_canAsk_44 ?_
      exact xs_iret eX10_canAsk_48 rfl (by first | exact bI_nar _ | rfl) (Qev hQ (by rw [h13, decide_eq_true (by omega)]; rfl))
theorem c_X10_asks {p v : Nat} (hL : rLm M l) (hl : okL l) (hS : rS M base b) (hB : okB l.1 dy b) (hb : base ≤ 242) (hp : p < 3) (hv : v < l.1) (hc : canA l b p v = true) (hdy : dy < 2 ^ 29) (hQ : ∀ M1, sK base M M1 → rS M1 base (askB l b p v) → Q (some (.int (nI (swN l.2.2.2.1 l.2.2.2.2.1 b v (l.2.2.1 v))))) SF M1) : xC G mX10_asks (d + 5) 0 0 [.ref (G.1 + 156), .int (nI base), .int (nI p), .int (nI v)] SF M Q := by
  have s0 := sh156
  have s1 := sh162
  have s2 := sh159
  have h7 := hl.1.2
  have hat := (hS.2.2.2 p hp).1
  have hhd := (hS.2.2.2 p hp).2
  have hal := (hB.2.2.2.2 p hp).1
  have hf := hL.2.2.2.2 _ v hal hv
  have hne : l.2.2.2.2.2 (b.2.2.2.2.1 p) v ≠ 1000000 := by
    simp only [canA, Bool.and_eq_true, decide_eq_true_eq] at hc
    exact hc.2
  have hfo : fo (l.2.2.2.2.2 (b.2.2.2.2.1 p) v) = l.2.2.2.2.2 (b.2.2.2.2.1 p) v := if_neg hne
  rw [hfo] at hf
  have q1 := rS_hd (i := p) (y := b.2.2.2.2.2 p + (l.2.2.2.2.2 (b.2.2.2.2.1 p) v + 1)) hS hp
  have q2 := rS_at (i := p) (y := v) q1 hp
  have kk := sK_tr (sK_up (base := base) (M := M) (j := base + 19 + p) (y := nI (b.2.2.2.2.2 p + (l.2.2.2.2.2 (b.2.2.2.2.1 p) v + 1))) (by omega) (by omega)) (sK_up (base := base) (j := base + 16 + p) (y := nI v) (by omega) (by omega))
  have hgo : okB l.1 (dy + 1000121) (goB l b p v) := by
    obtain ⟨g1, g2, g3, g4, g5⟩ := hB
    refine ⟨g1, g2, g3, g4, fun i hi => ⟨?_, ?_⟩⟩
    · show va_up b.2.2.2.2.1 p v i < l.1
      simp only [va_up]; split
      · exact hv
      · exact (g5 i hi).1
    · show va_up b.2.2.2.2.2 p _ i ≤ _
      have := hl.2.2.2.2.2 _ v hal hv
      have := (g5 p hp).2
      have := (g5 i hi).2
      simp only [va_up]; split <;> omega
  refine xC_intro [some (.ref (G.1 + 156)), some (.int (nI base)), some (.int (nI p)), some (.int (nI v))] rfl (by decide) (Nat.le_of_ble_eq_true rfl) ?_
  refine xs_aload eX10_asks_0 rfl ?_
  refine xs_getR eX10_asks_1 (by assumption) (by rfl) ?_
  refine xs_iload eX10_asks_4 rfl ?_
  refine xs_K eX10_asks_5 ?_
  refine xs_iadd eX10_asks_7 ?_
  refine xs_eq1 (nI_add base 19) ?_
  refine xs_iload eX10_asks_8 rfl ?_
  refine xs_iadd eX10_asks_9 ?_
  refine xs_eq1 (nI_add _ p) ?_
  refine xs_dup2 eX10_asks_10 rfl rfl ?_
  refine xs_iald eX10_asks_11 (by assumption) (by omega) (by decide) ?_
  refine xs_eq1 hhd ?_
  refine xs_aload eX10_asks_12 rfl ?_
  refine xs_getR eX10_asks_13 (by assumption) (by rfl) ?_
  refine xs_K eX10_asks_16 ?_
  refine xs_aload eX10_asks_18 rfl ?_
  refine xs_getR eX10_asks_19 (by assumption) (by rfl) ?_
  refine xs_iload eX10_asks_22 rfl ?_
  refine xs_K eX10_asks_23 ?_
  refine xs_iadd eX10_asks_25 ?_
  refine xs_eq1 (nI_add base 16) ?_
  refine xs_iload eX10_asks_26 rfl ?_
  refine xs_iadd eX10_asks_27 ?_
  refine xs_eq1 (nI_add _ p) ?_
  refine xs_iald eX10_asks_28 (by assumption) (by omega) (by decide) ?_
  refine xs_eq1 hat ?_
  refine xs_imul eX10_asks_29 ?_
  refine xs_eq1 (pk_mul 7 _) ?_
  refine xs_iload eX10_asks_30 rfl ?_
  refine xs_iadd eX10_asks_31 ?_
  refine xs_eq1 (nI_add _ v) ?_
  refine xs_iald eX10_asks_32 (by assumption) (by omega) (by decide) ?_
  refine xs_eq1 hf ?_
  refine xs_K eX10_asks_33 ?_
  refine xs_iadd eX10_asks_34 ?_
  refine xs_eq1 (nI_add _ 1) ?_
  refine xs_iadd eX10_asks_35 ?_
  refine xs_eq1 (nI_add _ _) ?_
  refine xs_iast eX10_asks_36 (by assumption) (by omega) (by decide) ?_
  refine xs_aload eX10_asks_37 rfl ?_
  refine xs_getR eX10_asks_38 (by assumption) (by rfl) ?_
  refine xs_iload eX10_asks_41 rfl ?_
  refine xs_K eX10_asks_42 ?_
  refine xs_iadd eX10_asks_44 ?_
  refine xs_eq1 (nI_add base 16) ?_
  refine xs_iload eX10_asks_45 rfl ?_
  refine xs_iadd eX10_asks_46 ?_
  refine xs_eq1 (nI_add _ p) ?_
  refine xs_iload eX10_asks_47 rfl ?_
  refine xs_iast eX10_asks_48 (by assumption) (by omega) (by decide) ?_
  refine xs_aload eX10_asks_49 rfl ?_
  refine xs_iload eX10_asks_50 rfl ?_
  refine xs_iload eX10_asks_51 rfl ?_
  refine xs_callV2i eX10_asks_52 (by assumption) (Nat.le_of_ble_eq_true rfl) (c_X10_writes (b := goB l b p v) (dy := dy + 1000121) (rLm_sK hL kk) hl q2 hgo hb hv (fun M1 k1 k2 => ⟨_, rfl, ?_⟩))
  exact xs_iretI eX10_asks_55 rfl (hQ M1 (sK_tr kk k1) k2)
end R3

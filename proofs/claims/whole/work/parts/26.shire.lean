/-! shires by draws -/
def drawN (z k : Nat) : Nat := (7919 * z + 6151 * k + 1) * (7919 * z + 6151 * k + 1) % 65521 / 2
def stepB (l : aLd) (b : aBk) (dr : Nat) : aBk :=
  if canA l b (dr % l.2.1) (dr / 8 % l.1) then askB l b (dr % l.2.1) (dr / 8 % l.1)
  else if dr / 64 % 3 = 0 ∧ (b.1.testBit (dr / 8 % l.1) && !b.2.1.testBit (dr / 8 % l.1)) = true then checkB b (dr / 8 % l.1)
  else if dr / 64 % 3 = 1 ∧ b.1.testBit (dr / 8 % l.1) = true then strikeB b (dr / 8 % l.1) else b
def shireB (l : aLd) (b : aBk) (z : Nat) : Nat → aBk
  | 0 => b
  | n + 1 => stepB l (shireB l b z n) (drawN z n)
def spShire (w : aX) (y1 y2 y3 : Int32) : Int32 :=
  if wiB y1 (nI 0) (nI 9999) && wiB y2 (nI 1) (nI 40) && wiB y3 (nI 0) (nI 1) then
    (if y3 = nI 0 then nI (foundB w.2.1.1 (shireB w.2.1 w.2.2.1 y1.toNatClampNeg y2.toNatClampNeg)) else nI (maxA (shireB w.2.1 w.2.2.1 y1.toNatClampNeg y2.toNatClampNeg).2.2.2.2.2 w.2.1.2.1)) else (-1)
theorem drawN_lt (z k : Nat) : drawN z k < 32761 := by
  unfold drawN
  have := Nat.mod_lt ((7919 * z + 6151 * k + 1) * (7919 * z + 6151 * k + 1)) (show 0 < 65521 by decide)
  omega
theorem draw_ok {z k : Nat} (hz : z ≤ 9999) (hk : k < 40) : (((7919 * (nI z).toInt64 + 6151 * (nI k).toInt64 + 1) * (7919 * (nI z).toInt64 + 6151 * (nI k).toInt64 + 1) - (7919 * (nI z).toInt64 + 6151 * (nI k).toInt64 + 1) * (7919 * (nI z).toInt64 + 6151 * (nI k).toInt64 + 1) / 65521 * 65521) / 2).toInt32 = nI (drawN z k) := by
  have e1 : (7919 : Int64) * (nI z).toInt64 + 6151 * (nI k).toInt64 + 1 = lN (7919 * z + 6151 * k + 1) := by
    rw [nI_l (by omega), nI_l (by omega)]
    show lN 7919 * lN z + lN 6151 * lN k + lN 1 = _
    rw [lN_mul, lN_mul, lN_add, lN_add]
  rw [e1, lN_mul]
  have hb : (7919 * z + 6151 * k + 1) ≤ 80000000 := by omega
  have hb2 : (7919 * z + 6151 * k + 1) * (7919 * z + 6151 * k + 1) ≤ 80000000 * 80000000 := Nat.mul_le_mul hb hb
  show ((lN _ - lN _ / lN 65521 * lN 65521) / lN 2).toInt32 = _
  rw [pk_lRem (Nat.lt_of_le_of_lt hb2 (by decide)) (by decide) (by decide), pk_lDiv (by have := Nat.mod_lt ((7919 * z + 6151 * k + 1) * (7919 * z + 6151 * k + 1)) (show 0 < 65521 by decide); omega) (by decide) (by decide), lN_i]
  rfl
theorem okB_step {l : aLd} {b : aBk} {dr dy : Nat} (hl : okL l) (hb : okB l.1 dy b) : okB l.1 (dy + 121) (stepB l b dr) := by
  obtain ⟨⟨l1, l2⟩, ⟨l3, l4⟩, -⟩ := id hl
  have hp : dr % l.2.1 < l.2.1 := Nat.mod_lt _ (by omega)
  have hv : dr / 8 % l.1 < l.1 := Nat.mod_lt _ (by omega)
  unfold stepB
  split
  · next h =>
    simp only [canA, Bool.and_eq_true, decide_eq_true_eq] at h
    exact okB_ask hl hb hp hv h.2
  · split
    · exact okB_more (okB_check l2 hb hv) (by omega)
    · split
      · exact okB_more (okB_strike l2 hb hv) (by omega)
      · exact okB_more hb (by omega)
theorem okB_shire {l : aLd} {b : aBk} {z dy : Nat} (hl : okL l) (hb : okB l.1 dy b) : ∀ n, okB l.1 (dy + 121 * n) (shireB l b z n)
  | 0 => hb
  | n + 1 => by
    have := okB_step (dr := drawN z n) hl (okB_shire (z := z) hl hb n)
    exact okB_more this (by omega)
theorem can_eq {M : xMem} {c p v : Nat} {l : aLd} {b : aBk} {dy : Nat} (hl : okL l) (hL : rL M l) (hB : rB M c b) (hb : okB l.1 dy b) (hp : p < 3) (hv : v < l.1) : (!bt (M c 5) v && decide (M (24 + b.2.2.2.2.1 p) v < nI 1000000)) = canA l b p v := by
  obtain ⟨⟨l1, l2⟩, ⟨l3, l4⟩, -⟩ := id hl
  have hpw := (hb.2.2.2.2 p hp).1
  have hdb := hl.2.2.2.2.2 _ v hpw hv
  rw [(rB_bt hB (show v < 7 by omega)).1, hL.2.2.2.2 _ v (by omega) (by omega)]
  unfold canA
  congr 1
  generalize l.2.2.2.2.2 (b.2.2.2.2.1 p) v = z at *
  have e1 : (nI z < nI 1000000) = (z ≠ 1000000) := propext ⟨fun h => by have := (nI_ltI (by omega) (by decide)).mp h; omega, fun h => (nI_ltI (by omega) (by decide)).mpr (by omega)⟩
  simp only [e1]
section SHR
variable {G : xGl} {d N : Nat} {w : aX} {M : xMem} {Q : Option Value → List xSh → xMem → Prop} {y1 y2 y3 : Int32} {l : aLd} {b : aBk}
theorem c_X9_drawOf {z k : Nat} (hz : z ≤ 9999) (hk : k < 40) (hQ : Q (some (.int (nI (drawN z k)))) SF M) : xC G mX9_drawOf d 0 0 [.int (nI z), .int (nI k)] SF M Q := by
  refine xC_intro [some (.int (nI z)), some (.int (nI k)), none, none] rfl (by decide) (Nat.le_of_ble_eq_true rfl) ?_
  refine xs_KL eX9_drawOf_0 ?_
  refine xs_iload eX9_drawOf_3 rfl ?_
  refine xs_i2l eX9_drawOf_4 ?_
  refine xs_lmul eX9_drawOf_5 ?_
  refine xs_KL eX9_drawOf_6 ?_
  refine xs_iload eX9_drawOf_9 rfl ?_
  refine xs_i2l eX9_drawOf_10 ?_
  refine xs_lmul eX9_drawOf_11 ?_
  refine xs_ladd eX9_drawOf_12 ?_
  refine xs_KL eX9_drawOf_13 ?_
  refine xs_ladd eX9_drawOf_14 ?_
  refine xs_lstore eX9_drawOf_15 (Nat.le_of_ble_eq_true rfl) rfl rfl ?_
  refine xs_lload eX9_drawOf_16 rfl ?_
  refine xs_lload eX9_drawOf_17 rfl ?_
  refine xs_lmul eX9_drawOf_18 ?_
  refine xs_KL eX9_drawOf_19 ?_
  refine xs_lrem eX9_drawOf_22 (by decide) ?_
  refine xs_KL eX9_drawOf_23 ?_
  refine xs_ldiv eX9_drawOf_26 (by decide) ?_
  refine xs_l2i eX9_drawOf_27 ?_
  refine xs_eq1 (draw_ok hz hk) ?_
  exact xs_iretI eX9_drawOf_28 rfl (hQ)
/-- the trial book alone has changed -/
def onlyT (M M1 : xMem) : Prop := ∀ a, a < 36 ∨ 40 < a → M1 a = M a
theorem c_X9_stepByDraw {dr dy : Nat} (hl : okL l) (hL : rL M l) (hB : rB M 36 b) (hb : okB l.1 dy b) (hdr : dr < 32761) (hQ : ∀ M1, onlyT M M1 → rB M1 36 (stepB l b dr) → Q none SF M1) : xC G mX9_stepByDraw (d + 5) 0 0 [.ref (G.1 + 0), .int (nI dr)] SF M Q := by
  have s0 := sh0
  have b0 := bk0 isBk36
  have l0 := sh18
  have isb := isBk36
  have hnv := hL.1
  have hnp := hL.2.1
  obtain ⟨⟨l1, l2⟩, ⟨l3, l4⟩, lk, ln, -⟩ := id hl
  have hp : dr % l.2.1 < l.2.1 := Nat.mod_lt _ (by omega)
  have hv : dr / 8 % l.1 < l.1 := Nat.mod_lt _ (by omega)
  have nz1 : ¬ nI l.2.1 = 0 := nI_ne0 (by omega) (by omega)
  have nz2 : ¬ nI l.1 = 0 := nI_ne0 (by omega) (by omega)
  have q1 : nI dr - nI dr / nI l.2.1 * nI l.2.1 = nI (dr % l.2.1) := pk_rem (by omega) (by omega) (by omega)
  have q2 : nI dr / nI 8 - nI dr / nI 8 / nI l.1 * nI l.1 = nI (dr / 8 % l.1) := by rw [pk_div (by omega) (by decide) (by decide)]; exact pk_rem (by omega) (by omega) (by omega)
  have q3 : nI dr / nI 64 - nI dr / nI 64 / nI 3 * nI 3 = nI (dr / 64 % 3) := by rw [pk_div (by omega) (by decide) (by decide)]; exact pk_rem (by omega) (by omega) (by omega)
  unfold stepB at hQ
  generalize dr % l.2.1 = p at *
  generalize dr / 8 % l.1 = v at *
  have ht3 : dr / 64 % 3 < 3 := Nat.mod_lt _ (by decide)
  generalize dr / 64 % 3 = tr at *
  have hv7 : v < 7 := by omega
  have hp3 : p < 3 := by omega
  have hpl := (hB.2.2.2 p hp3).1
  have hw7 : b.2.2.2.2.1 p < 7 := by have := (hb.2.2.2.2 p hp3).1; omega
  have hcan := can_eq hl hL hB hb hp3 hv
  have hkd := (hL.2.2.2.1 v hv7).1
  have hk5 := lk v hv7
  have hne : l.2.2.2.1 v < 128 := Nat.lt_of_lt_of_le (ln v hv7) (pow7 l2)
  have hib : b.1 < 128 := Nat.lt_of_lt_of_le hb.1 (pow7 l2)
  have hck : b.2.1 < 128 := Nat.lt_of_lt_of_le hb.2.1 (pow7 l2)
  have han := an_low (v := v) hB.1 (hL.2.2.2.1 v hv7).2 hne
  have hbb := rB_bt hB hv7
  have r1 : canA l b p v = true → Q none SF (askM M 36 p v (b.2.2.2.2.1 p) (l.2.2.1 v) (M 18 7)) := fun h => by
    simp only [h, if_true] at hQ
    exact hQ _ (fun a ha => askM_ne (by omega)) (rB_ask isBk36 hp3 hv7 hL hB hw7 hne hib (fun v hv => okB_ox hb hv))
  have r2 : canA l b p v = false → tr = 0 → (b.1.testBit v && !b.2.1.testBit v) = true → Q none SF (checkM M 36 v) := fun h h2 h3 => by
    rw [if_neg (by rw [h]; decide), if_pos ⟨h2, h3⟩] at hQ
    exact hQ _ (fun a ha => checkM_ne (by omega)) (rB_check hv7 hB hck)
  have r3 : canA l b p v = false → tr = 1 → b.1.testBit v = true → Q none SF (strikeM M 36 v) := fun h h2 h3 => by
    rw [if_neg (by rw [h]; decide), if_neg (fun q => by omega), if_pos ⟨h2, h3⟩] at hQ
    exact hQ _ (fun a ha => strikeM_ne (by omega)) (rB_strike hv7 hB hib hck)
  have r4 : canA l b p v = false → ¬ (tr = 0 ∧ (b.1.testBit v && !b.2.1.testBit v) = true) → ¬ (tr = 1 ∧ b.1.testBit v = true) → Q none SF M := fun h h2 h3 => by
    rw [if_neg (by rw [h]; decide), if_neg h2, if_neg h3] at hQ
    exact hQ _ (fun a ha => rfl) hB
  refine xC_intro [some (.ref (G.1 + 0)), some (.int (nI dr)), none, none, none] rfl (by decide) (Nat.le_of_ble_eq_true rfl) ?_
  refine xs_aload eX9_stepByDraw_0 rfl ?_
  refine xs_getR eX9_stepByDraw_1 (by assumption) (by rfl) ?_
  refine xs_getI eX9_stepByDraw_4 (by assumption) (by rfl) ?_
  refine xs_eq1 hnp ?_
  refine xs_K eX9_stepByDraw_7 ?_
  refine xs_N_lt eX9_stepByDraw_8 (by omega) (by omega) (fun h => absurd h (by omega)) (fun h8 => ?_)
  refine xs_aload eX9_stepByDraw_11 rfl ?_
  refine xs_getR eX9_stepByDraw_12 (by assumption) (by rfl) ?_
  refine xs_getI eX9_stepByDraw_15 (by assumption) (by rfl) ?_
  refine xs_eq1 hnv ?_
  refine xs_K eX9_stepByDraw_18 ?_
  refine xs_N_ge eX9_stepByDraw_19 (by omega) (by omega) (fun h19 => ?_) (fun h => absurd h (by omega))
  refine xs_iload eX9_stepByDraw_23 rfl ?_
  refine xs_aload eX9_stepByDraw_24 rfl ?_
  refine xs_getR eX9_stepByDraw_25 (by assumption) (by rfl) ?_
  refine xs_getI eX9_stepByDraw_28 (by assumption) (by rfl) ?_
  refine xs_eq1 hnp ?_
  refine xs_irem eX9_stepByDraw_31 (nz1) ?_
  refine xs_eq1 q1 ?_
  refine xs_istore eX9_stepByDraw_32 (Nat.le_of_ble_eq_true rfl) rfl rfl ?_
  refine xs_iload eX9_stepByDraw_33 rfl ?_
  refine xs_K eX9_stepByDraw_34 ?_
  refine xs_idiv eX9_stepByDraw_36 (by decide) ?_
  refine xs_aload eX9_stepByDraw_37 rfl ?_
  refine xs_getR eX9_stepByDraw_38 (by assumption) (by rfl) ?_
  refine xs_getI eX9_stepByDraw_41 (by assumption) (by rfl) ?_
  refine xs_eq1 hnv ?_
  refine xs_irem eX9_stepByDraw_44 (nz2) ?_
  refine xs_eq1 q2 ?_
  refine xs_istore eX9_stepByDraw_45 (Nat.le_of_ble_eq_true rfl) rfl rfl ?_
  refine xs_iload eX9_stepByDraw_46 rfl ?_
  refine xs_K eX9_stepByDraw_47 ?_
  refine xs_idiv eX9_stepByDraw_49 (by decide) ?_
  refine xs_K eX9_stepByDraw_50 ?_
  refine xs_irem eX9_stepByDraw_51 (by decide) ?_
  refine xs_eq1 q3 ?_
  refine xs_istore eX9_stepByDraw_52 (Nat.le_of_ble_eq_true rfl) rfl rfl ?_
  refine xs_aload eX9_stepByDraw_54 rfl ?_
  refine xs_getR eX9_stepByDraw_55 (by assumption) (by rfl) ?_
  refine xs_iload eX9_stepByDraw_58 rfl ?_
  refine xs_iload eX9_stepByDraw_59 rfl ?_
  refine xs_callV2i eX9_stepByDraw_60 (by assumption) (Nat.le_of_ble_eq_true rfl) (c_X0_canBeAsked (by assumption) (by omega) (by omega) (by assumption) (by omega) ⟨_, rfl, ?_⟩)
  rw [hcan]
  refine xs_ifeqB eX9_stepByDraw_63 (fun h63 => ?_) (fun h63 => ?_)
  · refine xs_iload eX9_stepByDraw_79 rfl ?_
    refine xs_N0_ne eX9_stepByDraw_81 (by omega) (fun h81 => ?_) (fun h81 => ?_)
    · refine xs_iload eX9_stepByDraw_107 rfl ?_
      refine xs_K eX9_stepByDraw_109 ?_
      refine xs_N_ne eX9_stepByDraw_110 (by omega) (by omega) (fun h110 => ?_) (fun h110 => ?_)
      · exact xs_vret eX9_stepByDraw_133 rfl (r4 h63 (fun q => by omega) (fun q => by omega))
      · refine xs_aload eX9_stepByDraw_113 rfl ?_
        refine xs_getR eX9_stepByDraw_114 (by assumption) (by rfl) ?_
        refine xs_iload eX9_stepByDraw_117 rfl ?_
        refine xs_callV1i eX9_stepByDraw_118 (by assumption) (Nat.le_of_ble_eq_true rfl) (c_X0_holds (by assumption) (by omega) ⟨_, rfl, ?_⟩)
        rw [hbb.1]
        refine xs_ifeqB eX9_stepByDraw_121 (fun h121 => ?_) (fun h121 => ?_)
        · exact xs_vret eX9_stepByDraw_133 rfl (r4 h63 (fun q => by omega) (fun q => by rw [h121] at q; cases q.2))
        · refine xs_aload eX9_stepByDraw_124 rfl ?_
          refine xs_getR eX9_stepByDraw_125 (by assumption) (by rfl) ?_
          refine xs_iload eX9_stepByDraw_128 rfl ?_
          refine xs_callV1i eX9_stepByDraw_129 (by assumption) (Nat.le_of_ble_eq_true rfl) (c_X0_strikeOut (by assumption) (by omega) ⟨_, rfl, ?_⟩)
          refine xs_pop eX9_stepByDraw_132 rfl ?_
          exact xs_vret eX9_stepByDraw_133 rfl (r3 h63 h110 h121)
    · refine xs_aload eX9_stepByDraw_84 rfl ?_
      refine xs_getR eX9_stepByDraw_85 (by assumption) (by rfl) ?_
      refine xs_iload eX9_stepByDraw_88 rfl ?_
      refine xs_callV1i eX9_stepByDraw_89 (by assumption) (Nat.le_of_ble_eq_true rfl) (c_X0_canBeChecked (by assumption) (by omega) ⟨_, rfl, ?_⟩)
      rw [hbb.1, hbb.2]
      refine xs_ifeqB eX9_stepByDraw_92 (fun h92 => ?_) (fun h92 => ?_)
      · refine xs_iload eX9_stepByDraw_107 rfl ?_
        refine xs_K eX9_stepByDraw_109 ?_
        refine xs_N_ne eX9_stepByDraw_110 (by omega) (by omega) (fun h110 => ?_) (fun h110 => ?_)
        · exact xs_vret eX9_stepByDraw_133 rfl (r4 h63 (fun q => by rw [h92] at q; cases q.2) (fun q => by omega))
        · refine xs_aload eX9_stepByDraw_113 rfl ?_
          refine xs_getR eX9_stepByDraw_114 (by assumption) (by rfl) ?_
          refine xs_iload eX9_stepByDraw_117 rfl ?_
          refine xs_callV1i eX9_stepByDraw_118 (by assumption) (Nat.le_of_ble_eq_true rfl) (c_X0_holds (by assumption) (by omega) ⟨_, rfl, ?_⟩)
          rw [hbb.1]
          refine xs_ifeqB eX9_stepByDraw_121 (fun h121 => ?_) (fun h121 => ?_)
          · exact xs_vret eX9_stepByDraw_133 rfl (r4 h63 (fun q => by rw [h92] at q; cases q.2) (fun q => by omega))
          · refine xs_aload eX9_stepByDraw_124 rfl ?_
            refine xs_getR eX9_stepByDraw_125 (by assumption) (by rfl) ?_
            refine xs_iload eX9_stepByDraw_128 rfl ?_
            refine xs_callV1i eX9_stepByDraw_129 (by assumption) (Nat.le_of_ble_eq_true rfl) (c_X0_strikeOut (by assumption) (by omega) ⟨_, rfl, ?_⟩)
            refine xs_pop eX9_stepByDraw_132 rfl ?_
            exact xs_vret eX9_stepByDraw_133 rfl (r3 h63 (by omega) h121)
      · refine xs_aload eX9_stepByDraw_95 rfl ?_
        refine xs_getR eX9_stepByDraw_96 (by assumption) (by rfl) ?_
        refine xs_iload eX9_stepByDraw_99 rfl ?_
        refine xs_callV1i eX9_stepByDraw_100 (by assumption) (Nat.le_of_ble_eq_true rfl) (c_X0_writeOxen (by assumption) (by omega) ⟨_, rfl, ?_⟩)
        refine xs_pop eX9_stepByDraw_103 rfl ?_
        refine xs_goto eX9_stepByDraw_104 ?_
        exact xs_vret eX9_stepByDraw_133 rfl (r2 h63 h81 h92)
  · refine xs_aload eX9_stepByDraw_66 rfl ?_
    refine xs_getR eX9_stepByDraw_67 (by assumption) (by rfl) ?_
    refine xs_iload eX9_stepByDraw_70 rfl ?_
    refine xs_iload eX9_stepByDraw_71 rfl ?_
    refine xs_callV2i eX9_stepByDraw_72 (by assumption) (Nat.le_of_ble_eq_true rfl) (c_X0_askBy (by assumption) (by omega) (by omega) (by assumption) (by omega) (by assumption) (by omega) (by assumption) ⟨_, rfl, ?_⟩)
    refine xs_pop eX9_stepByDraw_75 rfl ?_
    refine xs_goto eX9_stepByDraw_76 ?_
    exact xs_vret eX9_stepByDraw_133 rfl (r1 h63)
theorem c_X9_shire (hN : N ≤ 600) (hR : repC w M) (hok : okX N w) (hQ : ∀ M1, hiK M M1 → repC w M1 → Q (some (.int (spShire w y1 y2 y3))) SF M1) : xC G mX9_shire (d + 9) 0 0 [.ref (G.1 + 0), .int y1, .int y2, .int y3] SF M Q := by
  have s0 := sh0
  have b0 := bk0 isBk31
  have t0 := bk0 isBk36
  have isb := isBk31
  have ist := isBk36
  obtain ⟨-, hL, hB, -⟩ := id hR
  have hl := hok.2.1
  obtain ⟨⟨l1, l2⟩, ⟨l3, l4⟩, -⟩ := id hl
  unfold spShire at hQ
  have K : wiB y1 (nI 0) (nI 9999) = true → wiB y2 (nI 1) (nI 40) = true → wiB y3 (nI 0) (nI 1) = true → xW G mX9_shire (d + 9) 0 0 Q 32 [some (.ref (G.1 + 0)), some (.int y1), some (.int y2), some (.int y3), none] [] SF M := by
    intro q1 q2 q3
    simp only [q1, q2, q3, Bool.and_self, if_true] at hQ
    obtain ⟨z, -, hz, rfl⟩ := wi_of (by decide) (by decide) q1
    obtain ⟨n, hn1, hn2, rfl⟩ := wi_of (by decide) (by decide) q2
    obtain ⟨k, -, hk, rfl⟩ := wi_of (by decide) (by decide) q3
    rw [nI_clamp (by omega), nI_clamp (by omega)] at hQ
    have hB0 : rB (cpB M 36 31) 36 w.2.2.1 := rB_cp (by omega) hB
    have o0 : onlyT M (cpB M 36 31) := fun a ha => cpB_ne (by omega)
    have ne36 : (36 : Nat) ≠ 31 := by decide
    refine xs_aload eX9_shire_32 rfl ?_
    refine xs_getR eX9_shire_33 (by assumption) (by rfl) ?_
    refine xs_aload eX9_shire_36 rfl ?_
    refine xs_getR eX9_shire_37 (by assumption) (by rfl) ?_
    refine xs_callV1v eX9_shire_40 (by assumption) (Nat.le_of_ble_eq_true rfl) (c_X0_copyFrom (by assumption) (by assumption) (by assumption) ⟨rfl, ?_⟩)
    refine xs_K eX9_shire_43 ?_
    refine xs_istore eX9_shire_44 (Nat.le_of_ble_eq_true rfl) rfl rfl ?_
    refine dn (P := fun i => ∀ M1, onlyT M M1 → rB M1 36 (shireB w.2.1 w.2.2.1 z i) → xW G mX9_shire (d + 9) 0 0 Q 46 [some (.ref (G.1 + 0)), some (.int (nI z)), some (.int (nI n)), some (.int (nI k)), some (.int (nI i))] [] SF M1) n ?_ ?_ 0 (Nat.zero_le _) _ o0 hB0
    · intro M1 o1 hB1
      have hob := okB_shire (z := z) hl hok.2.2.1 n
      have hL1 : rL M1 w.2.1 := rL_keep hL (fun a _ _ => o1 a (by omega))
      have hnv := hL1.1
      have hnp := hL1.2.1
      have f1 : foundF w.2.1.1 (M1 36 5) (M1 (36 + 2)) = nI (foundB w.2.1.1 (shireB w.2.1 w.2.2.1 z n)) := by
        rw [hB1.1]
        exact found_nI _ (by omega) (fun v hv => (hB1.2.2.1 v hv).2)
      have f3 : maxN (M1 (36 + 4)) w.2.1.2.1 = nI (maxA (shireB w.2.1 w.2.2.1 z n).2.2.2.2.2 w.2.1.2.1) := (max_nI _ (by omega) (fun v hv => ⟨(hB1.2.2.2 v hv).2, by have := (hob.2.2.2.2 v hv).2; omega⟩)).1
      have hQ1 := hQ M1 (fun a ha => o1 a (by omega)) (repC_scr hR (fun a _ hs => o1 a (by unfold scr at hs; omega)))
      refine xs_iload eX9_shire_46 rfl ?_
      refine xs_iload eX9_shire_48 rfl ?_
      refine xs_N_ge eX9_shire_49 (by omega) (by omega) (fun h49 => ?_) (fun h => absurd h (by omega))
      refine xs_iload eX9_shire_68 rfl ?_
      refine xs_N0_ne eX9_shire_69 (by omega) (fun h69 => ?_) (fun h69 => ?_)
      · refine xs_aload eX9_shire_82 rfl ?_
        refine xs_getR eX9_shire_83 (by assumption) (by rfl) ?_
        refine xs_callV0i eX9_shire_86 (by assumption) (Nat.le_of_ble_eq_true rfl) (c_X0_mostDays (by assumption) (by assumption) (by omega) ⟨_, rfl, ?_⟩)
        refine xs_eq1 f3 ?_
        exact xs_iretI eX9_shire_89 rfl (by rw [if_neg (fun e => h69 ((nI_eq (by omega) (by decide)).mp e))] at hQ1; exact hQ1)
      · refine xs_aload eX9_shire_72 rfl ?_
        refine xs_getR eX9_shire_73 (by assumption) (by rfl) ?_
        refine xs_callV0i eX9_shire_76 (by assumption) (Nat.le_of_ble_eq_true rfl) (c_X0_found (by assumption) (by assumption) (by omega) ⟨_, rfl, ?_⟩)
        refine xs_eq1 f1 ?_
        refine xs_goto eX9_shire_79 ?_
        skip
        exact xs_iretI eX9_shire_89 rfl (by subst h69; exact hQ1)
    · intro i hi ih M1 o1 hB1
      have hob := okB_shire (z := z) hl hok.2.2.1 i
      have hL1 : rL M1 w.2.1 := rL_keep hL (fun a _ _ => o1 a (by omega))
      have hdr := drawN_lt z i
      refine xs_iload eX9_shire_46 rfl ?_
      refine xs_iload eX9_shire_48 rfl ?_
      refine xs_N_ge eX9_shire_49 (by omega) (by omega) (fun h => absurd h (by omega)) (fun h49 => ?_)
      refine xs_aload eX9_shire_52 rfl ?_
      refine xs_iload eX9_shire_53 rfl ?_
      refine xs_iload eX9_shire_54 rfl ?_
      refine xs_callS2i eX9_shire_56 (Nat.le_of_ble_eq_true rfl) (c_X9_drawOf (by omega) (by omega) ⟨_, rfl, ?_⟩)
      refine xs_callV1v eX9_shire_59 (by assumption) (Nat.le_of_ble_eq_true rfl) (c_X9_stepByDraw (by assumption) (by assumption) (by assumption) (by assumption) (by omega) (fun M2 hM2 hB2 => ⟨rfl, ?_⟩))
      refine xs_inc1 eX9_shire_62 rfl rfl rfl ?_
      refine xs_goto eX9_shire_65 ?_
      exact ih M2 (fun a ha => by rw [hM2 a ha, o1 a ha]) hB2
  refine xC_intro [some (.ref (G.1 + 0)), some (.int y1), some (.int y2), some (.int y3), none] rfl (by decide) (Nat.le_of_ble_eq_true rfl) ?_
  refine xs_iload eX9_shire_0 rfl ?_
  refine xs_K eX9_shire_1 ?_
  refine xs_K eX9_shire_2 ?_
  refine xs_callS3i eX9_shire_5 (Nat.le_of_ble_eq_true rfl) (c_X9_isWithin ⟨_, rfl, ?_⟩)
  refine xs_ifeqB eX9_shire_8 (fun h8 => ?_) (fun h8 => ?_)
  · refine xs_K eX9_shire_30 ?_
    exact xs_iretI eX9_shire_31 rfl (by simp only [h8, Bool.false_and, Bool.false_eq_true, if_false] at hQ; exact hQ M (fun _ _ => rfl) hR)
  · refine xs_iload eX9_shire_11 rfl ?_
    refine xs_K eX9_shire_12 ?_
    refine xs_K eX9_shire_13 ?_
    refine xs_callS3i eX9_shire_15 (Nat.le_of_ble_eq_true rfl) (c_X9_isWithin ⟨_, rfl, ?_⟩)
    refine xs_ifeqB eX9_shire_18 (fun h18 => ?_) (fun h18 => ?_)
    · refine xs_K eX9_shire_30 ?_
      exact xs_iretI eX9_shire_31 rfl (by simp only [h8, h18, Bool.and_false, Bool.false_and, Bool.false_eq_true, if_false] at hQ; exact hQ M (fun _ _ => rfl) hR)
    · refine xs_iload eX9_shire_21 rfl ?_
      refine xs_K eX9_shire_22 ?_
      refine xs_K eX9_shire_23 ?_
      refine xs_callS3i eX9_shire_24 (Nat.le_of_ble_eq_true rfl) (c_X9_isWithin ⟨_, rfl, ?_⟩)
      refine xs_ifneB eX9_shire_27 (fun h27 => ?_) (fun h27 => ?_)
      · exact K h8 h18 h27
      · refine xs_K eX9_shire_30 ?_
        exact xs_iretI eX9_shire_31 rfl (by simp only [h27, Bool.and_false, Bool.false_eq_true, if_false] at hQ; exact hQ M (fun _ _ => rfl) hR)
end SHR

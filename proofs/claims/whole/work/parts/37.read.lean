/-! THE REFERENCE reads -/
/-- the letter at a place as the reference has it -/
def nxI (t : Nat → Nat) (len pl : Nat) : Int32 := if pl < len then nI (t pl) else (-1)
def rdM (M : xMem) (q : Nat) (wr : Bool) : xMem := up2 (up2 M 156 14 (nI q)) 156 16 (bI wr)
def isTm (M : xMem) (t : Nat → Nat) (len : Nat) : Prop := M 156 12 = nI len ∧ len ≤ 200 ∧ ∀ j, j < len → M 163 j = nI (t j) ∧ 32 ≤ t j ∧ t j ≤ 126
theorem rdM_ne {M : xMem} {q a : Nat} {wr : Bool} (h : a ≠ 156) : rdM M q wr a = M a := by rw [rdM, up2_ne h, up2_ne h]
theorem rdM_f {M : xMem} {q j : Nat} {wr : Bool} : rdM M q wr 156 j = if j = 16 then bI wr else if j = 14 then nI q else M 156 j := by
  rw [rdM, up2_row, up2_row]; rfl
theorem up2_x {M : xMem} {c j i : Nat} {y : Int32} : up2 M c j y c i = if i = j then y else M c i := by rw [up2_row]; rfl
theorem rdM_id {M : xMem} {q : Nat} {wr : Bool} (h : M 156 14 = nI q) (h2 : M 156 16 = bI wr) : M = rdM M q wr := by
  funext a j
  by_cases e : a = 156
  · subst e
    rw [rdM_f]
    split
    · next e => rw [e]; exact h2
    · split
      · next e => rw [e]; exact h
      · rfl
  · rw [rdM_ne e]
theorem rdM_2 {M : xMem} {q q2 : Nat} {wr wr2 : Bool} : rdM (rdM M q wr) q2 wr2 = rdM M q2 wr2 := by
  funext a j
  by_cases e : a = 156
  · subst e
    rw [rdM_f, rdM_f, rdM_f]
    split
    · rfl
    · split
      · rfl
      · rfl
  · rw [rdM_ne e, rdM_ne e, rdM_ne e]
theorem rdM_at {M : xMem} {q q2 : Nat} {wr : Bool} : up2 (rdM M q wr) 156 14 (nI q2) = rdM M q2 wr := by
  funext a j
  by_cases e : a = 156
  · subst e
    rw [up2_x, rdM_f, rdM_f]
    split
    · next e => rw [e]; rfl
    · rfl
  · rw [up2_ne e, rdM_ne e, rdM_ne e]
theorem rdM_wr {M : xMem} {q : Nat} {wr wr2 : Bool} : up2 (rdM M q wr) 156 16 (bI wr2) = rdM M q wr2 := by
  funext a j
  by_cases e : a = 156
  · subst e
    rw [up2_x, rdM_f, rdM_f]
    split
    · rfl
    · rfl
  · rw [up2_ne e, rdM_ne e, rdM_ne e]
theorem rdM_w1 {M : xMem} {q : Nat} {wr : Bool} : up2 (rdM M q wr) 156 16 (nI 1) = rdM M q true := rdM_wr (wr2 := true)
theorem rdM_w0 {M : xMem} {q : Nat} {wr : Bool} : up2 (rdM M q wr) 156 16 (nI 0) = rdM M q false := rdM_wr (wr2 := false)
theorem isTm_rd {M : xMem} {t : Nat → Nat} {len q : Nat} {wr : Bool} (h : isTm M t len) : isTm (rdM M q wr) t len := ⟨by rw [rdM_f]; exact h.1, h.2.1, fun j hj => by rw [rdM_ne (by decide)]; exact h.2.2 j hj⟩
theorem ltm_le {M : xMem} {t : Nat → Nat} {len : Nat} (h : isTm M t len) (pl : Nat) : ltr t len pl ≤ 126 := by
  unfold ltr
  split
  · exact (h.2.2 _ (by assumption)).2.2
  · omega
theorem nx_dg {M : xMem} {t : Nat → Nat} {len pl : Nat} (h : isTm M t len) : wiB (nxI t len pl) (nI 48) (nI 57) = isDg (ltr t len pl) := by
  unfold nxI ltr isDg
  split
  · next e =>
    have := (h.2.2 pl e).2.2
    exact wi_nI (by omega) (by decide) (by decide)
  · decide
theorem nx_eq {M : xMem} {t : Nat → Nat} {len pl c : Nat} (h : isTm M t len) (hc : 0 < c) (hc2 : c < 200) : nxI t len pl = nI c ↔ ltr t len pl = c := by
  unfold nxI ltr
  split
  · next e =>
    have := (h.2.2 pl e).2.2
    exact nI_eq (by omega) (by omega)
  · refine ⟨fun e => absurd e (fun e => ?_), fun e => by omega⟩
    have h9 := nI_pos (n := c) (by omega)
    rw [← e] at h9
    exact h9 (by decide)
section RD
variable {G : xGl} {d N pl len nv np : Nat} {w : aX} {t : Nat → Nat} {M : xMem} {wr : Bool} {Q : Option Value → List xSh → xMem → Prop}
theorem c_X10_next (ht : isTm M t len) (hQ : Q (some (.int (nxI t len pl))) SF (rdM M pl wr)) (hp : pl < 2000 := by omega) : xC G mX10_next d 0 0 [.ref (G.1 + 156)] SF (rdM M pl wr) Q := by
  have s0 := sh156
  have s1 := sh163
  have e1 : rdM M pl wr 156 14 = nI pl := by rw [rdM_f]; rfl
  have e2 : rdM M pl wr 156 12 = nI len := by rw [rdM_f]; exact ht.1
  have h2 := ht.2.1
  unfold nxI at hQ
  refine xC_intro [some (.ref (G.1 + 156))] rfl (by decide) (Nat.le_of_ble_eq_true rfl) ?_
  refine xs_aload eX10_next_0 rfl ?_
  refine xs_getI eX10_next_1 (by assumption) (by rfl) ?_
  refine xs_eq1 e1 ?_
  refine xs_aload eX10_next_4 rfl ?_
  refine xs_getI eX10_next_5 (by assumption) (by rfl) ?_
  refine xs_eq1 e2 ?_
  refine xs_N_ge eX10_next_8 (by omega) (by omega) (fun h8 => ?_) (fun h8 => ?_)
  · refine xs_K eX10_next_23 ?_
    exact xs_iretI eX10_next_24 rfl (by rw [if_neg (by omega)] at hQ; exact hQ)
  · refine xs_aload eX10_next_11 rfl ?_
    refine xs_getR eX10_next_12 (by assumption) (by rfl) ?_
    refine xs_aload eX10_next_15 rfl ?_
    refine xs_getI eX10_next_16 (by assumption) (by rfl) ?_
    refine xs_eq1 e1 ?_
    refine xs_bald eX10_next_19 (by assumption) (by omega) (by decide) ?_
    refine xs_eq1 (z := nI (t pl)) (by rw [rdM_ne (by decide)]; exact (ht.2.2 pl h8).1) ?_
    refine xs_goto eX10_next_20 ?_
    exact xs_iretI eX10_next_24 rfl (by rw [if_pos h8] at hQ; exact hQ)
/-- a number that can't be -/
def badN (l : Nat → Nat) (pl : Nat) (lo hi : Int32) : Prop := (numAt l pl).1 = none ∨ isDg (l (numAt l pl).2) = true ∨ ∃ v, (numAt l pl).1 = some v ∧ wiB (nI v) lo hi = false
theorem c_X10_number {lo hi : Int32} (ht : isTm M t len) (hp : pl < 1000) (hg : ∀ v, wr = false → (numAt (ltr t len) pl).1 = some v → isDg (ltr t len (numAt (ltr t len) pl).2) = false → wiB (nI v) lo hi = true → Q (some (.int (nI v))) SF (rdM M (numAt (ltr t len) pl).2 false)) (hb : ∀ q, q ≤ pl + 3 → (wr = true ∨ badN (ltr t len) pl lo hi) → Q (some (.int (nI 0))) SF (rdM M q true)) : xC G mX10_number (d + 1) 0 0 [.ref (G.1 + 156), .int lo, .int hi] SF (rdM M pl wr) Q := by
  have s0 := sh156
  have hl := ltm_le ht
  have K88 : ∀ (q v f : Nat), q ≤ pl + 3 → (wr = true ∨ badN (ltr t len) pl lo hi) → xW G mX10_number (d + 1) 0 0 Q 88 [some (.ref (G.1 + 156)), some (.int lo), some (.int hi), some (.int (nI v)), some (.int (nI f))] [.ref (G.1 + 156)] SF (rdM M q wr) := by
    intro q v f h1 h2
    have h9 := hb q h1 h2
    have e1 : rdM M q true 156 16 = nI 1 := by rw [rdM_f]; rfl
    refine xs_K eX10_number_88 ?_
    refine xs_goto eX10_number_89 ?_
    refine xs_putI eX10_number_93 (by assumption) (by rfl) (bI_nar true) (bI_fit true) ?_
    refine xs_eqM rdM_w1 ?_
    refine xs_aload eX10_number_96 rfl ?_
    refine xs_getI eX10_number_97 (by assumption) (by rfl) ?_
    refine xs_eq1 e1 ?_
    refine xs_N0_eq eX10_number_100 (by omega) (fun h => absurd h (by omega)) (fun h100 => ?_)
    refine xs_K eX10_number_103 ?_
    refine xs_goto eX10_number_104 ?_
    exact xs_iretI eX10_number_108 rfl (h9)
  have K57 : ∀ (q v f : Nat), q ≤ pl + 3 → f ≤ 3 → (f = 0 ∨ f = 3 → badN (ltr t len) pl lo hi) → (f = 1 ∨ f = 2 → numAt (ltr t len) pl = (some v, q) ∧ isDg (ltr t len q) = false) → xW G mX10_number (d + 1) 0 0 Q 57 [some (.ref (G.1 + 156)), some (.int lo), some (.int hi), some (.int (nI v)), some (.int (nI f))] [] SF (rdM M q wr) := by
    intro q v f h1 h2 h3 h4
    have e0 : rdM M q wr 156 16 = bI wr := by rw [rdM_f]; rfl
    have e1 : rdM M q false 156 16 = nI 0 := by rw [rdM_f]; rfl
    refine xs_aload eX10_number_57 rfl ?_
    refine xs_aload eX10_number_58 rfl ?_
    refine xs_getI eX10_number_59 (by assumption) (by rfl) ?_
    refine xs_eq1 e0 ?_
    refine xs_ifneB eX10_number_62 (fun h62 => ?_) (fun h62 => ?_)
    · exact K88 q v f h1 (Or.inl h62)
    · refine xs_iload eX10_number_65 rfl ?_
      refine xs_N0_eq eX10_number_67 (by omega) (fun h67 => ?_) (fun h67 => ?_)
      · exact K88 q v f h1 (Or.inr (h3 (by omega)))
      · refine xs_iload eX10_number_70 rfl ?_
        refine xs_K eX10_number_72 ?_
        refine xs_N_gt eX10_number_73 (by omega) (by omega) (fun h73 => ?_) (fun h73 => ?_)
        · exact K88 q v f h1 (Or.inr (h3 (by omega)))
        · refine xs_iload eX10_number_76 rfl ?_
          refine xs_i2l eX10_number_77 ?_
          refine xs_iload eX10_number_78 rfl ?_
          refine xs_i2l eX10_number_79 ?_
          refine xs_iload eX10_number_80 rfl ?_
          refine xs_i2l eX10_number_81 ?_
          refine xs_callS3i eX10_number_82 (Nat.le_of_ble_eq_true rfl) (c_X10_in (y := nI v) (lo := lo) (hi := hi) rfl rfl rfl ⟨_, rfl, ?_⟩)
          refine xs_ifneB eX10_number_85 (fun h85 => ?_) (fun h85 => ?_)
          · obtain ⟨g1, g2⟩ := h4 (by omega)
            subst h62
            have h9 := hg v rfl (by rw [g1]) (by rw [g1]; exact g2) h85
            rw [g1] at h9
            refine xs_K eX10_number_92 ?_
            refine xs_putI eX10_number_93 (by assumption) (by rfl) (bI_nar false) (bI_fit false) ?_
            refine xs_eqM rdM_w0 ?_
            refine xs_aload eX10_number_96 rfl ?_
            refine xs_getI eX10_number_97 (by assumption) (by rfl) ?_
            refine xs_eq1 e1 ?_
            refine xs_N0_eq eX10_number_100 (by omega) (fun h100 => ?_) (fun h => absurd h (by omega))
            refine xs_iload eX10_number_107 rfl ?_
            exact xs_iretI eX10_number_108 rfl (h9)
          · exact K88 q v f h1 (Or.inr (Or.inr (Or.inr ⟨v, by rw [(h4 (by omega)).1], h85⟩)))
  have LP : ∀ (q v f : Nat), q = pl + f → f ≤ 3 → v < 1000 → (f < 3 → isDg (ltr t len q) = true → xW G mX10_number (d + 1) 0 0 Q 5 [some (.ref (G.1 + 156)), some (.int lo), some (.int hi), some (.int (nI (10 * v + (ltr t len q - 48)))), some (.int (nI (f + 1)))] [] SF (rdM M (q + 1) wr)) → (f = 3 ∨ isDg (ltr t len q) = false → xW G mX10_number (d + 1) 0 0 Q 57 [some (.ref (G.1 + 156)), some (.int lo), some (.int hi), some (.int (nI v)), some (.int (nI f))] [] SF (rdM M q wr)) → xW G mX10_number (d + 1) 0 0 Q 5 [some (.ref (G.1 + 156)), some (.int lo), some (.int hi), some (.int (nI v)), some (.int (nI f))] [] SF (rdM M q wr) := by
    intro q v f hq hf hv k1 k2
    have hdg := nx_dg (pl := q) ht
    have e14 : rdM M q wr 156 14 = nI q := by rw [rdM_f]; rfl
    have hlq := hl q
    have hnx : isDg (ltr t len q) = true → nxI t len q = nI (ltr t len q) ∧ 48 ≤ ltr t len q := fun h => by
      unfold isDg at h
      simp only [Bool.and_eq_true, decide_eq_true_eq] at h
      refine ⟨?_, h.1⟩
      unfold ltr at h ⊢
      unfold nxI
      split
      · rfl
      · rw [if_neg (by assumption)] at h; omega
    refine xs_aload eX10_number_5 rfl ?_
    refine xs_callV0i eX10_number_6 (by assumption) (Nat.le_of_ble_eq_true rfl) (c_X10_next ht ⟨_, rfl, ?_⟩)
    refine xs_i2l eX10_number_9 ?_
    refine xs_KL eX10_number_10 ?_
    refine xs_KL eX10_number_13 ?_
    refine xs_callS3i eX10_number_16 (Nat.le_of_ble_eq_true rfl) (c_X10_in (lo := nI 48) (hi := nI 57) rfl (by decide) (by decide) ⟨_, rfl, ?_⟩)
    rw [hdg]
    refine xs_ifeqB eX10_number_19 (fun h19 => ?_) (fun h19 => ?_)
    · exact k2 (Or.inr h19)
    · refine xs_iload eX10_number_22 rfl ?_
      refine xs_K eX10_number_24 ?_
      refine xs_N_ge eX10_number_25 (by omega) (by omega) (fun h25 => ?_) (fun h25 => ?_)
      · exact k2 (Or.inl (by omega))
      · refine xs_K eX10_number_28 ?_
        refine xs_iload eX10_number_30 rfl ?_
        refine xs_imul eX10_number_31 ?_
        refine xs_eq1 (pk_mul 10 v) ?_
        refine xs_aload eX10_number_32 rfl ?_
        refine xs_callV0i eX10_number_33 (by assumption) (Nat.le_of_ble_eq_true rfl) (c_X10_next ht ⟨_, rfl, ?_⟩)
        refine xs_eq1 (hnx h19).1 ?_
        refine xs_iadd eX10_number_36 ?_
        refine xs_eq1 (nI_add _ _) ?_
        refine xs_K eX10_number_37 ?_
        refine xs_isub eX10_number_39 ?_
        refine xs_eq1 (z := nI (10 * v + (ltr t len q - 48))) (by rw [pk_sub (by have := (hnx h19).2; omega), Nat.add_sub_assoc (hnx h19).2]) ?_
        refine xs_istore eX10_number_40 (Nat.le_of_ble_eq_true rfl) rfl rfl ?_
        refine xs_inc1 eX10_number_41 rfl rfl rfl ?_
        refine xs_aload eX10_number_44 rfl ?_
        refine xs_dup eX10_number_45 rfl ?_
        refine xs_getI eX10_number_46 (by assumption) (by rfl) ?_
        refine xs_eq1 e14 ?_
        refine xs_K eX10_number_49 ?_
        refine xs_iadd eX10_number_50 ?_
        refine xs_eq1 (nI_add q 1) ?_
        refine xs_putI eX10_number_51 (by assumption) (by rfl) rfl rfl ?_
        refine xs_eqM rdM_at ?_
        refine xs_goto eX10_number_54 ?_
        exact k1 h25 h19
  refine xC_intro [some (.ref (G.1 + 156)), some (.int lo), some (.int hi), none, none] rfl (by decide) (Nat.le_of_ble_eq_true rfl) ?_
  refine xs_K eX10_number_0 ?_
  refine xs_istore eX10_number_1 (Nat.le_of_ble_eq_true rfl) rfl rfl ?_
  refine xs_K eX10_number_2 ?_
  refine xs_istore eX10_number_3 (Nat.le_of_ble_eq_true rfl) rfl rfl ?_
  have dle : ∀ q, isDg (ltr t len q) = true → ltr t len q - 48 ≤ 9 := fun q h => by
    unfold isDg at h
    simp only [Bool.and_eq_true, decide_eq_true_eq] at h
    omega
  refine LP pl 0 0 rfl (by omega) (by omega) (fun _ d0 => ?_) (fun h => K57 pl 0 0 (by omega) (by omega) (fun _ => Or.inl (by rw [numAt, if_neg (by rw [h.resolve_left (by omega)]; decide)])) (fun h => by omega))
  have b0 := dle _ d0
  refine LP (pl + 1) _ 1 rfl (by omega) (by omega) (fun _ d1 => ?_) (fun h => K57 (pl + 1) _ 1 (by omega) (by omega) (fun h => by omega) (fun _ => ⟨by rw [numAt, if_pos d0, if_neg (by rw [h.resolve_left (by omega)]; decide)]; simp, h.resolve_left (by omega)⟩))
  have b1 := dle _ d1
  have en : numAt (ltr t len) pl = (some (10 * (10 * 0 + (ltr t len pl - 48)) + (ltr t len (pl + 1) - 48)), pl + 2) := by rw [numAt, if_pos d0, if_pos d1]; congr 2; omega
  refine LP (pl + 2) _ 2 rfl (by omega) (by omega) (fun _ d2 => ?_) (fun h => K57 (pl + 2) _ 2 (by omega) (by omega) (fun h => by omega) (fun _ => ⟨en, h.resolve_left (by omega)⟩))
  have b2 := dle _ d2
  exact LP (pl + 3) _ 3 rfl (by omega) (by omega) (fun h => by omega) (fun _ => K57 (pl + 3) _ 3 (by omega) (by omega) (fun _ => Or.inr (Or.inl (by rw [en]; exact d2))) (fun h => by omega))
theorem c_X10_more {lo hi : Int32} (ht : isTm M t len) (hp : pl < 900) (hg : ∀ v, wr = false → ltr t len pl = 44 → (numAt (ltr t len) (pl + 1)).1 = some v → isDg (ltr t len (numAt (ltr t len) (pl + 1)).2) = false → wiB (nI v) lo hi = true → Q (some (.int (nI v))) SF (rdM M (numAt (ltr t len) (pl + 1)).2 false)) (hb : ∀ q, q ≤ pl + 4 → (wr = true ∨ ltr t len pl ≠ 44 ∨ badN (ltr t len) (pl + 1) lo hi) → Q (some (.int (nI 0))) SF (rdM M q true)) : xC G mX10_more (d + 2) 0 0 [.ref (G.1 + 156), .int lo, .int hi] SF (rdM M pl wr) Q := by
  have s0 := sh156
  have e0 : rdM M pl wr 156 16 = bI wr := by rw [rdM_f]; rfl
  have hnx := nx_eq (pl := pl) (c := 44) ht (by decide) (by decide)
  have e14 : ∀ x, rdM M pl x 156 14 = nI pl := fun x => by rw [rdM_f]; rfl
  have e16 : ∀ x, rdM M (pl + 1) x 156 16 = bI x := fun x => by rw [rdM_f]; rfl
  refine xC_intro [some (.ref (G.1 + 156)), some (.int lo), some (.int hi)] rfl (by decide) (Nat.le_of_ble_eq_true rfl) ?_
  have K17 : (wr = true ∨ ltr t len pl ≠ 44) → xW G mX10_more (d + 2) 0 0 Q 17 [some (.ref (G.1 + 156)), some (.int lo), some (.int hi)] [.ref (G.1 + 156)] SF (rdM M pl wr) := by
    intro h
    have h9 := hb (pl + 1) (by omega) (h.elim Or.inl (fun h => Or.inr (Or.inl h)))
    refine xs_K eX10_more_17 ?_
    refine xs_goto eX10_more_18 ?_
    refine xs_putI eX10_more_22 (by assumption) (by rfl) (bI_nar true) (bI_fit true) ?_
    refine xs_eqM rdM_w1 ?_
    refine xs_aload eX10_more_25 rfl ?_
    refine xs_dup eX10_more_26 rfl ?_
    refine xs_getI eX10_more_27 (by assumption) (by rfl) ?_
    refine xs_eq1 (e14 _) ?_
    refine xs_K eX10_more_30 ?_
    refine xs_iadd eX10_more_31 ?_
    refine xs_eq1 (nI_add pl 1) ?_
    refine xs_putI eX10_more_32 (by assumption) (by rfl) rfl rfl ?_
    refine xs_eqM rdM_at ?_
    refine xs_aload eX10_more_35 rfl ?_
    refine xs_getI eX10_more_36 (by assumption) (by rfl) ?_
    refine xs_eq1 (e16 true) ?_
    refine xs_ifeqB eX10_more_39 (fun h => absurd h (by decide)) (fun h39 => ?_)
    refine xs_K eX10_more_42 ?_
    refine xs_goto eX10_more_43 ?_
    exact xs_iretI eX10_more_52 rfl (h9)
  refine xs_aload eX10_more_0 rfl ?_
  refine xs_aload eX10_more_1 rfl ?_
  refine xs_getI eX10_more_2 (by assumption) (by rfl) ?_
  refine xs_eq1 e0 ?_
  refine xs_ifneB eX10_more_5 (fun h5 => ?_) (fun h5 => ?_)
  · exact K17 (Or.inl h5)
  · refine xs_aload eX10_more_8 rfl ?_
    refine xs_callV0i eX10_more_9 (by assumption) (Nat.le_of_ble_eq_true rfl) (c_X10_next ht ⟨_, rfl, ?_⟩)
    refine xs_K eX10_more_12 ?_
    refine xs_icmp_eq eX10_more_14 (fun h14 => ?_) (fun h14 => ?_)
    · refine xs_K eX10_more_21 ?_
      refine xs_putI eX10_more_22 (by assumption) (by rfl) (bI_nar false) (bI_fit false) ?_
      refine xs_eqM rdM_w0 ?_
      refine xs_aload eX10_more_25 rfl ?_
      refine xs_dup eX10_more_26 rfl ?_
      refine xs_getI eX10_more_27 (by assumption) (by rfl) ?_
      refine xs_eq1 (e14 _) ?_
      refine xs_K eX10_more_30 ?_
      refine xs_iadd eX10_more_31 ?_
      refine xs_eq1 (nI_add pl 1) ?_
      refine xs_putI eX10_more_32 (by assumption) (by rfl) rfl rfl ?_
      refine xs_eqM rdM_at ?_
      refine xs_aload eX10_more_35 rfl ?_
      refine xs_getI eX10_more_36 (by assumption) (by rfl) ?_
      refine xs_eq1 (e16 false) ?_
      refine xs_ifeqB eX10_more_39 (fun h39 => ?_) (fun h => by cases h)
      refine xs_aload eX10_more_46 rfl ?_
      refine xs_iload eX10_more_47 rfl ?_
      refine xs_iload eX10_more_48 rfl ?_
      refine xs_callV2i eX10_more_49 (by assumption) (Nat.le_of_ble_eq_true rfl) (c_X10_number (wr := false) ht (by omega) (fun v g1 g2 g3 g4 => ⟨_, rfl, ?_⟩) (fun q h1 h2 => ⟨_, rfl, ?_⟩))
      · exact xs_iretI eX10_more_52 rfl (hg v h5 (hnx.mp h14) g2 g3 g4)
      · exact xs_iretI eX10_more_52 rfl (hb q (by omega) (Or.inr (Or.inr (h2.resolve_left (by decide)))))
    · exact K17 (Or.inr (fun q => h14 (hnx.mpr q)))
end RD

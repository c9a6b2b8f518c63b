/-! Reader (cell 3, its numbers 4; the scroll 1, its letters 2): numbers, items, a whole text -/
def ltr (t : Nat → Nat) (len pl : Nat) : Nat := if pl < len then t pl else 0
def isTx (M : xMem) (t : Nat → Nat) (len : Nat) : Prop := M 1 1 = nI len ∧ len ≤ 200 ∧ ∀ j, j < len → M 2 j = nI (t j) ∧ 32 ≤ t j ∧ t j ≤ 126
theorem isTx_keep {M M1 : xMem} {t : Nat → Nat} {len : Nat} (h : isTx M t len) (h1 : M1 1 = M 1) (h2 : M1 2 = M 2) : isTx M1 t len := by
  obtain ⟨a1, a2, a3⟩ := h
  exact ⟨by rw [h1]; exact a1, a2, fun j hj => by rw [h2]; exact a3 j hj⟩
theorem ltr_le {M : xMem} {t : Nat → Nat} {len : Nat} (h : isTx M t len) (pl : Nat) : ltr t len pl ≤ 126 := by
  unfold ltr
  split
  · exact (h.2.2 pl ‹_›).2.2
  · omega
theorem ltr_letA {M : xMem} {t : Nat → Nat} {len : Nat} (h : isTx M t len) (pl : Nat) : letA (M 2) len pl = nI (ltr t len pl) := by
  unfold letA ltr
  split
  · exact (h.2.2 pl ‹_›).1
  · rfl
def isDg (ch : Nat) : Bool := decide (48 ≤ ch) && decide (ch ≤ 57)
/-- a number from a place on: its value, where it ends -/
def numAt (l : Nat → Nat) (pl : Nat) : Option Nat × Nat := if isDg (l pl) then (if isDg (l (pl + 1)) then (some ((l pl - 48) * 10 + (l (pl + 1) - 48)), pl + 2) else (some (l pl - 48), pl + 1)) else (none, pl)
theorem numAt_lt {l : Nat → Nat} {pl : Nat} (hl : ∀ j, l j ≤ 126) : ∀ v, (numAt l pl).1 = some v → v < 100 := by
  intro v h
  unfold numAt at h
  by_cases h1 : isDg (l pl) = true
  · simp only [isDg, Bool.and_eq_true, decide_eq_true_eq] at h1
    by_cases h2 : isDg (l (pl + 1)) = true
    · simp [isDg, h1] at h h2
      rw [if_pos (by omega)] at h
      simp at h
      omega
    · simp only [isDg, Bool.and_eq_true, decide_eq_true_eq] at h2
      simp [isDg, h1] at h
      rw [if_neg (by omega)] at h
      simp at h
      omega
  · simp [h1] at h
theorem numAt_le {l : Nat → Nat} {pl : Nat} : pl ≤ (numAt l pl).2 ∧ (numAt l pl).2 ≤ pl + 2 := by
  unfold numAt
  split
  · split <;> simp
  · simp
def optI (o : Option Nat) : Int32 := match o with
  | none => (-4)
  | some v => nI v
section RD
variable {G : xGl} {d c pl len nv np : Nat} {t : Nat → Nat} {M : xMem} {Q : Option Value → List xSh → xMem → Prop}
theorem c_letterAt (ht : isTx M t len) (hp : pl < 2000) (hQ : Q (some (.int (nI (ltr t len pl)))) SF M) : xC G mX6_letterAt d 0 0 [.ref (G.1 + 1), .int (nI pl)] SF M Q :=
  c_X6_letterAt ht.1 ht.2.1 hp (fun j hj => by rw [(ht.2.2 j hj).1]; exact (pk_charN (by have := (ht.2.2 j hj).2.2; omega)).1) (by rw [ltr_letA ht]; exact hQ)
theorem c_X5_readNumber (ht : isTx M t len) (hp : M 3 1 = nI pl) (hp2 : pl < 1000) (hQ : Q (some (.int (optI (numAt (ltr t len) pl).1))) SF (up2 M 3 1 (nI (numAt (ltr t len) pl).2))) : xC G mX5_readNumber (d + 1) 0 0 [.ref (G.1 + 3), .ref (G.1 + 1)] SF M Q := by
  have s1 := sh1
  have s3 := sh3
  have hl := ltr_le ht
  have l1 := hl pl
  have l2 := hl (pl + 1)
  have e0 : up2 M 3 1 (nI pl) = M := by
    funext a i
    by_cases q : a = 3 ∧ i = 1
    · rw [q.1, q.2, hp]; simp [up2]
    · simp [up2, q]
  refine xC_intro [some (.ref (G.1 + 3)), some (.ref (G.1 + 1)), none, none, none] rfl (by decide) (Nat.le_of_ble_eq_true rfl) ?_
  have K2 : ∀ (M1 : xMem) (y : Int32), Q (some (.int y)) SF M1 → xW G mX5_readNumber (d + 1) 0 0 Q 5 [some (.ref (G.1 + 3)), some (.ref (G.1 + 1)), some (.int y), some (.int (nI 2)), none] [] SF M1 := by
    intro M1 y hq
    refine xs_iload eX5_readNumber_5 rfl ?_
    refine xs_K eX5_readNumber_6 ?_
    refine xs_N_ge eX5_readNumber_7 (by omega) (by omega) (fun h7 => ?_) (fun h => absurd h (by omega))
    refine xs_iload eX5_readNumber_71 rfl ?_
    exact xs_iretI eX5_readNumber_72 rfl (hq)
  have K1 : isDg (ltr t len pl) = true → xW G mX5_readNumber (d + 1) 0 0 Q 5 [some (.ref (G.1 + 3)), some (.ref (G.1 + 1)), some (.int (nI (ltr t len pl - 48))), some (.int (nI 1)), none] [] SF (up2 M 3 1 (nI (pl + 1))) := by
    intro hd
    have ht1 : isTx (up2 M 3 1 (nI (pl + 1))) t len := isTx_keep ht (up2_ne (by decide)) (up2_ne (by decide))
    have hp1 : up2 M 3 1 (nI (pl + 1)) 3 1 = nI (pl + 1) := by simp [up2]
    have e1 : up2 (up2 M 3 1 (nI (pl + 1))) 3 1 (nI (pl + 2)) = up2 M 3 1 (nI (pl + 2)) := by
      funext a i
      by_cases q : a = 3 ∧ i = 1 <;> simp [up2, q]
    simp only [isDg, Bool.and_eq_true, decide_eq_true_eq] at hd
    have f1 : isDg (ltr t len pl) = true := by simp [isDg]; omega
    refine xs_iload eX5_readNumber_5 rfl ?_
    refine xs_K eX5_readNumber_6 ?_
    refine xs_N_ge eX5_readNumber_7 (by omega) (by omega) (fun h => absurd h (by omega)) (fun h7 => ?_)
    refine xs_aload eX5_readNumber_10 rfl ?_
    refine xs_aload eX5_readNumber_11 rfl ?_
    refine xs_getI eX5_readNumber_12 (by assumption) (by rfl) ?_
    refine xs_eq1 hp1 ?_
    refine xs_callV1i eX5_readNumber_15 (by assumption) (Nat.le_of_ble_eq_true rfl) (c_letterAt (by assumption) (by omega) ⟨_, rfl, ?_⟩)
    refine xs_istore eX5_readNumber_18 (Nat.le_of_ble_eq_true rfl) rfl rfl ?_
    refine xs_iload eX5_readNumber_20 rfl ?_
    refine xs_K eX5_readNumber_22 ?_
    refine xs_N_lt eX5_readNumber_24 (by omega) (by omega) (fun h24 => ?_) (fun h24 => ?_)
    · refine xs_iload eX5_readNumber_34 rfl ?_
      exact xs_iretI eX5_readNumber_35 rfl (by rw [numAt, if_pos f1, if_neg (by simp [isDg]; omega)] at hQ; exact hQ)
    · refine xs_iload eX5_readNumber_27 rfl ?_
      refine xs_K eX5_readNumber_29 ?_
      refine xs_N_le eX5_readNumber_31 (by omega) (by omega) (fun h31 => ?_) (fun h31 => ?_)
      · refine xs_iload eX5_readNumber_36 rfl ?_
        refine xs_N0_ne eX5_readNumber_37 (by omega) (fun h37 => ?_) (fun h => absurd h (by omega))
        refine xs_iload eX5_readNumber_44 rfl ?_
        refine xs_K eX5_readNumber_45 ?_
        refine xs_imul eX5_readNumber_47 ?_
        refine xs_eq1 (pk_mul _ _) ?_
        refine xs_iload eX5_readNumber_48 rfl ?_
        refine xs_K eX5_readNumber_50 ?_
        refine xs_isub eX5_readNumber_52 ?_
        refine xs_eq1 (pk_sub (by omega)) ?_
        refine xs_iadd eX5_readNumber_53 ?_
        refine xs_eq1 (nI_add _ _) ?_
        refine xs_istore eX5_readNumber_54 (Nat.le_of_ble_eq_true rfl) rfl rfl ?_
        refine xs_aload eX5_readNumber_55 rfl ?_
        refine xs_dup eX5_readNumber_56 rfl ?_
        refine xs_getI eX5_readNumber_57 (by assumption) (by rfl) ?_
        refine xs_eq1 hp1 ?_
        refine xs_K eX5_readNumber_60 ?_
        refine xs_iadd eX5_readNumber_61 ?_
        refine xs_eq1 (nI_add (pl + 1) 1) ?_
        refine xs_putI eX5_readNumber_62 (by assumption) (by rfl) rfl rfl ?_
        refine xs_inc1 eX5_readNumber_65 rfl rfl rfl ?_
        refine xs_goto eX5_readNumber_68 ?_
        refine xs_kill 4 rfl ?_
        refine K2 _ _ ?_
        have f2 : isDg (ltr t len (pl + 1)) = true := by simp [isDg]; omega
        rw [numAt, if_pos f1, if_pos f2] at hQ
        rw [e1]
        exact hQ
      · refine xs_iload eX5_readNumber_34 rfl ?_
        exact xs_iretI eX5_readNumber_35 rfl (by rw [numAt, if_pos f1, if_neg (by simp [isDg]; omega)] at hQ; exact hQ)
  refine xs_K eX5_readNumber_0 ?_
  refine xs_istore eX5_readNumber_2 (Nat.le_of_ble_eq_true rfl) rfl rfl ?_
  refine xs_K eX5_readNumber_3 ?_
  refine xs_istore eX5_readNumber_4 (Nat.le_of_ble_eq_true rfl) rfl rfl ?_
  refine xs_iload eX5_readNumber_5 rfl ?_
  refine xs_K eX5_readNumber_6 ?_
  refine xs_N_ge eX5_readNumber_7 (by omega) (by omega) (fun h => absurd h (by omega)) (fun h7 => ?_)
  refine xs_aload eX5_readNumber_10 rfl ?_
  refine xs_aload eX5_readNumber_11 rfl ?_
  refine xs_getI eX5_readNumber_12 (by assumption) (by rfl) ?_
  refine xs_eq1 hp ?_
  refine xs_callV1i eX5_readNumber_15 (by assumption) (Nat.le_of_ble_eq_true rfl) (c_letterAt (by assumption) (by omega) ⟨_, rfl, ?_⟩)
  refine xs_istore eX5_readNumber_18 (Nat.le_of_ble_eq_true rfl) rfl rfl ?_
  refine xs_iload eX5_readNumber_20 rfl ?_
  refine xs_K eX5_readNumber_22 ?_
  refine xs_N_lt eX5_readNumber_24 (by omega) (by omega) (fun h24 => ?_) (fun h24 => ?_)
  · refine xs_iload eX5_readNumber_34 rfl ?_
    exact xs_iretI eX5_readNumber_35 rfl (by rw [numAt, if_neg (by simp [isDg]; omega)] at hQ; simp only [optI] at hQ; rw [e0] at hQ; exact hQ)
  · refine xs_iload eX5_readNumber_27 rfl ?_
    refine xs_K eX5_readNumber_29 ?_
    refine xs_N_le eX5_readNumber_31 (by omega) (by omega) (fun h31 => ?_) (fun h31 => ?_)
    · refine xs_iload eX5_readNumber_36 rfl ?_
      refine xs_N0_ne eX5_readNumber_37 (by omega) (fun h => absurd h (by omega)) (fun h37 => ?_)
      refine xs_K eX5_readNumber_40 ?_
      refine xs_goto eX5_readNumber_41 ?_
      refine xs_iload eX5_readNumber_48 rfl ?_
      refine xs_K eX5_readNumber_50 ?_
      refine xs_isub eX5_readNumber_52 ?_
      refine xs_eq1 (pk_sub (by omega)) ?_
      refine xs_iadd eX5_readNumber_53 ?_
      refine xs_eq1 (nI_add 0 _) ?_
      rw [Nat.zero_add]
      refine xs_istore eX5_readNumber_54 (Nat.le_of_ble_eq_true rfl) rfl rfl ?_
      refine xs_aload eX5_readNumber_55 rfl ?_
      refine xs_dup eX5_readNumber_56 rfl ?_
      refine xs_getI eX5_readNumber_57 (by assumption) (by rfl) ?_
      refine xs_eq1 hp ?_
      refine xs_K eX5_readNumber_60 ?_
      refine xs_iadd eX5_readNumber_61 ?_
      refine xs_eq1 (nI_add pl 1) ?_
      refine xs_putI eX5_readNumber_62 (by assumption) (by rfl) rfl rfl ?_
      refine xs_inc1 eX5_readNumber_65 rfl rfl rfl ?_
      refine xs_goto eX5_readNumber_68 ?_
      refine xs_kill 4 rfl ?_
      exact K1 (by simp [isDg]; omega)
    · refine xs_iload eX5_readNumber_34 rfl ?_
      exact xs_iretI eX5_readNumber_35 rfl (by rw [numAt, if_neg (by simp [isDg]; omega)] at hQ; simp only [optI] at hQ; rw [e0] at hQ; exact hQ)
/-- numbers behind one another, parted by , and a ; behind the last one -/
def numsAt (l : Nat → Nat) : Nat → Nat → Option (List Nat × Nat)
  | 0, pl => some ([], pl)
  | r + 1, pl => match (numAt l pl).1 with
    | none => none
    | some v => if l (numAt l pl).2 = (if r = 0 then 59 else 44) then (numsAt l r ((numAt l pl).2 + 1)).map (fun q => (v :: q.1, q.2)) else none
/-- but for the reader's own cells -/
def offR (M M1 : xMem) : Prop := ∀ a, a ≠ 3 → a ≠ 4 → M1 a = M a
def numsP (l : Nat → Nat) (i r pl : Nat) (M M1 : xMem) : Prop := offR M M1 ∧ ∀ q, numsAt l r pl = some q → M1 3 1 = nI q.2 ∧ (∀ j, j < i → M1 4 j = M 4 j) ∧ ∀ j v, q.1[j]? = some v → M1 4 (i + j) = nI v
theorem numsAt_le {l : Nat → Nat} : ∀ {r pl : Nat} {q : List Nat × Nat}, numsAt l r pl = some q → pl + r ≤ q.2 ∧ q.2 ≤ pl + 3 * r ∧ q.1.length = r ∧ ((∀ j, l j ≤ 126) → ∀ v ∈ q.1, v < 100)
  | 0, pl, q, h => by
    cases h
    simp
  | r + 1, pl, q, h => by
    unfold numsAt at h
    have hl := numAt_le (l := l) (pl := pl)
    cases hn : (numAt l pl).1 with
    | none => rw [hn] at h; cases h
    | some v =>
      rw [hn] at h
      simp only at h
      generalize (if r = 0 then 59 else 44) = ec at h
      by_cases he : l (numAt l pl).2 = ec
      · rw [if_pos he] at h
        cases hs : numsAt l r ((numAt l pl).2 + 1) with
        | none => rw [hs] at h; cases h
        | some q1 =>
          rw [hs] at h
          simp at h
          have ih := numsAt_le hs
          subst h
          refine ⟨by show pl + (r + 1) ≤ q1.2; omega, by show q1.2 ≤ _; omega, by simp; exact ih.2.2.1, fun hh w hw => ?_⟩
          rcases List.mem_cons.mp hw with rfl | hw
          · exact numAt_lt hh _ hn
          · exact ih.2.2.2 hh w hw
      · rw [if_neg he] at h
        cases h
theorem c_X5_readNumbers {w : Nat} (ht : isTx M t len) (hp : M 3 1 = nI pl) (hp2 : pl < 900) (hw : w ≤ 3) (hQ : ∀ M1, numsP (ltr t len) 0 w pl M M1 → Q (some (.int (bI (numsAt (ltr t len) w pl).isSome))) SF M1) : xC G mX5_readNumbers (d + 2) 0 0 [.ref (G.1 + 3), .ref (G.1 + 1), .int (nI w)] SF M Q := by
  have s1 := sh1
  have s3 := sh3
  have s4 := sh4
  have hl := ltr_le ht
  refine xC_intro [some (.ref (G.1 + 3)), some (.ref (G.1 + 1)), some (.int (nI w)), none, none] rfl (by decide) (Nat.le_of_ble_eq_true rfl) ?_
  refine xs_K eX5_readNumbers_0 ?_
  refine xs_istore eX5_readNumbers_1 (Nat.le_of_ble_eq_true rfl) rfl rfl ?_
  refine dn (P := fun i => ∀ (M1 : xMem) (pl : Nat), pl < 900 + 5 * i → offR M M1 → M1 3 1 = nI pl → (∀ M2, numsP (ltr t len) i (w - i) pl M1 M2 → Q (some (.int (bI (numsAt (ltr t len) (w - i) pl).isSome))) SF M2) → xW G mX5_readNumbers (d + 2) 0 0 Q 2 [some (.ref (G.1 + 3)), some (.ref (G.1 + 1)), some (.int (nI w)), some (.int (nI i)), none] [] SF M1) w ?_ ?_ 0 (Nat.zero_le _) M pl (by omega) (fun _ _ _ => rfl) hp hQ
  · intro M1 pl hpl ho hp1 hq
    have hq1 := hq M1 ⟨fun _ _ _ => rfl, fun q h => by
      rw [Nat.sub_self] at h
      cases h
      exact ⟨hp1, fun _ _ => rfl, fun j v h => by simp at h⟩⟩
    rw [Nat.sub_self] at hq1
    refine xs_iload eX5_readNumbers_2 rfl ?_
    refine xs_iload eX5_readNumbers_3 rfl ?_
    refine xs_N_ge eX5_readNumbers_4 (by omega) (by omega) (fun h4 => ?_) (fun h => absurd h (by omega))
    refine xs_K eX5_readNumbers_85 ?_
    exact xs_iret eX5_readNumbers_86 rfl (by first | exact bI_nar _ | rfl) (hq1)
  · intro i hi ih M1 pl hpl ho hp1 hq
    have ht1 : isTx M1 t len := isTx_keep ht (ho 1 (by decide) (by decide)) (ho 2 (by decide) (by decide))
    have hle := numAt_le (l := ltr t len) (pl := pl)
    have hlt := numAt_lt (l := ltr t len) (pl := pl) hl
    have hll := hl (numAt (ltr t len) pl).2
    rw [show w - i = (w - (i + 1)) + 1 by omega] at hq
    generalize hM3 : up2 (up2 M1 3 1 (nI (numAt (ltr t len) pl).2)) 4 i (optI (numAt (ltr t len) pl).1) = M3
    have o3 : offR M1 M3 := fun a q1 q2 => by rw [← hM3, up2_ne q2, up2_ne q1]
    have ht3 : isTx M3 t len := isTx_keep ht1 (o3 1 (by decide) (by decide)) (o3 2 (by decide) (by decide))
    have p3 : M3 3 1 = nI (numAt (ltr t len) pl).2 := by rw [← hM3]; simp [up2]
    have v3 : M3 4 i = optI (numAt (ltr t len) pl).1 := by rw [← hM3]; simp [up2]
    have w3 : ∀ j, j < i → M3 4 j = M1 4 j := fun j hj => by rw [← hM3]; simp [up2]; omega
    have K : ∀ ch : Nat, ch = (if w - (i + 1) = 0 then 59 else 44) → xW G mX5_readNumbers (d + 2) 0 0 Q 41 [some (.ref (G.1 + 3)), some (.ref (G.1 + 1)), some (.int (nI w)), some (.int (nI i)), none] [.int (nI ch)] SF M3 := by
      intro ch hch
      have hch2 : ch < 100 := by rw [hch]; split <;> decide
      have bad : numsAt (ltr t len) (w - (i + 1) + 1) pl = none → Q (some (.int (nI 0))) SF M3 := by
        intro hb
        have := hq M3 ⟨o3, fun q h => by rw [hb] at h; cases h⟩
        rw [hb] at this
        exact this
      cases hv : (numAt (ltr t len) pl).1 with
      | none =>
        rw [hv] at v3
        have bad := bad (by rw [numsAt, hv])
        refine xs_istore eX5_readNumbers_41 (Nat.le_of_ble_eq_true rfl) rfl rfl ?_
        refine xs_aload eX5_readNumbers_43 rfl ?_
        refine xs_getR eX5_readNumbers_44 (by assumption) (by rfl) ?_
        refine xs_iload eX5_readNumbers_47 rfl ?_
        refine xs_iald eX5_readNumbers_48 (by assumption) (by omega) (by decide) ?_
        refine xs_eq1 v3 ?_
        refine xs_K eX5_readNumbers_49 ?_
        refine xs_icmp_eq eX5_readNumbers_51 (fun h51 => ?_) (fun h => absurd (rfl) h)
        refine xs_K eX5_readNumbers_67 ?_
        exact xs_iret eX5_readNumbers_68 rfl (by first | exact bI_nar _ | rfl) (bad)
      | some v =>
        rw [hv] at v3
        have hv100 := hlt v hv
        refine xs_istore eX5_readNumbers_41 (Nat.le_of_ble_eq_true rfl) rfl rfl ?_
        refine xs_aload eX5_readNumbers_43 rfl ?_
        refine xs_getR eX5_readNumbers_44 (by assumption) (by rfl) ?_
        refine xs_iload eX5_readNumbers_47 rfl ?_
        refine xs_iald eX5_readNumbers_48 (by assumption) (by omega) (by decide) ?_
        refine xs_eq1 v3 ?_
        refine xs_K eX5_readNumbers_49 ?_
        refine xs_icmp_eq eX5_readNumbers_51 (fun h => absurd h (fun h => absurd h (by have := nI_pos (n := v) (by omega); intro h2; rw [show optI (some v) = nI v from rfl] at h2; rw [h2] at this; exact this (by decide)))) (fun h51 => ?_)
        refine xs_aload eX5_readNumbers_54 rfl ?_
        refine xs_aload eX5_readNumbers_55 rfl ?_
        refine xs_getI eX5_readNumbers_56 (by assumption) (by rfl) ?_
        refine xs_eq1 p3 ?_
        refine xs_callV1i eX5_readNumbers_59 (by assumption) (Nat.le_of_ble_eq_true rfl) (c_letterAt (by assumption) (by omega) ⟨_, rfl, ?_⟩)
        refine xs_iload eX5_readNumbers_62 rfl ?_
        refine xs_N_eq eX5_readNumbers_64 (by omega) (by omega) (fun h64 => ?_) (fun h64 => ?_)
        · refine xs_aload eX5_readNumbers_69 rfl ?_
          refine xs_dup eX5_readNumbers_70 rfl ?_
          refine xs_getI eX5_readNumbers_71 (by assumption) (by rfl) ?_
          refine xs_eq1 p3 ?_
          refine xs_K eX5_readNumbers_74 ?_
          refine xs_iadd eX5_readNumbers_75 ?_
          refine xs_eq1 (nI_add _ 1) ?_
          refine xs_putI eX5_readNumbers_76 (by assumption) (by rfl) rfl rfl ?_
          refine xs_inc1 eX5_readNumbers_79 rfl rfl rfl ?_
          refine xs_goto eX5_readNumbers_82 ?_
          refine xs_kill 4 rfl ?_
          refine ih _ ((numAt (ltr t len) pl).2 + 1) (by omega) (fun a q1 q2 => by rw [up2_ne q1, o3 a q1 q2, ho a q1 q2]) (by simp [up2]) ?_
          intro M2 hM2
          have hs : numsAt (ltr t len) (w - (i + 1) + 1) pl = (numsAt (ltr t len) (w - (i + 1)) ((numAt (ltr t len) pl).2 + 1)).map (fun q => (v :: q.1, q.2)) := by rw [numsAt, hv]; simp only; rw [if_pos (by rw [← hch]; exact h64)]
          have h9 := hq M2 ⟨fun a q1 q2 => by rw [hM2.1 a q1 q2, up2_ne q1, o3 a q1 q2], fun q h => ?_⟩
          · rw [hs, Option.isSome_map] at h9
            exact h9
          · rw [hs, Option.map_eq_some_iff] at h
            obtain ⟨q1, g1, rfl⟩ := h
            obtain ⟨g2, g3, g4⟩ := hM2.2 q1 g1
            refine ⟨g2, fun j hj => by rw [g3 j (by omega), up2_ne (by decide), w3 j hj], fun j u hu => ?_⟩
            rcases j with _ | j
            · simp at hu
              subst hu
              rw [Nat.add_zero, g3 i (by omega), up2_ne (by decide), v3]
              rfl
            · rw [show i + (j + 1) = i + 1 + j by omega]
              exact g4 j u (by simpa using hu)
        · refine xs_K eX5_readNumbers_67 ?_
          exact xs_iret eX5_readNumbers_68 rfl (by first | exact bI_nar _ | rfl) (bad (by rw [numsAt, hv]; simp only; rw [if_neg (by rw [← hch]; exact h64)]))
    refine xs_iload eX5_readNumbers_2 rfl ?_
    refine xs_iload eX5_readNumbers_3 rfl ?_
    refine xs_N_ge eX5_readNumbers_4 (by omega) (by omega) (fun h => absurd h (by omega)) (fun h4 => ?_)
    refine xs_iload eX5_readNumbers_7 rfl ?_
    refine xs_aload eX5_readNumbers_8 rfl ?_
    refine xs_getR eX5_readNumbers_9 (by assumption) (by rfl) ?_
    refine xs_alenI eX5_readNumbers_12 (by assumption) ?_
    refine xs_N_ge eX5_readNumbers_13 (by omega) (by omega) (fun h => absurd h (by omega)) (fun h13 => ?_)
    refine xs_aload eX5_readNumbers_16 rfl ?_
    refine xs_getR eX5_readNumbers_17 (by assumption) (by rfl) ?_
    refine xs_iload eX5_readNumbers_20 rfl ?_
    refine xs_aload eX5_readNumbers_21 rfl ?_
    refine xs_aload eX5_readNumbers_22 rfl ?_
    refine xs_callV1i eX5_readNumbers_23 (by assumption) (Nat.le_of_ble_eq_true rfl) (c_X5_readNumber (by assumption) (by assumption) (by omega) ⟨_, rfl, ?_⟩)
    refine xs_iast eX5_readNumbers_26 (by assumption) (by omega) (by decide) ?_
    rw [hM3]
    refine xs_iload eX5_readNumbers_27 rfl ?_
    refine xs_iload eX5_readNumbers_28 rfl ?_
    refine xs_K eX5_readNumbers_29 ?_
    refine xs_isub eX5_readNumbers_30 ?_
    refine xs_eq1 (pk_sub (show 1 ≤ w by omega)) ?_
    refine xs_N_ne eX5_readNumbers_31 (by omega) (by omega) (fun h31 => ?_) (fun h31 => ?_)
    · refine xs_K eX5_readNumbers_39 ?_
      exact K 44 (by rw [if_neg (by omega)])
    · refine xs_K eX5_readNumbers_34 ?_
      refine xs_goto eX5_readNumbers_36 ?_
      exact K 59 (by rw [if_pos (by omega)])
/-- an item: its letter and numbers, where the next begins -/
def itemF (l : Nat → Nat) (nv np pl : Nat) : Option ((Nat × List Nat) × Nat) :=
  if l pl = 118 then (match numsAt l 2 (pl + 1) with
    | some ([k, o], q) => if okV nv k o then some ((118, [k, o]), q) else none
    | _ => none)
  else if l pl = 119 then (match numsAt l 3 (pl + 1) with
    | some ([a, b, y], q) => if okW nv a b y then some ((119, [a, b, y]), q) else none
    | _ => none)
  else if l pl = 112 then (match numsAt l 1 (pl + 1) with
    | some ([v], q) => if okP np nv v then some ((112, [v]), q) else none
    | _ => none)
  else none
/-- what an item does to a land -/
def itemM (M : xMem) (c nv np : Nat) (it : Nat × List Nat) : xMem :=
  if it.1 = 118 then villM M c nv (it.2.getD 0 0) (nI (it.2.getD 1 0)) else if it.1 = 119 then wayM M c (it.2.getD 0 0) (it.2.getD 1 0) (nI (it.2.getD 2 0)) else partM M c np (it.2.getD 0 0)
def itV (nv : Nat) (it : Nat × List Nat) : Nat := if it.1 = 118 then nv + 1 else nv
def itP (np : Nat) (it : Nat × List Nat) : Nat := if it.1 = 118 ∨ it.1 = 119 then np else np + 1
def itemP (l : Nat → Nat) (c nv np pl : Nat) (M M1 : xMem) : Prop := match itemF l nv np pl with
  | none => offR M M1
  | some (it, q) => offR (itemM M c nv np it) M1 ∧ M1 3 1 = nI q
theorem offR_up {M M1 : xMem} {c j : Nat} {y : Int32} (h : offR M M1) : offR (up2 M c j y) (up2 M1 c j y) := by
  intro a h1 h2
  by_cases q : a = c
  · subst q
    rw [up2_row, up2_row, h a h1 h2]
  · rw [up2_ne q, up2_ne q, h a h1 h2]
theorem offR_vill {M M1 : xMem} {c nv kd : Nat} {ox : Int32} (hc : isLd c) (h : offR M M1) : offR (villM M c nv kd ox) (villM M1 c nv kd ox) := by
  have h1 : M1 c = M c := h c (by rcases hc with rfl | rfl <;> decide) (by rcases hc with rfl | rfl <;> decide)
  unfold villM
  simp only [h1]
  split <;> exact offR_up (by first | exact offR_up (offR_up (offR_up h)) | exact offR_up (offR_up h))
theorem offR_way {M M1 : xMem} {c a b : Nat} {y : Int32} (hc : isLd c) (h : offR M M1) : offR (wayM M c a b y) (wayM M1 c a b y) := by
  have c34 : c + 4 ≠ 3 ∧ c + 4 ≠ 4 := by rcases hc with rfl | rfl <;> decide
  unfold wayM
  have k1 := offR_up (c := c + 6 + b) (j := a) (y := y) (offR_up (c := c + 6 + a) (j := b) (y := y) h)
  have e1 := h (c + 4) c34.1 c34.2
  have k2 := offR_up (c := c + 4) (j := a) (y := bon (M (c + 4) a) b) k1
  have e2 := k2 (c + 4) c34.1 c34.2
  simp only [e1]
  rw [e2]
  exact offR_up k2
theorem offR_part {M M1 : xMem} {c np v : Nat} (h : offR M M1) : offR (partM M c np v) (partM M1 c np v) := offR_up (offR_up h)
theorem offR_tr {M M1 M2 : xMem} (h : offR M M1) (h2 : offR M1 M2) : offR M M2 := fun a q1 q2 => (h2 a q1 q2).trans (h a q1 q2)
theorem itemF_v {l : Nat → Nat} {nv np pl : Nat} (h : l pl = 118) : itemF l nv np pl = (match numsAt l 2 (pl + 1) with
    | some ([k, o], q) => if okV nv k o then some ((118, [k, o]), q) else none
    | _ => none) := by rw [itemF, if_pos h]
theorem itemF_w {l : Nat → Nat} {nv np pl : Nat} (h : l pl = 119) : itemF l nv np pl = (match numsAt l 3 (pl + 1) with
    | some ([a, b, y], q) => if okW nv a b y then some ((119, [a, b, y]), q) else none
    | _ => none) := by rw [itemF, if_neg (by omega), if_pos h]
theorem itemF_p {l : Nat → Nat} {nv np pl : Nat} (h : l pl = 112) : itemF l nv np pl = (match numsAt l 1 (pl + 1) with
    | some ([v], q) => if okP np nv v then some ((112, [v]), q) else none
    | _ => none) := by rw [itemF, if_neg (by omega), if_neg (by omega), if_pos h]
theorem len1 {q : List Nat} (h : q.length = 1) : ∃ a, q = [a] := by
  match q, h with
  | [a], _ => exact ⟨a, rfl⟩
theorem len2 {q : List Nat} (h : q.length = 2) : ∃ a b, q = [a, b] := by
  match q, h with
  | [a, b], _ => exact ⟨a, b, rfl⟩
theorem len3 {q : List Nat} (h : q.length = 3) : ∃ a b e, q = [a, b, e] := by
  match q, h with
  | [a, b, e], _ => exact ⟨a, b, e, rfl⟩
theorem c_X5_readItem (ht : isTx M t len) (hp : M 3 1 = nI pl) (hp2 : pl < 800) (hc : isLd c) (hn : M c 5 = nI nv) (h7 : nv ≤ 7) (hnp : M c 6 = nI np) (h3 : np ≤ 3) (hQ : ∀ M1, itemP (ltr t len) c nv np pl M M1 → Q (some (.int (bI (itemF (ltr t len) nv np pl).isSome))) SF M1) : xC G mX5_readItem (d + 3) 0 0 [.ref (G.1 + 3), .ref (G.1 + 1), .ref (G.1 + c)] SF M Q := by
  have s1 := sh1
  have s3 := sh3
  have s4 := sh4
  have g0 := ld0 hc
  have c34 : c ≠ 3 ∧ c ≠ 4 ∧ c ≠ 1 ∧ c ≠ 2 := by rcases hc with rfl | rfl <;> decide
  have c5 : 5 ≤ c := by rcases hc with rfl | rfl <;> decide
  have hl := ltr_le ht
  have hl0 := hl pl
  have bad : itemF (ltr t len) nv np pl = none → ∀ M1, offR M M1 → Q (some (.int (nI 0))) SF M1 := by
    intro hb M1 ho
    have h9 := hQ M1 (by rw [itemP, hb]; exact ho)
    rw [hb] at h9
    exact h9
  have good : ∀ it q M1, itemF (ltr t len) nv np pl = some (it, q) → offR (itemM M c nv np it) M1 → M1 3 1 = nI q → Q (some (.int (nI 1))) SF M1 := by
    intro it q M1 hb ho hp1
    have h9 := hQ M1 (by rw [itemP, hb]; exact ⟨ho, hp1⟩)
    rw [hb] at h9
    exact h9
  refine xC_intro [some (.ref (G.1 + 3)), some (.ref (G.1 + 1)), some (.ref (G.1 + c)), none] rfl (by decide) (Nat.le_of_ble_eq_true rfl) ?_
  refine xs_aload eX5_readItem_0 rfl ?_
  refine xs_aload eX5_readItem_1 rfl ?_
  refine xs_getI eX5_readItem_2 (by assumption) (by rfl) ?_
  refine xs_eq1 hp ?_
  refine xs_callV1i eX5_readItem_5 (by assumption) (Nat.le_of_ble_eq_true rfl) (c_letterAt (by assumption) (by omega) ⟨_, rfl, ?_⟩)
  refine xs_istore eX5_readItem_8 (Nat.le_of_ble_eq_true rfl) rfl rfl ?_
  refine xs_aload eX5_readItem_9 rfl ?_
  refine xs_dup eX5_readItem_10 rfl ?_
  refine xs_getI eX5_readItem_11 (by assumption) (by rfl) ?_
  refine xs_eq1 hp ?_
  refine xs_K eX5_readItem_14 ?_
  refine xs_iadd eX5_readItem_15 ?_
  refine xs_eq1 (nI_add pl 1) ?_
  refine xs_putI eX5_readItem_16 (by assumption) (by rfl) rfl rfl ?_
  generalize hM1 : up2 M 3 1 (nI (pl + 1)) = M1
  have o1 : offR M M1 := fun a q1 q2 => by rw [← hM1, up2_ne q1]
  have ht1 : isTx M1 t len := isTx_keep ht (o1 1 (by decide) (by decide)) (o1 2 (by decide) (by decide))
  have hp1 : M1 3 1 = nI (pl + 1) := by rw [← hM1]; simp [up2]
  have hn1 : ∀ M2, offR M1 M2 → M2 c 5 = nI nv ∧ M2 c 6 = nI np := fun M2 h => by rw [h c c34.1 c34.2.1, o1 c c34.1 c34.2.1]; exact ⟨hn, hnp⟩
  refine xs_iload eX5_readItem_19 rfl ?_
  refine xs_K eX5_readItem_20 ?_
  refine xs_N_ne eX5_readItem_22 (by omega) (by omega) (fun h22 => ?_) (fun h22 => ?_)
  · refine xs_iload eX5_readItem_59 rfl ?_
    refine xs_K eX5_readItem_60 ?_
    refine xs_N_ne eX5_readItem_62 (by omega) (by omega) (fun h62 => ?_) (fun h62 => ?_)
    · refine xs_iload eX5_readItem_105 rfl ?_
      refine xs_K eX5_readItem_106 ?_
      refine xs_N_ne eX5_readItem_108 (by omega) (by omega) (fun h108 => ?_) (fun h108 => ?_)
      · refine xs_K eX5_readItem_137 ?_
        exact xs_iret eX5_readItem_138 rfl (by first | exact bI_nar _ | rfl) (bad (by rw [itemF, if_neg h22, if_neg h62, if_neg h108]) _ o1)
      · refine xs_aload eX5_readItem_111 rfl ?_
        refine xs_aload eX5_readItem_112 rfl ?_
        refine xs_K eX5_readItem_113 ?_
        refine xs_callV2i eX5_readItem_114 (by assumption) (Nat.le_of_ble_eq_true rfl) (c_X5_readNumbers (by assumption) (by assumption) (by omega) (by omega) (fun M2 hM2 => ⟨_, rfl, ?_⟩))
        refine xs_ifeqB eX5_readItem_117 (fun h117 => ?_) (fun h117 => ?_)
        · refine xs_K eX5_readItem_137 ?_
          exact xs_iret eX5_readItem_138 rfl (by first | exact bI_nar _ | rfl) (bad (by rw [itemF_p h108, Option.isSome_eq_false_iff.mp h117 |> Option.isNone_iff_eq_none.mp]) _ (offR_tr o1 hM2.1))
        · obtain ⟨⟨ls, q⟩, hs⟩ := Option.isSome_iff_exists.mp h117
          obtain ⟨v, e2⟩ := len1 (numsAt_le hs).2.2.1
          simp only at e2
          subst e2
          obtain ⟨g1, -, g2⟩ := hM2.2 _ hs
          have g3 := (numsAt_le hs).2.2.2 hl
          obtain ⟨n2, np2⟩ := hn1 M2 hM2.1
          have m0 : M2 4 0 = nI v := g2 0 v rfl
          have b0 := g3 v (by simp)
          refine xs_aload eX5_readItem_120 rfl ?_
          refine xs_aload eX5_readItem_121 rfl ?_
          refine xs_getR eX5_readItem_122 (by assumption) (by rfl) ?_
          refine xs_K eX5_readItem_125 ?_
          refine xs_iald eX5_readItem_126 (by assumption) (by omega) (by decide) ?_
          refine xs_eq1 m0 ?_
          refine xs_callV1i eX5_readItem_127 (by assumption) (Nat.le_of_ble_eq_true rfl) (c_X2_addParty (by assumption) (by assumption) (by omega) (by assumption) (by omega) (by omega) ⟨_, rfl, ?_⟩)
          refine xs_ifeqB eX5_readItem_130 (fun h130 => ?_) (fun h130 => ?_)
          · rw [if_neg (by rw [h130]; decide)]
            refine xs_K eX5_readItem_137 ?_
            exact xs_iret eX5_readItem_138 rfl (by first | exact bI_nar _ | rfl) (bad (by rw [itemF_p h108, hs]; simp only; rw [if_neg (by rw [h130]; decide)]) _ (offR_tr o1 hM2.1))
          · rw [if_pos h130]
            refine xs_K eX5_readItem_133 ?_
            refine xs_goto eX5_readItem_134 ?_
            exact xs_iret eX5_readItem_138 rfl (by first | exact bI_nar _ | rfl) (good (112, [v]) q _ (by rw [itemF_p h108, hs]; simp only; rw [if_pos h130]) (offR_part (offR_tr o1 hM2.1)) (by simp only [partM]; rw [up2_ne (by omega), up2_ne (by omega)]; exact g1))
    · refine xs_aload eX5_readItem_65 rfl ?_
      refine xs_aload eX5_readItem_66 rfl ?_
      refine xs_K eX5_readItem_67 ?_
      refine xs_callV2i eX5_readItem_68 (by assumption) (Nat.le_of_ble_eq_true rfl) (c_X5_readNumbers (by assumption) (by assumption) (by omega) (by omega) (fun M2 hM2 => ⟨_, rfl, ?_⟩))
      refine xs_ifeqB eX5_readItem_71 (fun h71 => ?_) (fun h71 => ?_)
      · refine xs_K eX5_readItem_103 ?_
        exact xs_iret eX5_readItem_104 rfl (by first | exact bI_nar _ | rfl) (bad (by rw [itemF_w h62, Option.isSome_eq_false_iff.mp h71 |> Option.isNone_iff_eq_none.mp]) _ (offR_tr o1 hM2.1))
      · obtain ⟨⟨ls, q⟩, hs⟩ := Option.isSome_iff_exists.mp h71
        obtain ⟨a, b, y, e2⟩ := len3 (numsAt_le hs).2.2.1
        simp only at e2
        subst e2
        obtain ⟨g1, -, g2⟩ := hM2.2 _ hs
        have g3 := (numsAt_le hs).2.2.2 hl
        obtain ⟨n2, np2⟩ := hn1 M2 hM2.1
        have m0 : M2 4 0 = nI a := g2 0 a rfl
        have b0 := g3 a (by simp)
        have m1 : M2 4 1 = nI b := g2 1 b rfl
        have b1 := g3 b (by simp)
        have m2 : M2 4 2 = nI y := g2 2 y rfl
        have b2 := g3 y (by simp)
        refine xs_aload eX5_readItem_74 rfl ?_
        refine xs_aload eX5_readItem_75 rfl ?_
        refine xs_getR eX5_readItem_76 (by assumption) (by rfl) ?_
        refine xs_K eX5_readItem_79 ?_
        refine xs_iald eX5_readItem_80 (by assumption) (by omega) (by decide) ?_
        refine xs_eq1 m0 ?_
        refine xs_aload eX5_readItem_81 rfl ?_
        refine xs_getR eX5_readItem_82 (by assumption) (by rfl) ?_
        refine xs_K eX5_readItem_85 ?_
        refine xs_iald eX5_readItem_86 (by assumption) (by omega) (by decide) ?_
        refine xs_eq1 m1 ?_
        refine xs_aload eX5_readItem_87 rfl ?_
        refine xs_getR eX5_readItem_88 (by assumption) (by rfl) ?_
        refine xs_K eX5_readItem_91 ?_
        refine xs_iald eX5_readItem_92 (by assumption) (by omega) (by decide) ?_
        refine xs_eq1 m2 ?_
        refine xs_callV3i eX5_readItem_93 (by assumption) (Nat.le_of_ble_eq_true rfl) (c_X2_addWay (by assumption) (by assumption) (by omega) (by omega) (by omega) (by omega) ⟨_, rfl, ?_⟩)
        refine xs_ifeqB eX5_readItem_96 (fun h96 => ?_) (fun h96 => ?_)
        · rw [if_neg (by rw [h96]; decide)]
          refine xs_K eX5_readItem_103 ?_
          exact xs_iret eX5_readItem_104 rfl (by first | exact bI_nar _ | rfl) (bad (by rw [itemF_w h62, hs]; simp only; rw [if_neg (by rw [h96]; decide)]) _ (offR_tr o1 hM2.1))
        · rw [if_pos h96]
          refine xs_K eX5_readItem_99 ?_
          refine xs_goto eX5_readItem_100 ?_
          exact xs_iret eX5_readItem_104 rfl (by first | exact bI_nar _ | rfl) (good (119, [a, b, y]) q _ (by rw [itemF_w h62, hs]; simp only; rw [if_pos h96]) (offR_way hc (offR_tr o1 hM2.1)) (by simp only [wayM]; rw [up2_ne (by omega), up2_ne (by omega), up2_ne (by omega), up2_ne (by omega)]; exact g1))
  · refine xs_aload eX5_readItem_25 rfl ?_
    refine xs_aload eX5_readItem_26 rfl ?_
    refine xs_K eX5_readItem_27 ?_
    refine xs_callV2i eX5_readItem_28 (by assumption) (Nat.le_of_ble_eq_true rfl) (c_X5_readNumbers (by assumption) (by assumption) (by omega) (by omega) (fun M2 hM2 => ⟨_, rfl, ?_⟩))
    refine xs_ifeqB eX5_readItem_31 (fun h31 => ?_) (fun h31 => ?_)
    · refine xs_K eX5_readItem_57 ?_
      exact xs_iret eX5_readItem_58 rfl (by first | exact bI_nar _ | rfl) (bad (by rw [itemF_v h22, Option.isSome_eq_false_iff.mp h31 |> Option.isNone_iff_eq_none.mp]) _ (offR_tr o1 hM2.1))
    · obtain ⟨⟨ls, q⟩, hs⟩ := Option.isSome_iff_exists.mp h31
      obtain ⟨k, o, e2⟩ := len2 (numsAt_le hs).2.2.1
      simp only at e2
      subst e2
      obtain ⟨g1, -, g2⟩ := hM2.2 _ hs
      have g3 := (numsAt_le hs).2.2.2 hl
      obtain ⟨n2, np2⟩ := hn1 M2 hM2.1
      have m0 : M2 4 0 = nI k := g2 0 k rfl
      have b0 := g3 k (by simp)
      have m1 : M2 4 1 = nI o := g2 1 o rfl
      have b1 := g3 o (by simp)
      refine xs_aload eX5_readItem_34 rfl ?_
      refine xs_aload eX5_readItem_35 rfl ?_
      refine xs_getR eX5_readItem_36 (by assumption) (by rfl) ?_
      refine xs_K eX5_readItem_39 ?_
      refine xs_iald eX5_readItem_40 (by assumption) (by omega) (by decide) ?_
      refine xs_eq1 m0 ?_
      refine xs_aload eX5_readItem_41 rfl ?_
      refine xs_getR eX5_readItem_42 (by assumption) (by rfl) ?_
      refine xs_K eX5_readItem_45 ?_
      refine xs_iald eX5_readItem_46 (by assumption) (by omega) (by decide) ?_
      refine xs_eq1 m1 ?_
      refine xs_callV2i eX5_readItem_47 (by assumption) (Nat.le_of_ble_eq_true rfl) (c_X2_addVillage (by assumption) (by assumption) (by omega) (by omega) (by omega) ⟨_, rfl, ?_⟩)
      refine xs_ifeqB eX5_readItem_50 (fun h50 => ?_) (fun h50 => ?_)
      · rw [if_neg (by rw [h50]; decide)]
        refine xs_K eX5_readItem_57 ?_
        exact xs_iret eX5_readItem_58 rfl (by first | exact bI_nar _ | rfl) (bad (by rw [itemF_v h22, hs]; simp only; rw [if_neg (by rw [h50]; decide)]) _ (offR_tr o1 hM2.1))
      · rw [if_pos h50]
        refine xs_K eX5_readItem_53 ?_
        refine xs_goto eX5_readItem_54 ?_
        exact xs_iret eX5_readItem_58 rfl (by first | exact bI_nar _ | rfl) (good (118, [k, o]) q _ (by rw [itemF_v h22, hs]; simp only; rw [if_pos h50]) (offR_vill hc (offR_tr o1 hM2.1)) (by simp only [villM]; rw [up2_ne (by omega)]; split <;> (first | rw [up2_ne (by omega), up2_ne (by omega), up2_ne (by omega)] | rw [up2_ne (by omega), up2_ne (by omega)]) <;> exact g1))
/-- a text, item by item: the items ahead of the first fault, where that is -/
def parseF (l : Nat → Nat) (len : Nat) : Nat → Nat → Nat → Nat → List (Nat × List Nat) × Option Nat
  | 0, _, _, _ => ([], none)
  | f + 1, nv, np, pl => if pl < len then (match itemF l nv np pl with
    | none => ([], some pl)
    | some (it, q) => (it :: (parseF l len f (itV nv it) (itP np it) q).1, (parseF l len f (itV nv it) (itP np it) q).2)) else ([], none)
def itemsM (c : Nat) : Nat → Nat → List (Nat × List Nat) → xMem → xMem
  | _, _, [], M => M
  | nv, np, it :: r, M => itemsM c (itV nv it) (itP np it) r (itemM M c nv np it)
theorem itemF_some {l : Nat → Nat} {nv np pl : Nat} {it : Nat × List Nat} {q : Nat} (hl : ∀ j, l j ≤ 126) (h : itemF l nv np pl = some (it, q)) : pl + 3 ≤ q ∧ q ≤ pl + 10 ∧ ((∃ k o, it = (118, [k, o]) ∧ nv < 7 ∧ k < 5 ∧ o < 61) ∨ (∃ a b y, it = (119, [a, b, y]) ∧ a < nv ∧ b < nv ∧ a ≠ b ∧ 1 ≤ y ∧ y ≤ 20) ∨ (∃ v, it = (112, [v]) ∧ np < 3 ∧ v < nv)) := by
  by_cases h1 : l pl = 118
  · rw [itemF_v h1] at h
    cases hs : numsAt l 2 (pl + 1) with
    | none => rw [hs] at h; cases h
    | some q1 =>
      obtain ⟨ls, q2⟩ := q1
      obtain ⟨g1, g2, g3, -⟩ := numsAt_le hs
      obtain ⟨k, o, rfl⟩ := len2 g3
      rw [hs] at h
      simp only at h g1 g2
      cases ho : okV nv k o with
      | false => rw [ho] at h; cases h
      | true =>
        rw [ho, if_pos rfl] at h
        cases h
        simp [okV] at ho
        exact ⟨by omega, by omega, Or.inl ⟨k, o, rfl, by omega, by omega, by omega⟩⟩
  · by_cases h2 : l pl = 119
    · rw [itemF_w h2] at h
      cases hs : numsAt l 3 (pl + 1) with
      | none => rw [hs] at h; cases h
      | some q1 =>
        obtain ⟨ls, q2⟩ := q1
        obtain ⟨g1, g2, g3, -⟩ := numsAt_le hs
        obtain ⟨a, b, y, rfl⟩ := len3 g3
        rw [hs] at h
        simp only at h g1 g2
        cases ho : okW nv a b y with
        | false => rw [ho] at h; cases h
        | true =>
          rw [ho, if_pos rfl] at h
          cases h
          simp [okW] at ho
          exact ⟨by omega, by omega, Or.inr (Or.inl ⟨a, b, y, rfl, by omega, by omega, by omega, by omega, by omega⟩)⟩
    · by_cases h3 : l pl = 112
      · rw [itemF_p h3] at h
        cases hs : numsAt l 1 (pl + 1) with
        | none => rw [hs] at h; cases h
        | some q1 =>
          obtain ⟨ls, q2⟩ := q1
          have g4 := numsAt_le hs
          obtain ⟨g1, g2, g3, -⟩ := g4
          obtain ⟨v, rfl⟩ := len1 g3
          have hq3 : pl + 1 + 2 ≤ q2 := by
            unfold numsAt at hs
            cases hn : (numAt l (pl + 1)).1 with
            | none => rw [hn] at hs; cases hs
            | some w =>
              have hne : (numAt l (pl + 1)).2 ≠ pl + 1 := by
                intro e9
                unfold numAt at hn e9
                by_cases d1 : isDg (l (pl + 1)) = true
                · simp [d1] at e9
                  split at e9 <;> simp at e9
                · simp [d1] at hn
              have hle := numAt_le (l := l) (pl := pl + 1)
              rw [hn] at hs
              simp only at hs
              simp only [if_true] at hs
              by_cases hc9 : l (numAt l (pl + 1)).2 = 59
              · rw [if_pos hc9] at hs
                simp [numsAt] at hs
                omega
              · rw [if_neg hc9] at hs
                cases hs
          rw [hs] at h
          simp only at h g1 g2
          cases ho : okP np nv v with
          | false => rw [ho] at h; cases h
          | true =>
            rw [ho, if_pos rfl] at h
            cases h
            simp [okP] at ho
            exact ⟨by omega, by omega, Or.inr (Or.inr ⟨v, rfl, by omega, by omega⟩)⟩
      · rw [itemF, if_neg h1, if_neg h2, if_neg h3] at h
        cases h
theorem itemM_low {M : xMem} {c nv np a : Nat} {it : Nat × List Nat} (h : a < c ∨ c + 13 ≤ a) (hw : it.1 = 119 → it.2.getD 0 0 < 7 ∧ it.2.getD 1 0 < 7) : itemM M c nv np it a = M a := by
  unfold itemM
  by_cases h1 : it.1 = 118
  · rw [if_pos h1]
    simp only [villM]
    rw [up2_ne (by omega)]
    split <;> (first | rw [up2_ne (by omega), up2_ne (by omega), up2_ne (by omega)] | rw [up2_ne (by omega), up2_ne (by omega)])
  · rw [if_neg h1]
    by_cases h2 : it.1 = 119
    · have := hw h2
      rw [if_pos h2]
      simp only [wayM]
      rw [up2_ne (by omega), up2_ne (by omega), up2_ne (by omega), up2_ne (by omega)]
    · rw [if_neg h2]
      simp only [partM]
      rw [up2_ne (by omega), up2_ne (by omega)]
theorem itemM_n {M : xMem} {c nv np : Nat} {it : Nat × List Nat} (h : M c 5 = nI nv) (hp : M c 6 = nI np) : itemM M c nv np it c 5 = nI (itV nv it) ∧ itemM M c nv np it c 6 = nI (itP np it) := by
  unfold itemM itV itP
  by_cases h1 : it.1 = 118
  · rw [if_pos h1, if_pos h1, if_pos (Or.inl h1)]
    simp only [villM]
    constructor
    · simp [up2]
    · have e : ∀ N : xMem, up2 N c 5 (nI (nv + 1)) c 6 = N c 6 := fun N => by simp [up2]
      rw [e]
      split <;> simp [up2, hp]
  · rw [if_neg h1, if_neg h1]
    by_cases h2 : it.1 = 119
    · rw [if_pos h2, if_pos (Or.inr h2)]
      simp only [wayM]
      rw [up2_ne (by omega), up2_ne (by omega), up2_ne (by omega), up2_ne (by omega)]
      exact ⟨h, hp⟩
    · rw [if_neg h2, if_neg (by omega)]
      simp only [partM]
      constructor
      · simp [up2, h]
      · simp [up2]
theorem offR_item {M M1 : xMem} {c nv np : Nat} {it : Nat × List Nat} (hc : isLd c) (h : offR M M1) : offR (itemM M c nv np it) (itemM M1 c nv np it) := by
  unfold itemM
  split
  · exact offR_vill hc h
  · split
    · exact offR_way hc h
    · exact offR_part h
theorem offR_items {c : Nat} (hc : isLd c) : ∀ {its : List (Nat × List Nat)} {nv np : Nat} {M M1 : xMem}, offR M M1 → offR (itemsM c nv np its M) (itemsM c nv np its M1)
  | [], _, _, _, _, h => h
  | it :: r, nv, np, M, M1, h => offR_items hc (its := r) (offR_item hc h)
theorem clearM_low {M : xMem} {c a : Nat} (h : a < c ∨ c + 13 ≤ a) : clearM M c a = M a := by
  simp only [clearM]
  rw [if_neg (by omega), if_neg (by omega)]
theorem c_X5_readAll (ht : isTx M t len) (hc : isLd c) (hQ : ∀ M1, offR (itemsM c 0 0 (parseF (ltr t len) len 200 0 0 0).1 (clearM M c)) M1 → Q (some (.int (optI (parseF (ltr t len) len 200 0 0 0).2))) SF M1) : xC G mX5_readAll (d + 4) 0 0 [.ref (G.1 + 3), .ref (G.1 + 1), .ref (G.1 + c)] SF M Q := by
  have s1 := sh1
  have s3 := sh3
  have g0 := ld0 hc
  have c5 : 5 ≤ c := by rcases hc with rfl | rfl <;> decide
  have hlen := ht.2.1
  have hl := ltr_le ht
  refine xC_intro [some (.ref (G.1 + 3)), some (.ref (G.1 + 1)), some (.ref (G.1 + c)), none, none] rfl (by decide) (Nat.le_of_ble_eq_true rfl) ?_
  refine xs_aload eX5_readAll_0 rfl ?_
  refine xs_callV0v eX5_readAll_1 (by assumption) (Nat.le_of_ble_eq_true rfl) (c_X2_clear (by assumption) ⟨rfl, ?_⟩)
  refine xs_aload eX5_readAll_4 rfl ?_
  refine xs_K eX5_readAll_5 ?_
  refine xs_putI eX5_readAll_6 (by assumption) (by rfl) rfl rfl ?_
  refine xs_K eX5_readAll_9 ?_
  refine xs_istore eX5_readAll_10 (Nat.le_of_ble_eq_true rfl) rfl rfl ?_
  refine dn (P := fun i => ∀ (A M1 : xMem) (nv np pl : Nat), M1 3 1 = nI pl → pl < 220 → M1 1 = M 1 → M1 2 = M 2 → M1 c 5 = nI nv → nv ≤ 7 → M1 c 6 = nI np → np ≤ 3 → (∀ M2, offR (itemsM c nv np (parseF (ltr t len) len (200 - i) nv np pl).1 M1) M2 → Q (some (.int (optI (parseF (ltr t len) len (200 - i) nv np pl).2))) SF M2) → xW G mX5_readAll (d + 4) 0 0 Q 11 [some (.ref (G.1 + 3)), some (.ref (G.1 + 1)), some (.ref (G.1 + c)), some (.int (nI i)), none] [] SF M1) 200 ?_ ?_ 0 (by omega) M _ 0 0 0 (by simp [up2]) (by omega) (by rw [up2_ne (by decide), clearM_low (by omega)]) (by rw [up2_ne (by decide), clearM_low (by omega)]) (by rw [up2_ne (by omega)]; simp [clearM]) (by omega) (by rw [up2_ne (by omega)]; simp [clearM]) (by omega) (fun M2 h => hQ M2 (offR_tr (offR_items hc (fun a q1 q2 => by rw [up2_ne q1])) h))
  · intro A M1 nv np pl hp hpl h1 h2 hn h7 hnp h3 hq
    have hq1 := hq M1 (by rw [Nat.sub_self]; exact fun _ _ _ => rfl)
    rw [Nat.sub_self] at hq1
    refine xs_iload eX5_readAll_11 rfl ?_
    refine xs_K eX5_readAll_12 ?_
    refine xs_N_ge eX5_readAll_15 (by omega) (by omega) (fun h15 => ?_) (fun h => absurd h (by omega))
    refine xs_K eX5_readAll_53 ?_
    exact xs_iretI eX5_readAll_55 rfl (hq1)
  · intro i hi ih A M1 nv np pl hp hpl h1 h2 hn h7 hnp h3 hq
    have ht1 : isTx M1 t len := isTx_keep ht h1 h2
    rw [show 200 - i = (200 - (i + 1)) + 1 by omega, parseF] at hq
    refine xs_iload eX5_readAll_11 rfl ?_
    refine xs_K eX5_readAll_12 ?_
    refine xs_N_ge eX5_readAll_15 (by omega) (by omega) (fun h => absurd h (by omega)) (fun h15 => ?_)
    refine xs_aload eX5_readAll_18 rfl ?_
    refine xs_getI eX5_readAll_19 (by assumption) (by rfl) ?_
    refine xs_eq1 hp ?_
    refine xs_aload eX5_readAll_22 rfl ?_
    refine xs_getI eX5_readAll_23 (by assumption) (by rfl) ?_
    refine xs_eq1 ht1.1 ?_
    refine xs_N_ge eX5_readAll_26 (by omega) (by omega) (fun h26 => ?_) (fun h26 => ?_)
    · refine xs_K eX5_readAll_53 ?_
      exact xs_iretI eX5_readAll_55 rfl (by rw [if_neg (by omega)] at hq; exact hq M1 (fun _ _ _ => rfl))
    · refine xs_aload eX5_readAll_29 rfl ?_
      refine xs_getI eX5_readAll_30 (by assumption) (by rfl) ?_
      refine xs_eq1 hp ?_
      refine xs_istore eX5_readAll_33 (Nat.le_of_ble_eq_true rfl) rfl rfl ?_
      refine xs_aload eX5_readAll_35 rfl ?_
      refine xs_aload eX5_readAll_36 rfl ?_
      refine xs_aload eX5_readAll_37 rfl ?_
      refine xs_callV2i eX5_readAll_38 (by assumption) (Nat.le_of_ble_eq_true rfl) (c_X5_readItem (by assumption) (by assumption) (by omega) (by assumption) (by assumption) (by omega) (by assumption) (by omega) (fun M2 hM2 => ⟨_, rfl, ?_⟩))
      refine xs_ifneB eX5_readAll_41 (fun h41 => ?_) (fun h41 => ?_)
      · refine xs_inc1 eX5_readAll_47 rfl rfl rfl ?_
        refine xs_goto eX5_readAll_50 ?_
        obtain ⟨⟨it, q⟩, hit⟩ := Option.isSome_iff_exists.mp h41
        obtain ⟨r1, r2, r3⟩ := itemF_some hl hit
        rw [itemP, hit] at hM2
        obtain ⟨ho, hp2⟩ := hM2
        rw [if_pos h26, hit] at hq
        have hw : it.1 = 119 → it.2.getD 0 0 < 7 ∧ it.2.getD 1 0 < 7 := by
          intro h9
          rcases r3 with ⟨k, o, rfl, -⟩ | ⟨a, b, y, rfl, q1, q2, -⟩ | ⟨v, rfl, -⟩
          · cases h9
          · exact ⟨by simp; omega, by simp; omega⟩
          · cases h9
        have hi9 := itemM_n (it := it) hn hnp
        refine xs_kill 4 rfl ?_
        refine ih A M2 (itV nv it) (itP np it) q hp2 (by omega) ?_ ?_ ?_ ?_ ?_ ?_ (fun M3 h9 => hq M3 ?_)
        · rw [ho 1 (by decide) (by decide), itemM_low (by omega) hw]; exact h1
        · rw [ho 2 (by decide) (by decide), itemM_low (by omega) hw]; exact h2
        · rw [ho c (by omega) (by omega)]; exact hi9.1
        · rcases r3 with ⟨k, o, rfl, q1, -⟩ | ⟨a, b, y, rfl, q1, q2, -⟩ | ⟨v, rfl, -⟩ <;> simp [itV] <;> omega
        · rw [ho c (by omega) (by omega)]; exact hi9.2
        · rcases r3 with ⟨k, o, rfl, q1, -⟩ | ⟨a, b, y, rfl, q1, q2, -⟩ | ⟨v, rfl, q1, -⟩ <;> simp [itP] <;> omega
        · show offR (itemsM c (itV nv it) (itP np it) (parseF (ltr t len) len (200 - (i + 1)) (itV nv it) (itP np it) q).1 (itemM M1 c nv np it)) M3
          exact offR_tr (offR_items hc ho) h9
      · have hno := Option.isNone_iff_eq_none.mp (Option.isSome_eq_false_iff.mp h41)
        rw [itemP, hno] at hM2
        rw [if_pos h26, hno] at hq
        refine xs_iload eX5_readAll_44 rfl ?_
        exact xs_iretI eX5_readAll_46 rfl (hq M2 hM2)
end RD

/-! Land (cell c: 5 the draft, 18 the land): clear, addVillage, addWay, addParty, measure -/
def iterN {α : Type} (f : Nat → α → α) : Nat → α → α
  | 0, y => y
  | n + 1, y => f n (iterN f n y)
def frow (i : Nat) : Nat → Int32 := fun j => if i = j then nI 0 else nI 1000000
def clearM (M : xMem) (c : Nat) : xMem := fun a => if a = c ∨ (c + 1 ≤ a ∧ a ≤ c + 4) then (fun _ => nI 0) else if c + 6 ≤ a ∧ a < c + 13 then frow (a - (c + 6)) else M a
def villM (M : xMem) (c nv kd : Nat) (ox : Int32) : xMem :=
  let M1 := up2 (up2 M (c + 1) nv (nI kd)) (c + 2) nv ox
  let M2 := if kd = 0 then up2 M1 c 7 (bon (M c 7) nv) else M1
  up2 M2 c 5 (nI (nv + 1))
def wayM (M : xMem) (c a b : Nat) (y : Int32) : xMem :=
  let M2 := up2 (up2 M (c + 6 + a) b y) (c + 6 + b) a y
  let M3 := up2 M2 (c + 4) a (bon (M (c + 4) a) b)
  up2 M3 (c + 4) b (bon (M3 (c + 4) b) a)
def partM (M : xMem) (c np v : Nat) : xMem := up2 (up2 M (c + 3) np (nI v)) c 6 (nI (np + 1))
def relaxM (c by' a : Nat) (b : Nat) (M : xMem) : xMem := up2 M (c + 6 + a) b (mnI (M (c + 6 + a) b) (M (c + 6 + a) by' + M (c + 6 + by') b))
def measM (M : xMem) (c nv : Nat) : xMem := iterN (fun k M => iterN (fun a M => iterN (relaxM c k a) nv M) nv M) nv M
theorem iterN_inv {α : Type} {f : Nat → α → α} {P : α → Prop} (h : ∀ i y, P y → P (f i y)) : ∀ (n : Nat) (y : α), P y → P (iterN f n y)
  | 0, _, hy => hy
  | n + 1, y, hy => h n _ (iterN_inv h n y hy)
theorem isLd_lt {c : Nat} (h : isLd c) : c = 5 ∨ c = 18 := h
theorem ldI {c a : Nat} (ha : a < 7) : ([some (c + 6), some (c + 7), some (c + 8), some (c + 9), some (c + 10), some (c + 11), some (c + 12)] : List (Option Nat))[a]? = some (some (c + 6 + a)) := by
  rcases (show a = 0 ∨ a = 1 ∨ a = 2 ∨ a = 3 ∨ a = 4 ∨ a = 5 ∨ a = 6 by omega) with rfl | rfl | rfl | rfl | rfl | rfl | rfl <;> rfl
theorem QF {Q : Option Value → List xSh → xMem → Prop} {S : List xSh} {A B : xMem} {ok : Bool} (h : ok = false) (hQ : Q (some (.int (bI ok))) S (if ok then A else B)) : Q (some (.int (nI 0))) S B := by
  subst h
  exact hQ
theorem QT {Q : Option Value → List xSh → xMem → Prop} {S : List xSh} {A B : xMem} {ok : Bool} (h : ok = true) (hQ : Q (some (.int (bI ok))) S (if ok then A else B)) : Q (some (.int (nI 1))) S A := by
  subst h
  exact hQ
section LD
variable {G : xGl} {d c v a b nv np kd : Nat} {M : xMem} {Q : Option Value → List xSh → xMem → Prop}
theorem c_X2_isTold {y : Int32} (hc : isLd c) (hn : M c 5 = nI nv) (hQ : Q (some (.int (bI (inN y nv)))) SF M) : xC G mX2_isTold (d + 1) 0 0 [.ref (G.1 + c), .int y] SF M Q := by
  have h0 := ld0 hc
  refine xC_intro [some (.ref (G.1 + c)), some (.int y)] rfl (by decide) (Nat.le_of_ble_eq_true rfl) ?_
  refine xs_iload eX2_isTold_0 rfl ?_
  refine xs_K eX2_isTold_1 ?_
  refine xs_aload eX2_isTold_2 rfl ?_
  refine xs_getI eX2_isTold_3 (by assumption) (by rfl) ?_
  refine xs_eq1 hn ?_
  refine xs_K eX2_isTold_6 ?_
  refine xs_isub eX2_isTold_7 ?_
  refine xs_callS3i eX2_isTold_8 (Nat.le_of_ble_eq_true rfl) (c_X9_isWithin ⟨_, rfl, ?_⟩)
  exact xs_iret eX2_isTold_11 rfl (by first | exact bI_nar _ | rfl) (hQ)
theorem ldf {c : Nat} : ∀ j, ([some (some (c + 1)), some (some (c + 2)), some (some (c + 3)), some (some (c + 4)), some (some (c + 5)), none, none, none] : List (Option (Option Nat)))[j]? = some none → j = 5 ∨ j = 6 ∨ j = 7
  | 0, h => by cases h
  | 1, h => by cases h
  | 2, h => by cases h
  | 3, h => by cases h
  | 4, h => by cases h
  | 5, _ => Or.inl rfl
  | 6, _ => Or.inr (Or.inl rfl)
  | 7, _ => Or.inr (Or.inr rfl)
  | j + 8, h => by cases h
theorem c_X2_clear (hc : isLd c) (hQ : Q none SF (clearM M c)) : xC G mX2_clear (d + 1) 0 0 [.ref (G.1 + c)] SF M Q := by
  have h0 := ld0 hc
  have h1 := ld1 hc
  have h2 := ld2 hc
  have h3 := ld3 hc
  have h4 := ld4 hc
  have h5 := ld5 hc
  refine xC_intro [some (.ref (G.1 + c)), none, none] rfl (by decide) (Nat.le_of_ble_eq_true rfl) ?_
  refine xs_aload eX2_clear_0 rfl ?_
  refine xs_K eX2_clear_1 ?_
  refine xs_putI eX2_clear_2 (by assumption) (by rfl) rfl rfl ?_
  refine xs_aload eX2_clear_5 rfl ?_
  refine xs_K eX2_clear_6 ?_
  refine xs_putI eX2_clear_7 (by assumption) (by rfl) rfl rfl ?_
  refine xs_aload eX2_clear_10 rfl ?_
  refine xs_K eX2_clear_11 ?_
  refine xs_putI eX2_clear_12 (by assumption) (by rfl) rfl rfl ?_
  refine xs_rowO h0 (fun q h => by cases h; exact Nat.le_refl _) (f := fun _ => nI 0) (fun j hj => by rcases ldf j hj with rfl | rfl | rfl <;> simp [up2]) ?_
  have e1 : setR (up2 (up2 (up2 M c 5 (nI 0)) c 6 (nI 0)) c 7 (nI 0)) c (fun _ => nI 0) = setR M c (fun _ => nI 0) := by
    funext a
    by_cases h : a = c
    · subst h
      rw [setR_row, setR_row]
    · rw [setR_ne h, setR_ne h, up2_ne h, up2_ne h, up2_ne h]
  rw [e1]
  refine xs_aload eX2_clear_15 rfl ?_
  refine xs_getR eX2_clear_16 (by assumption) (by rfl) ?_
  refine xs_K eX2_clear_19 ?_
  refine xs_callS2v eX2_clear_20 (Nat.le_of_ble_eq_true rfl) (c_fill (by assumption) (by decide) ⟨rfl, ?_⟩)
  refine xs_aload eX2_clear_23 rfl ?_
  refine xs_getR eX2_clear_24 (by assumption) (by rfl) ?_
  refine xs_K eX2_clear_27 ?_
  refine xs_callS2v eX2_clear_28 (Nat.le_of_ble_eq_true rfl) (c_fill (by assumption) (by decide) ⟨rfl, ?_⟩)
  refine xs_aload eX2_clear_31 rfl ?_
  refine xs_getR eX2_clear_32 (by assumption) (by rfl) ?_
  refine xs_K eX2_clear_35 ?_
  refine xs_callS2v eX2_clear_36 (Nat.le_of_ble_eq_true rfl) (c_fill (by assumption) (by decide) ⟨rfl, ?_⟩)
  refine xs_aload eX2_clear_39 rfl ?_
  refine xs_getR eX2_clear_40 (by assumption) (by rfl) ?_
  refine xs_K eX2_clear_43 ?_
  refine xs_callS2v eX2_clear_44 (Nat.le_of_ble_eq_true rfl) (c_fill (by assumption) (by decide) ⟨rfl, ?_⟩)
  refine xs_K eX2_clear_47 ?_
  refine xs_istore eX2_clear_48 (Nat.le_of_ble_eq_true rfl) rfl rfl ?_
  generalize hM1 : setR (setR (setR (setR (setR M c (fun _ => nI 0)) (c + 1) (fun _ => nI 0)) (c + 2) (fun _ => nI 0)) (c + 3) (fun _ => nI 0)) (c + 4) (fun _ => nI 0) = M1
  have hf : ∀ (i j : Nat), i < 7 → M1 (c + 6 + i) j = M (c + 6 + i) j := fun i j hi => by rw [← hM1, setR_ne (by omega), setR_ne (by omega), setR_ne (by omega), setR_ne (by omega), setR_ne (by omega)]
  have K := dn (P := fun i => xW G mX2_clear (d + 1) 0 0 Q 49 [some (.ref (G.1 + c)), some (.int (nI i)), none] [] SF (fun a => if c + 6 ≤ a ∧ a < c + 6 + i then frow (a - (c + 6)) else M1 a)) 7 ?_ ?_ 0 (by omega)
  · refine xs_eqM ?_ K
    funext a
    rw [if_neg (by omega)]
  · have e9 : clearM M c = (fun a => if c + 6 ≤ a ∧ a < c + 6 + 7 then frow (a - (c + 6)) else M1 a) := by
      funext a
      simp only [clearM]
      by_cases q1 : c + 6 ≤ a ∧ a < c + 6 + 7
      · rw [if_pos q1, if_neg (by omega), if_pos (by omega)]
      · rw [if_neg q1, if_neg (c := c + 6 ≤ a ∧ a < c + 13) (by omega), ← hM1]
        by_cases q2 : a = c ∨ (c + 1 ≤ a ∧ a ≤ c + 4)
        · rw [if_pos q2]
          rcases (show a = c ∨ a = c + 1 ∨ a = c + 2 ∨ a = c + 3 ∨ a = c + 4 by omega) with h | h | h | h | h <;> rw [h] <;> simp [setR]
        · rw [if_neg q2, setR_ne (by omega), setR_ne (by omega), setR_ne (by omega), setR_ne (by omega), setR_ne (by omega)]
    refine xs_iload eX2_clear_49 rfl ?_
    refine xs_K eX2_clear_50 ?_
    refine xs_N_ge eX2_clear_52 (by omega) (by omega) (fun h52 => ?_) (fun h => absurd h (by omega))
    exact xs_vret eX2_clear_94 rfl (QeM hQ e9)
  · intro i hi ih
    have hr := ldr hc i hi
    refine xs_iload eX2_clear_49 rfl ?_
    refine xs_K eX2_clear_50 ?_
    refine xs_N_ge eX2_clear_52 (by omega) (by omega) (fun h => absurd h (by omega)) (fun h52 => ?_)
    refine xs_K eX2_clear_55 ?_
    refine xs_istore eX2_clear_56 (Nat.le_of_ble_eq_true rfl) rfl rfl ?_
    have K := dn (P := fun j => xW G mX2_clear (d + 1) 0 0 Q 57 [some (.ref (G.1 + c)), some (.int (nI i)), some (.int (nI j))] [] SF (setR (fun a => if c + 6 ≤ a ∧ a < c + 6 + i then frow (a - (c + 6)) else M1 a) (c + 6 + i) (fun jj => if jj < j then frow i jj else M1 (c + 6 + i) jj))) 7 ?_ ?_ 0 (by omega)
    · refine xs_eqM ?_ K
      funext a
      by_cases q : a = c + 6 + i
      · subst q
        rw [setR_row, if_neg (by omega)]
        simp
      · rw [setR_ne q]
    · refine xs_row hr (f := frow i) (fun j hj => by rw [setR_row]; simp [hj]) ?_
      refine xs_eqM (M1 := fun a => if c + 6 ≤ a ∧ a < c + 6 + (i + 1) then frow (a - (c + 6)) else M1 a) ?_ ?_
      · funext a
        by_cases q : a = c + 6 + i
        · subst q
          rw [setR_row, if_pos (by omega), show c + 6 + i - (c + 6) = i by omega]
        · rw [setR_ne q, setR_ne q]
          by_cases q2 : c + 6 ≤ a ∧ a < c + 6 + i
          · rw [if_pos q2, if_pos (by omega)]
          · rw [if_neg q2, if_neg (by omega)]
      · refine xs_iload eX2_clear_57 rfl ?_
        refine xs_K eX2_clear_58 ?_
        refine xs_N_ge eX2_clear_60 (by omega) (by omega) (fun h60 => ?_) (fun h => absurd h (by omega))
        refine xs_inc1 eX2_clear_88 rfl rfl rfl ?_
        refine xs_goto eX2_clear_91 ?_
        exact xs_kill 2 rfl ih
    · intro j hj ih2
      have e8 : ∀ y : Int32, y = frow i j → up2 (setR (fun a => if c + 6 ≤ a ∧ a < c + 6 + i then frow (a - (c + 6)) else M1 a) (c + 6 + i) (fun jj => if jj < j then frow i jj else M1 (c + 6 + i) jj)) (c + 6 + i) j y = setR (fun a => if c + 6 ≤ a ∧ a < c + 6 + i then frow (a - (c + 6)) else M1 a) (c + 6 + i) (fun jj => if jj < j + 1 then frow i jj else M1 (c + 6 + i) jj) := by
        intro y hy
        funext a
        by_cases q : a = c + 6 + i
        · subst q
          rw [up2_row, setR_row, setR_row]
          funext jj
          by_cases q2 : jj = j
          · subst q2
            simp [upd, hy]
          · simp only [upd, if_neg q2]
            by_cases q3 : jj < j
            · rw [if_pos q3, if_pos (by omega)]
            · rw [if_neg q3, if_neg (by omega)]
        · rw [up2_ne q, setR_ne q, setR_ne q]
      refine xs_iload eX2_clear_57 rfl ?_
      refine xs_K eX2_clear_58 ?_
      refine xs_N_ge eX2_clear_60 (by omega) (by omega) (fun h => absurd h (by omega)) (fun h60 => ?_)
      refine xs_aload eX2_clear_63 rfl ?_
      refine xs_getR eX2_clear_64 (by assumption) (by rfl) ?_
      refine xs_iload eX2_clear_67 rfl ?_
      refine xs_aald eX2_clear_68 h5 rfl (ldI hi) (Nat.le_of_ble_eq_true rfl) ?_
      refine xs_iload eX2_clear_69 rfl ?_
      refine xs_iload eX2_clear_70 rfl ?_
      refine xs_iload eX2_clear_71 rfl ?_
      refine xs_N_ne eX2_clear_72 (by omega) (by omega) (fun h72 => ?_) (fun h72 => ?_)
      · refine xs_K eX2_clear_79 ?_
        refine xs_iast eX2_clear_81 (by assumption) (by omega) (by decide) ?_
        refine xs_inc1 eX2_clear_82 rfl rfl rfl ?_
        refine xs_goto eX2_clear_85 ?_
        exact xs_eqM (e8 _ (by simp [frow, h72])) ih2
      · refine xs_K eX2_clear_75 ?_
        refine xs_goto eX2_clear_76 ?_
        refine xs_iast eX2_clear_81 (by assumption) (by omega) (by decide) ?_
        refine xs_inc1 eX2_clear_82 rfl rfl rfl ?_
        refine xs_goto eX2_clear_85 ?_
        exact xs_eqM (e8 _ (by simp [frow, h72])) ih2
theorem wi_nI {j lo hi : Nat} (hj : j < 2 ^ 31) (hl : lo < 2 ^ 31) (hh : hi < 2 ^ 31) : wiB (nI j) (nI lo) (nI hi) = (decide (lo ≤ j) && decide (j ≤ hi)) := by
  simp only [wiB, nI_leI hl hj, nI_leI hj hh]
theorem inN_eq {j n : Nat} (hj : j < 2 ^ 31) (hn : n < 2 ^ 31) : inN (nI j) n = decide (j < n) := by
  by_cases h : j < n
  · rw [inN_nI hn h, decide_eq_true h]
  · rw [decide_eq_false h]
    cases q : inN (nI j) n with
    | false => rfl
    | true =>
      obtain ⟨i, hi, e⟩ := inN_of hn q
      have := (nI_eq hj (by omega)).mp e
      omega
def okV (nv k1 k2 : Nat) : Bool := decide (nv < 7) && decide (k1 < 5) && decide (k2 < 61)
theorem c_X2_addVillage {k1 k2 : Nat} (hc : isLd c) (hn : M c 5 = nI nv) (h7 : nv ≤ 7) (h1k : k1 < 100) (h2k : k2 < 100) (hQ : Q (some (.int (bI (okV nv k1 k2)))) SF (if okV nv k1 k2 then villM M c nv k1 (nI k2) else M)) : xC G mX2_addVillage (d + 1) 0 0 [.ref (G.1 + c), .int (nI k1), .int (nI k2)] SF M Q := by
  have h0 := ld0 hc
  have h1 := ld1 hc
  have h2 := ld2 hc
  have K : ∀ (M2 : xMem), M2 c 5 = nI nv → M2 = (if k1 = 0 then up2 (up2 (up2 M (c + 1) nv (nI k1)) (c + 2) nv (nI k2)) c 7 (bon (M c 7) nv) else up2 (up2 M (c + 1) nv (nI k1)) (c + 2) nv (nI k2)) → okV nv k1 k2 = true → xW G mX2_addVillage (d + 1) 0 0 Q 69 [some (.ref (G.1 + c)), some (.int (nI k1)), some (.int (nI k2))] [] SF M2 := by
    intro M2 q1 q2 q3
    rw [q3, if_pos rfl] at hQ
    refine xs_aload eX2_addVillage_69 rfl ?_
    refine xs_dup eX2_addVillage_70 rfl ?_
    refine xs_getI eX2_addVillage_71 (by assumption) (by rfl) ?_
    refine xs_eq1 q1 ?_
    refine xs_K eX2_addVillage_74 ?_
    refine xs_iadd eX2_addVillage_75 ?_
    refine xs_eq1 (nI_add nv 1) ?_
    refine xs_putI eX2_addVillage_76 (by assumption) (by rfl) rfl rfl ?_
    refine xs_K eX2_addVillage_79 ?_
    exact xs_iret eX2_addVillage_80 rfl (by first | exact bI_nar _ | rfl) (QeM hQ (by rw [q2]; rfl))
  refine xC_intro [some (.ref (G.1 + c)), some (.int (nI k1)), some (.int (nI k2))] rfl (by decide) (Nat.le_of_ble_eq_true rfl) ?_
  refine xs_aload eX2_addVillage_0 rfl ?_
  refine xs_getI eX2_addVillage_1 (by assumption) (by rfl) ?_
  refine xs_eq1 hn ?_
  refine xs_K eX2_addVillage_4 ?_
  refine xs_N_ge eX2_addVillage_6 (by omega) (by omega) (fun h6 => ?_) (fun h6 => ?_)
  · refine xs_K eX2_addVillage_28 ?_
    exact xs_iret eX2_addVillage_29 rfl (by first | exact bI_nar _ | rfl) (Qeq hQ (by rw [okV, decide_eq_false (p := nv < 7) (by omega)]; rfl) (by rw [okV, decide_eq_false (p := nv < 7) (by omega)]; rfl))
  · refine xs_iload eX2_addVillage_9 rfl ?_
    refine xs_K eX2_addVillage_10 ?_
    refine xs_K eX2_addVillage_11 ?_
    refine xs_callS3i eX2_addVillage_12 (Nat.le_of_ble_eq_true rfl) (c_X9_isWithin ⟨_, rfl, ?_⟩)
    rw [wi_nI (by omega) (by decide) (by decide)]
    refine xs_ifeqB eX2_addVillage_15 (fun h15 => ?_) (fun h15 => ?_)
    · refine xs_K eX2_addVillage_28 ?_
      exact xs_iret eX2_addVillage_29 rfl (by first | exact bI_nar _ | rfl) (QF (by simp [okV] at h15 ⊢; omega) hQ)
    · refine xs_iload eX2_addVillage_18 rfl ?_
      refine xs_K eX2_addVillage_19 ?_
      refine xs_K eX2_addVillage_20 ?_
      refine xs_callS3i eX2_addVillage_22 (Nat.le_of_ble_eq_true rfl) (c_X9_isWithin ⟨_, rfl, ?_⟩)
      rw [wi_nI (by omega) (by decide) (by decide)]
      refine xs_ifneB eX2_addVillage_25 (fun h25 => ?_) (fun h25 => ?_)
      · have e9 : okV nv k1 k2 = true := by simp [okV] at h15 h25 ⊢; omega
        have z1 : up2 M (c + 1) nv (nI k1) c 5 = nI nv := by rw [up2_ne (by omega)]; exact hn
        have z2 : up2 (up2 M (c + 1) nv (nI k1)) (c + 2) nv (nI k2) c 5 = nI nv := by rw [up2_ne (by omega)]; exact z1
        have z3 : up2 (up2 M (c + 1) nv (nI k1)) (c + 2) nv (nI k2) c 7 = M c 7 := by rw [up2_ne (by omega), up2_ne (by omega)]
        refine xs_aload eX2_addVillage_30 rfl ?_
        refine xs_getR eX2_addVillage_31 (by assumption) (by rfl) ?_
        refine xs_aload eX2_addVillage_34 rfl ?_
        refine xs_getI eX2_addVillage_35 (by assumption) (by rfl) ?_
        refine xs_eq1 hn ?_
        refine xs_iload eX2_addVillage_38 rfl ?_
        refine xs_iast eX2_addVillage_39 (by assumption) (by omega) (by decide) ?_
        refine xs_aload eX2_addVillage_40 rfl ?_
        refine xs_getR eX2_addVillage_41 (by assumption) (by rfl) ?_
        refine xs_aload eX2_addVillage_44 rfl ?_
        refine xs_getI eX2_addVillage_45 (by assumption) (by rfl) ?_
        refine xs_eq1 z1 ?_
        refine xs_iload eX2_addVillage_48 rfl ?_
        refine xs_iast eX2_addVillage_49 (by assumption) (by omega) (by decide) ?_
        refine xs_iload eX2_addVillage_50 rfl ?_
        refine xs_N0_ne eX2_addVillage_51 (by omega) (fun h51 => ?_) (fun h51 => ?_)
        · exact K _ z2 (by rw [if_neg (show k1 ≠ 0 by omega)]) e9
        · refine xs_aload eX2_addVillage_54 rfl ?_
          refine xs_dup eX2_addVillage_55 rfl ?_
          refine xs_getI eX2_addVillage_56 (by assumption) (by rfl) ?_
          refine xs_eq1 z3 ?_
          refine xs_K eX2_addVillage_59 ?_
          refine xs_aload eX2_addVillage_60 rfl ?_
          refine xs_getI eX2_addVillage_61 (by assumption) (by rfl) ?_
          refine xs_eq1 z2 ?_
          refine xs_ishl eX2_addVillage_64 ?_
          refine xs_ior eX2_addVillage_65 ?_
          refine xs_putI eX2_addVillage_66 (by assumption) (by rfl) rfl rfl ?_
          exact K _ (by simp only [up2]; simp; simpa [up2] using z2) (by rw [if_pos (show k1 = 0 by omega)]; rfl) e9
      · refine xs_K eX2_addVillage_28 ?_
        exact xs_iret eX2_addVillage_29 rfl (by first | exact bI_nar _ | rfl) (QF (by simp [okV] at h25 ⊢; omega) hQ)
def okW (nv a b y : Nat) : Bool := decide (a < nv) && (decide (b < nv) && (!decide (a = b) && (decide (1 ≤ y) && decide (y ≤ 20))))
theorem c_X2_addWay {y : Nat} (hc : isLd c) (hn : M c 5 = nI nv) (h7 : nv ≤ 7) (ha : a < 100) (hb : b < 100) (hy : y < 100) (hQ : Q (some (.int (bI (okW nv a b y)))) SF (if okW nv a b y then wayM M c a b (nI y) else M)) : xC G mX2_addWay (d + 2) 0 0 [.ref (G.1 + c), .int (nI a), .int (nI b), .int (nI y)] SF M Q := by
  have h0 := ld0 hc
  have h4 := ld4 hc
  have h5 := ld5 hc
  have K : okW nv a b y = true → xW G mX2_addWay (d + 2) 0 0 Q 33 [some (.ref (G.1 + c)), some (.int (nI a)), some (.int (nI b)), some (.int (nI y))] [] SF M := by
    intro q
    rw [q, if_pos rfl] at hQ
    simp [okW] at q
    have hra := ldr hc a (by omega)
    have hrb := ldr hc b (by omega)
    have z1 : up2 (up2 M (c + 6 + a) b (nI y)) (c + 6 + b) a (nI y) (c + 4) a = M (c + 4) a := by rw [up2_ne (by omega), up2_ne (by omega)]
    refine xs_aload eX2_addWay_33 rfl ?_
    refine xs_getR eX2_addWay_34 (by assumption) (by rfl) ?_
    refine xs_iload eX2_addWay_37 rfl ?_
    refine xs_aald eX2_addWay_38 h5 rfl (ldI (by omega)) (Nat.le_of_ble_eq_true rfl) ?_
    refine xs_iload eX2_addWay_39 rfl ?_
    refine xs_iload eX2_addWay_40 rfl ?_
    refine xs_iast eX2_addWay_41 (by assumption) (by omega) (by decide) ?_
    refine xs_aload eX2_addWay_42 rfl ?_
    refine xs_getR eX2_addWay_43 (by assumption) (by rfl) ?_
    refine xs_iload eX2_addWay_46 rfl ?_
    refine xs_aald eX2_addWay_47 h5 rfl (ldI (by omega)) (Nat.le_of_ble_eq_true rfl) ?_
    refine xs_iload eX2_addWay_48 rfl ?_
    refine xs_iload eX2_addWay_49 rfl ?_
    refine xs_iast eX2_addWay_50 (by assumption) (by omega) (by decide) ?_
    refine xs_aload eX2_addWay_51 rfl ?_
    refine xs_getR eX2_addWay_52 (by assumption) (by rfl) ?_
    refine xs_iload eX2_addWay_55 rfl ?_
    refine xs_dup2 eX2_addWay_56 rfl rfl ?_
    refine xs_iald eX2_addWay_57 (by assumption) (by omega) (by decide) ?_
    rw [z1]
    refine xs_K eX2_addWay_58 ?_
    refine xs_iload eX2_addWay_59 rfl ?_
    refine xs_ishl eX2_addWay_60 ?_
    refine xs_ior eX2_addWay_61 ?_
    refine xs_iast eX2_addWay_62 (by assumption) (by omega) (by decide) ?_
    refine xs_aload eX2_addWay_63 rfl ?_
    refine xs_getR eX2_addWay_64 (by assumption) (by rfl) ?_
    refine xs_iload eX2_addWay_67 rfl ?_
    refine xs_dup2 eX2_addWay_68 rfl rfl ?_
    refine xs_iald eX2_addWay_69 (by assumption) (by omega) (by decide) ?_
    refine xs_K eX2_addWay_70 ?_
    refine xs_iload eX2_addWay_71 rfl ?_
    refine xs_ishl eX2_addWay_72 ?_
    refine xs_ior eX2_addWay_73 ?_
    refine xs_iast eX2_addWay_74 (by assumption) (by omega) (by decide) ?_
    refine xs_K eX2_addWay_75 ?_
    exact xs_iret eX2_addWay_76 rfl (by first | exact bI_nar _ | rfl) (hQ)
  refine xC_intro [some (.ref (G.1 + c)), some (.int (nI a)), some (.int (nI b)), some (.int (nI y))] rfl (by decide) (Nat.le_of_ble_eq_true rfl) ?_
  refine xs_aload eX2_addWay_0 rfl ?_
  refine xs_iload eX2_addWay_1 rfl ?_
  refine xs_callV1i eX2_addWay_2 (by assumption) (Nat.le_of_ble_eq_true rfl) (c_X2_isTold (by assumption) (by assumption) ⟨_, rfl, ?_⟩)
  rw [inN_eq (by omega) (by omega)]
  refine xs_ifeqB eX2_addWay_5 (fun h5 => ?_) (fun h5 => ?_)
  · refine xs_K eX2_addWay_31 ?_
    exact xs_iret eX2_addWay_32 rfl (by first | exact bI_nar _ | rfl) (QF (by simp [okW] at h5 ⊢; omega) hQ)
  · refine xs_aload eX2_addWay_8 rfl ?_
    refine xs_iload eX2_addWay_9 rfl ?_
    refine xs_callV1i eX2_addWay_10 (by assumption) (Nat.le_of_ble_eq_true rfl) (c_X2_isTold (by assumption) (by assumption) ⟨_, rfl, ?_⟩)
    rw [inN_eq (by omega) (by omega)]
    refine xs_ifeqB eX2_addWay_13 (fun h13 => ?_) (fun h13 => ?_)
    · refine xs_K eX2_addWay_31 ?_
      exact xs_iret eX2_addWay_32 rfl (by first | exact bI_nar _ | rfl) (QF (by simp [okW] at h13 ⊢; omega) hQ)
    · refine xs_iload eX2_addWay_16 rfl ?_
      refine xs_iload eX2_addWay_17 rfl ?_
      refine xs_N_eq eX2_addWay_18 (by omega) (by omega) (fun h18 => ?_) (fun h18 => ?_)
      · refine xs_K eX2_addWay_31 ?_
        exact xs_iret eX2_addWay_32 rfl (by first | exact bI_nar _ | rfl) (QF (by simp [okW]; omega) hQ)
      · refine xs_iload eX2_addWay_21 rfl ?_
        refine xs_K eX2_addWay_22 ?_
        refine xs_K eX2_addWay_23 ?_
        refine xs_callS3i eX2_addWay_25 (Nat.le_of_ble_eq_true rfl) (c_X9_isWithin ⟨_, rfl, ?_⟩)
        rw [wi_nI (by omega) (by decide) (by decide)]
        refine xs_ifneB eX2_addWay_28 (fun h28 => ?_) (fun h28 => ?_)
        · exact K (by simp [okW] at h5 h13 h28 ⊢; omega)
        · refine xs_K eX2_addWay_31 ?_
          exact xs_iret eX2_addWay_32 rfl (by first | exact bI_nar _ | rfl) (QF (by simp [okW] at h28 ⊢; omega) hQ)
def okP (np nv v : Nat) : Bool := decide (np < 3) && decide (v < nv)
theorem c_X2_addParty (hc : isLd c) (hn : M c 5 = nI nv) (h7 : nv ≤ 7) (hp : M c 6 = nI np) (hp3 : np ≤ 3) (hv : v < 100) (hQ : Q (some (.int (bI (okP np nv v)))) SF (if okP np nv v then partM M c np v else M)) : xC G mX2_addParty (d + 2) 0 0 [.ref (G.1 + c), .int (nI v)] SF M Q := by
  have h0 := ld0 hc
  have h3 := ld3 hc
  refine xC_intro [some (.ref (G.1 + c)), some (.int (nI v))] rfl (by decide) (Nat.le_of_ble_eq_true rfl) ?_
  refine xs_aload eX2_addParty_0 rfl ?_
  refine xs_getI eX2_addParty_1 (by assumption) (by rfl) ?_
  refine xs_eq1 hp ?_
  refine xs_K eX2_addParty_4 ?_
  refine xs_N_ge eX2_addParty_5 (by omega) (by omega) (fun h5 => ?_) (fun h5 => ?_)
  · refine xs_K eX2_addParty_16 ?_
    exact xs_iret eX2_addParty_17 rfl (by first | exact bI_nar _ | rfl) (QF (by simp [okP]; omega) hQ)
  · refine xs_aload eX2_addParty_8 rfl ?_
    refine xs_iload eX2_addParty_9 rfl ?_
    refine xs_callV1i eX2_addParty_10 (by assumption) (Nat.le_of_ble_eq_true rfl) (c_X2_isTold (by assumption) (by assumption) ⟨_, rfl, ?_⟩)
    rw [inN_eq (by omega) (by omega)]
    refine xs_ifneB eX2_addParty_13 (fun h13 => ?_) (fun h13 => ?_)
    · refine xs_aload eX2_addParty_18 rfl ?_
      refine xs_getR eX2_addParty_19 (by assumption) (by rfl) ?_
      refine xs_aload eX2_addParty_22 rfl ?_
      refine xs_getI eX2_addParty_23 (by assumption) (by rfl) ?_
      refine xs_eq1 hp ?_
      refine xs_iload eX2_addParty_26 rfl ?_
      refine xs_iast eX2_addParty_27 (by assumption) (by omega) (by decide) ?_
      refine xs_aload eX2_addParty_28 rfl ?_
      refine xs_dup eX2_addParty_29 rfl ?_
      refine xs_getI eX2_addParty_30 (by assumption) (by rfl) ?_
      refine xs_eq1 (z := nI np) (by rw [up2_ne (by omega)]; exact hp) ?_
      refine xs_K eX2_addParty_33 ?_
      refine xs_iadd eX2_addParty_34 ?_
      refine xs_eq1 (nI_add np 1) ?_
      refine xs_putI eX2_addParty_35 (by assumption) (by rfl) rfl rfl ?_
      refine xs_K eX2_addParty_38 ?_
      exact xs_iret eX2_addParty_39 rfl (by first | exact bI_nar _ | rfl) (QT (by simp [okP] at h13 ⊢; omega) hQ)
    · refine xs_K eX2_addParty_16 ?_
      exact xs_iret eX2_addParty_17 rfl (by first | exact bI_nar _ | rfl) (QF (by simp [okP] at h13 ⊢; omega) hQ)
theorem relaxM_c {c k a b : Nat} {M : xMem} : relaxM c k a b M c = M c := up2_ne (by omega)
theorem c_X2_measure (hc : isLd c) (hn : M c 5 = nI nv) (h7 : nv ≤ 7) (hQ : Q none SF (measM M c nv)) : xC G mX2_measure (d + 1) 0 0 [.ref (G.1 + c)] SF M Q := by
  have h0 := ld0 hc
  have h5 := ld5 hc
  have i1 : ∀ (k a n : Nat) (M1 : xMem), M1 c = M c → iterN (relaxM c k a) n M1 c = M c := fun k a n M1 h => iterN_inv (P := fun (M1 : xMem) => M1 c = M c) (fun i y hy => relaxM_c.trans hy) n M1 h
  have i2 : ∀ (k n : Nat) (M1 : xMem), M1 c = M c → iterN (fun a M => iterN (relaxM c k a) nv M) n M1 c = M c := fun k n M1 h => iterN_inv (P := fun (M1 : xMem) => M1 c = M c) (fun i y hy => i1 k i nv y hy) n M1 h
  have i3 : ∀ n : Nat, iterN (fun k M => iterN (fun a M => iterN (relaxM c k a) nv M) nv M) n M c = M c := fun n => iterN_inv (P := fun (M1 : xMem) => M1 c = M c) (fun i y hy => i2 i nv y hy) n M rfl
  refine xC_intro [some (.ref (G.1 + c)), none, none, none] rfl (by decide) (Nat.le_of_ble_eq_true rfl) ?_
  refine xs_K eX2_measure_0 ?_
  refine xs_istore eX2_measure_1 (Nat.le_of_ble_eq_true rfl) rfl rfl ?_
  refine dn (P := fun i => xW G mX2_measure (d + 1) 0 0 Q 2 [some (.ref (G.1 + c)), some (.int (nI i)), none, none] [] SF (iterN (fun k M => iterN (fun a M => iterN (relaxM c k a) nv M) nv M) i M)) nv ?_ ?_ 0 (Nat.zero_le _)
  · refine xs_iload eX2_measure_2 rfl ?_
    refine xs_aload eX2_measure_3 rfl ?_
    refine xs_getI eX2_measure_4 (by assumption) (by rfl) ?_
    refine xs_eq1 (z := nI nv) (by rw [i3]; exact hn) ?_
    refine xs_N_ge eX2_measure_7 (by omega) (by omega) (fun h7 => ?_) (fun h => absurd h (by omega))
    exact xs_vret eX2_measure_84 rfl (hQ)
  · intro i hi ih
    refine xs_iload eX2_measure_2 rfl ?_
    refine xs_aload eX2_measure_3 rfl ?_
    refine xs_getI eX2_measure_4 (by assumption) (by rfl) ?_
    refine xs_eq1 (z := nI nv) (by rw [i3]; exact hn) ?_
    refine xs_N_ge eX2_measure_7 (by omega) (by omega) (fun h => absurd h (by omega)) (fun h7 => ?_)
    refine xs_K eX2_measure_10 ?_
    refine xs_istore eX2_measure_11 (Nat.le_of_ble_eq_true rfl) rfl rfl ?_
    refine dn (P := fun a => xW G mX2_measure (d + 1) 0 0 Q 12 [some (.ref (G.1 + c)), some (.int (nI i)), some (.int (nI a)), none] [] SF (iterN (fun a M => iterN (relaxM c i a) nv M) a (iterN (fun k M => iterN (fun a M => iterN (relaxM c k a) nv M) nv M) i M))) nv ?_ ?_ 0 (Nat.zero_le _)
    · refine xs_iload eX2_measure_12 rfl ?_
      refine xs_aload eX2_measure_13 rfl ?_
      refine xs_getI eX2_measure_14 (by assumption) (by rfl) ?_
      refine xs_eq1 (z := nI nv) (by rw [i2 _ _ _ (i3 i)]; exact hn) ?_
      refine xs_N_ge eX2_measure_17 (by omega) (by omega) (fun h17 => ?_) (fun h => absurd h (by omega))
      refine xs_inc1 eX2_measure_78 rfl rfl rfl ?_
      refine xs_goto eX2_measure_81 ?_
      exact xs_kill 2 rfl ih
    · intro a ha ih2
      refine xs_iload eX2_measure_12 rfl ?_
      refine xs_aload eX2_measure_13 rfl ?_
      refine xs_getI eX2_measure_14 (by assumption) (by rfl) ?_
      refine xs_eq1 (z := nI nv) (by rw [i2 _ _ _ (i3 i)]; exact hn) ?_
      refine xs_N_ge eX2_measure_17 (by omega) (by omega) (fun h => absurd h (by omega)) (fun h17 => ?_)
      refine xs_K eX2_measure_20 ?_
      refine xs_istore eX2_measure_21 (Nat.le_of_ble_eq_true rfl) rfl rfl ?_
      refine dn (P := fun b => xW G mX2_measure (d + 1) 0 0 Q 22 [some (.ref (G.1 + c)), some (.int (nI i)), some (.int (nI a)), some (.int (nI b))] [] SF (iterN (relaxM c i a) b (iterN (fun a M => iterN (relaxM c i a) nv M) a (iterN (fun k M => iterN (fun a M => iterN (relaxM c k a) nv M) nv M) i M)))) nv ?_ ?_ 0 (Nat.zero_le _)
      · refine xs_iload eX2_measure_22 rfl ?_
        refine xs_aload eX2_measure_23 rfl ?_
        refine xs_getI eX2_measure_24 (by assumption) (by rfl) ?_
        refine xs_eq1 (z := nI nv) (by rw [i1 _ _ _ _ (i2 _ _ _ (i3 i))]; exact hn) ?_
        refine xs_N_ge eX2_measure_27 (by omega) (by omega) (fun h27 => ?_) (fun h => absurd h (by omega))
        refine xs_inc1 eX2_measure_72 rfl rfl rfl ?_
        refine xs_goto eX2_measure_75 ?_
        exact xs_kill 3 rfl ih2
      · intro b hb ih3
        have hra := ldr hc a (by omega)
        have hri := ldr hc i (by omega)
        refine xs_iload eX2_measure_22 rfl ?_
        refine xs_aload eX2_measure_23 rfl ?_
        refine xs_getI eX2_measure_24 (by assumption) (by rfl) ?_
        refine xs_eq1 (z := nI nv) (by rw [i1 _ _ _ _ (i2 _ _ _ (i3 i))]; exact hn) ?_
        refine xs_N_ge eX2_measure_27 (by omega) (by omega) (fun h => absurd h (by omega)) (fun h27 => ?_)
        refine xs_aload eX2_measure_30 rfl ?_
        refine xs_getR eX2_measure_31 (by assumption) (by rfl) ?_
        refine xs_iload eX2_measure_34 rfl ?_
        refine xs_aald eX2_measure_35 h5 rfl (ldI (by omega)) (Nat.le_of_ble_eq_true rfl) ?_
        refine xs_iload eX2_measure_36 rfl ?_
        refine xs_aload eX2_measure_37 rfl ?_
        refine xs_getR eX2_measure_38 (by assumption) (by rfl) ?_
        refine xs_iload eX2_measure_41 rfl ?_
        refine xs_aald eX2_measure_42 h5 rfl (ldI (by omega)) (Nat.le_of_ble_eq_true rfl) ?_
        refine xs_iload eX2_measure_43 rfl ?_
        refine xs_iald eX2_measure_44 (by assumption) (by omega) (by decide) ?_
        refine xs_aload eX2_measure_45 rfl ?_
        refine xs_getR eX2_measure_46 (by assumption) (by rfl) ?_
        refine xs_iload eX2_measure_49 rfl ?_
        refine xs_aald eX2_measure_50 h5 rfl (ldI (by omega)) (Nat.le_of_ble_eq_true rfl) ?_
        refine xs_iload eX2_measure_51 rfl ?_
        refine xs_iald eX2_measure_52 (by assumption) (by omega) (by decide) ?_
        refine xs_aload eX2_measure_53 rfl ?_
        refine xs_getR eX2_measure_54 (by assumption) (by rfl) ?_
        refine xs_iload eX2_measure_57 rfl ?_
        refine xs_aald eX2_measure_58 h5 rfl (ldI (by omega)) (Nat.le_of_ble_eq_true rfl) ?_
        refine xs_iload eX2_measure_59 rfl ?_
        refine xs_iald eX2_measure_60 (by assumption) (by omega) (by decide) ?_
        refine xs_iadd eX2_measure_61 ?_
        refine xs_min fX2_measure_62 (Nat.le_of_ble_eq_true rfl) ?_
        refine xs_iast eX2_measure_65 (by assumption) (by omega) (by decide) ?_
        refine xs_inc1 eX2_measure_66 rfl rfl rfl ?_
        refine xs_goto eX2_measure_69 ?_
        exact ih3
end LD

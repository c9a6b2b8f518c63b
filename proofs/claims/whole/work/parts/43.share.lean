/-! SHARING: the fewest days, as numbers -/
def restN (nv ib : Nat) : Nat := maskA (fun v => !ib.testBit v) nv
theorem restN_lt {nv ib : Nat} (h : nv ≤ 7) : restN nv ib < 2 ^ nv := sbt_mask h
theorem restN_bt {nv ib v : Nat} (h : nv ≤ 7) (hv : v < 8) : (restN nv ib).testBit v = (decide (v < nv) && !ib.testBit v) := maskA_bit h v hv
theorem rest_nI {nv ib : Nat} (h : nv ≤ 7) : restM nv (nI ib) = nI (restN nv ib) := by
  apply b_ext
  intro i hi
  rw [restM_bt h _ hi, bt_nI hi, bt_nI hi]
  rcases Nat.lt_or_ge i 8 with q | q
  · rw [restN_bt h q]
  · rw [tb_hi (restN_lt h) (by omega), decide_eq_false (by omega)]
    rfl
def foldM (p : Nat → Bool) (f : Nat → Nat) (z : Nat) : Nat → Nat
  | 0 => z
  | n + 1 => if p n then mnA (foldM p f z n) (f n) else foldM p f z n
def stepT (l : aLd) (at0 : Nat) (tb : Nat → Nat → Nat) (s v : Nat) : Nat :=
  if cbt s v = 0 then mnA 1000000 (l.2.2.2.2.2 at0 v + 1) else foldM (fun u => (cbt s v).testBit u) (fun u => tb (cbt s v) u + l.2.2.2.2.2 u v + 1) 1000000 l.1
def tbF (l : aLd) (at0 : Nat) : Nat → Nat → Nat → Nat
  | 0 => fun _ _ => 0
  | n + 1 => fun s v => if s = n then stepT l at0 (tbF l at0 n) n v else tbF l at0 n s v
/-- the fewest days of asking a set from a place, the last one being v -/
def tbA (l : aLd) (at0 : Nat) : Nat → Nat → Nat := tbF l at0 128
theorem tbF_st {l : aLd} {at0 s v : Nat} : ∀ {n m : Nat}, s < n → n ≤ m → tbF l at0 m s v = tbF l at0 n s v
  | n, 0, h, h2 => by omega
  | n, m + 1, h, h2 => by
    by_cases e : n = m + 1
    · rw [e]
    · rw [tbF]
      simp only
      rw [if_neg (by omega)]
      exact tbF_st h (by omega)
theorem cbt_less : ∀ s, s < 128 → ∀ v, v < 7 → s.testBit v = true → cbt s v < s ∧ pc7 (cbt s v) + 1 = pc7 s ∧ (cbt s v).testBit v = false := by decide +kernel
theorem stepT_congr {l : aLd} {at0 s v : Nat} {t1 t2 : Nat → Nat → Nat} (h : ∀ u, t1 (cbt s v) u = t2 (cbt s v) u) : stepT l at0 t1 s v = stepT l at0 t2 s v := by
  unfold stepT
  split
  · rfl
  · congr 1
    funext u
    rw [h u]
theorem tbA_eq {l : aLd} {at0 s v : Nat} (hs : s < 128) (hv : v < 7) (hb : s.testBit v = true) : tbA l at0 s v = stepT l at0 (tbA l at0) s v := by
  unfold tbA
  rw [tbF_st (n := s + 1) (by omega) (by omega), tbF]
  simp only [if_true]
  have := (cbt_less s hs v hv hb).1
  exact stepT_congr (fun u => (tbF_st this (by omega)).symm)
theorem foldM_le {p : Nat → Bool} {f : Nat → Nat} {z B : Nat} : ∀ {n : Nat}, (∀ u, u < n → p u = true → f u ≤ B ∨ 1000000 ≤ f u) → z = 1000000 → foldM p f z n ≤ B ∨ foldM p f z n = 1000000
  | 0, _, hz => Or.inr hz
  | n + 1, h, hz => by
    have ih := foldM_le (p := p) (f := f) (z := z) (B := B) (n := n) (fun u hu => h u (by omega)) hz
    simp only [foldM]
    split
    · next hp =>
      have := h n (by omega) hp
      unfold mnA
      split <;> omega
    · exact ih
theorem foldM_z {p : Nat → Bool} {f : Nat → Nat} {z : Nat} : ∀ {n : Nat}, foldM p f z n ≤ z
  | 0 => Nat.le_refl _
  | n + 1 => by
    have := foldM_z (p := p) (f := f) (z := z) (n := n)
    simp only [foldM]
    split
    · unfold mnA; split <;> omega
    · exact this
theorem tbA_le {l : aLd} {at0 : Nat} (hl : okL l) (ha : at0 < l.1) : ∀ (k s v : Nat), pc7 s = k → s < 2 ^ l.1 → v < l.1 → s.testBit v = true → tbA l at0 s v ≤ 121 * k ∨ tbA l at0 s v = 1000000 := by
  have h7 := hl.1.2
  intro k
  induction k with
  | zero =>
    intro s v hk hs hv hb
    have := (cbt_less s (Nat.lt_of_lt_of_le hs (pow7 h7)) v (by omega) hb).2.1
    omega
  | succ k ih =>
    intro s v hk hs hv hb
    have h128 := Nat.lt_of_lt_of_le hs (pow7 h7)
    have hc := cbt_less s h128 v (by omega) hb
    rw [tbA_eq h128 (by omega) hb]
    unfold stepT
    split
    · have := hl.2.2.2.2.2 at0 v ha hv
      unfold mnA
      split <;> omega
    · refine foldM_le (fun u hu hp => ?_) rfl
      have h1 := ih (cbt s v) u (by omega) (by omega) hu hp
      have h2 := hl.2.2.2.2.2 u v hu hv
      omega
theorem pc7_le : ∀ s, s < 128 → pc7 s ≤ 7 := by decide +kernel
theorem tbA_847 {l : aLd} {at0 s v : Nat} (hl : okL l) (ha : at0 < l.1) (hs : s < 2 ^ l.1) (hv : v < l.1) (hb : s.testBit v = true) : tbA l at0 s v ≤ 847 ∨ tbA l at0 s v = 1000000 := by
  have h := tbA_le hl ha (pc7 s) s v rfl hs hv hb
  have := pc7_le s (Nat.lt_of_lt_of_le hs (pow7 hl.1.2))
  omega
/-- the fewest days of asking a set -/
def shA (l : aLd) (at0 s : Nat) : Nat := if s = 0 then 0 else foldM (fun v => s.testBit v) (fun v => tbA l at0 s v) 1000000 l.1
theorem shA_847 {l : aLd} {at0 s : Nat} (hl : okL l) (ha : at0 < l.1) (hs : s < 2 ^ l.1) : shA l at0 s ≤ 847 ∨ shA l at0 s = 1000000 := by
  unfold shA
  split
  · omega
  · exact foldM_le (fun v hv hp => by have := tbA_847 hl ha hs hv hp; omega) rfl
theorem mx_nI {x y : Nat} (hx : x < 2 ^ 30) (hy : y < 2 ^ 30) : mxI (nI x) (nI y) = nI (mxA x y) := by
  unfold mxI mxA
  have e : (nI x < nI y) = (x < y) := propext (nI_ltI (by omega) (by omega))
  simp only [e]
  split <;> rfl
section SH
variable {G : xGl} {d N c p v : Nat} {w : aX} {l : aLd} {b : aBk} {M : xMem} {S : List xSh} {Q : Option Value → List xSh → xMem → Prop} {y : Int32}
theorem c_X7_walkTo {at0 s : Nat} (hl : okL l) (hL : rL M l) (ha : at0 < l.1) (hs : s < 2 ^ l.1) (hv : v < l.1) (hb : s.testBit v = true) (hw : ∀ u, u < l.1 → (cbt s v).testBit u = true → M 99 (cbt s v * 7 + u) = nI (tbA l at0 (cbt s v) u)) (hQ : Q (some (.int (nI (tbA l at0 s v)))) SF M) : xC G mX7_walkTo (d + 1) 0 0 [.ref (G.1 + 98), .int (nI at0), .int (nI (cbt s v)), .int (nI v)] SF M Q := by
  have s0 := sh98
  have s1 := sh99
  have l0 := sh18
  have l5 := sh23
  have h7 := hl.1.2
  have hn := hL.1
  have h128 := Nat.lt_of_lt_of_le hs (pow7 h7)
  have hc := cbt_less s h128 v (by omega) hb
  rw [tbA_eq h128 (by omega) hb] at hQ
  unfold stepT at hQ
  have hrow : ∀ a, a < 7 → SF[24 + a]? = some (.inl (.int, 7)) := fun a ha => by rcases (show a = 0 ∨ a = 1 ∨ a = 2 ∨ a = 3 ∨ a = 4 ∨ a = 5 ∨ a = 6 by omega) with rfl | rfl | rfl | rfl | rfl | rfl | rfl <;> rfl
  refine xC_intro [some (.ref (G.1 + 98)), some (.int (nI at0)), some (.int (nI (cbt s v))), some (.int (nI v)), none, none, none] rfl (by decide) (Nat.le_of_ble_eq_true rfl) ?_
  generalize hc0 : cbt s v = c0 at *
  have h0 := hrow at0 (by omega)
  have hf := hL.2.2.2.2 at0 v (by omega) (by omega)
  have hfl := hl.2.2.2.2.2 at0 v ha hv
  have K30 : c0 ≠ 0 → xW G mX7_walkTo (d + 1) 0 0 Q 30 [some (.ref (G.1 + 98)), some (.int (nI at0)), some (.int (nI c0)), some (.int (nI v)), some (.int (nI 1000000)), some (.int (nI 0)), none] [] SF M := by
    intro hz
    rw [if_neg hz] at hQ
    refine dn (P := fun i => ∀ A, xW G mX7_walkTo (d + 1) 0 0 Q 30 [some (.ref (G.1 + 98)), some (.int (nI at0)), some (.int (nI c0)), some (.int (nI v)), some (.int (nI (foldM (fun u => c0.testBit u) (fun u => tbA l at0 c0 u + l.2.2.2.2.2 u v + 1) 1000000 i))), some (.int (nI i)), A] [] SF M) l.1 ?_ ?_ 0 (by omega) none
    · intro A
      refine xs_iload eX7_walkTo_30 rfl ?_
      refine xs_aload eX7_walkTo_32 rfl ?_
      refine xs_getR eX7_walkTo_33 (by assumption) (by rfl) ?_
      refine xs_getI eX7_walkTo_36 (by assumption) (by rfl) ?_
      refine xs_eq1 hn ?_
      refine xs_N_ge eX7_walkTo_39 (by omega) (by omega) (fun h39 => ?_) (fun h => absurd h (by omega))
      refine xs_iload eX7_walkTo_95 rfl ?_
      exact xs_iretI eX7_walkTo_97 rfl (hQ)
    · intro u hu ih A
      have hfz := foldM_z (p := fun u => c0.testBit u) (f := fun u => tbA l at0 c0 u + l.2.2.2.2.2 u v + 1) (z := 1000000) (n := u)
      have h0 := hrow u (by omega)
      have hf := hL.2.2.2.2 u v (by omega) (by omega)
      have hfl := hl.2.2.2.2.2 u v hu hv
      simp only [foldM] at ih
      refine xs_iload eX7_walkTo_30 rfl ?_
      refine xs_aload eX7_walkTo_32 rfl ?_
      refine xs_getR eX7_walkTo_33 (by assumption) (by rfl) ?_
      refine xs_getI eX7_walkTo_36 (by assumption) (by rfl) ?_
      refine xs_eq1 hn ?_
      refine xs_N_ge eX7_walkTo_39 (by omega) (by omega) (fun h => absurd h (by omega)) (fun h39 => ?_)
      refine xs_iload eX7_walkTo_42 rfl ?_
      refine xs_iload eX7_walkTo_43 rfl ?_
      refine xs_ishr eX7_walkTo_45 ?_
      refine xs_K eX7_walkTo_46 ?_
      refine xs_iand eX7_walkTo_47 ?_
      refine xs_eq1 ((bt_ask _ (by omega)).trans (by rw [bt_nI (by omega)])) ?_
      refine xs_ifeqB eX7_walkTo_48 (fun h48 => ?_) (fun h48 => ?_)
      · refine xs_inc1 eX7_walkTo_89 rfl rfl rfl ?_
        refine xs_goto eX7_walkTo_92 ?_
        simp only [h48, Bool.false_eq_true, if_false] at ih
        exact ih _
      · have ht := tbA_847 hl ha (show c0 < 2 ^ l.1 by omega) hu h48
        have hwu := hw u hu h48
        refine xs_aload eX7_walkTo_51 rfl ?_
        refine xs_getR eX7_walkTo_52 (by assumption) (by rfl) ?_
        refine xs_iload eX7_walkTo_55 rfl ?_
        refine xs_K eX7_walkTo_56 ?_
        refine xs_imul eX7_walkTo_58 ?_
        refine xs_eq1 (pk_mul c0 7) ?_
        refine xs_iload eX7_walkTo_59 rfl ?_
        refine xs_iadd eX7_walkTo_61 ?_
        refine xs_eq1 (nI_add _ u) ?_
        refine xs_iald eX7_walkTo_62 (by assumption) (by omega) (by decide) ?_
        refine xs_eq1 hwu ?_
        refine xs_istore eX7_walkTo_63 (Nat.le_of_ble_eq_true rfl) rfl rfl ?_
        refine xs_iload eX7_walkTo_65 rfl ?_
        refine xs_iload eX7_walkTo_67 rfl ?_
        refine xs_aload eX7_walkTo_69 rfl ?_
        refine xs_getR eX7_walkTo_70 (by assumption) (by rfl) ?_
        refine xs_getR eX7_walkTo_73 (by assumption) (by rfl) ?_
        refine xs_iload eX7_walkTo_76 rfl ?_
        refine xs_aald eX7_walkTo_78 l5 rfl (ldI (c := 18) (by omega)) (Nat.le_of_ble_eq_true rfl) ?_
        refine xs_iload eX7_walkTo_79 rfl ?_
        refine xs_iald eX7_walkTo_80 (by assumption) (by omega) (by decide) ?_
        refine xs_eq1 hf ?_
        refine xs_iadd eX7_walkTo_81 ?_
        refine xs_eq1 (nI_add _ _) ?_
        refine xs_K eX7_walkTo_82 ?_
        refine xs_iadd eX7_walkTo_83 ?_
        refine xs_eq1 (nI_add _ 1) ?_
        refine xs_min fX7_walkTo_84 (Nat.le_of_ble_eq_true rfl) ?_
        refine xs_eq1 (mn_nI (by omega) (by omega)) ?_
        refine xs_istore eX7_walkTo_87 (Nat.le_of_ble_eq_true rfl) rfl rfl ?_
        refine xs_inc1 eX7_walkTo_89 rfl rfl rfl ?_
        refine xs_goto eX7_walkTo_92 ?_
        simp only [h48, if_true] at ih
        exact ih _
  refine xs_iload eX7_walkTo_0 rfl ?_
  refine xs_N0_ne eX7_walkTo_1 (by omega) (fun h1 => ?_) (fun h1 => ?_)
  · refine xs_K eX7_walkTo_23 ?_
    refine xs_istore eX7_walkTo_25 (Nat.le_of_ble_eq_true rfl) rfl rfl ?_
    refine xs_K eX7_walkTo_27 ?_
    refine xs_istore eX7_walkTo_28 (Nat.le_of_ble_eq_true rfl) rfl rfl ?_
    exact K30 h1
  · refine xs_K eX7_walkTo_4 ?_
    refine xs_aload eX7_walkTo_6 rfl ?_
    refine xs_getR eX7_walkTo_7 (by assumption) (by rfl) ?_
    refine xs_getR eX7_walkTo_10 (by assumption) (by rfl) ?_
    refine xs_iload eX7_walkTo_13 rfl ?_
    refine xs_aald eX7_walkTo_14 l5 rfl (ldI (c := 18) (by omega)) (Nat.le_of_ble_eq_true rfl) ?_
    refine xs_iload eX7_walkTo_15 rfl ?_
    refine xs_iald eX7_walkTo_16 (by assumption) (by omega) (by decide) ?_
    refine xs_eq1 hf ?_
    refine xs_K eX7_walkTo_17 ?_
    refine xs_iadd eX7_walkTo_18 ?_
    refine xs_eq1 (nI_add _ 1) ?_
    refine xs_min fX7_walkTo_19 (Nat.le_of_ble_eq_true rfl) ?_
    refine xs_eq1 (mn_nI (by omega) (by omega)) ?_
    exact xs_iretI eX7_walkTo_22 rfl (by rw [if_pos h1] at hQ; exact hQ)
/-- what walkFrom leaves: the walks and the shortest of all sets of the rest below n -/
def wkP (l : aLd) (M M1 : xMem) (r at0 c n : Nat) : Prop := (∀ a, a ≠ 99 → a ≠ c → M1 a = M a) ∧ (∀ s, s < n → s &&& r = s → M1 c s = nI (shA l at0 s)) ∧ ∀ s v, s < n → s &&& r = s → v < l.1 → s.testBit v = true → M1 99 (s * 7 + v) = nI (tbA l at0 s v)
theorem sub_z : ∀ s, s < 128 → ∀ r, r < 128 → (nI s &&& (nI r ^^^ (-1)) = 0 ↔ s &&& r = s) := by decide +kernel
theorem sub_c : ∀ s, s < 128 → ∀ r, r < 128 → s &&& r = s → ∀ v, v < 7 → cbt s v &&& r = cbt s v := by decide +kernel
theorem sub_lt {s r n : Nat} (hr : r < 2 ^ n) (h : s &&& r = s) : s < 2 ^ n := by rw [← h]; exact Nat.lt_of_le_of_lt Nat.and_le_right hr
end SH

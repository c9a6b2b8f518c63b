/-! who asks whom, by the code of a sharing; Sharing.shareOut, daysOfShares -/
def lfA (r np nv code : Nat) : Nat → Nat
  | 0 => code
  | k + 1 => if r.testBit (nv - 1 - k) then lfA r np nv code k / np else lfA r np nv code k
def whoA (r np nv code v : Nat) : Nat := lfA r np nv code (nv - 1 - v) % np
def setA (r np nv code p : Nat) : Nat := maskA (fun v => r.testBit v && decide (whoA r np nv code v = p)) nv
def setJ (r np nv code j p : Nat) : Nat := maskA (fun v => decide (j ≤ v) && (r.testBit v && decide (whoA r np nv code v = p))) nv
/-- how many days the first n parties take -/
def dyA (l : aLd) (b : aBk) (r code : Nat) : Nat → Option Nat
  | 0 => some 0
  | p + 1 => match dyA l b r code p with
    | none => none
    | some m => if shA l (b.2.2.2.2.1 p) (setA r l.2.1 l.1 code p) = 1000000 then none else some (mxA m (b.2.2.2.2.2 p + shA l (b.2.2.2.2.1 p) (setA r l.2.1 l.1 code p)))
/-- the first of the best sharings below a code: its days, its code -/
def bsA (l : aLd) (b : aBk) (r : Nat) : Nat → Option (Nat × Nat)
  | 0 => none
  | c + 1 => match dyA l b r c l.2.1 with
    | none => bsA l b r c
    | some dd => match bsA l b r c with
      | none => some (dd, c)
      | some q => if dd < q.1 then some (dd, c) else some q
def spSoon (w : aX) (y : Int32) : Int32 :=
  let r := restN w.2.1.1 w.2.2.1.1
  let bs := bsA w.2.1 w.2.2.1 r (w.2.1.2.1 ^ pc7 r)
  if y = -1 then (match bs with | none => (-4) | some q => nI q.1)
  else if inN y w.2.1.1 then (if w.2.2.1.1.testBit y.toNatClampNeg then (-4) else match bs with | none => (-4) | some q => nI (whoA r w.2.1.2.1 w.2.1.1 q.2 y.toNatClampNeg)) else (-1)
theorem lfA_le {r np nv code : Nat} : ∀ k, lfA r np nv code k ≤ code
  | 0 => Nat.le_refl _
  | k + 1 => by
    have := lfA_le (r := r) (np := np) (nv := nv) (code := code) k
    simp only [lfA]
    split
    · exact Nat.le_trans (Nat.div_le_self _ _) this
    · exact this
theorem setA_lt {r np nv code p : Nat} (h : nv ≤ 7) : setA r np nv code p < 2 ^ nv := sbt_mask h
theorem setA_bt {r np nv code p v : Nat} (h : nv ≤ 7) (hv : v < nv) : (setA r np nv code p).testBit v = (r.testBit v && decide (whoA r np nv code v = p)) := by
  rw [setA, maskA_bit h v (by omega), decide_eq_true hv, Bool.true_and]
theorem setA_sub {r np nv code p : Nat} (h : nv ≤ 7) (hr : r < 2 ^ nv) : setA r np nv code p &&& r = setA r np nv code p := by
  have h1 := Nat.lt_of_lt_of_le (setA_lt (r := r) (np := np) (code := code) (p := p) h) (pow7 h)
  refine bits_ext _ (and_lt (n := 7) h1) _ h1 (fun i hi => ?_)
  rw [Nat.testBit_and, setA, maskA_bit h i hi]
  cases decide (i < nv) <;> cases r.testBit i <;> simp
theorem setJ_0 {r np nv code p : Nat} : setJ r np nv code 0 p = setA r np nv code p := by
  unfold setJ setA
  simp
theorem setJ_n {r np nv code p : Nat} (h : nv ≤ 7) : setJ r np nv code nv p = 0 := by
  have h1 := Nat.lt_of_lt_of_le (sbt_mask (p := fun v => decide (nv ≤ v) && (r.testBit v && decide (whoA r np nv code v = p))) h) (pow7 h)
  refine bits_ext _ h1 _ (by decide) (fun i hi => ?_)
  have e1 : (setJ r np nv code nv p).testBit i = (decide (i < nv) && (decide (nv ≤ i) && (r.testBit i && decide (whoA r np nv code i = p)))) := maskA_bit h i hi
  refine e1.trans ?_
  by_cases e : i < nv
  · rw [decide_eq_false (p := nv ≤ i) (by omega)]; simp
  · rw [decide_eq_false e]; simp
theorem setJ_lt {r np nv code j p : Nat} (h : nv ≤ 7) : setJ r np nv code j p < 128 := Nat.lt_of_lt_of_le (sbt_mask h) (pow7 h)
theorem setJ_s {r np nv code v p : Nat} (h : nv ≤ 7) (hv : v < nv) : setJ r np nv code v p = if r.testBit v && decide (whoA r np nv code v = p) then sbt (setJ r np nv code (v + 1) p) v else setJ r np nv code (v + 1) p := by
  refine bits_ext _ (setJ_lt h) _ (by split; exact (bon_nI _ (setJ_lt h) v (by omega)).2; exact setJ_lt h) (fun i hi => ?_)
  have e1 : (setJ r np nv code v p).testBit i = (decide (i < nv) && (decide (v ≤ i) && (r.testBit i && decide (whoA r np nv code i = p)))) := maskA_bit h i hi
  have e2 : (setJ r np nv code (v + 1) p).testBit i = (decide (i < nv) && (decide (v + 1 ≤ i) && (r.testBit i && decide (whoA r np nv code i = p)))) := maskA_bit h i hi
  rw [e1]
  by_cases e : i = v
  · subst e
    split
    · next hh => rw [sbt_bit _ (setJ_lt h) i (by omega) i hi, hh]; simp [hv]
    · next hh => rw [e2, Bool.eq_false_iff.mpr hh]; simp
  · have e3 : decide (v ≤ i) = decide (v + 1 ≤ i) := decide_eq_decide.mpr (by omega)
    rw [e3, ← e2]
    split
    · rw [sbt_bit _ (setJ_lt h) v (by omega) i hi]; simp [e]
    · rfl
def vJ (j : Nat) : Int32 := nI j - nI 1
theorem vJ_s (v : Nat) : vJ (v + 1) = nI v := nI_pred v
theorem vJ_0 : vJ 0 < 0 := by decide
theorem vJ_d (v : Nat) : nI v + Int32.ofInt (-1) = vJ v := by
  unfold vJ
  rw [Int32.sub_eq_add_neg]
  rfl
section S3
variable {G : xGl} {d N c p v : Nat} {w : aX} {l : aLd} {b : aBk} {M : xMem} {S : List xSh} {Q : Option Value → List xSh → xMem → Prop} {y : Int32}
theorem c_X7_shareOut {code r : Nat} (hl : okL l) (hL : rL M l) (hc : code < 2 ^ 30) (hr : r < 128) (hQ : ∀ M1, (∀ a, a ≠ 104 → M1 a = M a) → (∀ p, p < 3 → M1 104 p = nI (setA r l.2.1 l.1 code p)) → Q none SF M1) : xC G mX7_shareOut (d + 5) 0 0 [.ref (G.1 + 98), .int (nI code), .int (nI r)] SF M Q := by
  have s0 := sh98
  have s1 := sh104
  have l0 := sh18
  have h7 := hl.1.2
  have hp1 := hl.2.1
  refine xC_intro [some (.ref (G.1 + 98)), some (.int (nI code)), some (.int (nI r)), none, none] rfl (by decide) (Nat.le_of_ble_eq_true rfl) ?_
  have L : ∀ j, j ≤ l.1 → ∀ M1 : xMem, (∀ a, a ≠ 104 → M1 a = M a) → (∀ p, p < 3 → M1 104 p = nI (setJ r l.2.1 l.1 code j p)) → xW G mX7_shareOut (d + 5) 0 0 Q 21 [some (.ref (G.1 + 98)), some (.int (nI code)), some (.int (nI r)), some (.int (nI (lfA r l.2.1 l.1 code (l.1 - j)))), some (.int (vJ j))] [] SF M1 := by
    intro j
    induction j with
    | zero =>
      intro hj M1 f1 f2
      have h9 := hQ M1 f1 (fun p hp => by rw [f2 p hp, setJ_0])
      refine xs_iload eX7_shareOut_21 rfl ?_
      refine xs_if_lt eX7_shareOut_23 (fun h23 => ?_) (fun h => absurd vJ_0 h)
      exact xs_vret eX7_shareOut_82 rfl (h9)
    | succ v ih =>
      intro hj M1 f1 f2
      have e5 : M1 18 5 = nI l.1 := by rw [f1 18 (by decide)]; exact hL.1
      have e6 : M1 18 6 = nI l.2.1 := by rw [f1 18 (by decide)]; exact hL.2.1
      have nz : ¬ nI l.2.1 = 0 := nI_ne0 (by omega) (by omega)
      have hlf := lfA_le (r := r) (np := l.2.1) (nv := l.1) (code := code) (l.1 - (v + 1))
      have hwh : whoA r l.2.1 l.1 code v = lfA r l.2.1 l.1 code (l.1 - (v + 1)) % l.2.1 := by rw [whoA, show l.1 - 1 - v = l.1 - (v + 1) by omega]
      have hlt : lfA r l.2.1 l.1 code (l.1 - (v + 1)) % l.2.1 < l.2.1 := Nat.mod_lt _ (by omega)
      have hnx : lfA r l.2.1 l.1 code (l.1 - v) = if r.testBit v then lfA r l.2.1 l.1 code (l.1 - (v + 1)) / l.2.1 else lfA r l.2.1 l.1 code (l.1 - (v + 1)) := by
        rw [show l.1 - v = l.1 - (v + 1) + 1 by omega, lfA, show l.1 - 1 - (l.1 - (v + 1)) = v by omega]
      have ih' := ih (by omega)
      rw [hnx] at ih'
      have f2' : ∀ p, setJ r l.2.1 l.1 code v p = if r.testBit v && decide (whoA r l.2.1 l.1 code v = p) then sbt (setJ r l.2.1 l.1 code (v + 1) p) v else setJ r l.2.1 l.1 code (v + 1) p := fun p => setJ_s h7 (by omega)
      generalize lfA r l.2.1 l.1 code (l.1 - (v + 1)) = lf at *
      rw [vJ_s]
      refine xs_iload eX7_shareOut_21 rfl ?_
      refine xs_N0_lt eX7_shareOut_23 (by omega) ?_
      refine xs_aload eX7_shareOut_26 rfl ?_
      refine xs_getR eX7_shareOut_27 (by assumption) (by rfl) ?_
      refine xs_getI eX7_shareOut_30 (by assumption) (by rfl) ?_
      refine xs_eq1 e6 ?_
      refine xs_N0_le eX7_shareOut_33 (by omega) (fun h => absurd h (by omega)) (fun h33 => ?_)
      refine xs_iload eX7_shareOut_36 rfl ?_
      refine xs_iload eX7_shareOut_37 rfl ?_
      refine xs_ishr eX7_shareOut_39 ?_
      refine xs_K eX7_shareOut_40 ?_
      refine xs_iand eX7_shareOut_41 ?_
      refine xs_eq1 ((bt_ask _ (by omega)).trans (by rw [bt_nI (by omega)])) ?_
      refine xs_ifeqB eX7_shareOut_42 (fun h42 => ?_) (fun h42 => ?_)
      · refine xs_iinc eX7_shareOut_76 rfl rfl rfl rfl ?_
        refine xs_goto eX7_shareOut_79 ?_
        simp only [h42, Bool.false_eq_true, if_false] at ih'
        rw [vJ_d]
        exact ih' M1 f1 (fun p hp => by rw [f2 p hp, f2' p, h42]; rfl)
      · refine xs_aload eX7_shareOut_45 rfl ?_
        refine xs_getR eX7_shareOut_46 (by assumption) (by rfl) ?_
        refine xs_iload eX7_shareOut_49 rfl ?_
        refine xs_aload eX7_shareOut_50 rfl ?_
        refine xs_getR eX7_shareOut_51 (by assumption) (by rfl) ?_
        refine xs_getI eX7_shareOut_54 (by assumption) (by rfl) ?_
        refine xs_eq1 e6 ?_
        refine xs_irem eX7_shareOut_57 (nz) ?_
        refine xs_eq1 (pk_rem (by omega) (by omega) (by omega)) ?_
        refine xs_dup2 eX7_shareOut_58 rfl rfl ?_
        refine xs_iald eX7_shareOut_59 (by assumption) (by omega) (by decide) ?_
        refine xs_eq1 (f2 _ (by omega)) ?_
        refine xs_K eX7_shareOut_60 ?_
        refine xs_iload eX7_shareOut_61 rfl ?_
        refine xs_ishl eX7_shareOut_63 ?_
        refine xs_ior eX7_shareOut_64 ?_
        refine xs_eq1 (bon_nI _ (setJ_lt h7) v (by omega)).1 ?_
        refine xs_iast eX7_shareOut_65 (by assumption) (by omega) (by decide) ?_
        refine xs_iload eX7_shareOut_66 rfl ?_
        refine xs_aload eX7_shareOut_67 rfl ?_
        refine xs_getR eX7_shareOut_68 (by assumption) (by rfl) ?_
        refine xs_getI eX7_shareOut_71 (by assumption) (by rfl) ?_
        refine xs_eq1 (z := nI l.2.1) (by rw [up2_ne (by decide)]; exact e6) ?_
        refine xs_idiv eX7_shareOut_74 (nz) ?_
        refine xs_eq1 (pk_div (by omega) (by omega) (by omega)) ?_
        refine xs_istore eX7_shareOut_75 (Nat.le_of_ble_eq_true rfl) rfl rfl ?_
        refine xs_iinc eX7_shareOut_76 rfl rfl rfl rfl ?_
        refine xs_goto eX7_shareOut_79 ?_
        simp only [h42, if_true] at ih'
        rw [vJ_d]
        refine ih' _ (fun a ha => by rw [up2_ne ha]; exact f1 a ha) (fun p hp => ?_)
        rw [up2_x, f2' p, h42, hwh]
        by_cases e : p = lf % l.2.1
        · rw [if_pos e, ← e, decide_eq_true rfl]; rfl
        · rw [if_neg e, decide_eq_false (fun q => e q.symm)]; exact f2 p hp
  have hL0 := L l.1 (Nat.le_refl _) (setR M 104 (fun _ => nI 0)) (fun a ha => setR_ne ha) (fun p hp => by rw [setR_row, setJ_n h7])
  rw [Nat.sub_self] at hL0
  have e5 : setR M 104 (fun _ => nI 0) 18 5 = nI l.1 := by rw [setR_ne (by decide)]; exact hL.1
  refine xs_aload eX7_shareOut_0 rfl ?_
  refine xs_getR eX7_shareOut_1 (by assumption) (by rfl) ?_
  refine xs_K eX7_shareOut_4 ?_
  refine xs_callS2v eX7_shareOut_5 (Nat.le_of_ble_eq_true rfl) (c_fill s1 (by decide) ⟨rfl, ?_⟩)
  refine xs_iload eX7_shareOut_8 rfl ?_
  refine xs_istore eX7_shareOut_9 (Nat.le_of_ble_eq_true rfl) rfl rfl ?_
  refine xs_aload eX7_shareOut_10 rfl ?_
  refine xs_getR eX7_shareOut_11 (by assumption) (by rfl) ?_
  refine xs_getI eX7_shareOut_14 (by assumption) (by rfl) ?_
  refine xs_eq1 e5 ?_
  refine xs_K eX7_shareOut_17 ?_
  refine xs_isub eX7_shareOut_18 ?_
  refine xs_istore eX7_shareOut_19 (Nat.le_of_ble_eq_true rfl) rfl rfl ?_
  exact hL0
/-- what Sharing has of the shortest ones -/
def shP (M : xMem) (l : aLd) (b : aBk) (r n : Nat) : Prop := ∀ p, p < n → ∀ s, s < 128 → s &&& r = s → M (101 + p) s = nI (shA l (b.2.2.2.2.1 p) s)
def optD (o : Option Nat) : Int32 := match o with
  | none => (-4)
  | some m => nI m
theorem dyA_le {code r dy : Nat} (hl : okL l) (hB : okB l.1 dy b) : ∀ {n m : Nat}, n ≤ 3 → dyA l b r code n = some m → m ≤ dy + 847
  | 0, m, _, h => by cases h; omega
  | n + 1, m, hn, h => by
    rw [dyA] at h
    cases hx : dyA l b r code n with
    | none => rw [hx] at h; cases h
    | some m0 =>
      rw [hx] at h
      simp only at h
      split at h
      · cases h
      · next hne =>
        cases h
        have h0 := dyA_le hl hB (by omega) hx
        have h1 := shA_847 (s := setA r l.2.1 l.1 code n) hl (hB.2.2.2.2 n (by omega)).1 (setA_lt hl.1.2)
        have h2 := (hB.2.2.2.2 n (by omega)).2
        unfold mxA
        split <;> omega
theorem dyA_no {code r : Nat} : ∀ {n m : Nat}, n ≤ m → dyA l b r code n = none → dyA l b r code m = none
  | n, 0, h, hn => by rw [show n = 0 by omega] at hn; exact hn
  | n, m + 1, h, hn => by
    by_cases e : n = m + 1
    · rw [← e]; exact hn
    · rw [dyA, dyA_no (n := n) (m := m) (by omega) hn]
theorem c_X7_daysOfShares {code r dy : Nat} (hl : okL l) (hL : rL M l) (hb : rB M 31 b) (hB : okB l.1 dy b) (hdy : dy < 2 ^ 29) (hr : r < 2 ^ l.1) (hS : shP M l b r l.2.1) (hA : ∀ p, p < 3 → M 104 p = nI (setA r l.2.1 l.1 code p)) (hQ : Q (some (.int (optD (dyA l b r code l.2.1)))) SF M) : xC G mX7_daysOfShares (d + 1) 0 0 [.ref (G.1 + 98), .ref (G.1 + 31)] SF M Q := by
  have s0 := sh98
  have s1 := sh104
  have s2 := sh100
  have l0 := sh18
  have b0 := bk0 isBk31
  have b4 := bk4 isBk31
  have h7 := hl.1.2
  have h3 := hl.2.1.2
  have e6 := hL.2.1
  have hrow : ∀ a, a < 3 → SF[101 + a]? = some (.inl (.int, 128)) := fun a ha => by rcases (show a = 0 ∨ a = 1 ∨ a = 2 by omega) with rfl | rfl | rfl <;> rfl
  have hai : ∀ a, a < 3 → ([some 101, some 102, some 103] : List (Option Nat))[a]? = some (some (101 + a)) := fun a ha => by rcases (show a = 0 ∨ a = 1 ∨ a = 2 by omega) with rfl | rfl | rfl <;> rfl
  refine xC_intro [some (.ref (G.1 + 98)), some (.ref (G.1 + 31)), none, none, none] rfl (by decide) (Nat.le_of_ble_eq_true rfl) ?_
  refine xs_K eX7_daysOfShares_0 ?_
  refine xs_istore eX7_daysOfShares_1 (Nat.le_of_ble_eq_true rfl) rfl rfl ?_
  refine xs_K eX7_daysOfShares_2 ?_
  refine xs_istore eX7_daysOfShares_3 (Nat.le_of_ble_eq_true rfl) rfl rfl ?_
  refine dn (P := fun p => ∀ (m : Nat) (A : Option Value), dyA l b r code p = some m → xW G mX7_daysOfShares (d + 1) 0 0 Q 4 [some (.ref (G.1 + 98)), some (.ref (G.1 + 31)), some (.int (nI m)), some (.int (nI p)), A] [] SF M) l.2.1 ?_ ?_ 0 (by omega) 0 none rfl
  · intro m A hm
    rw [hm] at hQ
    refine xs_iload eX7_daysOfShares_4 rfl ?_
    refine xs_aload eX7_daysOfShares_5 rfl ?_
    refine xs_getR eX7_daysOfShares_6 (by assumption) (by rfl) ?_
    refine xs_getI eX7_daysOfShares_9 (by assumption) (by rfl) ?_
    refine xs_eq1 e6 ?_
    refine xs_N_ge eX7_daysOfShares_12 (by omega) (by omega) (fun h12 => ?_) (fun h => absurd h (by omega))
    refine xs_iload eX7_daysOfShares_60 rfl ?_
    exact xs_iretI eX7_daysOfShares_61 rfl (hQ)
  · intro p hp ih m A hm
    have hal := (hB.2.2.2.2 p (by omega)).1
    have hdl := (hB.2.2.2.2 p (by omega)).2
    have hml := dyA_le hl hB (by omega) hm
    have hsl := setA_lt (r := r) (np := l.2.1) (code := code) (p := p) h7
    have hs128 := Nat.lt_of_lt_of_le hsl (pow7 h7)
    have hsh := hS p hp _ hs128 (setA_sub (np := l.2.1) (code := code) (p := p) h7 hr)
    have h847 := shA_847 (s := setA r l.2.1 l.1 code p) hl hal hsl
    have hd := (hb.2.2.2 p (by omega)).2
    have hap := hA p (by omega)
    have h0 := hrow p (by omega)
    rw [dyA, hm] at ih
    simp only at ih
    refine xs_iload eX7_daysOfShares_4 rfl ?_
    refine xs_aload eX7_daysOfShares_5 rfl ?_
    refine xs_getR eX7_daysOfShares_6 (by assumption) (by rfl) ?_
    refine xs_getI eX7_daysOfShares_9 (by assumption) (by rfl) ?_
    refine xs_eq1 e6 ?_
    refine xs_N_ge eX7_daysOfShares_12 (by omega) (by omega) (fun h => absurd h (by omega)) (fun h12 => ?_)
    refine xs_aload eX7_daysOfShares_15 rfl ?_
    refine xs_getR eX7_daysOfShares_16 (by assumption) (by rfl) ?_
    refine xs_iload eX7_daysOfShares_19 rfl ?_
    refine xs_aald eX7_daysOfShares_20 s2 rfl (hai p (by omega)) (Nat.le_of_ble_eq_true rfl) ?_
    refine xs_aload eX7_daysOfShares_21 rfl ?_
    refine xs_getR eX7_daysOfShares_22 (by assumption) (by rfl) ?_
    refine xs_iload eX7_daysOfShares_25 rfl ?_
    refine xs_iald eX7_daysOfShares_26 (by assumption) (by omega) (by decide) ?_
    refine xs_eq1 hap ?_
    refine xs_iald eX7_daysOfShares_27 (by assumption) (by omega) (by decide) ?_
    refine xs_eq1 hsh ?_
    refine xs_istore eX7_daysOfShares_28 (Nat.le_of_ble_eq_true rfl) rfl rfl ?_
    refine xs_iload eX7_daysOfShares_30 rfl ?_
    refine xs_K eX7_daysOfShares_32 ?_
    refine xs_N_lt eX7_daysOfShares_34 (by omega) (by omega) (fun h34 => ?_) (fun h34 => ?_)
    · refine xs_iload eX7_daysOfShares_40 rfl ?_
      refine xs_aload eX7_daysOfShares_41 rfl ?_
      refine xs_getR eX7_daysOfShares_42 (by assumption) (by rfl) ?_
      refine xs_iload eX7_daysOfShares_45 rfl ?_
      refine xs_iald eX7_daysOfShares_46 (by assumption) (by omega) (by decide) ?_
      refine xs_eq1 hd ?_
      refine xs_iload eX7_daysOfShares_47 rfl ?_
      refine xs_iadd eX7_daysOfShares_49 ?_
      refine xs_eq1 (nI_add _ _) ?_
      refine xs_max fX7_daysOfShares_50 (Nat.le_of_ble_eq_true rfl) ?_
      refine xs_eq1 (mx_nI (by omega) (by omega)) ?_
      refine xs_istore eX7_daysOfShares_53 (Nat.le_of_ble_eq_true rfl) rfl rfl ?_
      refine xs_inc1 eX7_daysOfShares_54 rfl rfl rfl ?_
      refine xs_goto eX7_daysOfShares_57 ?_
      rw [if_neg (by omega)] at ih
      exact ih _ _ rfl
    · refine xs_K eX7_daysOfShares_37 ?_
      exact xs_iretI eX7_daysOfShares_39 rfl (Qev hQ (by rw [dyA_no (n := p + 1) (by omega) (by rw [dyA, hm]; simp only; rw [if_pos (by omega)])]; rfl))
end S3

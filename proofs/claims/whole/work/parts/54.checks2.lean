/-! checks of the class -/
theorem ckA_lt {nv n : Nat} {b : aBk} : ∀ (m t : Nat), ckA nv b n m = some t → t < m := by
  intro m
  induction m with
  | zero => intro t h; cases h
  | succ m ihm =>
    intro t h
    rw [ckA] at h
    split at h
    · cases hy : ckA nv b n m with
      | none => rw [hy] at h; cases h; omega
      | some u =>
        rw [hy] at h
        simp only at h
        split at h
        · cases h; omega
        · cases h; have := ihm _ hy; omega
    · have := ihm t h; omega
section CK
variable {G : xGl} {d N p v : Nat} {w : aX} {l : aLd} {b : aBk} {M : xMem} {S : List xSh} {Q : Option Value → List xSh → xMem → Prop} {y y1 y2 : Int32}
theorem gn_eq {nv s : Nat} (h7 : nv ≤ 7) (hB : rB M 31 b) : gainF nv (nI s) (M 32) (M 33) = gnA nv b s := by
  unfold gainF gnA
  have : ∀ n, n ≤ nv → sumN (fun v => if bt (nI s) v then M 32 v - M 33 v else nI 0) n = sumN (fun v => if s.testBit v then nI (b.2.2.1 v) - nI (b.2.2.2.1 v) else nI 0) n := by
    intro n
    induction n with
    | zero => intro _; rfl
    | succ n ih =>
      intro hn
      have h9 := hB.2.2.1 n (by omega)
      rw [sumN, sumN, ih (by omega), bt_nI (by omega)]
      rw [show M 32 n = nI (b.2.2.1 n) from h9.1, show M 33 n = nI (b.2.2.2.1 n) from h9.2]
  exact this nv (Nat.le_refl _)
def ckI (o : Option Nat) : Int32 := match o with
  | none => (-4)
  | some s => nI s
theorem c_X9_bestChecks {k : Nat} (hk : k ≤ 3) (hL : rL M l) (hl : okL l) (hB : rB M 31 b) (h1 : b.1 < 128) (h2 : b.2.1 < 128) (hQ : Q (some (.int (ckI (ckA l.1 b (mnA k (pc7 (opA b))) 128)))) SF M) : xC G mX9_bestChecks (d + 2) 0 0 [.ref (G.1 + 0), .int (nI k)] SF M Q := by
  have s0 := sh0
  have b0 := bk0 isBk31
  have isb := isBk31
  have h7 := hl.1.2
  have hn := hL.1
  have ho : opA b < 128 := sbt_mask (n := 7) (by decide)
  have hpo := pc7_le _ ho
  have hop := op_nI h1 h2
  have hib := hB.1
  have hck := hB.2.1
  refine xC_intro [some (.ref (G.1 + 0)), some (.int (nI k)), none, none, none, none] rfl (by decide) (Nat.le_of_ble_eq_true rfl) ?_
  refine xs_aload eX9_bestChecks_0 rfl ?_
  refine xs_getR eX9_bestChecks_1 (by assumption) (by rfl) ?_
  refine xs_getI eX9_bestChecks_4 (by assumption) (by rfl) ?_
  refine xs_eq1 hib ?_
  refine xs_aload eX9_bestChecks_7 rfl ?_
  refine xs_getR eX9_bestChecks_8 (by assumption) (by rfl) ?_
  refine xs_getI eX9_bestChecks_11 (by assumption) (by rfl) ?_
  refine xs_eq1 hck ?_
  refine xs_K eX9_bestChecks_14 ?_
  refine xs_ixor eX9_bestChecks_15 ?_
  refine xs_iand eX9_bestChecks_16 ?_
  refine xs_eq1 hop ?_
  refine xs_istore eX9_bestChecks_17 (Nat.le_of_ble_eq_true rfl) rfl rfl ?_
  refine xs_iload eX9_bestChecks_18 rfl ?_
  refine xs_iload eX9_bestChecks_19 rfl ?_
  refine xs_callS1i eX9_bestChecks_20 (Nat.le_of_ble_eq_true rfl) (c_bitCount ho ⟨_, rfl, ?_⟩)
  refine xs_min fX9_bestChecks_23 (Nat.le_of_ble_eq_true rfl) ?_
  refine xs_eq1 (mn_nI (by omega) (by omega)) ?_
  refine xs_istore eX9_bestChecks_26 (Nat.le_of_ble_eq_true rfl) rfl rfl ?_
  refine xs_K eX9_bestChecks_27 ?_
  refine xs_istore eX9_bestChecks_29 (Nat.le_of_ble_eq_true rfl) rfl rfl ?_
  refine xs_K eX9_bestChecks_31 ?_
  refine xs_istore eX9_bestChecks_32 (Nat.le_of_ble_eq_true rfl) rfl rfl ?_
  generalize hn0 : mnA k (pc7 (opA b)) = n0 at *
  have hn7 : n0 ≤ 7 := by rw [← hn0]; unfold mnA; split <;> omega
  rw [show (if pc7 (opA b) < k then pc7 (opA b) else k) = n0 from hn0]
  refine dn (P := fun s => xW G mX9_bestChecks (d + 2) 0 0 Q 34 [some (.ref (G.1 + 0)), some (.int (nI k)), some (.int (nI (opA b))), some (.int (nI n0)), some (.int (ckI (ckA l.1 b n0 s))), some (.int (nI s))] [] SF M) 128 ?_ ?_ 0 (by omega)
  · refine xs_iload eX9_bestChecks_34 rfl ?_
    refine xs_K eX9_bestChecks_36 ?_
    refine xs_N_ge eX9_bestChecks_39 (by omega) (by omega) (fun h39 => ?_) (fun h => absurd h (by omega))
    refine xs_iload eX9_bestChecks_98 rfl ?_
    exact xs_iretI eX9_bestChecks_100 rfl (hQ)
  · intro s hs ih
    have hsub := sub_z s hs (opA b) ho
    have hps := pc7_le s hs
    have hg := fun t => gn_eq (s := t) h7 hB
    rw [ckA] at ih
    have no : ckV (opA b) n0 s = false → xW G mX9_bestChecks (d + 2) 0 0 Q 92 [some (.ref (G.1 + 0)), some (.int (nI k)), some (.int (nI (opA b))), some (.int (nI n0)), some (.int (ckI (ckA l.1 b n0 s))), some (.int (nI s))] [] SF M := by
      intro h
      rw [if_neg (by rw [h]; decide)] at ih
      refine xs_inc1 eX9_bestChecks_92 rfl rfl rfl ?_
      refine xs_goto eX9_bestChecks_95 ?_
      exact ih
    have yes : ckV (opA b) n0 s = true → xW G mX9_bestChecks (d + 2) 0 0 Q 60 [some (.ref (G.1 + 0)), some (.int (nI k)), some (.int (nI (opA b))), some (.int (nI n0)), some (.int (ckI (ckA l.1 b n0 s))), some (.int (nI s))] [] SF M := by
      intro h
      rw [if_pos h] at ih
      cases hx : ckA l.1 b n0 s with
      | none =>
        rw [hx] at ih
        refine xs_iload eX9_bestChecks_60 rfl ?_
        refine xs_K eX9_bestChecks_62 ?_
        refine xs_icmp_eq eX9_bestChecks_64 (fun h64 => ?_) (fun h => absurd (rfl) h)
        refine xs_iload eX9_bestChecks_88 rfl ?_
        refine xs_istore eX9_bestChecks_90 (Nat.le_of_ble_eq_true rfl) rfl rfl ?_
        refine xs_inc1 eX9_bestChecks_92 rfl rfl rfl ?_
        refine xs_goto eX9_bestChecks_95 ?_
        exact ih
      | some t =>
        rw [hx] at ih
        simp only at ih
        have hne : ¬ (nI t = -4) := fun e => by
          have ht : t < 128 := by have := ckA_lt s t hx; omega
          have h9 := nI_pos (n := t) (by omega)
          rw [e] at h9
          exact h9 (by decide)
        refine xs_iload eX9_bestChecks_60 rfl ?_
        refine xs_K eX9_bestChecks_62 ?_
        refine xs_icmp_eq eX9_bestChecks_64 (fun h => absurd h (hne)) (fun h64 => ?_)
        refine xs_aload eX9_bestChecks_67 rfl ?_
        refine xs_getR eX9_bestChecks_68 (by assumption) (by rfl) ?_
        refine xs_iload eX9_bestChecks_71 rfl ?_
        refine xs_callV1i eX9_bestChecks_73 (by assumption) (Nat.le_of_ble_eq_true rfl) (c_X0_gainOf isb hn h7 ⟨_, rfl, ?_⟩)
        rw [hg s]
        refine xs_aload eX9_bestChecks_76 rfl ?_
        refine xs_getR eX9_bestChecks_77 (by assumption) (by rfl) ?_
        refine xs_iload eX9_bestChecks_80 rfl ?_
        refine xs_callV1i eX9_bestChecks_82 (by assumption) (Nat.le_of_ble_eq_true rfl) (c_X0_gainOf isb hn h7 ⟨_, rfl, ?_⟩)
        rw [show ckI (some t) = nI t from rfl, hg t]
        refine xs_icmp_le eX9_bestChecks_85 (fun h85 => ?_) (fun h85 => ?_)
        · refine xs_inc1 eX9_bestChecks_92 rfl rfl rfl ?_
          refine xs_goto eX9_bestChecks_95 ?_
          rw [if_neg (Int32.not_lt.mpr h85)] at ih
          exact ih
        · refine xs_iload eX9_bestChecks_88 rfl ?_
          refine xs_istore eX9_bestChecks_90 (Nat.le_of_ble_eq_true rfl) rfl rfl ?_
          refine xs_inc1 eX9_bestChecks_92 rfl rfl rfl ?_
          refine xs_goto eX9_bestChecks_95 ?_
          rw [if_pos (Int32.not_le.mp h85)] at ih
          exact ih
    refine xs_iload eX9_bestChecks_34 rfl ?_
    refine xs_K eX9_bestChecks_36 ?_
    refine xs_N_ge eX9_bestChecks_39 (by omega) (by omega) (fun h => absurd h (by omega)) (fun h39 => ?_)
    refine xs_iload eX9_bestChecks_42 rfl ?_
    refine xs_iload eX9_bestChecks_44 rfl ?_
    refine xs_K eX9_bestChecks_45 ?_
    refine xs_ixor eX9_bestChecks_46 ?_
    refine xs_iand eX9_bestChecks_47 ?_
    refine xs_if_ne eX9_bestChecks_48 (fun h48 => ?_) (fun h48 => ?_)
    · exact no (by rw [ckV, decide_eq_false (fun q => h48 (hsub.mpr q))]; rfl)
    · refine xs_iload eX9_bestChecks_51 rfl ?_
      refine xs_callS1i eX9_bestChecks_53 (Nat.le_of_ble_eq_true rfl) (c_bitCount hs ⟨_, rfl, ?_⟩)
      refine xs_iload eX9_bestChecks_56 rfl ?_
      refine xs_N_ne eX9_bestChecks_57 (by omega) (by omega) (fun h57 => ?_) (fun h57 => ?_)
      · exact no (by rw [ckV, decide_eq_false (p := pc7 s = n0) h57, Bool.and_false])
      · exact yes (by rw [ckV, decide_eq_true (hsub.mp h48), decide_eq_true h57]; rfl)
end CK

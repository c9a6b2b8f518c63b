/-! checks: the class's face; the reference -/
theorem ck_get {nv k : Nat} {b : aBk} : ∃ s, ckA nv b (mnA k (pc7 (opA b))) 128 = some s := by
  have ho : opA b < 128 := sbt_mask (n := 7) (by decide)
  have h := ck_ex (opA b) ho (mnA k (pc7 (opA b))) (by unfold mnA; split <;> omega)
  obtain ⟨s, hs, hv⟩ := List.any_eq_true.mp h
  exact Option.isSome_iff_exists.mp (ckA_some (List.mem_range.mp hs) hv)
theorem ckA_top {nv n k : Nat} {b : aBk} (ho : opA b < 2 ^ nv) : ∀ j, ckA nv b n (2 ^ nv + j) = ckA nv b n (2 ^ nv)
  | 0 => rfl
  | j + 1 => by
    rw [show 2 ^ nv + (j + 1) = (2 ^ nv + j) + 1 by omega, ckA, if_neg, ckA_top (k := k) ho j]
    intro h
    simp only [ckV, Bool.and_eq_true, decide_eq_true_eq] at h
    have := sub_lt ho h.1
    omega
theorem opA_lt {nv : Nat} {b : aBk} (h7 : nv ≤ 7) (h : b.1 < 2 ^ nv) : opA b < 2 ^ nv := by
  have e : opA b &&& b.1 = opA b := by
    have ho : opA b < 128 := sbt_mask (n := 7) (by decide)
    refine bits_ext _ (and_lt (n := 7) ho) _ ho (fun i hi => ?_)
    rw [Nat.testBit_and, opA, maskA_bit (by decide) i hi]
    cases b.1.testBit i <;> simp
  exact sub_lt h e
theorem gn_rng {b : aBk} {s : Nat} (ho : ∀ v, v < 7 → b.2.2.1 v ≤ 420) (hw : ∀ v, v < 7 → b.2.2.2.1 v ≤ 420)   : ∀ n : Nat, n ≤ 7 → ∃ z : Int, -(420 * (n : Int)) ≤ z ∧ z ≤ 420 * (n : Int) ∧ gnA n b s = Int32.ofInt z
  | 0, _ => ⟨0, by omega, by omega, by show nI 0 = Int32.ofInt 0; decide⟩
  | n + 1, h => by
    obtain ⟨z, z1, z2, z3⟩ := gn_rng (s := s) ho hw n (by omega)
    have h1 := ho n (by omega)
    have h2 := hw n (by omega)
    unfold gnA at z3 ⊢
    rw [sumN, z3]
    split
    · refine ⟨z + ((b.2.2.1 n : Int) - (b.2.2.2.1 n : Int)), by omega, by omega, ?_⟩
      rw [Int32.ofInt_add, Int32.ofInt_sub]
      rfl
    · exact ⟨z, by omega, by omega, by rw [show nI 0 = 0 from rfl, Int32.add_zero]⟩
theorem gn_hi {nv s : Nat} {b : aBk} (h7 : nv ≤ 7) (ho : ∀ v, v < 7 → b.2.2.1 v ≤ 420) (hw : ∀ v, v < 7 → b.2.2.2.1 v ≤ 420) : ¬ gnA nv b s ≤ -9999 := by
  obtain ⟨z, z1, z2, z3⟩ := gn_rng (s := s) ho hw nv h7
  rw [z3, Int32.le_iff_toInt_le, Int32.toInt_ofInt_of_le (by omega) (by omega)]
  have : (-9999 : Int32).toInt = -9999 := by decide
  omega
section CK3
variable {G : xGl} {d N p v : Nat} {w : aX} {l : aLd} {b : aBk} {M : xMem} {S : List xSh} {Q : Option Value → List xSh → xMem → Prop} {y y1 y2 : Int32}
theorem c_X9_checks (hR : repC w M) (hok : okX N w) (hQ : Q (some (.int (spChecks w y1 y2))) SF M) : xC G mX9_checks (d + 9) 0 0 [.ref (G.1 + 0), .int y1, .int y2] SF M Q := by
  have s0 := sh0
  have b0 := bk0 isBk31
  have isb := isBk31
  obtain ⟨-, hL, hB, -⟩ := id hR
  have hl := hok.2.1
  have h7 := hl.1.2
  have hn := hL.1
  have hib := okX_ib hok
  unfold spChecks at hQ
  have K : wiB y1 (nI 1) (nI 3) = true → wiB y2 (nI 0) (nI 1) = true → xW G mX9_checks (d + 9) 0 0 Q 20 [some (.ref (G.1 + 0)), some (.int y1), some (.int y2), none] [] SF M := by
    intro q1 q2
    simp only [q1, q2, Bool.and_self, if_true] at hQ
    obtain ⟨k, k1, k2, rfl⟩ := wi_of (by decide) (by decide) q1
    obtain ⟨t, -, t2, rfl⟩ := wi_of (by decide) (by decide) q2
    rw [nI_clamp (by omega)] at hQ
    obtain ⟨s, hs⟩ := ck_get (nv := w.2.1.1) (k := k) (b := w.2.2.1)
    rw [hs] at hQ
    simp only [nI_e (show t < 2 ^ 31 by omega) (show 0 < 2 ^ 31 by decide)] at hQ
    have hg := gn_eq (s := s) h7 hB
    refine xs_aload eX9_checks_20 rfl ?_
    refine xs_iload eX9_checks_21 rfl ?_
    refine xs_callV1i eX9_checks_22 (by assumption) (Nat.le_of_ble_eq_true rfl) (c_X9_bestChecks (b := w.2.2.1) (by omega) hL hl hB hib.1 hib.2 ⟨_, rfl, ?_⟩)
    rw [hs]
    refine xs_istore eX9_checks_25 (Nat.le_of_ble_eq_true rfl) rfl rfl ?_
    refine xs_iload eX9_checks_26 rfl ?_
    refine xs_N0_ne eX9_checks_27 (by omega) (fun h27 => ?_) (fun h27 => ?_)
    · refine xs_iload eX9_checks_45 rfl ?_
      exact xs_iretI eX9_checks_46 rfl (by rw [if_neg h27] at hQ; exact hQ)
    · refine xs_aload eX9_checks_30 rfl ?_
      refine xs_getR eX9_checks_31 (by assumption) (by rfl) ?_
      refine xs_iload eX9_checks_34 rfl ?_
      refine xs_callV1i eX9_checks_35 (by assumption) (Nat.le_of_ble_eq_true rfl) (c_X0_gainOf isb hn h7 ⟨_, rfl, ?_⟩)
      rw [show ckI (some s) = nI s from rfl, hg]
      refine xs_K eX9_checks_38 ?_
      refine xs_iadd eX9_checks_41 ?_
      refine xs_goto eX9_checks_42 ?_
      exact xs_iretI eX9_checks_46 rfl (by rw [if_pos h27] at hQ; exact hQ)
  refine xC_intro [some (.ref (G.1 + 0)), some (.int y1), some (.int y2), none] rfl (by decide) (Nat.le_of_ble_eq_true rfl) ?_
  refine xs_iload eX9_checks_0 rfl ?_
  refine xs_K eX9_checks_1 ?_
  refine xs_K eX9_checks_2 ?_
  refine xs_callS3i eX9_checks_3 (Nat.le_of_ble_eq_true rfl) (c_X9_isWithin ⟨_, rfl, ?_⟩)
  refine xs_ifeqB eX9_checks_6 (fun h6 => ?_) (fun h6 => ?_)
  · refine xs_K eX9_checks_18 ?_
    exact xs_iretI eX9_checks_19 rfl (by simp only [h6, Bool.false_and, Bool.false_eq_true, if_false] at hQ; exact hQ)
  · refine xs_iload eX9_checks_9 rfl ?_
    refine xs_K eX9_checks_10 ?_
    refine xs_K eX9_checks_11 ?_
    refine xs_callS3i eX9_checks_12 (Nat.le_of_ble_eq_true rfl) (c_X9_isWithin ⟨_, rfl, ?_⟩)
    refine xs_ifneB eX9_checks_15 (fun h15 => ?_) (fun h15 => ?_)
    · exact K h6 h15
    · refine xs_K eX9_checks_18 ?_
      exact xs_iretI eX9_checks_19 rfl (by simp only [h15, Bool.and_false, Bool.false_eq_true, if_false] at hQ; exact hQ)
def ckF (o : Option Nat) : Int32 := match o with
  | none => (-1)
  | some s => nI s
def ckG (nv : Nat) (b : aBk) (o : Option Nat) : Int32 := match o with
  | none => (-9999)
  | some s => gnA nv b s
theorem c_X10_checks (hR : repM w M) (hok : okX N w) (hQ : Q (some (.int (spChecks w y1 y2))) SF M) : xC G mX10_checks (d + 9) 0 0 [.ref (G.1 + 156), .int y1, .int y2] SF M Q := by
  have s0 := sh156
  have s1 := sh162
  obtain ⟨-, hL, hS, -⟩ := id hR
  have hl := hok.2.1
  have hB := hok.2.2.1
  have h7 := hl.1.2
  have hn := hL.1
  have hib := okX_ib hok
  have ho : opA w.2.2.1 < 128 := sbt_mask (n := 7) (by decide)
  have hpo := pc7_le _ ho
  have hop := op_nI hib.1 hib.2
  have h2 := pow7 h7
  have hsh := shl_2 w.2.1.1 (by omega)
  have ho2 := opA_lt h7 hB.1
  have hbk : M 162 14 = nI w.2.2.1.1 := hS.1
  have hsr : M 162 15 = nI w.2.2.1.2.1 := hS.2.1
  have hox : ∀ v, v < 7 → M 162 v = nI (w.2.2.1.2.2.1 v) := fun v hv => by have := (hS.2.2.1 v hv).1; rwa [Nat.zero_add] at this
  have hwr : ∀ v, v < 7 → M 162 (7 + v) = nI (w.2.2.1.2.2.2.1 v) := fun v hv => (hS.2.2.1 v hv).2
  have hgh := fun s => gn_hi (s := s) h7 (fun v hv => okB_ox hB hv) hB.2.2.2.1
  unfold spChecks at hQ
  have K : wiB y1 (nI 1) (nI 3) = true → wiB y2 (nI 0) (nI 1) = true → xW G mX10_checks (d + 9) 0 0 Q 24 [some (.ref (G.1 + 156)), some (.int y1), some (.int y2), none, none, none, none, none, none, none] [] SF M := by
    intro q1 q2
    simp only [q1, q2, Bool.and_self, if_true] at hQ
    obtain ⟨k, k1, k2, rfl⟩ := wi_of (by decide) (by decide) q1
    obtain ⟨t, -, t2, rfl⟩ := wi_of (by decide) (by decide) q2
    rw [nI_clamp (by omega)] at hQ
    obtain ⟨s9, hs9⟩ := ck_get (nv := w.2.1.1) (k := k) (b := w.2.2.1)
    rw [hs9] at hQ
    simp only [nI_e (show t < 2 ^ 31 by omega) (show 0 < 2 ^ 31 by decide)] at hQ
    have htop := ckA_top (n := mnA k (pc7 (opA w.2.2.1))) (k := 0) ho2 (128 - 2 ^ w.2.1.1)
    rw [show 2 ^ w.2.1.1 + (128 - 2 ^ w.2.1.1) = 128 by omega, hs9] at htop
    have hn7 : mnA k (pc7 (opA w.2.2.1)) ≤ 7 := by unfold mnA; split <;> omega
    refine xs_aload eX10_checks_24 rfl ?_
    refine xs_getR eX10_checks_25 (by assumption) (by rfl) ?_
    refine xs_K eX10_checks_28 ?_
    refine xs_iald eX10_checks_30 (by assumption) (by omega) (by decide) ?_
    refine xs_eq1 hbk ?_
    refine xs_aload eX10_checks_31 rfl ?_
    refine xs_getR eX10_checks_32 (by assumption) (by rfl) ?_
    refine xs_K eX10_checks_35 ?_
    refine xs_iald eX10_checks_37 (by assumption) (by omega) (by decide) ?_
    refine xs_eq1 hsr ?_
    refine xs_K eX10_checks_38 ?_
    refine xs_ixor eX10_checks_39 ?_
    refine xs_iand eX10_checks_40 ?_
    refine xs_eq1 hop ?_
    refine xs_istore eX10_checks_41 (Nat.le_of_ble_eq_true rfl) rfl rfl ?_
    refine xs_iload eX10_checks_42 rfl ?_
    refine xs_iload eX10_checks_43 rfl ?_
    refine xs_callS1i eX10_checks_44 (Nat.le_of_ble_eq_true rfl) (c_X10_bits (by omega) ⟨_, rfl, ?_⟩)
    refine xs_callS2i eX10_checks_47 (Nat.le_of_ble_eq_true rfl) (c_X10_smaller (by omega) (by omega) ⟨_, rfl, ?_⟩)
    refine xs_istore eX10_checks_50 (Nat.le_of_ble_eq_true rfl) rfl rfl ?_
    refine xs_K eX10_checks_52 ?_
    refine xs_istore eX10_checks_53 (Nat.le_of_ble_eq_true rfl) rfl rfl ?_
    refine xs_K eX10_checks_55 ?_
    refine xs_istore eX10_checks_58 (Nat.le_of_ble_eq_true rfl) rfl rfl ?_
    refine xs_K eX10_checks_60 ?_
    refine xs_istore eX10_checks_61 (Nat.le_of_ble_eq_true rfl) rfl rfl ?_
    generalize mnA k (pc7 (opA w.2.2.1)) = n0 at *
    generalize hn2 : 2 ^ w.2.1.1 = n2 at *
    refine dn (P := fun s => ∀ (A B : Option Value), xW G mX10_checks (d + 9) 0 0 Q 63 [some (.ref (G.1 + 156)), some (.int (nI k)), some (.int (nI t)), some (.int (nI (opA w.2.2.1))), some (.int (nI n0)), some (.int (ckF (ckA w.2.1.1 w.2.2.1 n0 s))), some (.int (ckG w.2.1.1 w.2.2.1 (ckA w.2.1.1 w.2.2.1 n0 s))), some (.int (nI s)), A, B] [] SF M) n2 ?_ ?_ 0 (by omega) none none
    · intro A B
      rw [← htop]
      refine xs_iload eX10_checks_63 rfl ?_
      refine xs_K eX10_checks_65 ?_
      refine xs_aload eX10_checks_66 rfl ?_
      refine xs_getI eX10_checks_67 (by assumption) (by rfl) ?_
      refine xs_eq1 hn ?_
      refine xs_ishl eX10_checks_70 ?_
      refine xs_eq1 hsh ?_
      refine xs_N_ge eX10_checks_71 (by omega) (by omega) (fun h71 => ?_) (fun h => absurd h (by omega))
      refine xs_iload eX10_checks_199 rfl ?_
      refine xs_N0_ne eX10_checks_200 (by omega) (fun h200 => ?_) (fun h200 => ?_)
      · refine xs_iload eX10_checks_212 rfl ?_
        exact xs_iretI eX10_checks_214 rfl (by rw [if_neg h200] at hQ; exact hQ)
      · refine xs_iload eX10_checks_203 rfl ?_
        refine xs_K eX10_checks_205 ?_
        refine xs_iadd eX10_checks_208 ?_
        refine xs_goto eX10_checks_209 ?_
        exact xs_iretI eX10_checks_214 rfl (by rw [if_pos h200] at hQ; exact hQ)
    · intro s hs ih A B
      have hs128 : s < 128 := by omega
      have hsub := sub_z s hs128 (opA w.2.2.1) ho
      have hps := pc7_le s hs128
      rw [ckA] at ih
      have K163 : ∀ (f : Bool) (B : Option Value), ((ckA w.2.1.1 w.2.2.1 n0 (s + 1)) = if f then some s else ckA w.2.1.1 w.2.2.1 n0 s) → xW G mX10_checks (d + 9) 0 0 Q 163 [some (.ref (G.1 + 156)), some (.int (nI k)), some (.int (nI t)), some (.int (nI (opA w.2.2.1))), some (.int (nI n0)), some (.int (ckF (ckA w.2.1.1 w.2.2.1 n0 s))), some (.int (ckG w.2.1.1 w.2.2.1 (ckA w.2.1.1 w.2.2.1 n0 s))), some (.int (nI s)), some (.int (gnA w.2.1.1 w.2.2.1 s)), some (.int (nI w.2.1.1))] [.int (bI f)] SF M := by
        intro f B hf
        rw [← ckA, hf] at ih
        cases f with
        | true =>
          rw [if_pos rfl] at ih
          refine xs_istore eX10_checks_163 (Nat.le_of_ble_eq_true rfl) rfl rfl ?_
          refine xs_iload eX10_checks_165 rfl ?_
          refine xs_ifeqB eX10_checks_167 (fun h => absurd h (by decide)) (fun h167 => ?_)
          refine xs_iload eX10_checks_170 rfl ?_
          refine xs_goto eX10_checks_172 ?_
          refine xs_istore eX10_checks_177 (Nat.le_of_ble_eq_true rfl) rfl rfl ?_
          refine xs_iload eX10_checks_179 rfl ?_
          refine xs_ifeqB eX10_checks_181 (fun h => absurd h (by decide)) (fun h181 => ?_)
          refine xs_iload eX10_checks_184 rfl ?_
          refine xs_goto eX10_checks_186 ?_
          refine xs_istore eX10_checks_191 (Nat.le_of_ble_eq_true rfl) rfl rfl ?_
          refine xs_inc1 eX10_checks_193 rfl rfl rfl ?_
          refine xs_goto eX10_checks_196 ?_
          exact ih _ _
        | false =>
          rw [if_neg (by decide)] at ih
          refine xs_istore eX10_checks_163 (Nat.le_of_ble_eq_true rfl) rfl rfl ?_
          refine xs_iload eX10_checks_165 rfl ?_
          refine xs_ifeqB eX10_checks_167 (fun h167 => ?_) (fun h => absurd h (by decide))
          refine xs_iload eX10_checks_175 rfl ?_
          refine xs_istore eX10_checks_177 (Nat.le_of_ble_eq_true rfl) rfl rfl ?_
          refine xs_iload eX10_checks_179 rfl ?_
          refine xs_ifeqB eX10_checks_181 (fun h181 => ?_) (fun h => absurd h (by decide))
          refine xs_iload eX10_checks_189 rfl ?_
          refine xs_istore eX10_checks_191 (Nat.le_of_ble_eq_true rfl) rfl rfl ?_
          refine xs_inc1 eX10_checks_193 rfl rfl rfl ?_
          refine xs_goto eX10_checks_196 ?_
          exact ih _ _
      refine xs_iload eX10_checks_63 rfl ?_
      refine xs_K eX10_checks_65 ?_
      refine xs_aload eX10_checks_66 rfl ?_
      refine xs_getI eX10_checks_67 (by assumption) (by rfl) ?_
      refine xs_eq1 hn ?_
      refine xs_ishl eX10_checks_70 ?_
      refine xs_eq1 hsh ?_
      refine xs_N_ge eX10_checks_71 (by omega) (by omega) (fun h => absurd h (by omega)) (fun h71 => ?_)
      refine xs_K eX10_checks_74 ?_
      refine xs_istore eX10_checks_75 (Nat.le_of_ble_eq_true rfl) rfl rfl ?_
      refine xs_K eX10_checks_77 ?_
      refine xs_istore eX10_checks_78 (Nat.le_of_ble_eq_true rfl) rfl rfl ?_
      refine dn (P := fun i => xW G mX10_checks (d + 9) 0 0 Q 80 [some (.ref (G.1 + 156)), some (.int (nI k)), some (.int (nI t)), some (.int (nI (opA w.2.2.1))), some (.int (nI n0)), some (.int (ckF (ckA w.2.1.1 w.2.2.1 n0 s))), some (.int (ckG w.2.1.1 w.2.2.1 (ckA w.2.1.1 w.2.2.1 n0 s))), some (.int (nI s)), some (.int (gnA i w.2.2.1 s)), some (.int (nI i))] [] SF M) w.2.1.1 ?_ ?_ 0 (by omega)
      · refine xs_iload eX10_checks_80 rfl ?_
        refine xs_aload eX10_checks_82 rfl ?_
        refine xs_getI eX10_checks_83 (by assumption) (by rfl) ?_
        refine xs_eq1 hn ?_
        refine xs_N_ge eX10_checks_86 (by omega) (by omega) (fun h86 => ?_) (fun h => absurd h (by omega))
        refine xs_iload eX10_checks_132 rfl ?_
        refine xs_iload eX10_checks_134 rfl ?_
        refine xs_K eX10_checks_135 ?_
        refine xs_ixor eX10_checks_136 ?_
        refine xs_iand eX10_checks_137 ?_
        refine xs_if_ne eX10_checks_138 (fun h138 => ?_) (fun h138 => ?_)
        · refine xs_K eX10_checks_162 ?_
          exact K163 false none (by rw [ckA, if_neg (by rw [ckV, decide_eq_false (fun q => h138 (hsub.mpr q)), Bool.false_and]; decide)]; rfl)
        · refine xs_iload eX10_checks_141 rfl ?_
          refine xs_callS1i eX10_checks_143 (Nat.le_of_ble_eq_true rfl) (c_X10_bits (by omega) ⟨_, rfl, ?_⟩)
          refine xs_iload eX10_checks_146 rfl ?_
          refine xs_N_ne eX10_checks_148 (by omega) (by omega) (fun h148 => ?_) (fun h148 => ?_)
          · refine xs_K eX10_checks_162 ?_
            exact K163 false none (by rw [ckA, if_neg (by simp [ckV, h148])]; rfl)
          · refine xs_iload eX10_checks_151 rfl ?_
            refine xs_iload eX10_checks_153 rfl ?_
            refine xs_icmp_le eX10_checks_155 (fun h155 => ?_) (fun h155 => ?_)
            · refine xs_K eX10_checks_162 ?_
              exact K163 false none (by rw [ckA, if_pos (by simp [ckV, hsub.mp h138, h148])]; revert h155; cases ckA w.2.1.1 w.2.2.1 n0 s with | none => intro h; exact absurd h (hgh s) | some u => intro h; simp only; rw [if_neg (show ¬ gnA w.2.1.1 w.2.2.1 u < gnA w.2.1.1 w.2.2.1 s from Int32.not_lt.mpr h)]; rfl)
            · refine xs_K eX10_checks_158 ?_
              refine xs_goto eX10_checks_159 ?_
              exact K163 true none (by rw [ckA, if_pos (by simp [ckV, hsub.mp h138, h148])]; revert h155; cases ckA w.2.1.1 w.2.2.1 n0 s with | none => intro h; rfl | some u => intro h; simp only; rw [if_pos (show gnA w.2.1.1 w.2.2.1 u < gnA w.2.1.1 w.2.2.1 s from Int32.not_le.mp h)]; rfl)
      · intro i hi ih2
        have hbt : bt (nI s) i = s.testBit i := bt_nI (by omega)
        have ho1 := hox i (by omega)
        have hw1 := hwr i (by omega)
        unfold gnA at ih2 ⊢
        rw [sumN] at ih2
        refine xs_iload eX10_checks_80 rfl ?_
        refine xs_aload eX10_checks_82 rfl ?_
        refine xs_getI eX10_checks_83 (by assumption) (by rfl) ?_
        refine xs_eq1 hn ?_
        refine xs_N_ge eX10_checks_86 (by omega) (by omega) (fun h => absurd h (by omega)) (fun h86 => ?_)
        refine xs_iload eX10_checks_89 rfl ?_
        refine xs_iload eX10_checks_91 rfl ?_
        refine xs_iload eX10_checks_93 rfl ?_
        refine xs_callS2i eX10_checks_95 (Nat.le_of_ble_eq_true rfl) (c_X10_has (by omega) ⟨_, rfl, ?_⟩)
        rw [hbt]
        refine xs_ifeqB eX10_checks_98 (fun h98 => ?_) (fun h98 => ?_)
        · refine xs_K eX10_checks_122 ?_
          refine xs_iadd eX10_checks_123 ?_
          refine xs_istore eX10_checks_124 (Nat.le_of_ble_eq_true rfl) rfl rfl ?_
          refine xs_inc1 eX10_checks_126 rfl rfl rfl ?_
          refine xs_goto eX10_checks_129 ?_
          simp only [h98, Bool.false_eq_true, if_false] at ih2
          exact ih2
        · refine xs_aload eX10_checks_101 rfl ?_
          refine xs_getR eX10_checks_102 (by assumption) (by rfl) ?_
          refine xs_iload eX10_checks_105 rfl ?_
          refine xs_iald eX10_checks_107 (by assumption) (by omega) (by decide) ?_
          refine xs_eq1 ho1 ?_
          refine xs_aload eX10_checks_108 rfl ?_
          refine xs_getR eX10_checks_109 (by assumption) (by rfl) ?_
          refine xs_K eX10_checks_112 ?_
          refine xs_iload eX10_checks_114 rfl ?_
          refine xs_iadd eX10_checks_116 ?_
          refine xs_eq1 (nI_add 7 i) ?_
          refine xs_iald eX10_checks_117 (by assumption) (by omega) (by decide) ?_
          refine xs_eq1 hw1 ?_
          refine xs_isub eX10_checks_118 ?_
          refine xs_goto eX10_checks_119 ?_
          refine xs_iadd eX10_checks_123 ?_
          refine xs_istore eX10_checks_124 (Nat.le_of_ble_eq_true rfl) rfl rfl ?_
          refine xs_inc1 eX10_checks_126 rfl rfl rfl ?_
          refine xs_goto eX10_checks_129 ?_
          simp only [h98, if_true] at ih2
          exact ih2
  refine xC_intro [some (.ref (G.1 + 156)), some (.int y1), some (.int y2), none, none, none, none, none, none, none] rfl (by decide) (Nat.le_of_ble_eq_true rfl) ?_
  refine xs_iload eX10_checks_0 rfl ?_
  refine xs_i2l eX10_checks_1 ?_
  refine xs_KL eX10_checks_2 ?_
  refine xs_KL eX10_checks_3 ?_
  refine xs_callS3i eX10_checks_6 (Nat.le_of_ble_eq_true rfl) (c_X10_in (lo := nI 1) (hi := nI 3) rfl (by decide) (by decide) ⟨_, rfl, ?_⟩)
  refine xs_ifeqB eX10_checks_9 (fun h9 => ?_) (fun h9 => ?_)
  · refine xs_K eX10_checks_22 ?_
    exact xs_iretI eX10_checks_23 rfl (by simp only [h9, Bool.false_and, Bool.false_eq_true, if_false] at hQ; exact hQ)
  · refine xs_iload eX10_checks_12 rfl ?_
    refine xs_i2l eX10_checks_13 ?_
    refine xs_KL eX10_checks_14 ?_
    refine xs_KL eX10_checks_15 ?_
    refine xs_callS3i eX10_checks_16 (Nat.le_of_ble_eq_true rfl) (c_X10_in (lo := nI 0) (hi := nI 1) rfl (by decide) (by decide) ⟨_, rfl, ?_⟩)
    refine xs_ifneB eX10_checks_19 (fun h19 => ?_) (fun h19 => ?_)
    · exact K h9 h19
    · refine xs_K eX10_checks_22 ?_
      exact xs_iretI eX10_checks_23 rfl (by simp only [h19, Bool.and_false, Bool.false_eq_true, if_false] at hQ; exact hQ)
end CK3

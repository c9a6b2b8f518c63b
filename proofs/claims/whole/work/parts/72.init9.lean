/-! THE CLASS's CONSTRUCTOR -/
def stS (fs : List (Option (Option Nat))) (z : Nat) : List xSh := .inr (.inl (9, fs)) :: (SI.drop 1).take z
section CI
variable {G : xGl} {m : xM} {d k n pc nx c i : Nat} {Q : Option Value → List xSh → xMem → Prop} {L : List (Option Value)} {st : List Value} {S : List xSh} {M : xMem} {w : aX}
theorem xz_new {ci N : Nat} {C : String} {T : u_T} {fs : List (Option (Option Nat))} (he : xNW m pc ci nx) (hS : S.length = c) (hc : vwCl[ci]? = some (C, T, N)) (ty : Nat → FieldType) (hty : ∀ k, k < N → parseFieldDescriptor (T k).2.2.1 = some (ty k)) (hfs : ∀ j, j < N → defaultValue (ty j) = xv0 (fs.getD j none) ∧ fs.getD j none ≠ some (some 0) ∧ (∀ r, fs.getD j none = some r → r = none)) (hz : ∀ j, M c j = 0) (hk : 1 ≤ k) (hn : N ≤ n) (kk : xW G m d (k - 1) (n - N) Q nx L (.ref (G.1 + (c + 0)) :: st) (S ++ [.inr (.inl (ci, fs))]) M) : xW G m d k n Q pc L st S M := by
  refine xs_new he hc ty hty hfs (by rw [hS]; exact hz) hk hn ?_
  rw [hS]
  exact kk
theorem repC_wipe (hR : repC w M) : repC ([], w.2) (up2 M 1 1 (nI 0)) := by
  obtain ⟨⟨t1, t2, t3⟩, h2, h3, h4, h5, h6, h7⟩ := hR
  exact ⟨⟨by simp [up2], Nat.zero_le _, fun j hj => by cases hj⟩, rL_keep h2 (fun a _ _ => up2_ne (by omega)), rB_keep h3 (fun a _ _ => up2_ne (by omega)), rP_keep h4 (fun a hpa => up2_ne (by omega)), rP_keep h5 (fun a hpa => up2_ne (by omega)), by rw [up2_ne (by omega)]; exact h6, fun i q hi => by rw [up2_ne (by omega), up2_ne (by omega)]; exact h7 i q hi⟩
theorem init9_tail (hz : ∀ a j, M a j = 0) (hQ : ∀ M1, hiK M M1 → repC wS M1 → Q none SI M1) : xW G mX9_init (d + 10) k n Q 167 [some (.ref (G.1 + 0)), none] [] SI M := by
  have s0 := sh0_i
  have s1 := sh1_i
  refine xs_K eX9_init_167 ?_
  refine xs_istore eX9_init_168 (Nat.le_of_ble_eq_true rfl) rfl rfl ?_
  refine dn (P := fun i => ∀ M1 : xMem, M1 1 1 = nI i → (∀ j, j < i → M1 2 j = nI (xch j)) → (∀ a, 3 ≤ a → M1 a = M a) → xW G mX9_init (d + 10) k n Q 169 [some (.ref (G.1 + 0)), some (.int (nI i))] [] SI M1) 89 ?_ ?_ 0 (by omega) M (hz 1 1) (fun j hj => by omega) (fun _ _ => rfl)
  · intro M1 f1 f2 f3
    have hT : isTx M1 (fun j => wx0.1.getD j 0) wx0.1.length := by
      show isTx M1 (fun j => xbl.getD j 0) xbl.length
      rw [xbl_ok.1]
      refine ⟨f1, by decide, fun j hj => ⟨f2 j hj, ?_⟩⟩
      have hl : j < xbl.length := by rw [xbl_ok.1]; exact hj
      exact xbl_ok.2 _ (getD_mem hl)
    refine xs_iload eX9_init_169 rfl ?_
    refine xs_ldcS rfl (by decide +kernel) ?_
    refine xs_callW0i wX9_init_172 (Nat.le_of_ble_eq_true rfl) (c_J0_length ⟨_, rfl, ?_⟩)
    refine xs_N_ge eX9_init_175 (by omega) (by omega) (fun h175 => ?_) (fun h => absurd h (by omega))
    refine xs_aload eX9_init_197 rfl ?_
    refine xs_callV0v eX9_init_198 (by assumption) (Nat.le_of_ble_eq_true rfl) (c_X9_layScroll_i (w := wx0) (N := 0) hT okX_w0 (fun M2 e1 e2 => ⟨rfl, ?_⟩))
    refine xs_aload eX9_init_201 rfl ?_
    refine xs_getR eX9_init_202 (by assumption) (by rfl) ?_
    refine xs_callV0v eX9_init_205 (by assumption) (Nat.le_of_ble_eq_true rfl) (c_X6_clear_i ⟨rfl, ?_⟩)
    exact xs_vret eX9_init_208 rfl (hQ _ (fun a ha => by rw [up2_ne (by omega), e1 a ha, f3 a (by omega)]) (repC_wipe e2))
  · intro i hi ih M1 f1 f2 f3
    have hx := (xch_ok i hi).2
    refine xs_iload eX9_init_169 rfl ?_
    refine xs_ldcS rfl (by decide +kernel) ?_
    refine xs_callW0i wX9_init_172 (Nat.le_of_ble_eq_true rfl) (c_J0_length ⟨_, rfl, ?_⟩)
    refine xs_N_ge eX9_init_175 (by omega) (by omega) (fun h => absurd h (by omega)) (fun h175 => ?_)
    refine xs_aload eX9_init_178 rfl ?_
    refine xs_getR eX9_init_179 (by assumption) (by rfl) ?_
    refine xs_ldcS rfl (by decide +kernel) ?_
    refine xs_iload eX9_init_184 rfl ?_
    refine xs_callW1i wX9_init_185 (Nat.le_of_ble_eq_true rfl) (c_J0_charAt hi ⟨_, rfl, ?_⟩)
    refine xs_callV1v eX9_init_188 (by assumption) (Nat.le_of_ble_eq_true rfl) (c_X6_add_i f1 (by omega) (chN hx) ⟨rfl, ?_⟩)
    refine xs_inc1 eX9_init_191 rfl rfl rfl ?_
    refine xs_goto eX9_init_194 ?_
    exact ih _ (by rw [up2_x, if_pos rfl]) (fun j hj => by rw [up2_ne (by decide), up2_x]; by_cases e : j = i; (rw [if_pos e, e]); (rw [if_neg e]; exact f2 j (by omega))) (fun a ha => by rw [up2_ne (by omega), up2_ne (by omega)]; exact f3 a ha)
theorem c_X9_init (hz : ∀ a j, M a j = 0) (hQ : ∀ M1, hiK M M1 → repC wS M1 → Q none SI M1) : xC G mX9_init (d + 10) 155 2310 [.ref (G.1 + 0)] [.inr (.inl (9, bf9))] M Q := by
  refine xC_intro [some (.ref (G.1 + 0)), none] rfl (by decide) (Nat.le_of_ble_eq_true rfl) ?_
  refine xs_eqS (S1 := stS bf9 0) rfl ?_
  refine xs_aload eX9_init_0 rfl ?_
  refine xs_objI eX9_init_1 (Nat.le_of_ble_eq_true rfl) ?_
  refine xs_aload eX9_init_4 rfl ?_
  refine xz_new (fs := bf6) (c := 1) eX9_init_5 rfl rfl tyX6 tyX6_ok bf6_ok (fun j => hz _ j) (by decide) (by decide) ?_
  refine xs_dup eX9_init_8 rfl ?_
  refine xs_callI (As := []) (kc := 1) (nc := 200) rfl eX9_init_9 rfl rfl (Nat.le_of_ble_eq_true rfl) (by decide) (by decide) (c_X6_init (c := 1) rfl (fun a _ j => hz a j) ?_)
  refine xs_eqS (S1 := stS [some none, some none, some none, some none, some none, some none, some none, some none, some none, some none, some none, some none] 2) rfl ?_
  refine xs_putR (c := 0) (r := 1) (S1 := stS [some (some 1), some none, some none, some none, some none, some none, some none, some none, some none, some none, some none, some none] 2) eX9_init_12 rfl (Nat.le_of_ble_eq_true rfl) rfl rfl rfl ?_
  refine xs_aload eX9_init_15 rfl ?_
  refine xz_new (fs := bf5) (c := 3) eX9_init_16 rfl rfl tyX5 tyX5_ok bf5_ok (fun j => hz _ j) (by decide) (by decide) ?_
  refine xs_dup eX9_init_19 rfl ?_
  refine xs_callI (As := []) (kc := 1) (nc := 3) rfl eX9_init_20 rfl rfl (Nat.le_of_ble_eq_true rfl) (by decide) (by decide) (c_X5_init (c := 3) rfl (fun a _ j => hz a j) ?_)
  refine xs_eqS (S1 := stS [some (some 1), some none, some none, some none, some none, some none, some none, some none, some none, some none, some none, some none] 4) rfl ?_
  refine xs_putR (c := 0) (r := 3) (S1 := stS [some (some 1), some (some 3), some none, some none, some none, some none, some none, some none, some none, some none, some none, some none] 4) eX9_init_23 rfl (Nat.le_of_ble_eq_true rfl) rfl rfl rfl ?_
  refine xs_aload eX9_init_26 rfl ?_
  refine xz_new (fs := bf2) (c := 5) eX9_init_27 rfl rfl tyX2 tyX2_ok bf2_ok (fun j => hz _ j) (by decide) (by decide) ?_
  refine xs_dup eX9_init_30 rfl ?_
  refine xs_callI (As := []) (kc := 12) (nc := 80) rfl eX9_init_31 rfl rfl (Nat.le_of_ble_eq_true rfl) (by decide) (by decide) (c_X2_init (c := 5) rfl (fun a _ j => hz a j) ?_)
  refine xs_eqS (S1 := stS [some (some 1), some (some 3), some none, some none, some none, some none, some none, some none, some none, some none, some none, some none] 17) rfl ?_
  refine xs_putR (c := 0) (r := 5) (S1 := stS [some (some 1), some (some 3), some (some 5), some none, some none, some none, some none, some none, some none, some none, some none, some none] 17) eX9_init_34 rfl (Nat.le_of_ble_eq_true rfl) rfl rfl rfl ?_
  refine xs_aload eX9_init_37 rfl ?_
  refine xz_new (fs := bf2) (c := 18) eX9_init_38 rfl rfl tyX2 tyX2_ok bf2_ok (fun j => hz _ j) (by decide) (by decide) ?_
  refine xs_dup eX9_init_41 rfl ?_
  refine xs_callI (As := []) (kc := 12) (nc := 80) rfl eX9_init_42 rfl rfl (Nat.le_of_ble_eq_true rfl) (by decide) (by decide) (c_X2_init (c := 18) rfl (fun a _ j => hz a j) ?_)
  refine xs_eqS (S1 := stS [some (some 1), some (some 3), some (some 5), some none, some none, some none, some none, some none, some none, some none, some none, some none] 30) rfl ?_
  refine xs_putR (c := 0) (r := 18) (S1 := stS [some (some 1), some (some 3), some (some 5), some (some 18), some none, some none, some none, some none, some none, some none, some none, some none] 30) eX9_init_45 rfl (Nat.le_of_ble_eq_true rfl) rfl rfl rfl ?_
  refine xs_aload eX9_init_48 rfl ?_
  refine xz_new (fs := bf0) (c := 31) eX9_init_49 rfl rfl tyX0 tyX0_ok bf0_ok (fun j => hz _ j) (by decide) (by decide) ?_
  refine xs_dup eX9_init_52 rfl ?_
  refine xs_aload eX9_init_53 rfl ?_
  refine xs_getR (c := 0) eX9_init_54 rfl rfl ?_
  refine xs_callI (As := [.ref (G.1 + 18)]) (kc := 4) (nc := 20) rfl eX9_init_57 rfl rfl (Nat.le_of_ble_eq_true rfl) (by decide) (by decide) (c_X0_init (c := 31) rfl (fun a _ j => hz a j) ?_)
  refine xs_eqS (S1 := stS [some (some 1), some (some 3), some (some 5), some (some 18), some none, some none, some none, some none, some none, some none, some none, some none] 35) rfl ?_
  refine xs_putR (c := 0) (r := 31) (S1 := stS [some (some 1), some (some 3), some (some 5), some (some 18), some (some 31), some none, some none, some none, some none, some none, some none, some none] 35) eX9_init_60 rfl (Nat.le_of_ble_eq_true rfl) rfl rfl rfl ?_
  refine xs_aload eX9_init_63 rfl ?_
  refine xz_new (fs := bf0) (c := 36) eX9_init_64 rfl rfl tyX0 tyX0_ok bf0_ok (fun j => hz _ j) (by decide) (by decide) ?_
  refine xs_dup eX9_init_67 rfl ?_
  refine xs_aload eX9_init_68 rfl ?_
  refine xs_getR (c := 0) eX9_init_69 rfl rfl ?_
  refine xs_callI (As := [.ref (G.1 + 18)]) (kc := 4) (nc := 20) rfl eX9_init_72 rfl rfl (Nat.le_of_ble_eq_true rfl) (by decide) (by decide) (c_X0_init (c := 36) rfl (fun a _ j => hz a j) ?_)
  refine xs_eqS (S1 := stS [some (some 1), some (some 3), some (some 5), some (some 18), some (some 31), some none, some none, some none, some none, some none, some none, some none] 40) rfl ?_
  refine xs_putR (c := 0) (r := 36) (S1 := stS [some (some 1), some (some 3), some (some 5), some (some 18), some (some 31), some (some 36), some none, some none, some none, some none, some none, some none] 40) eX9_init_75 rfl (Nat.le_of_ble_eq_true rfl) rfl rfl rfl ?_
  refine xs_aload eX9_init_78 rfl ?_
  refine xz_new (fs := bf4) (c := 41) eX9_init_79 rfl rfl tyX4 tyX4_ok bf4_ok (fun j => hz _ j) (by decide) (by decide) ?_
  refine xs_dup eX9_init_82 rfl ?_
  refine xs_aload eX9_init_83 rfl ?_
  refine xs_getR (c := 0) eX9_init_84 rfl rfl ?_
  refine xs_K eX9_init_87 ?_
  refine xs_callI (As := [.ref (G.1 + 18), .int (nI 8)]) (kc := 41) (nc := 224) rfl eX9_init_89 rfl rfl (Nat.le_of_ble_eq_true rfl) (by decide) (by decide) (c_X4_init8 (c := 41) rfl (fun a _ j => hz a j) ?_)
  refine xs_eqS (S1 := stS [some (some 1), some (some 3), some (some 5), some (some 18), some (some 31), some (some 36), some none, some none, some none, some none, some none, some none] 82) rfl ?_
  refine xs_putR (c := 0) (r := 41) (S1 := stS [some (some 1), some (some 3), some (some 5), some (some 18), some (some 31), some (some 36), some (some 41), some none, some none, some none, some none, some none] 82) eX9_init_92 rfl (Nat.le_of_ble_eq_true rfl) rfl rfl rfl ?_
  refine xs_aload eX9_init_95 rfl ?_
  refine xz_new (fs := bf4) (c := 83) eX9_init_96 rfl rfl tyX4 tyX4_ok bf4_ok (fun j => hz _ j) (by decide) (by decide) ?_
  refine xs_dup eX9_init_99 rfl ?_
  refine xs_aload eX9_init_100 rfl ?_
  refine xs_getR (c := 0) eX9_init_101 rfl rfl ?_
  refine xs_K eX9_init_104 ?_
  refine xs_callI (As := [.ref (G.1 + 18), .int (nI 2)]) (kc := 11) (nc := 56) rfl eX9_init_105 rfl rfl (Nat.le_of_ble_eq_true rfl) (by decide) (by decide) (c_X4_init2 (c := 83) rfl (fun a _ j => hz a j) ?_)
  refine xs_eqS (S1 := stS [some (some 1), some (some 3), some (some 5), some (some 18), some (some 31), some (some 36), some (some 41), some none, some none, some none, some none, some none] 94) rfl ?_
  refine xs_putR (c := 0) (r := 83) (S1 := stS [some (some 1), some (some 3), some (some 5), some (some 18), some (some 31), some (some 36), some (some 41), some (some 83), some none, some none, some none, some none] 94) eX9_init_108 rfl (Nat.le_of_ble_eq_true rfl) rfl rfl rfl ?_
  refine xs_aload eX9_init_111 rfl ?_
  refine xz_new (fs := bf8) (c := 95) eX9_init_112 rfl rfl tyX8 tyX8_ok bf8_ok (fun j => hz _ j) (by decide) (by decide) ?_
  refine xs_dup eX9_init_115 rfl ?_
  refine xs_callI (As := []) (kc := 2) (nc := 12) rfl eX9_init_116 rfl rfl (Nat.le_of_ble_eq_true rfl) (by decide) (by decide) (c_X8_init (c := 95) rfl (fun a _ j => hz a j) ?_)
  refine xs_eqS (S1 := stS [some (some 1), some (some 3), some (some 5), some (some 18), some (some 31), some (some 36), some (some 41), some (some 83), some none, some none, some none, some none] 97) rfl ?_
  refine xs_putR (c := 0) (r := 95) (S1 := stS [some (some 1), some (some 3), some (some 5), some (some 18), some (some 31), some (some 36), some (some 41), some (some 83), some (some 95), some none, some none, some none] 97) eX9_init_119 rfl (Nat.le_of_ble_eq_true rfl) rfl rfl rfl ?_
  refine xs_aload eX9_init_122 rfl ?_
  refine xz_new (fs := bf7) (c := 98) eX9_init_123 rfl rfl tyX7 tyX7_ok bf7_ok (fun j => hz _ j) (by decide) (by decide) ?_
  refine xs_dup eX9_init_126 rfl ?_
  refine xs_aload eX9_init_127 rfl ?_
  refine xs_getR (c := 0) eX9_init_128 rfl rfl ?_
  refine xs_callI (As := [.ref (G.1 + 18)]) (kc := 7) (nc := 1289) rfl eX9_init_131 rfl rfl (Nat.le_of_ble_eq_true rfl) (by decide) (by decide) (c_X7_init (c := 98) rfl (fun a _ j => hz a j) ?_)
  refine xs_eqS (S1 := stS [some (some 1), some (some 3), some (some 5), some (some 18), some (some 31), some (some 36), some (some 41), some (some 83), some (some 95), some none, some none, some none] 105) rfl ?_
  refine xs_putR (c := 0) (r := 98) (S1 := stS [some (some 1), some (some 3), some (some 5), some (some 18), some (some 31), some (some 36), some (some 41), some (some 83), some (some 95), some (some 98), some none, some none] 105) eX9_init_134 rfl (Nat.le_of_ble_eq_true rfl) rfl rfl rfl ?_
  refine xs_aload eX9_init_137 rfl ?_
  refine xz_new (fs := bf3) (c := 106) eX9_init_138 rfl rfl tyX3 tyX3_ok bf3_ok (fun j => hz _ j) (by decide) (by decide) ?_
  refine xs_dup eX9_init_141 rfl ?_
  refine xs_aload eX9_init_142 rfl ?_
  refine xs_getR (c := 0) eX9_init_143 rfl rfl ?_
  refine xs_callI (As := [.ref (G.1 + 18)]) (kc := 43) (nc := 238) rfl eX9_init_146 rfl rfl (Nat.le_of_ble_eq_true rfl) (by decide) (by decide) (c_X3_init (c := 106) rfl (fun a _ j => hz a j) ?_)
  refine xs_eqS (S1 := stS [some (some 1), some (some 3), some (some 5), some (some 18), some (some 31), some (some 36), some (some 41), some (some 83), some (some 95), some (some 98), some none, some none] 149) rfl ?_
  refine xs_putR (c := 0) (r := 106) (S1 := stS [some (some 1), some (some 3), some (some 5), some (some 18), some (some 31), some (some 36), some (some 41), some (some 83), some (some 95), some (some 98), some (some 106), some none] 149) eX9_init_149 rfl (Nat.le_of_ble_eq_true rfl) rfl rfl rfl ?_
  refine xs_aload eX9_init_152 rfl ?_
  refine xz_new (fs := bf1) (c := 150) eX9_init_153 rfl rfl tyX1 tyX1_ok bf1_ok (fun j => hz _ j) (by decide) (by decide) ?_
  refine xs_dup eX9_init_156 rfl ?_
  refine xs_aload eX9_init_157 rfl ?_
  refine xs_getR (c := 0) eX9_init_158 rfl rfl ?_
  refine xs_callI (As := [.ref (G.1 + 18)]) (kc := 5) (nc := 27) rfl eX9_init_161 rfl rfl (Nat.le_of_ble_eq_true rfl) (by decide) (by decide) (c_X1_init (c := 150) rfl (fun a _ j => hz a j) ?_)
  refine xs_eqS (S1 := stS [some (some 1), some (some 3), some (some 5), some (some 18), some (some 31), some (some 36), some (some 41), some (some 83), some (some 95), some (some 98), some (some 106), some none] 155) rfl ?_
  refine xs_putR (c := 0) (r := 150) (S1 := stS [some (some 1), some (some 3), some (some 5), some (some 18), some (some 31), some (some 36), some (some 41), some (some 83), some (some 95), some (some 98), some (some 106), some (some 150)] 155) eX9_init_164 rfl (Nat.le_of_ble_eq_true rfl) rfl rfl rfl ?_
  refine xs_eqS (S1 := SI) rfl ?_
  exact init9_tail hz hQ
end CI

/-! CONSTRUCTORS of the class's parts: shapes behind a list S of c shapes -/
def bookL (c : Nat) : List xSh := [.inr (.inl (0, [some (some 18), some (some (c + 1)), some (some (c + 2)), some (some (c + 3)), some (some (c + 4)), none, none])), .inl (.int, 7), .inl (.int, 7), .inl (.int, 3), .inl (.int, 3)]
section CT
variable {G : xGl} {m : xM} {d k n pc nx c i : Nat} {Q : Option Value → List xSh → xMem → Prop} {L : List (Option Value)} {st : List Value} {S L1 L2 : List xSh} {M : xMem}
theorem app_at {x : xSh} (hS : S.length = c) (h : L1[i]? = some x) : (S ++ L1)[c + i]? = some x := by
  rw [← hS, List.getElem?_append_right (by omega), Nat.add_sub_cancel_left]
  exact h
theorem app_set {x : xSh} (hS : S.length = c) : (S ++ L1).set (c + i) x = S ++ L1.set i x := by
  rw [← hS, List.set_append_right _ _ (by omega), Nat.add_sub_cancel_left]
theorem app_len (hS : S.length = c) (hi : L1.length = i) : (S ++ L1).length = c + i := by rw [List.length_append, hS, hi]
theorem xr_newa {N : Nat} {ty : FieldType} {at9 : ArrayType} (he : xNA m pc at9 nx) (hS : S.length = c) (hi : L1.length = i) (hty : newarray.typeOf at9 = ty) (hdv : defaultValue ty = .int 0) (hb : N * componentBytes ty ≤ 536870912) (hN : N < 2 ^ 31) (hz : ∀ a, c ≤ a → ∀ j, M a j = 0) (hk : 1 ≤ k) (hn : N ≤ n) (hL : L1 ++ [.inl (ty, N)] = L2) (kk : xW G m d (k - 1) (n - N) Q nx L (.ref (G.1 + (c + i)) :: st) (S ++ L2) M) : xW G m d k n Q pc L (.int (nI N) :: st) (S ++ L1) M := by
  have hlen := app_len hS hi
  refine xs_newa he hty hdv hb hN (by rw [hlen]; exact hz _ (by omega)) hk hn ?_
  rw [hlen, List.append_assoc, hL]
  exact kk
theorem xr_new {ci N : Nat} {C : String} {T : u_T} {fs : List (Option (Option Nat))} (he : xNW m pc ci nx) (hS : S.length = c) (hi : L1.length = i) (hc : vwCl[ci]? = some (C, T, N)) (ty : Nat → FieldType) (hty : ∀ k, k < N → parseFieldDescriptor (T k).2.2.1 = some (ty k)) (hfs : ∀ j, j < N → defaultValue (ty j) = xv0 (fs.getD j none) ∧ fs.getD j none ≠ some (some 0) ∧ (∀ r, fs.getD j none = some r → r = none)) (hz : ∀ a, c ≤ a → ∀ j, M a j = 0) (hk : 1 ≤ k) (hn : N ≤ n) (hL : L1 ++ [.inr (.inl (ci, fs))] = L2) (kk : xW G m d (k - 1) (n - N) Q nx L (.ref (G.1 + (c + i)) :: st) (S ++ L2) M) : xW G m d k n Q pc L st (S ++ L1) M := by
  have hlen := app_len hS hi
  refine xs_new he hc ty hty hfs (by rw [hlen]; exact hz _ (by omega)) hk hn ?_
  rw [hlen, List.append_assoc, hL]
  exact kk
theorem xr_anew {N : Nat} (he : xNQ m pc nx) (hS : S.length = c) (hi : L1.length = i) (hb : N * 4 ≤ 536870912) (hN : N < 2 ^ 31) (hk : 1 ≤ k) (hn : N ≤ n) (hL : L1 ++ [.inr (.inr (.object "NotAnOx$Book", List.replicate N none))] = L2) (kk : xW G m d (k - 1) (n - N) Q nx L (.ref (G.1 + (c + i)) :: st) (S ++ L2) M) : xW G m d k n Q pc L (.int (nI N) :: st) (S ++ L1) M := by
  have hlen := app_len hS hi
  refine xs_anew he hb hN hk hn ?_
  rw [hlen, List.append_assoc, hL]
  exact kk
theorem xr_mna {N K : Nat} (he : xMA m pc nx) (hS : S.length = c) (hi : L1.length = i) (hN : N ≤ 1000) (hK : K ≤ 1000) (hz : ∀ a, c ≤ a → ∀ j, M a j = 0) (hk : 1 + N ≤ k) (hn : N + N * K ≤ n) (hL : L1 ++ (.inr (.inr (.array .int, (List.range N).map (fun j => some (c + i + 1 + j)))) :: List.replicate N (.inl (.int, K))) = L2) (kk : xW G m d (k - (1 + N)) (n - (N + N * K)) Q nx L (.ref (G.1 + (c + i)) :: st) (S ++ L2) M) : xW G m d k n Q pc L (.int (nI K) :: .int (nI N) :: st) (S ++ L1) M := by
  have hlen := app_len hS hi
  refine xs_mna he hN hK (by rw [hlen]; exact fun a _ => hz _ (by omega)) hk hn ?_
  rw [hlen, List.append_assoc, hL]
  exact kk
theorem xr_putR {ci j r : Nat} {ty : FieldType} {fs : List (Option (Option Nat))} (he : xPF m pc ci j ty nx) (hS : S.length = c) (hs : L1[i]? = some (.inr (.inl (ci, fs)))) (hj : j < fs.length) (hn : narrow ty (.ref (G.1 + r)) = .ref (G.1 + r)) (hf : fits ty (.ref (G.1 + r)) = true) (hL : L1.set i (.inr (.inl (ci, fs.set j (some (some r))))) = L2) (kk : xW G m d k n Q nx L st (S ++ L2) M) : xW G m d k n Q pc L (.ref (G.1 + r) :: .ref (G.1 + (c + i)) :: st) (S ++ L1) M :=
  xs_putR he (app_at hS hs) hj hn hf ((app_set hS).trans (by rw [hL])) kk
theorem xr_aast {i1 iv ci j : Nat} {rs : List (Option Nat)} {fs : List (Option (Option Nat))} {q : vw_C} (he : xD m pc .aastore 1 nx) (hS : S.length = c) (hs : L1[i1]? = some (.inr (.inr (.object q.1, rs)))) (hv : L1[iv]? = some (.inr (.inl (ci, fs)))) (hq : vwCl[ci]? = some q) (hj : j < rs.length) (hN : rs.length < 2 ^ 31) (hL : L1.set i1 (.inr (.inr (.object q.1, rs.set j (some (c + iv))))) = L2) (kk : xW G m d k n Q nx L st (S ++ L2) M) : xW G m d k n Q pc L (.ref (G.1 + (c + iv)) :: .int (nI j) :: .ref (G.1 + (c + i1)) :: st) (S ++ L1) M :=
  xs_aast he (app_at hS hs) (app_at hS hv) hq hj hN ((app_set hS).trans (by rw [hL])) kk
theorem xs_eqS {S1 : List xSh} (h : S = S1) (kk : xW G m d k n Q pc L st S1 M) : xW G m d k n Q pc L st S M := h ▸ kk
theorem c_X5_init (hS : S.length = c) (hz : ∀ a, c ≤ a → ∀ j, M a j = 0) (hQ : Q none (S ++ [.inr (.inl (5, [some (some (c + 1)), none])), .inl (.int, 3)]) M) : xC G mX5_init (d + 1) 1 3 [.ref (G.1 + (c + 0))] (S ++ [.inr (.inl (5, bf5))]) M Q := by
  refine xC_intro [some (.ref (G.1 + (c + 0)))] rfl (by decide) (Nat.le_of_ble_eq_true rfl) ?_
  refine xs_aload eX5_init_0 rfl ?_
  refine xs_objI eX5_init_1 (Nat.le_of_ble_eq_true rfl) ?_
  refine xs_aload eX5_init_4 rfl ?_
  refine xs_K eX5_init_5 ?_
  refine xr_newa (i := 1) (ty := .int) eX5_init_6 hS rfl rfl rfl (by decide) (by decide) hz (by decide) (by decide) rfl ?_
  refine xr_putR (i := 0) eX5_init_8 hS rfl (Nat.le_of_ble_eq_true rfl) rfl rfl rfl ?_
  exact xs_vret eX5_init_11 rfl (hQ)
theorem c_X6_init (hS : S.length = c) (hz : ∀ a, c ≤ a → ∀ j, M a j = 0) (hQ : Q none (S ++ [.inr (.inl (6, [some (some (c + 1)), none])), .inl (.char, 200)]) M) : xC G mX6_init (d + 1) 1 200 [.ref (G.1 + (c + 0))] (S ++ [.inr (.inl (6, bf6))]) M Q := by
  refine xC_intro [some (.ref (G.1 + (c + 0)))] rfl (by decide) (Nat.le_of_ble_eq_true rfl) ?_
  refine xs_aload eX6_init_0 rfl ?_
  refine xs_objI eX6_init_1 (Nat.le_of_ble_eq_true rfl) ?_
  refine xs_aload eX6_init_4 rfl ?_
  refine xs_K eX6_init_5 ?_
  refine xr_newa (i := 1) (ty := .char) eX6_init_8 hS rfl rfl rfl (by decide) (by decide) hz (by decide) (by decide) rfl ?_
  refine xr_putR (i := 0) eX6_init_10 hS rfl (Nat.le_of_ble_eq_true rfl) rfl rfl rfl ?_
  exact xs_vret eX6_init_13 rfl (hQ)
theorem c_X8_init (hS : S.length = c) (hz : ∀ a, c ≤ a → ∀ j, M a j = 0) (hQ : Q none (S ++ [.inr (.inl (8, [some (some (c + 1)), some (some (c + 2)), none])), .inl (.int, 6), .inl (.int, 6)]) M) : xC G mX8_init (d + 1) 2 12 [.ref (G.1 + (c + 0))] (S ++ [.inr (.inl (8, bf8))]) M Q := by
  refine xC_intro [some (.ref (G.1 + (c + 0)))] rfl (by decide) (Nat.le_of_ble_eq_true rfl) ?_
  refine xs_aload eX8_init_0 rfl ?_
  refine xs_objI eX8_init_1 (Nat.le_of_ble_eq_true rfl) ?_
  refine xs_aload eX8_init_4 rfl ?_
  refine xs_K eX8_init_5 ?_
  refine xr_newa (i := 1) (ty := .int) eX8_init_7 hS rfl rfl rfl (by decide) (by decide) hz (by decide) (by decide) rfl ?_
  refine xr_putR (i := 0) eX8_init_9 hS rfl (Nat.le_of_ble_eq_true rfl) rfl rfl rfl ?_
  refine xs_aload eX8_init_12 rfl ?_
  refine xs_K eX8_init_13 ?_
  refine xr_newa (i := 2) (ty := .int) eX8_init_15 hS rfl rfl rfl (by decide) (by decide) hz (by decide) (by decide) rfl ?_
  refine xr_putR (i := 0) eX8_init_17 hS rfl (Nat.le_of_ble_eq_true rfl) rfl rfl rfl ?_
  exact xs_vret eX8_init_20 rfl (hQ)
theorem c_X0_init (hS : S.length = c) (hz : ∀ a, c ≤ a → ∀ j, M a j = 0) (hQ : Q none (S ++ bookL c) M) : xC G mX0_init (d + 1) 4 20 [.ref (G.1 + (c + 0)), .ref (G.1 + 18)] (S ++ [.inr (.inl (0, bf0))]) M Q := by
  refine xC_intro [some (.ref (G.1 + (c + 0))), some (.ref (G.1 + 18))] rfl (by decide) (Nat.le_of_ble_eq_true rfl) ?_
  refine xs_aload eX0_init_0 rfl ?_
  refine xs_objI eX0_init_1 (Nat.le_of_ble_eq_true rfl) ?_
  refine xs_aload eX0_init_4 rfl ?_
  refine xs_K eX0_init_5 ?_
  refine xr_newa (i := 1) (ty := .int) eX0_init_7 hS rfl rfl rfl (by decide) (by decide) hz (by decide) (by decide) rfl ?_
  refine xr_putR (i := 0) eX0_init_9 hS rfl (Nat.le_of_ble_eq_true rfl) rfl rfl rfl ?_
  refine xs_aload eX0_init_12 rfl ?_
  refine xs_K eX0_init_13 ?_
  refine xr_newa (i := 2) (ty := .int) eX0_init_15 hS rfl rfl rfl (by decide) (by decide) hz (by decide) (by decide) rfl ?_
  refine xr_putR (i := 0) eX0_init_17 hS rfl (Nat.le_of_ble_eq_true rfl) rfl rfl rfl ?_
  refine xs_aload eX0_init_20 rfl ?_
  refine xs_K eX0_init_21 ?_
  refine xr_newa (i := 3) (ty := .int) eX0_init_22 hS rfl rfl rfl (by decide) (by decide) hz (by decide) (by decide) rfl ?_
  refine xr_putR (i := 0) eX0_init_24 hS rfl (Nat.le_of_ble_eq_true rfl) rfl rfl rfl ?_
  refine xs_aload eX0_init_27 rfl ?_
  refine xs_K eX0_init_28 ?_
  refine xr_newa (i := 4) (ty := .int) eX0_init_29 hS rfl rfl rfl (by decide) (by decide) hz (by decide) (by decide) rfl ?_
  refine xr_putR (i := 0) eX0_init_31 hS rfl (Nat.le_of_ble_eq_true rfl) rfl rfl rfl ?_
  refine xs_aload eX0_init_34 rfl ?_
  refine xs_aload eX0_init_35 rfl ?_
  refine xr_putR (i := 0) eX0_init_36 hS rfl (Nat.le_of_ble_eq_true rfl) rfl rfl rfl ?_
  exact xs_vret eX0_init_39 rfl (hQ)
theorem c_X0_initR (hS : S.length = c) (hi : L1.length = i) (hz : ∀ a, c ≤ a → ∀ j, M a j = 0) (hQ : Q none (S ++ (L1 ++ bookL (c + i))) M) : xC G mX0_init (d + 1) 4 20 [.ref (G.1 + (c + i)), .ref (G.1 + 18)] (S ++ (L1 ++ [.inr (.inl (0, bf0))])) M Q := by
  have h := c_X0_init (G := G) (d := d) (Q := Q) (M := M) (S := S ++ L1) (c := c + i) (app_len hS hi) (fun a ha => hz a (by omega)) (by rw [List.append_assoc]; exact hQ)
  rw [List.append_assoc] at h
  exact h
def landL (c : Nat) : List xSh := [.inr (.inl (2, [some (some (c + 1)), some (some (c + 2)), some (some (c + 3)), some (some (c + 4)), some (some (c + 5)), none, none, none])), .inl (.int, 7), .inl (.int, 7), .inl (.int, 3), .inl (.int, 7)] ++ (.inr (.inr (.array .int, (List.range 7).map (fun j => some (c + 5 + 1 + j)))) :: List.replicate 7 (.inl (.int, 7)))
theorem c_X2_init (hS : S.length = c) (hz : ∀ a, c ≤ a → ∀ j, M a j = 0) (hQ : Q none (S ++ landL c) M) : xC G mX2_init (d + 1) 12 80 [.ref (G.1 + (c + 0))] (S ++ [.inr (.inl (2, bf2))]) M Q := by
  refine xC_intro [some (.ref (G.1 + (c + 0)))] rfl (by decide) (Nat.le_of_ble_eq_true rfl) ?_
  refine xs_aload eX2_init_0 rfl ?_
  refine xs_objI eX2_init_1 (Nat.le_of_ble_eq_true rfl) ?_
  refine xs_aload eX2_init_4 rfl ?_
  refine xs_K eX2_init_5 ?_
  refine xr_newa (i := 1) (ty := .int) eX2_init_7 hS rfl rfl rfl (by decide) (by decide) hz (by decide) (by decide) rfl ?_
  refine xr_putR (i := 0) eX2_init_9 hS rfl (Nat.le_of_ble_eq_true rfl) rfl rfl rfl ?_
  refine xs_aload eX2_init_12 rfl ?_
  refine xs_K eX2_init_13 ?_
  refine xr_newa (i := 2) (ty := .int) eX2_init_15 hS rfl rfl rfl (by decide) (by decide) hz (by decide) (by decide) rfl ?_
  refine xr_putR (i := 0) eX2_init_17 hS rfl (Nat.le_of_ble_eq_true rfl) rfl rfl rfl ?_
  refine xs_aload eX2_init_20 rfl ?_
  refine xs_K eX2_init_21 ?_
  refine xr_newa (i := 3) (ty := .int) eX2_init_22 hS rfl rfl rfl (by decide) (by decide) hz (by decide) (by decide) rfl ?_
  refine xr_putR (i := 0) eX2_init_24 hS rfl (Nat.le_of_ble_eq_true rfl) rfl rfl rfl ?_
  refine xs_aload eX2_init_27 rfl ?_
  refine xs_K eX2_init_28 ?_
  refine xr_newa (i := 4) (ty := .int) eX2_init_30 hS rfl rfl rfl (by decide) (by decide) hz (by decide) (by decide) rfl ?_
  refine xr_putR (i := 0) eX2_init_32 hS rfl (Nat.le_of_ble_eq_true rfl) rfl rfl rfl ?_
  refine xs_aload eX2_init_35 rfl ?_
  refine xs_K eX2_init_36 ?_
  refine xs_K eX2_init_38 ?_
  refine xr_mna (i := 5) eX2_init_40 hS rfl (by decide) (by decide) hz (by decide) (by decide) rfl ?_
  refine xr_putR (i := 0) eX2_init_44 hS rfl (Nat.le_of_ble_eq_true rfl) rfl rfl rfl ?_
  exact xs_vret eX2_init_47 rfl (hQ)
def sharL (c : Nat) : List xSh := [.inr (.inl (7, [some (some 18), some (some (c + 1)), some (some (c + 2)), some (some (c + 6)), some (some (c + 7)), none])), .inl (.int, 896)] ++ (.inr (.inr (.array .int, (List.range 3).map (fun j => some (c + 2 + 1 + j)))) :: List.replicate 3 (.inl (.int, 128))) ++ [.inl (.int, 3), .inl (.int, 3)]
theorem c_X7_init (hS : S.length = c) (hz : ∀ a, c ≤ a → ∀ j, M a j = 0) (hQ : Q none (S ++ sharL c) M) : xC G mX7_init (d + 1) 7 1289 [.ref (G.1 + (c + 0)), .ref (G.1 + 18)] (S ++ [.inr (.inl (7, bf7))]) M Q := by
  refine xC_intro [some (.ref (G.1 + (c + 0))), some (.ref (G.1 + 18))] rfl (by decide) (Nat.le_of_ble_eq_true rfl) ?_
  refine xs_aload eX7_init_0 rfl ?_
  refine xs_objI eX7_init_1 (Nat.le_of_ble_eq_true rfl) ?_
  refine xs_aload eX7_init_4 rfl ?_
  refine xs_K eX7_init_5 ?_
  refine xr_newa (i := 1) (ty := .int) eX7_init_8 hS rfl rfl rfl (by decide) (by decide) hz (by decide) (by decide) rfl ?_
  refine xr_putR (i := 0) eX7_init_10 hS rfl (Nat.le_of_ble_eq_true rfl) rfl rfl rfl ?_
  refine xs_aload eX7_init_13 rfl ?_
  refine xs_K eX7_init_14 ?_
  refine xs_K eX7_init_15 ?_
  refine xr_mna (i := 2) eX7_init_18 hS rfl (by decide) (by decide) hz (by decide) (by decide) rfl ?_
  refine xr_putR (i := 0) eX7_init_22 hS rfl (Nat.le_of_ble_eq_true rfl) rfl rfl rfl ?_
  refine xs_aload eX7_init_25 rfl ?_
  refine xs_K eX7_init_26 ?_
  refine xr_newa (i := 6) (ty := .int) eX7_init_27 hS rfl rfl rfl (by decide) (by decide) hz (by decide) (by decide) rfl ?_
  refine xr_putR (i := 0) eX7_init_29 hS rfl (Nat.le_of_ble_eq_true rfl) rfl rfl rfl ?_
  refine xs_aload eX7_init_32 rfl ?_
  refine xs_K eX7_init_33 ?_
  refine xr_newa (i := 7) (ty := .int) eX7_init_34 hS rfl rfl rfl (by decide) (by decide) hz (by decide) (by decide) rfl ?_
  refine xr_putR (i := 0) eX7_init_36 hS rfl (Nat.le_of_ble_eq_true rfl) rfl rfl rfl ?_
  refine xs_aload eX7_init_39 rfl ?_
  refine xs_aload eX7_init_40 rfl ?_
  refine xr_putR (i := 0) eX7_init_41 hS rfl (Nat.le_of_ble_eq_true rfl) rfl rfl rfl ?_
  exact xs_vret eX7_init_44 rfl (hQ)
theorem c_X1_init (hS : S.length = c) (hz : ∀ a, c ≤ a → ∀ j, M a j = 0) (hQ : Q none (S ++ (.inr (.inl (1, [some (some 18), some (some (c + 1)), none, none])) :: bookL (c + 1))) M) : xC G mX1_init (d + 2) 5 27 [.ref (G.1 + (c + 0)), .ref (G.1 + 18)] (S ++ [.inr (.inl (1, bf1))]) M Q := by
  refine xC_intro [some (.ref (G.1 + (c + 0))), some (.ref (G.1 + 18))] rfl (by decide) (Nat.le_of_ble_eq_true rfl) ?_
  refine xs_aload eX1_init_0 rfl ?_
  refine xs_objI eX1_init_1 (Nat.le_of_ble_eq_true rfl) ?_
  refine xs_aload eX1_init_4 rfl ?_
  refine xs_aload eX1_init_5 rfl ?_
  refine xr_putR (i := 0) eX1_init_6 hS rfl (Nat.le_of_ble_eq_true rfl) rfl rfl rfl ?_
  refine xs_aload eX1_init_9 rfl ?_
  refine xr_new (i := 1) (fs := bf0) eX1_init_10 hS rfl rfl tyX0 tyX0_ok bf0_ok hz (by decide) (by decide) rfl ?_
  refine xs_dup eX1_init_13 rfl ?_
  refine xs_aload eX1_init_14 rfl ?_
  refine xs_callI (As := [.ref (G.1 + 18)]) (kc := 4) (nc := 20) rfl eX1_init_15 rfl rfl (Nat.le_of_ble_eq_true rfl) (by decide) (by decide) (c_X0_initR hS rfl hz ?_)
  refine xr_putR (i := 0) eX1_init_18 hS rfl (Nat.le_of_ble_eq_true rfl) rfl rfl rfl ?_
  exact xs_vret eX1_init_21 rfl (hQ)
def pilP (N j c : Nat) : List xSh := .inr (.inl (4, [some (some (c + 1)), none, none])) :: .inr (.inr (.object "NotAnOx$Book", (List.range N).map (fun i => if i < j then some (c + (2 + 5 * i)) else none))) :: (List.range j).flatMap (fun i => bookL (c + (2 + 5 * i)))
def ordP (j c : Nat) : List xSh := .inr (.inl (3, [some (some 18), some (some (c + 1)), some (some (c + 2)), some (some (c + 3)), none, none, none, none])) :: .inr (.inr (.object "NotAnOx$Book", (List.range 8).map (fun i => if i < j then some (c + (4 + 5 * i)) else none))) :: .inl (.int, 7) :: .inl (.int, 7) :: (List.range j).flatMap (fun i => bookL (c + (4 + 5 * i)))
theorem c_X4_init2 (hS : S.length = c) (hz : ∀ a, c ≤ a → ∀ j, M a j = 0) (hQ : Q none (S ++ pilP 2 2 c) M) : xC G mX4_init (d + 2) 11 56 [.ref (G.1 + (c + 0)), .ref (G.1 + 18), .int (nI 2)] (S ++ [.inr (.inl (4, bf4))]) M Q := by
  refine xC_intro [some (.ref (G.1 + (c + 0))), some (.ref (G.1 + 18)), some (.int (nI 2)), none] rfl (by decide) (Nat.le_of_ble_eq_true rfl) ?_
  refine xs_aload eX4_init_0 rfl ?_
  refine xs_objI eX4_init_1 (Nat.le_of_ble_eq_true rfl) ?_
  refine xs_aload eX4_init_4 rfl ?_
  refine xs_K eX4_init_5 ?_
  refine xs_iload eX4_init_6 rfl ?_
  refine xs_max fX4_init_7 (Nat.le_of_ble_eq_true rfl) ?_
  refine xs_eq1 (z := nI 2) (by decide +kernel) ?_
  refine xr_anew (i := 1) eX4_init_10 hS rfl (by decide) (by decide) (by decide) (by decide) rfl ?_
  refine xr_putR (i := 0) eX4_init_13 hS rfl (Nat.le_of_ble_eq_true rfl) rfl rfl rfl ?_
  refine xs_eqS (S1 := S ++ pilP 2 0 c) rfl ?_
  refine xs_K eX4_init_16 ?_
  refine xs_istore eX4_init_17 (Nat.le_of_ble_eq_true rfl) rfl rfl ?_
  refine xs_iload eX4_init_18 rfl ?_
  refine xs_aload eX4_init_19 rfl ?_
  refine xs_getR eX4_init_20 (app_at (i := 0) hS rfl) (by rfl) ?_
  refine xs_alenR eX4_init_23 (app_at (i := 1) hS rfl) ?_
  refine xs_eq1 (z := nI 2) rfl ?_
  refine xs_N_ge eX4_init_24 (by omega) (by omega) (fun h => absurd h (by omega)) (fun h24 => ?_)
  refine xs_aload eX4_init_27 rfl ?_
  refine xs_getR eX4_init_28 (app_at (i := 0) hS rfl) (by rfl) ?_
  refine xs_iload eX4_init_31 rfl ?_
  refine xr_new (i := 2) (fs := bf0) eX4_init_32 hS rfl rfl tyX0 tyX0_ok bf0_ok hz (by decide) (by decide) rfl ?_
  refine xs_dup eX4_init_35 rfl ?_
  refine xs_aload eX4_init_36 rfl ?_
  refine xs_callI (As := [.ref (G.1 + 18)]) (kc := 4) (nc := 20) rfl eX4_init_37 rfl rfl (Nat.le_of_ble_eq_true rfl) (by decide) (by decide) (c_X0_initR hS rfl hz ?_)
  refine xr_aast (i1 := 1) (iv := 2) (q := (RX0, TX0, 7)) (ci := 0) eX4_init_40 hS rfl rfl rfl (Nat.le_of_ble_eq_true rfl) (Nat.le_of_ble_eq_true rfl) rfl ?_
  refine xs_eqS (S1 := S ++ pilP 2 1 c) rfl ?_
  refine xs_inc1 eX4_init_41 rfl rfl rfl ?_
  refine xs_goto eX4_init_44 ?_
  refine xs_iload eX4_init_18 rfl ?_
  refine xs_aload eX4_init_19 rfl ?_
  refine xs_getR eX4_init_20 (app_at (i := 0) hS rfl) (by rfl) ?_
  refine xs_alenR eX4_init_23 (app_at (i := 1) hS rfl) ?_
  refine xs_eq1 (z := nI 2) rfl ?_
  refine xs_N_ge eX4_init_24 (by omega) (by omega) (fun h => absurd h (by omega)) (fun h24 => ?_)
  refine xs_aload eX4_init_27 rfl ?_
  refine xs_getR eX4_init_28 (app_at (i := 0) hS rfl) (by rfl) ?_
  refine xs_iload eX4_init_31 rfl ?_
  refine xr_new (i := 7) (fs := bf0) eX4_init_32 hS rfl rfl tyX0 tyX0_ok bf0_ok hz (by decide) (by decide) rfl ?_
  refine xs_dup eX4_init_35 rfl ?_
  refine xs_aload eX4_init_36 rfl ?_
  refine xs_callI (As := [.ref (G.1 + 18)]) (kc := 4) (nc := 20) rfl eX4_init_37 rfl rfl (Nat.le_of_ble_eq_true rfl) (by decide) (by decide) (c_X0_initR hS rfl hz ?_)
  refine xr_aast (i1 := 1) (iv := 7) (q := (RX0, TX0, 7)) (ci := 0) eX4_init_40 hS rfl rfl rfl (Nat.le_of_ble_eq_true rfl) (Nat.le_of_ble_eq_true rfl) rfl ?_
  refine xs_eqS (S1 := S ++ pilP 2 2 c) rfl ?_
  refine xs_inc1 eX4_init_41 rfl rfl rfl ?_
  refine xs_goto eX4_init_44 ?_
  refine xs_iload eX4_init_18 rfl ?_
  refine xs_aload eX4_init_19 rfl ?_
  refine xs_getR eX4_init_20 (app_at (i := 0) hS rfl) (by rfl) ?_
  refine xs_alenR eX4_init_23 (app_at (i := 1) hS rfl) ?_
  refine xs_eq1 (z := nI 2) rfl ?_
  refine xs_N_ge eX4_init_24 (by omega) (by omega) (fun h24 => ?_) (fun h => absurd h (by omega))
  exact xs_vret eX4_init_47 rfl (hQ)
theorem c_X4_init8 (hS : S.length = c) (hz : ∀ a, c ≤ a → ∀ j, M a j = 0) (hQ : Q none (S ++ pilP 8 8 c) M) : xC G mX4_init (d + 2) 41 224 [.ref (G.1 + (c + 0)), .ref (G.1 + 18), .int (nI 8)] (S ++ [.inr (.inl (4, bf4))]) M Q := by
  refine xC_intro [some (.ref (G.1 + (c + 0))), some (.ref (G.1 + 18)), some (.int (nI 8)), none] rfl (by decide) (Nat.le_of_ble_eq_true rfl) ?_
  refine xs_aload eX4_init_0 rfl ?_
  refine xs_objI eX4_init_1 (Nat.le_of_ble_eq_true rfl) ?_
  refine xs_aload eX4_init_4 rfl ?_
  refine xs_K eX4_init_5 ?_
  refine xs_iload eX4_init_6 rfl ?_
  refine xs_max fX4_init_7 (Nat.le_of_ble_eq_true rfl) ?_
  refine xs_eq1 (z := nI 8) (by decide +kernel) ?_
  refine xr_anew (i := 1) eX4_init_10 hS rfl (by decide) (by decide) (by decide) (by decide) rfl ?_
  refine xr_putR (i := 0) eX4_init_13 hS rfl (Nat.le_of_ble_eq_true rfl) rfl rfl rfl ?_
  refine xs_eqS (S1 := S ++ pilP 8 0 c) rfl ?_
  refine xs_K eX4_init_16 ?_
  refine xs_istore eX4_init_17 (Nat.le_of_ble_eq_true rfl) rfl rfl ?_
  refine xs_iload eX4_init_18 rfl ?_
  refine xs_aload eX4_init_19 rfl ?_
  refine xs_getR eX4_init_20 (app_at (i := 0) hS rfl) (by rfl) ?_
  refine xs_alenR eX4_init_23 (app_at (i := 1) hS rfl) ?_
  refine xs_eq1 (z := nI 8) rfl ?_
  refine xs_N_ge eX4_init_24 (by omega) (by omega) (fun h => absurd h (by omega)) (fun h24 => ?_)
  refine xs_aload eX4_init_27 rfl ?_
  refine xs_getR eX4_init_28 (app_at (i := 0) hS rfl) (by rfl) ?_
  refine xs_iload eX4_init_31 rfl ?_
  refine xr_new (i := 2) (fs := bf0) eX4_init_32 hS rfl rfl tyX0 tyX0_ok bf0_ok hz (by decide) (by decide) rfl ?_
  refine xs_dup eX4_init_35 rfl ?_
  refine xs_aload eX4_init_36 rfl ?_
  refine xs_callI (As := [.ref (G.1 + 18)]) (kc := 4) (nc := 20) rfl eX4_init_37 rfl rfl (Nat.le_of_ble_eq_true rfl) (by decide) (by decide) (c_X0_initR hS rfl hz ?_)
  refine xr_aast (i1 := 1) (iv := 2) (q := (RX0, TX0, 7)) (ci := 0) eX4_init_40 hS rfl rfl rfl (Nat.le_of_ble_eq_true rfl) (Nat.le_of_ble_eq_true rfl) rfl ?_
  refine xs_eqS (S1 := S ++ pilP 8 1 c) rfl ?_
  refine xs_inc1 eX4_init_41 rfl rfl rfl ?_
  refine xs_goto eX4_init_44 ?_
  refine xs_iload eX4_init_18 rfl ?_
  refine xs_aload eX4_init_19 rfl ?_
  refine xs_getR eX4_init_20 (app_at (i := 0) hS rfl) (by rfl) ?_
  refine xs_alenR eX4_init_23 (app_at (i := 1) hS rfl) ?_
  refine xs_eq1 (z := nI 8) rfl ?_
  refine xs_N_ge eX4_init_24 (by omega) (by omega) (fun h => absurd h (by omega)) (fun h24 => ?_)
  refine xs_aload eX4_init_27 rfl ?_
  refine xs_getR eX4_init_28 (app_at (i := 0) hS rfl) (by rfl) ?_
  refine xs_iload eX4_init_31 rfl ?_
  refine xr_new (i := 7) (fs := bf0) eX4_init_32 hS rfl rfl tyX0 tyX0_ok bf0_ok hz (by decide) (by decide) rfl ?_
  refine xs_dup eX4_init_35 rfl ?_
  refine xs_aload eX4_init_36 rfl ?_
  refine xs_callI (As := [.ref (G.1 + 18)]) (kc := 4) (nc := 20) rfl eX4_init_37 rfl rfl (Nat.le_of_ble_eq_true rfl) (by decide) (by decide) (c_X0_initR hS rfl hz ?_)
  refine xr_aast (i1 := 1) (iv := 7) (q := (RX0, TX0, 7)) (ci := 0) eX4_init_40 hS rfl rfl rfl (Nat.le_of_ble_eq_true rfl) (Nat.le_of_ble_eq_true rfl) rfl ?_
  refine xs_eqS (S1 := S ++ pilP 8 2 c) rfl ?_
  refine xs_inc1 eX4_init_41 rfl rfl rfl ?_
  refine xs_goto eX4_init_44 ?_
  refine xs_iload eX4_init_18 rfl ?_
  refine xs_aload eX4_init_19 rfl ?_
  refine xs_getR eX4_init_20 (app_at (i := 0) hS rfl) (by rfl) ?_
  refine xs_alenR eX4_init_23 (app_at (i := 1) hS rfl) ?_
  refine xs_eq1 (z := nI 8) rfl ?_
  refine xs_N_ge eX4_init_24 (by omega) (by omega) (fun h => absurd h (by omega)) (fun h24 => ?_)
  refine xs_aload eX4_init_27 rfl ?_
  refine xs_getR eX4_init_28 (app_at (i := 0) hS rfl) (by rfl) ?_
  refine xs_iload eX4_init_31 rfl ?_
  refine xr_new (i := 12) (fs := bf0) eX4_init_32 hS rfl rfl tyX0 tyX0_ok bf0_ok hz (by decide) (by decide) rfl ?_
  refine xs_dup eX4_init_35 rfl ?_
  refine xs_aload eX4_init_36 rfl ?_
  refine xs_callI (As := [.ref (G.1 + 18)]) (kc := 4) (nc := 20) rfl eX4_init_37 rfl rfl (Nat.le_of_ble_eq_true rfl) (by decide) (by decide) (c_X0_initR hS rfl hz ?_)
  refine xr_aast (i1 := 1) (iv := 12) (q := (RX0, TX0, 7)) (ci := 0) eX4_init_40 hS rfl rfl rfl (Nat.le_of_ble_eq_true rfl) (Nat.le_of_ble_eq_true rfl) rfl ?_
  refine xs_eqS (S1 := S ++ pilP 8 3 c) rfl ?_
  refine xs_inc1 eX4_init_41 rfl rfl rfl ?_
  refine xs_goto eX4_init_44 ?_
  refine xs_iload eX4_init_18 rfl ?_
  refine xs_aload eX4_init_19 rfl ?_
  refine xs_getR eX4_init_20 (app_at (i := 0) hS rfl) (by rfl) ?_
  refine xs_alenR eX4_init_23 (app_at (i := 1) hS rfl) ?_
  refine xs_eq1 (z := nI 8) rfl ?_
  refine xs_N_ge eX4_init_24 (by omega) (by omega) (fun h => absurd h (by omega)) (fun h24 => ?_)
  refine xs_aload eX4_init_27 rfl ?_
  refine xs_getR eX4_init_28 (app_at (i := 0) hS rfl) (by rfl) ?_
  refine xs_iload eX4_init_31 rfl ?_
  refine xr_new (i := 17) (fs := bf0) eX4_init_32 hS rfl rfl tyX0 tyX0_ok bf0_ok hz (by decide) (by decide) rfl ?_
  refine xs_dup eX4_init_35 rfl ?_
  refine xs_aload eX4_init_36 rfl ?_
  refine xs_callI (As := [.ref (G.1 + 18)]) (kc := 4) (nc := 20) rfl eX4_init_37 rfl rfl (Nat.le_of_ble_eq_true rfl) (by decide) (by decide) (c_X0_initR hS rfl hz ?_)
  refine xr_aast (i1 := 1) (iv := 17) (q := (RX0, TX0, 7)) (ci := 0) eX4_init_40 hS rfl rfl rfl (Nat.le_of_ble_eq_true rfl) (Nat.le_of_ble_eq_true rfl) rfl ?_
  refine xs_eqS (S1 := S ++ pilP 8 4 c) rfl ?_
  refine xs_inc1 eX4_init_41 rfl rfl rfl ?_
  refine xs_goto eX4_init_44 ?_
  refine xs_iload eX4_init_18 rfl ?_
  refine xs_aload eX4_init_19 rfl ?_
  refine xs_getR eX4_init_20 (app_at (i := 0) hS rfl) (by rfl) ?_
  refine xs_alenR eX4_init_23 (app_at (i := 1) hS rfl) ?_
  refine xs_eq1 (z := nI 8) rfl ?_
  refine xs_N_ge eX4_init_24 (by omega) (by omega) (fun h => absurd h (by omega)) (fun h24 => ?_)
  refine xs_aload eX4_init_27 rfl ?_
  refine xs_getR eX4_init_28 (app_at (i := 0) hS rfl) (by rfl) ?_
  refine xs_iload eX4_init_31 rfl ?_
  refine xr_new (i := 22) (fs := bf0) eX4_init_32 hS rfl rfl tyX0 tyX0_ok bf0_ok hz (by decide) (by decide) rfl ?_
  refine xs_dup eX4_init_35 rfl ?_
  refine xs_aload eX4_init_36 rfl ?_
  refine xs_callI (As := [.ref (G.1 + 18)]) (kc := 4) (nc := 20) rfl eX4_init_37 rfl rfl (Nat.le_of_ble_eq_true rfl) (by decide) (by decide) (c_X0_initR hS rfl hz ?_)
  refine xr_aast (i1 := 1) (iv := 22) (q := (RX0, TX0, 7)) (ci := 0) eX4_init_40 hS rfl rfl rfl (Nat.le_of_ble_eq_true rfl) (Nat.le_of_ble_eq_true rfl) rfl ?_
  refine xs_eqS (S1 := S ++ pilP 8 5 c) rfl ?_
  refine xs_inc1 eX4_init_41 rfl rfl rfl ?_
  refine xs_goto eX4_init_44 ?_
  refine xs_iload eX4_init_18 rfl ?_
  refine xs_aload eX4_init_19 rfl ?_
  refine xs_getR eX4_init_20 (app_at (i := 0) hS rfl) (by rfl) ?_
  refine xs_alenR eX4_init_23 (app_at (i := 1) hS rfl) ?_
  refine xs_eq1 (z := nI 8) rfl ?_
  refine xs_N_ge eX4_init_24 (by omega) (by omega) (fun h => absurd h (by omega)) (fun h24 => ?_)
  refine xs_aload eX4_init_27 rfl ?_
  refine xs_getR eX4_init_28 (app_at (i := 0) hS rfl) (by rfl) ?_
  refine xs_iload eX4_init_31 rfl ?_
  refine xr_new (i := 27) (fs := bf0) eX4_init_32 hS rfl rfl tyX0 tyX0_ok bf0_ok hz (by decide) (by decide) rfl ?_
  refine xs_dup eX4_init_35 rfl ?_
  refine xs_aload eX4_init_36 rfl ?_
  refine xs_callI (As := [.ref (G.1 + 18)]) (kc := 4) (nc := 20) rfl eX4_init_37 rfl rfl (Nat.le_of_ble_eq_true rfl) (by decide) (by decide) (c_X0_initR hS rfl hz ?_)
  refine xr_aast (i1 := 1) (iv := 27) (q := (RX0, TX0, 7)) (ci := 0) eX4_init_40 hS rfl rfl rfl (Nat.le_of_ble_eq_true rfl) (Nat.le_of_ble_eq_true rfl) rfl ?_
  refine xs_eqS (S1 := S ++ pilP 8 6 c) rfl ?_
  refine xs_inc1 eX4_init_41 rfl rfl rfl ?_
  refine xs_goto eX4_init_44 ?_
  refine xs_iload eX4_init_18 rfl ?_
  refine xs_aload eX4_init_19 rfl ?_
  refine xs_getR eX4_init_20 (app_at (i := 0) hS rfl) (by rfl) ?_
  refine xs_alenR eX4_init_23 (app_at (i := 1) hS rfl) ?_
  refine xs_eq1 (z := nI 8) rfl ?_
  refine xs_N_ge eX4_init_24 (by omega) (by omega) (fun h => absurd h (by omega)) (fun h24 => ?_)
  refine xs_aload eX4_init_27 rfl ?_
  refine xs_getR eX4_init_28 (app_at (i := 0) hS rfl) (by rfl) ?_
  refine xs_iload eX4_init_31 rfl ?_
  refine xr_new (i := 32) (fs := bf0) eX4_init_32 hS rfl rfl tyX0 tyX0_ok bf0_ok hz (by decide) (by decide) rfl ?_
  refine xs_dup eX4_init_35 rfl ?_
  refine xs_aload eX4_init_36 rfl ?_
  refine xs_callI (As := [.ref (G.1 + 18)]) (kc := 4) (nc := 20) rfl eX4_init_37 rfl rfl (Nat.le_of_ble_eq_true rfl) (by decide) (by decide) (c_X0_initR hS rfl hz ?_)
  refine xr_aast (i1 := 1) (iv := 32) (q := (RX0, TX0, 7)) (ci := 0) eX4_init_40 hS rfl rfl rfl (Nat.le_of_ble_eq_true rfl) (Nat.le_of_ble_eq_true rfl) rfl ?_
  refine xs_eqS (S1 := S ++ pilP 8 7 c) rfl ?_
  refine xs_inc1 eX4_init_41 rfl rfl rfl ?_
  refine xs_goto eX4_init_44 ?_
  refine xs_iload eX4_init_18 rfl ?_
  refine xs_aload eX4_init_19 rfl ?_
  refine xs_getR eX4_init_20 (app_at (i := 0) hS rfl) (by rfl) ?_
  refine xs_alenR eX4_init_23 (app_at (i := 1) hS rfl) ?_
  refine xs_eq1 (z := nI 8) rfl ?_
  refine xs_N_ge eX4_init_24 (by omega) (by omega) (fun h => absurd h (by omega)) (fun h24 => ?_)
  refine xs_aload eX4_init_27 rfl ?_
  refine xs_getR eX4_init_28 (app_at (i := 0) hS rfl) (by rfl) ?_
  refine xs_iload eX4_init_31 rfl ?_
  refine xr_new (i := 37) (fs := bf0) eX4_init_32 hS rfl rfl tyX0 tyX0_ok bf0_ok hz (by decide) (by decide) rfl ?_
  refine xs_dup eX4_init_35 rfl ?_
  refine xs_aload eX4_init_36 rfl ?_
  refine xs_callI (As := [.ref (G.1 + 18)]) (kc := 4) (nc := 20) rfl eX4_init_37 rfl rfl (Nat.le_of_ble_eq_true rfl) (by decide) (by decide) (c_X0_initR hS rfl hz ?_)
  refine xr_aast (i1 := 1) (iv := 37) (q := (RX0, TX0, 7)) (ci := 0) eX4_init_40 hS rfl rfl rfl (Nat.le_of_ble_eq_true rfl) (Nat.le_of_ble_eq_true rfl) rfl ?_
  refine xs_eqS (S1 := S ++ pilP 8 8 c) rfl ?_
  refine xs_inc1 eX4_init_41 rfl rfl rfl ?_
  refine xs_goto eX4_init_44 ?_
  refine xs_iload eX4_init_18 rfl ?_
  refine xs_aload eX4_init_19 rfl ?_
  refine xs_getR eX4_init_20 (app_at (i := 0) hS rfl) (by rfl) ?_
  refine xs_alenR eX4_init_23 (app_at (i := 1) hS rfl) ?_
  refine xs_eq1 (z := nI 8) rfl ?_
  refine xs_N_ge eX4_init_24 (by omega) (by omega) (fun h24 => ?_) (fun h => absurd h (by omega))
  exact xs_vret eX4_init_47 rfl (hQ)
theorem c_X3_init (hS : S.length = c) (hz : ∀ a, c ≤ a → ∀ j, M a j = 0) (hQ : Q none (S ++ ordP 8 c) M) : xC G mX3_init (d + 2) 43 238 [.ref (G.1 + (c + 0)), .ref (G.1 + 18)] (S ++ [.inr (.inl (3, bf3))]) M Q := by
  refine xC_intro [some (.ref (G.1 + (c + 0))), some (.ref (G.1 + 18)), none] rfl (by decide) (Nat.le_of_ble_eq_true rfl) ?_
  refine xs_aload eX3_init_0 rfl ?_
  refine xs_objI eX3_init_1 (Nat.le_of_ble_eq_true rfl) ?_
  refine xs_aload eX3_init_4 rfl ?_
  refine xs_K eX3_init_5 ?_
  refine xr_anew (i := 1) eX3_init_7 hS rfl (by decide) (by decide) (by decide) (by decide) rfl ?_
  refine xr_putR (i := 0) eX3_init_10 hS rfl (Nat.le_of_ble_eq_true rfl) rfl rfl rfl ?_
  refine xs_aload eX3_init_13 rfl ?_
  refine xs_K eX3_init_14 ?_
  refine xr_newa (i := 2) (ty := .int) eX3_init_16 hS rfl rfl rfl (by decide) (by decide) hz (by decide) (by decide) rfl ?_
  refine xr_putR (i := 0) eX3_init_18 hS rfl (Nat.le_of_ble_eq_true rfl) rfl rfl rfl ?_
  refine xs_aload eX3_init_21 rfl ?_
  refine xs_K eX3_init_22 ?_
  refine xr_newa (i := 3) (ty := .int) eX3_init_24 hS rfl rfl rfl (by decide) (by decide) hz (by decide) (by decide) rfl ?_
  refine xr_putR (i := 0) eX3_init_26 hS rfl (Nat.le_of_ble_eq_true rfl) rfl rfl rfl ?_
  refine xs_aload eX3_init_29 rfl ?_
  refine xs_aload eX3_init_30 rfl ?_
  refine xr_putR (i := 0) eX3_init_31 hS rfl (Nat.le_of_ble_eq_true rfl) rfl rfl rfl ?_
  refine xs_eqS (S1 := S ++ ordP 0 c) rfl ?_
  refine xs_K eX3_init_34 ?_
  refine xs_istore eX3_init_35 (Nat.le_of_ble_eq_true rfl) rfl rfl ?_
  refine xs_iload eX3_init_36 rfl ?_
  refine xs_aload eX3_init_37 rfl ?_
  refine xs_getR eX3_init_38 (app_at (i := 0) hS rfl) (by rfl) ?_
  refine xs_alenR eX3_init_41 (app_at (i := 1) hS rfl) ?_
  refine xs_eq1 (z := nI 8) rfl ?_
  refine xs_N_ge eX3_init_42 (by omega) (by omega) (fun h => absurd h (by omega)) (fun h42 => ?_)
  refine xs_aload eX3_init_45 rfl ?_
  refine xs_getR eX3_init_46 (app_at (i := 0) hS rfl) (by rfl) ?_
  refine xs_iload eX3_init_49 rfl ?_
  refine xr_new (i := 4) (fs := bf0) eX3_init_50 hS rfl rfl tyX0 tyX0_ok bf0_ok hz (by decide) (by decide) rfl ?_
  refine xs_dup eX3_init_53 rfl ?_
  refine xs_aload eX3_init_54 rfl ?_
  refine xs_callI (As := [.ref (G.1 + 18)]) (kc := 4) (nc := 20) rfl eX3_init_55 rfl rfl (Nat.le_of_ble_eq_true rfl) (by decide) (by decide) (c_X0_initR hS rfl hz ?_)
  refine xr_aast (i1 := 1) (iv := 4) (q := (RX0, TX0, 7)) (ci := 0) eX3_init_58 hS rfl rfl rfl (Nat.le_of_ble_eq_true rfl) (Nat.le_of_ble_eq_true rfl) rfl ?_
  refine xs_eqS (S1 := S ++ ordP 1 c) rfl ?_
  refine xs_inc1 eX3_init_59 rfl rfl rfl ?_
  refine xs_goto eX3_init_62 ?_
  refine xs_iload eX3_init_36 rfl ?_
  refine xs_aload eX3_init_37 rfl ?_
  refine xs_getR eX3_init_38 (app_at (i := 0) hS rfl) (by rfl) ?_
  refine xs_alenR eX3_init_41 (app_at (i := 1) hS rfl) ?_
  refine xs_eq1 (z := nI 8) rfl ?_
  refine xs_N_ge eX3_init_42 (by omega) (by omega) (fun h => absurd h (by omega)) (fun h42 => ?_)
  refine xs_aload eX3_init_45 rfl ?_
  refine xs_getR eX3_init_46 (app_at (i := 0) hS rfl) (by rfl) ?_
  refine xs_iload eX3_init_49 rfl ?_
  refine xr_new (i := 9) (fs := bf0) eX3_init_50 hS rfl rfl tyX0 tyX0_ok bf0_ok hz (by decide) (by decide) rfl ?_
  refine xs_dup eX3_init_53 rfl ?_
  refine xs_aload eX3_init_54 rfl ?_
  refine xs_callI (As := [.ref (G.1 + 18)]) (kc := 4) (nc := 20) rfl eX3_init_55 rfl rfl (Nat.le_of_ble_eq_true rfl) (by decide) (by decide) (c_X0_initR hS rfl hz ?_)
  refine xr_aast (i1 := 1) (iv := 9) (q := (RX0, TX0, 7)) (ci := 0) eX3_init_58 hS rfl rfl rfl (Nat.le_of_ble_eq_true rfl) (Nat.le_of_ble_eq_true rfl) rfl ?_
  refine xs_eqS (S1 := S ++ ordP 2 c) rfl ?_
  refine xs_inc1 eX3_init_59 rfl rfl rfl ?_
  refine xs_goto eX3_init_62 ?_
  refine xs_iload eX3_init_36 rfl ?_
  refine xs_aload eX3_init_37 rfl ?_
  refine xs_getR eX3_init_38 (app_at (i := 0) hS rfl) (by rfl) ?_
  refine xs_alenR eX3_init_41 (app_at (i := 1) hS rfl) ?_
  refine xs_eq1 (z := nI 8) rfl ?_
  refine xs_N_ge eX3_init_42 (by omega) (by omega) (fun h => absurd h (by omega)) (fun h42 => ?_)
  refine xs_aload eX3_init_45 rfl ?_
  refine xs_getR eX3_init_46 (app_at (i := 0) hS rfl) (by rfl) ?_
  refine xs_iload eX3_init_49 rfl ?_
  refine xr_new (i := 14) (fs := bf0) eX3_init_50 hS rfl rfl tyX0 tyX0_ok bf0_ok hz (by decide) (by decide) rfl ?_
  refine xs_dup eX3_init_53 rfl ?_
  refine xs_aload eX3_init_54 rfl ?_
  refine xs_callI (As := [.ref (G.1 + 18)]) (kc := 4) (nc := 20) rfl eX3_init_55 rfl rfl (Nat.le_of_ble_eq_true rfl) (by decide) (by decide) (c_X0_initR hS rfl hz ?_)
  refine xr_aast (i1 := 1) (iv := 14) (q := (RX0, TX0, 7)) (ci := 0) eX3_init_58 hS rfl rfl rfl (Nat.le_of_ble_eq_true rfl) (Nat.le_of_ble_eq_true rfl) rfl ?_
  refine xs_eqS (S1 := S ++ ordP 3 c) rfl ?_
  refine xs_inc1 eX3_init_59 rfl rfl rfl ?_
  refine xs_goto eX3_init_62 ?_
  refine xs_iload eX3_init_36 rfl ?_
  refine xs_aload eX3_init_37 rfl ?_
  refine xs_getR eX3_init_38 (app_at (i := 0) hS rfl) (by rfl) ?_
  refine xs_alenR eX3_init_41 (app_at (i := 1) hS rfl) ?_
  refine xs_eq1 (z := nI 8) rfl ?_
  refine xs_N_ge eX3_init_42 (by omega) (by omega) (fun h => absurd h (by omega)) (fun h42 => ?_)
  refine xs_aload eX3_init_45 rfl ?_
  refine xs_getR eX3_init_46 (app_at (i := 0) hS rfl) (by rfl) ?_
  refine xs_iload eX3_init_49 rfl ?_
  refine xr_new (i := 19) (fs := bf0) eX3_init_50 hS rfl rfl tyX0 tyX0_ok bf0_ok hz (by decide) (by decide) rfl ?_
  refine xs_dup eX3_init_53 rfl ?_
  refine xs_aload eX3_init_54 rfl ?_
  refine xs_callI (As := [.ref (G.1 + 18)]) (kc := 4) (nc := 20) rfl eX3_init_55 rfl rfl (Nat.le_of_ble_eq_true rfl) (by decide) (by decide) (c_X0_initR hS rfl hz ?_)
  refine xr_aast (i1 := 1) (iv := 19) (q := (RX0, TX0, 7)) (ci := 0) eX3_init_58 hS rfl rfl rfl (Nat.le_of_ble_eq_true rfl) (Nat.le_of_ble_eq_true rfl) rfl ?_
  refine xs_eqS (S1 := S ++ ordP 4 c) rfl ?_
  refine xs_inc1 eX3_init_59 rfl rfl rfl ?_
  refine xs_goto eX3_init_62 ?_
  refine xs_iload eX3_init_36 rfl ?_
  refine xs_aload eX3_init_37 rfl ?_
  refine xs_getR eX3_init_38 (app_at (i := 0) hS rfl) (by rfl) ?_
  refine xs_alenR eX3_init_41 (app_at (i := 1) hS rfl) ?_
  refine xs_eq1 (z := nI 8) rfl ?_
  refine xs_N_ge eX3_init_42 (by omega) (by omega) (fun h => absurd h (by omega)) (fun h42 => ?_)
  refine xs_aload eX3_init_45 rfl ?_
  refine xs_getR eX3_init_46 (app_at (i := 0) hS rfl) (by rfl) ?_
  refine xs_iload eX3_init_49 rfl ?_
  refine xr_new (i := 24) (fs := bf0) eX3_init_50 hS rfl rfl tyX0 tyX0_ok bf0_ok hz (by decide) (by decide) rfl ?_
  refine xs_dup eX3_init_53 rfl ?_
  refine xs_aload eX3_init_54 rfl ?_
  refine xs_callI (As := [.ref (G.1 + 18)]) (kc := 4) (nc := 20) rfl eX3_init_55 rfl rfl (Nat.le_of_ble_eq_true rfl) (by decide) (by decide) (c_X0_initR hS rfl hz ?_)
  refine xr_aast (i1 := 1) (iv := 24) (q := (RX0, TX0, 7)) (ci := 0) eX3_init_58 hS rfl rfl rfl (Nat.le_of_ble_eq_true rfl) (Nat.le_of_ble_eq_true rfl) rfl ?_
  refine xs_eqS (S1 := S ++ ordP 5 c) rfl ?_
  refine xs_inc1 eX3_init_59 rfl rfl rfl ?_
  refine xs_goto eX3_init_62 ?_
  refine xs_iload eX3_init_36 rfl ?_
  refine xs_aload eX3_init_37 rfl ?_
  refine xs_getR eX3_init_38 (app_at (i := 0) hS rfl) (by rfl) ?_
  refine xs_alenR eX3_init_41 (app_at (i := 1) hS rfl) ?_
  refine xs_eq1 (z := nI 8) rfl ?_
  refine xs_N_ge eX3_init_42 (by omega) (by omega) (fun h => absurd h (by omega)) (fun h42 => ?_)
  refine xs_aload eX3_init_45 rfl ?_
  refine xs_getR eX3_init_46 (app_at (i := 0) hS rfl) (by rfl) ?_
  refine xs_iload eX3_init_49 rfl ?_
  refine xr_new (i := 29) (fs := bf0) eX3_init_50 hS rfl rfl tyX0 tyX0_ok bf0_ok hz (by decide) (by decide) rfl ?_
  refine xs_dup eX3_init_53 rfl ?_
  refine xs_aload eX3_init_54 rfl ?_
  refine xs_callI (As := [.ref (G.1 + 18)]) (kc := 4) (nc := 20) rfl eX3_init_55 rfl rfl (Nat.le_of_ble_eq_true rfl) (by decide) (by decide) (c_X0_initR hS rfl hz ?_)
  refine xr_aast (i1 := 1) (iv := 29) (q := (RX0, TX0, 7)) (ci := 0) eX3_init_58 hS rfl rfl rfl (Nat.le_of_ble_eq_true rfl) (Nat.le_of_ble_eq_true rfl) rfl ?_
  refine xs_eqS (S1 := S ++ ordP 6 c) rfl ?_
  refine xs_inc1 eX3_init_59 rfl rfl rfl ?_
  refine xs_goto eX3_init_62 ?_
  refine xs_iload eX3_init_36 rfl ?_
  refine xs_aload eX3_init_37 rfl ?_
  refine xs_getR eX3_init_38 (app_at (i := 0) hS rfl) (by rfl) ?_
  refine xs_alenR eX3_init_41 (app_at (i := 1) hS rfl) ?_
  refine xs_eq1 (z := nI 8) rfl ?_
  refine xs_N_ge eX3_init_42 (by omega) (by omega) (fun h => absurd h (by omega)) (fun h42 => ?_)
  refine xs_aload eX3_init_45 rfl ?_
  refine xs_getR eX3_init_46 (app_at (i := 0) hS rfl) (by rfl) ?_
  refine xs_iload eX3_init_49 rfl ?_
  refine xr_new (i := 34) (fs := bf0) eX3_init_50 hS rfl rfl tyX0 tyX0_ok bf0_ok hz (by decide) (by decide) rfl ?_
  refine xs_dup eX3_init_53 rfl ?_
  refine xs_aload eX3_init_54 rfl ?_
  refine xs_callI (As := [.ref (G.1 + 18)]) (kc := 4) (nc := 20) rfl eX3_init_55 rfl rfl (Nat.le_of_ble_eq_true rfl) (by decide) (by decide) (c_X0_initR hS rfl hz ?_)
  refine xr_aast (i1 := 1) (iv := 34) (q := (RX0, TX0, 7)) (ci := 0) eX3_init_58 hS rfl rfl rfl (Nat.le_of_ble_eq_true rfl) (Nat.le_of_ble_eq_true rfl) rfl ?_
  refine xs_eqS (S1 := S ++ ordP 7 c) rfl ?_
  refine xs_inc1 eX3_init_59 rfl rfl rfl ?_
  refine xs_goto eX3_init_62 ?_
  refine xs_iload eX3_init_36 rfl ?_
  refine xs_aload eX3_init_37 rfl ?_
  refine xs_getR eX3_init_38 (app_at (i := 0) hS rfl) (by rfl) ?_
  refine xs_alenR eX3_init_41 (app_at (i := 1) hS rfl) ?_
  refine xs_eq1 (z := nI 8) rfl ?_
  refine xs_N_ge eX3_init_42 (by omega) (by omega) (fun h => absurd h (by omega)) (fun h42 => ?_)
  refine xs_aload eX3_init_45 rfl ?_
  refine xs_getR eX3_init_46 (app_at (i := 0) hS rfl) (by rfl) ?_
  refine xs_iload eX3_init_49 rfl ?_
  refine xr_new (i := 39) (fs := bf0) eX3_init_50 hS rfl rfl tyX0 tyX0_ok bf0_ok hz (by decide) (by decide) rfl ?_
  refine xs_dup eX3_init_53 rfl ?_
  refine xs_aload eX3_init_54 rfl ?_
  refine xs_callI (As := [.ref (G.1 + 18)]) (kc := 4) (nc := 20) rfl eX3_init_55 rfl rfl (Nat.le_of_ble_eq_true rfl) (by decide) (by decide) (c_X0_initR hS rfl hz ?_)
  refine xr_aast (i1 := 1) (iv := 39) (q := (RX0, TX0, 7)) (ci := 0) eX3_init_58 hS rfl rfl rfl (Nat.le_of_ble_eq_true rfl) (Nat.le_of_ble_eq_true rfl) rfl ?_
  refine xs_eqS (S1 := S ++ ordP 8 c) rfl ?_
  refine xs_inc1 eX3_init_59 rfl rfl rfl ?_
  refine xs_goto eX3_init_62 ?_
  refine xs_iload eX3_init_36 rfl ?_
  refine xs_aload eX3_init_37 rfl ?_
  refine xs_getR eX3_init_38 (app_at (i := 0) hS rfl) (by rfl) ?_
  refine xs_alenR eX3_init_41 (app_at (i := 1) hS rfl) ?_
  refine xs_eq1 (z := nI 8) rfl ?_
  refine xs_N_ge eX3_init_42 (by omega) (by omega) (fun h42 => ?_) (fun h => absurd h (by omega))
  exact xs_vret eX3_init_65 rfl (hQ)
end CT

/-! Book: open, copy, askBy, hasTwin; Pile -/
theorem bkf {c : Nat} : ∀ j, ([some (some 18), some (some (c + 1)), some (some (c + 2)), some (some (c + 3)), some (some (c + 4)), none, none] : List (Option (Option Nat)))[j]? = some none → j = 5 ∨ j = 6
  | 0, h => by cases h
  | 1, h => by cases h
  | 2, h => by cases h
  | 3, h => by cases h
  | 4, h => by cases h
  | 5, _ => Or.inl rfl
  | 6, _ => Or.inr rfl
  | j + 7, h => by cases h
theorem cl_len {ci : Nat} {q r : vw_C} (h : vwCl[ci]? = some q) (h2 : vwCl[ci]? = some r) : q.2.2 = r.2.2 := by
  cases h.symm.trans h2
  rfl
section BK2
variable {G : xGl} {d c e v p w nv np kd : Nat} {M : xMem} {Q : Option Value → List xSh → xMem → Prop}
theorem c_X0_copyEntries (hc : isBk c) (he : isBk e) (hne : c ≠ e) (hQ : Q none SF (cpE M c e)) : xC G mX0_copyEntries (d + 1) 0 0 [.ref (G.1 + c), .ref (G.1 + e)] SF M Q := by
  have h0 := bk0 hc
  have h1 := bk1 hc
  have h2 := bk2 hc
  have g0 := bk0 he
  have g1 := bk1 he
  have g2 := bk2 he
  have hap := (bk_apart c hc e he).resolve_left hne
  refine xC_intro [some (.ref (G.1 + c)), some (.ref (G.1 + e))] rfl (by decide) (Nat.le_of_ble_eq_true rfl) ?_
  refine xs_aload eX0_copyEntries_0 rfl ?_
  refine xs_aload eX0_copyEntries_1 rfl ?_
  refine xs_getI eX0_copyEntries_2 (by assumption) (by rfl) ?_
  skip
  refine xs_putI eX0_copyEntries_5 (by assumption) (by rfl) rfl rfl ?_
  refine xs_aload eX0_copyEntries_8 rfl ?_
  refine xs_aload eX0_copyEntries_9 rfl ?_
  refine xs_getI eX0_copyEntries_10 (by assumption) (by rfl) ?_
  refine xs_eq1 (z := M e 6) (by rw [up2_ne (by omega)]) ?_
  refine xs_putI eX0_copyEntries_13 (by assumption) (by rfl) rfl rfl ?_
  refine xs_rowO h0 (fun q h => by cases h; exact Nat.le_refl _) (f := M e) (fun j hj => by rcases bkf j hj with rfl | rfl <;> simp [up2]) ?_
  have e1 : setR (up2 (up2 M c 5 (M e 5)) c 6 (M e 6)) c (M e) = setR M c (M e) := by
    funext a
    by_cases h : a = c
    · subst h
      rw [setR_row, setR_row]
    · rw [setR_ne h, setR_ne h, up2_ne h, up2_ne h]
  rw [e1]
  have e2 : setR M c (M e) (e + 1) = M (e + 1) := setR_ne (by omega)
  have e3 : setR (setR M c (M e)) (c + 1) (M (e + 1)) (e + 2) = M (e + 2) := by rw [setR_ne (by omega), setR_ne (by omega)]
  refine xs_aload eX0_copyEntries_16 rfl ?_
  refine xs_getR eX0_copyEntries_17 (by assumption) (by rfl) ?_
  refine xs_K eX0_copyEntries_20 ?_
  refine xs_aload eX0_copyEntries_21 rfl ?_
  refine xs_getR eX0_copyEntries_22 (by assumption) (by rfl) ?_
  refine xs_K eX0_copyEntries_25 ?_
  refine xs_K eX0_copyEntries_26 ?_
  refine xs_copy eX0_copyEntries_28 (by assumption) (by assumption) (by decide) (Nat.le_of_ble_eq_true rfl) ?_
  rw [e2]
  refine xs_aload eX0_copyEntries_31 rfl ?_
  refine xs_getR eX0_copyEntries_32 (by assumption) (by rfl) ?_
  refine xs_K eX0_copyEntries_35 ?_
  refine xs_aload eX0_copyEntries_36 rfl ?_
  refine xs_getR eX0_copyEntries_37 (by assumption) (by rfl) ?_
  refine xs_K eX0_copyEntries_40 ?_
  refine xs_K eX0_copyEntries_41 ?_
  refine xs_copy eX0_copyEntries_43 (by assumption) (by assumption) (by decide) (Nat.le_of_ble_eq_true rfl) ?_
  rw [e3]
  exact xs_vret eX0_copyEntries_46 rfl (hQ)
theorem c_X0_copyFrom (hc : isBk c) (he : isBk e) (hne : c ≠ e) (hQ : Q none SF (cpB M c e)) : xC G mX0_copyFrom (d + 2) 0 0 [.ref (G.1 + c), .ref (G.1 + e)] SF M Q := by
  have h0 := bk0 hc
  have h3 := bk3 hc
  have h4 := bk4 hc
  have g0 := bk0 he
  have g3 := bk3 he
  have g4 := bk4 he
  have hap := (bk_apart c hc e he).resolve_left hne
  have e2 : cpE M c e (e + 3) = M (e + 3) := by simp only [cpE]; rw [setR_ne (by omega), setR_ne (by omega), setR_ne (by omega)]
  have e3 : setR (cpE M c e) (c + 3) (M (e + 3)) (e + 4) = M (e + 4) := by simp only [cpE]; rw [setR_ne (by omega), setR_ne (by omega), setR_ne (by omega), setR_ne (by omega)]
  refine xC_intro [some (.ref (G.1 + c)), some (.ref (G.1 + e))] rfl (by decide) (Nat.le_of_ble_eq_true rfl) ?_
  refine xs_aload eX0_copyFrom_0 rfl ?_
  refine xs_aload eX0_copyFrom_1 rfl ?_
  refine xs_callV1v eX0_copyFrom_2 (by assumption) (Nat.le_of_ble_eq_true rfl) (c_X0_copyEntries (by assumption) (by assumption) (by assumption) ⟨rfl, ?_⟩)
  refine xs_aload eX0_copyFrom_5 rfl ?_
  refine xs_getR eX0_copyFrom_6 (by assumption) (by rfl) ?_
  refine xs_K eX0_copyFrom_9 ?_
  refine xs_aload eX0_copyFrom_10 rfl ?_
  refine xs_getR eX0_copyFrom_11 (by assumption) (by rfl) ?_
  refine xs_K eX0_copyFrom_14 ?_
  refine xs_K eX0_copyFrom_15 ?_
  refine xs_copy eX0_copyFrom_16 (by assumption) (by assumption) (by decide) (Nat.le_of_ble_eq_true rfl) ?_
  rw [e2]
  refine xs_aload eX0_copyFrom_19 rfl ?_
  refine xs_getR eX0_copyFrom_20 (by assumption) (by rfl) ?_
  refine xs_K eX0_copyFrom_23 ?_
  refine xs_aload eX0_copyFrom_24 rfl ?_
  refine xs_getR eX0_copyFrom_25 (by assumption) (by rfl) ?_
  refine xs_K eX0_copyFrom_28 ?_
  refine xs_K eX0_copyFrom_29 ?_
  refine xs_copy eX0_copyFrom_30 (by assumption) (by assumption) (by decide) (Nat.le_of_ble_eq_true rfl) ?_
  rw [e3]
  exact xs_vret eX0_copyFrom_33 rfl (hQ)
theorem c_X0_open (hc : isBk c) (hQ : Q none SF (openM M c)) : xC G mX0_open (d + 1) 0 0 [.ref (G.1 + c)] SF M Q := by
  have h0 := bk0 hc
  have h1 := bk1 hc
  have h2 := bk2 hc
  have h3 := bk3 hc
  have h4 := bk4 hc
  have l0 := sh18
  have l2 := sh20
  have l3 := sh21
  obtain ⟨b1, b2⟩ := bkR hc
  refine xC_intro [some (.ref (G.1 + c))] rfl (by decide) (Nat.le_of_ble_eq_true rfl) ?_
  refine xs_aload eX0_open_0 rfl ?_
  refine xs_K eX0_open_1 ?_
  refine xs_putI eX0_open_2 (by assumption) (by rfl) rfl rfl ?_
  refine xs_aload eX0_open_5 rfl ?_
  refine xs_K eX0_open_6 ?_
  refine xs_putI eX0_open_7 (by assumption) (by rfl) rfl rfl ?_
  refine xs_rowO h0 (fun q h => by cases h; exact Nat.le_refl _) (f := fun _ => nI 0) (fun j hj => by rcases bkf j hj with rfl | rfl <;> simp [up2]) ?_
  have e1 : setR (up2 (up2 M c 5 (nI 0)) c 6 (nI 0)) c (fun _ => nI 0) = setR M c (fun _ => nI 0) := by
    funext a
    by_cases h : a = c
    · subst h
      rw [setR_row, setR_row]
    · rw [setR_ne h, setR_ne h, up2_ne h, up2_ne h]
  rw [e1]
  have e2 : setR M c (fun _ => nI 0) 20 = M 20 := setR_ne (by omega)
  have e3 : setR (setR (setR M c (fun _ => nI 0)) (c + 1) (M 20)) (c + 2) (fun _ => nI 0) 21 = M 21 := by rw [setR_ne (by omega), setR_ne (by omega), setR_ne (by omega)]
  refine xs_aload eX0_open_10 rfl ?_
  refine xs_getR eX0_open_11 (by assumption) (by rfl) ?_
  refine xs_getR eX0_open_14 (by assumption) (by rfl) ?_
  refine xs_K eX0_open_17 ?_
  refine xs_aload eX0_open_18 rfl ?_
  refine xs_getR eX0_open_19 (by assumption) (by rfl) ?_
  refine xs_K eX0_open_22 ?_
  refine xs_K eX0_open_23 ?_
  refine xs_copy eX0_open_25 (by assumption) (by assumption) (by decide) (Nat.le_of_ble_eq_true rfl) ?_
  rw [e2]
  refine xs_aload eX0_open_28 rfl ?_
  refine xs_getR eX0_open_29 (by assumption) (by rfl) ?_
  refine xs_K eX0_open_32 ?_
  refine xs_callS2v eX0_open_33 (Nat.le_of_ble_eq_true rfl) (c_fill (by assumption) (by decide) ⟨rfl, ?_⟩)
  refine xs_aload eX0_open_36 rfl ?_
  refine xs_getR eX0_open_37 (by assumption) (by rfl) ?_
  refine xs_getR eX0_open_40 (by assumption) (by rfl) ?_
  refine xs_K eX0_open_43 ?_
  refine xs_aload eX0_open_44 rfl ?_
  refine xs_getR eX0_open_45 (by assumption) (by rfl) ?_
  refine xs_K eX0_open_48 ?_
  refine xs_K eX0_open_49 ?_
  refine xs_copy eX0_open_50 (by assumption) (by assumption) (by decide) (Nat.le_of_ble_eq_true rfl) ?_
  rw [e3]
  refine xs_aload eX0_open_53 rfl ?_
  refine xs_getR eX0_open_54 (by assumption) (by rfl) ?_
  refine xs_K eX0_open_57 ?_
  refine xs_callS2v eX0_open_58 (Nat.le_of_ble_eq_true rfl) (c_fill (by assumption) (by decide) ⟨rfl, ?_⟩)
  exact xs_vret eX0_open_61 rfl (hQ)
theorem c_X0_askBy (hc : isBk c) (hp : p < 3) (hv : v < 7) (hw : M (c + 3) p = nI w) (hw7 : w < 7) (hk : M 19 v = nI kd) (hk5 : kd < 5) (hl : M 22 v &&& M c 5 = 0 ∨ lowN (M 22 v &&& M c 5) < 7) (hQ : Q (some (.int (swornP (M 22 v &&& M c 5) (M 18 7) (M (c + 1)) (M (c + 2)) v kd))) SF (askM M c p v w kd (M 18 7))) : xC G mX0_askBy (d + 3) 0 0 [.ref (G.1 + c), .int (nI p), .int (nI v)] SF M Q := by
  have h0 := bk0 hc
  have h3 := bk3 hc
  have h4 := bk4 hc
  have l0 := sh18
  have l1 := sh19
  have l5 := sh23
  have lr := ldr (Or.inr rfl) w hw7
  obtain ⟨b1, b2⟩ := bkR hc
  refine xC_intro [some (.ref (G.1 + c)), some (.int (nI p)), some (.int (nI v))] rfl (by decide) (Nat.le_of_ble_eq_true rfl) ?_
  refine xs_aload eX0_askBy_0 rfl ?_
  refine xs_getR eX0_askBy_1 (by assumption) (by rfl) ?_
  refine xs_iload eX0_askBy_4 rfl ?_
  refine xs_dup2 eX0_askBy_5 rfl rfl ?_
  refine xs_iald eX0_askBy_6 (by assumption) (by omega) (by decide) ?_
  refine xs_aload eX0_askBy_7 rfl ?_
  refine xs_getR eX0_askBy_8 (by assumption) (by rfl) ?_
  refine xs_getR eX0_askBy_11 (by assumption) (by rfl) ?_
  refine xs_aload eX0_askBy_14 rfl ?_
  refine xs_getR eX0_askBy_15 (by assumption) (by rfl) ?_
  refine xs_iload eX0_askBy_18 rfl ?_
  refine xs_iald eX0_askBy_19 (by assumption) (by omega) (by decide) ?_
  refine xs_eq1 hw ?_
  refine xs_aald (r := 24 + w) eX0_askBy_20 l5 rfl (by rcases (show w = 0 ∨ w = 1 ∨ w = 2 ∨ w = 3 ∨ w = 4 ∨ w = 5 ∨ w = 6 by omega) with rfl | rfl | rfl | rfl | rfl | rfl | rfl <;> rfl) (by decide) ?_
  refine xs_iload eX0_askBy_21 rfl ?_
  refine xs_iald eX0_askBy_22 (by assumption) (by omega) (by decide) ?_
  refine xs_K eX0_askBy_23 ?_
  refine xs_iadd eX0_askBy_24 ?_
  refine xs_iadd eX0_askBy_25 ?_
  refine xs_iast eX0_askBy_26 (by assumption) (by omega) (by decide) ?_
  refine xs_aload eX0_askBy_27 rfl ?_
  refine xs_getR eX0_askBy_28 (by assumption) (by rfl) ?_
  refine xs_iload eX0_askBy_31 rfl ?_
  refine xs_iload eX0_askBy_32 rfl ?_
  refine xs_iast eX0_askBy_33 (by assumption) (by omega) (by decide) ?_
  generalize hM1 : up2 (up2 M (c + 4) p (M (c + 4) p + (M (24 + w) v + nI 1))) (c + 3) p (nI v) = M1
  have f : ∀ a, a ≠ c + 4 → a ≠ c + 3 → M1 a = M a := fun a q1 q2 => by rw [← hM1, up2_ne q2, up2_ne q1]
  have f22 : M1 22 = M 22 := f 22 (by omega) (by omega)
  have fc : M1 c = M c := f c (by omega) (by omega)
  have fc1 : M1 (c + 1) = M (c + 1) := f _ (by omega) (by omega)
  have fc2 : M1 (c + 2) = M (c + 2) := f _ (by omega) (by omega)
  have f18 : M1 18 = M 18 := f 18 (by omega) (by omega)
  have hk1 : M1 19 v = nI kd := by rw [f 19 (by omega) (by omega)]; exact hk
  have hl1 : M1 22 v &&& M1 c 5 = 0 ∨ lowN (M1 22 v &&& M1 c 5) < 7 := by rw [f22, fc]; exact hl
  have hQ1 : Q (some (.int (swornP (M1 22 v &&& M1 c 5) (M1 18 7) (M1 (c + 1)) (M1 (c + 2)) v kd))) SF (swearM M1 c v kd (M1 18 7)) := by
    rw [f22, fc, f18, fc1, fc2, ← hM1]
    exact hQ
  refine xs_aload eX0_askBy_34 rfl ?_
  refine xs_iload eX0_askBy_35 rfl ?_
  refine xs_aload eX0_askBy_36 rfl ?_
  refine xs_getR eX0_askBy_37 (by assumption) (by rfl) ?_
  refine xs_getR eX0_askBy_40 (by assumption) (by rfl) ?_
  refine xs_iload eX0_askBy_43 rfl ?_
  refine xs_iald eX0_askBy_44 (by assumption) (by omega) (by decide) ?_
  refine xs_eq1 hk1 ?_
  refine xs_aload eX0_askBy_45 rfl ?_
  refine xs_getR eX0_askBy_46 (by assumption) (by rfl) ?_
  refine xs_getI eX0_askBy_49 (by assumption) (by rfl) ?_
  refine xs_callV3i eX0_askBy_52 (by assumption) (Nat.le_of_ble_eq_true rfl) (c_X0_swear (by assumption) (by omega) (by omega) (by assumption) ⟨_, rfl, ?_⟩)
  exact xs_iretI eX0_askBy_55 rfl (hQ1)
theorem twinF_on {an : Int32} {wr : Nat → Int32} {v : Nat} : ∀ {n i : Nat}, i < n → (bt an i && decide (wr i = wr v)) = true → twinF an wr v n = true
  | 0, i, h, _ => by omega
  | n + 1, i, h, hb => by
    by_cases e : i = n
    · subst e
      simp only [twinF, hb, Bool.or_true]
    · simp only [twinF, twinF_on (n := n) (i := i) (by omega) hb, Bool.true_or]
theorem c_X0_hasTwin (hc : isBk c) (hv : v < 7) (hn : M 18 5 = nI nv) (h7 : nv ≤ 7) (hQ : Q (some (.int (bI (twinF (M 22 v &&& M c 5) (M (c + 2)) v nv)))) SF M) : xC G mX0_hasTwin d 0 0 [.ref (G.1 + c), .int (nI v)] SF M Q := by
  have h0 := bk0 hc
  have h2 := bk2 hc
  have l0 := sh18
  have l4 := sh22
  refine xC_intro [some (.ref (G.1 + c)), some (.int (nI v)), none, none] rfl (by decide) (Nat.le_of_ble_eq_true rfl) ?_
  refine xs_aload eX0_hasTwin_0 rfl ?_
  refine xs_getR eX0_hasTwin_1 (by assumption) (by rfl) ?_
  refine xs_getR eX0_hasTwin_4 (by assumption) (by rfl) ?_
  refine xs_iload eX0_hasTwin_7 rfl ?_
  refine xs_iald eX0_hasTwin_8 (by assumption) (by omega) (by decide) ?_
  refine xs_aload eX0_hasTwin_9 rfl ?_
  refine xs_getI eX0_hasTwin_10 (by assumption) (by rfl) ?_
  refine xs_iand eX0_hasTwin_13 ?_
  refine xs_istore eX0_hasTwin_14 (Nat.le_of_ble_eq_true rfl) rfl rfl ?_
  refine xs_K eX0_hasTwin_15 ?_
  refine xs_istore eX0_hasTwin_16 (Nat.le_of_ble_eq_true rfl) rfl rfl ?_
  refine dn (P := fun i => twinF (M 22 v &&& M c 5) (M (c + 2)) v i = false → xW G mX0_hasTwin d 0 0 Q 17 [some (.ref (G.1 + c)), some (.int (nI v)), some (.int (M 22 v &&& M c 5)), some (.int (nI i))] [] SF M) nv ?_ ?_ 0 (Nat.zero_le _) rfl
  · intro hf
    refine xs_iload eX0_hasTwin_17 rfl ?_
    refine xs_aload eX0_hasTwin_18 rfl ?_
    refine xs_getR eX0_hasTwin_19 (by assumption) (by rfl) ?_
    refine xs_getI eX0_hasTwin_22 (by assumption) (by rfl) ?_
    refine xs_eq1 hn ?_
    refine xs_icmp_ge eX0_hasTwin_25 (fun h25 => ?_) (fun h => absurd (Int32.le_refl _) h)
    refine xs_K eX0_hasTwin_59 ?_
    exact xs_iret eX0_hasTwin_60 rfl (by first | exact bI_nar _ | rfl) (Qev hQ (by rw [hf]; rfl))
  · intro i hi ih hf
    refine xs_iload eX0_hasTwin_17 rfl ?_
    refine xs_aload eX0_hasTwin_18 rfl ?_
    refine xs_getR eX0_hasTwin_19 (by assumption) (by rfl) ?_
    refine xs_getI eX0_hasTwin_22 (by assumption) (by rfl) ?_
    refine xs_eq1 hn ?_
    refine xs_icmp_ge eX0_hasTwin_25 (fun h => absurd h (nI_ge hi (by omega))) (fun h25 => ?_)
    refine xs_iload eX0_hasTwin_28 rfl ?_
    refine xs_iload eX0_hasTwin_29 rfl ?_
    refine xs_ishr eX0_hasTwin_30 ?_
    refine xs_K eX0_hasTwin_31 ?_
    refine xs_iand eX0_hasTwin_32 ?_
    refine xs_eq1 (bt_ask _ (by omega)) ?_
    refine xs_ifeqB eX0_hasTwin_33 (fun h33 => ?_) (fun h33 => ?_)
    · refine xs_inc1 eX0_hasTwin_53 rfl rfl rfl ?_
      refine xs_goto eX0_hasTwin_56 ?_
      exact ih (by simp [twinF, hf, h33])
    · refine xs_aload eX0_hasTwin_36 rfl ?_
      refine xs_getR eX0_hasTwin_37 (by assumption) (by rfl) ?_
      refine xs_iload eX0_hasTwin_40 rfl ?_
      refine xs_iald eX0_hasTwin_41 (by assumption) (by omega) (by decide) ?_
      refine xs_aload eX0_hasTwin_42 rfl ?_
      refine xs_getR eX0_hasTwin_43 (by assumption) (by rfl) ?_
      refine xs_iload eX0_hasTwin_46 rfl ?_
      refine xs_iald eX0_hasTwin_47 (by assumption) (by omega) (by decide) ?_
      refine xs_icmp_ne eX0_hasTwin_48 (fun h48 => ?_) (fun h48 => ?_)
      · refine xs_inc1 eX0_hasTwin_53 rfl rfl rfl ?_
        refine xs_goto eX0_hasTwin_56 ?_
        exact ih (by simp [twinF, hf, h48])
      · refine xs_K eX0_hasTwin_51 ?_
        exact xs_iret eX0_hasTwin_52 rfl (by first | exact bI_nar _ | rfl) (Qev hQ (by rw [twinF_on hi (by simp [h33, h48])]; rfl))
end BK2
/-- a Pile: its cell q, how many Books N, the first at b -/
def isPl (q N b : Nat) : Prop := (q = 41 ∧ N = 8 ∧ b = 43) ∨ (q = 83 ∧ N = 2 ∧ b = 85)
def plR (N b : Nat) : List (Option Nat) := (List.range N).map (fun i => some (b + 5 * i))
theorem pl0 {q N b : Nat} (h : isPl q N b) : SF[q]? = some (.inr (.inl (4, [some (some (q + 1)), none, none]))) := by rcases h with ⟨rfl, rfl, rfl⟩ | ⟨rfl, rfl, rfl⟩ <;> rfl
theorem pl1 {q N b : Nat} (h : isPl q N b) : SF[q + 1]? = some (.inr (.inr (.object "NotAnOx$Book", plR N b))) := by rcases h with ⟨rfl, rfl, rfl⟩ | ⟨rfl, rfl, rfl⟩ <;> rfl
theorem plL {q N b : Nat} (h : isPl q N b) : (plR N b).length = N := by simp [plR]
theorem plN {q N b : Nat} (h : isPl q N b) : 2 ≤ N ∧ N ≤ 8 := by rcases h with ⟨rfl, rfl, rfl⟩ | ⟨rfl, rfl, rfl⟩ <;> decide
theorem plI {q N b i : Nat} (h : isPl q N b) (hi : i < N) : (plR N b)[i]? = some (some (b + 5 * i)) := by simp [plR, hi]
theorem plB {q N b i : Nat} (h : isPl q N b) (hi : i < N) : isBk (b + 5 * i) := by
  rcases h with ⟨rfl, rfl, rfl⟩ | ⟨rfl, rfl, rfl⟩
  · exact (by decide +kernel : ∀ i, i < 8 → (43 + 5 * i) ∈ bkL) i hi
  · exact (by decide +kernel : ∀ i, i < 2 → (85 + 5 * i) ∈ bkL) i hi
theorem plO {q N b c : Nat} (h : isPl q N b) (hc : isBk c) : q < c ∨ c + 4 < q := by rcases h with ⟨rfl, rfl, rfl⟩ | ⟨rfl, rfl, rfl⟩ <;> exact bk_off c hc _ (by decide)
def slN (N o h : Nat) : Nat := if o + h < N then o + h else o + h - N
theorem slN_lt {N o h : Nat} (ho : o < N) (hh : h ≤ N) : slN N o h < N := by unfold slN; split <;> omega
def pushM (M : xMem) (q N b o z e : Nat) : xMem :=
  if z = N then up2 (cpB (up2 (up2 M q 1 (nI (slN N o 1))) q 2 (nI (N - 1))) (b + 5 * slN N (slN N o 1) (N - 1)) e) q 2 (nI N)
  else up2 (cpB M (b + 5 * slN N o z) e) q 2 (nI (z + 1))
theorem cpB_ne {M : xMem} {c e a : Nat} (h : a < c ∨ c + 4 < a) : cpB M c e a = M a := by
  simp only [cpB, cpE]
  rw [setR_ne (by omega), setR_ne (by omega), setR_ne (by omega), setR_ne (by omega), setR_ne (by omega)]
section PL
variable {G : xGl} {d q N b o z c e : Nat} {M : xMem} {Q : Option Value → List xSh → xMem → Prop}
theorem c_X4_isFull (hq : isPl q N b) (hz : M q 2 = nI z) (hz2 : z ≤ N) (hQ : Q (some (.int (bI (decide (z = N))))) SF M) : xC G mX4_isFull d 0 0 [.ref (G.1 + q)] SF M Q := by
  have p0 := pl0 hq
  have p1 := pl1 hq
  have hN := plN hq
  refine xC_intro [some (.ref (G.1 + q))] rfl (by decide) (Nat.le_of_ble_eq_true rfl) ?_
  refine xs_aload eX4_isFull_0 rfl ?_
  refine xs_getI eX4_isFull_1 (by assumption) (by rfl) ?_
  refine xs_eq1 hz ?_
  refine xs_aload eX4_isFull_4 rfl ?_
  refine xs_getR eX4_isFull_5 (by assumption) (by rfl) ?_
  refine xs_alenR eX4_isFull_8 p1 ?_
  rw [plL hq]
  refine xs_N_lt eX4_isFull_9 (by omega) (by omega) (fun h9 => ?_) (fun h9 => ?_)
  · refine xs_K eX4_isFull_16 ?_
    exact xs_iret eX4_isFull_17 rfl (by first | exact bI_nar _ | rfl) (Qev hQ (by rw [decide_eq_false (by omega)]; rfl))
  · refine xs_K eX4_isFull_12 ?_
    refine xs_goto eX4_isFull_13 ?_
    exact xs_iret eX4_isFull_17 rfl (by first | exact bI_nar _ | rfl) (Qev hQ (by rw [decide_eq_true (by omega)]; rfl))
theorem c_X4_clear (hq : isPl q N b) (hQ : Q none SF (up2 (up2 M q 1 (nI 0)) q 2 (nI 0))) : xC G mX4_clear d 0 0 [.ref (G.1 + q)] SF M Q := by
  have p0 := pl0 hq
  refine xC_intro [some (.ref (G.1 + q))] rfl (by decide) (Nat.le_of_ble_eq_true rfl) ?_
  refine xs_aload eX4_clear_0 rfl ?_
  refine xs_K eX4_clear_1 ?_
  refine xs_putI eX4_clear_2 (by assumption) (by rfl) rfl rfl ?_
  refine xs_aload eX4_clear_5 rfl ?_
  refine xs_K eX4_clear_6 ?_
  refine xs_putI eX4_clear_7 (by assumption) (by rfl) rfl rfl ?_
  exact xs_vret eX4_clear_10 rfl (hQ)
theorem c_X4_slotOf {h : Nat} (hq : isPl q N b) (ho : M q 1 = nI o) (ho2 : o < N) (hh : h ≤ N) (hQ : Q (some (.int (nI (slN N o h)))) SF M) : xC G mX4_slotOf d 0 0 [.ref (G.1 + q), .int (nI h)] SF M Q := by
  have p0 := pl0 hq
  have p1 := pl1 hq
  have hN := plN hq
  refine xC_intro [some (.ref (G.1 + q)), some (.int (nI h)), none] rfl (by decide) (Nat.le_of_ble_eq_true rfl) ?_
  refine xs_aload eX4_slotOf_0 rfl ?_
  refine xs_getI eX4_slotOf_1 (by assumption) (by rfl) ?_
  refine xs_eq1 ho ?_
  refine xs_iload eX4_slotOf_4 rfl ?_
  refine xs_iadd eX4_slotOf_5 ?_
  refine xs_eq1 (nI_add o h) ?_
  refine xs_istore eX4_slotOf_6 (Nat.le_of_ble_eq_true rfl) rfl rfl ?_
  refine xs_iload eX4_slotOf_7 rfl ?_
  refine xs_aload eX4_slotOf_8 rfl ?_
  refine xs_getR eX4_slotOf_9 (by assumption) (by rfl) ?_
  refine xs_alenR eX4_slotOf_12 p1 ?_
  rw [plL hq]
  refine xs_N_ge eX4_slotOf_13 (by omega) (by omega) (fun h13 => ?_) (fun h13 => ?_)
  · refine xs_iload eX4_slotOf_20 rfl ?_
    refine xs_aload eX4_slotOf_21 rfl ?_
    refine xs_getR eX4_slotOf_22 (by assumption) (by rfl) ?_
    refine xs_alenR eX4_slotOf_25 p1 ?_
    rw [plL hq]
    refine xs_isub eX4_slotOf_26 ?_
    refine xs_eq1 (pk_sub (by omega)) ?_
    exact xs_iretI eX4_slotOf_27 rfl (Qev hQ (by rw [slN, if_neg (by omega)]))
  · refine xs_iload eX4_slotOf_16 rfl ?_
    refine xs_goto eX4_slotOf_17 ?_
    skip
    exact xs_iretI eX4_slotOf_27 rfl (Qev hQ (by rw [slN, if_pos (by omega)]))
theorem c_X4_push (hq : isPl q N b) (ho : M q 1 = nI o) (ho2 : o < N) (hz : M q 2 = nI z) (hz2 : z ≤ N) (he : isBk e) (hne : ∀ i, i < N → b + 5 * i ≠ e) (hQ : Q none SF (pushM M q N b o z e)) : xC G mX4_push (d + 3) 0 0 [.ref (G.1 + q), .ref (G.1 + e)] SF M Q := by
  have p0 := pl0 hq
  have p1 := pl1 hq
  have g0 := bk0 he
  have hN := plN hq
  have K : ∀ (M1 : xMem) (o1 z1 : Nat), M1 q 1 = nI o1 → o1 < N → M1 q 2 = nI z1 → z1 < N → Q none SF (up2 (cpB M1 (b + 5 * slN N o1 z1) e) q 2 (nI (z1 + 1))) → xW G mX4_push (d + 3) 0 0 Q 26 [some (.ref (G.1 + q)), some (.ref (G.1 + e))] [] SF M1 := by
    intro M1 o1 z1 a1 a2 a3 a4 hQ
    have hs := slN_lt a2 (Nat.le_of_lt a4)
    have hb := plB hq hs
    have b0 := bk0 hb
    have hbn := hne _ hs
    have hoff := plO hq hb
    refine xs_aload eX4_push_26 rfl ?_
    refine xs_getR eX4_push_27 (by assumption) (by rfl) ?_
    refine xs_aload eX4_push_30 rfl ?_
    refine xs_aload eX4_push_31 rfl ?_
    refine xs_getI eX4_push_32 (by assumption) (by rfl) ?_
    refine xs_eq1 a3 ?_
    refine xs_callV1i eX4_push_35 (by assumption) (Nat.le_of_ble_eq_true rfl) (c_X4_slotOf (by assumption) (by assumption) (by omega) (by omega) ⟨_, rfl, ?_⟩)
    refine xs_aald eX4_push_38 p1 rfl (plI hq hs) (by rw [plL hq]; omega) ?_
    refine xs_aload eX4_push_39 rfl ?_
    refine xs_callV1v eX4_push_40 (by assumption) (Nat.le_of_ble_eq_true rfl) (c_X0_copyFrom (by assumption) (by assumption) (by assumption) ⟨rfl, ?_⟩)
    refine xs_aload eX4_push_43 rfl ?_
    refine xs_dup eX4_push_44 rfl ?_
    refine xs_getI eX4_push_45 (by assumption) (by rfl) ?_
    refine xs_eq1 (z := nI z1) (by rw [cpB_ne hoff]; exact a3) ?_
    refine xs_K eX4_push_48 ?_
    refine xs_iadd eX4_push_49 ?_
    refine xs_eq1 (nI_add z1 1) ?_
    refine xs_putI eX4_push_50 (by assumption) (by rfl) rfl rfl ?_
    exact xs_vret eX4_push_53 rfl (hQ)
  refine xC_intro [some (.ref (G.1 + q)), some (.ref (G.1 + e))] rfl (by decide) (Nat.le_of_ble_eq_true rfl) ?_
  refine xs_aload eX4_push_0 rfl ?_
  refine xs_callV0i eX4_push_1 (by assumption) (Nat.le_of_ble_eq_true rfl) (c_X4_isFull (by assumption) (by assumption) (by omega) ⟨_, rfl, ?_⟩)
  refine xs_ifeqB eX4_push_4 (fun h4 => ?_) (fun h4 => ?_)
  · have h4 := of_decide_eq_false h4
    refine K M o z ho ho2 hz (by omega) ?_
    rw [pushM, if_neg h4] at hQ
    exact hQ
  · refine xs_aload eX4_push_7 rfl ?_
    refine xs_aload eX4_push_8 rfl ?_
    refine xs_K eX4_push_9 ?_
    refine xs_callV1i eX4_push_10 (by assumption) (Nat.le_of_ble_eq_true rfl) (c_X4_slotOf (by assumption) (by assumption) (by omega) (by omega) ⟨_, rfl, ?_⟩)
    refine xs_putI eX4_push_13 (by assumption) (by rfl) rfl rfl ?_
    refine xs_aload eX4_push_16 rfl ?_
    refine xs_dup eX4_push_17 rfl ?_
    refine xs_getI eX4_push_18 (by assumption) (by rfl) ?_
    refine xs_eq1 (z := nI z) (by simp [up2]; exact hz) ?_
    refine xs_K eX4_push_21 ?_
    refine xs_isub eX4_push_22 ?_
    refine xs_eq1 (pk_sub (show 1 ≤ z by have := of_decide_eq_true h4; omega)) ?_
    refine xs_putI eX4_push_23 (by assumption) (by rfl) rfl rfl ?_
    have h4 := of_decide_eq_true h4
    subst h4
    refine K _ (slN z o 1) (z - 1) (by simp [up2]) (slN_lt ho2 (by omega)) (by simp [up2]) (by omega) ?_
    rw [pushM, if_pos rfl] at hQ
    rw [show z - 1 + 1 = z by omega]
    exact hQ
theorem c_X4_popInto (hq : isPl q N b) (ho : M q 1 = nI o) (ho2 : o < N) (hz : M q 2 = nI z) (hz2 : z ≤ N) (hz0 : z ≠ 0) (he : isBk e) (hne : ∀ i, i < N → b + 5 * i ≠ e) (hQ : Q none SF (cpB (up2 M q 2 (nI (z - 1))) e (b + 5 * slN N o (z - 1)))) : xC G mX4_popInto (d + 3) 0 0 [.ref (G.1 + q), .ref (G.1 + e)] SF M Q := by
  have p0 := pl0 hq
  have p1 := pl1 hq
  have g0 := bk0 he
  have hN := plN hq
  have hs := slN_lt ho2 (show z - 1 ≤ N by omega)
  have hb := plB hq hs
  have hbn := Ne.symm (hne _ hs)
  have ho' : up2 M q 2 (nI (z - 1)) q 1 = nI o := by simp [up2]; exact ho
  refine xC_intro [some (.ref (G.1 + q)), some (.ref (G.1 + e))] rfl (by decide) (Nat.le_of_ble_eq_true rfl) ?_
  refine xs_aload eX4_popInto_0 rfl ?_
  refine xs_getI eX4_popInto_1 (by assumption) (by rfl) ?_
  refine xs_eq1 hz ?_
  refine xs_N0_le eX4_popInto_4 (by omega) (fun h => absurd h (by omega)) (fun h4 => ?_)
  refine xs_aload eX4_popInto_7 rfl ?_
  refine xs_dup eX4_popInto_8 rfl ?_
  refine xs_getI eX4_popInto_9 (by assumption) (by rfl) ?_
  refine xs_eq1 hz ?_
  refine xs_K eX4_popInto_12 ?_
  refine xs_isub eX4_popInto_13 ?_
  refine xs_eq1 (pk_sub (show 1 ≤ z by omega)) ?_
  refine xs_putI eX4_popInto_14 (by assumption) (by rfl) rfl rfl ?_
  refine xs_aload eX4_popInto_17 rfl ?_
  refine xs_aload eX4_popInto_18 rfl ?_
  refine xs_getR eX4_popInto_19 (by assumption) (by rfl) ?_
  refine xs_aload eX4_popInto_22 rfl ?_
  refine xs_aload eX4_popInto_23 rfl ?_
  refine xs_getI eX4_popInto_24 (by assumption) (by rfl) ?_
  refine xs_eq1 (z := nI (z - 1)) (by simp [up2]) ?_
  refine xs_callV1i eX4_popInto_27 (by assumption) (Nat.le_of_ble_eq_true rfl) (c_X4_slotOf (by assumption) (by assumption) (by omega) (by omega) ⟨_, rfl, ?_⟩)
  refine xs_aald eX4_popInto_30 p1 rfl (plI hq hs) (by rw [plL hq]; omega) ?_
  refine xs_callV1v eX4_popInto_31 (by assumption) (Nat.le_of_ble_eq_true rfl) (c_X0_copyFrom (by assumption) (by assumption) (by assumption) ⟨rfl, ?_⟩)
  exact xs_vret eX4_popInto_34 rfl (hQ)
end PL

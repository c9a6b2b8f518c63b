/-! THE STRING CONSTANT: its place, its length, its letters -/
def xCW (m : xM) (pc : Nat) (m2 : xM) (np nx : Nat) : Prop := ∃ idx : Nat, decode m.2.1 pc = .ok (.invokevirtual idx, 3) ∧ pc + 3 = nx ∧ xCm m idx m2 np ∧ Cond.instanceMethod m2.1 ∈ xT ∧ Cond.selects m2.1.cls m2.1 m2.1 ∈ xT ∧ m2.1.cls = "java/lang/String"
/-- the letter at a place of the text -/
def xch (i : Nat) : Nat := xbl.getD i 0
theorem xch_ok : ∀ i, i < 89 → ((xby.getD i 0 &&& nI 255).toUInt32 % 65536).toInt32 = nI (xch i) ∧ xch i < 128 := by decide +kernel
theorem chN : ∀ {c : Nat}, c < 128 → narrow .char (.int (nI c)) = .int (nI c) := by
  intro c hc
  have : ∀ c, c < 128 → (nI c).toUInt32.toUInt16.toUInt32.toInt32 = nI c := by decide +kernel
  show Value.int _ = _
  exact congrArg Value.int (this c hc)
section XSTR
variable {G : xGl} {m m2 : xM} {d k n pc nx np : Nat} {Q : Option Value → List xSh → xMem → Prop} {L : List (Option Value)} {st st0 : List Value} {S : List xSh} {M : xMem}
theorem xs_callW {As : List Value} (he : xCW m pc m2 np nx) (hn : As.length = np) (hst : st0 = As.reverse ++ .ref (G.2.2.2.2.1 0) :: st) (hroom : (st.map fun v => v.category).sum ≤ 8)
    (hC : xC G m2 d 0 0 (.ref (G.2.2.2.2.1 0) :: As) S M (fun v S' M' => xW G m (d + 1) k n Q nx L (v.toList ++ st) S' M')) : xW G m (d + 1) k n Q pc L st0 S M := by
  subst hst
  obtain ⟨idx, hd, rfl, ⟨hcode, hini, hyd, hml, hlk⟩, hinst, hsel, hstr⟩ := he
  intro l D p e R s mi args below meth c H locs cells slots Z ls E hR hS hl
  have hts := E.2.2.2.2.1
  have hctx := E.2.2.2.2.2.2.1
  obtain ⟨rm1, rm2, rm3, rm4⟩ := E.2.2.2.2.2.2.2.1
  have hrv : ∃ cellB : Cell, H[G.2.2.2.2.1 0]? = some cellB ∧ cellB.vm.isStatics = false ∧ s.vm.findClass m2.1.cls = some cellB.cls := by
    rw [hstr]
    exact vk_recv hctx.2.2.2.2.2.1 (by decide) hS
  have hP : PreV s H m2.1.cls (G.2.2.2.2.1 0) (xPre G D S M (.ref (G.2.2.2.2.1 0) :: As)) As := ⟨xPre.blind, hrv, xPre.use hctx hR hS⟩
  have hRm : (xroom d 0 0).frames + 1 ≤ R.frames ∧ 8 + (m2.2.2.1 + 11) + (xroom d 0 0).locals ≤ R.locals := ⟨rm1, by show 8 + (m2.2.2.1 + 11) + 60 * d ≤ R.locals; omega⟩
  have hF : CallFix p mi c m.2.1 m.2.2.1 s args xT m.1.cls := ⟨E.1, E.2.1, E.2.2.1, E.2.2.2.1, hts⟩
  have fin : va_Run p l e R s mi args below meth c H locs cells slots 0 0 (F0 mi pc ls (As.reverse ++ .ref (G.2.2.2.2.1 0) :: st)) st (xPost G D (fun v S' M' => xW G m (d + 1) k n Q (pc + 3) L (v.toList ++ st) S' M') (Value.ref (G.2.2.2.2.1 0) :: As).toArray) (fun q => G.1 ≤ q) := by
    rcases hlk with hlk | ⟨host, hlk⟩
    · exact va_runV hF (hC l D) ⟨callB_of np hts (xGoodM hcode) rfl rfl rfl (hts _ hini) (hts _ hlk) hyd hRm, hts _ hinst, hts _ hsel⟩ hP rfl hn hl.1 rfl (lv_room hroom) hd ⟨by omega, by omega⟩
    · exact va_runVN hF (hC l D) ⟨va_cnB np hts (xGoodM hcode) rfl rfl rfl (hctx.2.2.1 _ hlk) (hts _ hini) hyd hRm, hts _ hinst, hts _ hsel⟩ hP rfl hn hl.1 rfl (lv_room hroom) hd ⟨by omega, by omega⟩
  exact xcall fin hS (fun v S' M' H1 locs1 hR1 hQ hS1 => hQ l D p e R s mi args below meth c H1 locs1 (cells + 0) (slots + 0) Z ls E hR1 hS1 hl)
theorem xs_callW0i (he : xCW m pc m2 0 nx) (hroom : (st.map fun v => v.category).sum ≤ 8) (hC : xC G m2 d 0 0 (.ref (G.2.2.2.2.1 0) :: []) S M (fun v S1 M1 => ∃ r : Int32, v = some (.int r) ∧ xW G m (d + 1) k n Q nx L (.int r :: st) S1 M1)) : xW G m (d + 1) k n Q pc L (.ref (G.2.2.2.2.1 0) :: st) S M :=
  xs_callW (As := []) he rfl rfl hroom (xC_mono hC (fun v S1 M1 h => by obtain ⟨r, rfl, h⟩ := h; exact h))
theorem xs_callW1i {a1 : Value} (he : xCW m pc m2 1 nx) (hroom : (st.map fun v => v.category).sum ≤ 8) (hC : xC G m2 d 0 0 (.ref (G.2.2.2.2.1 0) :: [a1]) S M (fun v S1 M1 => ∃ r : Int32, v = some (.int r) ∧ xW G m (d + 1) k n Q nx L (.int r :: st) S1 M1)) : xW G m (d + 1) k n Q pc L (a1 :: .ref (G.2.2.2.2.1 0) :: st) S M :=
  xs_callW (As := [a1]) he rfl rfl hroom (xC_mono hC (fun v S1 M1 h => by obtain ⟨r, rfl, h⟩ := h; exact h))
theorem xs_ldcS (hcls : m.1.cls = RX9) (hd : decode m.2.1 pc = .ok (.ldc 85, 2)) (kk : xW G m d k n Q (pc + 2) L (.ref (G.2.2.2.2.1 0) :: st) S M) : xW G m d k n Q pc L st S M := by
  intro l D p e R s mi args below meth c H locs cells slots Z ls E hR hS hl
  exact va_ldcS E.1 E.2.1 (by rw [← hcls]; exact E.2.2.2.1) E.2.2.2.2.2.2.1.2.2.2.2.2.2.1 hd (kk l D p e R s mi args below meth c H locs cells slots Z ls E hR hS hl)
theorem xs_gval (hcls : m.1.cls = "java/lang/String") (hd : decode m.2.1 pc = .ok (.getfield 9, 3)) (kk : xW G m d k n Q (pc + 3) L (.ref (G.2.2.2.2.2 0) :: st) S M) : xW G m d k n Q pc L (.ref (G.2.2.2.2.1 0) :: st) S M := by
  intro l D p e R s mi args below meth c H locs cells slots Z ls E hR hS hl
  have hE := (E.2.2.2.2.2.2.1.2.2.2.2.2.1.1 0 (by decide)).2.2.1
  exact vk_getf E.1 E.2.1 hE hS (by rw [← hcls]; exact E.2.2.2.1) (E.2.2.2.2.1 _ (xT_5 171 rfl rfl)) (fun _ h => h) hd (kk l D p e R s mi args below meth c H locs cells slots Z ls E hR hS hl)
theorem xs_gcod (hcls : m.1.cls = "java/lang/String") (hd : decode m.2.1 pc = .ok (.getfield 15, 3)) (kk : xW G m d k n Q (pc + 3) L (.int 0 :: st) S M) : xW G m d k n Q pc L (.ref (G.2.2.2.2.1 0) :: st) S M := by
  intro l D p e R s mi args below meth c H locs cells slots Z ls E hR hS hl
  have hE := (E.2.2.2.2.2.2.1.2.2.2.2.2.1.1 0 (by decide)).2.1
  exact vk_getf E.1 E.2.1 hE hS (by rw [← hcls]; exact E.2.2.2.1) (E.2.2.2.2.1 _ (xT_5 172 rfl rfl)) (fun _ h => h) hd (kk l D p e R s mi args below meth c H locs cells slots Z ls E hR hS hl)
theorem xs_gcom (hcls : m.1.cls = "java/lang/String") (hd : decode m.2.1 pc = .ok (.getstatic 38, 3)) (kk : xW G m d k n Q (pc + 3) L (.int 1 :: st) S M) : xW G m d k n Q pc L st S M := by
  intro l D p e R s mi args below meth c H locs cells slots Z ls E hR hS hl
  exact va_gets E.1 E.2.1 E.2.2.2.2.2.2.1.2.2.2.2.2.2.2.1 hS (by rw [← hcls]; exact E.2.2.2.1) (E.2.2.2.2.1 _ (xT_2 44 rfl rfl)) (fun _ h => h) hd (kk l D p e R s mi args below meth c H locs cells slots Z ls E hR hS hl)
theorem xs_gfor (hcls : m.1.cls = "java/lang/String") (hd : decode m.2.1 pc = .ok (.getstatic 1053, 3)) (kk : ∀ v : Value, (v = .null ∨ ∃ t, v = .ref t) → xW G m d k n Q (pc + 3) L (v :: st) S M) : xW G m d k n Q pc L st S M := by
  intro l D p e R s mi args below meth c H locs cells slots Z ls E hR hS hl
  rcases E.2.2.2.2.2.2.1.2.2.2.2.2.2.2.2 with hz | ⟨t, hz⟩
  · exact va_gets E.1 E.2.1 hz hS (by rw [← hcls]; exact E.2.2.2.1) (E.2.2.2.2.1 _ (xT_2 60 rfl rfl)) (fun _ h => h) hd (kk _ (Or.inl rfl) l D p e R s mi args below meth c H locs cells slots Z ls E hR hS hl)
  · exact va_gets E.1 E.2.1 hz hS (by rw [← hcls]; exact E.2.2.2.1) (E.2.2.2.2.1 _ (xT_2 60 rfl rfl)) (fun _ h => h) hd (kk _ (Or.inr ⟨t, rfl⟩) l D p e R s mi args below meth c H locs cells slots Z ls E hR hS hl)
theorem xs_tlen (he : xD m pc .arraylength 1 nx) (kk : xW G m d k n Q nx L (.int (nI 89) :: st) S M) : xW G m d k n Q pc L (.ref (G.2.2.2.2.2 0) :: st) S M := by
  obtain ⟨hd, rfl⟩ := he
  intro l D p e R s mi args below meth c H locs cells slots Z ls E hR hS hl
  obtain ⟨cell, h1, h2, h3, h4, h5, h6, h7⟩ := ((E.2.2.2.2.2.2.1.2.2.2.2.2.1.1 0 (by decide)).2.2.2).kept hS.2.1
  exact W.alen (n := Int32.ofNat 89) E.1 E.2.1 h1 h2 h5 rfl rfl hd (kk l D p e R s mi args below meth c H locs cells slots Z ls E hR hS hl)
theorem xs_tbld {j : Nat} (he : xD m pc .baload 1 nx) (hj : j < 89) (kk : xW G m d k n Q nx L (.int (xby.getD j 0) :: st) S M) : xW G m d k n Q pc L (.int (nI j) :: .ref (G.2.2.2.2.2 0) :: st) S M := by
  obtain ⟨hd, rfl⟩ := he
  intro l D p e R s mi args below meth c H locs cells slots Z ls E hR hS hl
  have hT := (E.2.2.2.2.2.2.1.2.2.2.2.2.1.1 0 (by decide)).2.2.2
  exact va_tb E.1 E.2.1 hT hS (vp_in_nI hj (by decide)) (by rw [nI_clamp (by omega)]; rfl) hd (kk l D p e R s mi args below meth c H locs cells slots Z ls E hR hS hl)
set_option maxRecDepth 20000 in
theorem wJ0_length_6 : xCW mJ0_length_8abf5 6 mJ0_coder_7d493 0 9 := ⟨335, by decide +kernel, rfl, cm_J0_335, xT_2 41 rfl rfl, xT_2 42 rfl rfl, rfl⟩
set_option maxRecDepth 20000 in
theorem wJ0_charAt_1 : xCW mJ0_charAt_5068e 1 mJ0_isLatin1_aae02 0 4 := ⟨492, by decide +kernel, rfl, cm_J0_492, xT_2 51 rfl rfl, xT_2 52 rfl rfl, rfl⟩
set_option maxRecDepth 20000 in
theorem wX9_init_172 : xCW mX9_init 172 mJ0_length_8abf5 0 175 := ⟨87, by decide +kernel, rfl, cm_X9_87, xT_2 37 rfl rfl, xT_2 38 rfl rfl, rfl⟩
set_option maxRecDepth 20000 in
theorem wX9_init_185 : xCW mX9_init 185 mJ0_charAt_5068e 1 188 := ⟨93, by decide +kernel, rfl, cm_X9_93, xT_2 47 rfl rfl, xT_2 48 rfl rfl, rfl⟩
theorem c_J0_coder (hQ : Q (some (.int 0)) S M) : xC G mJ0_coder_7d493 d 0 0 [.ref (G.2.2.2.2.1 0)] S M Q := by
  refine xC_intro [some (.ref (G.2.2.2.2.1 0))] rfl (by decide) (Nat.le_of_ble_eq_true rfl) ?_
  refine xs_gcom rfl (by decide +kernel) ?_
  refine xs_if_eq eJ0_coder_7d493_3 (fun h => absurd h (by decide)) (fun h3 => ?_)
  refine xs_aload eJ0_coder_7d493_6 rfl ?_
  refine xs_gcod rfl (by decide +kernel) ?_
  refine xs_goto eJ0_coder_7d493_10 ?_
  exact xs_iret eJ0_coder_7d493_14 rfl (by rfl) (hQ)
theorem c_J0_length (hQ : Q (some (.int (nI 89))) S M) : xC G mJ0_length_8abf5 (d + 1) 0 0 [.ref (G.2.2.2.2.1 0)] S M Q := by
  refine xC_intro [some (.ref (G.2.2.2.2.1 0))] rfl (by decide) (Nat.le_of_ble_eq_true rfl) ?_
  refine xs_aload eJ0_length_8abf5_0 rfl ?_
  refine xs_gval rfl (by decide +kernel) ?_
  refine xs_tlen eJ0_length_8abf5_4 ?_
  refine xs_aload eJ0_length_8abf5_5 rfl ?_
  refine xs_callW0i wJ0_length_6 (Nat.le_of_ble_eq_true rfl) (c_J0_coder ⟨_, rfl, ?_⟩)
  refine xs_ishr eJ0_length_8abf5_9 ?_
  refine xs_eq1 (z := nI 89) (by decide) ?_
  exact xs_iretI eJ0_length_8abf5_10 rfl (hQ)
theorem c_J0_isLatin1 (hQ : Q (some (.int (bI true))) S M) : xC G mJ0_isLatin1_aae02 d 0 0 [.ref (G.2.2.2.2.1 0)] S M Q := by
  refine xC_intro [some (.ref (G.2.2.2.2.1 0))] rfl (by decide) (Nat.le_of_ble_eq_true rfl) ?_
  refine xs_gcom rfl (by decide +kernel) ?_
  refine xs_if_eq eJ0_isLatin1_aae02_3 (fun h => absurd h (by decide)) (fun h3 => ?_)
  refine xs_aload eJ0_isLatin1_aae02_6 rfl ?_
  refine xs_gcod rfl (by decide +kernel) ?_
  refine xs_if_ne eJ0_isLatin1_aae02_10 (fun h => absurd h (fun h => h rfl)) (fun h10 => ?_)
  refine xs_K eJ0_isLatin1_aae02_13 ?_
  refine xs_goto eJ0_isLatin1_aae02_14 ?_
  exact xs_iret eJ0_isLatin1_aae02_18 rfl (by first | exact bI_nar _ | rfl) (hQ)
theorem c_J3_checkIndex {i n9 : Nat} {v : Value} (hv : v = .null ∨ ∃ t, v = .ref t) (hi : i < n9) (hn : n9 < 2 ^ 31) (hQ : Q (some (.int (nI i))) S M) : xC G mJ3_checkIndex_8e157 d 0 0 [.int (nI i), .int (nI n9), v] S M Q := by
  rcases hv with rfl | ⟨t, rfl⟩
  · refine xC_intro [some (.int (nI i)), some (.int (nI n9)), some .null] rfl (by decide) (Nat.le_of_ble_eq_true rfl) ?_
    refine xs_iload eJ3_checkIndex_8e157_0 rfl ?_
    refine xs_N0_lt eJ3_checkIndex_8e157_1 (by omega) ?_
    refine xs_iload eJ3_checkIndex_8e157_4 rfl ?_
    refine xs_iload eJ3_checkIndex_8e157_5 rfl ?_
    refine xs_N_lt eJ3_checkIndex_8e157_6 (by omega) (by omega) (fun h6 => ?_) (fun h => absurd h (by omega))
    refine xs_iload eJ3_checkIndex_8e157_16 rfl ?_
    exact xs_iretI eJ3_checkIndex_8e157_17 rfl (hQ)
  · refine xC_intro [some (.int (nI i)), some (.int (nI n9)), some (.ref t)] rfl (by decide) (Nat.le_of_ble_eq_true rfl) ?_
    refine xs_iload eJ3_checkIndex_8e157_0 rfl ?_
    refine xs_N0_lt eJ3_checkIndex_8e157_1 (by omega) ?_
    refine xs_iload eJ3_checkIndex_8e157_4 rfl ?_
    refine xs_iload eJ3_checkIndex_8e157_5 rfl ?_
    refine xs_N_lt eJ3_checkIndex_8e157_6 (by omega) (by omega) (fun h6 => ?_) (fun h => absurd h (by omega))
    refine xs_iload eJ3_checkIndex_8e157_16 rfl ?_
    exact xs_iretI eJ3_checkIndex_8e157_17 rfl (hQ)
theorem c_J0_checkIndex {i n9 : Nat} (hi : i < n9) (hn : n9 < 2 ^ 31) (hQ : Q none S M) : xC G mJ0_checkIndex_df160 (d + 1) 0 0 [.int (nI i), .int (nI n9)] S M Q := by
  refine xC_intro [some (.int (nI i)), some (.int (nI n9))] rfl (by decide) (Nat.le_of_ble_eq_true rfl) ?_
  refine xs_iload eJ0_checkIndex_df160_0 rfl ?_
  refine xs_iload eJ0_checkIndex_df160_1 rfl ?_
  refine xs_gfor rfl (by decide +kernel) (fun v hv => ?_)
  refine xs_callS3i eJ0_checkIndex_df160_5 (Nat.le_of_ble_eq_true rfl) (c_J3_checkIndex hv hi hn ⟨_, rfl, ?_⟩)
  refine xs_pop eJ0_checkIndex_df160_8 rfl ?_
  exact xs_vret eJ0_checkIndex_df160_9 rfl (hQ)
theorem c_J1_charAt {i : Nat} (hi : i < 89) (hQ : Q (some (.int (nI (xch i)))) S M) : xC G mJ1_charAt_3b067 (d + 2) 0 0 [.ref (G.2.2.2.2.2 0), .int (nI i)] S M Q := by
  have hx := xch_ok i hi
  refine xC_intro [some (.ref (G.2.2.2.2.2 0)), some (.int (nI i))] rfl (by decide) (Nat.le_of_ble_eq_true rfl) ?_
  refine xs_iload eJ1_charAt_3b067_0 rfl ?_
  refine xs_aload eJ1_charAt_3b067_1 rfl ?_
  refine xs_tlen eJ1_charAt_3b067_2 ?_
  refine xs_callS2v eJ1_charAt_3b067_3 (Nat.le_of_ble_eq_true rfl) (c_J0_checkIndex hi (by decide) ⟨rfl, ?_⟩)
  refine xs_aload eJ1_charAt_3b067_6 rfl ?_
  refine xs_iload eJ1_charAt_3b067_7 rfl ?_
  refine xs_tbld eJ1_charAt_3b067_8 hi ?_
  refine xs_K eJ1_charAt_3b067_9 ?_
  refine xs_iand eJ1_charAt_3b067_12 ?_
  refine xs_i2c eJ1_charAt_3b067_13 ?_
  refine xs_eq1 hx.1 ?_
  exact xs_iret eJ1_charAt_3b067_14 rfl (chN hx.2) (hQ)
theorem c_J0_charAt {i : Nat} (hi : i < 89) (hQ : Q (some (.int (nI (xch i)))) S M) : xC G mJ0_charAt_5068e (d + 3) 0 0 [.ref (G.2.2.2.2.1 0), .int (nI i)] S M Q := by
  have hx := xch_ok i hi
  refine xC_intro [some (.ref (G.2.2.2.2.1 0)), some (.int (nI i))] rfl (by decide) (Nat.le_of_ble_eq_true rfl) ?_
  refine xs_aload eJ0_charAt_5068e_0 rfl ?_
  refine xs_callW0i wJ0_charAt_1 (Nat.le_of_ble_eq_true rfl) (c_J0_isLatin1 ⟨_, rfl, ?_⟩)
  refine xs_ifeqB eJ0_charAt_5068e_4 (fun h => absurd h (by decide)) (fun h4 => ?_)
  refine xs_aload eJ0_charAt_5068e_7 rfl ?_
  refine xs_gval rfl (by decide +kernel) ?_
  refine xs_iload eJ0_charAt_5068e_11 rfl ?_
  refine xs_callS2i eJ0_charAt_5068e_12 (Nat.le_of_ble_eq_true rfl) (c_J1_charAt hi ⟨_, rfl, ?_⟩)
  exact xs_iret eJ0_charAt_5068e_15 rfl (chN hx.2) (hQ)
end XSTR

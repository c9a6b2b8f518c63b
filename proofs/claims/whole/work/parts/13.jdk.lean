/-! Math.max, min, Integer.bitCount, Arrays.fill; rows beyond an array's end are free; equalities at a method's end -/
def mxI (a b : Int32) : Int32 := if a < b then b else a
def mnI (a b : Int32) : Int32 := if b < a then b else a
theorem Qeq {Q : Option Value → List xSh → xMem → Prop} {v v1 : Option Value} {S : List xSh} {M M1 : xMem} (h : Q v S M) (hv : v = v1) (hM : M = M1) : Q v1 S M1 := by
  subst hv
  subst hM
  exact h
theorem Qev {Q : Option Value → List xSh → xMem → Prop} {y z : Int32} {S : List xSh} {M : xMem} (h : Q (some (.int y)) S M) (hv : y = z) : Q (some (.int z)) S M := hv ▸ h
theorem QeM {Q : Option Value → List xSh → xMem → Prop} {v : Option Value} {S : List xSh} {M M1 : xMem} (h : Q v S M) (hM : M = M1) : Q v S M1 := hM ▸ h
section JD
variable {G : xGl} {m : xM} {d k n pc nx : Nat} {Q : Option Value → List xSh → xMem → Prop} {L : List (Option Value)} {st : List Value} {S : List xSh} {M : xMem}
theorem xs_row {c N : Nat} {ty : FieldType} {f : Nat → Int32} (hs : S[c]? = some (.inl (ty, N))) (hf : ∀ j, j < N → M c j = f j) (kk : xW G m d k n Q pc L st S (setR M c f)) : xW G m d k n Q pc L st S M := by
  intro l D p e R s mi args below meth cc H locs cells slots Z ls E hR hS hl
  refine kk l D p e R s mi args below meth cc H locs cells slots Z ls E (hR.setM hs rfl (fun _ _ => rfl) (fun a h => setR_ne h) ?_) hS hl
  obtain ⟨cA, h1, h2⟩ := hR.2 c _ hs
  refine ⟨cA, h1, ?_⟩
  rw [h2, setR_row]
  exact congrArg some (xarr_congr (fun j hj => by rw [hf j hj]))
theorem xs_rowO {c ci : Nat} {fs : List (Option (Option Nat))} {f : Nat → Int32} (hs : S[c]? = some (.inr (.inl (ci, fs)))) (hlen : ∀ q : vw_C, vwCl[ci]? = some q → q.2.2 ≤ fs.length) (hf : ∀ j, fs[j]? = some none → M c j = f j) (kk : xW G m d k n Q pc L st S (setR M c f)) : xW G m d k n Q pc L st S M := by
  intro l D p e R s mi args below meth cc H locs cells slots Z ls E hR hS hl
  refine kk l D p e R s mi args below meth cc H locs cells slots Z ls E (hR.setM hs rfl (fun _ _ => rfl) (fun a h => setR_ne h) ?_) hS hl
  obtain ⟨r, h1, h2⟩ := hR.2 c _ hs
  refine ⟨r, h1, h2.to (fun j hj => ?_)⟩
  have hlt : j < fs.length := Nat.lt_of_lt_of_le hj (hlen r h1)
  have e1 : fs[j]? = some (fs.getD j none) := by simp [hlt]
  cases hh : fs.getD j none with
  | none =>
    rw [hh] at e1
    simp only [xval]
    rw [hf j e1, setR_row]
  | some o => rfl
theorem xmax_code : (Cond.code mJ9_max_7cf53.1 mJ9_max_7cf53.2.1 mJ9_max_7cf53.2.2.1 mJ9_max_7cf53.2.2.2) = Cond.code Lib.Math.max.name Lib.Math.max.code 2 (some .int) := by decide +kernel
theorem xmin_code : (Cond.code mJ9_min_7cf53.1 mJ9_min_7cf53.2.1 mJ9_min_7cf53.2.2.1 mJ9_min_7cf53.2.2.2) = Cond.code Lib.Math.min.name Lib.Math.min.code 2 (some .int) := by decide +kernel
def xMX (m : xM) (pc : Nat) (m2 : xM) (nx : Nat) : Prop := ∃ idx : Nat, decode m.2.1 pc = .ok (.invokestatic idx, 3) ∧ pc + 3 = nx ∧ Cond.methodLink m.1.cls idx m2.1 ∈ xT ∧ Cond.static m2.1 ∈ xT ∧ Cond.initialized "java/lang/Math" ∈ xT ∧ Cond.code m2.1 m2.2.1 m2.2.2.1 m2.2.2.2 ∈ xT
theorem xs_max {y z : Int32} (he : xMX m pc mJ9_max_7cf53 nx) (hroom : (st.map fun v => v.category).sum ≤ 8) (kk : xW G m (d + 1) k n Q nx L (.int (mxI y z) :: st) S M) : xW G m (d + 1) k n Q pc L (.int z :: .int y :: st) S M := by
  obtain ⟨idx, hd, rfl, hlk, hstat, hini, hcode⟩ := he
  intro l D p e R s mi args below meth c H locs cells slots Z ls E hR hS hl
  have hts := E.2.2.2.2.1
  obtain ⟨rm1, rm2, rm3, rm4⟩ := E.2.2.2.2.2.2.2.1
  exact va_mmax E.1 E.2.1 (E.2.2.1.trans hl.1.symm) E.2.2.2.1 (hts _ hlk) (hts _ hstat) (hts _ hini) (by rw [← xmax_code]; exact hts _ hcode) (by omega) (by omega) (by omega) (by omega) hd (kk l D p e R s mi args below meth c H locs cells slots Z ls E hR hS hl)
theorem xs_min {y z : Int32} (he : xMX m pc mJ9_min_7cf53 nx) (hroom : (st.map fun v => v.category).sum ≤ 8) (kk : xW G m (d + 1) k n Q nx L (.int (mnI y z) :: st) S M) : xW G m (d + 1) k n Q pc L (.int z :: .int y :: st) S M := by
  obtain ⟨idx, hd, rfl, hlk, hstat, hini, hcode⟩ := he
  intro l D p e R s mi args below meth c H locs cells slots Z ls E hR hS hl
  have hts := E.2.2.2.2.1
  obtain ⟨rm1, rm2, rm3, rm4⟩ := E.2.2.2.2.2.2.2.1
  exact va_mmin E.1 E.2.1 (E.2.2.1.trans hl.1.symm) E.2.2.2.1 (hts _ hlk) (hts _ hstat) (hts _ hini) (by rw [← xmin_code]; exact hts _ hcode) (by omega) (by omega) (by omega) (by omega) hd (kk l D p e R s mi args below meth c H locs cells slots Z ls E hR hS hl)
set_option maxRecDepth 20000 in
theorem fX0_mostDays_22 : xMX mX0_mostDays 22 mJ9_max_7cf53 25 := ⟨108, by decide +kernel, rfl, xT_4 31 rfl rfl, xT_1 157 rfl rfl, xT_1 7 rfl rfl, xT_1 158 rfl rfl⟩
set_option maxRecDepth 20000 in
theorem fX2_measure_62 : xMX mX2_measure 62 mJ9_min_7cf53 65 := ⟨54, by decide +kernel, rfl, xT_2 147 rfl rfl, xT_2 148 rfl rfl, xT_1 7 rfl rfl, xT_2 149 rfl rfl⟩
set_option maxRecDepth 20000 in
theorem fX4_init_7 : xMX mX4_init 7 mJ9_max_7cf53 10 := ⟨7, by decide +kernel, rfl, xT_1 156 rfl rfl, xT_1 157 rfl rfl, xT_1 7 rfl rfl, xT_1 158 rfl rfl⟩
set_option maxRecDepth 20000 in
theorem fX7_walkFrom_100 : xMX mX7_walkFrom 100 mJ9_min_7cf53 103 := ⟨77, by decide +kernel, rfl, xT_3 126 rfl rfl, xT_2 148 rfl rfl, xT_1 7 rfl rfl, xT_2 149 rfl rfl⟩
set_option maxRecDepth 20000 in
theorem fX7_walkTo_19 : xMX mX7_walkTo 19 mJ9_min_7cf53 22 := ⟨77, by decide +kernel, rfl, xT_3 126 rfl rfl, xT_2 148 rfl rfl, xT_1 7 rfl rfl, xT_2 149 rfl rfl⟩
set_option maxRecDepth 20000 in
theorem fX7_walkTo_84 : xMX mX7_walkTo 84 mJ9_min_7cf53 87 := ⟨77, by decide +kernel, rfl, xT_3 126 rfl rfl, xT_2 148 rfl rfl, xT_1 7 rfl rfl, xT_2 149 rfl rfl⟩
set_option maxRecDepth 20000 in
theorem fX7_daysOfShares_50 : xMX mX7_daysOfShares 50 mJ9_max_7cf53 53 := ⟨95, by decide +kernel, rfl, xT_3 136 rfl rfl, xT_1 157 rfl rfl, xT_1 7 rfl rfl, xT_1 158 rfl rfl⟩
set_option maxRecDepth 20000 in
theorem fX9_bestChecks_23 : xMX mX9_bestChecks 23 mJ9_min_7cf53 26 := ⟨290, by decide +kernel, rfl, xT_3 185 rfl rfl, xT_2 148 rfl rfl, xT_1 7 rfl rfl, xT_2 149 rfl rfl⟩
/-- how many of the lowest seven bits are there -/
def pc7 (a : Nat) : Nat := ((List.range 7).filter (fun i => a.testBit i)).length
def bcF (x0 : Int32) : Int32 :=
  let u (y : Int32) (z : Int32) : Int32 := (y.toUInt32 >>> (z.toUInt32 &&& Int32.toUInt32 31)).toInt32
  let x1 := x0 - (u x0 (nI 1) &&& nI 1431655765)
  let x2 := (x1 &&& nI 858993459) + (u x1 (nI 2) &&& nI 858993459)
  let x3 := (x2 + u x2 (nI 4)) &&& nI 252645135
  let x4 := x3 + u x3 (nI 8)
  let x5 := x4 + u x4 (nI 16)
  x5 &&& nI 63
theorem bcF_ok : ∀ a, a < 128 → bcF (nI a) = nI (pc7 a) := by decide +kernel
theorem c_bitCount {a : Nat} (ha : a < 128) (hQ : Q (some (.int (nI (pc7 a)))) S M) : xC G mJ6_bitCount_0f7a4 d 0 0 [.int (nI a)] S M Q := by
  refine xC_intro [some (.int (nI a))] rfl (by decide) (Nat.le_of_ble_eq_true rfl) ?_
  refine xs_iload eJ6_bitCount_0f7a4_0 rfl ?_
  refine xs_iload eJ6_bitCount_0f7a4_1 rfl ?_
  refine xs_K eJ6_bitCount_0f7a4_2 ?_
  refine xs_iushr eJ6_bitCount_0f7a4_3 ?_
  refine xs_K eJ6_bitCount_0f7a4_4 ?_
  refine xs_iand eJ6_bitCount_0f7a4_7 ?_
  refine xs_isub eJ6_bitCount_0f7a4_8 ?_
  refine xs_istore eJ6_bitCount_0f7a4_9 (Nat.le_of_ble_eq_true rfl) rfl rfl ?_
  refine xs_iload eJ6_bitCount_0f7a4_10 rfl ?_
  refine xs_K eJ6_bitCount_0f7a4_11 ?_
  refine xs_iand eJ6_bitCount_0f7a4_14 ?_
  refine xs_iload eJ6_bitCount_0f7a4_15 rfl ?_
  refine xs_K eJ6_bitCount_0f7a4_16 ?_
  refine xs_iushr eJ6_bitCount_0f7a4_17 ?_
  refine xs_K eJ6_bitCount_0f7a4_18 ?_
  refine xs_iand eJ6_bitCount_0f7a4_21 ?_
  refine xs_iadd eJ6_bitCount_0f7a4_22 ?_
  refine xs_istore eJ6_bitCount_0f7a4_23 (Nat.le_of_ble_eq_true rfl) rfl rfl ?_
  refine xs_iload eJ6_bitCount_0f7a4_24 rfl ?_
  refine xs_iload eJ6_bitCount_0f7a4_25 rfl ?_
  refine xs_K eJ6_bitCount_0f7a4_26 ?_
  refine xs_iushr eJ6_bitCount_0f7a4_27 ?_
  refine xs_iadd eJ6_bitCount_0f7a4_28 ?_
  refine xs_K eJ6_bitCount_0f7a4_29 ?_
  refine xs_iand eJ6_bitCount_0f7a4_32 ?_
  refine xs_istore eJ6_bitCount_0f7a4_33 (Nat.le_of_ble_eq_true rfl) rfl rfl ?_
  refine xs_iload eJ6_bitCount_0f7a4_34 rfl ?_
  refine xs_iload eJ6_bitCount_0f7a4_35 rfl ?_
  refine xs_K eJ6_bitCount_0f7a4_36 ?_
  refine xs_iushr eJ6_bitCount_0f7a4_38 ?_
  refine xs_iadd eJ6_bitCount_0f7a4_39 ?_
  refine xs_istore eJ6_bitCount_0f7a4_40 (Nat.le_of_ble_eq_true rfl) rfl rfl ?_
  refine xs_iload eJ6_bitCount_0f7a4_41 rfl ?_
  refine xs_iload eJ6_bitCount_0f7a4_42 rfl ?_
  refine xs_K eJ6_bitCount_0f7a4_43 ?_
  refine xs_iushr eJ6_bitCount_0f7a4_45 ?_
  refine xs_iadd eJ6_bitCount_0f7a4_46 ?_
  refine xs_istore eJ6_bitCount_0f7a4_47 (Nat.le_of_ble_eq_true rfl) rfl rfl ?_
  refine xs_iload eJ6_bitCount_0f7a4_48 rfl ?_
  refine xs_K eJ6_bitCount_0f7a4_49 ?_
  refine xs_iand eJ6_bitCount_0f7a4_51 ?_
  exact xs_iretI eJ6_bitCount_0f7a4_52 rfl (Qev hQ (bcF_ok a ha).symm)
theorem c_fill {c N : Nat} {y : Int32} (hs : S[c]? = some (.inl (.int, N))) (hN : N < 2 ^ 31) (hQ : Q none S (setR M c (fun _ => y))) : xC G mJ7_fill_53178 d 0 0 [.ref (G.1 + c), .int y] S M Q := by
  refine xC_intro [some (.ref (G.1 + c)), some (.int y), none, none] rfl (by decide) (Nat.le_of_ble_eq_true rfl) ?_
  refine xs_K eJ7_fill_53178_0 ?_
  refine xs_istore eJ7_fill_53178_1 (Nat.le_of_ble_eq_true rfl) rfl rfl ?_
  refine xs_aload eJ7_fill_53178_2 rfl ?_
  refine xs_alenI eJ7_fill_53178_3 (by assumption) ?_
  refine xs_istore eJ7_fill_53178_4 (Nat.le_of_ble_eq_true rfl) rfl rfl ?_
  have K := dn (P := fun i => xW G mJ7_fill_53178 d 0 0 Q 5 [some (.ref (G.1 + c)), some (.int y), some (.int (nI i)), some (.int (nI N))] [] S (setR M c (fun j => if j < i then y else M c j))) N ?_ ?_ 0 (Nat.zero_le _)
  · refine xs_eqM ?_ K
    funext a
    by_cases h : a = c
    · subst h
      rw [setR_row]
      simp
    · rw [setR_ne h]
  · refine xs_row hs (f := fun _ => y) (fun j hj => by rw [setR_row]; simp [hj]) ?_
    refine xs_iload eJ7_fill_53178_5 rfl ?_
    refine xs_iload eJ7_fill_53178_6 rfl ?_
    refine xs_icmp_ge eJ7_fill_53178_7 (fun h7 => ?_) (fun h => absurd (Int32.le_refl _) h)
    exact xs_vret eJ7_fill_53178_20 rfl (QeM hQ (by funext a; by_cases h : a = c <;> simp [setR, h]))
  · intro i hi ih
    refine xs_iload eJ7_fill_53178_5 rfl ?_
    refine xs_iload eJ7_fill_53178_6 rfl ?_
    refine xs_icmp_ge eJ7_fill_53178_7 (fun h => absurd h (nI_ge hi (by omega))) (fun h7 => ?_)
    refine xs_aload eJ7_fill_53178_10 rfl ?_
    refine xs_iload eJ7_fill_53178_11 rfl ?_
    refine xs_iload eJ7_fill_53178_12 rfl ?_
    refine xs_iast eJ7_fill_53178_13 hs hi hN ?_
    refine xs_inc1 eJ7_fill_53178_14 rfl rfl rfl ?_
    refine xs_goto eJ7_fill_53178_17 ?_
    exact xs_eqM (by funext a j; by_cases h : a = c <;> by_cases h1 : j = i <;> simp [setR, up2, h, h1] <;> (have e9 : (j < i) = (j < i + 1) := propext (by omega); simp [e9])) ih
end JD

/-! CALLS by the number of their arguments, without new cells; answers: an int (i), nothing (v) -/
/-- a truth as the machine has it -/
def bI (b : Bool) : Int32 := if b then nI 1 else nI 0
theorem bI_0 {b : Bool} : bI b = 0 ↔ b = false := by cases b <;> decide
theorem bI_nar (b : Bool) : narrow .boolean (.int (bI b)) = .int (bI b) := by cases b <;> rfl
theorem bI_fit (b : Bool) : fits .boolean (.int (bI b)) = true := by cases b <;> rfl
section XW
variable {G : xGl} {m m2 : xM} {d k n pc nx np : Nat} {Q : Option Value → List xSh → xMem → Prop} {L : List (Option Value)} {st : List Value} {S : List xSh} {M : xMem}
theorem xs_ifeqB {b : Bool} {tgt : Nat} (he : xJ m pc (.ifCond .eq) tgt nx) (kt : b = false → xW G m d k n Q tgt L st S M) (kf : b = true → xW G m d k n Q nx L st S M) : xW G m d k n Q pc L (.int (bI b) :: st) S M :=
  xs_if_eq he (fun h => kt (bI_0.mp h)) (fun h => kf (by cases b with | true => rfl | false => exact absurd rfl h))
theorem xs_ifneB {b : Bool} {tgt : Nat} (he : xJ m pc (.ifCond .ne) tgt nx) (kt : b = true → xW G m d k n Q tgt L st S M) (kf : b = false → xW G m d k n Q nx L st S M) : xW G m d k n Q pc L (.int (bI b) :: st) S M :=
  xs_if_ne he (fun h => kt (by cases b with | true => rfl | false => exact absurd rfl h)) (fun h => kf (bI_0.mp h))
theorem xs_zret {b : Bool} (he : xD m pc .ireturn 1 nx) (hty : m.2.2.2 = some .boolean) (h : Q (some (.int (bI b))) S M) : xW G m d k n Q pc L [.int (bI b)] S M := xs_iret he hty (bI_nar b) h
theorem xs_iretI {y : Int32} (he : xD m pc .ireturn 1 nx) (hty : m.2.2.2 = some .int) (h : Q (some (.int y)) S M) : xW G m d k n Q pc L [.int y] S M := xs_iret he hty rfl h
theorem xs_callV0i {ci cb : Nat} {fs : List (Option (Option Nat))} (he : xCV m pc m2 0 ci nx) (hs : S[cb]? = some (.inr (.inl (ci, fs)))) (hroom : (st.map fun v => v.category).sum ≤ 8) (hC : xC G m2 d 0 0 (.ref (G.1 + cb) :: []) S M (fun v S1 M1 => ∃ r : Int32, v = some (.int r) ∧ xW G m (d + 1) k n Q nx L (.int r :: st) S1 M1)) : xW G m (d + 1) k n Q pc L (.ref (G.1 + cb) :: st) S M :=
  xs_callV (As := []) he hs rfl rfl hroom (Nat.zero_le _) (Nat.zero_le _) (xC_mono hC (fun v S1 M1 h => by obtain ⟨r, rfl, h⟩ := h; exact h))
theorem xs_callV0v {ci cb : Nat} {fs : List (Option (Option Nat))} (he : xCV m pc m2 0 ci nx) (hs : S[cb]? = some (.inr (.inl (ci, fs)))) (hroom : (st.map fun v => v.category).sum ≤ 8) (hC : xC G m2 d 0 0 (.ref (G.1 + cb) :: []) S M (fun v S1 M1 => v = none ∧ xW G m (d + 1) k n Q nx L st S1 M1)) : xW G m (d + 1) k n Q pc L (.ref (G.1 + cb) :: st) S M :=
  xs_callV (As := []) he hs rfl rfl hroom (Nat.zero_le _) (Nat.zero_le _) (xC_mono hC (fun v S1 M1 h => by obtain ⟨rfl, h⟩ := h; exact h))
theorem xs_callV1i {a1 : Value} {ci cb : Nat} {fs : List (Option (Option Nat))} (he : xCV m pc m2 1 ci nx) (hs : S[cb]? = some (.inr (.inl (ci, fs)))) (hroom : (st.map fun v => v.category).sum ≤ 8) (hC : xC G m2 d 0 0 (.ref (G.1 + cb) :: [a1]) S M (fun v S1 M1 => ∃ r : Int32, v = some (.int r) ∧ xW G m (d + 1) k n Q nx L (.int r :: st) S1 M1)) : xW G m (d + 1) k n Q pc L (a1 :: .ref (G.1 + cb) :: st) S M :=
  xs_callV (As := [a1]) he hs rfl rfl hroom (Nat.zero_le _) (Nat.zero_le _) (xC_mono hC (fun v S1 M1 h => by obtain ⟨r, rfl, h⟩ := h; exact h))
theorem xs_callS1i {a1 : Value} (he : xCS m pc m2 1 nx) (hroom : (st.map fun v => v.category).sum ≤ 8) (hC : xC G m2 d 0 0 [a1] S M (fun v S1 M1 => ∃ r : Int32, v = some (.int r) ∧ xW G m (d + 1) k n Q nx L (.int r :: st) S1 M1)) : xW G m (d + 1) k n Q pc L (a1 :: st) S M :=
  xs_callS (As := [a1]) he rfl rfl hroom (Nat.zero_le _) (Nat.zero_le _) (xC_mono hC (fun v S1 M1 h => by obtain ⟨r, rfl, h⟩ := h; exact h))
theorem xs_callV1v {a1 : Value} {ci cb : Nat} {fs : List (Option (Option Nat))} (he : xCV m pc m2 1 ci nx) (hs : S[cb]? = some (.inr (.inl (ci, fs)))) (hroom : (st.map fun v => v.category).sum ≤ 8) (hC : xC G m2 d 0 0 (.ref (G.1 + cb) :: [a1]) S M (fun v S1 M1 => v = none ∧ xW G m (d + 1) k n Q nx L st S1 M1)) : xW G m (d + 1) k n Q pc L (a1 :: .ref (G.1 + cb) :: st) S M :=
  xs_callV (As := [a1]) he hs rfl rfl hroom (Nat.zero_le _) (Nat.zero_le _) (xC_mono hC (fun v S1 M1 h => by obtain ⟨rfl, h⟩ := h; exact h))
theorem xs_callS1v {a1 : Value} (he : xCS m pc m2 1 nx) (hroom : (st.map fun v => v.category).sum ≤ 8) (hC : xC G m2 d 0 0 [a1] S M (fun v S1 M1 => v = none ∧ xW G m (d + 1) k n Q nx L st S1 M1)) : xW G m (d + 1) k n Q pc L (a1 :: st) S M :=
  xs_callS (As := [a1]) he rfl rfl hroom (Nat.zero_le _) (Nat.zero_le _) (xC_mono hC (fun v S1 M1 h => by obtain ⟨rfl, h⟩ := h; exact h))
theorem xs_callV2i {a1 a2 : Value} {ci cb : Nat} {fs : List (Option (Option Nat))} (he : xCV m pc m2 2 ci nx) (hs : S[cb]? = some (.inr (.inl (ci, fs)))) (hroom : (st.map fun v => v.category).sum ≤ 8) (hC : xC G m2 d 0 0 (.ref (G.1 + cb) :: [a1, a2]) S M (fun v S1 M1 => ∃ r : Int32, v = some (.int r) ∧ xW G m (d + 1) k n Q nx L (.int r :: st) S1 M1)) : xW G m (d + 1) k n Q pc L (a2 :: a1 :: .ref (G.1 + cb) :: st) S M :=
  xs_callV (As := [a1, a2]) he hs rfl rfl hroom (Nat.zero_le _) (Nat.zero_le _) (xC_mono hC (fun v S1 M1 h => by obtain ⟨r, rfl, h⟩ := h; exact h))
theorem xs_callS2i {a1 a2 : Value} (he : xCS m pc m2 2 nx) (hroom : (st.map fun v => v.category).sum ≤ 8) (hC : xC G m2 d 0 0 [a1, a2] S M (fun v S1 M1 => ∃ r : Int32, v = some (.int r) ∧ xW G m (d + 1) k n Q nx L (.int r :: st) S1 M1)) : xW G m (d + 1) k n Q pc L (a2 :: a1 :: st) S M :=
  xs_callS (As := [a1, a2]) he rfl rfl hroom (Nat.zero_le _) (Nat.zero_le _) (xC_mono hC (fun v S1 M1 h => by obtain ⟨r, rfl, h⟩ := h; exact h))
theorem xs_callV2v {a1 a2 : Value} {ci cb : Nat} {fs : List (Option (Option Nat))} (he : xCV m pc m2 2 ci nx) (hs : S[cb]? = some (.inr (.inl (ci, fs)))) (hroom : (st.map fun v => v.category).sum ≤ 8) (hC : xC G m2 d 0 0 (.ref (G.1 + cb) :: [a1, a2]) S M (fun v S1 M1 => v = none ∧ xW G m (d + 1) k n Q nx L st S1 M1)) : xW G m (d + 1) k n Q pc L (a2 :: a1 :: .ref (G.1 + cb) :: st) S M :=
  xs_callV (As := [a1, a2]) he hs rfl rfl hroom (Nat.zero_le _) (Nat.zero_le _) (xC_mono hC (fun v S1 M1 h => by obtain ⟨rfl, h⟩ := h; exact h))
theorem xs_callS2v {a1 a2 : Value} (he : xCS m pc m2 2 nx) (hroom : (st.map fun v => v.category).sum ≤ 8) (hC : xC G m2 d 0 0 [a1, a2] S M (fun v S1 M1 => v = none ∧ xW G m (d + 1) k n Q nx L st S1 M1)) : xW G m (d + 1) k n Q pc L (a2 :: a1 :: st) S M :=
  xs_callS (As := [a1, a2]) he rfl rfl hroom (Nat.zero_le _) (Nat.zero_le _) (xC_mono hC (fun v S1 M1 h => by obtain ⟨rfl, h⟩ := h; exact h))
theorem xs_callV3i {a1 a2 a3 : Value} {ci cb : Nat} {fs : List (Option (Option Nat))} (he : xCV m pc m2 3 ci nx) (hs : S[cb]? = some (.inr (.inl (ci, fs)))) (hroom : (st.map fun v => v.category).sum ≤ 8) (hC : xC G m2 d 0 0 (.ref (G.1 + cb) :: [a1, a2, a3]) S M (fun v S1 M1 => ∃ r : Int32, v = some (.int r) ∧ xW G m (d + 1) k n Q nx L (.int r :: st) S1 M1)) : xW G m (d + 1) k n Q pc L (a3 :: a2 :: a1 :: .ref (G.1 + cb) :: st) S M :=
  xs_callV (As := [a1, a2, a3]) he hs rfl rfl hroom (Nat.zero_le _) (Nat.zero_le _) (xC_mono hC (fun v S1 M1 h => by obtain ⟨r, rfl, h⟩ := h; exact h))
theorem xs_callS3i {a1 a2 a3 : Value} (he : xCS m pc m2 3 nx) (hroom : (st.map fun v => v.category).sum ≤ 8) (hC : xC G m2 d 0 0 [a1, a2, a3] S M (fun v S1 M1 => ∃ r : Int32, v = some (.int r) ∧ xW G m (d + 1) k n Q nx L (.int r :: st) S1 M1)) : xW G m (d + 1) k n Q pc L (a3 :: a2 :: a1 :: st) S M :=
  xs_callS (As := [a1, a2, a3]) he rfl rfl hroom (Nat.zero_le _) (Nat.zero_le _) (xC_mono hC (fun v S1 M1 h => by obtain ⟨r, rfl, h⟩ := h; exact h))
theorem xs_callV3v {a1 a2 a3 : Value} {ci cb : Nat} {fs : List (Option (Option Nat))} (he : xCV m pc m2 3 ci nx) (hs : S[cb]? = some (.inr (.inl (ci, fs)))) (hroom : (st.map fun v => v.category).sum ≤ 8) (hC : xC G m2 d 0 0 (.ref (G.1 + cb) :: [a1, a2, a3]) S M (fun v S1 M1 => v = none ∧ xW G m (d + 1) k n Q nx L st S1 M1)) : xW G m (d + 1) k n Q pc L (a3 :: a2 :: a1 :: .ref (G.1 + cb) :: st) S M :=
  xs_callV (As := [a1, a2, a3]) he hs rfl rfl hroom (Nat.zero_le _) (Nat.zero_le _) (xC_mono hC (fun v S1 M1 h => by obtain ⟨rfl, h⟩ := h; exact h))
theorem xs_callS3v {a1 a2 a3 : Value} (he : xCS m pc m2 3 nx) (hroom : (st.map fun v => v.category).sum ≤ 8) (hC : xC G m2 d 0 0 [a1, a2, a3] S M (fun v S1 M1 => v = none ∧ xW G m (d + 1) k n Q nx L st S1 M1)) : xW G m (d + 1) k n Q pc L (a3 :: a2 :: a1 :: st) S M :=
  xs_callS (As := [a1, a2, a3]) he rfl rfl hroom (Nat.zero_le _) (Nat.zero_le _) (xC_mono hC (fun v S1 M1 h => by obtain ⟨rfl, h⟩ := h; exact h))
theorem xs_callS4i {a1 a2 a3 a4 : Value} (he : xCS m pc m2 4 nx) (hroom : (st.map fun v => v.category).sum ≤ 8) (hC : xC G m2 d 0 0 [a1, a2, a3, a4] S M (fun v S1 M1 => ∃ r : Int32, v = some (.int r) ∧ xW G m (d + 1) k n Q nx L (.int r :: st) S1 M1)) : xW G m (d + 1) k n Q pc L (a4 :: a3 :: a2 :: a1 :: st) S M :=
  xs_callS (As := [a1, a2, a3, a4]) he rfl rfl hroom (Nat.zero_le _) (Nat.zero_le _) (xC_mono hC (fun v S1 M1 h => by obtain ⟨r, rfl, h⟩ := h; exact h))
theorem xs_callS4v {a1 a2 a3 a4 : Value} (he : xCS m pc m2 4 nx) (hroom : (st.map fun v => v.category).sum ≤ 8) (hC : xC G m2 d 0 0 [a1, a2, a3, a4] S M (fun v S1 M1 => v = none ∧ xW G m (d + 1) k n Q nx L st S1 M1)) : xW G m (d + 1) k n Q pc L (a4 :: a3 :: a2 :: a1 :: st) S M :=
  xs_callS (As := [a1, a2, a3, a4]) he rfl rfl hroom (Nat.zero_le _) (Nat.zero_le _) (xC_mono hC (fun v S1 M1 h => by obtain ⟨rfl, h⟩ := h; exact h))
end XW

/-! comparisons of two small numbers -/
section XN
variable {G : xGl} {m : xM} {d k n pc nx : Nat} {Q : Option Value → List xSh → xMem → Prop} {L : List (Option Value)} {st : List Value} {S : List xSh} {M : xMem}
theorem xs_N_eq {a b tgt : Nat} (he : xJ m pc (.if_icmp .eq) tgt nx) (ha : a < 2 ^ 31) (hb : b < 2 ^ 31) (kt : a = b → xW G m d k n Q tgt L st S M) (kf : a ≠ b → xW G m d k n Q nx L st S M) : xW G m d k n Q pc L (.int (nI b) :: .int (nI a) :: st) S M :=
  xs_icmp_eq he (fun h => kt ((nI_eq ha hb).mp h)) (fun h => kf (by have h2 := fun z => h ((nI_eq ha hb).mpr z); omega))
theorem xs_N_ne {a b tgt : Nat} (he : xJ m pc (.if_icmp .ne) tgt nx) (ha : a < 2 ^ 31) (hb : b < 2 ^ 31) (kt : a ≠ b → xW G m d k n Q tgt L st S M) (kf : a = b → xW G m d k n Q nx L st S M) : xW G m d k n Q pc L (.int (nI b) :: .int (nI a) :: st) S M :=
  xs_icmp_ne he (fun h => kt (fun e => h (by rw [e]))) (fun h => kf ((nI_eq ha hb).mp h))
theorem xs_N_lt {a b tgt : Nat} (he : xJ m pc (.if_icmp .lt) tgt nx) (ha : a < 2 ^ 31) (hb : b < 2 ^ 31) (kt : a < b → xW G m d k n Q tgt L st S M) (kf : b ≤ a → xW G m d k n Q nx L st S M) : xW G m d k n Q pc L (.int (nI b) :: .int (nI a) :: st) S M :=
  xs_icmp_lt he (fun h => kt ((nI_ltI ha hb).mp h)) (fun h => kf (Nat.not_lt.mp (fun z => h ((nI_ltI ha hb).mpr z))))
theorem xs_N_ge {a b tgt : Nat} (he : xJ m pc (.if_icmp .ge) tgt nx) (ha : a < 2 ^ 31) (hb : b < 2 ^ 31) (kt : b ≤ a → xW G m d k n Q tgt L st S M) (kf : a < b → xW G m d k n Q nx L st S M) : xW G m d k n Q pc L (.int (nI b) :: .int (nI a) :: st) S M :=
  xs_icmp_ge he (fun h => kt ((nI_leI hb ha).mp h)) (fun h => kf (Nat.not_le.mp (fun z => h ((nI_leI hb ha).mpr z))))
theorem xs_N_gt {a b tgt : Nat} (he : xJ m pc (.if_icmp .gt) tgt nx) (ha : a < 2 ^ 31) (hb : b < 2 ^ 31) (kt : b < a → xW G m d k n Q tgt L st S M) (kf : a ≤ b → xW G m d k n Q nx L st S M) : xW G m d k n Q pc L (.int (nI b) :: .int (nI a) :: st) S M :=
  xs_icmp_gt he (fun h => kt ((nI_ltI hb ha).mp h)) (fun h => kf (Nat.not_lt.mp (fun z => h ((nI_ltI hb ha).mpr z))))
theorem xs_N_le {a b tgt : Nat} (he : xJ m pc (.if_icmp .le) tgt nx) (ha : a < 2 ^ 31) (hb : b < 2 ^ 31) (kt : a ≤ b → xW G m d k n Q tgt L st S M) (kf : b < a → xW G m d k n Q nx L st S M) : xW G m d k n Q pc L (.int (nI b) :: .int (nI a) :: st) S M :=
  xs_icmp_le he (fun h => kt ((nI_leI ha hb).mp h)) (fun h => kf (Nat.not_le.mp (fun z => h ((nI_leI ha hb).mpr z))))
theorem xs_N0_eq {a tgt : Nat} (he : xJ m pc (.ifCond .eq) tgt nx) (ha : a < 2 ^ 31) (kt : a = 0 → xW G m d k n Q tgt L st S M) (kf : a ≠ 0 → xW G m d k n Q nx L st S M) : xW G m d k n Q pc L (.int (nI a) :: st) S M :=
  xs_if_eq he (fun h => kt ((nI_eq ha (by decide)).mp (h.trans nI_0.symm))) (fun h => kf (fun e => h (by rw [e]; exact nI_0)))
theorem xs_N0_ne {a tgt : Nat} (he : xJ m pc (.ifCond .ne) tgt nx) (ha : a < 2 ^ 31) (kt : a ≠ 0 → xW G m d k n Q tgt L st S M) (kf : a = 0 → xW G m d k n Q nx L st S M) : xW G m d k n Q pc L (.int (nI a) :: st) S M :=
  xs_if_ne he (fun h => kt (fun e => h (by rw [e]; exact nI_0))) (fun h => kf ((nI_eq ha (by decide)).mp (h.trans nI_0.symm)))
theorem xs_N0_le {a tgt : Nat} (he : xJ m pc (.ifCond .le) tgt nx) (ha : a < 2 ^ 31) (kt : a = 0 → xW G m d k n Q tgt L st S M) (kf : a ≠ 0 → xW G m d k n Q nx L st S M) : xW G m d k n Q pc L (.int (nI a) :: st) S M :=
  xs_if_le he (fun h => kt (by rcases Nat.eq_zero_or_pos a with q | q; exact q; exact absurd h (nI_nle q ha))) (fun h => kf (fun e => h (by rw [e]; decide)))
theorem xs_N0_lt {a tgt : Nat} (he : xJ m pc (.ifCond .lt) tgt nx) (ha : a < 2 ^ 31) (kf : xW G m d k n Q nx L st S M) : xW G m d k n Q pc L (.int (nI a) :: st) S M :=
  xs_if_lt he (fun h => absurd h (nI_pos ha)) (fun _ => kf)
theorem xs_N0_ge {a tgt : Nat} (he : xJ m pc (.ifCond .ge) tgt nx) (ha : a < 2 ^ 31) (kt : xW G m d k n Q tgt L st S M) : xW G m d k n Q pc L (.int (nI a) :: st) S M :=
  xs_if_ge he (fun _ => kt) (fun h => absurd (nI_pos' ha) h)
end XN

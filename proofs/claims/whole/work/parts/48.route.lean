/-! THE REFERENCE's soonest: rest, routes -/
theorem fold_fo {p : Nat → Bool} {x y : Nat → Nat} : ∀ {n : Nat}, (∀ u, u < n → p u = true → (x u ≤ 847 ∨ x u = 1000000) ∧ (y u ≤ 120 ∨ y u = 1000000)) → mnA 9999 (foldM p (fun u => fo (x u) + fo (y u)) 9999 n + 1) = fo (foldM p (fun u => x u + y u + 1) 1000000 n)
  | 0, _ => rfl
  | n + 1, h => by
    have ih := fold_fo (p := p) (x := x) (y := y) (n := n) (fun u hu => h u (by omega))
    have hA := foldM_le (p := p) (f := fun u => x u + y u + 1) (z := 1000000) (B := 968) (n := n) (fun u hu hp => by have := h u (by omega) hp; omega) rfl
    simp only [foldM]
    split
    · next hp =>
      have := h n (by omega) hp
      generalize foldM p (fun u => fo (x u) + fo (y u)) 9999 n = A1 at *
      generalize foldM p (fun u => x u + y u + 1) 1000000 n = A at *
      unfold mnA fo at *
      obtain ⟨g1 | g1, g2 | g2⟩ := this <;> (repeat' split at ih) <;> (repeat' split) <;> omega
    · exact ih
theorem fold_fo2 {p : Nat → Bool} {f : Nat → Nat} : ∀ {n : Nat}, (∀ u, u < n → p u = true → f u ≤ 847 ∨ f u = 1000000) → foldM p (fun u => fo (f u)) 9999 n = fo (foldM p f 1000000 n)
  | 0, _ => rfl
  | n + 1, h => by
    have ih := fold_fo2 (p := p) (f := f) (n := n) (fun u hu => h u (by omega))
    have hA := foldM_le (p := p) (f := f) (z := 1000000) (B := 847) (n := n) (fun u hu hp => by have := h u (by omega) hp; omega) rfl
    simp only [foldM]
    split
    · next hp =>
      have := h n (by omega) hp
      rw [ih]
      generalize foldM p f 1000000 n = A at *
      unfold mnA fo
      (repeat' split) <;> omega
    · exact ih
theorem foldM_no {p : Nat → Bool} {f : Nat → Nat} {z : Nat} : ∀ {n : Nat}, (∀ u, u < n → p u = false) → foldM p f z n = z
  | 0, _ => rfl
  | n + 1, h => by
    rw [foldM, if_neg (by rw [h n (by omega)]; decide)]
    exact foldM_no (fun u hu => h u (by omega))
theorem shl_2 : ∀ n, n < 8 → nI 1 <<< (nI n &&& 31) = nI (2 ^ n) := by decide +kernel
/-- the reference's way of one more step -/
theorem step_fo {l : aLd} {at0 s v : Nat} (hl : okL l) (ha : at0 < l.1) (hs : s < 2 ^ l.1) (hv : v < l.1) (hb : s.testBit v = true) : mnA 9999 ((if cbt s v = 0 then fo (l.2.2.2.2.2 at0 v) else foldM (fun u => (cbt s v).testBit u) (fun u => fo (tbA l at0 (cbt s v) u) + fo (l.2.2.2.2.2 u v)) 9999 l.1) + 1) = fo (tbA l at0 s v) := by
  have h128 := Nat.lt_of_lt_of_le hs (pow7 hl.1.2)
  have hc := cbt_less s h128 v (by have := hl.1.2; omega) hb
  rw [tbA_eq h128 (by have := hl.1.2; omega) hb]
  unfold stepT
  split
  · have := hl.2.2.2.2.2 at0 v ha hv
    unfold mnA fo
    (repeat' split) <;> omega
  · exact fold_fo (fun u hu hp => ⟨tbA_847 hl ha (by omega) hu hp, hl.2.2.2.2.2 u v hu hv⟩)
section RT
variable {G : xGl} {d N p v : Nat} {w : aX} {l : aLd} {b : aBk} {M : xMem} {S : List xSh} {Q : Option Value → List xSh → xMem → Prop} {y : Int32}
theorem c_X10_rest {nv : Nat} (hn : M 156 0 = nI nv) (h7 : nv ≤ 7) (hS : rS M 0 b) (hQ : Q (some (.int (nI (restN nv b.1)))) SF M) : xC G mX10_rest d 0 0 [.ref (G.1 + 156)] SF M Q := by
  have s0 := sh156
  have s1 := sh162
  have e14 : M 162 14 = nI b.1 := hS.1
  rw [← rest_nI h7] at hQ
  refine xC_intro [some (.ref (G.1 + 156))] rfl (by decide) (Nat.le_of_ble_eq_true rfl) ?_
  refine xs_K eX10_rest_0 ?_
  refine xs_aload eX10_rest_1 rfl ?_
  refine xs_getI eX10_rest_2 (by assumption) (by rfl) ?_
  refine xs_eq1 hn ?_
  refine xs_ishl eX10_rest_5 ?_
  refine xs_K eX10_rest_6 ?_
  refine xs_isub eX10_rest_7 ?_
  refine xs_aload eX10_rest_8 rfl ?_
  refine xs_getR eX10_rest_9 (by assumption) (by rfl) ?_
  refine xs_K eX10_rest_12 ?_
  refine xs_iald eX10_rest_14 (by assumption) (by omega) (by decide) ?_
  refine xs_eq1 e14 ?_
  refine xs_K eX10_rest_15 ?_
  refine xs_ixor eX10_rest_16 ?_
  refine xs_iand eX10_rest_17 ?_
  exact xs_iretI eX10_rest_18 rfl (hQ)
end RT

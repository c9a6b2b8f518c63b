/-! THE REFERENCE: honest -/
section HR2
variable {G : xGl} {d N c p v : Nat} {w : aX} {l : aLd} {b : aBk} {M : xMem} {S : List xSh} {Q : Option Value → List xSh → xMem → Prop} {y y1 y2 y3 : Int32}
theorem hon_gcd {n x k u al g : Nat} (hg : Nat.gcd u al = g) (hg0 : 0 < g) (hu : u < 2 ^ 31) (hal : al < 2 ^ 31) (hgl : g < 2 ^ 31) (hk : k ≤ 1) (hQ : Q (some (.int (if k = 0 then nI (u / g) else nI (al / g)))) SF M) : ∀ (f a1 b1 : Nat) (C D : Option Value), stG f a1 b1 = true → Nat.gcd a1 b1 = g → a1 < 2 ^ 31 → b1 < 2 ^ 31 → xW G mX10_honest (d + 9) 0 0 Q 289 [some (.ref (G.1 + 156)), some (.int (nI n)), some (.int (nI x)), some (.int (nI k)), some (.int (nI u)), some (.int (nI al)), some (.int (nI a1)), some (.int (nI b1)), C, D] [] SF M := by
  intro f
  have hnz : ¬ nI g = 0 := nI_ne0 hg0 hgl
  have K312 : ∀ C D, xW G mX10_honest (d + 9) 0 0 Q 312 [some (.ref (G.1 + 156)), some (.int (nI n)), some (.int (nI x)), some (.int (nI k)), some (.int (nI u)), some (.int (nI al)), some (.int (nI g)), some (.int (nI 0)), C, D] [] SF M := by
    intro C D
    refine xs_iload eX10_honest_312 rfl ?_
    refine xs_N0_ne eX10_honest_313 (by omega) (fun h313 => ?_) (fun h313 => ?_)
    · refine xs_iload eX10_honest_324 rfl ?_
      refine xs_iload eX10_honest_326 rfl ?_
      refine xs_idiv eX10_honest_328 (hnz) ?_
      refine xs_eq1 (pk_div (by omega) hg0 (by omega)) ?_
      exact xs_iretI eX10_honest_329 rfl (by rw [if_neg h313] at hQ; exact hQ)
    · refine xs_iload eX10_honest_316 rfl ?_
      refine xs_iload eX10_honest_318 rfl ?_
      refine xs_idiv eX10_honest_320 (hnz) ?_
      refine xs_eq1 (pk_div (by omega) hg0 (by omega)) ?_
      refine xs_goto eX10_honest_321 ?_
      exact xs_iretI eX10_honest_329 rfl (by rw [if_pos h313] at hQ; exact hQ)
  induction f with
  | zero =>
    intro a1 b1 C D h1 h2 h3 h4
    have h0 : b1 = 0 := of_decide_eq_true h1
    subst h0
    rw [Nat.gcd_zero_right] at h2
    subst h2
    refine xs_iload eX10_honest_289 rfl ?_
    refine xs_N0_eq eX10_honest_291 (by omega) (fun h291 => ?_) (fun h => absurd h (by omega))
    exact K312 _ _
  | succ f ih =>
    intro a1 b1 C D h1 h2 h3 h4
    by_cases e : b1 = 0
    · subst e
      rw [Nat.gcd_zero_right] at h2
      subst h2
      refine xs_iload eX10_honest_289 rfl ?_
      refine xs_N0_eq eX10_honest_291 (by omega) (fun h291 => ?_) (fun h => absurd h (by omega))
      exact K312 _ _
    · have hst : stG f b1 (a1 % b1) = true := by
        rw [stG] at h1
        simpa [e] using h1
      have hrem : nI a1 - nI a1 / nI b1 * nI b1 = nI (a1 % b1) := pk_rem h3 (by omega) h4
      have h9 := fun C D => ih b1 (a1 % b1) C D hst (gcd_st.trans h2) h4 (by have := Nat.mod_lt a1 (show 0 < b1 by omega); omega)
      refine xs_iload eX10_honest_289 rfl ?_
      refine xs_N0_eq eX10_honest_291 (by omega) (fun h => absurd h (by omega)) (fun h291 => ?_)
      refine xs_iload eX10_honest_294 rfl ?_
      refine xs_iload eX10_honest_296 rfl ?_
      refine xs_irem eX10_honest_298 (nI_ne0 (by omega) h4) ?_
      refine xs_eq1 hrem ?_
      refine xs_istore eX10_honest_299 (Nat.le_of_ble_eq_true rfl) rfl rfl ?_
      refine xs_iload eX10_honest_301 rfl ?_
      refine xs_istore eX10_honest_303 (Nat.le_of_ble_eq_true rfl) rfl rfl ?_
      refine xs_iload eX10_honest_305 rfl ?_
      refine xs_istore eX10_honest_307 (Nat.le_of_ble_eq_true rfl) rfl rfl ?_
      refine xs_goto eX10_honest_309 ?_
      exact h9 _ _
theorem c_X10_honest (hR : repM w M) (hok : okX N w) (hQ : ∀ M1, loK M M1 → repM w M1 → Q (some (.int (spHon w y1 y2 y3))) SF M1) : xC G mX10_honest (d + 9) 0 0 [.ref (G.1 + 156), .int y1, .int y2, .int y3] SF M Q := by
  have s0 := sh156
  obtain ⟨-, hL, hS, -⟩ := id hR
  have hl := hok.2.1
  have hB := hok.2.2.1
  have h7 := hl.1.2
  have hrl := restN_lt (ib := w.2.2.1.1) h7
  have hr128 := Nat.lt_of_lt_of_le hrl (pow7 h7)
  have hpc := pc7_le _ hr128
  have ht := ten7 (pc7 (restN w.2.1.1 w.2.2.1.1)) (by omega)
  unfold spHon at hQ
  dsimp only at hQ
  refine xC_intro [some (.ref (G.1 + 156)), some (.int y1), some (.int y2), some (.int y3), none, none, none, none, none, none] rfl (by decide) (Nat.le_of_ble_eq_true rfl) ?_
  have K : wiB y1 (nI 0) (nI 500) = true → wiB y2 (nI 0) (nI 10) = true → wiB y3 (nI 0) (nI 1) = true → xW G mX10_honest (d + 9) 0 0 Q 36 [some (.ref (G.1 + 156)), some (.int y1), some (.int y2), some (.int y3), none, none, none, none, none, none] [] SF M := by
    intro q1 q2 q3
    simp only [q1, q2, q3, Bool.and_self, if_true] at hQ
    obtain ⟨n, -, hn, rfl⟩ := wi_of (by decide) (by decide) q1
    obtain ⟨x, -, hx, rfl⟩ := wi_of (by decide) (by decide) q2
    obtain ⟨k, -, hk, rfl⟩ := wi_of (by decide) (by decide) q3
    rw [nI_clamp (by omega), nI_clamp (by omega)] at hQ
    simp only [nI_e (show k < 2 ^ 31 by omega) (show 0 < 2 ^ 31 by decide)] at hQ
    have hup := upH_pd (l := w.2.1) (b := w.2.2.1) (n := n) (x := x) hr128
    have hule := upH_le (l := w.2.1) (b := w.2.2.1) (n := n) hr128 (show x < 11 by omega)
    have hbin := bin_10 (pc7 (restN w.2.1.1 w.2.2.1.1)) (by omega) x (by omega)
    generalize hr : restN w.2.1.1 w.2.2.1.1 = r at *
    generalize hm : pc7 r = m at *
    have hsh := shl_2 m (by omega)
    have hp2 := pow7 hpc
    have hgp := Nat.gcd_pos_of_pos_right (upH w.2.1 w.2.2.1 n x r 128) ht.2
    have hgl := Nat.gcd_le_right (m := upH w.2.1 w.2.2.1 n x r 128) (n := 10 ^ m) ht.2
    have KE : ∀ (M1 : xMem) (A B C : Option Value), roK M M1 → M1 156 23 = nI m → xW G mX10_honest (d + 9) 0 0 Q 49 [some (.ref (G.1 + 156)), some (.int (nI n)), some (.int (nI x)), some (.int (nI k)), some (.int (nI (upH w.2.1 w.2.2.1 n x r 128))), some (.int (nI (10 ^ m))), some (.int (nI (2 ^ m))), A, B, C] [] SF M1 := by
      intro M1 A B C k1 m1
      have hq := hQ M1 (roK_lo k1) (repM_ro hR hok k1)
      have h9 := fun C D => hon_gcd (G := G) (d := d) (Q := Q) (M := M1) (n := n) (x := x) (k := k) rfl hgp (by omega) (by omega) (by omega) hk (by split at hq <;> (next e => first | (rw [if_pos e]; exact hq) | (rw [if_neg e]; exact hq))) 64 (upH w.2.1 w.2.2.1 n x r 128) (10 ^ m) C D (stG_ok 32 _ _ (by omega)) rfl (by omega) (by omega)
      generalize upH w.2.1 w.2.2.1 n x r 128 = u at *
      generalize 10 ^ m = al at *
      generalize 2 ^ m = n2 at *
      refine xs_iload eX10_honest_49 rfl ?_
      refine xs_K eX10_honest_51 ?_
      refine xs_aload eX10_honest_52 rfl ?_
      refine xs_getI eX10_honest_53 (by assumption) (by rfl) ?_
      refine xs_eq1 m1 ?_
      refine xs_ishl eX10_honest_56 ?_
      refine xs_eq1 hsh ?_
      refine xs_N_ge eX10_honest_57 (by omega) (by omega) (fun h57 => ?_) (fun h => absurd h (by omega))
      refine xs_iload eX10_honest_281 rfl ?_
      refine xs_istore eX10_honest_283 (Nat.le_of_ble_eq_true rfl) rfl rfl ?_
      refine xs_iload eX10_honest_285 rfl ?_
      refine xs_istore eX10_honest_287 (Nat.le_of_ble_eq_true rfl) rfl rfl ?_
      exact h9 _ _
    rw [hup, ← hbin] at KE
    have KL : ∀ (M1 : xMem), roK M M1 → M1 156 23 = nI m → rRow M1 (bitsL r) → ∀ A B C, xW G mX10_honest (d + 9) 0 0 Q 49 [some (.ref (G.1 + 156)), some (.int (nI n)), some (.int (nI x)), some (.int (nI k)), some (.int (nI 0)), some (.int (nI 0)), some (.int (nI 0)), A, B, C] [] SF M1 := by
      intro M1 k1 m1 r1 A B C
      refine dn (P := fun s => ∀ (M1 : xMem) (A B C : Option Value), roK M M1 → M1 156 23 = nI m → rRow M1 (bitsL r) → xW G mX10_honest (d + 9) 0 0 Q 49 [some (.ref (G.1 + 156)), some (.int (nI n)), some (.int (nI x)), some (.int (nI k)), some (.int (nI (sumA (fun s => if n ≤ foundB w.2.1.1 (hoB w.2.1 w.2.2.1 (pdN r s)) then x ^ pc7 s * (10 - x) ^ (m - pc7 s) else 0) s))), some (.int (nI (sumA (fun s => x ^ pc7 s * (10 - x) ^ (m - pc7 s)) s))), some (.int (nI s)), A, B, C] [] SF M1) (2 ^ m) ?_ ?_ 0 (Nat.zero_le _) M1 A B C k1 m1 r1
      · intro M1 A B C k1 m1 r1
        exact KE M1 A B C k1 m1
      · intro s hs ih M1 A B C k1 m1 r1
        have hL1 := rLm_keep hL (k1.2.1 0 (by decide)) (k1.2.1 2 (by decide)) (k1.1 157 (by decide) (by decide) (by decide) (by decide)) (k1.1 158 (by decide) (by decide) (by decide) (by decide)) (k1.1 159 (by decide) (by decide) (by decide) (by decide))
        have hS1 : rS M1 0 w.2.2.1 := rS_keep hS (fun j _ _ => k1.2.2 j (by omega))
        have HP := fun A B C KK => hon_pass (G := G) (d := d) (Q := Q) (M := M1) (y3 := nI k) (s := s) (n := n) (x := x) (m := m) (r := r) (u := sumA (fun s => if n ≤ foundB w.2.1.1 (hoB w.2.1 w.2.2.1 (pdN r s)) then x ^ pc7 s * (10 - x) ^ (m - pc7 s) else 0) s) (al := sumA (fun s => x ^ pc7 s * (10 - x) ^ (m - pc7 s)) s) (A := A) (B := B) (C := C) hl hL1 hS1 hB hn hx hr hm hs m1 r1 KK
        have HK : ∀ (M2 : xMem) (A B C : Option Value), roK M1 M2 → M2 156 23 = nI m → rRow M2 (bitsL r) → xW G mX10_honest (d + 9) 0 0 Q 275 [some (.ref (G.1 + 156)), some (.int (nI n)), some (.int (nI x)), some (.int (nI k)), some (.int (nI (sumA (fun s => if n ≤ foundB w.2.1.1 (hoB w.2.1 w.2.2.1 (pdN r s)) then x ^ pc7 s * (10 - x) ^ (m - pc7 s) else 0) s + (if n ≤ foundB w.2.1.1 (hoB w.2.1 w.2.2.1 (pdN r s)) then x ^ pc7 s * (10 - x) ^ (m - pc7 s) else 0)))), some (.int (nI (sumA (fun s => x ^ pc7 s * (10 - x) ^ (m - pc7 s)) s + x ^ pc7 s * (10 - x) ^ (m - pc7 s)))), some (.int (nI s)), A, B, C] [] SF M2 := by
          intro M2 A B C k2 m2 r2
          have h8 := fun A B C => ih M2 A B C (roK_tr k1 k2) m2 r2
          simp only [sumA] at h8
          refine xs_inc1 eX10_honest_275 rfl rfl rfl ?_
          refine xs_goto eX10_honest_278 ?_
          exact h8 _ _ _
        have h9 := HP A B C HK
        generalize 2 ^ m = n2 at *
        refine xs_iload eX10_honest_49 rfl ?_
        refine xs_K eX10_honest_51 ?_
        refine xs_aload eX10_honest_52 rfl ?_
        refine xs_getI eX10_honest_53 (by assumption) (by rfl) ?_
        refine xs_eq1 m1 ?_
        refine xs_ishl eX10_honest_56 ?_
        refine xs_eq1 hsh ?_
        refine xs_N_ge eX10_honest_57 (by omega) (by omega) (fun h => absurd h (by omega)) (fun h57 => ?_)
        exact h9
    refine xs_aload eX10_honest_36 rfl ?_
    refine xs_callV0v eX10_honest_37 (by assumption) (Nat.le_of_ble_eq_true rfl) (c_X10_lists (b := w.2.2.1) hl hL hS (fun M1 f1 f2 f3 f4 => ⟨rfl, ?_⟩))
    rw [hr] at f3 f4
    rw [hm] at f3
    have h9 := KL M1 ⟨fun a a1 a2 a3 a4 => f1 a a1 a2, f2, fun j hj => by rw [f1 162 (by decide) (by decide)]⟩ f3 f4
    refine xs_K eX10_honest_40 ?_
    refine xs_istore eX10_honest_41 (Nat.le_of_ble_eq_true rfl) rfl rfl ?_
    refine xs_K eX10_honest_43 ?_
    refine xs_istore eX10_honest_44 (Nat.le_of_ble_eq_true rfl) rfl rfl ?_
    refine xs_K eX10_honest_46 ?_
    refine xs_istore eX10_honest_47 (Nat.le_of_ble_eq_true rfl) rfl rfl ?_
    exact h9 _ _ _
  have K2 : ¬ (wiB y1 (nI 0) (nI 500) && wiB y2 (nI 0) (nI 10) && wiB y3 (nI 0) (nI 1)) = true → Q (some (.int (-1))) SF M := fun h => by
    have h9 := hQ M
    rw [if_neg h] at h9
    exact h9 (fun _ _ => rfl) hR
  refine xs_iload eX10_honest_0 rfl ?_
  refine xs_i2l eX10_honest_1 ?_
  refine xs_KL eX10_honest_2 ?_
  refine xs_KL eX10_honest_3 ?_
  refine xs_callS3i eX10_honest_6 (Nat.le_of_ble_eq_true rfl) (c_X10_in (lo := nI 0) (hi := nI 500) rfl (by decide) (by decide) ⟨_, rfl, ?_⟩)
  refine xs_ifeqB eX10_honest_9 (fun h9 => ?_) (fun h9 => ?_)
  · refine xs_K eX10_honest_34 ?_
    exact xs_iretI eX10_honest_35 rfl (K2 (by simp [h9]))
  · refine xs_iload eX10_honest_12 rfl ?_
    refine xs_i2l eX10_honest_13 ?_
    refine xs_KL eX10_honest_14 ?_
    refine xs_KL eX10_honest_15 ?_
    refine xs_callS3i eX10_honest_18 (Nat.le_of_ble_eq_true rfl) (c_X10_in (lo := nI 0) (hi := nI 10) rfl (by decide) (by decide) ⟨_, rfl, ?_⟩)
    refine xs_ifeqB eX10_honest_21 (fun h21 => ?_) (fun h21 => ?_)
    · refine xs_K eX10_honest_34 ?_
      exact xs_iretI eX10_honest_35 rfl (K2 (by simp [h21]))
    · refine xs_iload eX10_honest_24 rfl ?_
      refine xs_i2l eX10_honest_25 ?_
      refine xs_KL eX10_honest_26 ?_
      refine xs_KL eX10_honest_27 ?_
      refine xs_callS3i eX10_honest_28 (Nat.le_of_ble_eq_true rfl) (c_X10_in (lo := nI 0) (hi := nI 1) rfl (by decide) (by decide) ⟨_, rfl, ?_⟩)
      refine xs_ifneB eX10_honest_31 (fun h31 => ?_) (fun h31 => ?_)
      · exact K h9 h21 h31
      · refine xs_K eX10_honest_34 ?_
        exact xs_iretI eX10_honest_35 rfl (K2 (by simp [h31]))
end HR2

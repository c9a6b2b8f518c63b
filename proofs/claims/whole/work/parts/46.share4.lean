/-! Sharing.seek, whoAsks; soonest of the class -/
section S4
variable {G : xGl} {d N c p v : Nat} {w : aX} {l : aLd} {b : aBk} {M : xMem} {S : List xSh} {Q : Option Value → List xSh → xMem → Prop} {y : Int32}
def shF (M M1 : xMem) : Prop := ∀ a, a < 98 ∨ 105 < a → M1 a = M a
theorem pw_2187 : ∀ n, n < 4 → ∀ k, k ≤ 7 → n ^ k ≤ 2187 := by decide +kernel
theorem bsA_lt {r : Nat} : ∀ {n : Nat} {q : Nat × Nat}, bsA l b r n = some q → q.2 < n ∧ dyA l b r q.2 l.2.1 = some q.1
  | 0, q, h => by cases h
  | n + 1, q, h => by
    rw [bsA] at h
    cases hd : dyA l b r n l.2.1 with
    | none =>
      rw [hd] at h
      have := bsA_lt h
      exact ⟨by omega, this.2⟩
    | some dd =>
      rw [hd] at h
      simp only at h
      cases hb : bsA l b r n with
      | none =>
        rw [hb] at h
        cases h
        exact ⟨by simp, hd⟩
      | some q0 =>
        rw [hb] at h
        simp only at h
        split at h
        · cases h; exact ⟨by simp, hd⟩
        · cases h
          have := bsA_lt hb
          exact ⟨by omega, this.2⟩
theorem optD_4 {o : Option Nat} (h : ∀ m, o = some m → m < 2 ^ 31) : optD o = -4 ↔ o = none := optI_4 h
theorem c_X7_seek {dy : Nat} (hl : okL l) (hL : rL M l) (hb : rB M 31 b) (hB : okB l.1 dy b) (hdy : dy < 2 ^ 29) (hQ : ∀ M1, shF M M1 → M1 98 5 = optD ((bsA l b (restN l.1 b.1) (l.2.1 ^ pc7 (restN l.1 b.1))).map (·.1)) → (∀ q, bsA l b (restN l.1 b.1) (l.2.1 ^ pc7 (restN l.1 b.1)) = some q → ∀ p, p < 3 → M1 105 p = nI (setA (restN l.1 b.1) l.2.1 l.1 q.2 p)) → Q none SF M1) : xC G mX7_seek (d + 6) 0 0 [.ref (G.1 + 98), .ref (G.1 + 31)] SF M Q := by
  have s0 := sh98
  have s1 := sh104
  have s5 := sh105
  have s2 := sh100
  have l0 := sh18
  have isb := isBk31
  have b0 := bk0 isBk31
  have b3 := bk3 isBk31
  have h7 := hl.1.2
  have h3 := hl.2.1.2
  have hrm : restM l.1 (M 31 5) = nI (restN l.1 b.1) := by rw [hb.1]; exact rest_nI h7
  have hr := restN_lt (ib := b.1) h7
  have hr128 := Nat.lt_of_lt_of_le hr (pow7 h7)
  have hpc := pc7_le _ hr128
  have hn := hL.1
  have hnp := hL.2.1
  have hai : ∀ a, a < 3 → ([some 101, some 102, some 103] : List (Option Nat))[a]? = some (some (101 + a)) := fun a ha => by rcases (show a = 0 ∨ a = 1 ∨ a = 2 by omega) with rfl | rfl | rfl <;> rfl
  generalize restN l.1 b.1 = r at *
  have hpw := fun k (hk : k ≤ 7) => pw_2187 l.2.1 (by omega) k hk
  refine xC_intro [some (.ref (G.1 + 98)), some (.ref (G.1 + 31)), none, none, none, none] rfl (by decide) (Nat.le_of_ble_eq_true rfl) ?_
  have K84 : ∀ (A : Option Value) (M1 : xMem), shF M M1 → shP M1 l b r l.2.1 → M1 98 5 = (-4) → xW G mX7_seek (d + 6) 0 0 Q 84 [some (.ref (G.1 + 98)), some (.ref (G.1 + 31)), some (.int (nI r)), some (.int (nI (l.2.1 ^ pc7 r))), some (.int (nI 0)), A] [] SF M1 := by
    intro A M1 f1 f2 f3
    have hcodes := hpw _ hpc
    generalize l.2.1 ^ pc7 r = n at *
    refine dn (P := fun c => ∀ (A : Option Value) (M1 : xMem), shF M M1 → shP M1 l b r l.2.1 → M1 98 5 = optD ((bsA l b r c).map (·.1)) → (∀ q, bsA l b r c = some q → ∀ p, p < 3 → M1 105 p = nI (setA r l.2.1 l.1 q.2 p)) → xW G mX7_seek (d + 6) 0 0 Q 84 [some (.ref (G.1 + 98)), some (.ref (G.1 + 31)), some (.int (nI r)), some (.int (nI n)), some (.int (nI c)), A] [] SF M1) n ?_ ?_ 0 (by omega) A M1 f1 f2 f3 (fun q hq => by cases hq)
    · intro A M1 f1 f2 f3 f4
      have h9 := hQ M1 f1 f3 f4
      refine xs_iload eX7_seek_84 rfl ?_
      refine xs_iload eX7_seek_86 rfl ?_
      refine xs_N_ge eX7_seek_87 (by omega) (by omega) (fun h87 => ?_) (fun h => absurd h (by omega))
      exact xs_vret eX7_seek_155 rfl (h9)
    · intro c hc ih A M1 f1 f2 f3 f4
      have hL1 : rL M1 l := rL_keep hL (fun a _ _ => f1 a (by omega))
      rw [bsA] at ih
      have hdl := fun m (hm : dyA l b r c l.2.1 = some m) => dyA_le (r := r) (code := c) hl hB (by omega) hm
      have hd4 := optD_4 (o := dyA l b r c l.2.1) (fun m hm => by have := hdl m hm; omega)
      have hb4 := optD_4 (o := (bsA l b r c).map (·.1)) (fun m hm => by
        obtain ⟨q, hq, rfl⟩ := Option.map_eq_some_iff.mp hm
        have := dyA_le hl hB (by omega) (bsA_lt hq).2
        omega)
      refine xs_iload eX7_seek_84 rfl ?_
      refine xs_iload eX7_seek_86 rfl ?_
      refine xs_N_ge eX7_seek_87 (by omega) (by omega) (fun h => absurd h (by omega)) (fun h87 => ?_)
      refine xs_aload eX7_seek_90 rfl ?_
      refine xs_iload eX7_seek_91 rfl ?_
      refine xs_iload eX7_seek_93 rfl ?_
      refine xs_callV2v eX7_seek_94 (by assumption) (Nat.le_of_ble_eq_true rfl) (c_X7_shareOut hl hL1 (by omega) hr128 (fun M2 g1 g2 => ⟨rfl, ?_⟩))
      have hL2 : rL M2 l := rL_keep hL1 (fun a _ _ => g1 a (by omega))
      have hb2 : rB M2 31 b := rB_keep hb (fun a _ _ => by rw [g1 a (by omega)]; exact f1 a (by omega))
      have hS2 : shP M2 l b r l.2.1 := fun p hp s h1 h2 => by rw [g1 (101 + p) (by omega)]; exact f2 p hp s h1 h2
      have f1b : shF M M2 := fun a ha => by rw [g1 a (by omega)]; exact f1 a ha
      have f3b := (show M2 98 5 = M1 98 5 by rw [g1 98 (by decide)]).trans f3
      have f4b : ∀ q, bsA l b r c = some q → ∀ p, p < 3 → M2 105 p = nI (setA r l.2.1 l.1 q.2 p) := fun q hq p hp => by rw [g1 105 (by decide)]; exact f4 q hq p hp
      refine xs_aload eX7_seek_97 rfl ?_
      refine xs_aload eX7_seek_98 rfl ?_
      refine xs_callV1i eX7_seek_99 (by assumption) (Nat.le_of_ble_eq_true rfl) (c_X7_daysOfShares (b := b) (dy := dy) hl hL2 hb2 hB hdy hr hS2 g2 ⟨_, rfl, ?_⟩)
      refine xs_istore eX7_seek_102 (Nat.le_of_ble_eq_true rfl) rfl rfl ?_
      have PUT : ∀ m : Nat, shF M (setR (up2 M2 98 5 (nI m)) 105 (up2 M2 98 5 (nI m) 104)) ∧ shP (setR (up2 M2 98 5 (nI m)) 105 (up2 M2 98 5 (nI m) 104)) l b r l.2.1 ∧ setR (up2 M2 98 5 (nI m)) 105 (up2 M2 98 5 (nI m) 104) 98 5 = nI m ∧ ∀ p, p < 3 → setR (up2 M2 98 5 (nI m)) 105 (up2 M2 98 5 (nI m) 104) 105 p = nI (setA r l.2.1 l.1 c p) := fun m =>
        ⟨fun a ha => by rw [setR_ne (by omega), up2_ne (by omega)]; exact f1b a ha, fun p hp s h1 h2 => by rw [setR_ne (by omega), up2_ne (by omega)]; exact hS2 p hp s h1 h2, by rw [setR_ne (by decide), up2_x, if_pos rfl], fun p hp => by rw [setR_row, up2_ne (by decide)]; exact g2 p hp⟩
      cases hdd : dyA l b r c l.2.1 with
      | none =>
        rw [hdd] at ih
        simp only at ih
        refine xs_iload eX7_seek_104 rfl ?_
        refine xs_K eX7_seek_106 ?_
        refine xs_icmp_eq eX7_seek_108 (fun h108 => ?_) (fun h => absurd (rfl) h)
        refine xs_inc1 eX7_seek_149 rfl rfl rfl ?_
        refine xs_goto eX7_seek_152 ?_
        exact ih _ M2 f1b hS2 f3b f4b
      | some m =>
        rw [hdd] at ih hd4
        have hne : ¬ (nI m = -4) := fun e => by cases hd4.mp e
        have hm := hdl m hdd
        obtain ⟨p1, p2, p3, p4⟩ := PUT m
        cases hbb : bsA l b r c with
        | none =>
          rw [hbb] at ih f3b
          simp only at ih
          refine xs_iload eX7_seek_104 rfl ?_
          refine xs_K eX7_seek_106 ?_
          refine xs_icmp_eq eX7_seek_108 (fun h => absurd h (hne)) (fun h108 => ?_)
          refine xs_aload eX7_seek_111 rfl ?_
          refine xs_getI eX7_seek_112 (by assumption) (by rfl) ?_
          refine xs_eq1 f3b ?_
          refine xs_K eX7_seek_115 ?_
          refine xs_icmp_eq eX7_seek_117 (fun h117 => ?_) (fun h => absurd (rfl) h)
          refine xs_aload eX7_seek_129 rfl ?_
          refine xs_iload eX7_seek_130 rfl ?_
          refine xs_putI eX7_seek_132 (by assumption) (by rfl) rfl rfl ?_
          refine xs_aload eX7_seek_135 rfl ?_
          refine xs_getR eX7_seek_136 (by assumption) (by rfl) ?_
          refine xs_K eX7_seek_139 ?_
          refine xs_aload eX7_seek_140 rfl ?_
          refine xs_getR eX7_seek_141 (by assumption) (by rfl) ?_
          refine xs_K eX7_seek_144 ?_
          refine xs_K eX7_seek_145 ?_
          refine xs_copy eX7_seek_146 (by assumption) (by assumption) (by decide) (Nat.le_of_ble_eq_true rfl) ?_
          refine xs_inc1 eX7_seek_149 rfl rfl rfl ?_
          refine xs_goto eX7_seek_152 ?_
          exact ih _ _ p1 p2 p3 (fun q hq p hp => by cases hq; exact p4 p hp)
        | some q =>
          rw [hbb] at ih f3b hb4
          simp only at ih
          have hne2 : ¬ (nI q.1 = -4) := fun e => by cases hb4.mp e
          have hql := dyA_le hl hB (by omega) (bsA_lt hbb).2
          refine xs_iload eX7_seek_104 rfl ?_
          refine xs_K eX7_seek_106 ?_
          refine xs_icmp_eq eX7_seek_108 (fun h => absurd h (hne)) (fun h108 => ?_)
          refine xs_aload eX7_seek_111 rfl ?_
          refine xs_getI eX7_seek_112 (by assumption) (by rfl) ?_
          refine xs_eq1 (z := nI q.1) f3b ?_
          refine xs_K eX7_seek_115 ?_
          refine xs_icmp_eq eX7_seek_117 (fun h => absurd h (hne2)) (fun h117 => ?_)
          refine xs_iload eX7_seek_120 rfl ?_
          refine xs_aload eX7_seek_122 rfl ?_
          refine xs_getI eX7_seek_123 (by assumption) (by rfl) ?_
          refine xs_eq1 (z := nI q.1) f3b ?_
          refine xs_N_ge eX7_seek_126 (by omega) (by omega) (fun h126 => ?_) (fun h126 => ?_)
          · refine xs_inc1 eX7_seek_149 rfl rfl rfl ?_
            refine xs_goto eX7_seek_152 ?_
            rw [if_neg (by omega)] at ih
            exact ih _ M2 f1b hS2 f3b (fun q2 hq p hp => by cases hq; exact f4b q hbb p hp)
          · refine xs_aload eX7_seek_129 rfl ?_
            refine xs_iload eX7_seek_130 rfl ?_
            refine xs_putI eX7_seek_132 (by assumption) (by rfl) rfl rfl ?_
            refine xs_aload eX7_seek_135 rfl ?_
            refine xs_getR eX7_seek_136 (by assumption) (by rfl) ?_
            refine xs_K eX7_seek_139 ?_
            refine xs_aload eX7_seek_140 rfl ?_
            refine xs_getR eX7_seek_141 (by assumption) (by rfl) ?_
            refine xs_K eX7_seek_144 ?_
            refine xs_K eX7_seek_145 ?_
            refine xs_copy eX7_seek_146 (by assumption) (by assumption) (by decide) (Nat.le_of_ble_eq_true rfl) ?_
            refine xs_inc1 eX7_seek_149 rfl rfl rfl ?_
            refine xs_goto eX7_seek_152 ?_
            rw [if_pos h126] at ih
            exact ih _ _ p1 p2 p3 (fun q hq p hp => by cases hq; exact p4 p hp)
  have K38 : ∀ (M1 : xMem), M1 = M → xW G mX7_seek (d + 6) 0 0 Q 38 [some (.ref (G.1 + 98)), some (.ref (G.1 + 31)), some (.int (nI r)), some (.int (nI (l.2.1 ^ pc7 r))), some (.int (nI 0)), none] [] SF M1 := by
    intro M1 hM1
    refine dn (P := fun p => ∀ (M1 : xMem), shF M M1 → shP M1 l b r p → xW G mX7_seek (d + 6) 0 0 Q 38 [some (.ref (G.1 + 98)), some (.ref (G.1 + 31)), some (.int (nI r)), some (.int (nI (l.2.1 ^ pc7 r))), some (.int (nI p)), none] [] SF M1) l.2.1 ?_ ?_ 0 (by omega) M1 (fun a _ => by rw [hM1]) (fun p hp => by omega)
    · intro M1 f1 f2
      have e6 : M1 18 6 = nI l.2.1 := by rw [f1 18 (by omega)]; exact hnp
      refine xs_iload eX7_seek_38 rfl ?_
      refine xs_aload eX7_seek_40 rfl ?_
      refine xs_getR eX7_seek_41 (by assumption) (by rfl) ?_
      refine xs_getI eX7_seek_44 (by assumption) (by rfl) ?_
      refine xs_eq1 e6 ?_
      refine xs_N_ge eX7_seek_47 (by omega) (by omega) (fun h47 => ?_) (fun h => absurd h (by omega))
      refine xs_aload eX7_seek_75 rfl ?_
      refine xs_K eX7_seek_76 ?_
      refine xs_putI eX7_seek_78 (by assumption) (by rfl) rfl rfl ?_
      refine xs_K eX7_seek_81 ?_
      refine xs_istore eX7_seek_82 (Nat.le_of_ble_eq_true rfl) rfl rfl ?_
      exact K84 none _ (fun a ha => by rw [up2_ne (by omega)]; exact f1 a ha) (fun p hp s h1 h2 => by rw [up2_ne (by omega)]; exact f2 p hp s h1 h2) (by rw [up2_x, if_pos rfl])
    · intro p hp ih M1 f1 f2
      have e6 : M1 18 6 = nI l.2.1 := by rw [f1 18 (by omega)]; exact hnp
      have hL1 : rL M1 l := rL_keep hL (fun a _ _ => f1 a (by omega))
      have hat : M1 34 p = nI (b.2.2.2.2.1 p) := by rw [f1 34 (by omega)]; exact (hb.2.2.2 p (by omega)).1
      have hal := (hB.2.2.2.2 p (by omega)).1
      refine xs_iload eX7_seek_38 rfl ?_
      refine xs_aload eX7_seek_40 rfl ?_
      refine xs_getR eX7_seek_41 (by assumption) (by rfl) ?_
      refine xs_getI eX7_seek_44 (by assumption) (by rfl) ?_
      refine xs_eq1 e6 ?_
      refine xs_N_ge eX7_seek_47 (by omega) (by omega) (fun h => absurd h (by omega)) (fun h47 => ?_)
      refine xs_aload eX7_seek_50 rfl ?_
      refine xs_aload eX7_seek_51 rfl ?_
      refine xs_getR eX7_seek_52 (by assumption) (by rfl) ?_
      refine xs_iload eX7_seek_55 rfl ?_
      refine xs_iald eX7_seek_57 (by assumption) (by omega) (by decide) ?_
      refine xs_eq1 hat ?_
      refine xs_iload eX7_seek_58 rfl ?_
      refine xs_aload eX7_seek_59 rfl ?_
      refine xs_getR eX7_seek_60 (by assumption) (by rfl) ?_
      refine xs_iload eX7_seek_63 rfl ?_
      refine xs_aald eX7_seek_65 s2 rfl (hai p (by omega)) (Nat.le_of_ble_eq_true rfl) ?_
      refine xs_callV3v eX7_seek_66 (by assumption) (Nat.le_of_ble_eq_true rfl) (c_X7_walkFrom (c := 101 + p) hl hL1 hal hr (by omega) (fun M2 g => ⟨rfl, ?_⟩))
      refine xs_inc1 eX7_seek_69 rfl rfl rfl ?_
      refine xs_goto eX7_seek_72 ?_
      refine ih M2 (fun a ha => by rw [g.1 a (by omega) (by omega)]; exact f1 a ha) (fun p2 hp2 s h1 h2 => ?_)
      by_cases e : p2 = p
      · subst e; exact g.2.1 s h1 h2
      · rw [g.1 (101 + p2) (by omega) (by omega)]; exact f2 p2 (by omega) s h1 h2
  have K10 : xW G mX7_seek (d + 6) 0 0 Q 10 [some (.ref (G.1 + 98)), some (.ref (G.1 + 31)), some (.int (nI r)), some (.int (nI 1)), some (.int (nI 0)), none] [] SF M := by
    refine dn (P := fun i => xW G mX7_seek (d + 6) 0 0 Q 10 [some (.ref (G.1 + 98)), some (.ref (G.1 + 31)), some (.int (nI r)), some (.int (nI (l.2.1 ^ i))), some (.int (nI i)), none] [] SF M) (pc7 r) ?_ ?_ 0 (by omega)
    · refine xs_iload eX7_seek_10 rfl ?_
      refine xs_aload eX7_seek_12 rfl ?_
      refine xs_callV0i eX7_seek_13 (by assumption) (Nat.le_of_ble_eq_true rfl) (c_X0_restSize (a := r) isb hn h7 hrm hr128 ⟨_, rfl, ?_⟩)
      refine xs_N_ge eX7_seek_16 (by omega) (by omega) (fun h16 => ?_) (fun h => absurd h (by omega))
      refine xs_K eX7_seek_35 ?_
      refine xs_istore eX7_seek_36 (Nat.le_of_ble_eq_true rfl) rfl rfl ?_
      exact K38 M rfl
    · intro i hi ih
      refine xs_iload eX7_seek_10 rfl ?_
      refine xs_aload eX7_seek_12 rfl ?_
      refine xs_callV0i eX7_seek_13 (by assumption) (Nat.le_of_ble_eq_true rfl) (c_X0_restSize (a := r) isb hn h7 hrm hr128 ⟨_, rfl, ?_⟩)
      refine xs_N_ge eX7_seek_16 (by omega) (by omega) (fun h => absurd h (by omega)) (fun h16 => ?_)
      refine xs_iload eX7_seek_19 rfl ?_
      refine xs_aload eX7_seek_20 rfl ?_
      refine xs_getR eX7_seek_21 (by assumption) (by rfl) ?_
      refine xs_getI eX7_seek_24 (by assumption) (by rfl) ?_
      refine xs_eq1 hnp ?_
      refine xs_imul eX7_seek_27 ?_
      refine xs_eq1 (pk_mul _ _) ?_
      refine xs_istore eX7_seek_28 (Nat.le_of_ble_eq_true rfl) rfl rfl ?_
      refine xs_inc1 eX7_seek_29 rfl rfl rfl ?_
      refine xs_goto eX7_seek_32 ?_
      exact ih
  refine xs_aload eX7_seek_0 rfl ?_
  refine xs_callV0i eX7_seek_1 (by assumption) (Nat.le_of_ble_eq_true rfl) (c_X0_rest isb hn ⟨_, rfl, ?_⟩)
  rw [hrm]
  refine xs_istore eX7_seek_4 (Nat.le_of_ble_eq_true rfl) rfl rfl ?_
  refine xs_K eX7_seek_5 ?_
  refine xs_istore eX7_seek_6 (Nat.le_of_ble_eq_true rfl) rfl rfl ?_
  refine xs_K eX7_seek_7 ?_
  refine xs_istore eX7_seek_8 (Nat.le_of_ble_eq_true rfl) rfl rfl ?_
  exact K10
end S4

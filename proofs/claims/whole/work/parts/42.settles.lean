/-! THE REFERENCE settles a land; lay -/
section ST
variable {G : xGl} {d N : Nat} {w : aX} {M : xMem} {T : aT} {Q : Option Value → List xSh → xMem → Prop}
def stK (M M1 : xMem) : Prop := (∀ a, a ≠ 156 → a ≠ 157 → a ≠ 158 → a ≠ 159 → M1 a = M a) ∧ ∀ j, j ≠ 0 → j ≠ 2 → M1 156 j = M 156 j
theorem fo_le {x : Nat} (h : x ≤ 2560 ∨ x = 1000000) : fo x ≤ 9999 := by unfold fo; split <;> omega
theorem c_X10_settles (hT : rTm M T) (ho : okT T) (hQ : ∀ M1, stK M M1 → rLm M1 (ldT T) → Q none SF M1) : xC G mX10_settles (d + 1) 0 0 [.ref (G.1 + 156)] SF M Q := by
  have s0 := sh156
  have s1 := sh157
  have s2 := sh158
  have s3 := sh159
  have s4 := sh160
  have s5 := sh161
  obtain ⟨t1, t2, t3, t4, t5⟩ := hT
  have h7 := ho.1
  have h8 := ho.2.2.2.2.2.2.2
  refine xC_intro [some (.ref (G.1 + 156)), none, none, none] rfl (by decide) (Nat.le_of_ble_eq_true rfl) ?_
  refine xs_aload eX10_settles_0 rfl ?_
  refine xs_aload eX10_settles_1 rfl ?_
  refine xs_getI eX10_settles_2 (by assumption) (by rfl) ?_
  refine xs_eq1 t1 ?_
  refine xs_putI eX10_settles_5 (by assumption) (by rfl) rfl rfl ?_
  refine xs_aload eX10_settles_8 rfl ?_
  refine xs_aload eX10_settles_9 rfl ?_
  refine xs_getI eX10_settles_10 (by assumption) (by rfl) ?_
  refine xs_eq1 (z := nI T.2.1) (by rw [up2_x, if_neg (by decide)]; exact t2) ?_
  refine xs_putI eX10_settles_13 (by assumption) (by rfl) rfl rfl ?_
  refine xs_K eX10_settles_16 ?_
  refine xs_istore eX10_settles_17 (Nat.le_of_ble_eq_true rfl) rfl rfl ?_
  generalize hM0 : up2 (up2 M 156 0 (nI T.1)) 156 2 (nI T.2.1) = M0
  have m0 : ∀ a, a ≠ 156 → M0 a = M a := fun a ha => by rw [← hM0, up2_ne ha, up2_ne ha]
  have n0 : M0 156 0 = nI T.1 := by rw [← hM0, up2_x, if_neg (by decide), up2_x, if_pos rfl]
  have n2 : M0 156 2 = nI T.2.1 := by rw [← hM0, up2_x, if_pos rfl]
  have nj : ∀ j, j ≠ 0 → j ≠ 2 → M0 156 j = M 156 j := fun j h1 h2 => by rw [← hM0, up2_x, if_neg h2, up2_x, if_neg h1]
  have FW : ∀ (k : Nat), k ≤ T.1 → ∀ (M1 : xMem) (A B : Option Value), (∀ a, a ≠ 157 → a ≠ 158 → a ≠ 159 → M1 a = M0 a) → (∀ v, v < 7 → M1 157 v = M 160 v) → (∀ j, j < 49 → M1 158 j = M 161 j) → rFm M1 T.1 (iterN (fun k D => fwK T.1 k D) k (d0W T.2.2.2.2.2.2.2)) → (k < T.1 → bJ T.1 k (iterN (fun k D => fwK T.1 k D) k (d0W T.2.2.2.2.2.2.2))) → xW G mX10_settles (d + 1) 0 0 Q 108 [some (.ref (G.1 + 156)), some (.int (nI k)), A, B] [] SF M1 := by
    intro k hk
    refine dn (P := fun k => ∀ (M1 : xMem) (A B : Option Value), (∀ a, a ≠ 157 → a ≠ 158 → a ≠ 159 → M1 a = M0 a) → (∀ v, v < 7 → M1 157 v = M 160 v) → (∀ j, j < 49 → M1 158 j = M 161 j) → rFm M1 T.1 (iterN (fun k D => fwK T.1 k D) k (d0W T.2.2.2.2.2.2.2)) → (k < T.1 → bJ T.1 k (iterN (fun k D => fwK T.1 k D) k (d0W T.2.2.2.2.2.2.2))) → xW G mX10_settles (d + 1) 0 0 Q 108 [some (.ref (G.1 + 156)), some (.int (nI k)), A, B] [] SF M1) T.1 ?_ ?_ k hk
    · intro M1 A B f1 f2 f3 f4 f5
      have e0 : M1 156 0 = nI T.1 := by rw [f1 156 (by decide) (by decide) (by decide)]; exact n0
      have h9 := hQ M1 ⟨fun a a1 a2 a3 a4 => (f1 a a2 a3 a4).trans (m0 a a1), fun j j1 j2 => by rw [f1 156 (by decide) (by decide) (by decide)]; exact nj j j1 j2⟩ ⟨e0, by rw [f1 156 (by decide) (by decide) (by decide)]; exact n2, fun v hv => by rw [f2 v (by have hv : v < T.1 := hv; omega)]; exact t3 v hv, fun a b ha hb => ?_, f4⟩
      · refine xs_iload eX10_settles_108 rfl ?_
        refine xs_aload eX10_settles_109 rfl ?_
        refine xs_getI eX10_settles_110 (by assumption) (by rfl) ?_
        refine xs_eq1 e0 ?_
        refine xs_N_ge eX10_settles_113 (by omega) (by omega) (fun h113 => ?_) (fun h => absurd h (by omega))
        exact xs_vret eX10_settles_202 rfl (h9)
      · have ha : a < T.1 := ha
        have hb : b < T.1 := hb
        exact ⟨T.2.2.2.2.2.2.2 a b, by have := (h8 a b).1; omega, by rw [f3 _ (by omega)]; exact t5 a b (by omega) (by omega), (h8 a b).2.1⟩
    · intro k hk ih M1 A B f1 f2 f3 f4 f5
      have f5 := f5 hk
      have ih' : ∀ (M1 : xMem) (A B : Option Value), (∀ a, a ≠ 157 → a ≠ 158 → a ≠ 159 → M1 a = M0 a) → (∀ v, v < 7 → M1 157 v = M 160 v) → (∀ j, j < 49 → M1 158 j = M 161 j) → rFm M1 T.1 (fwK T.1 k (iterN (fun k D => fwK T.1 k D) k (d0W T.2.2.2.2.2.2.2))) → (k + 1 < T.1 → bJ T.1 (k + 1) (fwK T.1 k (iterN (fun k D => fwK T.1 k D) k (d0W T.2.2.2.2.2.2.2)))) → xW G mX10_settles (d + 1) 0 0 Q 108 [some (.ref (G.1 + 156)), some (.int (nI (k + 1))), A, B] [] SF M1 := ih
      clear ih
      generalize iterN (fun k D => fwK T.1 k D) k (d0W T.2.2.2.2.2.2.2) = D0 at f4 f5 ih'
      have e0 : M1 156 0 = nI T.1 := by rw [f1 156 (by decide) (by decide) (by decide)]; exact n0
      refine xs_iload eX10_settles_108 rfl ?_
      refine xs_aload eX10_settles_109 rfl ?_
      refine xs_getI eX10_settles_110 (by assumption) (by rfl) ?_
      refine xs_eq1 e0 ?_
      refine xs_N_ge eX10_settles_113 (by omega) (by omega) (fun h => absurd h (by omega)) (fun h113 => ?_)
      refine xs_K eX10_settles_116 ?_
      refine xs_istore eX10_settles_117 (Nat.le_of_ble_eq_true rfl) rfl rfl ?_
      refine dn (P := fun a => ∀ (M1 : xMem) (B : Option Value), (∀ a, a ≠ 157 → a ≠ 158 → a ≠ 159 → M1 a = M0 a) → (∀ v, v < 7 → M1 157 v = M 160 v) → (∀ j, j < 49 → M1 158 j = M 161 j) → rFm M1 T.1 (iterN (fun a D => iterN (rlx k a) T.1 D) a D0) → bJ T.1 k (iterN (fun a D => iterN (rlx k a) T.1 D) a D0) → xW G mX10_settles (d + 1) 0 0 Q 118 [some (.ref (G.1 + 156)), some (.int (nI k)), some (.int (nI a)), B] [] SF M1) T.1 ?_ ?_ 0 (by omega) M1 B f1 f2 f3 f4 f5
      · intro M1 B f1 f2 f3 f4 f5
        have e0 : M1 156 0 = nI T.1 := by rw [f1 156 (by decide) (by decide) (by decide)]; exact n0
        refine xs_iload eX10_settles_118 rfl ?_
        refine xs_aload eX10_settles_119 rfl ?_
        refine xs_getI eX10_settles_120 (by assumption) (by rfl) ?_
        refine xs_eq1 e0 ?_
        refine xs_N_ge eX10_settles_123 (by omega) (by omega) (fun h123 => ?_) (fun h => absurd h (by omega))
        refine xs_inc1 eX10_settles_196 rfl rfl rfl ?_
        refine xs_goto eX10_settles_199 ?_
        exact ih' M1 _ _ f1 f2 f3 f4 (fun h => bJ_next h f5)
      · intro a ha ih M1 B f1 f2 f3 f4 f5
        have ih2 : ∀ (M1 : xMem) (B : Option Value), (∀ a, a ≠ 157 → a ≠ 158 → a ≠ 159 → M1 a = M0 a) → (∀ v, v < 7 → M1 157 v = M 160 v) → (∀ j, j < 49 → M1 158 j = M 161 j) → rFm M1 T.1 (iterN (rlx k a) T.1 (iterN (fun a D => iterN (rlx k a) T.1 D) a D0)) → bJ T.1 k (iterN (rlx k a) T.1 (iterN (fun a D => iterN (rlx k a) T.1 D) a D0)) → xW G mX10_settles (d + 1) 0 0 Q 118 [some (.ref (G.1 + 156)), some (.int (nI k)), some (.int (nI (a + 1))), B] [] SF M1 := ih
        clear ih
        generalize iterN (fun a D => iterN (rlx k a) T.1 D) a D0 = D1 at f4 f5 ih2
        have e0 : M1 156 0 = nI T.1 := by rw [f1 156 (by decide) (by decide) (by decide)]; exact n0
        refine xs_iload eX10_settles_118 rfl ?_
        refine xs_aload eX10_settles_119 rfl ?_
        refine xs_getI eX10_settles_120 (by assumption) (by rfl) ?_
        refine xs_eq1 e0 ?_
        refine xs_N_ge eX10_settles_123 (by omega) (by omega) (fun h => absurd h (by omega)) (fun h123 => ?_)
        refine xs_K eX10_settles_126 ?_
        refine xs_istore eX10_settles_127 (Nat.le_of_ble_eq_true rfl) rfl rfl ?_
        refine dn (P := fun b => ∀ (M1 : xMem), (∀ a, a ≠ 157 → a ≠ 158 → a ≠ 159 → M1 a = M0 a) → (∀ v, v < 7 → M1 157 v = M 160 v) → (∀ j, j < 49 → M1 158 j = M 161 j) → rFm M1 T.1 (iterN (rlx k a) b D1) → bJ T.1 k (iterN (rlx k a) b D1) → xW G mX10_settles (d + 1) 0 0 Q 128 [some (.ref (G.1 + 156)), some (.int (nI k)), some (.int (nI a)), some (.int (nI b))] [] SF M1) T.1 ?_ ?_ 0 (by omega) M1 f1 f2 f3 f4 f5
        · intro M1 f1 f2 f3 f4 f5
          have e0 : M1 156 0 = nI T.1 := by rw [f1 156 (by decide) (by decide) (by decide)]; exact n0
          refine xs_iload eX10_settles_128 rfl ?_
          refine xs_aload eX10_settles_129 rfl ?_
          refine xs_getI eX10_settles_130 (by assumption) (by rfl) ?_
          refine xs_eq1 e0 ?_
          refine xs_N_ge eX10_settles_133 (by omega) (by omega) (fun h133 => ?_) (fun h => absurd h (by omega))
          refine xs_inc1 eX10_settles_190 rfl rfl rfl ?_
          refine xs_goto eX10_settles_193 ?_
          exact ih2 M1 _ f1 f2 f3 f4 f5
        · intro b hb ih3 M1 f1 f2 f3 f4 f5
          have e0 : M1 156 0 = nI T.1 := by rw [f1 156 (by decide) (by decide) (by decide)]; exact n0
          have r4 := rFm_rlx h7 hk ha hb f5 f4
          have r5 := bJ_rlx h7 hk ha hb f5
          have ih4 := ih3 (up2 M1 159 (7 * a + b) (nI (mnA (fo (iterN (rlx k a) b D1 a b)) (fo (iterN (rlx k a) b D1 a k) + fo (iterN (rlx k a) b D1 k b))))) (fun c c1 c2 c3 => by rw [up2_ne c3]; exact f1 c c1 c2 c3) (fun v hv => by rw [up2_ne (by decide)]; exact f2 v hv) (fun j hj => by rw [up2_ne (by decide)]; exact f3 j hj) r4 r5
          clear ih3 ih2 ih'
          have hp : 2 ^ (k + 1) = 2 * 2 ^ k := by rw [Nat.pow_succ]; omega
          have hp2 : 2 ^ k ≤ 64 := by have := pw_mono (show k ≤ 6 by omega); exact this
          have g1 := f4 a b ha hb
          have g2 := f4 a k ha hk
          have g3 := f4 k b hk hb
          have b1 := fo_le (x := iterN (rlx k a) b D1 a b) (by have := f5.2.2 a b ha hb; omega)
          have b2 := fo_le (x := iterN (rlx k a) b D1 a k) (by have := (f5.2.1 a ha).1; omega)
          have b3 := fo_le (x := iterN (rlx k a) b D1 k b) (by have := (f5.2.1 b hb).2; omega)
          refine xs_iload eX10_settles_128 rfl ?_
          refine xs_aload eX10_settles_129 rfl ?_
          refine xs_getI eX10_settles_130 (by assumption) (by rfl) ?_
          refine xs_eq1 e0 ?_
          refine xs_N_ge eX10_settles_133 (by omega) (by omega) (fun h => absurd h (by omega)) (fun h133 => ?_)
          refine xs_aload eX10_settles_136 rfl ?_
          refine xs_getR eX10_settles_137 (by assumption) (by rfl) ?_
          refine xs_K eX10_settles_140 ?_
          refine xs_iload eX10_settles_142 rfl ?_
          refine xs_imul eX10_settles_143 ?_
          refine xs_eq1 (pk_mul 7 a) ?_
          refine xs_iload eX10_settles_144 rfl ?_
          refine xs_iadd eX10_settles_145 ?_
          refine xs_eq1 (nI_add _ b) ?_
          refine xs_aload eX10_settles_146 rfl ?_
          refine xs_getR eX10_settles_147 (by assumption) (by rfl) ?_
          refine xs_K eX10_settles_150 ?_
          refine xs_iload eX10_settles_152 rfl ?_
          refine xs_imul eX10_settles_153 ?_
          refine xs_eq1 (pk_mul 7 a) ?_
          refine xs_iload eX10_settles_154 rfl ?_
          refine xs_iadd eX10_settles_155 ?_
          refine xs_eq1 (nI_add _ b) ?_
          refine xs_iald eX10_settles_156 (by assumption) (by omega) (by decide) ?_
          refine xs_eq1 g1 ?_
          refine xs_aload eX10_settles_157 rfl ?_
          refine xs_getR eX10_settles_158 (by assumption) (by rfl) ?_
          refine xs_K eX10_settles_161 ?_
          refine xs_iload eX10_settles_163 rfl ?_
          refine xs_imul eX10_settles_164 ?_
          refine xs_eq1 (pk_mul 7 a) ?_
          refine xs_iload eX10_settles_165 rfl ?_
          refine xs_iadd eX10_settles_166 ?_
          refine xs_eq1 (nI_add _ k) ?_
          refine xs_iald eX10_settles_167 (by assumption) (by omega) (by decide) ?_
          refine xs_eq1 g2 ?_
          refine xs_aload eX10_settles_168 rfl ?_
          refine xs_getR eX10_settles_169 (by assumption) (by rfl) ?_
          refine xs_K eX10_settles_172 ?_
          refine xs_iload eX10_settles_174 rfl ?_
          refine xs_imul eX10_settles_175 ?_
          refine xs_eq1 (pk_mul 7 k) ?_
          refine xs_iload eX10_settles_176 rfl ?_
          refine xs_iadd eX10_settles_177 ?_
          refine xs_eq1 (nI_add _ b) ?_
          refine xs_iald eX10_settles_178 (by assumption) (by omega) (by decide) ?_
          refine xs_eq1 g3 ?_
          refine xs_iadd eX10_settles_179 ?_
          refine xs_eq1 (nI_add _ _) ?_
          refine xs_callS2i eX10_settles_180 (Nat.le_of_ble_eq_true rfl) (c_X10_smaller (by omega) (by omega) ⟨_, rfl, ?_⟩)
          refine xs_iast eX10_settles_183 (by assumption) (by omega) (by decide) ?_
          refine xs_inc1 eX10_settles_184 rfl rfl rfl ?_
          refine xs_goto eX10_settles_187 ?_
          exact ih4
  refine dn (P := fun i => ∀ (M1 : xMem), (∀ a, a ≠ 157 → M1 a = M0 a) → (∀ v, v < i → M1 157 v = M 160 v) → xW G mX10_settles (d + 1) 0 0 Q 18 [some (.ref (G.1 + 156)), some (.int (nI i)), none, none] [] SF M1) 7 ?_ ?_ 0 (by omega) M0 (fun _ _ => rfl) (fun v hv => by omega)
  · intro M1 f1 f2
    refine xs_iload eX10_settles_18 rfl ?_
    refine xs_K eX10_settles_19 ?_
    refine xs_N_ge eX10_settles_21 (by omega) (by omega) (fun h21 => ?_) (fun h => absurd h (by omega))
    refine xs_K eX10_settles_42 ?_
    refine xs_istore eX10_settles_43 (Nat.le_of_ble_eq_true rfl) rfl rfl ?_
    refine dn (P := fun i => ∀ (M1 : xMem), (∀ a, a ≠ 157 → a ≠ 158 → a ≠ 159 → M1 a = M0 a) → (∀ v, v < 7 → M1 157 v = M 160 v) → (∀ j, j < i → M1 158 j = M 161 j ∧ M1 159 j = nI (fo (d0W T.2.2.2.2.2.2.2 (j / 7) (j % 7)))) → xW G mX10_settles (d + 1) 0 0 Q 44 [some (.ref (G.1 + 156)), some (.int (nI i)), none, none] [] SF M1) 49 ?_ ?_ 0 (by omega) M1 (fun a a1 _ _ => f1 a a1) f2 (fun v hv => by omega)
    · intro M1 f1 f2 f3
      have F := FW 0 (by omega) M1 none none f1 f2 (fun j hj => (f3 j hj).1) (fun a b ha hb => by have := (f3 (7 * a + b) (by omega)).2; rw [show (7 * a + b) / 7 = a by omega, show (7 * a + b) % 7 = b by omega] at this; exact this) (fun _ => bJ_0 ho)
      refine xs_iload eX10_settles_44 rfl ?_
      refine xs_K eX10_settles_45 ?_
      refine xs_N_ge eX10_settles_47 (by omega) (by omega) (fun h47 => ?_) (fun h => absurd h (by omega))
      refine xs_K eX10_settles_106 ?_
      refine xs_istore eX10_settles_107 (Nat.le_of_ble_eq_true rfl) rfl rfl ?_
      exact F
    · intro i hi ih M1 f1 f2 f3
      have hW : M 161 i = nI (T.2.2.2.2.2.2.2 (i / 7) (i % 7)) := by have := t5 (i / 7) (i % 7) (by omega) (by omega); rw [show 7 * (i / 7) + i % 7 = i by omega] at this; exact this
      have hw20 := (h8 (i / 7) (i % 7)).1
      have e1 : M1 161 i = nI (T.2.2.2.2.2.2.2 (i / 7) (i % 7)) := by rw [f1 161 (by decide) (by decide) (by decide), m0 161 (by decide)]; exact hW
      have e2 : up2 M1 158 i (nI (T.2.2.2.2.2.2.2 (i / 7) (i % 7))) 161 i = nI (T.2.2.2.2.2.2.2 (i / 7) (i % 7)) := by rw [up2_ne (by decide)]; exact e1
      have KI : ∀ y : Nat, y = fo (d0W T.2.2.2.2.2.2.2 (i / 7) (i % 7)) → xW G mX10_settles (d + 1) 0 0 Q 44 [some (.ref (G.1 + 156)), some (.int (nI (i + 1))), none, none] [] SF (up2 (up2 M1 158 i (nI (T.2.2.2.2.2.2.2 (i / 7) (i % 7)))) 159 i (nI y)) := by
        intro y hy
        refine ih _ (fun a a1 a2 a3 => by rw [up2_ne a3, up2_ne a2]; exact f1 a a1 a2 a3) (fun v hv => by rw [up2_ne (by decide), up2_ne (by decide)]; exact f2 v hv) (fun j hj => ?_)
        rw [up2_ne (by decide), up2_x, up2_x, up2_ne (by decide)]
        by_cases e : j = i
        · rw [if_pos e, if_pos e, e, hW, hy]
          exact ⟨rfl, rfl⟩
        · rw [if_neg e, if_neg e]
          exact f3 j (by omega)
      clear ih
      refine xs_iload eX10_settles_44 rfl ?_
      refine xs_K eX10_settles_45 ?_
      refine xs_N_ge eX10_settles_47 (by omega) (by omega) (fun h => absurd h (by omega)) (fun h47 => ?_)
      refine xs_aload eX10_settles_50 rfl ?_
      refine xs_getR eX10_settles_51 (by assumption) (by rfl) ?_
      refine xs_iload eX10_settles_54 rfl ?_
      refine xs_aload eX10_settles_55 rfl ?_
      refine xs_getR eX10_settles_56 (by assumption) (by rfl) ?_
      refine xs_iload eX10_settles_59 rfl ?_
      refine xs_iald eX10_settles_60 (by assumption) (by omega) (by decide) ?_
      refine xs_eq1 e1 ?_
      refine xs_iast eX10_settles_61 (by assumption) (by omega) (by decide) ?_
      refine xs_aload eX10_settles_62 rfl ?_
      refine xs_getR eX10_settles_63 (by assumption) (by rfl) ?_
      refine xs_iload eX10_settles_66 rfl ?_
      refine xs_iload eX10_settles_67 rfl ?_
      refine xs_K eX10_settles_68 ?_
      refine xs_irem eX10_settles_70 (by decide) ?_
      refine xs_eq1 (pk_rem (by omega) (by decide) (by decide)) ?_
      refine xs_N0_ne eX10_settles_71 (by omega) (fun h71 => ?_) (fun h71 => ?_)
      · refine xs_aload eX10_settles_78 rfl ?_
        refine xs_getR eX10_settles_79 (by assumption) (by rfl) ?_
        refine xs_iload eX10_settles_82 rfl ?_
        refine xs_iald eX10_settles_83 (by assumption) (by omega) (by decide) ?_
        refine xs_eq1 e2 ?_
        refine xs_N0_ne eX10_settles_84 (by omega) (fun h84 => ?_) (fun h84 => ?_)
        · refine xs_aload eX10_settles_93 rfl ?_
          refine xs_getR eX10_settles_94 (by assumption) (by rfl) ?_
          refine xs_iload eX10_settles_97 rfl ?_
          refine xs_iald eX10_settles_98 (by assumption) (by omega) (by decide) ?_
          refine xs_eq1 e2 ?_
          refine xs_iast eX10_settles_99 (by assumption) (by omega) (by decide) ?_
          refine xs_inc1 eX10_settles_100 rfl rfl rfl ?_
          refine xs_goto eX10_settles_103 ?_
          exact KI _ (by unfold d0W; rw [if_neg (by omega), if_neg h84, fo, if_neg (by omega)])
        · refine xs_K eX10_settles_87 ?_
          refine xs_goto eX10_settles_90 ?_
          refine xs_iast eX10_settles_99 (by assumption) (by omega) (by decide) ?_
          refine xs_inc1 eX10_settles_100 rfl rfl rfl ?_
          refine xs_goto eX10_settles_103 ?_
          exact KI 9999 (by unfold d0W; rw [if_neg (by omega), if_pos h84]; rfl)
      · refine xs_K eX10_settles_74 ?_
        refine xs_goto eX10_settles_75 ?_
        refine xs_iast eX10_settles_99 (by assumption) (by omega) (by decide) ?_
        refine xs_inc1 eX10_settles_100 rfl rfl rfl ?_
        refine xs_goto eX10_settles_103 ?_
        exact KI 0 (by unfold d0W; rw [if_pos (by omega)]; rfl)
  · intro i hi ih M1 f1 f2
    have e1 : M1 160 i = M 160 i := by rw [f1 160 (by decide), m0 160 (by decide)]
    refine xs_iload eX10_settles_18 rfl ?_
    refine xs_K eX10_settles_19 ?_
    refine xs_N_ge eX10_settles_21 (by omega) (by omega) (fun h => absurd h (by omega)) (fun h21 => ?_)
    refine xs_aload eX10_settles_24 rfl ?_
    refine xs_getR eX10_settles_25 (by assumption) (by rfl) ?_
    refine xs_iload eX10_settles_28 rfl ?_
    refine xs_aload eX10_settles_29 rfl ?_
    refine xs_getR eX10_settles_30 (by assumption) (by rfl) ?_
    refine xs_iload eX10_settles_33 rfl ?_
    refine xs_iald eX10_settles_34 (by assumption) (by omega) (by decide) ?_
    refine xs_eq1 e1 ?_
    refine xs_iast eX10_settles_35 (by assumption) (by omega) (by decide) ?_
    refine xs_inc1 eX10_settles_36 rfl rfl rfl ?_
    refine xs_goto eX10_settles_39 ?_
    refine ih _ (fun a a1 => by rw [up2_ne a1]; exact f1 a a1) (fun v hv => ?_)
    rw [up2_x]
    split
    · next e => rw [e]
    · exact f2 v (by omega)
theorem c_X10_lay (hR : repM w M) (hok : okX N w) (hQ : ∀ M1, loK M M1 → repM (spLay w).2 M1 → Q (some (.int (spLay w).1)) SF M1) : xC G mX10_lay (d + 9) 0 0 [.ref (G.1 + 156)] SF M Q := by
  have s0 := sh156
  have ho := okT_prT hok
  have h7 := ho.1.1
  have h3 := ho.1.2.1
  have no9 : ∀ {M1 : xMem}, loK M M1 → repM w M1 → ¬ ((prs w).2 = none ∧ (prT w).1 ≠ 0 ∧ (prT w).2.1 ≠ 0) → Q (some (.int (-2))) SF M1 := fun {M1} r1 r2 h => by
    have h9 := hQ M1
    unfold spLay at h9
    rw [if_neg h] at h9
    exact h9 r1 r2
  have yes9 : ∀ {M1 M2 : xMem}, rdK M M1 → stK M1 M2 → rTm M1 (prT w) → rLm M2 (ldT (prT w)) → (prs w).2 = none → (prT w).1 ≠ 0 → (prT w).2.1 ≠ 0 → Q (some (.int (nI (prT w).1))) SF (up2 (up2 (up2 (cpS M2 242 0) 156 10 (nI 0)) 156 11 (nI 0)) 156 17 (nI 0)) := fun {M1 M2} k1 k2 hT hL e1 e2 e3 => by
    have h9 := hQ (up2 (up2 (up2 (cpS M2 242 0) 156 10 (nI 0)) 156 11 (nI 0)) 156 17 (nI 0))
    unfold spLay at h9
    rw [if_pos ⟨e1, e2, e3⟩] at h9
    have ck := cpS_k (M := M2) (fr := 242) (to := 0)
    have f1 : cpS M2 242 0 156 = M2 156 := ck.1 156 (by decide)
    have cb : rS (cpS M2 242 0) 0 (bkT (prT w)) := rS_cp (rS_keep hT.2.2.2.1 (fun j _ _ => by rw [k2.1 162 (by decide) (by decide) (by decide) (by decide)]))
    have e0 : ∀ a, a ≠ 156 → up2 (up2 (up2 (cpS M2 242 0) 156 10 (nI 0)) 156 11 (nI 0)) 156 17 (nI 0) a = cpS M2 242 0 a := fun a ha => by rw [up2_ne ha, up2_ne ha, up2_ne ha]
    have ef : ∀ j, j ≠ 10 → j ≠ 11 → j ≠ 17 → up2 (up2 (up2 (cpS M2 242 0) 156 10 (nI 0)) 156 11 (nI 0)) 156 17 (nI 0) 156 j = M2 156 j := fun j j1 j2 j3 => by rw [up2_x, if_neg j3, up2_x, if_neg j2, up2_x, if_neg j1, f1]
    refine h9 (fun a ha => by rw [e0 a (by omega), ck.1 a (by omega), k2.1 a (by omega) (by omega) (by omega) (by omega)]; exact rdK_lo k1 a ha) ⟨⟨?_, fun j hj => ?_⟩, ?_, ?_, ⟨?_, fun i k hi => by simp at hi⟩, ⟨?_, fun i k hi => by simp at hi⟩, ⟨?_, fun i k hi => by simp at hi⟩⟩
    · rw [ef 12 (by decide) (by decide) (by decide), k2.2 12 (by decide) (by decide), k1.2.2 12 (by decide) (by decide) (by decide) (by decide) (by decide)]; exact hR.1.1
    · rw [e0 163 (by decide), ck.1 163 (by decide), k2.1 163 (by decide) (by decide) (by decide) (by decide), k1.1 163 (by decide) (by decide) (by decide) (by decide)]; exact hR.1.2 j hj
    · exact rLm_keep hL (ef 0 (by decide) (by decide) (by decide)) (ef 2 (by decide) (by decide) (by decide)) (by rw [e0 157 (by decide), ck.1 157 (by decide)]) (by rw [e0 158 (by decide), ck.1 158 (by decide)]) (by rw [e0 159 (by decide), ck.1 159 (by decide)])
    · exact rS_keep cb (fun j _ _ => by rw [e0 162 (by decide)])
    · rw [up2_x, if_neg (by decide), up2_x, if_neg (by decide), up2_x, if_pos rfl]; rfl
    · rw [up2_x, if_neg (by decide), up2_x, if_pos rfl]; rfl
    · rw [up2_x, if_pos rfl]; rfl
  refine xC_intro [some (.ref (G.1 + 156))] rfl (by decide) (Nat.le_of_ble_eq_true rfl) ?_
  refine xs_aload eX10_lay_0 rfl ?_
  refine xs_callV0i eX10_lay_1 (by assumption) (Nat.le_of_ble_eq_true rfl) (c_X10_reads hR hok (fun M1 k1 k2 k3 => ⟨_, rfl, ?_⟩))
  have r1 := rdK_lo k1
  have r2 := repM_rd hR hok k1
  refine xs_ifeqB eX10_lay_4 (fun h4 => ?_) (fun h4 => ?_)
  · refine xs_K eX10_lay_21 ?_
    exact xs_iretI eX10_lay_23 rfl (no9 r1 r2 (fun h => by rw [h.1] at h4; cases h4))
  · have hno := Option.isNone_iff_eq_none.mp h4
    have hT := k2 hno
    refine xs_aload eX10_lay_7 rfl ?_
    refine xs_getI eX10_lay_8 (by assumption) (by rfl) ?_
    refine xs_eq1 hT.1 ?_
    refine xs_N0_eq eX10_lay_11 (by omega) (fun h11 => ?_) (fun h11 => ?_)
    · refine xs_K eX10_lay_21 ?_
      exact xs_iretI eX10_lay_23 rfl (no9 r1 r2 (fun h => h.2.1 h11))
    · refine xs_aload eX10_lay_14 rfl ?_
      refine xs_getI eX10_lay_15 (by assumption) (by rfl) ?_
      refine xs_eq1 hT.2.1 ?_
      refine xs_N0_ne eX10_lay_18 (by omega) (fun h18 => ?_) (fun h18 => ?_)
      · refine xs_aload eX10_lay_24 rfl ?_
        refine xs_callV0v eX10_lay_25 (by assumption) (Nat.le_of_ble_eq_true rfl) (c_X10_settles hT ho.1 (fun M2 k4 k5 => ⟨rfl, ?_⟩))
        refine xs_aload eX10_lay_28 rfl ?_
        refine xs_K eX10_lay_29 ?_
        refine xs_K eX10_lay_32 ?_
        refine xs_callV2v eX10_lay_33 (by assumption) (Nat.le_of_ble_eq_true rfl) (c_X10_copied (by omega) (by omega) (by omega) ⟨rfl, ?_⟩)
        refine xs_aload eX10_lay_36 rfl ?_
        refine xs_K eX10_lay_37 ?_
        refine xs_putI eX10_lay_38 (by assumption) (by rfl) rfl rfl ?_
        refine xs_aload eX10_lay_41 rfl ?_
        refine xs_K eX10_lay_42 ?_
        refine xs_putI eX10_lay_43 (by assumption) (by rfl) rfl rfl ?_
        refine xs_aload eX10_lay_46 rfl ?_
        refine xs_K eX10_lay_47 ?_
        refine xs_putI eX10_lay_48 (by assumption) (by rfl) rfl rfl ?_
        refine xs_aload eX10_lay_51 rfl ?_
        refine xs_getI eX10_lay_52 (by assumption) (by rfl) ?_
        refine xs_eq1 (z := nI (prT w).1) (by rw [up2_x, if_neg (by decide), up2_x, if_neg (by decide), up2_x, if_neg (by decide), cpS_k.1 156 (by decide)]; exact k5.1) ?_
        exact xs_iretI eX10_lay_55 rfl (yes9 k1 k4 hT k5 hno h11 h18)
      · refine xs_K eX10_lay_21 ?_
        exact xs_iretI eX10_lay_23 rfl (no9 r1 r2 (fun h => h.2.2 h18))
end ST

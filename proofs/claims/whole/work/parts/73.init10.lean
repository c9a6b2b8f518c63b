/-! THE REFERENCE's CONSTRUCTOR -/
def MZ : xMem := (up2 (up2 (up2 (up2 (up2 (up2 (up2 (up2 (up2 (up2 (up2 (up2 (up2 (up2 (up2 (up2 (up2 (up2 (up2 (up2 (up2 (up2 (up2 (up2 (up2 (up2 (up2 (up2 (up2 (up2 (up2 (up2 (up2 (up2 (up2 (up2 (fun _ _ => 0) 160 0 (nI 0)) 162 (0 + 0) (nI 12)) 156 5 (nI (0 + 1))) 160 1 (nI 1)) 162 (0 + 1) (nI 20)) 156 5 (nI (1 + 1))) 160 2 (nI 2)) 162 (0 + 2) (nI 9)) 156 5 (nI (2 + 1))) 160 3 (nI 3)) 162 (0 + 3) (nI 15)) 156 5 (nI (3 + 1))) 160 4 (nI 4)) 162 (0 + 4) (nI 18)) 156 5 (nI (4 + 1))) 160 5 (nI 1)) 162 (0 + 5) (nI 7)) 156 5 (nI (5 + 1))) 161 (7 * 0 + 1) (nI 2)) 161 (7 * 1 + 0) (nI 2)) 161 (7 * 1 + 2) (nI 3)) 161 (7 * 2 + 1) (nI 3)) 161 (7 * 2 + 3) (nI 1)) 161 (7 * 3 + 2) (nI 1)) 161 (7 * 3 + 4) (nI 2)) 161 (7 * 4 + 3) (nI 2)) 161 (7 * 4 + 5) (nI 4)) 161 (7 * 5 + 4) (nI 4)) 161 (7 * 0 + 5) (nI 6)) 161 (7 * 5 + 0) (nI 6)) 161 (7 * 1 + 4) (nI 3)) 161 (7 * 4 + 1) (nI 3)) 162 (0 + 16 + 0) (nI 0)) 156 7 (nI (0 + 1))) 162 (0 + 16 + 1) (nI 3)) 156 7 (nI (1 + 1)))
def TB : aT := buildT it0 t0A
/-- what settles reads: the land told, without oxen and starts -/
def T9 : aT := (T0.1, T0.2.1, T0.2.2.1, fun _ => 0, fun _ => 0, T0.2.2.2.2.2)
theorem okT_9 : okT T9 := by
  obtain ⟨h1, h2, h3, h4, h5, h6⟩ := (okT_prT okX_w0).1
  exact ⟨h1, h2, h3, fun _ => Nat.zero_le _, fun _ => Or.inl rfl, h6⟩
theorem ldT_9 : ldT T9 = ldT T0 := rfl
theorem mz1 : MZ 156 5 = nI 6 ∧ MZ 156 7 = nI 2 ∧ MZ 156 10 = nI 0 ∧ MZ 156 11 = nI 0 ∧ MZ 156 12 = nI 0 ∧ MZ 156 17 = nI 0 := by decide +kernel
theorem mz2 : ∀ v, v < 6 → MZ 160 v = nI (TB.2.2.1 v) := by decide +kernel
theorem mz3 : ∀ a, a < 7 → ∀ b, b < 7 → MZ 161 (7 * a + b) = nI (TB.2.2.2.2.2.2.2 a b) := by decide +kernel
theorem mz4 : ∀ j, j < 22 → MZ 162 (242 + j) = nI 0 := by decide +kernel
theorem mz5 : ∀ v, v < 7 → MZ 162 v = nI (TB.2.2.2.1 v) ∧ MZ 162 (7 + v) = nI 0 := by decide +kernel
theorem mz6 : ∀ p, p < 3 → MZ 162 (16 + p) = nI (TB.2.2.2.2.1 p) ∧ MZ 162 (19 + p) = nI 0 := by decide +kernel
theorem mz7 : MZ 162 14 = nI 0 ∧ MZ 162 15 = nI 0 := by decide +kernel
theorem T0_B : T0 = TB := T0_eq
section CR
variable {G : xGl} {d k n : Nat} {Q : Option Value → List xSh → xMem → Prop} {M : xMem}
theorem rTm_9 (h : ∀ a, 156 ≤ a → M a = MZ a) : rTm M T9 := by
  have e156 := h 156 (by decide)
  have e162 := h 162 (by decide)
  refine ⟨by rw [e156]; show _ = nI T0.1; rw [T0_n.1]; exact mz1.1, by rw [e156]; show _ = nI T0.2.1; rw [T0_n.2]; exact mz1.2.1, fun v hv => ?_, ⟨?_, ?_, fun v hv => ⟨?_, ?_⟩, fun p hp => ⟨?_, ?_⟩⟩, fun a b ha hb => ?_⟩
  · have hv : v < T0.1 := hv
    rw [T0_n.1] at hv
    rw [h 160 (by decide)]
    show _ = nI (T0.2.2.1 v)
    rw [T0_B]
    exact mz2 v hv
  · rw [e162]; exact mz4 14 (by decide)
  · rw [e162]; exact mz4 15 (by decide)
  · rw [e162]; exact mz4 v (by omega)
  · rw [e162, show 242 + 7 + v = 242 + (7 + v) by omega]; exact mz4 (7 + v) (by omega)
  · rw [e162, show 242 + 16 + p = 242 + (16 + p) by omega]; exact mz4 (16 + p) (by omega)
  · rw [e162, show 242 + 19 + p = 242 + (19 + p) by omega]; exact mz4 (19 + p) (by omega)
  · rw [h 161 (by decide)]
    show _ = nI (T0.2.2.2.2.2.2.2 a b)
    rw [T0_B]
    exact mz3 a ha b hb
theorem repM_9 {M2 : xMem} (h : ∀ a, 156 ≤ a → M a = MZ a) (k1 : stK M M2) (k2 : rLm M2 (ldT T9)) : repM wS M2 := by
  have e156 : ∀ j, j ≠ 0 → j ≠ 2 → M2 156 j = MZ 156 j := fun j j1 j2 => by rw [k1.2 j j1 j2, h 156 (by decide)]
  have e162 : M2 162 = MZ 162 := by rw [k1.1 162 (by decide) (by decide) (by decide) (by decide), h 162 (by decide)]
  refine ⟨⟨(e156 12 (by decide) (by decide)).trans mz1.2.2.2.2.1, fun j hj => by cases hj⟩, k2, ⟨by rw [e162]; exact mz7.1, by rw [e162]; exact mz7.2, fun v hv => ⟨?_, ?_⟩, fun p hp => ⟨?_, ?_⟩⟩, ⟨(e156 10 (by decide) (by decide)).trans mz1.2.2.1, fun i k hi => by cases hi⟩, ⟨(e156 11 (by decide) (by decide)).trans mz1.2.2.2.1, fun i k hi => by cases hi⟩, ⟨(e156 17 (by decide) (by decide)).trans mz1.2.2.2.2.2, fun i k hi => by cases hi⟩⟩
  · rw [e162, Nat.zero_add]
    show _ = nI (T0.2.2.2.1 v)
    rw [T0_B]
    exact (mz5 v hv).1
  · rw [e162, show 0 + 7 + v = 7 + v by omega]; exact (mz5 v hv).2
  · rw [e162, show 0 + 16 + p = 16 + p by omega]
    show _ = nI (T0.2.2.2.2.1 p)
    rw [T0_B]
    exact (mz6 p hp).1
  · rw [e162, show 0 + 19 + p = 19 + p by omega]; exact (mz6 p hp).2
theorem init10_tail (hz : ∀ a, 156 ≤ a → ∀ j, M a j = 0) (hQ : ∀ M1, loK M M1 → repM wS M1 → Q none SF M1) : xW G mX10_init (d + 3) k n Q 112 [some (.ref (G.1 + 156)), none] [] SF M := by
  have s0 := sh156
  have s1 := sh161
  have hz5 : M 156 5 = nI 0 := hz 156 (by decide) 5
  have hz7 : M 156 7 = nI 0 := hz 156 (by decide) 7
  refine xs_K eX10_init_112 ?_
  refine xs_istore eX10_init_113 (Nat.le_of_ble_eq_true rfl) rfl rfl ?_
  refine dn (P := fun i => xW G mX10_init (d + 3) k n Q 114 [some (.ref (G.1 + 156)), some (.int (nI i))] [] SF M) 49 ?_ ?_ 0 (by omega)
  · have hMM : ∀ a, 156 ≤ a → (up2 (up2 (up2 (up2 (up2 (up2 (up2 (up2 (up2 (up2 (up2 (up2 (up2 (up2 (up2 (up2 (up2 (up2 (up2 (up2 (up2 (up2 (up2 (up2 (up2 (up2 (up2 (up2 (up2 (up2 (up2 (up2 (up2 (up2 (up2 (up2 M 160 0 (nI 0)) 162 (0 + 0) (nI 12)) 156 5 (nI (0 + 1))) 160 1 (nI 1)) 162 (0 + 1) (nI 20)) 156 5 (nI (1 + 1))) 160 2 (nI 2)) 162 (0 + 2) (nI 9)) 156 5 (nI (2 + 1))) 160 3 (nI 3)) 162 (0 + 3) (nI 15)) 156 5 (nI (3 + 1))) 160 4 (nI 4)) 162 (0 + 4) (nI 18)) 156 5 (nI (4 + 1))) 160 5 (nI 1)) 162 (0 + 5) (nI 7)) 156 5 (nI (5 + 1))) 161 (7 * 0 + 1) (nI 2)) 161 (7 * 1 + 0) (nI 2)) 161 (7 * 1 + 2) (nI 3)) 161 (7 * 2 + 1) (nI 3)) 161 (7 * 2 + 3) (nI 1)) 161 (7 * 3 + 2) (nI 1)) 161 (7 * 3 + 4) (nI 2)) 161 (7 * 4 + 3) (nI 2)) 161 (7 * 4 + 5) (nI 4)) 161 (7 * 5 + 4) (nI 4)) 161 (7 * 0 + 5) (nI 6)) 161 (7 * 5 + 0) (nI 6)) 161 (7 * 1 + 4) (nI 3)) 161 (7 * 4 + 1) (nI 3)) 162 (0 + 16 + 0) (nI 0)) 156 7 (nI (0 + 1))) 162 (0 + 16 + 1) (nI 3)) 156 7 (nI (1 + 1))) a = MZ a := fun a ha => by
      funext j
      simp only [MZ, up2, hz a ha j]
    have hlo : ∀ a, a < 156 → (up2 (up2 (up2 (up2 (up2 (up2 (up2 (up2 (up2 (up2 (up2 (up2 (up2 (up2 (up2 (up2 (up2 (up2 (up2 (up2 (up2 (up2 (up2 (up2 (up2 (up2 (up2 (up2 (up2 (up2 (up2 (up2 (up2 (up2 (up2 (up2 M 160 0 (nI 0)) 162 (0 + 0) (nI 12)) 156 5 (nI (0 + 1))) 160 1 (nI 1)) 162 (0 + 1) (nI 20)) 156 5 (nI (1 + 1))) 160 2 (nI 2)) 162 (0 + 2) (nI 9)) 156 5 (nI (2 + 1))) 160 3 (nI 3)) 162 (0 + 3) (nI 15)) 156 5 (nI (3 + 1))) 160 4 (nI 4)) 162 (0 + 4) (nI 18)) 156 5 (nI (4 + 1))) 160 5 (nI 1)) 162 (0 + 5) (nI 7)) 156 5 (nI (5 + 1))) 161 (7 * 0 + 1) (nI 2)) 161 (7 * 1 + 0) (nI 2)) 161 (7 * 1 + 2) (nI 3)) 161 (7 * 2 + 1) (nI 3)) 161 (7 * 2 + 3) (nI 1)) 161 (7 * 3 + 2) (nI 1)) 161 (7 * 3 + 4) (nI 2)) 161 (7 * 4 + 3) (nI 2)) 161 (7 * 4 + 5) (nI 4)) 161 (7 * 5 + 4) (nI 4)) 161 (7 * 0 + 5) (nI 6)) 161 (7 * 5 + 0) (nI 6)) 161 (7 * 1 + 4) (nI 3)) 161 (7 * 4 + 1) (nI 3)) 162 (0 + 16 + 0) (nI 0)) 156 7 (nI (0 + 1))) 162 (0 + 16 + 1) (nI 3)) 156 7 (nI (1 + 1))) a = M a := fun a ha => by
      funext j
      simp only [up2]
      repeat rw [if_neg (by omega)]
    have hT := rTm_9 hMM
    refine xs_iload eX10_init_114 rfl ?_
    refine xs_K eX10_init_115 ?_
    refine xs_N_ge eX10_init_117 (by omega) (by omega) (fun h117 => ?_) (fun h => absurd h (by omega))
    refine xs_aload eX10_init_133 rfl ?_
    refine xs_K eX10_init_134 ?_
    refine xs_K eX10_init_135 ?_
    refine xs_K eX10_init_136 ?_
    refine xs_callV3v eX10_init_138 (by assumption) (Nat.le_of_ble_eq_true rfl) (c_X10_lives (base := 0) (n := 0) hz5 (by decide) (by decide) ⟨rfl, ?_⟩)
    refine xs_aload eX10_init_141 rfl ?_
    refine xs_K eX10_init_142 ?_
    refine xs_K eX10_init_143 ?_
    refine xs_K eX10_init_144 ?_
    refine xs_callV3v eX10_init_146 (by assumption) (Nat.le_of_ble_eq_true rfl) (c_X10_lives (base := 0) (n := 1) (by rw [up2_x, if_pos rfl]) (by decide) (by decide) ⟨rfl, ?_⟩)
    refine xs_aload eX10_init_149 rfl ?_
    refine xs_K eX10_init_150 ?_
    refine xs_K eX10_init_151 ?_
    refine xs_K eX10_init_152 ?_
    refine xs_callV3v eX10_init_154 (by assumption) (Nat.le_of_ble_eq_true rfl) (c_X10_lives (base := 0) (n := 2) (by rw [up2_x, if_pos rfl]) (by decide) (by decide) ⟨rfl, ?_⟩)
    refine xs_aload eX10_init_157 rfl ?_
    refine xs_K eX10_init_158 ?_
    refine xs_K eX10_init_159 ?_
    refine xs_K eX10_init_160 ?_
    refine xs_callV3v eX10_init_162 (by assumption) (Nat.le_of_ble_eq_true rfl) (c_X10_lives (base := 0) (n := 3) (by rw [up2_x, if_pos rfl]) (by decide) (by decide) ⟨rfl, ?_⟩)
    refine xs_aload eX10_init_165 rfl ?_
    refine xs_K eX10_init_166 ?_
    refine xs_K eX10_init_167 ?_
    refine xs_K eX10_init_168 ?_
    refine xs_callV3v eX10_init_170 (by assumption) (Nat.le_of_ble_eq_true rfl) (c_X10_lives (base := 0) (n := 4) (by rw [up2_x, if_pos rfl]) (by decide) (by decide) ⟨rfl, ?_⟩)
    refine xs_aload eX10_init_173 rfl ?_
    refine xs_K eX10_init_174 ?_
    refine xs_K eX10_init_175 ?_
    refine xs_K eX10_init_176 ?_
    refine xs_callV3v eX10_init_178 (by assumption) (Nat.le_of_ble_eq_true rfl) (c_X10_lives (base := 0) (n := 5) (by rw [up2_x, if_pos rfl]) (by decide) (by decide) ⟨rfl, ?_⟩)
    refine xs_aload eX10_init_181 rfl ?_
    refine xs_K eX10_init_182 ?_
    refine xs_K eX10_init_183 ?_
    refine xs_K eX10_init_184 ?_
    refine xs_callV3v eX10_init_185 (by assumption) (Nat.le_of_ble_eq_true rfl) (c_X10_joins (a := 0) (b := 1) (by decide) (by decide) ⟨rfl, ?_⟩)
    refine xs_aload eX10_init_188 rfl ?_
    refine xs_K eX10_init_189 ?_
    refine xs_K eX10_init_190 ?_
    refine xs_K eX10_init_191 ?_
    refine xs_callV3v eX10_init_192 (by assumption) (Nat.le_of_ble_eq_true rfl) (c_X10_joins (a := 1) (b := 2) (by decide) (by decide) ⟨rfl, ?_⟩)
    refine xs_aload eX10_init_195 rfl ?_
    refine xs_K eX10_init_196 ?_
    refine xs_K eX10_init_197 ?_
    refine xs_K eX10_init_198 ?_
    refine xs_callV3v eX10_init_199 (by assumption) (Nat.le_of_ble_eq_true rfl) (c_X10_joins (a := 2) (b := 3) (by decide) (by decide) ⟨rfl, ?_⟩)
    refine xs_aload eX10_init_202 rfl ?_
    refine xs_K eX10_init_203 ?_
    refine xs_K eX10_init_204 ?_
    refine xs_K eX10_init_205 ?_
    refine xs_callV3v eX10_init_206 (by assumption) (Nat.le_of_ble_eq_true rfl) (c_X10_joins (a := 3) (b := 4) (by decide) (by decide) ⟨rfl, ?_⟩)
    refine xs_aload eX10_init_209 rfl ?_
    refine xs_K eX10_init_210 ?_
    refine xs_K eX10_init_211 ?_
    refine xs_K eX10_init_212 ?_
    refine xs_callV3v eX10_init_213 (by assumption) (Nat.le_of_ble_eq_true rfl) (c_X10_joins (a := 4) (b := 5) (by decide) (by decide) ⟨rfl, ?_⟩)
    refine xs_aload eX10_init_216 rfl ?_
    refine xs_K eX10_init_217 ?_
    refine xs_K eX10_init_218 ?_
    refine xs_K eX10_init_219 ?_
    refine xs_callV3v eX10_init_221 (by assumption) (Nat.le_of_ble_eq_true rfl) (c_X10_joins (a := 0) (b := 5) (by decide) (by decide) ⟨rfl, ?_⟩)
    refine xs_aload eX10_init_224 rfl ?_
    refine xs_K eX10_init_225 ?_
    refine xs_K eX10_init_226 ?_
    refine xs_K eX10_init_227 ?_
    refine xs_callV3v eX10_init_228 (by assumption) (Nat.le_of_ble_eq_true rfl) (c_X10_joins (a := 1) (b := 4) (by decide) (by decide) ⟨rfl, ?_⟩)
    refine xs_aload eX10_init_231 rfl ?_
    refine xs_K eX10_init_232 ?_
    refine xs_K eX10_init_233 ?_
    refine xs_callV2v eX10_init_234 (by assumption) (Nat.le_of_ble_eq_true rfl) (c_X10_begins (base := 0) (n := 0) (by simp [up2, hz7]) (by decide) (by decide) ⟨rfl, ?_⟩)
    refine xs_aload eX10_init_237 rfl ?_
    refine xs_K eX10_init_238 ?_
    refine xs_K eX10_init_239 ?_
    refine xs_callV2v eX10_init_240 (by assumption) (Nat.le_of_ble_eq_true rfl) (c_X10_begins (base := 0) (n := 1) (by rw [up2_x, if_pos rfl]) (by decide) (by decide) ⟨rfl, ?_⟩)
    refine xs_aload eX10_init_243 rfl ?_
    refine xs_callV0v eX10_init_244 (by assumption) (Nat.le_of_ble_eq_true rfl) (c_X10_settles (T := T9) hT okT_9 (fun M2 k1 k2 => ⟨rfl, ?_⟩))
    exact xs_vret eX10_init_247 rfl (hQ M2 (fun a ha => by rw [k1.1 a (by omega) (by omega) (by omega) (by omega)]; exact hlo a ha) (repM_9 hMM k1 k2))
  · intro i hi ih
    refine xs_iload eX10_init_114 rfl ?_
    refine xs_K eX10_init_115 ?_
    refine xs_N_ge eX10_init_117 (by omega) (by omega) (fun h => absurd h (by omega)) (fun h117 => ?_)
    refine xs_aload eX10_init_120 rfl ?_
    refine xs_getR eX10_init_121 (by assumption) (by rfl) ?_
    refine xs_iload eX10_init_124 rfl ?_
    refine xs_K eX10_init_125 ?_
    refine xs_iast eX10_init_126 (by assumption) (by omega) (by decide) ?_
    refine xs_inc1 eX10_init_127 rfl rfl rfl ?_
    refine xs_goto eX10_init_130 ?_
    refine xs_eqM ?_ ih
    funext a j
    simp only [up2]
    split
    · next e => rw [e.1, e.2]; exact (hz 161 (by decide) i).symm
    · rfl
theorem c_X10_init (hz : ∀ a, 156 ≤ a → ∀ j, M a j = 0) (hQ : ∀ M1, loK M M1 → repM wS M1 → Q none SF M1) : xC G mX10_init (d + 3) 13 2000 [.ref (G.1 + (156 + 0))] (SI ++ [.inr (.inl (10, bf10))]) M Q := by
  have hS : SI.length = 156 := rfl
  refine xC_intro [some (.ref (G.1 + (156 + 0))), none] rfl (by decide) (Nat.le_of_ble_eq_true rfl) ?_
  refine xs_aload eX10_init_0 rfl ?_
  refine xs_objI eX10_init_1 (Nat.le_of_ble_eq_true rfl) ?_
  refine xs_aload eX10_init_4 rfl ?_
  refine xs_K eX10_init_5 ?_
  refine xr_newa (i := 1) (ty := .int) eX10_init_7 hS rfl rfl rfl (by decide) (by decide) hz (by decide) (by decide) rfl ?_
  refine xr_putR (i := 0) eX10_init_9 hS rfl (Nat.le_of_ble_eq_true rfl) rfl rfl rfl ?_
  refine xs_aload eX10_init_12 rfl ?_
  refine xs_K eX10_init_13 ?_
  refine xr_newa (i := 2) (ty := .int) eX10_init_15 hS rfl rfl rfl (by decide) (by decide) hz (by decide) (by decide) rfl ?_
  refine xr_putR (i := 0) eX10_init_17 hS rfl (Nat.le_of_ble_eq_true rfl) rfl rfl rfl ?_
  refine xs_aload eX10_init_20 rfl ?_
  refine xs_K eX10_init_21 ?_
  refine xr_newa (i := 3) (ty := .int) eX10_init_23 hS rfl rfl rfl (by decide) (by decide) hz (by decide) (by decide) rfl ?_
  refine xr_putR (i := 0) eX10_init_25 hS rfl (Nat.le_of_ble_eq_true rfl) rfl rfl rfl ?_
  refine xs_aload eX10_init_28 rfl ?_
  refine xs_K eX10_init_29 ?_
  refine xr_newa (i := 4) (ty := .int) eX10_init_31 hS rfl rfl rfl (by decide) (by decide) hz (by decide) (by decide) rfl ?_
  refine xr_putR (i := 0) eX10_init_33 hS rfl (Nat.le_of_ble_eq_true rfl) rfl rfl rfl ?_
  refine xs_aload eX10_init_36 rfl ?_
  refine xs_K eX10_init_37 ?_
  refine xr_newa (i := 5) (ty := .int) eX10_init_39 hS rfl rfl rfl (by decide) (by decide) hz (by decide) (by decide) rfl ?_
  refine xr_putR (i := 0) eX10_init_41 hS rfl (Nat.le_of_ble_eq_true rfl) rfl rfl rfl ?_
  refine xs_aload eX10_init_44 rfl ?_
  refine xs_K eX10_init_45 ?_
  refine xr_newa (i := 6) (ty := .int) eX10_init_48 hS rfl rfl rfl (by decide) (by decide) hz (by decide) (by decide) rfl ?_
  refine xr_putR (i := 0) eX10_init_50 hS rfl (Nat.le_of_ble_eq_true rfl) rfl rfl rfl ?_
  refine xs_aload eX10_init_53 rfl ?_
  refine xs_K eX10_init_54 ?_
  refine xr_newa (i := 7) (ty := .byte) eX10_init_57 hS rfl rfl rfl (by decide) (by decide) hz (by decide) (by decide) rfl ?_
  refine xr_putR (i := 0) eX10_init_59 hS rfl (Nat.le_of_ble_eq_true rfl) rfl rfl rfl ?_
  refine xs_aload eX10_init_62 rfl ?_
  refine xs_K eX10_init_63 ?_
  refine xr_newa (i := 8) (ty := .int) eX10_init_65 hS rfl rfl rfl (by decide) (by decide) hz (by decide) (by decide) rfl ?_
  refine xr_putR (i := 0) eX10_init_67 hS rfl (Nat.le_of_ble_eq_true rfl) rfl rfl rfl ?_
  refine xs_aload eX10_init_70 rfl ?_
  refine xs_K eX10_init_71 ?_
  refine xr_newa (i := 9) (ty := .int) eX10_init_73 hS rfl rfl rfl (by decide) (by decide) hz (by decide) (by decide) rfl ?_
  refine xr_putR (i := 0) eX10_init_75 hS rfl (Nat.le_of_ble_eq_true rfl) rfl rfl rfl ?_
  refine xs_aload eX10_init_78 rfl ?_
  refine xs_K eX10_init_79 ?_
  refine xr_newa (i := 10) (ty := .int) eX10_init_82 hS rfl rfl rfl (by decide) (by decide) hz (by decide) (by decide) rfl ?_
  refine xr_putR (i := 0) eX10_init_84 hS rfl (Nat.le_of_ble_eq_true rfl) rfl rfl rfl ?_
  refine xs_aload eX10_init_87 rfl ?_
  refine xs_K eX10_init_88 ?_
  refine xr_newa (i := 11) (ty := .int) eX10_init_91 hS rfl rfl rfl (by decide) (by decide) hz (by decide) (by decide) rfl ?_
  refine xr_putR (i := 0) eX10_init_93 hS rfl (Nat.le_of_ble_eq_true rfl) rfl rfl rfl ?_
  refine xs_aload eX10_init_96 rfl ?_
  refine xs_K eX10_init_97 ?_
  refine xr_newa (i := 12) (ty := .int) eX10_init_99 hS rfl rfl rfl (by decide) (by decide) hz (by decide) (by decide) rfl ?_
  refine xr_putR (i := 0) eX10_init_101 hS rfl (Nat.le_of_ble_eq_true rfl) rfl rfl rfl ?_
  refine xs_aload eX10_init_104 rfl ?_
  refine xs_K eX10_init_105 ?_
  refine xr_newa (i := 13) (ty := .int) eX10_init_107 hS rfl rfl rfl (by decide) (by decide) hz (by decide) (by decide) rfl ?_
  refine xr_putR (i := 0) eX10_init_109 hS rfl (Nat.le_of_ble_eq_true rfl) rfl rfl rfl ?_
  refine xs_eqS (S1 := SF) rfl ?_
  exact init10_tail hz hQ
end CR

/-! THE REFERENCE's item -/
section IT
variable {G : xGl} {d N pl len nv np : Nat} {w : aX} {t : Nat → Nat} {M : xMem} {wr : Bool} {Q : Option Value → List xSh → xMem → Prop}
theorem e160 {M : xMem} {q : Nat} : rdM M q false 156 16 = nI 0 := by rw [rdM_f]; rfl
theorem e161 {M : xMem} {q : Nat} : rdM M q true 156 16 = nI 1 := by rw [rdM_f]; rfl
theorem e5 {M : xMem} {q nv : Nat} {x : Bool} (h : M 156 5 = nI nv) : rdM M q x 156 5 = nI nv := by rw [rdM_f]; exact h
theorem e7 {M : xMem} {q np : Nat} {x : Bool} (h : M 156 7 = nI np) : rdM M q x 156 7 = nI np := by rw [rdM_f]; exact h
theorem c_X10_item (ht : isTm M t len) (hp : pl < 700) (hn : M 156 5 = nI nv) (h7 : nv ≤ 7) (hnp : M 156 7 = nI np) (h3 : np ≤ 3) (hg : ∀ it q, okJ nv np it → itemF (ltr t len) nv np pl = (if ltr t len q = 59 then some (it, q + 1) else none) → q ≤ pl + 12 → Q none SF (itR (rdM M q false) nv np it)) (hb : ∀ q, q ≤ pl + 20 → itemF (ltr t len) nv np pl = none → Q none SF (rdM M q true)) : xC G mX10_item (d + 3) 0 0 [.ref (G.1 + 156), .int (nxI t len pl)] SF (rdM M (pl + 1) false) Q := by
  have s0 := sh156
  have hl := ltm_le ht
  have x118 := nx_eq (pl := pl) (c := 118) ht (by decide) (by decide)
  have x119 := nx_eq (pl := pl) (c := 119) ht (by decide) (by decide)
  have x112 := nx_eq (pl := pl) (c := 112) ht (by decide) (by decide)
  have n1 := numAt_le (l := ltr t len) (pl := pl + 1)
  have n2 := numAt_le (l := ltr t len) (pl := (numAt (ltr t len) (pl + 1)).2 + 1)
  have n3 := numAt_le (l := ltr t len) (pl := (numAt (ltr t len) ((numAt (ltr t len) (pl + 1)).2 + 1)).2 + 1)
  have K41b : ∀ (y : Int32) (q : Nat) (A B C : Option Value), q ≤ pl + 6 → itemF (ltr t len) nv np pl = none → xW G mX10_item (d + 3) 0 0 Q 41 [some (.ref (G.1 + 156)), some (.int (nxI t len pl)), A, B, C] [.int y] SF (rdM M q true) := by
    intro y q A B C hq hno
    refine xs_istore eX10_item_41 (Nat.le_of_ble_eq_true rfl) rfl rfl ?_
    refine xs_aload eX10_item_42 rfl ?_
    refine xs_K eX10_item_43 ?_
    refine xs_K eX10_item_44 ?_
    refine xs_callV2i eX10_item_46 (by assumption) (Nat.le_of_ble_eq_true rfl) (c_X10_more (wr := true) ht (by omega) (fun v g1 => by cases g1) (fun q2 h1 h2 => ⟨_, rfl, ?_⟩))
    refine xs_istore eX10_item_49 (Nat.le_of_ble_eq_true rfl) rfl rfl ?_
    refine xs_aload eX10_item_50 rfl ?_
    refine xs_getI eX10_item_51 (by assumption) (by rfl) ?_
    refine xs_eq1 e161 ?_
    refine xs_N0_ne eX10_item_54 (by omega) (fun h54 => ?_) (fun h => absurd h (by omega))
    refine xs_goto eX10_item_66 ?_
    exact xs_vret eX10_item_216 rfl (hb q2 (by omega) hno)
  have K41g : ∀ (k : Nat) (A B C : Option Value), ltr t len pl = 118 → nv < 7 → (numAt (ltr t len) (pl + 1)).1 = some k → k ≤ 4 → xW G mX10_item (d + 3) 0 0 Q 41 [some (.ref (G.1 + 156)), some (.int (nxI t len pl)), A, B, C] [.int (nI k)] SF (rdM M (numAt (ltr t len) (pl + 1)).2 false) := by
    intro k A B C h118 h7 hk hk4
    refine xs_istore eX10_item_41 (Nat.le_of_ble_eq_true rfl) rfl rfl ?_
    refine xs_aload eX10_item_42 rfl ?_
    refine xs_K eX10_item_43 ?_
    refine xs_K eX10_item_44 ?_
    refine xs_callV2i eX10_item_46 (by assumption) (Nat.le_of_ble_eq_true rfl) (c_X10_more (wr := false) ht (by omega) (fun o g1 g2 g3 g4 g5 => ⟨_, rfl, ?_⟩) (fun q h1 h2 => ⟨_, rfl, ?_⟩))
    · have ho := wi_hi (numAt_lt hl o g3) (by decide) g5
      have h9 := hg (118, [k, o]) (numAt (ltr t len) ((numAt (ltr t len) (pl + 1)).2 + 1)).2 (Or.inl ⟨k, o, rfl, h7, by omega, by omega⟩) (v_good h118 h7 hk hk4 g2 g3 ho) (by omega)
      have hn5 := e5 (q := (numAt (ltr t len) ((numAt (ltr t len) (pl + 1)).2 + 1)).2) (x := false) hn
      refine xs_istore eX10_item_49 (Nat.le_of_ble_eq_true rfl) rfl rfl ?_
      refine xs_aload eX10_item_50 rfl ?_
      refine xs_getI eX10_item_51 (by assumption) (by rfl) ?_
      refine xs_eq1 e160 ?_
      refine xs_N0_ne eX10_item_54 (by omega) (fun h => absurd h (by omega)) (fun h54 => ?_)
      refine xs_aload eX10_item_57 rfl ?_
      refine xs_K eX10_item_58 ?_
      refine xs_iload eX10_item_61 rfl ?_
      refine xs_iload eX10_item_62 rfl ?_
      refine xs_callV3v eX10_item_63 (by assumption) (Nat.le_of_ble_eq_true rfl) (c_X10_lives (n := nv) (base := 242) hn5 h7 (by omega) ⟨rfl, ?_⟩)
      refine xs_goto eX10_item_66 ?_
      exact xs_vret eX10_item_216 rfl (h9)
    · have hno : itemF (ltr t len) nv np pl = none := v_bad2 hl h118 hk (h2.resolve_left (by decide))
      refine xs_istore eX10_item_49 (Nat.le_of_ble_eq_true rfl) rfl rfl ?_
      refine xs_aload eX10_item_50 rfl ?_
      refine xs_getI eX10_item_51 (by assumption) (by rfl) ?_
      refine xs_eq1 e161 ?_
      refine xs_N0_ne eX10_item_54 (by omega) (fun h54 => ?_) (fun h => absurd h (by omega))
      refine xs_goto eX10_item_66 ?_
      exact xs_vret eX10_item_216 rfl (hb q (by omega) hno)
  have K106b : ∀ (y : Int32) (q : Nat) (A : Option Value) (z : Int32) (C : Option Value), q ≤ pl + 16 → itemF (ltr t len) nv np pl = none → xW G mX10_item (d + 3) 0 0 Q 106 [some (.ref (G.1 + 156)), some (.int (nxI t len pl)), A, some (.int z), C] [.int y] SF (rdM M q true) := by
    intro y q A z C hq hno
    have h9 := hb q (by omega) hno
    refine xs_istore eX10_item_106 (Nat.le_of_ble_eq_true rfl) rfl rfl ?_
    refine xs_aload eX10_item_108 rfl ?_
    refine xs_aload eX10_item_109 rfl ?_
    refine xs_getI eX10_item_110 (by assumption) (by rfl) ?_
    refine xs_eq1 e161 ?_
    refine xs_N0_ne eX10_item_113 (by omega) (fun h113 => ?_) (fun h => absurd h (by omega))
    refine xs_K eX10_item_121 ?_
    refine xs_goto eX10_item_122 ?_
    refine xs_putI eX10_item_126 (by assumption) (by rfl) (bI_nar true) (bI_fit true) ?_
    refine xs_eqM rdM_w1 ?_
    refine xs_aload eX10_item_129 rfl ?_
    refine xs_getI eX10_item_130 (by assumption) (by rfl) ?_
    refine xs_eq1 e161 ?_
    refine xs_N0_ne eX10_item_133 (by omega) (fun h133 => ?_) (fun h => absurd h (by omega))
    refine xs_goto eX10_item_144 ?_
    exact xs_vret eX10_item_216 rfl (h9)
  have K98b : ∀ (y : Int32) (q : Nat) (z : Int32) (B C : Option Value), q ≤ pl + 12 → itemF (ltr t len) nv np pl = none → xW G mX10_item (d + 3) 0 0 Q 98 [some (.ref (G.1 + 156)), some (.int (nxI t len pl)), some (.int z), B, C] [.int y] SF (rdM M q true) := by
    intro y q z B C hq hno
    refine xs_istore eX10_item_98 (Nat.le_of_ble_eq_true rfl) rfl rfl ?_
    refine xs_aload eX10_item_99 rfl ?_
    refine xs_K eX10_item_100 ?_
    refine xs_K eX10_item_101 ?_
    refine xs_callV2i eX10_item_103 (by assumption) (Nat.le_of_ble_eq_true rfl) (c_X10_more (wr := true) ht (by omega) (fun v g1 => by cases g1) (fun q2 h1 h2 => ⟨_, rfl, ?_⟩))
    exact K106b _ q2 _ _ _ (by omega) hno
  have K86b : ∀ (y : Int32) (q : Nat) (A B C : Option Value), q ≤ pl + 6 → itemF (ltr t len) nv np pl = none → xW G mX10_item (d + 3) 0 0 Q 86 [some (.ref (G.1 + 156)), some (.int (nxI t len pl)), A, B, C] [.int y] SF (rdM M q true) := by
    intro y q A B C hq hno
    refine xs_istore eX10_item_86 (Nat.le_of_ble_eq_true rfl) rfl rfl ?_
    refine xs_aload eX10_item_87 rfl ?_
    refine xs_K eX10_item_88 ?_
    refine xs_aload eX10_item_89 rfl ?_
    refine xs_getI eX10_item_90 (by assumption) (by rfl) ?_
    refine xs_eq1 (e5 hn) ?_
    refine xs_K eX10_item_93 ?_
    refine xs_isub eX10_item_94 ?_
    refine xs_callV2i eX10_item_95 (by assumption) (Nat.le_of_ble_eq_true rfl) (c_X10_more (wr := true) ht (by omega) (fun v g1 => by cases g1) (fun q2 h1 h2 => ⟨_, rfl, ?_⟩))
    exact K98b _ q2 _ _ _ (by omega) hno
  have K106g : ∀ (a b y : Nat) (C : Option Value), ltr t len pl = 119 → (numAt (ltr t len) (pl + 1)).1 = some a → a < nv → ltr t len (numAt (ltr t len) (pl + 1)).2 = 44 → (numAt (ltr t len) ((numAt (ltr t len) (pl + 1)).2 + 1)).1 = some b → b < nv → ltr t len (numAt (ltr t len) ((numAt (ltr t len) (pl + 1)).2 + 1)).2 = 44 → (numAt (ltr t len) ((numAt (ltr t len) ((numAt (ltr t len) (pl + 1)).2 + 1)).2 + 1)).1 = some y → 1 ≤ y → y ≤ 20 → xW G mX10_item (d + 3) 0 0 Q 106 [some (.ref (G.1 + 156)), some (.int (nxI t len pl)), some (.int (nI a)), some (.int (nI b)), C] [.int (nI y)] SF (rdM M (numAt (ltr t len) ((numAt (ltr t len) ((numAt (ltr t len) (pl + 1)).2 + 1)).2 + 1)).2 false) := by
    intro a b y C h119 ha ha2 h44 hb1 hb2 h44b hy hy1 hy2
    have hit := w_good (nv := nv) (np := np) h119 ha h44 hb1 h44b hy
    refine xs_istore eX10_item_106 (Nat.le_of_ble_eq_true rfl) rfl rfl ?_
    refine xs_aload eX10_item_108 rfl ?_
    refine xs_aload eX10_item_109 rfl ?_
    refine xs_getI eX10_item_110 (by assumption) (by rfl) ?_
    refine xs_eq1 e160 ?_
    refine xs_N0_ne eX10_item_113 (by omega) (fun h => absurd h (by omega)) (fun h113 => ?_)
    refine xs_iload eX10_item_116 rfl ?_
    refine xs_iload eX10_item_117 rfl ?_
    refine xs_N_ne eX10_item_118 (by omega) (by omega) (fun h118 => ?_) (fun h118 => ?_)
    · rw [if_pos (by simp [okW]; omega)] at hit
      have h9 := hg (119, [a, b, y]) (numAt (ltr t len) ((numAt (ltr t len) ((numAt (ltr t len) (pl + 1)).2 + 1)).2 + 1)).2 (Or.inr (Or.inl ⟨a, b, y, rfl, by omega, by omega, h118, by omega, by omega⟩)) hit (by omega)
      refine xs_K eX10_item_125 ?_
      refine xs_putI eX10_item_126 (by assumption) (by rfl) (bI_nar false) (bI_fit false) ?_
      refine xs_eqM rdM_w0 ?_
      refine xs_aload eX10_item_129 rfl ?_
      refine xs_getI eX10_item_130 (by assumption) (by rfl) ?_
      refine xs_eq1 e160 ?_
      refine xs_N0_ne eX10_item_133 (by omega) (fun h => absurd h (by omega)) (fun h133 => ?_)
      refine xs_aload eX10_item_136 rfl ?_
      refine xs_iload eX10_item_137 rfl ?_
      refine xs_iload eX10_item_138 rfl ?_
      refine xs_iload eX10_item_139 rfl ?_
      refine xs_callV3v eX10_item_141 (by assumption) (Nat.le_of_ble_eq_true rfl) (c_X10_joins (by omega) (by omega) ⟨rfl, ?_⟩)
      refine xs_goto eX10_item_144 ?_
      exact xs_vret eX10_item_216 rfl (h9)
    · rw [if_neg (by simp [okW]; omega)] at hit
      refine xs_K eX10_item_121 ?_
      refine xs_goto eX10_item_122 ?_
      refine xs_putI eX10_item_126 (by assumption) (by rfl) (bI_nar true) (bI_fit true) ?_
      refine xs_eqM rdM_w1 ?_
      refine xs_aload eX10_item_129 rfl ?_
      refine xs_getI eX10_item_130 (by assumption) (by rfl) ?_
      refine xs_eq1 e161 ?_
      refine xs_N0_ne eX10_item_133 (by omega) (fun h133 => ?_) (fun h => absurd h (by omega))
      refine xs_goto eX10_item_144 ?_
      exact xs_vret eX10_item_216 rfl (hb _ (by omega) hit)
  have K98g : ∀ (a b : Nat) (B C : Option Value), ltr t len pl = 119 → (numAt (ltr t len) (pl + 1)).1 = some a → a < nv → ltr t len (numAt (ltr t len) (pl + 1)).2 = 44 → (numAt (ltr t len) ((numAt (ltr t len) (pl + 1)).2 + 1)).1 = some b → b < nv → xW G mX10_item (d + 3) 0 0 Q 98 [some (.ref (G.1 + 156)), some (.int (nxI t len pl)), some (.int (nI a)), B, C] [.int (nI b)] SF (rdM M (numAt (ltr t len) ((numAt (ltr t len) (pl + 1)).2 + 1)).2 false) := by
    intro a b B C h119 ha ha2 h44 hb1 hb2
    refine xs_istore eX10_item_98 (Nat.le_of_ble_eq_true rfl) rfl rfl ?_
    refine xs_aload eX10_item_99 rfl ?_
    refine xs_K eX10_item_100 ?_
    refine xs_K eX10_item_101 ?_
    refine xs_callV2i eX10_item_103 (by assumption) (Nat.le_of_ble_eq_true rfl) (c_X10_more (wr := false) ht (by omega) (fun y g1 g2 g3 g4 g5 => ⟨_, rfl, ?_⟩) (fun q h1 h2 => ⟨_, rfl, ?_⟩))
    · have hy : 1 ≤ y ∧ y ≤ 20 := by
        have := numAt_lt hl y g3
        rw [wi_nI (by omega) (by decide) (by decide)] at g5
        simp at g5
        omega
      exact K106g a b y _ h119 ha ha2 h44 hb1 hb2 g2 g3 hy.1 hy.2
    · exact K106b _ q _ _ _ (by omega) (w_bad3 hl h119 ha h44 hb1 (h2.resolve_left (by decide)))
  have K86g : ∀ (a : Nat) (A B C : Option Value), ltr t len pl = 119 → (numAt (ltr t len) (pl + 1)).1 = some a → a < nv → xW G mX10_item (d + 3) 0 0 Q 86 [some (.ref (G.1 + 156)), some (.int (nxI t len pl)), A, B, C] [.int (nI a)] SF (rdM M (numAt (ltr t len) (pl + 1)).2 false) := by
    intro a A B C h119 ha ha2
    refine xs_istore eX10_item_86 (Nat.le_of_ble_eq_true rfl) rfl rfl ?_
    refine xs_aload eX10_item_87 rfl ?_
    refine xs_K eX10_item_88 ?_
    refine xs_aload eX10_item_89 rfl ?_
    refine xs_getI eX10_item_90 (by assumption) (by rfl) ?_
    refine xs_eq1 (e5 hn) ?_
    refine xs_K eX10_item_93 ?_
    refine xs_isub eX10_item_94 ?_
    refine xs_callV2i eX10_item_95 (by assumption) (Nat.le_of_ble_eq_true rfl) (c_X10_more (wr := false) ht (by omega) (fun b g1 g2 g3 g4 g5 => ⟨_, rfl, ?_⟩) (fun q h1 h2 => ⟨_, rfl, ?_⟩))
    · exact K98g a b _ _ h119 ha ha2 g2 g3 (in_hi (numAt_lt hl b g3) (by omega) g5)
    · exact K98b _ q _ _ _ (by omega) (w_bad2 hl h119 (by omega) ha (h2.resolve_left (by decide)))
  have K192b : ∀ (y : Int32) (q : Nat) (A B C : Option Value), q ≤ pl + 6 → itemF (ltr t len) nv np pl = none → xW G mX10_item (d + 3) 0 0 Q 192 [some (.ref (G.1 + 156)), some (.int (nxI t len pl)), A, B, C] [.int y] SF (rdM M q true) := by
    intro y q A B C hq hno
    refine xs_istore eX10_item_192 (Nat.le_of_ble_eq_true rfl) rfl rfl ?_
    refine xs_aload eX10_item_193 rfl ?_
    refine xs_getI eX10_item_194 (by assumption) (by rfl) ?_
    refine xs_eq1 e161 ?_
    refine xs_N0_ne eX10_item_197 (by omega) (fun h197 => ?_) (fun h => absurd h (by omega))
    refine xs_goto eX10_item_208 ?_
    exact xs_vret eX10_item_216 rfl (hb q (by omega) hno)
  have K192g : ∀ (v : Nat) (A B C : Option Value), ltr t len pl = 112 → np < 3 → (numAt (ltr t len) (pl + 1)).1 = some v → v < nv → xW G mX10_item (d + 3) 0 0 Q 192 [some (.ref (G.1 + 156)), some (.int (nxI t len pl)), A, B, C] [.int (nI v)] SF (rdM M (numAt (ltr t len) (pl + 1)).2 false) := by
    intro v A B C h112 h3 hv hv2
    have h9 := hg (112, [v]) (numAt (ltr t len) (pl + 1)).2 (Or.inr (Or.inr ⟨v, rfl, h3, hv2⟩)) (p_good h112 h3 hv hv2) (by omega)
    have hn7 := e7 (q := (numAt (ltr t len) (pl + 1)).2) (x := false) hnp
    refine xs_istore eX10_item_192 (Nat.le_of_ble_eq_true rfl) rfl rfl ?_
    refine xs_aload eX10_item_193 rfl ?_
    refine xs_getI eX10_item_194 (by assumption) (by rfl) ?_
    refine xs_eq1 e160 ?_
    refine xs_N0_ne eX10_item_197 (by omega) (fun h => absurd h (by omega)) (fun h197 => ?_)
    refine xs_aload eX10_item_200 rfl ?_
    refine xs_K eX10_item_201 ?_
    refine xs_iload eX10_item_204 rfl ?_
    refine xs_callV2v eX10_item_205 (by assumption) (Nat.le_of_ble_eq_true rfl) (c_X10_begins (n := np) (base := 242) hn7 h3 (by omega) ⟨rfl, ?_⟩)
    refine xs_goto eX10_item_208 ?_
    exact xs_vret eX10_item_216 rfl (h9)
  refine xC_intro [some (.ref (G.1 + 156)), some (.int (nxI t len pl)), none, none, none] rfl (by decide) (Nat.le_of_ble_eq_true rfl) ?_
  have KV : ltr t len pl = 118 → xW G mX10_item (d + 3) 0 0 Q 6 [some (.ref (G.1 + 156)), some (.int (nxI t len pl)), none, none, none] [] SF (rdM M (pl + 1) false) := by
    intro h118
    refine xs_aload eX10_item_6 rfl ?_
    refine xs_aload eX10_item_7 rfl ?_
    refine xs_getI eX10_item_8 (by assumption) (by rfl) ?_
    refine xs_eq1 (e5 hn) ?_
    refine xs_K eX10_item_11 ?_
    refine xs_N_ne eX10_item_13 (by omega) (by omega) (fun h13 => ?_) (fun h13 => ?_)
    · refine xs_K eX10_item_20 ?_
      refine xs_putI eX10_item_21 (by assumption) (by rfl) (bI_nar false) (bI_fit false) ?_
      refine xs_eqM rdM_w0 ?_
      refine xs_aload eX10_item_24 rfl ?_
      refine xs_getI eX10_item_25 (by assumption) (by rfl) ?_
      refine xs_eq1 e160 ?_
      refine xs_N0_eq eX10_item_28 (by omega) (fun h28 => ?_) (fun h => absurd h (by omega))
      refine xs_aload eX10_item_35 rfl ?_
      refine xs_K eX10_item_36 ?_
      refine xs_K eX10_item_37 ?_
      refine xs_callV2i eX10_item_38 (by assumption) (Nat.le_of_ble_eq_true rfl) (c_X10_number (wr := false) ht (by omega) (fun k g1 g2 g3 g4 => ⟨_, rfl, ?_⟩) (fun q h1 h2 => ⟨_, rfl, ?_⟩))
      · exact K41g k _ _ _ h118 (by omega) g2 (wi_hi (numAt_lt hl k g2) (by decide) g4)
      · exact K41b _ q _ _ _ (by omega) (v_bad1 hl h118 (h2.resolve_left (by decide)))
    · refine xs_K eX10_item_16 ?_
      refine xs_goto eX10_item_17 ?_
      refine xs_putI eX10_item_21 (by assumption) (by rfl) (bI_nar true) (bI_fit true) ?_
      refine xs_eqM rdM_w1 ?_
      refine xs_aload eX10_item_24 rfl ?_
      refine xs_getI eX10_item_25 (by assumption) (by rfl) ?_
      refine xs_eq1 e161 ?_
      refine xs_N0_eq eX10_item_28 (by omega) (fun h => absurd h (by omega)) (fun h28 => ?_)
      refine xs_K eX10_item_31 ?_
      refine xs_goto eX10_item_32 ?_
      exact K41b _ _ _ _ _ (by omega) (itemF_v7 h118 (by omega))
  have KW : ltr t len pl = 119 → xW G mX10_item (d + 3) 0 0 Q 75 [some (.ref (G.1 + 156)), some (.int (nxI t len pl)), none, none, none] [] SF (rdM M (pl + 1) false) := by
    intro h119
    refine xs_aload eX10_item_75 rfl ?_
    refine xs_K eX10_item_76 ?_
    refine xs_aload eX10_item_77 rfl ?_
    refine xs_getI eX10_item_78 (by assumption) (by rfl) ?_
    refine xs_eq1 (e5 hn) ?_
    refine xs_K eX10_item_81 ?_
    refine xs_isub eX10_item_82 ?_
    refine xs_callV2i eX10_item_83 (by assumption) (Nat.le_of_ble_eq_true rfl) (c_X10_number (wr := false) ht (by omega) (fun k g1 g2 g3 g4 => ⟨_, rfl, ?_⟩) (fun q h1 h2 => ⟨_, rfl, ?_⟩))
    · exact K86g k _ _ _ h119 g2 (in_hi (numAt_lt hl k g2) (by omega) g4)
    · exact K86b _ q _ _ _ (by omega) (w_bad1 hl h119 (by omega) (h2.resolve_left (by decide)))
  have KP : ltr t len pl = 112 → xW G mX10_item (d + 3) 0 0 Q 153 [some (.ref (G.1 + 156)), some (.int (nxI t len pl)), none, none, none] [] SF (rdM M (pl + 1) false) := by
    intro h112
    refine xs_aload eX10_item_153 rfl ?_
    refine xs_aload eX10_item_154 rfl ?_
    refine xs_getI eX10_item_155 (by assumption) (by rfl) ?_
    refine xs_eq1 (e7 hnp) ?_
    refine xs_K eX10_item_158 ?_
    refine xs_N_ne eX10_item_159 (by omega) (by omega) (fun h159 => ?_) (fun h159 => ?_)
    · refine xs_K eX10_item_166 ?_
      refine xs_putI eX10_item_167 (by assumption) (by rfl) (bI_nar false) (bI_fit false) ?_
      refine xs_eqM rdM_w0 ?_
      refine xs_aload eX10_item_170 rfl ?_
      refine xs_getI eX10_item_171 (by assumption) (by rfl) ?_
      refine xs_eq1 e160 ?_
      refine xs_N0_eq eX10_item_174 (by omega) (fun h174 => ?_) (fun h => absurd h (by omega))
      refine xs_aload eX10_item_181 rfl ?_
      refine xs_K eX10_item_182 ?_
      refine xs_aload eX10_item_183 rfl ?_
      refine xs_getI eX10_item_184 (by assumption) (by rfl) ?_
      refine xs_eq1 (e5 hn) ?_
      refine xs_K eX10_item_187 ?_
      refine xs_isub eX10_item_188 ?_
      refine xs_callV2i eX10_item_189 (by assumption) (Nat.le_of_ble_eq_true rfl) (c_X10_number (wr := false) ht (by omega) (fun k g1 g2 g3 g4 => ⟨_, rfl, ?_⟩) (fun q h1 h2 => ⟨_, rfl, ?_⟩))
      · exact K192g k _ _ _ h112 (by omega) g2 (in_hi (numAt_lt hl k g2) (by omega) g4)
      · exact K192b _ q _ _ _ (by omega) (p_bad hl h112 (by omega) (h2.resolve_left (by decide)))
    · refine xs_K eX10_item_162 ?_
      refine xs_goto eX10_item_163 ?_
      refine xs_putI eX10_item_167 (by assumption) (by rfl) (bI_nar true) (bI_fit true) ?_
      refine xs_eqM rdM_w1 ?_
      refine xs_aload eX10_item_170 rfl ?_
      refine xs_getI eX10_item_171 (by assumption) (by rfl) ?_
      refine xs_eq1 e161 ?_
      refine xs_N0_eq eX10_item_174 (by omega) (fun h => absurd h (by omega)) (fun h174 => ?_)
      refine xs_K eX10_item_177 ?_
      refine xs_goto eX10_item_178 ?_
      exact K192b _ _ _ _ _ (by omega) (itemF_p3 h112 (by omega))
  refine xs_iload eX10_item_0 rfl ?_
  refine xs_K eX10_item_1 ?_
  refine xs_icmp_ne eX10_item_3 (fun h3 => ?_) (fun h3 => ?_)
  · refine xs_iload eX10_item_69 rfl ?_
    refine xs_K eX10_item_70 ?_
    refine xs_icmp_ne eX10_item_72 (fun h72 => ?_) (fun h72 => ?_)
    · refine xs_iload eX10_item_147 rfl ?_
      refine xs_K eX10_item_148 ?_
      refine xs_icmp_ne eX10_item_150 (fun h150 => ?_) (fun h150 => ?_)
      · refine xs_aload eX10_item_211 rfl ?_
        refine xs_K eX10_item_212 ?_
        refine xs_putI eX10_item_213 (by assumption) (by rfl) (bI_nar true) (bI_fit true) ?_
        refine xs_eqM rdM_w1 ?_
        exact xs_vret eX10_item_216 rfl (hb (pl + 1) (by omega) (by rw [itemF, if_neg (fun q => h3 (x118.mpr q)), if_neg (fun q => h72 (x119.mpr q)), if_neg (fun q => h150 (x112.mpr q))]))
      · exact KP (x112.mp h150)
    · exact KW (x119.mp h72)
  · exact KV (x118.mp h3)
end IT

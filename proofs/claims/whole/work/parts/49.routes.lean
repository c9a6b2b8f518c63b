/-! THE REFERENCE's routes -/
section RR
variable {G : xGl} {d N p v : Nat} {w : aX} {l : aLd} {b : aBk} {M : xMem} {S : List xSh} {Q : Option Value → List xSh → xMem → Prop} {y : Int32}
def rtP (l : aLd) (at0 p : Nat) (M M1 : xMem) (s : Nat) : Prop := (∀ a, a ≠ 166 → a ≠ 167 → M1 a = M a) ∧ (∀ j, j < 128 * p ∨ 128 * p + 128 ≤ j → M1 167 j = M 167 j) ∧ (∀ s', s' < s → M1 167 (128 * p + s') = nI (fo (shA l at0 s'))) ∧ ∀ s' v, s' < s → v < l.1 → s'.testBit v = true → M1 166 (7 * s' + v) = nI (fo (tbA l at0 s' v))
theorem fo_847 {x : Nat} (h : x ≤ 847 ∨ x = 1000000) : fo x ≤ 9999 := by unfold fo; split <;> omega
theorem foldM_b {q : Nat → Bool} {f : Nat → Nat} {z : Nat} {n : Nat} (h : z ≤ 9999) : foldM q f z n ≤ 9999 := Nat.le_trans foldM_z h
theorem c_X10_routes {dy : Nat} (hl : okL l) (hL : rLm M l) (hS : rS M 0 b) (hB : okB l.1 dy b) (hp : p < 3) (hQ : ∀ M1, rtP l (b.2.2.2.2.1 p) p M M1 (2 ^ l.1) → Q none SF M1) : xC G mX10_routes (d + 1) 0 0 [.ref (G.1 + 156), .int (nI p)] SF M Q := by
  have s0 := sh156
  have s1 := sh159
  have s2 := sh162
  have s3 := sh166
  have s4 := sh167
  have h7 := hl.1.2
  have hal := (hB.2.2.2.2 p hp).1
  have hat : M 162 (16 + p) = nI (b.2.2.2.2.1 p) := by have := (hS.2.2.2 p hp).1; rw [show 0 + 16 + p = 16 + p by omega] at this; exact this
  have hfar := hL.2.2.2.2
  have hn0 := hL.1
  have h2 := pow7 h7
  have hsh := shl_2 l.1 (by omega)
  generalize b.2.2.2.2.1 p = at0 at *
  refine xC_intro [some (.ref (G.1 + 156)), some (.int (nI p)), none, none, none, none, none, none] rfl (by decide) (Nat.le_of_ble_eq_true rfl) ?_
  refine xs_K eX10_routes_0 ?_
  refine xs_istore eX10_routes_1 (Nat.le_of_ble_eq_true rfl) rfl rfl ?_
  refine dn (P := fun s => ∀ (M1 : xMem) (A B C D E : Option Value), rtP l at0 p M M1 s → xW G mX10_routes (d + 1) 0 0 Q 2 [some (.ref (G.1 + 156)), some (.int (nI p)), some (.int (nI s)), A, B, C, D, E] [] SF M1) (2 ^ l.1) ?_ ?_ 0 (Nat.zero_le _) M none none none none none ⟨fun _ _ _ => rfl, fun _ _ => rfl, fun s h => by omega, fun s v h => by omega⟩
  · intro M1 A B C D E h
    have e0 : M1 156 0 = nI l.1 := by rw [h.1 156 (by decide) (by decide)]; exact hn0
    have hq9 := hQ M1 h
    generalize 2 ^ l.1 = n2 at *
    refine xs_iload eX10_routes_2 rfl ?_
    refine xs_K eX10_routes_3 ?_
    refine xs_aload eX10_routes_4 rfl ?_
    refine xs_getI eX10_routes_5 (by assumption) (by rfl) ?_
    refine xs_eq1 e0 ?_
    refine xs_ishl eX10_routes_8 ?_
    refine xs_eq1 hsh ?_
    refine xs_N_ge eX10_routes_9 (by omega) (by omega) (fun h9 => ?_) (fun h => absurd h (by omega))
    exact xs_vret eX10_routes_219 rfl (hq9)
  · intro s hs ih M1 A B C D E h
    have e0 : M1 156 0 = nI l.1 := by rw [h.1 156 (by decide) (by decide)]; exact hn0
    have hs128 : s < 128 := by omega
    have K24 : ∀ z : Nat, z = (if s = 0 then 0 else 9999) → xW G mX10_routes (d + 1) 0 0 Q 24 [some (.ref (G.1 + 156)), some (.int (nI p)), some (.int (nI s)), some (.int (nI z)), B, C, D, E] [] SF M1 := by
      intro z hz
      have hz9 : z ≤ 9999 := by rw [hz]; split <;> omega
      obtain ⟨g1, g2, g3, g4⟩ := h
      refine xs_K eX10_routes_24 ?_
      refine xs_istore eX10_routes_25 (Nat.le_of_ble_eq_true rfl) rfl rfl ?_
      refine dn (P := fun v => ∀ (M2 : xMem) (C D E : Option Value), (∀ a, a ≠ 166 → M2 a = M1 a) → (∀ s' v, s' < s → v < l.1 → s'.testBit v = true → M2 166 (7 * s' + v) = nI (fo (tbA l at0 s' v))) → (∀ u, u < v → s.testBit u = true → M2 166 (7 * s + u) = nI (fo (tbA l at0 s u))) → xW G mX10_routes (d + 1) 0 0 Q 27 [some (.ref (G.1 + 156)), some (.int (nI p)), some (.int (nI s)), some (.int (nI (foldM (fun v => s.testBit v) (fun v => fo (tbA l at0 s v)) z v))), some (.int (nI v)), C, D, E] [] SF M2) l.1 ?_ ?_ 0 (by omega) M1 C D E (fun _ _ => rfl) g4 (fun u hu => by omega)
      · intro M2 C D E f1 f2 f3
        have e0 : M2 156 0 = nI l.1 := by rw [f1 156 (by decide)]; exact e0
        have hfv : foldM (fun v => s.testBit v) (fun v => fo (tbA l at0 s v)) z l.1 = fo (shA l at0 s) := by
          unfold shA
          split
          · next e => rw [foldM_no (fun u hu => by rw [e]; simp), hz, if_pos e]; rfl
          · next e => rw [hz, if_neg e]; exact fold_fo2 (fun u hu hp => tbA_847 hl hal hs hu hp)
        rw [hfv]
        have h9 := ih (up2 M2 167 (128 * p + s) (nI (fo (shA l at0 s)))) (some (.int (nI (fo (shA l at0 s))))) (some (.int (nI l.1))) C D E ⟨fun a a1 a2 => by rw [up2_ne a2, f1 a a1]; exact g1 a a1 a2, fun j hj => by rw [up2_x, if_neg (by omega), f1 167 (by decide)]; exact g2 j hj, fun s' hs' => by
            rw [up2_x]
            by_cases e : s' = s
            · rw [if_pos (by omega), e]
            · rw [if_neg (by omega), f1 167 (by decide)]; exact g3 s' (by omega), fun s' v hs' hv hb => by
            rw [up2_ne (by decide)]
            by_cases e : s' = s
            · subst e; exact f3 v hv hb
            · exact f2 s' v (by omega) hv hb⟩
        refine xs_iload eX10_routes_27 rfl ?_
        refine xs_aload eX10_routes_29 rfl ?_
        refine xs_getI eX10_routes_30 (by assumption) (by rfl) ?_
        refine xs_eq1 e0 ?_
        refine xs_N_ge eX10_routes_33 (by omega) (by omega) (fun h33 => ?_) (fun h => absurd h (by omega))
        refine xs_aload eX10_routes_200 rfl ?_
        refine xs_getR eX10_routes_201 (by assumption) (by rfl) ?_
        refine xs_K eX10_routes_204 ?_
        refine xs_iload eX10_routes_207 rfl ?_
        refine xs_imul eX10_routes_208 ?_
        refine xs_eq1 (pk_mul 128 p) ?_
        refine xs_iload eX10_routes_209 rfl ?_
        refine xs_iadd eX10_routes_210 ?_
        refine xs_eq1 (nI_add _ s) ?_
        refine xs_iload eX10_routes_211 rfl ?_
        refine xs_iast eX10_routes_212 (by assumption) (by omega) (by decide) ?_
        refine xs_inc1 eX10_routes_213 rfl rfl rfl ?_
        refine xs_goto eX10_routes_216 ?_
        exact h9
      · intro v hv ih2 M2 C D E f1 f2 f3
        have e0 : M2 156 0 = nI l.1 := by rw [f1 156 (by decide)]; exact e0
        have hbt : bt (nI s) v = s.testBit v := bt_nI (by omega)
        simp only [foldM] at ih2
        have hfz := foldM_b (q := fun v => s.testBit v) (f := fun v => fo (tbA l at0 s v)) (n := v) hz9
        have K45 : s.testBit v = true → xW G mX10_routes (d + 1) 0 0 Q 45 [some (.ref (G.1 + 156)), some (.int (nI p)), some (.int (nI s)), some (.int (nI (foldM (fun v => s.testBit v) (fun v => fo (tbA l at0 s v)) z v))), some (.int (nI v)), C, D, E] [] SF M2 := by
          intro hb
          simp only [hb, if_true] at ih2
          have hc := cbt_less s hs128 v (by omega) hb
          have hst := step_fo hl hal hs hv hb
          have ht := tbA_847 hl hal hs hv hb
          have hbo := (boff_nI s hs128 v (by omega)).1
          generalize hc0 : cbt s v = c0 at *
          generalize foldM (fun v => s.testBit v) (fun v => fo (tbA l at0 s v)) z v = acc at *
          have hm : ∀ j, M2 159 j = M 159 j := fun j => by rw [f1 159 (by decide), g1 159 (by decide) (by decide)]
          have hfa : M2 159 (7 * at0 + v) = nI (fo (l.2.2.2.2.2 at0 v)) := by rw [hm]; exact hfar at0 v hal hv
          have hat2 : M2 162 (16 + p) = nI at0 := by rw [f1 162 (by decide), g1 162 (by decide) (by decide)]; exact hat
          have K88 : ∀ z2 : Nat, z2 ≤ 9999 → foldM (fun u => c0.testBit u) (fun u => fo (tbA l at0 c0 u) + fo (l.2.2.2.2.2 u v)) z2 l.1 = (if c0 = 0 then fo (l.2.2.2.2.2 at0 v) else foldM (fun u => c0.testBit u) (fun u => fo (tbA l at0 c0 u) + fo (l.2.2.2.2.2 u v)) 9999 l.1) → xW G mX10_routes (d + 1) 0 0 Q 88 [some (.ref (G.1 + 156)), some (.int (nI p)), some (.int (nI s)), some (.int (nI acc)), some (.int (nI v)), some (.int (nI c0)), some (.int (nI z2)), E] [] SF M2 := by
            intro z2 hz2 hfin
            rw [← hfin] at hst
            refine xs_K eX10_routes_88 ?_
            refine xs_istore eX10_routes_89 (Nat.le_of_ble_eq_true rfl) rfl rfl ?_
            refine dn (P := fun u => xW G mX10_routes (d + 1) 0 0 Q 91 [some (.ref (G.1 + 156)), some (.int (nI p)), some (.int (nI s)), some (.int (nI acc)), some (.int (nI v)), some (.int (nI c0)), some (.int (nI (foldM (fun u => c0.testBit u) (fun u => fo (tbA l at0 c0 u) + fo (l.2.2.2.2.2 u v)) z2 u))), some (.int (nI u))] [] SF M2) l.1 ?_ ?_ 0 (by omega)
            · have hfb := foldM_b (q := fun u => c0.testBit u) (f := fun u => fo (tbA l at0 c0 u) + fo (l.2.2.2.2.2 u v)) (n := l.1) hz2
              have h9 := ih2 (up2 M2 166 (7 * s + v) (nI (fo (tbA l at0 s v)))) (some (.int (nI c0))) (some (.int (nI (foldM (fun u => c0.testBit u) (fun u => fo (tbA l at0 c0 u) + fo (l.2.2.2.2.2 u v)) z2 l.1)))) (some (.int (nI l.1))) (fun a ha => by rw [up2_ne ha]; exact f1 a ha) (fun s' v' a1 a2 a3 => by rw [up2_x, if_neg (by omega)]; exact f2 s' v' a1 a2 a3) (fun u hu hb2 => by
                  rw [up2_x]
                  by_cases e : u = v
                  · rw [if_pos (by omega), e]
                  · rw [if_neg (by omega)]; exact f3 u (by omega) hb2)
              have hft := fo_847 ht
              generalize foldM (fun u => c0.testBit u) (fun u => fo (tbA l at0 c0 u) + fo (l.2.2.2.2.2 u v)) z2 l.1 = dd at *
              refine xs_iload eX10_routes_91 rfl ?_
              refine xs_aload eX10_routes_93 rfl ?_
              refine xs_getI eX10_routes_94 (by assumption) (by rfl) ?_
              refine xs_eq1 e0 ?_
              refine xs_N_ge eX10_routes_97 (by omega) (by omega) (fun h97 => ?_) (fun h => absurd h (by omega))
              refine xs_aload eX10_routes_155 rfl ?_
              refine xs_getR eX10_routes_156 (by assumption) (by rfl) ?_
              refine xs_K eX10_routes_159 ?_
              refine xs_iload eX10_routes_161 rfl ?_
              refine xs_imul eX10_routes_162 ?_
              refine xs_eq1 (pk_mul 7 s) ?_
              refine xs_iload eX10_routes_163 rfl ?_
              refine xs_iadd eX10_routes_165 ?_
              refine xs_eq1 (nI_add _ v) ?_
              refine xs_K eX10_routes_166 ?_
              refine xs_iload eX10_routes_169 rfl ?_
              refine xs_K eX10_routes_171 ?_
              refine xs_iadd eX10_routes_172 ?_
              refine xs_eq1 (nI_add _ 1) ?_
              refine xs_callS2i eX10_routes_173 (Nat.le_of_ble_eq_true rfl) (c_X10_smaller (by omega) (by omega) ⟨_, rfl, ?_⟩)
              rw [hst]
              refine xs_iast eX10_routes_176 (by assumption) (by omega) (by decide) ?_
              refine xs_iload eX10_routes_177 rfl ?_
              refine xs_aload eX10_routes_178 rfl ?_
              refine xs_getR eX10_routes_179 (by assumption) (by rfl) ?_
              refine xs_K eX10_routes_182 ?_
              refine xs_iload eX10_routes_184 rfl ?_
              refine xs_imul eX10_routes_185 ?_
              refine xs_eq1 (pk_mul 7 s) ?_
              refine xs_iload eX10_routes_186 rfl ?_
              refine xs_iadd eX10_routes_188 ?_
              refine xs_eq1 (nI_add _ v) ?_
              refine xs_iald eX10_routes_189 (by assumption) (by omega) (by decide) ?_
              refine xs_eq1 (z := nI (fo (tbA l at0 s v))) (by rw [up2_x, if_pos rfl]) ?_
              refine xs_callS2i eX10_routes_190 (Nat.le_of_ble_eq_true rfl) (c_X10_smaller (by omega) (by omega) ⟨_, rfl, ?_⟩)
              refine xs_istore eX10_routes_193 (Nat.le_of_ble_eq_true rfl) rfl rfl ?_
              refine xs_inc1 eX10_routes_194 rfl rfl rfl ?_
              refine xs_goto eX10_routes_197 ?_
              exact h9
            · intro u hu ih3
              have hfb := foldM_b (q := fun u => c0.testBit u) (f := fun u => fo (tbA l at0 c0 u) + fo (l.2.2.2.2.2 u v)) (n := u) hz2
              have hbt2 : bt (nI c0) u = c0.testBit u := bt_nI (by omega)
              simp only [foldM] at ih3
              have hfu : M2 159 (7 * u + v) = nI (fo (l.2.2.2.2.2 u v)) := by rw [hm]; exact hfar u v hu hv
              have hfl := fo_847 (x := l.2.2.2.2.2 u v) (by have := hl.2.2.2.2.2 u v hu hv; omega)
              refine xs_iload eX10_routes_91 rfl ?_
              refine xs_aload eX10_routes_93 rfl ?_
              refine xs_getI eX10_routes_94 (by assumption) (by rfl) ?_
              refine xs_eq1 e0 ?_
              refine xs_N_ge eX10_routes_97 (by omega) (by omega) (fun h => absurd h (by omega)) (fun h97 => ?_)
              refine xs_iload eX10_routes_100 rfl ?_
              refine xs_iload eX10_routes_102 rfl ?_
              refine xs_callS2i eX10_routes_104 (Nat.le_of_ble_eq_true rfl) (c_X10_has (by omega) ⟨_, rfl, ?_⟩)
              rw [hbt2]
              refine xs_ifeqB eX10_routes_107 (fun h107 => ?_) (fun h107 => ?_)
              · refine xs_iload eX10_routes_145 rfl ?_
                refine xs_istore eX10_routes_147 (Nat.le_of_ble_eq_true rfl) rfl rfl ?_
                refine xs_inc1 eX10_routes_149 rfl rfl rfl ?_
                refine xs_goto eX10_routes_152 ?_
                simp only [h107, Bool.false_eq_true, if_false] at ih3
                exact ih3
              · have htu := fo_847 (tbA_847 (s := c0) (at0 := at0) hl hal (by omega) hu h107)
                have hpu := f2 c0 u hc.1 hu h107
                refine xs_iload eX10_routes_110 rfl ?_
                refine xs_aload eX10_routes_112 rfl ?_
                refine xs_getR eX10_routes_113 (by assumption) (by rfl) ?_
                refine xs_K eX10_routes_116 ?_
                refine xs_iload eX10_routes_118 rfl ?_
                refine xs_imul eX10_routes_120 ?_
                refine xs_eq1 (pk_mul 7 c0) ?_
                refine xs_iload eX10_routes_121 rfl ?_
                refine xs_iadd eX10_routes_123 ?_
                refine xs_eq1 (nI_add _ u) ?_
                refine xs_iald eX10_routes_124 (by assumption) (by omega) (by decide) ?_
                refine xs_eq1 hpu ?_
                refine xs_aload eX10_routes_125 rfl ?_
                refine xs_getR eX10_routes_126 (by assumption) (by rfl) ?_
                refine xs_K eX10_routes_129 ?_
                refine xs_iload eX10_routes_131 rfl ?_
                refine xs_imul eX10_routes_133 ?_
                refine xs_eq1 (pk_mul 7 u) ?_
                refine xs_iload eX10_routes_134 rfl ?_
                refine xs_iadd eX10_routes_136 ?_
                refine xs_eq1 (nI_add _ v) ?_
                refine xs_iald eX10_routes_137 (by assumption) (by omega) (by decide) ?_
                refine xs_eq1 hfu ?_
                refine xs_iadd eX10_routes_138 ?_
                refine xs_eq1 (nI_add _ _) ?_
                refine xs_callS2i eX10_routes_139 (Nat.le_of_ble_eq_true rfl) (c_X10_smaller (by omega) (by omega) ⟨_, rfl, ?_⟩)
                refine xs_goto eX10_routes_142 ?_
                refine xs_istore eX10_routes_147 (Nat.le_of_ble_eq_true rfl) rfl rfl ?_
                refine xs_inc1 eX10_routes_149 rfl rfl rfl ?_
                refine xs_goto eX10_routes_152 ?_
                simp only [h107, if_true] at ih3
                exact ih3
          refine xs_iload eX10_routes_45 rfl ?_
          refine xs_K eX10_routes_46 ?_
          refine xs_iload eX10_routes_47 rfl ?_
          refine xs_ishl eX10_routes_49 ?_
          refine xs_K eX10_routes_50 ?_
          refine xs_ixor eX10_routes_51 ?_
          refine xs_iand eX10_routes_52 ?_
          refine xs_eq1 hbo ?_
          refine xs_istore eX10_routes_53 (Nat.le_of_ble_eq_true rfl) rfl rfl ?_
          refine xs_iload eX10_routes_55 rfl ?_
          refine xs_N0_ne eX10_routes_57 (by omega) (fun h57 => ?_) (fun h57 => ?_)
          · refine xs_K eX10_routes_83 ?_
            refine xs_istore eX10_routes_86 (Nat.le_of_ble_eq_true rfl) rfl rfl ?_
            exact K88 9999 (by omega) (by rw [if_neg h57])
          · refine xs_aload eX10_routes_60 rfl ?_
            refine xs_getR eX10_routes_61 (by assumption) (by rfl) ?_
            refine xs_K eX10_routes_64 ?_
            refine xs_aload eX10_routes_66 rfl ?_
            refine xs_getR eX10_routes_67 (by assumption) (by rfl) ?_
            refine xs_K eX10_routes_70 ?_
            refine xs_iload eX10_routes_72 rfl ?_
            refine xs_iadd eX10_routes_73 ?_
            refine xs_eq1 (nI_add 16 p) ?_
            refine xs_iald eX10_routes_74 (by assumption) (by omega) (by decide) ?_
            refine xs_eq1 hat2 ?_
            refine xs_imul eX10_routes_75 ?_
            refine xs_eq1 (pk_mul 7 at0) ?_
            refine xs_iload eX10_routes_76 rfl ?_
            refine xs_iadd eX10_routes_78 ?_
            refine xs_eq1 (nI_add _ v) ?_
            refine xs_iald eX10_routes_79 (by assumption) (by omega) (by decide) ?_
            refine xs_eq1 hfa ?_
            refine xs_goto eX10_routes_80 ?_
            refine xs_istore eX10_routes_86 (Nat.le_of_ble_eq_true rfl) rfl rfl ?_
            exact K88 _ (fo_847 (by have := hl.2.2.2.2.2 at0 v hal hv; omega)) (by rw [if_pos h57, foldM_no (fun u hu => by rw [h57]; simp)])
        refine xs_iload eX10_routes_27 rfl ?_
        refine xs_aload eX10_routes_29 rfl ?_
        refine xs_getI eX10_routes_30 (by assumption) (by rfl) ?_
        refine xs_eq1 e0 ?_
        refine xs_N_ge eX10_routes_33 (by omega) (by omega) (fun h => absurd h (by omega)) (fun h33 => ?_)
        refine xs_iload eX10_routes_36 rfl ?_
        refine xs_iload eX10_routes_37 rfl ?_
        refine xs_callS2i eX10_routes_39 (Nat.le_of_ble_eq_true rfl) (c_X10_has (by omega) ⟨_, rfl, ?_⟩)
        rw [hbt]
        refine xs_ifeqB eX10_routes_42 (fun h42 => ?_) (fun h42 => ?_)
        · refine xs_inc1 eX10_routes_194 rfl rfl rfl ?_
          refine xs_goto eX10_routes_197 ?_
          simp only [h42, Bool.false_eq_true, if_false] at ih2
          exact ih2 M2 _ _ _ f1 f2 (fun u hu hb => by by_cases e : u = v; (subst e; rw [h42] at hb; cases hb); exact f3 u (by omega) hb)
        · exact K45 h42
    refine xs_iload eX10_routes_2 rfl ?_
    refine xs_K eX10_routes_3 ?_
    refine xs_aload eX10_routes_4 rfl ?_
    refine xs_getI eX10_routes_5 (by assumption) (by rfl) ?_
    refine xs_eq1 e0 ?_
    refine xs_ishl eX10_routes_8 ?_
    refine xs_eq1 hsh ?_
    refine xs_N_ge eX10_routes_9 (by omega) (by omega) (fun h => absurd h (by omega)) (fun h9 => ?_)
    refine xs_iload eX10_routes_12 rfl ?_
    refine xs_N0_ne eX10_routes_13 (by omega) (fun h13 => ?_) (fun h13 => ?_)
    · refine xs_K eX10_routes_20 ?_
      refine xs_istore eX10_routes_23 (Nat.le_of_ble_eq_true rfl) rfl rfl ?_
      exact K24 9999 (by rw [if_neg h13])
    · refine xs_K eX10_routes_16 ?_
      refine xs_goto eX10_routes_17 ?_
      refine xs_istore eX10_routes_23 (Nat.le_of_ble_eq_true rfl) rfl rfl ?_
      exact K24 0 (by rw [if_pos h13])
end RR

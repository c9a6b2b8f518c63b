/-! THE REFERENCE: honest, one set of places -/
def bR (r k : Nat) : Nat := (bitsL r).getD k 0
theorem bR_lt {nv ib k : Nat} (h7 : nv ≤ 7) (hk : k < pc7 (restN nv ib)) : bR (restN nv ib) k < nv := by
  have hm := getD_mem (o := bitsL (restN nv ib)) (k := k) hk
  obtain ⟨g1, g2⟩ := bitsL_mem.mp hm
  rw [restN_bt h7 (by omega)] at g2
  simp only [Bool.and_eq_true, decide_eq_true_eq] at g2
  exact g2.1
theorem bR_in {r v : Nat} (hv : v < 7) (h : r.testBit v = true) : ∃ k, k < pc7 r ∧ bR r k = v := by
  have hm : v ∈ bitsL r := bitsL_mem.mpr ⟨hv, h⟩
  obtain ⟨k, hk, e⟩ := List.mem_iff_getElem.mp hm
  refine ⟨k, hk, ?_⟩
  unfold bR
  rw [List.getD_eq_getElem?_getD, List.getElem?_eq_getElem hk]
  exact e
section HR
variable {G : xGl} {d N c p v : Nat} {w : aX} {l : aLd} {b : aBk} {M : xMem} {S : List xSh} {Q : Option Value → List xSh → xMem → Prop} {y y1 y2 y3 : Int32}
theorem hon_pass {s n x m r u al dy : Nat} {A B C : Option Value} (hl : okL l) (hL : rLm M l) (hS : rS M 0 b) (hB : okB l.1 dy b) (hn : n ≤ 500) (hx : x ≤ 10) (hr : restN l.1 b.1 = r) (hm : pc7 r = m) (hs : s < 2 ^ m) (hmn : M 156 23 = nI m) (hrow : rRow M (bitsL r)) (K : ∀ (M1 : xMem) (A B C : Option Value), roK M M1 → M1 156 23 = nI m → rRow M1 (bitsL r) → xW G mX10_honest (d + 9) 0 0 Q 275 [some (.ref (G.1 + 156)), some (.int (nI n)), some (.int (nI x)), some (.int y3), some (.int (nI (u + (if n ≤ foundB l.1 (hoB l b (pdN r s)) then x ^ pc7 s * (10 - x) ^ (m - pc7 s) else 0)))), some (.int (nI (al + x ^ pc7 s * (10 - x) ^ (m - pc7 s)))), some (.int (nI s)), A, B, C] [] SF M1) : xW G mX10_honest (d + 9) 0 0 Q 60 [some (.ref (G.1 + 156)), some (.int (nI n)), some (.int (nI x)), some (.int y3), some (.int (nI u)), some (.int (nI al)), some (.int (nI s)), A, B, C] [] SF M := by
  have s0 := sh156
  have s1 := sh157
  have s2 := sh168
  have s3 := sh169
  have h7 := hl.1.2
  have hrl : r < 2 ^ l.1 := by rw [← hr]; exact restN_lt h7
  have hr128 := Nat.lt_of_lt_of_le hrl (pow7 h7)
  have hm7 : m ≤ 7 := by rw [← hm]; exact pc7_le _ hr128
  have hp2 := pow7 hm7
  have hpd := pd_pc r hr128 s (by rw [hm]; exact hs)
  have hRl : ∀ k, k < m → bR r k < l.1 := fun k hk => by rw [← hr] at hm ⊢; exact bR_lt h7 (by omega)
  have hRi : ∀ k, k < m → ∀ j, j < k → bR r j ≠ bR r k := fun k hk j hj => bits_inj r hr128 k (by omega) j hj
  have hRb : ∀ k, k < m → (pdN r s).testBit (bR r k) = s.testBit k := fun k hk => pd_bit r hr128 s (by rw [hm]; exact hs) k (by omega)
  have hrowR : ∀ k, k < m → M 168 k = nI (bR r k) := fun k hk => hrow k (show k < pc7 r by omega)
  have hW : wtF s 127 x m = x ^ pc7 s * (10 - x) ^ (m - pc7 s) := by rw [wtF_eq, cn_all m (by omega) s hs, pcA_r m (by omega) s hs]
  have h127 : ∀ k, k < 7 → (127 : Nat).testBit k = true := by decide
  have hho := okL_ho (t := pdN r s) hl hpd.2.1
  have hbits : ∀ v ∈ bitsL r, v < l.1 := fun v hv => by
    obtain ⟨k, hk, e⟩ := bR_in (bitsL_mem.mp hv).1 (bitsL_mem.mp hv).2
    rw [← e]; exact hRl k (by omega)
  have hbo := okB_run (l := hoL l (pdN r s)) hho hB hbits
  have hfl : foundB l.1 (hoB l b (pdN r s)) ≤ 2940 := by
    unfold hoB
    rw [hr]
    exact foundB_le (dy := dy) h7 hbo
  rw [← hW] at K
  have hkd : ∀ v, (hoL l (pdN r s)).2.2.1 v = if (pdN r s).testBit v then 0 else l.2.2.1 v := fun v => rfl
  have hl9 : (hoL l (pdN r s)).1 = l.1 := rfl
  obtain ⟨M2, hM2⟩ : ∃ M2, M2 = cpS M 0 242 := ⟨_, rfl⟩
  have k2 : sK 242 M M2 := by rw [hM2]; exact cpS_k
  have hS2 : rS M2 242 b := by rw [hM2]; exact rS_cp hS
  -- the loop that puts the kinds back
  have K241 : ∀ (M1 M3 : xMem) (up al2 : Nat) (A B : Int32), (∀ a, a ≠ 157 → a ≠ 169 → M1 a = M2 a) → (∀ j, j < m → M1 169 j = nI (l.2.2.1 (bR r j))) → (∀ v, (∀ j, j < m → bR r j ≠ v) → M1 157 v = M 157 v) → sK 242 M1 M3 → up = u + (if n ≤ foundB l.1 (hoB l b (pdN r s)) then wtF s 127 x m else 0) → al2 = al + wtF s 127 x m → xW G mX10_honest (d + 9) 0 0 Q 241 [some (.ref (G.1 + 156)), some (.int (nI n)), some (.int (nI x)), some (.int y3), some (.int (nI up)), some (.int (nI al2)), some (.int (nI s)), some (.int A), some (.int B), some (.int (nI 0))] [] SF M3 := by
    intro M1 M3 up al2 A B f1 f2 f3 k3 hup hal
    subst hup
    subst hal
    have e156 : M3 156 = M 156 := by rw [k3.1 156 (by decide), f1 156 (by decide) (by decide), k2.1 156 (by decide)]
    have e168 : M3 168 = M 168 := by rw [k3.1 168 (by decide), f1 168 (by decide) (by decide), k2.1 168 (by decide)]
    have e169 : ∀ j, j < m → M3 169 j = nI (l.2.2.1 (bR r j)) := fun j hj => by rw [k3.1 169 (by decide)]; exact f2 j hj
    have e157 : ∀ v, (∀ j, j < m → bR r j ≠ v) → M3 157 v = M 157 v := fun v hv => by rw [k3.1 157 (by decide)]; exact f3 v hv
    refine dn (P := fun k => ∀ M4 : xMem, (∀ a, a ≠ 157 → M4 a = M3 a) → (∀ j, j < k → M4 157 (bR r j) = nI (l.2.2.1 (bR r j))) → (∀ v, (∀ j, j < k → bR r j ≠ v) → M4 157 v = M3 157 v) → xW G mX10_honest (d + 9) 0 0 Q 241 [some (.ref (G.1 + 156)), some (.int (nI n)), some (.int (nI x)), some (.int y3), some (.int (nI (u + (if n ≤ foundB l.1 (hoB l b (pdN r s)) then wtF s 127 x m else 0)))), some (.int (nI (al + wtF s 127 x m))), some (.int (nI s)), some (.int A), some (.int B), some (.int (nI k))] [] SF M4) m ?_ ?_ 0 (by omega) M3 (fun _ _ => rfl) (fun j hj => by omega) (fun _ _ => rfl)
    · intro M4 g1 g2 g3
      have hmn4 : M4 156 23 = nI m := by rw [g1 156 (by decide), e156]; exact hmn
      have hro : roK M M4 := by
        refine ⟨fun a a1 a2 a3 a4 => ?_, fun j hj => by rw [g1 156 (by decide), e156], fun j hj => ?_⟩
        · by_cases e : a = 157
          · subst e
            funext v
            by_cases hv : ∃ j, j < m ∧ bR r j = v
            · obtain ⟨j, hj, rfl⟩ := hv
              rw [g2 j hj]
              exact (hL.2.2.1 _ (hRl j hj)).symm
            · have hv2 : ∀ j, j < m → bR r j ≠ v := fun j hj q => hv ⟨j, hj, q⟩
              rw [g3 v hv2, e157 v hv2]
          · rw [g1 a e, k3.1 a a4, f1 a e a3, k2.1 a a4]
        · rw [g1 162 (by decide), k3.2 j (by omega), f1 162 (by decide) (by decide), k2.2 j (by omega)]
      have h9 := fun A B C => K M4 A B C hro hmn4 (fun k hk => by rw [g1 168 (by decide), e168]; exact hrow k hk)
      refine xs_iload eX10_honest_241 rfl ?_
      refine xs_aload eX10_honest_243 rfl ?_
      refine xs_getI eX10_honest_244 (by assumption) (by rfl) ?_
      refine xs_eq1 hmn4 ?_
      refine xs_N_ge eX10_honest_247 (by omega) (by omega) (fun h247 => ?_) (fun h => absurd h (by omega))
      exact h9 _ _ _
    · intro k hk ih M4 g1 g2 g3
      have hmn4 : M4 156 23 = nI m := by rw [g1 156 (by decide), e156]; exact hmn
      have hr4 : M4 168 k = nI (bR r k) := by rw [g1 168 (by decide), e168]; exact hrowR k hk
      have hb4 : M4 169 k = nI (l.2.2.1 (bR r k)) := by rw [g1 169 (by decide)]; exact e169 k hk
      have hRk := hRl k hk
      have h9 := ih (up2 M4 157 (bR r k) (nI (l.2.2.1 (bR r k)))) (fun a ha => by rw [up2_ne ha]; exact g1 a ha) (fun j hj => by
        rw [up2_x]
        by_cases e : j = k
        · rw [if_pos (by rw [e]), e]
        · rw [if_neg (hRi k hk j (by omega))]; exact g2 j (by omega)) (fun v hv => by
        rw [up2_x, if_neg (fun q => hv k (by omega) q.symm)]
        exact g3 v (fun j hj => hv j (by omega)))
      refine xs_iload eX10_honest_241 rfl ?_
      refine xs_aload eX10_honest_243 rfl ?_
      refine xs_getI eX10_honest_244 (by assumption) (by rfl) ?_
      refine xs_eq1 hmn4 ?_
      refine xs_N_ge eX10_honest_247 (by omega) (by omega) (fun h => absurd h (by omega)) (fun h247 => ?_)
      refine xs_aload eX10_honest_250 rfl ?_
      refine xs_getR eX10_honest_251 (by assumption) (by rfl) ?_
      refine xs_aload eX10_honest_254 rfl ?_
      refine xs_getR eX10_honest_255 (by assumption) (by rfl) ?_
      refine xs_iload eX10_honest_258 rfl ?_
      refine xs_iald eX10_honest_260 (by assumption) (by omega) (by decide) ?_
      refine xs_eq1 hr4 ?_
      refine xs_aload eX10_honest_261 rfl ?_
      refine xs_getR eX10_honest_262 (by assumption) (by rfl) ?_
      refine xs_iload eX10_honest_265 rfl ?_
      refine xs_iald eX10_honest_267 (by assumption) (by omega) (by decide) ?_
      refine xs_eq1 hb4 ?_
      refine xs_iast eX10_honest_268 (by assumption) (by omega) (by decide) ?_
      refine xs_inc1 eX10_honest_269 rfl rfl rfl ?_
      refine xs_goto eX10_honest_272 ?_
      exact h9
  -- the loop that asks
  have K170 : ∀ (M1 : xMem), (∀ a, a ≠ 157 → a ≠ 169 → M1 a = M2 a) → (∀ j, j < m → M1 157 (bR r j) = nI ((hoL l (pdN r s)).2.2.1 (bR r j)) ∧ M1 169 j = nI (l.2.2.1 (bR r j))) → (∀ v, (∀ j, j < m → bR r j ≠ v) → M1 157 v = M 157 v) → xW G mX10_honest (d + 9) 0 0 Q 170 [some (.ref (G.1 + 156)), some (.int (nI n)), some (.int (nI x)), some (.int y3), some (.int (nI u)), some (.int (nI al)), some (.int (nI s)), some (.int (nI (wtF s 127 x m))), some (.int (nI 0)), some (.int (nI 0))] [] SF M1 := by
    intro M1 f1 f2 f3
    have hL1 : rLm M1 (hoL l (pdN r s)) := by
      obtain ⟨a1, a2, a3, a4, a5⟩ := hL
      have e156 : M1 156 = M 156 := by rw [f1 156 (by decide) (by decide), k2.1 156 (by decide)]
      refine ⟨by rw [e156]; exact a1, by rw [e156]; exact a2, fun v hv => ?_, ?_, ?_⟩
      · by_cases hv2 : ∃ j, j < m ∧ bR r j = v
        · obtain ⟨j, hj, rfl⟩ := hv2
          exact (f2 j hj).1
        · have hv3 : ∀ j, j < m → bR r j ≠ v := fun j hj q => hv2 ⟨j, hj, q⟩
          have hnb : (pdN r s).testBit v = false := by
            cases hx : (pdN r s).testBit v with
            | false => rfl
            | true =>
              rw [← hpd.2.2, Nat.testBit_and, Bool.and_eq_true] at hx
              obtain ⟨j, hj, e⟩ := bR_in (show v < 7 by have hv : v < l.1 := hv; omega) hx.2
              exact absurd e (hv3 j (by omega))
          rw [f3 v hv3, hkd, hnb]
          exact a3 v hv
      · rw [f1 158 (by decide) (by decide), k2.1 158 (by decide)]; exact a4
      · rw [f1 159 (by decide) (by decide), k2.1 159 (by decide)]; exact a5
    have hS1 : rS M1 242 b := rS_keep hS2 (fun j _ _ => by rw [f1 162 (by decide) (by decide)])
    have e156 : M1 156 23 = nI m := by rw [f1 156 (by decide) (by decide), k2.1 156 (by decide)]; exact hmn
    have e168 : M1 168 = M 168 := by rw [f1 168 (by decide) (by decide), k2.1 168 (by decide)]
    refine dn (P := fun k => ∀ (M3 : xMem) (t : Nat), t ≤ 420 * k → sK 242 M1 M3 → rS M3 242 (runB (hoL l (pdN r s)) b ((bitsL r).take k)) → xW G mX10_honest (d + 9) 0 0 Q 170 [some (.ref (G.1 + 156)), some (.int (nI n)), some (.int (nI x)), some (.int y3), some (.int (nI u)), some (.int (nI al)), some (.int (nI s)), some (.int (nI (wtF s 127 x m))), some (.int (nI t)), some (.int (nI k))] [] SF M3) m ?_ ?_ 0 (by omega) M1 0 (by omega) sK_rfl hS1
    · intro M3 t ht k3 hS3
      rw [List.take_of_length_le (show (bitsL r).length ≤ m from Nat.le_of_eq hm)] at hS3
      have hL3 := rLm_sK hL1 k3
      have hmn3 : M3 156 23 = nI m := by rw [k3.1 156 (by decide)]; exact e156
      have hF : foundB (hoL l (pdN r s)).1 (runB (hoL l (pdN r s)) b (bitsL r)) = foundB l.1 (hoB l b (pdN r s)) := by unfold hoB; rw [hr]; rfl
      have K9 := K241 M1 M3
      generalize foundB l.1 (hoB l b (pdN r s)) = F at *
      generalize wtF s 127 x m = W at *
      refine xs_iload eX10_honest_170 rfl ?_
      refine xs_aload eX10_honest_172 rfl ?_
      refine xs_getI eX10_honest_173 (by assumption) (by rfl) ?_
      refine xs_eq1 hmn3 ?_
      refine xs_N_ge eX10_honest_176 (by omega) (by omega) (fun h176 => ?_) (fun h => absurd h (by omega))
      refine xs_iload eX10_honest_204 rfl ?_
      refine xs_iload eX10_honest_206 rfl ?_
      refine xs_iadd eX10_honest_208 ?_
      refine xs_eq1 (nI_add _ _) ?_
      refine xs_istore eX10_honest_209 (Nat.le_of_ble_eq_true rfl) rfl rfl ?_
      refine xs_iload eX10_honest_211 rfl ?_
      refine xs_iload eX10_honest_213 rfl ?_
      refine xs_N0_lt eX10_honest_215 (by omega) ?_
      refine xs_aload eX10_honest_218 rfl ?_
      refine xs_K eX10_honest_219 ?_
      refine xs_callV1i eX10_honest_222 (by assumption) (Nat.le_of_ble_eq_true rfl) (c_X10_found (b := runB (hoL l (pdN r s)) b (bitsL r)) (dy := dy) hL3 hho hS3 hbo (by omega) ⟨_, rfl, ?_⟩)
      rw [hF]
      refine xs_iload eX10_honest_225 rfl ?_
      refine xs_N_lt eX10_honest_226 (by omega) (by omega) (fun h226 => ?_) (fun h226 => ?_)
      · refine xs_K eX10_honest_234 ?_
        refine xs_iadd eX10_honest_235 ?_
        refine xs_eq1 (nI_add u 0) ?_
        refine xs_istore eX10_honest_236 (Nat.le_of_ble_eq_true rfl) rfl rfl ?_
        refine xs_K eX10_honest_238 ?_
        refine xs_istore eX10_honest_239 (Nat.le_of_ble_eq_true rfl) rfl rfl ?_
        exact K9 _ _ _ _ f1 (fun j hj => (f2 j hj).2) f3 k3 (by rw [if_neg (by omega)]) rfl
      · refine xs_iload eX10_honest_229 rfl ?_
        refine xs_goto eX10_honest_231 ?_
        refine xs_iadd eX10_honest_235 ?_
        refine xs_eq1 (nI_add _ _) ?_
        refine xs_istore eX10_honest_236 (Nat.le_of_ble_eq_true rfl) rfl rfl ?_
        refine xs_K eX10_honest_238 ?_
        refine xs_istore eX10_honest_239 (Nat.le_of_ble_eq_true rfl) rfl rfl ?_
        exact K9 _ _ _ _ f1 (fun j hj => (f2 j hj).2) f3 k3 (by rw [if_pos (by omega)]) rfl
    · intro k hk ih M3 t ht k3 hS3
      have hL3 := rLm_sK hL1 k3
      have hmn3 : M3 156 23 = nI m := by rw [k3.1 156 (by decide)]; exact e156
      have hr3 : M3 168 k = nI (bR r k) := by rw [k3.1 168 (by decide), e168]; exact hrowR k hk
      have hv := hRl k hk
      have hbk := okB_run (l := hoL l (pdN r s)) hho hB (fun v hv => hbits v (List.mem_of_mem_take hv)) (o := (bitsL r).take k)
      have hsl := swN_le (near := (hoL l (pdN r s)).2.2.2.1) (hon := (hoL l (pdN r s)).2.2.2.2.1) (kd := (hoL l (pdN r s)).2.2.1 (bR r k)) hbk (show bR r k < 7 by omega) (Nat.lt_of_lt_of_le (hl.2.2.2.1 _ (by omega)) (pow7 h7))
      have hkl : k < (bitsL r).length := (show k < pc7 r by omega)
      rw [runB_take (o := bitsL r) hkl, show (bitsL r).getD k 0 = bR r k from rfl] at ih
      generalize bR r k = v at *
      generalize runB (hoL l (pdN r s)) b ((bitsL r).take k) = bk at *
      refine xs_iload eX10_honest_170 rfl ?_
      refine xs_aload eX10_honest_172 rfl ?_
      refine xs_getI eX10_honest_173 (by assumption) (by rfl) ?_
      refine xs_eq1 hmn3 ?_
      refine xs_N_ge eX10_honest_176 (by omega) (by omega) (fun h => absurd h (by omega)) (fun h176 => ?_)
      refine xs_iload eX10_honest_179 rfl ?_
      refine xs_aload eX10_honest_181 rfl ?_
      refine xs_K eX10_honest_182 ?_
      refine xs_aload eX10_honest_185 rfl ?_
      refine xs_getR eX10_honest_186 (by assumption) (by rfl) ?_
      refine xs_iload eX10_honest_189 rfl ?_
      refine xs_iald eX10_honest_191 (by assumption) (by omega) (by decide) ?_
      refine xs_eq1 hr3 ?_
      refine xs_callV2i eX10_honest_192 (by assumption) (Nat.le_of_ble_eq_true rfl) (c_X10_writes (b := bk) (dy := dy) hL3 hho hS3 hbk (by omega) hv (fun M4 g1 g2 => ⟨_, rfl, ?_⟩))
      refine xs_iadd eX10_honest_195 ?_
      refine xs_eq1 (nI_add t _) ?_
      refine xs_istore eX10_honest_196 (Nat.le_of_ble_eq_true rfl) rfl rfl ?_
      refine xs_inc1 eX10_honest_198 rfl rfl rfl ?_
      refine xs_goto eX10_honest_201 ?_
      exact ih M4 _ (by show _ ≤ _; omega) (sK_tr k3 g1) g2
  -- the loop that turns kinds
  refine xs_K eX10_honest_60 ?_
  refine xs_istore eX10_honest_61 (Nat.le_of_ble_eq_true rfl) rfl rfl ?_
  refine xs_aload eX10_honest_63 rfl ?_
  refine xs_K eX10_honest_64 ?_
  refine xs_K eX10_honest_65 ?_
  refine xs_callV2v eX10_honest_68 (by assumption) (Nat.le_of_ble_eq_true rfl) (c_X10_copied (by omega) (by omega) (by omega) ⟨rfl, ?_⟩)
  rw [← hM2]
  refine xs_K eX10_honest_71 ?_
  refine xs_istore eX10_honest_72 (Nat.le_of_ble_eq_true rfl) rfl rfl ?_
  refine dn (P := fun k => ∀ M1 : xMem, (∀ a, a ≠ 157 → a ≠ 169 → M1 a = M2 a) → (∀ j, j < k → M1 157 (bR r j) = nI ((hoL l (pdN r s)).2.2.1 (bR r j)) ∧ M1 169 j = nI (l.2.2.1 (bR r j))) → (∀ v, (∀ j, j < k → bR r j ≠ v) → M1 157 v = M 157 v) → xW G mX10_honest (d + 9) 0 0 Q 74 [some (.ref (G.1 + 156)), some (.int (nI n)), some (.int (nI x)), some (.int y3), some (.int (nI u)), some (.int (nI al)), some (.int (nI s)), some (.int (nI (wtF s 127 x k))), some (.int (nI k)), C] [] SF M1) m ?_ ?_ 0 (by omega) M2 (fun _ _ _ => rfl) (fun j hj => by omega) (fun v _ => by rw [k2.1 157 (by decide)])
  · intro M1 f1 f2 f3
    have e156 : M1 156 23 = nI m := by rw [f1 156 (by decide) (by decide), k2.1 156 (by decide)]; exact hmn
    have h9 := K170 M1 f1 f2 f3
    refine xs_iload eX10_honest_74 rfl ?_
    refine xs_aload eX10_honest_76 rfl ?_
    refine xs_getI eX10_honest_77 (by assumption) (by rfl) ?_
    refine xs_eq1 e156 ?_
    refine xs_N_ge eX10_honest_80 (by omega) (by omega) (fun h80 => ?_) (fun h => absurd h (by omega))
    refine xs_K eX10_honest_164 ?_
    refine xs_istore eX10_honest_165 (Nat.le_of_ble_eq_true rfl) rfl rfl ?_
    refine xs_K eX10_honest_167 ?_
    refine xs_istore eX10_honest_168 (Nat.le_of_ble_eq_true rfl) rfl rfl ?_
    exact h9
  · intro k hk ih M1 f1 f2 f3
    have e156 : M1 156 23 = nI m := by rw [f1 156 (by decide) (by decide), k2.1 156 (by decide)]; exact hmn
    have hr1 : M1 168 k = nI (bR r k) := by rw [f1 168 (by decide) (by decide), k2.1 168 (by decide)]; exact hrowR k hk
    have hRk := hRl k hk
    have hs1 : M1 157 (bR r k) = nI (l.2.2.1 (bR r k)) := by rw [f3 _ (fun j hj => hRi k hk j hj)]; exact hL.2.2.1 _ hRk
    have hbt : bt (nI s) k = s.testBit k := bt_nI (by omega)
    have hrb := hRb k hk
    rw [wtF, h127 k (by omega)] at ih
    have K104 : ∀ z : Nat, z = (if s.testBit k then wtF s 127 x k * x else if True then wtF s 127 x k * (10 - x) else wtF s 127 x k) → xW G mX10_honest (d + 9) 0 0 Q 104 [some (.ref (G.1 + 156)), some (.int (nI n)), some (.int (nI x)), some (.int y3), some (.int (nI u)), some (.int (nI al)), some (.int (nI s)), some (.int (nI (wtF s 127 x k))), some (.int (nI k)), C] [.int (nI z)] SF M1 := by
      intro z hz
      have h9 := ih (up2 (up2 M1 169 k (nI (l.2.2.1 (bR r k)))) 157 (bR r k) (nI ((hoL l (pdN r s)).2.2.1 (bR r k)))) (fun a a1 a2 => by rw [up2_ne a1, up2_ne a2]; exact f1 a a1 a2) (fun j hj => by
        rw [up2_x, up2_ne (by decide), up2_ne (by decide), up2_x]
        by_cases e : j = k
        · rw [if_pos (by rw [e]), if_pos e, e]; exact ⟨rfl, rfl⟩
        · rw [if_neg (hRi k hk j (by omega)), if_neg e]; exact f2 j (by omega)) (fun v hv => by
        rw [up2_x, if_neg (fun q => hv k (by omega) q.symm), up2_ne (by decide)]
        exact f3 v (fun j hj => hv j (by omega)))
      rw [hkd, hrb] at h9
      subst hz
      refine xs_istore eX10_honest_104 (Nat.le_of_ble_eq_true rfl) rfl rfl ?_
      refine xs_aload eX10_honest_106 rfl ?_
      refine xs_getR eX10_honest_107 (by assumption) (by rfl) ?_
      refine xs_iload eX10_honest_110 rfl ?_
      refine xs_aload eX10_honest_112 rfl ?_
      refine xs_getR eX10_honest_113 (by assumption) (by rfl) ?_
      refine xs_aload eX10_honest_116 rfl ?_
      refine xs_getR eX10_honest_117 (by assumption) (by rfl) ?_
      refine xs_iload eX10_honest_120 rfl ?_
      refine xs_iald eX10_honest_122 (by assumption) (by omega) (by decide) ?_
      refine xs_eq1 hr1 ?_
      refine xs_iald eX10_honest_123 (by assumption) (by omega) (by decide) ?_
      refine xs_eq1 hs1 ?_
      refine xs_iast eX10_honest_124 (by assumption) (by omega) (by decide) ?_
      refine xs_aload eX10_honest_125 rfl ?_
      refine xs_getR eX10_honest_126 (by assumption) (by rfl) ?_
      refine xs_aload eX10_honest_129 rfl ?_
      refine xs_getR eX10_honest_130 (by assumption) (by rfl) ?_
      refine xs_iload eX10_honest_133 rfl ?_
      refine xs_iald eX10_honest_135 (by assumption) (by omega) (by decide) ?_
      refine xs_eq1 (z := nI (bR r k)) (by rw [up2_ne (by decide)]; exact hr1) ?_
      refine xs_iload eX10_honest_136 rfl ?_
      refine xs_iload eX10_honest_138 rfl ?_
      refine xs_callS2i eX10_honest_140 (Nat.le_of_ble_eq_true rfl) (c_X10_has (by omega) ⟨_, rfl, ?_⟩)
      rw [hbt]
      refine xs_ifeqB eX10_honest_143 (fun h143 => ?_) (fun h143 => ?_)
      · refine xs_aload eX10_honest_150 rfl ?_
        refine xs_getR eX10_honest_151 (by assumption) (by rfl) ?_
        refine xs_iload eX10_honest_154 rfl ?_
        refine xs_iald eX10_honest_156 (by assumption) (by omega) (by decide) ?_
        refine xs_eq1 (z := nI (l.2.2.1 (bR r k))) (by rw [up2_x, if_pos rfl]) ?_
        refine xs_iast eX10_honest_157 (by assumption) (by omega) (by decide) ?_
        refine xs_inc1 eX10_honest_158 rfl rfl rfl ?_
        refine xs_goto eX10_honest_161 ?_
        simp only [h143, Bool.false_eq_true, if_false, if_true] at h9 ⊢
        exact h9
      · refine xs_K eX10_honest_146 ?_
        refine xs_goto eX10_honest_147 ?_
        refine xs_iast eX10_honest_157 (by assumption) (by omega) (by decide) ?_
        refine xs_inc1 eX10_honest_158 rfl rfl rfl ?_
        refine xs_goto eX10_honest_161 ?_
        simp only [h143, if_true] at h9 ⊢
        exact h9
    refine xs_iload eX10_honest_74 rfl ?_
    refine xs_aload eX10_honest_76 rfl ?_
    refine xs_getI eX10_honest_77 (by assumption) (by rfl) ?_
    refine xs_eq1 e156 ?_
    refine xs_N_ge eX10_honest_80 (by omega) (by omega) (fun h => absurd h (by omega)) (fun h80 => ?_)
    refine xs_iload eX10_honest_83 rfl ?_
    refine xs_iload eX10_honest_85 rfl ?_
    refine xs_iload eX10_honest_87 rfl ?_
    refine xs_callS2i eX10_honest_89 (Nat.le_of_ble_eq_true rfl) (c_X10_has (by omega) ⟨_, rfl, ?_⟩)
    rw [hbt]
    refine xs_ifeqB eX10_honest_92 (fun h92 => ?_) (fun h92 => ?_)
    · refine xs_K eX10_honest_99 ?_
      refine xs_iload eX10_honest_101 rfl ?_
      refine xs_isub eX10_honest_102 ?_
      refine xs_eq1 (pk_sub (by omega)) ?_
      refine xs_imul eX10_honest_103 ?_
      refine xs_eq1 (pk_mul _ _) ?_
      exact K104 _ (by simp [h92])
    · refine xs_iload eX10_honest_95 rfl ?_
      refine xs_goto eX10_honest_96 ?_
      refine xs_imul eX10_honest_103 ?_
      refine xs_eq1 (pk_mul _ _) ?_
      exact K104 _ (by simp [h92])
end HR

/-! THE CLASS's FACE, third part: ask, check, strike, undo, keep, back, count -/
theorem slN_inj {N o h k : Nat} (ho : o < N) (hh : h < N) (hk : k < N) (e : slN N o h = slN N o k) : h = k := by
  unfold slN at e
  split at e <;> split at e <;> omega
theorem slN_1 {N o h : Nat} (ho : o < N) (hh : h + 1 < N) : slN N (slN N o 1) h = slN N o (h + 1) := by
  unfold slN
  by_cases h1 : o + 1 < N
  · rw [if_pos h1]
    by_cases h2 : o + 1 + h < N
    · rw [if_pos h2, if_pos (by omega)]; omega
    · rw [if_neg h2, if_neg (by omega)]; omega
  · rw [if_neg h1]
    rw [if_pos (by omega), if_neg (by omega)]; omega
theorem pushM_ne {M : xMem} {q N b o z e a : Nat} (hq : isPl q N b) (ho : o < N) (hz : z ≤ N) (ha : a ≠ q) (hb : a < b ∨ b + 5 * N ≤ a) : pushM M q N b o z e a = M a := by
  have hN := plN hq
  unfold pushM
  split
  · have h1 := slN_lt (slN_lt ho (show 1 ≤ N by omega)) (show N - 1 ≤ N by omega)
    rw [up2_ne ha, cpB_ne (by omega), up2_ne ha, up2_ne ha]
  · have h1 := slN_lt ho hz
    rw [up2_ne ha, cpB_ne (by omega)]
theorem rP_push {M : xMem} {q N b o e : Nat} {L : List aBk} {k : aBk} (hq : isPl q N b) (ho : o < N) (h2 : M q 1 = nI o) (h3 : M q 2 = nI L.length) (h4 : L.length ≤ N) (h5 : ∀ i k, L[i]? = some k → rB M (b + 5 * slN N o (L.length - 1 - i)) k) (he : isBk e) (heb : e + 5 ≤ b ∨ b + 5 * N ≤ e) (heq : e + 5 ≤ q ∨ q < e) (hB : rB M e k) : rP (pushM M q N b o L.length e) q N b ((k :: L).take N) := by
  have hN := plN hq
  have hqb : q < b := by rcases hq with ⟨rfl, rfl, rfl⟩ | ⟨rfl, rfl, rfl⟩ <;> decide
  by_cases hz : L.length = N
  · have ho1 := slN_lt ho (show 1 ≤ N by omega)
    have hs := slN_lt ho1 (show N - 1 ≤ N by omega)
    have hlen : ((k :: L).take N).length = N := by rw [List.length_take, List.length_cons]; omega
    rw [pushM, if_pos hz]
    refine ⟨slN N o 1, ho1, ?_, by rw [hlen]; simp [up2], by omega, fun i k1 hi => ?_⟩
    · have e1 : ∀ A : xMem, up2 A q 2 (nI N) q 1 = A q 1 := fun A => by simp [up2]
      rw [e1, cpB_ne (by omega)]
      simp [up2]
    · rw [hlen]
      have hi2 : i < N := by have := (List.getElem?_eq_some_iff.mp hi).1; omega
      rw [List.getElem?_take_of_lt hi2] at hi
      rcases i with _ | i
      · cases hi
        rw [Nat.sub_zero]
        refine rB_keep (rB_cp (by omega) (rB_keep hB (fun a g1 g2 => by rw [up2_ne (by omega), up2_ne (by omega)]))) (fun a g1 g2 => up2_ne (by omega))
      · have hi' : L[i]? = some k1 := by simpa using hi
        have hsl : slN N (slN N o 1) (N - 1 - (i + 1)) = slN N o (L.length - 1 - i) := by rw [slN_1 ho (by omega), hz]; congr 1; omega
        have hne : slN N (slN N o 1) (N - 1 - (i + 1)) ≠ slN N (slN N o 1) (N - 1) := fun h => by have := slN_inj ho1 (by omega) (by omega) h; omega
        have hs2 := slN_lt ho1 (show N - 1 - (i + 1) ≤ N by omega)
        refine rB_keep (M := M) (by rw [hsl]; exact h5 i k1 hi') (fun a g1 g2 => ?_)
        rw [up2_ne (by omega), cpB_ne (by omega), up2_ne (by omega), up2_ne (by omega)]
  · have hs := slN_lt ho (show L.length ≤ N by omega)
    have htk : (k :: L).take N = k :: L := List.take_of_length_le (by rw [List.length_cons]; omega)
    rw [pushM, if_neg hz, htk]
    refine ⟨o, ho, ?_, by simp [up2], by rw [List.length_cons]; omega, fun i k1 hi => ?_⟩
    · have e1 : ∀ A : xMem, up2 A q 2 (nI (L.length + 1)) q 1 = A q 1 := fun A => by simp [up2]
      rw [e1, cpB_ne (by omega)]
      exact h2
    · rw [List.length_cons]
      rcases i with _ | i
      · cases hi
        rw [show L.length + 1 - 1 - 0 = L.length by omega]
        refine rB_keep (rB_cp (by omega) hB) (fun a g1 g2 => up2_ne (by omega))
      · have hi' : L[i]? = some k1 := by simpa using hi
        have hil := (List.getElem?_eq_some_iff.mp hi').1
        have hh : L.length + 1 - 1 - (i + 1) = L.length - 1 - i := by omega
        rw [hh]
        have hne : slN N o (L.length - 1 - i) ≠ slN N o L.length := fun h => by have := slN_inj ho (by omega) (by omega) h; omega
        have hs2 := slN_lt ho (show L.length - 1 - i ≤ N by omega)
        refine rB_keep (h5 i k1 hi') (fun a g1 g2 => ?_)
        rw [up2_ne (by omega), cpB_ne (by omega)]
theorem rP_pop {M : xMem} {q N b o e : Nat} {L : List aBk} {k : aBk} (hq : isPl q N b) (ho : o < N) (h2 : M q 1 = nI o) (h4 : (k :: L).length ≤ N) (h5 : ∀ i k1, (k :: L)[i]? = some k1 → rB M (b + 5 * slN N o ((k :: L).length - 1 - i)) k1) (he : isBk e) (heb : e + 5 ≤ b ∨ b + 5 * N ≤ e) (heq : e + 5 ≤ q ∨ q < e) : rP (cpB (up2 M q 2 (nI L.length)) e (b + 5 * slN N o L.length)) q N b L ∧ rB (cpB (up2 M q 2 (nI L.length)) e (b + 5 * slN N o L.length)) e k := by
  have hqb : q < b := by rcases hq with ⟨rfl, rfl, rfl⟩ | ⟨rfl, rfl, rfl⟩ <;> decide
  rw [List.length_cons] at h4
  have hs := slN_lt ho (show L.length ≤ N by omega)
  refine ⟨⟨o, ho, by rw [cpB_ne (by omega)]; simp [up2]; exact h2, by rw [cpB_ne (by omega)]; simp [up2], by omega, fun i k1 hi => ?_⟩, ?_⟩
  · have hil := (List.getElem?_eq_some_iff.mp hi).1
    have h9 := h5 (i + 1) k1 (by simpa using hi)
    rw [List.length_cons, show L.length + 1 - 1 - (i + 1) = L.length - 1 - i by omega] at h9
    have hs2 := slN_lt ho (show L.length - 1 - i ≤ N by omega)
    exact rB_keep h9 (fun a g1 g2 => by rw [cpB_ne (by omega), up2_ne (by omega)])
  · have h9 := h5 0 k rfl
    rw [List.length_cons, show L.length + 1 - 1 - 0 = L.length by omega] at h9
    exact rB_cp (by omega) (rB_keep h9 (fun a g1 g2 => up2_ne (by omega)))
section FC3
variable {G : xGl} {d N : Nat} {w : aX} {M : xMem} {Q : Option Value → List xSh → xMem → Prop} {y y1 y2 : Int32}
theorem pl41 : isPl 41 8 43 := Or.inl ⟨rfl, rfl, rfl⟩
theorem pl83 : isPl 83 2 85 := Or.inr ⟨rfl, rfl, rfl⟩
theorem ne41 : ∀ i, i < 8 → 43 + 5 * i ≠ 31 := fun i h => by omega
theorem ne83 : ∀ i, i < 2 → 85 + 5 * i ≠ 31 := fun i h => by omega
/-- the world behind a push of the book as it stands, and a change of it -/
theorem repC_push {M2 : xMem} {o : Nat} {b : aBk} (hR : repC w M) (ho : o < 8) (h2 : M 41 1 = nI o) (h3 : M 41 2 = nI w.2.2.2.1.length) (h4 : w.2.2.2.1.length ≤ 8) (h5 : ∀ i k, w.2.2.2.1[i]? = some k → rB M (43 + 5 * slN 8 o (w.2.2.2.1.length - 1 - i)) k) (hM : ∀ a, a < 31 ∨ 35 < a → M2 a = pushM M 41 8 43 o w.2.2.2.1.length 31 a) (hB : rB M2 31 b) : repC (w.1, w.2.1, b, pastX w, w.2.2.2.2) M2 ∧ hiK M M2 := by
  obtain ⟨a1, a2, a3, a4, a5, a6, a7⟩ := hR
  have k : ∀ a, (a < 31 ∨ (36 ≤ a ∧ a ≤ 40) ∨ 83 ≤ a) → M2 a = M a := fun a ha => by rw [hM a (by omega), pushM_ne pl41 ho h4 (by omega) (by omega)]
  refine ⟨⟨isTx_keep a1 (k 1 (by omega)) (k 2 (by omega)), rL_keep a2 (fun a _ _ => k a (by omega)), hB, rP_keep (rP_push pl41 ho h2 h3 h4 h5 isBk31 (by omega) (by omega) a3) (fun a hpa => hM a (by omega)), rP_keep a5 (fun a hpa => k a (by omega)), by rw [k 95 (by omega)]; exact a6, fun i q hi => by rw [k 96 (by omega), k 97 (by omega)]; exact a7 i q hi⟩, fun a ha => k a (by omega)⟩
theorem c_X9_ask (hR : repC w M) (hok : okX N w) (hQ : ∀ M1, hiK M M1 → repC (spAsk w y1 y2).2 M1 → Q (some (.int (spAsk w y1 y2).1)) SF M1) : xC G mX9_ask (d + 9) 0 0 [.ref (G.1 + 0), .int y1, .int y2] SF M Q := by
  have s0 := sh0
  have b0 := bk0 isBk31
  have p0 := pl0 pl41
  have isb := isBk31
  have isp := pl41
  have nep := ne41
  obtain ⟨-, hL, hB, hP, -⟩ := id hR
  have hn := hL.1
  have hnp := hL.2.1
  have ho := hok.2.1.1
  have ho2 := hok.2.1.2.1
  unfold spAsk at hQ
  dsimp only at hQ
  have K : inN y1 w.2.1.2.1 = true → inN y2 w.2.1.1 = true → xW G mX9_ask (d + 9) 0 0 Q 18 [some (.ref (G.1 + 0)), some (.int y1), some (.int y2)] [] SF M := by
    intro q1 q2
    rw [q1, q2] at hQ
    obtain ⟨p, hp, rfl⟩ := inN_of (by omega) q1
    obtain ⟨v, hv, rfl⟩ := inN_of (by omega) q2
    rw [nI_clamp (by omega), nI_clamp (by omega)] at hQ
    have hv7 : v < 7 := by omega
    have hp3 : p < 3 := by omega
    have hpl := (hB.2.2.2 p hp3).1
    have hpw := (hok.2.2.1.2.2.2.2 p hp3).1
    have hw7 : w.2.2.1.2.2.2.2.1 p < 7 := by omega
    have hbb := rB_bt hB hv7
    have hD : M (24 + w.2.2.1.2.2.2.2.1 p) v = nI (w.2.1.2.2.2.2.2 (w.2.2.1.2.2.2.2.1 p) v) := hL.2.2.2.2 _ v hw7 hv7
    have hdb := hok.2.1.2.2.2.2.2 _ v hpw hv
    have hcan : (!bt (M 31 5) v && decide (M (24 + w.2.2.1.2.2.2.2.1 p) v < nI 1000000)) = canA w.2.1 w.2.2.1 p v := by
      rw [hbb.1, hD]
      unfold canA
      congr 1
      generalize w.2.1.2.2.2.2.2 (w.2.2.1.2.2.2.2.1 p) v = z at *
      have e1 : (nI z < nI 1000000) = (z ≠ 1000000) := propext ⟨fun h => by have := (nI_ltI (by omega) (by decide)).mp h; omega, fun h => (nI_ltI (by omega) (by decide)).mpr (by omega)⟩
      simp only [e1]
    obtain ⟨o, o1, o2, o3, o4, o5⟩ := hP
    have hne := okX_near hok hv7
    have hib := (okX_ib hok).1
    have hlv := hL.2.2.2.1 v hv7
    have hkd := hok.2.1.2.2.1 v hv7
    have hsw := sw_of (kd := w.2.1.2.2.1 v) (hon := w.2.1.2.2.2.2.1) hv7 hB.e hlv.2 hne (fun v hv => okB_ox hok.2.2.1 hv)
    generalize hM1 : pushM M 41 8 43 o w.2.2.2.1.length 31 = M1
    have k : ∀ a, a ≤ 40 → M1 a = M a := fun a ha => by rw [← hM1, pushM_ne pl41 o1 o4 (by omega) (by omega)]
    have hL1 : rL M1 w.2.1 := rL_keep hL (fun a _ _ => k a (by omega))
    have hB1 : rB M1 31 w.2.2.1 := rB_keep hB (fun a _ _ => k a (by omega))
    have hpl1 := (hB1.2.2.2 p hp3).1
    have hkd1 := (hL1.2.2.2.1 v hv7).1
    have hl1 := an_low (v := v) hB1.1 (hL1.2.2.2.1 v hv7).2 hne
    have hQ1 : canA w.2.1 w.2.2.1 p v = true → Q (some (.int (swornP (M1 22 v &&& M1 31 5) (M1 18 7) (M1 (31 + 1)) (M1 (31 + 2)) v (w.2.1.2.2.1 v)))) SF (askM M1 31 p v (w.2.2.1.2.2.2.2.1 p) (w.2.1.2.2.1 v) (M1 18 7)) := by
      intro hc
      rw [hc] at hQ
      simp only [Bool.and_self, if_true] at hQ
      have hrb := rB_ask (l := w.2.1) isBk31 hp3 hv7 hL1 hB1 hw7 hne hib (fun v hv => okB_ox hok.2.2.1 hv)
      obtain ⟨r1, r2⟩ := repC_push (M2 := askM M1 31 p v (w.2.2.1.2.2.2.2.1 p) (w.2.1.2.2.1 v) (M1 18 7)) hR o1 o2 o3 o4 o5 (fun a ha => by rw [askM_ne (by omega), hM1]) hrb
      refine Qev (hQ _ r2 r1) ?_
      rw [k 22 (by omega), k 31 (by omega), k 18 (by omega), k (31 + 1) (by omega), k (31 + 2) (by omega), hL.2.2.1]
      exact hsw.symm
    refine xs_aload eX9_ask_18 rfl ?_
    refine xs_getR eX9_ask_19 (by assumption) (by rfl) ?_
    refine xs_iload eX9_ask_22 rfl ?_
    refine xs_iload eX9_ask_23 rfl ?_
    refine xs_callV2i eX9_ask_24 (by assumption) (Nat.le_of_ble_eq_true rfl) (c_X0_canBeAsked (by assumption) (by omega) (by omega) (by assumption) (by omega) ⟨_, rfl, ?_⟩)
    rw [hcan]
    refine xs_ifneB eX9_ask_27 (fun h27 => ?_) (fun h27 => ?_)
    · refine xs_aload eX9_ask_33 rfl ?_
      refine xs_getR eX9_ask_34 (by assumption) (by rfl) ?_
      refine xs_aload eX9_ask_37 rfl ?_
      refine xs_getR eX9_ask_38 (by assumption) (by rfl) ?_
      refine xs_callV1v eX9_ask_41 (by assumption) (Nat.le_of_ble_eq_true rfl) (c_X4_push (by assumption) (by assumption) (by omega) (by assumption) (by omega) (by assumption) (by assumption) ⟨rfl, ?_⟩)
      rw [hM1]
      refine xs_aload eX9_ask_44 rfl ?_
      refine xs_getR eX9_ask_45 (by assumption) (by rfl) ?_
      refine xs_iload eX9_ask_48 rfl ?_
      refine xs_iload eX9_ask_49 rfl ?_
      refine xs_callV2i eX9_ask_50 (by assumption) (Nat.le_of_ble_eq_true rfl) (c_X0_askBy (by assumption) (by omega) (by omega) (by assumption) (by omega) (by assumption) (by omega) (by assumption) ⟨_, rfl, ?_⟩)
      exact xs_iretI eX9_ask_53 rfl (hQ1 h27)
    · refine xs_K eX9_ask_30 ?_
      exact xs_iretI eX9_ask_32 rfl (by rw [h27] at hQ; exact hQ M (fun _ _ => rfl) hR)
  refine xC_intro [some (.ref (G.1 + 0)), some (.int y1), some (.int y2)] rfl (by decide) (Nat.le_of_ble_eq_true rfl) ?_
  refine xs_aload eX9_ask_0 rfl ?_
  refine xs_iload eX9_ask_1 rfl ?_
  refine xs_callV1i eX9_ask_2 (by assumption) (Nat.le_of_ble_eq_true rfl) (c_X9_isParty (by assumption) ⟨_, rfl, ?_⟩)
  refine xs_ifeqB eX9_ask_5 (fun h5 => ?_) (fun h5 => ?_)
  · refine xs_K eX9_ask_16 ?_
    exact xs_iretI eX9_ask_17 rfl (by rw [h5] at hQ; exact hQ M (fun _ _ => rfl) hR)
  · refine xs_aload eX9_ask_8 rfl ?_
    refine xs_iload eX9_ask_9 rfl ?_
    refine xs_callV1i eX9_ask_10 (by assumption) (Nat.le_of_ble_eq_true rfl) (c_X9_isVillage (by assumption) ⟨_, rfl, ?_⟩)
    refine xs_ifneB eX9_ask_13 (fun h13 => ?_) (fun h13 => ?_)
    · exact K h5 h13
    · refine xs_K eX9_ask_16 ?_
      exact xs_iretI eX9_ask_17 rfl (by rw [h5, h13] at hQ; exact hQ M (fun _ _ => rfl) hR)
theorem c_X9_check (hR : repC w M) (hok : okX N w) (hQ : ∀ M1, hiK M M1 → repC (spCheck w y).2 M1 → Q (some (.int (spCheck w y).1)) SF M1) : xC G mX9_check (d + 9) 0 0 [.ref (G.1 + 0), .int y] SF M Q := by
  have s0 := sh0
  have b0 := bk0 isBk31
  have p0 := pl0 pl41
  have isb := isBk31
  have isp := pl41
  have nep := ne41
  obtain ⟨-, hL, hB, hP, -⟩ := id hR
  have hn := hL.1
  have ho := hok.2.1.1
  unfold spCheck at hQ
  dsimp only at hQ
  have K : inN y w.2.1.1 = true → xW G mX9_check (d + 9) 0 0 Q 10 [some (.ref (G.1 + 0)), some (.int y)] [] SF M := by
    intro q1
    rw [q1, if_pos rfl] at hQ
    obtain ⟨v, hv, rfl⟩ := inN_of (by omega) q1
    rw [nI_clamp (by omega)] at hQ
    have hv7 : v < 7 := by omega
    have hbb := rB_bt hB hv7
    have hck := (okX_ib hok).2
    obtain ⟨o, o1, o2, o3, o4, o5⟩ := hP
    generalize hM1 : pushM M 41 8 43 o w.2.2.2.1.length 31 = M1
    have k : ∀ a, a ≤ 40 → M1 a = M a := fun a ha => by rw [← hM1, pushM_ne pl41 o1 o4 (by omega) (by omega)]
    have hB1 : rB M1 31 w.2.2.1 := rB_keep hB (fun a _ _ => k a (by omega))
    have hr := hB1.2.2.1 v hv7
    rw [← hbb.1, ← hbb.2] at hQ
    have hQ1 : (bt (M 31 5) v && !bt (M 31 6) v) = true → Q (some (.int (M1 (31 + 1) v - M1 (31 + 2) v + nI 500))) SF (checkM M1 31 v) := by
      intro hc
      rw [hc, if_pos rfl] at hQ
      obtain ⟨r1, r2⟩ := repC_push (M2 := checkM M1 31 v) hR o1 o2 o3 o4 o5 (fun a ha => by rw [checkM_ne (by omega), hM1]) (rB_check hv7 hB1 hck)
      refine Qev (hQ _ r2 r1) ?_
      rw [hr.1, hr.2]
    refine xs_aload eX9_check_10 rfl ?_
    refine xs_getR eX9_check_11 (by assumption) (by rfl) ?_
    refine xs_iload eX9_check_14 rfl ?_
    refine xs_callV1i eX9_check_15 (by assumption) (Nat.le_of_ble_eq_true rfl) (c_X0_canBeChecked (by assumption) (by omega) ⟨_, rfl, ?_⟩)
    refine xs_ifneB eX9_check_18 (fun h18 => ?_) (fun h18 => ?_)
    · refine xs_aload eX9_check_24 rfl ?_
      refine xs_getR eX9_check_25 (by assumption) (by rfl) ?_
      refine xs_aload eX9_check_28 rfl ?_
      refine xs_getR eX9_check_29 (by assumption) (by rfl) ?_
      refine xs_callV1v eX9_check_32 (by assumption) (Nat.le_of_ble_eq_true rfl) (c_X4_push (by assumption) (by assumption) (by omega) (by assumption) (by omega) (by assumption) (by assumption) ⟨rfl, ?_⟩)
      rw [hM1]
      refine xs_aload eX9_check_35 rfl ?_
      refine xs_getR eX9_check_36 (by assumption) (by rfl) ?_
      refine xs_iload eX9_check_39 rfl ?_
      refine xs_callV1i eX9_check_40 (by assumption) (Nat.le_of_ble_eq_true rfl) (c_X0_writeOxen (by assumption) (by omega) ⟨_, rfl, ?_⟩)
      refine xs_K eX9_check_43 ?_
      refine xs_iadd eX9_check_46 ?_
      exact xs_iretI eX9_check_47 rfl (hQ1 h18)
    · refine xs_K eX9_check_21 ?_
      exact xs_iretI eX9_check_23 rfl (by rw [h18] at hQ; exact hQ M (fun _ _ => rfl) hR)
  refine xC_intro [some (.ref (G.1 + 0)), some (.int y)] rfl (by decide) (Nat.le_of_ble_eq_true rfl) ?_
  refine xs_aload eX9_check_0 rfl ?_
  refine xs_iload eX9_check_1 rfl ?_
  refine xs_callV1i eX9_check_2 (by assumption) (Nat.le_of_ble_eq_true rfl) (c_X9_isVillage (by assumption) ⟨_, rfl, ?_⟩)
  refine xs_ifneB eX9_check_5 (fun h5 => ?_) (fun h5 => ?_)
  · exact K h5
  · refine xs_K eX9_check_8 ?_
    exact xs_iretI eX9_check_9 rfl (by rw [h5] at hQ; exact hQ M (fun _ _ => rfl) hR)
theorem c_X9_strike (hR : repC w M) (hok : okX N w) (hQ : ∀ M1, hiK M M1 → repC (spStrike w y).2 M1 → Q (some (.int (spStrike w y).1)) SF M1) : xC G mX9_strike (d + 9) 0 0 [.ref (G.1 + 0), .int y] SF M Q := by
  have s0 := sh0
  have b0 := bk0 isBk31
  have p0 := pl0 pl41
  have isb := isBk31
  have isp := pl41
  have nep := ne41
  obtain ⟨-, hL, hB, hP, -⟩ := id hR
  have hn := hL.1
  have ho := hok.2.1.1
  unfold spStrike at hQ
  dsimp only at hQ
  have K : inN y w.2.1.1 = true → xW G mX9_strike (d + 9) 0 0 Q 10 [some (.ref (G.1 + 0)), some (.int y)] [] SF M := by
    intro q1
    rw [q1, if_pos rfl] at hQ
    obtain ⟨v, hv, rfl⟩ := inN_of (by omega) q1
    rw [nI_clamp (by omega)] at hQ
    have hv7 : v < 7 := by omega
    have hbb := rB_bt hB hv7
    have hck := okX_ib hok
    obtain ⟨o, o1, o2, o3, o4, o5⟩ := hP
    generalize hM1 : pushM M 41 8 43 o w.2.2.2.1.length 31 = M1
    have k : ∀ a, a ≤ 40 → M1 a = M a := fun a ha => by rw [← hM1, pushM_ne pl41 o1 o4 (by omega) (by omega)]
    have hB1 : rB M1 31 w.2.2.1 := rB_keep hB (fun a _ _ => k a (by omega))
    have hr := hB1.2.2.1 v hv7
    rw [← hbb.1] at hQ
    have hQ1 : bt (M 31 5) v = true → Q (some (.int (M1 (31 + 2) v))) SF (strikeM M1 31 v) := by
      intro hc
      rw [hc, if_pos rfl] at hQ
      obtain ⟨r1, r2⟩ := repC_push (M2 := strikeM M1 31 v) hR o1 o2 o3 o4 o5 (fun a ha => by rw [strikeM_ne (by omega), hM1]) (rB_strike hv7 hB1 hck.1 hck.2)
      refine Qev (hQ _ r2 r1) ?_
      rw [hr.2]
    refine xs_aload eX9_strike_10 rfl ?_
    refine xs_getR eX9_strike_11 (by assumption) (by rfl) ?_
    refine xs_iload eX9_strike_14 rfl ?_
    refine xs_callV1i eX9_strike_15 (by assumption) (Nat.le_of_ble_eq_true rfl) (c_X0_holds (by assumption) (by omega) ⟨_, rfl, ?_⟩)
    refine xs_ifneB eX9_strike_18 (fun h18 => ?_) (fun h18 => ?_)
    · refine xs_aload eX9_strike_24 rfl ?_
      refine xs_getR eX9_strike_25 (by assumption) (by rfl) ?_
      refine xs_aload eX9_strike_28 rfl ?_
      refine xs_getR eX9_strike_29 (by assumption) (by rfl) ?_
      refine xs_callV1v eX9_strike_32 (by assumption) (Nat.le_of_ble_eq_true rfl) (c_X4_push (by assumption) (by assumption) (by omega) (by assumption) (by omega) (by assumption) (by assumption) ⟨rfl, ?_⟩)
      rw [hM1]
      refine xs_aload eX9_strike_35 rfl ?_
      refine xs_getR eX9_strike_36 (by assumption) (by rfl) ?_
      refine xs_iload eX9_strike_39 rfl ?_
      refine xs_callV1i eX9_strike_40 (by assumption) (Nat.le_of_ble_eq_true rfl) (c_X0_strikeOut (by assumption) (by omega) ⟨_, rfl, ?_⟩)
      exact xs_iretI eX9_strike_43 rfl (hQ1 h18)
    · refine xs_K eX9_strike_21 ?_
      exact xs_iretI eX9_strike_23 rfl (by rw [h18] at hQ; exact hQ M (fun _ _ => rfl) hR)
  refine xC_intro [some (.ref (G.1 + 0)), some (.int y)] rfl (by decide) (Nat.le_of_ble_eq_true rfl) ?_
  refine xs_aload eX9_strike_0 rfl ?_
  refine xs_iload eX9_strike_1 rfl ?_
  refine xs_callV1i eX9_strike_2 (by assumption) (Nat.le_of_ble_eq_true rfl) (c_X9_isVillage (by assumption) ⟨_, rfl, ?_⟩)
  refine xs_ifneB eX9_strike_5 (fun h5 => ?_) (fun h5 => ?_)
  · exact K h5
  · refine xs_K eX9_strike_8 ?_
    exact xs_iretI eX9_strike_9 rfl (by rw [h5] at hQ; exact hQ M (fun _ _ => rfl) hR)
theorem c_X9_undo (hR : repC w M) (hok : okX N w) (hQ : ∀ M1, hiK M M1 → repC (spUndo w).2 M1 → Q (some (.int (spUndo w).1)) SF M1) : xC G mX9_undo (d + 9) 0 0 [.ref (G.1 + 0)] SF M Q := by
  have s0 := sh0
  have b0 := bk0 isBk31
  have p0 := pl0 pl41
  have isb := isBk31
  have isp := pl41
  have nep := ne41
  obtain ⟨a1, a2, a3, hP, a5, a6, a7⟩ := id hR
  obtain ⟨o, o1, o2, o3, o4, o5⟩ := hP
  unfold spUndo at hQ
  refine xC_intro [some (.ref (G.1 + 0))] rfl (by decide) (Nat.le_of_ble_eq_true rfl) ?_
  cases hl : w.2.2.2.1 with
  | nil =>
    rw [hl] at hQ o3
    rw [List.length_nil] at o3
    refine xs_aload eX9_undo_0 rfl ?_
    refine xs_getR eX9_undo_1 (by assumption) (by rfl) ?_
    refine xs_getI eX9_undo_4 (by assumption) (by rfl) ?_
    refine xs_eq1 o3 ?_
    refine xs_N0_ne eX9_undo_7 (by omega) (fun h => absurd h (by omega)) (fun h7 => ?_)
    refine xs_K eX9_undo_10 ?_
    exact xs_iretI eX9_undo_12 rfl (hQ M (fun _ _ => rfl) hR)
  | cons b r =>
    rw [hl] at hQ o3 o4 o5
    rw [List.length_cons] at o3
    have hrl : r.length + 1 ≤ 8 := o4
    obtain ⟨r1, r2⟩ := rP_pop (e := 31) pl41 o1 o2 o4 o5 isBk31 (by omega) (by omega)
    have hs := slN_lt o1 (show r.length ≤ 8 by omega)
    have k : ∀ a, (a < 31 ∨ 83 ≤ a) → cpB (up2 M 41 2 (nI r.length)) 31 (43 + 5 * slN 8 o r.length) a = M a := fun a ha => by rw [cpB_ne (by omega), up2_ne (by omega)]
    have hQ1 := hQ _ (fun a ha => k a (by omega)) ⟨isTx_keep a1 (k 1 (by omega)) (k 2 (by omega)), rL_keep a2 (fun a _ _ => k a (by omega)), r2, r1, rP_keep a5 (fun a hpa => k a (by omega)), by rw [k 95 (by omega)]; exact a6, fun i q hi => by rw [k 96 (by omega), k 97 (by omega)]; exact a7 i q hi⟩
    have hz9 : cpB (up2 M 41 2 (nI r.length)) 31 (43 + 5 * slN 8 o r.length) 41 2 = nI r.length := by rw [cpB_ne (by omega)]; simp [up2]
    refine xs_aload eX9_undo_0 rfl ?_
    refine xs_getR eX9_undo_1 (by assumption) (by rfl) ?_
    refine xs_getI eX9_undo_4 (by assumption) (by rfl) ?_
    refine xs_eq1 o3 ?_
    refine xs_N0_ne eX9_undo_7 (by omega) (fun h7 => ?_) (fun h => absurd h (by omega))
    refine xs_aload eX9_undo_13 rfl ?_
    refine xs_getR eX9_undo_14 (by assumption) (by rfl) ?_
    refine xs_aload eX9_undo_17 rfl ?_
    refine xs_getR eX9_undo_18 (by assumption) (by rfl) ?_
    refine xs_callV1v eX9_undo_21 (by assumption) (Nat.le_of_ble_eq_true rfl) (c_X4_popInto (z := r.length + 1) isp o2 o1 o3 (by omega) (by omega) isb nep ⟨rfl, ?_⟩)
    refine xs_aload eX9_undo_24 rfl ?_
    refine xs_getR eX9_undo_25 (by assumption) (by rfl) ?_
    refine xs_getI eX9_undo_28 (by assumption) (by rfl) ?_
    refine xs_eq1 hz9 ?_
    exact xs_iretI eX9_undo_31 rfl (hQ1)
theorem c_X9_keep (hR : repC w M) (hok : okX N w) (hQ : ∀ M1, hiK M M1 → repC (spKeep w).2 M1 → Q (some (.int (spKeep w).1)) SF M1) : xC G mX9_keep (d + 9) 0 0 [.ref (G.1 + 0)] SF M Q := by
  have s0 := sh0
  have b0 := bk0 isBk31
  have p0 := pl0 pl83
  have isb := isBk31
  have isp := pl83
  have nep := ne83
  obtain ⟨a1, a2, a3, a4, hP, a6, a7⟩ := id hR
  obtain ⟨o, o1, o2, o3, o4, o5⟩ := hP
  unfold spKeep at hQ
  have hQ1 : ¬ w.2.2.2.2.1.length = 2 → Q (some (.int (nI (w.2.2.2.2.1.length + 1)))) SF (pushM M 83 2 85 o w.2.2.2.2.1.length 31) := by
    intro hne
    rw [if_neg hne] at hQ
    have k : ∀ a, (a < 83 ∨ 95 ≤ a) → pushM M 83 2 85 o w.2.2.2.2.1.length 31 a = M a := fun a ha => pushM_ne pl83 o1 o4 (by omega) (by omega)
    have r1 := rP_push (k := w.2.2.1) pl83 o1 o2 o3 o4 o5 isBk31 (by omega) (by omega) a3
    rw [List.take_of_length_le (by rw [List.length_cons]; omega)] at r1
    exact hQ _ (fun a ha => k a (by omega)) ⟨isTx_keep a1 (k 1 (by omega)) (k 2 (by omega)), rL_keep a2 (fun a _ _ => k a (by omega)), rB_keep a3 (fun a _ _ => k a (by omega)), rP_keep a4 (fun a hpa => k a (by omega)), r1, by rw [k 95 (by omega)]; exact a6, fun i q hi => by rw [k 96 (by omega), k 97 (by omega)]; exact a7 i q hi⟩
  have hz9 : ¬ w.2.2.2.2.1.length = 2 → pushM M 83 2 85 o w.2.2.2.2.1.length 31 83 2 = nI (w.2.2.2.2.1.length + 1) := fun hne => by rw [pushM, if_neg hne]; simp [up2]
  refine xC_intro [some (.ref (G.1 + 0))] rfl (by decide) (Nat.le_of_ble_eq_true rfl) ?_
  refine xs_aload eX9_keep_0 rfl ?_
  refine xs_getR eX9_keep_1 (by assumption) (by rfl) ?_
  refine xs_callV0i eX9_keep_4 (by assumption) (Nat.le_of_ble_eq_true rfl) (c_X4_isFull (by assumption) (by assumption) (by omega) ⟨_, rfl, ?_⟩)
  refine xs_ifeqB eX9_keep_7 (fun h7 => ?_) (fun h7 => ?_)
  · refine xs_aload eX9_keep_13 rfl ?_
    refine xs_getR eX9_keep_14 (by assumption) (by rfl) ?_
    refine xs_aload eX9_keep_17 rfl ?_
    refine xs_getR eX9_keep_18 (by assumption) (by rfl) ?_
    refine xs_callV1v eX9_keep_21 (by assumption) (Nat.le_of_ble_eq_true rfl) (c_X4_push (by assumption) (by assumption) (by omega) (by assumption) (by omega) (by assumption) (by assumption) ⟨rfl, ?_⟩)
    refine xs_aload eX9_keep_24 rfl ?_
    refine xs_getR eX9_keep_25 (by assumption) (by rfl) ?_
    refine xs_getI eX9_keep_28 (by assumption) (by rfl) ?_
    refine xs_eq1 (hz9 (of_decide_eq_false h7)) ?_
    exact xs_iretI eX9_keep_31 rfl (hQ1 (of_decide_eq_false h7))
  · refine xs_K eX9_keep_10 ?_
    exact xs_iretI eX9_keep_12 rfl (by rw [if_pos (of_decide_eq_true h7)] at hQ; exact hQ M (fun _ _ => rfl) hR)
theorem c_X9_back (hR : repC w M) (hok : okX N w) (hQ : ∀ M1, hiK M M1 → repC (spBack w).2 M1 → Q (some (.int (spBack w).1)) SF M1) : xC G mX9_back (d + 9) 0 0 [.ref (G.1 + 0)] SF M Q := by
  have s0 := sh0
  have b0 := bk0 isBk31
  have p0 := pl0 pl83
  have p41 := pl0 pl41
  have isb := isBk31
  have isp := pl83
  have isp41 := pl41
  have nep := ne83
  obtain ⟨a1, a2, a3, a4, hP, a6, a7⟩ := id hR
  obtain ⟨o, o1, o2, o3, o4, o5⟩ := hP
  unfold spBack at hQ
  refine xC_intro [some (.ref (G.1 + 0))] rfl (by decide) (Nat.le_of_ble_eq_true rfl) ?_
  cases hl : w.2.2.2.2.1 with
  | nil =>
    rw [hl] at hQ o3
    rw [List.length_nil] at o3
    refine xs_aload eX9_back_0 rfl ?_
    refine xs_getR eX9_back_1 (by assumption) (by rfl) ?_
    refine xs_getI eX9_back_4 (by assumption) (by rfl) ?_
    refine xs_eq1 o3 ?_
    refine xs_N0_ne eX9_back_7 (by omega) (fun h => absurd h (by omega)) (fun h7 => ?_)
    refine xs_K eX9_back_10 ?_
    exact xs_iretI eX9_back_12 rfl (hQ M (fun _ _ => rfl) hR)
  | cons b r =>
    rw [hl] at hQ o3 o4 o5
    rw [List.length_cons] at o3
    have hrl : r.length + 1 ≤ 2 := o4
    obtain ⟨r1, r2⟩ := rP_pop (e := 31) pl83 o1 o2 o4 o5 isBk31 (by omega) (by omega)
    have hs := slN_lt o1 (show r.length ≤ 2 by omega)
    generalize hM1 : cpB (up2 M 83 2 (nI r.length)) 31 (85 + 5 * slN 2 o r.length) = M1 at r1 r2
    have k : ∀ a, (a < 31 ∨ (36 ≤ a ∧ a ≤ 82) ∨ 95 ≤ a) → M1 a = M a := fun a ha => by rw [← hM1, cpB_ne (by omega), up2_ne (by omega)]
    have k2 : ∀ a, a ≠ 41 → up2 (up2 M1 41 1 (nI 0)) 41 2 (nI 0) a = M1 a := fun a ha => by rw [up2_ne ha, up2_ne ha]
    have hz9 : up2 (up2 M1 41 1 (nI 0)) 41 2 (nI 0) 83 2 = nI r.length := by rw [k2 83 (by decide), ← hM1, cpB_ne (by omega)]; simp [up2]
    have hQ1 := hQ (up2 (up2 M1 41 1 (nI 0)) 41 2 (nI 0)) (fun a ha => by rw [k2 a (by omega)]; exact k a (by omega)) ⟨isTx_keep a1 (by rw [k2 1 (by omega)]; exact k 1 (by omega)) (by rw [k2 2 (by omega)]; exact k 2 (by omega)), rL_keep a2 (fun a _ _ => by rw [k2 a (by omega)]; exact k a (by omega)), rB_keep r2 (fun a _ _ => k2 a (by omega)), ⟨0, by decide, by simp [up2], by simp [up2], by simp, fun i q hi => by simp at hi⟩, rP_keep r1 (fun a hpa => k2 a (by omega)), by rw [k2 95 (by omega), k 95 (by omega)]; exact a6, fun i q hi => by rw [k2 96 (by omega), k2 97 (by omega), k 96 (by omega), k 97 (by omega)]; exact a7 i q hi⟩
    refine xs_aload eX9_back_0 rfl ?_
    refine xs_getR eX9_back_1 (by assumption) (by rfl) ?_
    refine xs_getI eX9_back_4 (by assumption) (by rfl) ?_
    refine xs_eq1 o3 ?_
    refine xs_N0_ne eX9_back_7 (by omega) (fun h7 => ?_) (fun h => absurd h (by omega))
    refine xs_aload eX9_back_13 rfl ?_
    refine xs_getR eX9_back_14 (by assumption) (by rfl) ?_
    refine xs_aload eX9_back_17 rfl ?_
    refine xs_getR eX9_back_18 (by assumption) (by rfl) ?_
    refine xs_callV1v eX9_back_21 (by assumption) (Nat.le_of_ble_eq_true rfl) (c_X4_popInto (z := r.length + 1) isp o2 o1 o3 (by omega) (by omega) isb nep ⟨rfl, ?_⟩)
    rw [show r.length + 1 - 1 = r.length from rfl, hM1]
    refine xs_aload eX9_back_24 rfl ?_
    refine xs_getR eX9_back_25 (by assumption) (by rfl) ?_
    refine xs_callV0v eX9_back_28 (by assumption) (Nat.le_of_ble_eq_true rfl) (c_X4_clear (by assumption) ⟨rfl, ?_⟩)
    refine xs_aload eX9_back_31 rfl ?_
    refine xs_getR eX9_back_32 (by assumption) (by rfl) ?_
    refine xs_getI eX9_back_35 (by assumption) (by rfl) ?_
    refine xs_eq1 hz9 ?_
    exact xs_iretI eX9_back_38 rfl (hQ1)
theorem found_nI {ib : Nat} {wr : Nat → Int32} {f : Nat → Nat} : ∀ n, n ≤ 7 → (∀ v, v < 7 → wr v = nI (f v)) → foundF n (nI ib) wr = nI (sumA (fun v => if ib.testBit v then f v else 0) n)
  | 0, _, _ => rfl
  | n + 1, h, hw => by
    have ih := found_nI (ib := ib) n (by omega) hw
    unfold foundF at ih ⊢
    rw [sumN, ih, sumA, ← nI_add, bt_nI (by omega)]
    congr 1
    split
    · exact hw n (by omega)
    · rfl
theorem sum_nI {g : Nat → Int32} {f : Nat → Nat} : ∀ n, n ≤ 7 → (∀ v, v < 7 → g v = nI (f v)) → sumN g n = nI (sumA f n)
  | 0, _, _ => rfl
  | n + 1, h, hw => by rw [sumN, sum_nI n (by omega) hw, sumA, ← nI_add, hw n (by omega)]
theorem max_nI {g : Nat → Int32} {f : Nat → Nat} : ∀ n, n ≤ 3 → (∀ v, v < 3 → g v = nI (f v) ∧ f v < 2 ^ 31) → maxN g n = nI (maxA f n) ∧ maxA f n < 2 ^ 31
  | 0, _, _ => ⟨rfl, by show 0 < 2 ^ 31; decide⟩
  | n + 1, h, hw => by
    have ih := max_nI n (by omega) hw
    have hn := hw n (by omega)
    rw [maxN, ih.1, maxA, mxI, hn.1]
    have e1 : (nI (maxA f n) < nI (f n)) = (maxA f n < f n) := propext (nI_ltI ih.2 hn.2)
    simp only [e1]
    split
    · exact ⟨rfl, hn.2⟩
    · exact ⟨rfl, ih.2⟩
theorem c_X9_count (hN : N ≤ 600) (hR : repC w M) (hok : okX N w) (hQ : Q (some (.int (spCount w y))) SF M) : xC G mX9_count (d + 9) 0 0 [.ref (G.1 + 0), .int y] SF M Q := by
  have s0 := sh0
  have s1 := sh1
  have s95 := sh95
  have b0 := bk0 isBk31
  have l0 := sh18
  have p41 := pl0 pl41
  have p83 := pl0 pl83
  have isb := isBk31
  obtain ⟨t, hL, hB, hP, hP2, h6, h7⟩ := id hR
  obtain ⟨-, -, -, hz1, -⟩ := hP
  obtain ⟨-, -, -, hz2, -⟩ := hP2
  have hn := hL.1
  have hnp := hL.2.1
  have ho := hok.2.1.1
  have ho2 := hok.2.1.2.1
  have hib := okX_ib hok
  have f1 : foundF w.2.1.1 (M 31 5) (M (31 + 2)) = nI (foundB w.2.1.1 w.2.2.1) := by
    rw [hB.1]
    exact found_nI _ (by omega) (fun v hv => (hB.2.2.1 v hv).2)
  have f2 : sumN (M (31 + 1)) w.2.1.1 = nI (sumA w.2.2.1.2.2.1 w.2.1.1) := sum_nI _ (by omega) (fun v hv => (hB.2.2.1 v hv).1)
  have f3 : maxN (M (31 + 4)) w.2.1.2.1 = nI (maxA w.2.2.1.2.2.2.2.2 w.2.1.2.1) := (max_nI _ (by omega) (fun v hv => ⟨(hB.2.2.2 v hv).2, by have := (hok.2.2.1.2.2.2.2 v hv).2; omega⟩)).1
  unfold spCount at hQ
  refine xC_intro [some (.ref (G.1 + 0)), some (.int y)] rfl (by decide) (Nat.le_of_ble_eq_true rfl) ?_
  refine xs_iload eX9_count_0 rfl ?_
  rcases ts10 y with ⟨hw, hw2⟩ | rfl | rfl | rfl | rfl | rfl | rfl | rfl | rfl | rfl | rfl | rfl
  · refine xs_tsOut eX9_count_1 hw2 ?_
    refine xs_K eX9_count_154 ?_
    exact xs_iretI eX9_count_155 rfl (Qev hQ (by rw [if_neg (fun e => by rw [e] at hw; cases hw), if_neg (fun e => by rw [e] at hw; cases hw), if_neg (fun e => by rw [e] at hw; cases hw), if_neg (fun e => by rw [e] at hw; cases hw), if_neg (fun e => by rw [e] at hw; cases hw), if_neg (fun e => by rw [e] at hw; cases hw), if_neg (fun e => by rw [e] at hw; cases hw), if_neg (fun e => by rw [e] at hw; cases hw), if_neg (fun e => by rw [e] at hw; cases hw), if_neg (fun e => by rw [e] at hw; cases hw), if_neg (fun e => by rw [e] at hw; cases hw)]))
  · refine xs_tsIn eX9_count_1 0 (by decide) (by decide) (by decide) rfl ?_
    refine xs_aload eX9_count_60 rfl ?_
    refine xs_getR eX9_count_61 (by assumption) (by rfl) ?_
    refine xs_getI eX9_count_64 (by assumption) (by rfl) ?_
    refine xs_eq1 hn ?_
    exact xs_iretI eX9_count_67 rfl (hQ)
  · refine xs_tsIn eX9_count_1 1 (by decide) (by decide) (by decide) rfl ?_
    refine xs_aload eX9_count_68 rfl ?_
    refine xs_getR eX9_count_69 (by assumption) (by rfl) ?_
    refine xs_getI eX9_count_72 (by assumption) (by rfl) ?_
    refine xs_eq1 hnp ?_
    exact xs_iretI eX9_count_75 rfl (hQ)
  · refine xs_tsIn eX9_count_1 2 (by decide) (by decide) (by decide) rfl ?_
    refine xs_aload eX9_count_76 rfl ?_
    refine xs_getR eX9_count_77 (by assumption) (by rfl) ?_
    refine xs_getI eX9_count_80 (by assumption) (by rfl) ?_
    refine xs_eq1 hB.1 ?_
    refine xs_callS1i eX9_count_83 (Nat.le_of_ble_eq_true rfl) (c_bitCount (by omega) ⟨_, rfl, ?_⟩)
    exact xs_iretI eX9_count_86 rfl (hQ)
  · refine xs_tsIn eX9_count_1 3 (by decide) (by decide) (by decide) rfl ?_
    refine xs_aload eX9_count_87 rfl ?_
    refine xs_getR eX9_count_88 (by assumption) (by rfl) ?_
    refine xs_getI eX9_count_91 (by assumption) (by rfl) ?_
    refine xs_eq1 hB.2.1 ?_
    refine xs_callS1i eX9_count_94 (Nat.le_of_ble_eq_true rfl) (c_bitCount (by omega) ⟨_, rfl, ?_⟩)
    exact xs_iretI eX9_count_97 rfl (hQ)
  · refine xs_tsIn eX9_count_1 4 (by decide) (by decide) (by decide) rfl ?_
    refine xs_aload eX9_count_98 rfl ?_
    refine xs_getR eX9_count_99 (by assumption) (by rfl) ?_
    refine xs_callV0i eX9_count_102 (by assumption) (Nat.le_of_ble_eq_true rfl) (c_X0_found (by assumption) (by assumption) (by omega) ⟨_, rfl, ?_⟩)
    refine xs_eq1 f1 ?_
    exact xs_iretI eX9_count_105 rfl (hQ)
  · refine xs_tsIn eX9_count_1 5 (by decide) (by decide) (by decide) rfl ?_
    refine xs_aload eX9_count_106 rfl ?_
    refine xs_getR eX9_count_107 (by assumption) (by rfl) ?_
    refine xs_callV0i eX9_count_110 (by assumption) (Nat.le_of_ble_eq_true rfl) (c_X0_allOxen (by assumption) (by assumption) (by omega) ⟨_, rfl, ?_⟩)
    refine xs_eq1 f2 ?_
    exact xs_iretI eX9_count_113 rfl (hQ)
  · refine xs_tsIn eX9_count_1 6 (by decide) (by decide) (by decide) rfl ?_
    refine xs_aload eX9_count_114 rfl ?_
    refine xs_getR eX9_count_115 (by assumption) (by rfl) ?_
    refine xs_callV0i eX9_count_118 (by assumption) (Nat.le_of_ble_eq_true rfl) (c_X0_mostDays (by assumption) (by assumption) (by omega) ⟨_, rfl, ?_⟩)
    refine xs_eq1 f3 ?_
    exact xs_iretI eX9_count_121 rfl (hQ)
  · refine xs_tsIn eX9_count_1 7 (by decide) (by decide) (by decide) rfl ?_
    refine xs_aload eX9_count_122 rfl ?_
    refine xs_getR eX9_count_123 (by assumption) (by rfl) ?_
    refine xs_getI eX9_count_126 (by assumption) (by rfl) ?_
    refine xs_eq1 h6 ?_
    exact xs_iretI eX9_count_129 rfl (hQ)
  · refine xs_tsIn eX9_count_1 8 (by decide) (by decide) (by decide) rfl ?_
    refine xs_aload eX9_count_130 rfl ?_
    refine xs_getR eX9_count_131 (by assumption) (by rfl) ?_
    refine xs_getI eX9_count_134 (by assumption) (by rfl) ?_
    refine xs_eq1 hz1 ?_
    exact xs_iretI eX9_count_137 rfl (hQ)
  · refine xs_tsIn eX9_count_1 9 (by decide) (by decide) (by decide) rfl ?_
    refine xs_aload eX9_count_138 rfl ?_
    refine xs_getR eX9_count_139 (by assumption) (by rfl) ?_
    refine xs_getI eX9_count_142 (by assumption) (by rfl) ?_
    refine xs_eq1 hz2 ?_
    exact xs_iretI eX9_count_145 rfl (hQ)
  · refine xs_tsIn eX9_count_1 10 (by decide) (by decide) (by decide) rfl ?_
    refine xs_aload eX9_count_146 rfl ?_
    refine xs_getR eX9_count_147 (by assumption) (by rfl) ?_
    refine xs_getI eX9_count_150 (by assumption) (by rfl) ?_
    refine xs_eq1 t.1 ?_
    exact xs_iretI eX9_count_153 rfl (hQ)
end FC3

/-! THE REFERENCE: orders, most, least -/
theorem repM_ro {w : aX} {M M1 : xMem} {N : Nat} (h : repM w M) (hok : okX N w) (hk : roK M M1) : repM w M1 := by
  obtain ⟨⟨t1, t2⟩, r1, r2, ⟨r3, r3b⟩, ⟨r4, r4b⟩, ⟨r5, r6⟩⟩ := h
  obtain ⟨e, e1, e2⟩ := hk
  have h8 := hok.2.2.2.1.1
  have h2 := hok.2.2.2.2.1.1
  refine ⟨⟨by rw [e1 12 (by decide)]; exact t1, fun j hj => by rw [e 163 (by decide) (by decide) (by decide) (by decide)]; exact t2 j hj⟩, rLm_keep r1 (e1 0 (by decide)) (e1 2 (by decide)) (e 157 (by decide) (by decide) (by decide) (by decide)) (e 158 (by decide) (by decide) (by decide) (by decide)) (e 159 (by decide) (by decide) (by decide) (by decide)), rS_keep r2 (fun j _ _ => e2 j (by omega)), ⟨by rw [e1 10 (by decide)]; exact r3, fun i k hi => rS_keep (r3b i k hi) (fun j h1 _ => e2 j (by omega))⟩, ⟨by rw [e1 11 (by decide)]; exact r4, fun i k hi => rS_keep (r4b i k hi) (fun j h1 _ => e2 j (by omega))⟩, ⟨by rw [e1 17 (by decide)]; exact r5, fun i k hi => by rw [e 164 (by decide) (by decide) (by decide) (by decide), e 165 (by decide) (by decide) (by decide) (by decide)]; exact r6 i k hi⟩⟩
theorem roK_tr {M M1 M2 : xMem} (h : roK M M1) (h2 : roK M1 M2) : roK M M2 := ⟨fun a a1 a2 a3 a4 => (h2.1 a a1 a2 a3 a4).trans (h.1 a a1 a2 a3 a4), fun j hj => (h2.2.1 j hj).trans (h.2.1 j hj), fun j hj => (h2.2.2 j hj).trans (h.2.2 j hj)⟩
theorem roK_sK {M M1 : xMem} (h : sK 242 M M1) : roK M M1 := ⟨fun a _ _ _ a4 => h.1 a a4, fun j _ => by rw [h.1 156 (by decide)], fun j hj => h.2 j (by omega)⟩
theorem roK_lo {M M1 : xMem} (h : roK M M1) : loK M M1 := fun a ha => h.1 a (by omega) (by omega) (by omega) (by omega)
theorem getD_mem {o : List Nat} {k : Nat} (h : k < o.length) : o.getD k 0 ∈ o := by
  rw [List.getD_eq_getElem?_getD, List.getElem?_eq_getElem h]
  exact List.getElem_mem h
theorem runB_take {l : aLd} {b : aBk} {o : List Nat} {k : Nat} (h : k < o.length) : runB l b (o.take (k + 1)) = swearB l.2.2.2.1 l.2.2.2.2.1 (runB l b (o.take k)) (o.getD k 0) (l.2.2.1 (o.getD k 0)) := by
  rw [List.take_succ, List.getD_eq_getElem?_getD, List.getElem?_eq_getElem h]
  exact runB_snoc
def accI (acc : Option (Nat × List Nat)) : Int32 := match acc with
  | none => (-1)
  | some q => nI q.1
def accR (M : xMem) (acc : Option (Nat × List Nat)) : Prop := ∀ q, acc = some q → ∀ k, k < q.2.length → M 169 k = nI (q.2.getD k 0)
section OR2
variable {G : xGl} {d N c p v : Nat} {w : aX} {l : aLd} {b : aBk} {M : xMem} {S : List xSh} {Q : Option Value → List xSh → xMem → Prop} {y : Int32}
theorem ord_pass {dy m : Nat} {up : Bool} {o : List Nat} {acc : Option (Nat × List Nat)} {A B C : Option Value} (hl : okL l) (hL1 : rLm M l) (hS1 : rS M 0 b) (hB : okB l.1 dy b) (hm7 : m ≤ 7) (hol : o.length = m) (hov : ∀ v ∈ o, v < l.1) (hmn : M 156 23 = nI m) (hrow : rRow M o) (hac : accR M acc) (hoa : okO m acc) (K : ∀ (M3 : xMem) (A B C : Option Value), roK M M3 → M3 156 23 = nI m → rRow M3 o → accR M3 (stO l b up acc o) → xW G mX10_orders (d + 5) 0 0 Q 132 [some (.ref (G.1 + 156)), some (.int (bI up)), some (.int (accI (stO l b up acc o))), some (.int (bI true)), A, B, C] [] SF M3) : xW G mX10_orders (d + 5) 0 0 Q 8 [some (.ref (G.1 + 156)), some (.int (bI up)), some (.int (accI acc)), some (.int (bI true)), A, B, C] [] SF M := by
  have s0 := sh156
  have s1 := sh168
  have s2 := sh169
  have h7 := hl.1.2
  have hbo := okB_run hl hB hov
  have hfl := foundB_le h7 hbo
  refine xs_iload eX10_orders_8 rfl ?_
  refine xs_ifeqB eX10_orders_9 (fun h => absurd h (by decide)) (fun h9 => ?_)
  refine xs_aload eX10_orders_12 rfl ?_
  refine xs_K eX10_orders_13 ?_
  refine xs_K eX10_orders_14 ?_
  refine xs_callV2v eX10_orders_17 (by assumption) (Nat.le_of_ble_eq_true rfl) (c_X10_copied (by omega) (by omega) (by omega) ⟨rfl, ?_⟩)
  refine xs_K eX10_orders_20 ?_
  refine xs_istore eX10_orders_21 (Nat.le_of_ble_eq_true rfl) rfl rfl ?_
  refine xs_K eX10_orders_23 ?_
  refine xs_istore eX10_orders_24 (Nat.le_of_ble_eq_true rfl) rfl rfl ?_
  refine dn (P := fun k => ∀ (M2 : xMem) (t : Nat), t ≤ 420 * k → sK 242 M M2 → rS M2 242 (runB l b (o.take k)) → xW G mX10_orders (d + 5) 0 0 Q 26 [some (.ref (G.1 + 156)), some (.int (bI up)), some (.int (accI acc)), some (.int (bI true)), some (.int (nI t)), some (.int (nI k)), C] [] SF M2) m ?_ ?_ 0 (by omega) _ 0 (by omega) cpS_k (rS_cp hS1)
  · intro M2 t ht k2 hS2
    rw [List.take_of_length_le (by omega)] at hS2
    have hL2 := rLm_sK hL1 k2
    have hmn2 : M2 156 23 = nI m := by rw [k2.1 156 (by decide)]; exact hmn
    have hrow2 : rRow M2 o := fun k hk => by rw [k2.1 168 (by decide)]; exact hrow k hk
    generalize hF : foundB l.1 (runB l b o) = F at *
    have est : stO l b up acc o = wtO up acc F o := by unfold stO; rw [hF]
    rw [est] at K
    have K97 : ∀ (z : Int32) (C : Option Value), wtO up acc F o = some (F, o) → xW G mX10_orders (d + 5) 0 0 Q 97 [some (.ref (G.1 + 156)), some (.int (bI up)), some (.int z), some (.int (bI true)), some (.int (nI t)), some (.int (nI F)), C] [] SF M2 := by
      intro z C h
      rw [h] at K
      refine xs_iload eX10_orders_97 rfl ?_
      refine xs_istore eX10_orders_99 (Nat.le_of_ble_eq_true rfl) rfl rfl ?_
      refine xs_K eX10_orders_100 ?_
      refine xs_istore eX10_orders_101 (Nat.le_of_ble_eq_true rfl) rfl rfl ?_
      refine dn (P := fun k => ∀ (M3 : xMem), (∀ a, a ≠ 169 → M3 a = M2 a) → (∀ i, i < k → M3 169 i = nI (o.getD i 0)) → xW G mX10_orders (d + 5) 0 0 Q 103 [some (.ref (G.1 + 156)), some (.int (bI up)), some (.int (nI F)), some (.int (bI true)), some (.int (nI t)), some (.int (nI F)), some (.int (nI k))] [] SF M3) m ?_ ?_ 0 (by omega) M2 (fun _ _ => rfl) (fun i hi => by omega)
      · intro M3 f1 f2
        have hmn3 : M3 156 23 = nI m := by rw [f1 156 (by decide)]; exact hmn2
        refine xs_iload eX10_orders_103 rfl ?_
        refine xs_aload eX10_orders_105 rfl ?_
        refine xs_getI eX10_orders_106 (by assumption) (by rfl) ?_
        refine xs_eq1 hmn3 ?_
        refine xs_N_ge eX10_orders_109 (by omega) (by omega) (fun h109 => ?_) (fun h => absurd h (by omega))
        exact K M3 _ _ _ (roK_tr (roK_sK k2) ⟨fun a a1 a2 a3 a4 => f1 a a3, fun j hj => by rw [f1 156 (by decide)], fun j hj => by rw [f1 162 (by decide)]⟩) hmn3 (fun k hk => by rw [f1 168 (by decide)]; exact hrow2 k hk) (fun q hq k hk => by cases hq; exact f2 k (by have hk : k < o.length := hk; omega))
      · intro k hk ih M3 f1 f2
        have hmn3 : M3 156 23 = nI m := by rw [f1 156 (by decide)]; exact hmn2
        have hr3 : M3 168 k = nI (o.getD k 0) := by rw [f1 168 (by decide)]; exact hrow2 k (by omega)
        refine xs_iload eX10_orders_103 rfl ?_
        refine xs_aload eX10_orders_105 rfl ?_
        refine xs_getI eX10_orders_106 (by assumption) (by rfl) ?_
        refine xs_eq1 hmn3 ?_
        refine xs_N_ge eX10_orders_109 (by omega) (by omega) (fun h => absurd h (by omega)) (fun h109 => ?_)
        refine xs_aload eX10_orders_112 rfl ?_
        refine xs_getR eX10_orders_113 (by assumption) (by rfl) ?_
        refine xs_iload eX10_orders_116 rfl ?_
        refine xs_aload eX10_orders_118 rfl ?_
        refine xs_getR eX10_orders_119 (by assumption) (by rfl) ?_
        refine xs_iload eX10_orders_122 rfl ?_
        refine xs_iald eX10_orders_124 (by assumption) (by omega) (by decide) ?_
        refine xs_eq1 hr3 ?_
        refine xs_iast eX10_orders_125 (by assumption) (by omega) (by decide) ?_
        refine xs_inc1 eX10_orders_126 rfl rfl rfl ?_
        refine xs_goto eX10_orders_129 ?_
        exact ih _ (fun a ha => by rw [up2_ne ha]; exact f1 a ha) (fun i hi => by rw [up2_x]; by_cases e : i = k; (rw [if_pos e, e]); (rw [if_neg e]; exact f2 i (by omega)))
    have KN : wtO up acc F o = acc → ∀ A B C, xW G mX10_orders (d + 5) 0 0 Q 132 [some (.ref (G.1 + 156)), some (.int (bI up)), some (.int (accI acc)), some (.int (bI true)), A, B, C] [] SF M2 := by
      intro h A B C
      rw [h] at K
      exact K M2 A B C (roK_sK k2) hmn2 hrow2 (fun q hq k hk => by rw [k2.1 169 (by decide)]; exact hac q hq k hk)
    refine xs_iload eX10_orders_26 rfl ?_
    refine xs_aload eX10_orders_28 rfl ?_
    refine xs_getI eX10_orders_29 (by assumption) (by rfl) ?_
    refine xs_eq1 hmn2 ?_
    refine xs_N_ge eX10_orders_32 (by omega) (by omega) (fun h32 => ?_) (fun h => absurd h (by omega))
    refine xs_aload eX10_orders_60 rfl ?_
    refine xs_K eX10_orders_61 ?_
    refine xs_callV1i eX10_orders_64 (by assumption) (Nat.le_of_ble_eq_true rfl) (c_X10_found (b := runB l b o) (dy := dy) hL2 hl hS2 hbo (by omega) ⟨_, rfl, ?_⟩)
    rw [hF]
    refine xs_istore eX10_orders_67 (Nat.le_of_ble_eq_true rfl) rfl rfl ?_
    refine xs_iload eX10_orders_69 rfl ?_
    refine xs_N0_lt eX10_orders_71 (by omega) ?_
    cases acc with
    | none =>
      refine xs_iload eX10_orders_74 rfl ?_
      refine xs_if_lt eX10_orders_75 (fun h75 => ?_) (fun h => absurd h (fun h => h (by decide)))
      exact K97 _ _ rfl
    | some q0 =>
      have hq0 := (hoa q0 rfl).1
      refine xs_iload eX10_orders_74 rfl ?_
      refine xs_eq1 (z := nI q0.1) rfl ?_
      refine xs_N0_lt eX10_orders_75 (by omega) ?_
      refine xs_iload eX10_orders_78 rfl ?_
      refine xs_ifeqB eX10_orders_79 (fun h79 => ?_) (fun h79 => ?_)
      · refine xs_iload eX10_orders_91 rfl ?_
        refine xs_iload eX10_orders_93 rfl ?_
        refine xs_eq1 (z := nI q0.1) rfl ?_
        refine xs_N_ge eX10_orders_94 (by omega) (by omega) (fun h94 => ?_) (fun h94 => ?_)
        · exact KN (by simp only [wtO]; rw [if_neg (by simp [betO, h79]; omega)]) _ _ _
        · exact K97 _ _ (by simp only [wtO]; rw [if_pos (by simp [betO, h79]; omega)])
      · refine xs_iload eX10_orders_82 rfl ?_
        refine xs_iload eX10_orders_84 rfl ?_
        refine xs_eq1 (z := nI q0.1) rfl ?_
        refine xs_N_le eX10_orders_85 (by omega) (by omega) (fun h85 => ?_) (fun h85 => ?_)
        · exact KN (by simp only [wtO]; rw [if_neg (by simp [betO, h79]; omega)]) _ _ _
        · refine xs_goto eX10_orders_88 ?_
          exact K97 _ _ (by simp only [wtO]; rw [if_pos (by simp [betO, h79]; omega)])
  · intro k hk ih M2 t ht k2 hS2
    have hL2 := rLm_sK hL1 k2
    have hmn2 : M2 156 23 = nI m := by rw [k2.1 156 (by decide)]; exact hmn
    have hr2 : M2 168 k = nI (o.getD k 0) := by rw [k2.1 168 (by decide)]; exact hrow k (by omega)
    have hv := hov _ (getD_mem (show k < o.length by omega))
    have hbk := okB_run hl hB (fun v hv => hov v (List.mem_of_mem_take hv)) (o := o.take k)
    have hsl := swN_le (hon := l.2.2.2.2.1) (kd := l.2.2.1 (o.getD k 0)) hbk (show o.getD k 0 < 7 by omega) (Nat.lt_of_lt_of_le (hl.2.2.2.1 _ (by omega)) (pow7 h7))
    rw [runB_take (by omega)] at ih
    generalize o.getD k 0 = v at *
    generalize runB l b (o.take k) = bk at *
    refine xs_iload eX10_orders_26 rfl ?_
    refine xs_aload eX10_orders_28 rfl ?_
    refine xs_getI eX10_orders_29 (by assumption) (by rfl) ?_
    refine xs_eq1 hmn2 ?_
    refine xs_N_ge eX10_orders_32 (by omega) (by omega) (fun h => absurd h (by omega)) (fun h32 => ?_)
    refine xs_iload eX10_orders_35 rfl ?_
    refine xs_aload eX10_orders_37 rfl ?_
    refine xs_K eX10_orders_38 ?_
    refine xs_aload eX10_orders_41 rfl ?_
    refine xs_getR eX10_orders_42 (by assumption) (by rfl) ?_
    refine xs_iload eX10_orders_45 rfl ?_
    refine xs_iald eX10_orders_47 (by assumption) (by omega) (by decide) ?_
    refine xs_eq1 hr2 ?_
    refine xs_callV2i eX10_orders_48 (by assumption) (Nat.le_of_ble_eq_true rfl) (c_X10_writes (b := bk) (dy := dy) hL2 hl hS2 hbk (by omega) hv (fun M3 g1 g2 => ⟨_, rfl, ?_⟩))
    refine xs_iadd eX10_orders_51 ?_
    refine xs_eq1 (nI_add t _) ?_
    refine xs_istore eX10_orders_52 (Nat.le_of_ble_eq_true rfl) rfl rfl ?_
    refine xs_inc1 eX10_orders_54 rfl rfl rfl ?_
    refine xs_goto eX10_orders_57 ?_
    exact ih M3 _ (by omega) (sK_tr k2 g1) g2
theorem c_X10_orders {dy m : Nat} {up : Bool} {q : Nat × List Nat} (hl : okL l) (hL : rLm M l) (hS : rS M 0 b) (hB : okB l.1 dy b) (hm : pc7 (restN l.1 b.1) = m) (hq : bstO l b up = some q) (hQ : ∀ M1, roK M M1 → M1 156 23 = nI m → (∀ k, k < m → M1 169 k = nI (q.2.getD k 0)) → Q (some (.int (nI q.1))) SF M1) : xC G mX10_orders (d + 5) 0 0 [.ref (G.1 + 156), .int (bI up)] SF M Q := by
  have s0 := sh156
  have s1 := sh168
  have s2 := sh169
  have h7 := hl.1.2
  have hrl := restN_lt (ib := b.1) h7
  have hr128 := Nat.lt_of_lt_of_le hrl (pow7 h7)
  have hm7 : m ≤ 7 := by rw [← hm]; exact pc7_le _ hr128
  obtain ⟨L0, eL, hch⟩ := chk_get hr128
  have hmem : ∀ e ∈ pmL (pc7 (restN l.1 b.1)) (bitsL (restN l.1 b.1)), e.length = m ∧ ∀ v ∈ e, v < l.1 := fun e he => by
    obtain ⟨h1, h2⟩ := pmL_len he
    refine ⟨by omega, fun v hv => ?_⟩
    obtain ⟨h3, h4⟩ := bitsL_mem.mp (h2 v hv)
    rw [restN_bt h7 (by omega)] at h4
    simp only [Bool.and_eq_true, decide_eq_true_eq] at h4
    exact h4.1
  unfold bstO at hq
  rw [eL] at hq hmem
  rw [hm] at hch
  have K8 : ∀ (L : List (List Nat)) (o : List Nat) (acc : Option (Nat × List Nat)) (M1 : xMem) (A B C : Option Value), chnF m o L = true → (∀ e ∈ o :: L, e.length = m ∧ ∀ v ∈ e, v < l.1) → roK M M1 → M1 156 23 = nI m → rRow M1 o → accR M1 acc → okO m acc → (o :: L).foldl (stO l b up) acc = some q → xW G mX10_orders (d + 5) 0 0 Q 8 [some (.ref (G.1 + 156)), some (.int (bI up)), some (.int (accI acc)), some (.int (bI true)), A, B, C] [] SF M1 := by
    intro L
    induction L with
    | nil =>
      intro o acc M1 A B C hc he hk hmn hrow hac hoa hf
      obtain ⟨hol, hov⟩ := he o (List.mem_cons_self ..)
      have hko := stO_ok (up := up) hl hB hov hol hoa
      refine ord_pass hl (rLm_keep hL (hk.2.1 0 (by decide)) (hk.2.1 2 (by decide)) (hk.1 157 (by decide) (by decide) (by decide) (by decide)) (hk.1 158 (by decide) (by decide) (by decide) (by decide)) (hk.1 159 (by decide) (by decide) (by decide) (by decide))) (rS_keep hS (fun j _ _ => hk.2.2 j (by omega))) hB hm7 hol hov hmn hrow hac hoa ?_
      intro M3 A B C k3 m3 r3 a3
      have hf : stO l b up acc o = some q := hf
      rw [hf] at a3 hko ⊢
      have hql := (hko q rfl).2
      have hq9 := hQ M3 (roK_tr hk k3) m3 (fun k hk => a3 q rfl k (by omega))
      refine xs_aload eX10_orders_132 rfl ?_
      refine xs_callV0i eX10_orders_133 (by assumption) (Nat.le_of_ble_eq_true rfl) (c_X10_goesOn (m := m) (f := lfF o) hm7 m3 (fun k hk => r3 k (by omega)) (fun k hk => by have := hov _ (getD_mem (show k < o.length by omega)); unfold lfF; omega) (fun h => ⟨_, rfl, ?_⟩) (fun M4 g h => by rw [chnF, h] at hc; cases hc))
      refine xs_istore eX10_orders_136 (Nat.le_of_ble_eq_true rfl) rfl rfl ?_
      refine xs_goto eX10_orders_137 ?_
      refine xs_iload eX10_orders_8 rfl ?_
      refine xs_ifeqB eX10_orders_9 (fun h9 => ?_) (fun h => absurd h (by decide))
      refine xs_iload eX10_orders_140 rfl ?_
      exact xs_iretI eX10_orders_141 rfl (hq9)
    | cons b9 L ih =>
      intro o acc M1 A B C hc he hk hmn hrow hac hoa hf
      obtain ⟨hol, hov⟩ := he o (List.mem_cons_self ..)
      have hko := stO_ok (up := up) hl hB hov hol hoa
      refine ord_pass hl (rLm_keep hL (hk.2.1 0 (by decide)) (hk.2.1 2 (by decide)) (hk.1 157 (by decide) (by decide) (by decide) (by decide)) (hk.1 158 (by decide) (by decide) (by decide) (by decide)) (hk.1 159 (by decide) (by decide) (by decide) (by decide))) (rS_keep hS (fun j _ _ => hk.2.2 j (by omega))) hB hm7 hol hov hmn hrow hac hoa ?_
      intro M3 A B C k3 m3 r3 a3
      simp only [chnF, Bool.and_eq_true] at hc
      obtain ⟨hc1, hc2⟩ := hc
      obtain ⟨hbl, -⟩ := he b9 (List.mem_cons_of_mem _ (List.mem_cons_self ..))
      refine xs_aload eX10_orders_132 rfl ?_
      refine xs_callV0i eX10_orders_133 (by assumption) (Nat.le_of_ble_eq_true rfl) (c_X10_goesOn (m := m) (f := lfF o) hm7 m3 (fun k hk => r3 k (by omega)) (fun k hk => by have := hov _ (getD_mem (show k < o.length by omega)); unfold lfF; omega) (fun h => by rw [nextB, h] at hc1; cases hc1) (fun M4 g h g1 g2 => ⟨_, rfl, ?_⟩))
      refine xs_istore eX10_orders_136 (Nat.le_of_ble_eq_true rfl) rfl rfl ?_
      refine xs_goto eX10_orders_137 ?_
      exact ih b9 _ M4 _ _ _ hc2 (fun e h => he e (List.mem_cons_of_mem _ h)) (roK_tr (roK_tr hk k3) ⟨fun a a1 a2 a3 a4 => g1 a a2, fun j hj => by rw [g1 156 (by decide)], fun j hj => by rw [g1 162 (by decide)]⟩) (by rw [g1 156 (by decide)]; exact m3) (fun k hk => by rw [nextB, h] at hc1; rw [g2 k (by omega)]; have h9 := sameF_eq (i := 0) hc1 k hk; rw [Nat.zero_add] at h9; rw [h9]) (fun q hq k hk => by rw [g1 169 (by decide)]; exact a3 q hq k hk) hko hf
  refine xC_intro [some (.ref (G.1 + 156)), some (.int (bI up)), none, none, none, none, none] rfl (by decide) (Nat.le_of_ble_eq_true rfl) ?_
  refine xs_aload eX10_orders_0 rfl ?_
  refine xs_callV0v eX10_orders_1 (by assumption) (Nat.le_of_ble_eq_true rfl) (c_X10_lists (b := b) hl hL hS (fun M1 f1 f2 f3 f4 => ⟨rfl, ?_⟩))
  refine xs_K eX10_orders_4 ?_
  refine xs_istore eX10_orders_5 (Nat.le_of_ble_eq_true rfl) rfl rfl ?_
  refine xs_K eX10_orders_6 ?_
  refine xs_istore eX10_orders_7 (Nat.le_of_ble_eq_true rfl) rfl rfl ?_
  exact K8 L0 _ none M1 _ _ _ hch hmem ⟨fun a a1 a2 a3 a4 => f1 a a1 a2, f2, fun j hj => by rw [f1 162 (by decide) (by decide)]⟩ (by rw [f3, hm]) f4 (fun q hq => by cases hq) (fun q hq => by cases hq) hq
theorem c_X10_ordered {up : Bool} (hR : repM w M) (hok : okX N w) (hQ : ∀ M1, loK M M1 → repM w M1 → Q (some (.int (spOrd w up y))) SF M1) : xC G mX10_ordered (d + 6) 0 0 [.ref (G.1 + 156), .int y, .int (bI up)] SF M Q := by
  have s0 := sh156
  have s2 := sh169
  obtain ⟨-, hL, hS, -⟩ := id hR
  have hl := hok.2.1
  have hB := hok.2.2.1
  have h7 := hl.1.2
  have hrl := restN_lt (ib := w.2.2.1.1) h7
  have hr128 := Nat.lt_of_lt_of_le hrl (pow7 h7)
  have hpc := pc7_le _ hr128
  unfold spOrd at hQ
  refine xC_intro [some (.ref (G.1 + 156)), some (.int y), some (.int (bI up)), none] rfl (by decide) (Nat.le_of_ble_eq_true rfl) ?_
  have K14 : wiB y (nI 0) (nI 7) = true → xW G mX10_ordered (d + 6) 0 0 Q 14 [some (.ref (G.1 + 156)), some (.int y), some (.int (bI up)), none] [] SF M := by
    intro q1
    simp only [q1, if_true] at hQ
    obtain ⟨k, -, k2, rfl⟩ := wi_of (by decide) (by decide) q1
    rw [nI_clamp (by omega)] at hQ
    obtain ⟨L, eL, -⟩ := chk_get hr128
    obtain ⟨q, hq⟩ : ∃ q, bstO w.2.1 w.2.2.1 up = some q := by
      unfold bstO
      rw [eL, List.foldl_cons]
      obtain ⟨q1, h1⟩ := stO_some (l := w.2.1) (b := w.2.2.1) (up := up) (o := bitsL (restN w.2.1.1 w.2.2.1.1)) (acc := none)
      rw [h1]
      exact fold_some
    rw [hq] at hQ
    simp only at hQ
    generalize hm : pc7 (restN w.2.1.1 w.2.2.1.1) = m at *
    refine xs_aload eX10_ordered_14 rfl ?_
    refine xs_iload eX10_ordered_15 rfl ?_
    refine xs_callV1i eX10_ordered_16 (by assumption) (Nat.le_of_ble_eq_true rfl) (c_X10_orders (b := w.2.2.1) (dy := 121 * N) (m := m) (q := q) hl hL hS hB hm hq (fun M1 f1 f2 f3 => ⟨_, rfl, ?_⟩))
    have hq9 := hQ M1 (roK_lo f1) (repM_ro hR hok f1)
    refine xs_istore eX10_ordered_19 (Nat.le_of_ble_eq_true rfl) rfl rfl ?_
    refine xs_iload eX10_ordered_20 rfl ?_
    refine xs_N0_ne eX10_ordered_21 (by omega) (fun h21 => ?_) (fun h21 => ?_)
    · refine xs_iload eX10_ordered_28 rfl ?_
      refine xs_aload eX10_ordered_29 rfl ?_
      refine xs_getI eX10_ordered_30 (by assumption) (by rfl) ?_
      refine xs_eq1 f2 ?_
      refine xs_N_le eX10_ordered_33 (by omega) (by omega) (fun h33 => ?_) (fun h33 => ?_)
      · refine xs_aload eX10_ordered_41 rfl ?_
        refine xs_getR eX10_ordered_42 (by assumption) (by rfl) ?_
        refine xs_iload eX10_ordered_45 rfl ?_
        refine xs_K eX10_ordered_46 ?_
        refine xs_isub eX10_ordered_47 ?_
        refine xs_eq1 (pk_sub (by omega)) ?_
        refine xs_iald eX10_ordered_48 (by assumption) (by omega) (by decide) ?_
        refine xs_eq1 (f3 (k - 1) (by omega)) ?_
        exact xs_iretI eX10_ordered_49 rfl (by rw [if_neg (by omega), if_neg h21] at hq9; exact hq9)
      · refine xs_K eX10_ordered_36 ?_
        refine xs_goto eX10_ordered_38 ?_
        exact xs_iretI eX10_ordered_49 rfl (by rw [if_pos h33] at hq9; exact hq9)
    · refine xs_iload eX10_ordered_24 rfl ?_
      refine xs_goto eX10_ordered_25 ?_
      exact xs_iretI eX10_ordered_49 rfl (by rw [if_neg (by omega), if_pos h21] at hq9; exact hq9)
  refine xs_iload eX10_ordered_0 rfl ?_
  refine xs_i2l eX10_ordered_1 ?_
  refine xs_KL eX10_ordered_2 ?_
  refine xs_KL eX10_ordered_3 ?_
  refine xs_callS3i eX10_ordered_6 (Nat.le_of_ble_eq_true rfl) (c_X10_in (lo := nI 0) (hi := nI 7) rfl (by decide) (by decide) ⟨_, rfl, ?_⟩)
  refine xs_ifneB eX10_ordered_9 (fun h9 => ?_) (fun h9 => ?_)
  · exact K14 h9
  · refine xs_K eX10_ordered_12 ?_
    exact xs_iretI eX10_ordered_13 rfl (by simp only [h9, Bool.false_eq_true, if_false] at hQ; exact hQ M (fun _ _ => rfl) hR)
theorem c_X10_most (hR : repM w M) (hok : okX N w) (hQ : ∀ M1, loK M M1 → repM w M1 → Q (some (.int (spOrd w true y))) SF M1) : xC G mX10_most (d + 7) 0 0 [.ref (G.1 + 156), .int y] SF M Q := by
  have s0 := sh156
  refine xC_intro [some (.ref (G.1 + 156)), some (.int y)] rfl (by decide) (Nat.le_of_ble_eq_true rfl) ?_
  refine xs_aload eX10_most_0 rfl ?_
  refine xs_iload eX10_most_1 rfl ?_
  refine xs_K eX10_most_2 ?_
  refine xs_callV2i eX10_most_3 (by assumption) (Nat.le_of_ble_eq_true rfl) (c_X10_ordered (up := true) hR hok (fun M1 f1 f2 => ⟨_, rfl, ?_⟩))
  exact xs_iretI eX10_most_6 rfl (hQ M1 f1 f2)
theorem c_X10_least (hR : repM w M) (hok : okX N w) (hQ : ∀ M1, loK M M1 → repM w M1 → Q (some (.int (spOrd w false y))) SF M1) : xC G mX10_least (d + 7) 0 0 [.ref (G.1 + 156), .int y] SF M Q := by
  have s0 := sh156
  refine xC_intro [some (.ref (G.1 + 156)), some (.int y)] rfl (by decide) (Nat.le_of_ble_eq_true rfl) ?_
  refine xs_aload eX10_least_0 rfl ?_
  refine xs_iload eX10_least_1 rfl ?_
  refine xs_K eX10_least_2 ?_
  refine xs_callV2i eX10_least_3 (by assumption) (Nat.le_of_ble_eq_true rfl) (c_X10_ordered (up := false) hR hok (fun M1 f1 f2 => ⟨_, rfl, ?_⟩))
  exact xs_iretI eX10_least_6 rfl (hQ M1 f1 f2)
end OR2

/-! THE REFERENCE: reads, fault, settles, lay -/
section L2
variable {G : xGl} {d N pl len nv np : Nat} {w : aX} {t : Nat → Nat} {M : xMem} {wr : Bool} {Q : Option Value → List xSh → xMem → Prop}
def zeW (M : xMem) (i : Nat) : xMem := setR M 161 (fun j => if j < i then nI 0 else M 161 j)
def zeS (M : xMem) (i : Nat) : xMem := setR M 162 (fun j => if 242 ≤ j ∧ j < 242 + i then nI 0 else M 162 j)
theorem isTm_rep (hR : repM w M) (hok : okX N w) : isTm M (fun j => w.1.getD j 0) w.1.length := ⟨hR.1.1, hok.1.1, fun j hj => ⟨hR.1.2 j hj, by
  have e : w.1.getD j 0 ∈ w.1 := by rw [List.getD_eq_getElem?_getD, List.getElem?_eq_getElem hj]; exact List.getElem_mem hj
  exact hok.1.2 _ e⟩⟩
theorem c_X10_reads (hR : repM w M) (hok : okX N w) (hQ : ∀ M1, rdK M M1 → ((prs w).2 = none → rTm M1 (prT w)) → (∀ p, (prs w).2 = some p → M1 156 15 = nI p) → Q (some (.int (bI (prs w).2.isNone))) SF M1) : xC G mX10_reads (d + 4) 0 0 [.ref (G.1 + 156)] SF M Q := by
  have s0 := sh156
  have s1 := sh161
  have s2 := sh162
  have ht := isTm_rep hR hok
  refine xC_intro [some (.ref (G.1 + 156)), none] rfl (by decide) (Nat.le_of_ble_eq_true rfl) ?_
  refine xs_aload eX10_reads_0 rfl ?_
  refine xs_K eX10_reads_1 ?_
  refine xs_putI eX10_reads_2 (by assumption) (by rfl) rfl rfl ?_
  refine xs_aload eX10_reads_5 rfl ?_
  refine xs_K eX10_reads_6 ?_
  refine xs_putI eX10_reads_7 (by assumption) (by rfl) rfl rfl ?_
  refine xs_K eX10_reads_10 ?_
  refine xs_istore eX10_reads_11 (Nat.le_of_ble_eq_true rfl) rfl rfl ?_
  generalize hM0 : up2 (up2 M 156 5 (nI 0)) 156 7 (nI 0) = M0
  have k0 : rdK M M0 := by rw [← hM0]; exact rdK_tr (rdK_up (by omega)) (rdK_up (by omega))
  have f5 : M0 156 5 = nI 0 := by rw [← hM0, up2_x, if_neg (by decide), up2_x, if_pos rfl]
  have f7 : M0 156 7 = nI 0 := by rw [← hM0, up2_x, if_pos rfl]
  refine xs_eqM (M1 := zeW M0 0) (by unfold zeW; funext a; by_cases e : a = 161; subst e; rw [setR_row]; funext j; rw [if_neg (by omega)]; rw [setR_ne e]) ?_
  refine dn (P := fun i => xW G mX10_reads (d + 4) 0 0 Q 12 [some (.ref (G.1 + 156)), some (.int (nI i))] [] SF (zeW M0 i)) 49 ?_ ?_ 0 (by omega)
  · refine xs_iload eX10_reads_12 rfl ?_
    refine xs_K eX10_reads_13 ?_
    refine xs_N_ge eX10_reads_15 (by omega) (by omega) (fun h15 => ?_) (fun h => absurd h (by omega))
    refine xs_K eX10_reads_31 ?_
    refine xs_istore eX10_reads_32 (Nat.le_of_ble_eq_true rfl) rfl rfl ?_
    refine xs_eqM (M1 := zeS (zeW M0 49) 0) (by unfold zeS; funext a; by_cases e : a = 162; subst e; rw [setR_row]; funext j; rw [if_neg (by omega)]; rw [setR_ne e]) ?_
    refine dn (P := fun i => xW G mX10_reads (d + 4) 0 0 Q 33 [some (.ref (G.1 + 156)), some (.int (nI i))] [] SF (zeS (zeW M0 49) i)) 22 ?_ ?_ 0 (by omega)
    · have g : ∀ j, 242 ≤ j → j < 264 → zeS (zeW M0 49) 22 162 j = nI 0 := fun j h1 h2 => by unfold zeS; rw [setR_row, if_pos (by omega)]
      have g5 : zeS (zeW M0 49) 22 156 = M0 156 := by unfold zeS zeW; rw [setR_ne (by decide), setR_ne (by decide)]
      have kk : rdK M (zeS (zeW M0 49) 22) := rdK_tr k0 ⟨fun a a1 a2 a3 a4 => by unfold zeS zeW; rw [setR_ne a4, setR_ne a3], fun j hj => by unfold zeS zeW; rw [setR_row, if_neg (by omega), setR_ne (by decide)], fun j _ _ _ _ _ => by rw [g5]⟩
      have hT : rTm (zeS (zeW M0 49) 22) t0A := ⟨by rw [g5]; exact f5, by rw [g5]; exact f7, fun v hv => absurd hv (by show ¬ v < 0; omega), ⟨g _ (by omega) (by omega), g _ (by omega) (by omega), fun v hv => ⟨g _ (by omega) (by omega), g _ (by omega) (by omega)⟩, fun p hp => ⟨g _ (by omega) (by omega), g _ (by omega) (by omega)⟩⟩, fun a b ha hb => by unfold zeS; rw [setR_ne (by decide)]; unfold zeW; rw [setR_row, if_pos (by omega)]; rfl⟩
      have KL := reads_loop (G := G) (d := d) (Q := Q) ht 200 _ t0A 0 (some (.int (nI 22))) (by have := hok.1.1; omega) (by omega) kk hT okT_0 hQ
      refine xs_iload eX10_reads_33 rfl ?_
      refine xs_K eX10_reads_34 ?_
      refine xs_N_ge eX10_reads_36 (by omega) (by omega) (fun h36 => ?_) (fun h => absurd h (by omega))
      refine xs_aload eX10_reads_56 rfl ?_
      refine xs_K eX10_reads_57 ?_
      refine xs_putI eX10_reads_58 (by assumption) (by rfl) rfl rfl ?_
      refine xs_aload eX10_reads_61 rfl ?_
      refine xs_K eX10_reads_62 ?_
      refine xs_putI eX10_reads_63 (by assumption) (by rfl) (bI_nar false) (bI_fit false) ?_
      exact KL
    · intro i hi ih
      refine xs_iload eX10_reads_33 rfl ?_
      refine xs_K eX10_reads_34 ?_
      refine xs_N_ge eX10_reads_36 (by omega) (by omega) (fun h => absurd h (by omega)) (fun h36 => ?_)
      refine xs_aload eX10_reads_39 rfl ?_
      refine xs_getR eX10_reads_40 (by assumption) (by rfl) ?_
      refine xs_K eX10_reads_43 ?_
      refine xs_iload eX10_reads_46 rfl ?_
      refine xs_iadd eX10_reads_47 ?_
      refine xs_eq1 (nI_add 242 i) ?_
      refine xs_K eX10_reads_48 ?_
      refine xs_iast eX10_reads_49 (by assumption) (by omega) (by decide) ?_
      refine xs_inc1 eX10_reads_50 rfl rfl rfl ?_
      refine xs_goto eX10_reads_53 ?_
      refine xs_eqM ?_ ih
      unfold zeS
      funext a
      by_cases e : a = 162
      · subst e
        rw [up2_row, setR_row, setR_row]
        funext j
        simp only [upd]
        by_cases e2 : j = 242 + i
        · rw [if_pos e2, if_pos (by omega)]
        · rw [if_neg e2]
          have e3 : (242 ≤ j ∧ j < 242 + i) = (242 ≤ j ∧ j < 242 + (i + 1)) := propext (by omega)
          simp only [e3]
      · rw [up2_ne e, setR_ne e, setR_ne e]
  · intro i hi ih
    refine xs_iload eX10_reads_12 rfl ?_
    refine xs_K eX10_reads_13 ?_
    refine xs_N_ge eX10_reads_15 (by omega) (by omega) (fun h => absurd h (by omega)) (fun h15 => ?_)
    refine xs_aload eX10_reads_18 rfl ?_
    refine xs_getR eX10_reads_19 (by assumption) (by rfl) ?_
    refine xs_iload eX10_reads_22 rfl ?_
    refine xs_K eX10_reads_23 ?_
    refine xs_iast eX10_reads_24 (by assumption) (by omega) (by decide) ?_
    refine xs_inc1 eX10_reads_25 rfl rfl rfl ?_
    refine xs_goto eX10_reads_28 ?_
    refine xs_eqM ?_ ih
    unfold zeW
    funext a
    by_cases e : a = 161
    · subst e
      rw [up2_row, setR_row, setR_row]
      funext j
      simp only [upd]
      by_cases e2 : j = i
      · rw [if_pos e2, if_pos (by omega)]
      · rw [if_neg e2]
        have e3 : (j < i) = (j < i + 1) := propext (by omega)
        simp only [e3]
    · rw [up2_ne e, setR_ne e, setR_ne e]
theorem c_X10_fault (hR : repM w M) (hok : okX N w) (hQ : ∀ M1, loK M M1 → repM w M1 → Q (some (.int (spFault w))) SF M1) : xC G mX10_fault (d + 9) 0 0 [.ref (G.1 + 156)] SF M Q := by
  have s0 := sh156
  unfold spFault at hQ
  refine xC_intro [some (.ref (G.1 + 156))] rfl (by decide) (Nat.le_of_ble_eq_true rfl) ?_
  refine xs_aload eX10_fault_0 rfl ?_
  refine xs_callV0i eX10_fault_1 (by assumption) (Nat.le_of_ble_eq_true rfl) (c_X10_reads hR hok (fun M1 k1 k2 k3 => ⟨_, rfl, ?_⟩))
  have h9 := hQ M1 (rdK_lo k1) (repM_rd hR hok k1)
  refine xs_ifeqB eX10_fault_4 (fun h4 => ?_) (fun h4 => ?_)
  · obtain ⟨p, hp⟩ := Option.isSome_iff_exists.mp (Option.isNone_eq_false_iff.mp h4)
    rw [hp] at h9
    refine xs_aload eX10_fault_12 rfl ?_
    refine xs_getI eX10_fault_13 (by assumption) (by rfl) ?_
    exact xs_iretI eX10_fault_16 rfl (Qev h9 (k3 p hp).symm)
  · rw [Option.isNone_iff_eq_none.mp h4] at h9
    refine xs_K eX10_fault_7 ?_
    refine xs_goto eX10_fault_9 ?_
    exact xs_iretI eX10_fault_16 rfl (h9)
/-! settles -/
def stW (M : xMem) (i : Nat) : xMem := setR M 157 (fun j => if j < i then M 160 j else M 157 j)
/-- as it is in the midst of the fewest days by way of k -/
def bJ (n k : Nat) (D : Nat → Nat → Nat) : Prop := (∀ a, a < n → D a a = 0) ∧ (∀ a, a < n → (D a k ≤ 20 * 2 ^ k ∨ D a k = 1000000) ∧ (D k a ≤ 20 * 2 ^ k ∨ D k a = 1000000)) ∧ ∀ a b, a < n → b < n → D a b ≤ 20 * 2 ^ (k + 1) ∨ D a b = 1000000
theorem bJ_rlx {n k a b : Nat} {D : Nat → Nat → Nat} (hn : n ≤ 7) (hk : k < n) (ha : a < n) (hb : b < n) (h : bJ n k D) : bJ n k (rlx k a b D) := by
  obtain ⟨h1, h2, h3⟩ := h
  have hp : 2 ^ (k + 1) = 2 * 2 ^ k := by rw [Nat.pow_succ]; omega
  have hp2 : 2 ^ k ≤ 64 := by have := pw_mono (show k ≤ 6 by omega); exact this
  have e1 := (h2 a ha).1
  have e2 := (h2 b hb).2
  have e3 := h3 a b ha hb
  have hkk := h1 k hk
  refine ⟨fun i hi => ?_, fun i hi => ⟨?_, ?_⟩, fun i j hi hj => ?_⟩ <;> simp only [rlx, up2N]
  · have := h1 i hi
    split
    · next e => obtain ⟨rfl, rfl⟩ := e; split <;> omega
    · exact this
  · have := (h2 i hi).1
    split
    · next e => obtain ⟨rfl, rfl⟩ := e; rw [if_neg (by omega)]; exact this
    · exact this
  · have := (h2 i hi).2
    split
    · next e => obtain ⟨rfl, rfl⟩ := e; rw [if_neg (by omega)]; exact this
    · exact this
  · have := h3 i j hi hj
    split
    · next e => obtain ⟨rfl, rfl⟩ := e; split <;> omega
    · exact this
theorem bJ_next {n k : Nat} {D : Nat → Nat → Nat} (hk : k + 1 < n) (h : bJ n k D) : bJ n (k + 1) D := by
  obtain ⟨h1, h2, h3⟩ := h
  have hp : 2 ^ (k + 1 + 1) = 2 * 2 ^ (k + 1) := by rw [Nat.pow_succ]; omega
  refine ⟨h1, fun a ha => ⟨h3 a _ ha (by omega), h3 _ a (by omega) ha⟩, fun a b ha hb => ?_⟩
  have := h3 a b ha hb
  omega
theorem bJ_0 {T : aT} (h : okT T) : bJ T.1 0 (d0W T.2.2.2.2.2.2.2) := by
  have h8 := h.2.2.2.2.2.2.2
  have hh : ∀ a b, d0W T.2.2.2.2.2.2.2 a b ≤ 20 ∨ d0W T.2.2.2.2.2.2.2 a b = 1000000 := fun a b => by
    have := (h8 a b).1
    simp only [d0W]
    split
    · omega
    · split <;> omega
  exact ⟨fun a _ => by simp [d0W], fun a _ => ⟨hh a _, hh _ a⟩, fun a b _ _ => by have := hh a b; omega⟩
def rFm (M : xMem) (n : Nat) (D : Nat → Nat → Nat) : Prop := ∀ a b, a < n → b < n → M 159 (7 * a + b) = nI (fo (D a b))
theorem rFm_rlx {M : xMem} {n k a b : Nat} {D : Nat → Nat → Nat} (hn : n ≤ 7) (hk : k < n) (ha : a < n) (hb : b < n) (hj : bJ n k D) (h : rFm M n D) : rFm (up2 M 159 (7 * a + b) (nI (mnA (fo (D a b)) (fo (D a k) + fo (D k b))))) n (rlx k a b D) := by
  intro i j hi hj2
  have hp : 2 ^ (k + 1) = 2 * 2 ^ k := by rw [Nat.pow_succ]; omega
  have hp2 : 2 ^ k ≤ 64 := by have := pw_mono (show k ≤ 6 by omega); exact this
  rw [up2_x]
  simp only [rlx, up2N]
  by_cases e : i = a ∧ j = b
  · rw [if_pos (by omega), if_pos e, fo_min (by have := hj.2.2 a b ha hb; omega) (by have := (hj.2.1 a ha).1; omega) (by have := (hj.2.1 b hb).2; omega)]
    rfl
  · rw [if_neg (by omega), if_neg e]
    exact h i j hi hj2
end L2

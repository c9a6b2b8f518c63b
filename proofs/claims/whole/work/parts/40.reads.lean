/-! THE REFERENCE reads its text: fault -/
def rdK (M M1 : xMem) : Prop := (∀ a, a ≠ 156 → a ≠ 160 → a ≠ 161 → a ≠ 162 → M1 a = M a) ∧ (∀ j, j < 242 → M1 162 j = M 162 j) ∧ ∀ j, j ≠ 5 → j ≠ 7 → j ≠ 14 → j ≠ 15 → j ≠ 16 → M1 156 j = M 156 j
/-- the reference's draft -/
def rTm (M : xMem) (T : aT) : Prop := M 156 5 = nI T.1 ∧ M 156 7 = nI T.2.1 ∧ (∀ v, v < T.1 → M 160 v = nI (T.2.2.1 v)) ∧ rS M 242 (bkT T) ∧ ∀ a b, a < 7 → b < 7 → M 161 (7 * a + b) = nI (T.2.2.2.2.2.2.2 a b)
theorem rdK_lo {M M1 : xMem} (h : rdK M M1) : loK M M1 := fun a ha => h.1 a (by omega) (by omega) (by omega) (by omega)
theorem rdK_tr {M M1 M2 : xMem} (h : rdK M M1) (h2 : rdK M1 M2) : rdK M M2 := ⟨fun a a1 a2 a3 a4 => (h2.1 a a1 a2 a3 a4).trans (h.1 a a1 a2 a3 a4), fun j hj => (h2.2.1 j hj).trans (h.2.1 j hj), fun j a1 a2 a3 a4 a5 => (h2.2.2 j a1 a2 a3 a4 a5).trans (h.2.2 j a1 a2 a3 a4 a5)⟩
theorem rdK_rfl {M : xMem} : rdK M M := ⟨fun _ _ _ _ _ => rfl, fun _ _ => rfl, fun _ _ _ _ _ _ => rfl⟩
theorem rdK_up {M : xMem} {j : Nat} {y : Int32} (hj : j = 5 ∨ j = 7 ∨ j = 14 ∨ j = 15 ∨ j = 16) : rdK M (up2 M 156 j y) := ⟨fun a a1 _ _ _ => up2_ne a1, fun i _ => by rw [up2_ne (by decide)], fun i a1 a2 a3 a4 a5 => by rw [up2_x, if_neg (by omega)]⟩
theorem rdK_o {M : xMem} {c j : Nat} {y : Int32} (hc : c = 160 ∨ c = 161) : rdK M (up2 M c j y) := ⟨fun a _ a2 a3 _ => up2_ne (by omega), fun i _ => by rw [up2_ne (by omega)], fun i _ _ _ _ _ => by rw [up2_ne (by omega)]⟩
theorem rdK_s {M : xMem} {j : Nat} {y : Int32} (hj : 242 ≤ j) : rdK M (up2 M 162 j y) := ⟨fun a _ _ _ a4 => up2_ne a4, fun i hi => by rw [up2_x, if_neg (by omega)], fun i _ _ _ _ _ => by rw [up2_ne (by decide)]⟩
theorem rdK_rd {M : xMem} {q : Nat} {x : Bool} : rdK M (rdM M q x) := rdK_tr (rdK_up (by omega)) (rdK_up (by omega))
theorem rdK_it {M : xMem} {nv np : Nat} {it : Nat × List Nat} : rdK M (itR M nv np it) := by
  unfold itR
  split
  · exact rdK_tr (rdK_tr (rdK_o (by omega)) (rdK_s (by omega))) (rdK_up (by omega))
  · split
    · exact rdK_tr (rdK_o (by omega)) (rdK_o (by omega))
    · exact rdK_tr (rdK_s (by omega)) (rdK_up (by omega))
theorem repM_rd {w : aX} {M M1 : xMem} {N : Nat} (h : repM w M) (hok : okX N w) (hk : rdK M M1) : repM w M1 := by
  obtain ⟨⟨t1, t2⟩, r1, r2, ⟨r3, r3b⟩, ⟨r4, r4b⟩, ⟨r5, r6⟩⟩ := h
  obtain ⟨k1, k2, k3⟩ := hk
  have h8 := hok.2.2.2.1.1
  have h2 := hok.2.2.2.2.1.1
  have e := fun j (a1 : j ≠ 5) a2 a3 a4 a5 => k3 j a1 a2 a3 a4 a5
  refine ⟨⟨by rw [k3 12 (by decide) (by decide) (by decide) (by decide) (by decide)]; exact t1, fun j hj => by rw [k1 163 (by decide) (by decide) (by decide) (by decide)]; exact t2 j hj⟩, rLm_keep r1 (k3 0 (by decide) (by decide) (by decide) (by decide) (by decide)) (k3 2 (by decide) (by decide) (by decide) (by decide) (by decide)) (k1 157 (by decide) (by decide) (by decide) (by decide)) (k1 158 (by decide) (by decide) (by decide) (by decide)) (k1 159 (by decide) (by decide) (by decide) (by decide)), rS_keep r2 (fun j _ _ => k2 j (by omega)), ⟨by rw [k3 10 (by decide) (by decide) (by decide) (by decide) (by decide)]; exact r3, fun i k hi => rS_keep (r3b i k hi) (fun j _ _ => k2 j (by omega))⟩, ⟨by rw [k3 11 (by decide) (by decide) (by decide) (by decide) (by decide)]; exact r4, fun i k hi => rS_keep (r4b i k hi) (fun j _ _ => k2 j (by omega))⟩, ⟨by rw [k3 17 (by decide) (by decide) (by decide) (by decide) (by decide)]; exact r5, fun i k hi => by rw [k1 164 (by decide) (by decide) (by decide) (by decide), k1 165 (by decide) (by decide) (by decide) (by decide)]; exact r6 i k hi⟩⟩
theorem isTm_rdK {M M1 : xMem} {t : Nat → Nat} {len : Nat} (h : isTm M t len) (hk : rdK M M1) : isTm M1 t len := ⟨by rw [hk.2.2 12 (by decide) (by decide) (by decide) (by decide) (by decide)]; exact h.1, h.2.1, fun j hj => by rw [hk.1 163 (by decide) (by decide) (by decide) (by decide)]; exact h.2.2 j hj⟩
theorem rTm_k {M M1 : xMem} {T : aT} (h : rTm M T) (h5 : M1 156 5 = M 156 5) (h7 : M1 156 7 = M 156 7) (ho : ∀ a, a ≠ 156 → M1 a = M a) : rTm M1 T := by
  obtain ⟨a1, a2, a3, a4, a5⟩ := h
  exact ⟨by rw [h5]; exact a1, by rw [h7]; exact a2, fun v hv => by rw [ho 160 (by decide)]; exact a3 v hv, rS_keep a4 (fun j _ _ => by rw [ho 162 (by decide)]), fun a b ha hb => by rw [ho 161 (by decide)]; exact a5 a b ha hb⟩
theorem rdM_c {M : xMem} {j q : Nat} {y : Int32} {x : Bool} (h : j ≠ 14) (h2 : j ≠ 16) : up2 (rdM M q x) 156 j y = rdM (up2 M 156 j y) q x := by
  funext a i
  by_cases e : a = 156
  · subst e
    rw [up2_x, rdM_f, rdM_f, up2_x]
    by_cases e1 : i = j
    · rw [if_pos e1, if_pos e1, if_neg (by omega), if_neg (by omega)]
    · rw [if_neg e1, if_neg e1]
  · rw [up2_ne e, rdM_ne e, rdM_ne e, up2_ne e]
theorem rdM_o {M : xMem} {c j q : Nat} {y : Int32} {x : Bool} (h : c ≠ 156) : up2 (rdM M q x) c j y = rdM (up2 M c j y) q x := by
  funext a i
  by_cases e : a = 156
  · subst e
    rw [up2_ne (Ne.symm h), rdM_f, rdM_f, up2_ne (Ne.symm h)]
  · rw [rdM_ne e]
    by_cases e1 : a = c
    · subst e1; rw [up2_row, up2_row, rdM_ne e]
    · rw [up2_ne e1, up2_ne e1, rdM_ne e]
theorem itR_rd {M : xMem} {q nv np : Nat} {x : Bool} {it : Nat × List Nat} : itR (rdM M q x) nv np it = rdM (itR M nv np it) q x := by
  unfold itR
  split
  · rw [rdM_o (by decide), rdM_o (by decide), rdM_c (by decide) (by decide)]
  · split
    · rw [rdM_o (by decide), rdM_o (by decide)]
    · rw [rdM_o (by decide), rdM_c (by decide) (by decide)]
theorem rTm_item {M : xMem} {T : aT} {it : Nat × List Nat} (h : rTm M T) (ho : okT T) (hi : okI T it) : rTm (itR M T.1 T.2.1 it) (itemT T it) := by
  obtain ⟨a1, a2, a3, a4, a5⟩ := h
  obtain ⟨o1, o2, -⟩ := ho
  rcases hi with ⟨k, o, rfl, q1, q2, q3⟩ | ⟨a, b, y, rfl, q1, q2, q3, q4, q5⟩ | ⟨v, rfl, q1, q2⟩
  · show rTm (up2 (up2 (up2 M 160 T.1 (nI k)) 162 (242 + T.1) (nI o)) 156 5 (nI (T.1 + 1))) (T.1 + 1, T.2.1, va_up T.2.2.1 T.1 k, va_up T.2.2.2.1 T.1 o, T.2.2.2.2.1, T.2.2.2.2.2.1, (if k = 0 then sbt T.2.2.2.2.2.2.1 T.1 else T.2.2.2.2.2.2.1), T.2.2.2.2.2.2.2)
    refine ⟨by rw [up2_x, if_pos rfl], by rw [up2_x, if_neg (by decide), up2_ne (by decide), up2_ne (by decide)]; exact a2, fun v hv => ?_, ?_, fun a b ha hb => by rw [up2_ne (by decide), up2_ne (by decide), up2_ne (by decide)]; exact a5 a b ha hb⟩
    · rw [up2_ne (by decide), up2_ne (by decide), up2_x]
      simp only [va_up]
      split
      · rfl
      · exact a3 v (by have hv : v < T.1 + 1 := hv; omega)
    · exact rS_keep (rS_ox (i := T.1) (y := o) (M := up2 M 160 T.1 (nI k)) (rS_keep a4 (fun j _ _ => by rw [up2_ne (by decide)])) q1) (fun j _ _ => by rw [up2_ne (by decide)])
  · show rTm (up2 (up2 M 161 (7 * a + b) (nI y)) 161 (7 * b + a) (nI y)) (T.1, T.2.1, T.2.2.1, T.2.2.2.1, T.2.2.2.2.1, _, T.2.2.2.2.2.2.1, up2N (up2N T.2.2.2.2.2.2.2 a b y) b a y)
    refine ⟨by rw [up2_ne (by decide), up2_ne (by decide)]; exact a1, by rw [up2_ne (by decide), up2_ne (by decide)]; exact a2, fun v hv => by rw [up2_ne (by decide), up2_ne (by decide)]; exact a3 v hv, rS_keep a4 (fun j _ _ => by rw [up2_ne (by decide), up2_ne (by decide)]), fun i j hi hj => ?_⟩
    rw [up2_x, up2_x]
    show _ = nI (up2N (up2N T.2.2.2.2.2.2.2 a b y) b a y i j)
    rw [up2N_two q3]
    by_cases e1 : i = b ∧ j = a
    · rw [if_pos (by omega), if_pos (Or.inr e1)]
    · rw [if_neg (by omega)]
      by_cases e2 : i = a ∧ j = b
      · rw [if_pos (by omega), if_pos (Or.inl e2)]
      · rw [if_neg (by omega), if_neg (by omega)]; exact a5 i j hi hj
  · show rTm (up2 (up2 M 162 (242 + 16 + T.2.1) (nI v)) 156 7 (nI (T.2.1 + 1))) (T.1, T.2.1 + 1, T.2.2.1, T.2.2.2.1, va_up T.2.2.2.2.1 T.2.1 v, T.2.2.2.2.2)
    refine ⟨by rw [up2_x, if_neg (by decide), up2_ne (by decide)]; exact a1, by rw [up2_x, if_pos rfl], fun v hv => by rw [up2_ne (by decide), up2_ne (by decide)]; exact a3 v hv, rS_keep (rS_at (i := T.2.1) (y := v) a4 q1) (fun j _ _ => by rw [up2_ne (by decide)]), fun a b ha hb => by rw [up2_ne (by decide), up2_ne (by decide)]; exact a5 a b ha hb⟩
section RE
variable {G : xGl} {d N pl len nv np : Nat} {w : aX} {t : Nat → Nat} {M : xMem} {wr : Bool} {Q : Option Value → List xSh → xMem → Prop}
theorem reads_loop (ht : isTm M t len) : ∀ (f : Nat) (M2 : xMem) (T : aT) (pl : Nat) (A : Option Value), len ≤ pl + 3 * f → pl < 300 → rdK M M2 → rTm M2 T → okT T → (∀ M1, rdK M M1 → ((parseF (ltr t len) len f T.1 T.2.1 pl).2 = none → rTm M1 (buildT (parseF (ltr t len) len f T.1 T.2.1 pl).1 T)) → (∀ p, (parseF (ltr t len) len f T.1 T.2.1 pl).2 = some p → M1 156 15 = nI p) → Q (some (.int (bI (parseF (ltr t len) len f T.1 T.2.1 pl).2.isNone))) SF M1) → xW G mX10_reads (d + 4) 0 0 Q 66 [some (.ref (G.1 + 156)), A] [] SF (rdM M2 pl false) := by
  have s0 := sh156
  have hlen := ht.2.1
  have hl := ltm_le ht
  intro f
  induction f with
  | zero =>
    intro M2 T pl A hf hp hk hT ho hq
    have e12 : rdM M2 pl false 156 12 = nI len := by rw [rdM_f]; exact (isTm_rdK ht hk).1
    have e14 : rdM M2 pl false 156 14 = nI pl := by rw [rdM_f]; rfl
    have h9 := hq (rdM M2 pl false) (rdK_tr hk rdK_rd) (fun _ => rTm_k hT (by rw [rdM_f]; rfl) (by rw [rdM_f]; rfl) (fun a ha => rdM_ne ha)) (fun p hp => by cases hp)
    refine xs_aload eX10_reads_66 rfl ?_
    refine xs_getI eX10_reads_67 (by assumption) (by rfl) ?_
    refine xs_eq1 e14 ?_
    refine xs_aload eX10_reads_70 rfl ?_
    refine xs_getI eX10_reads_71 (by assumption) (by rfl) ?_
    refine xs_eq1 e12 ?_
    refine xs_N_ge eX10_reads_74 (by omega) (by omega) (fun h74 => ?_) (fun h => absurd h (by omega))
    refine xs_aload eX10_reads_150 rfl ?_
    refine xs_getI eX10_reads_151 (by assumption) (by rfl) ?_
    refine xs_eq1 e160 ?_
    refine xs_N0_ne eX10_reads_154 (by omega) (fun h => absurd h (by omega)) (fun h154 => ?_)
    refine xs_K eX10_reads_157 ?_
    refine xs_goto eX10_reads_158 ?_
    exact xs_iret eX10_reads_162 rfl (by first | exact bI_nar _ | rfl) (h9)
  | succ f ih =>
    intro M2 T pl A hf hp hk hT ho hq
    have e12 : rdM M2 pl false 156 12 = nI len := by rw [rdM_f]; exact (isTm_rdK ht hk).1
    have e14 : ∀ M2 pl x, rdM M2 pl x 156 14 = nI pl := fun M2 pl x => by rw [rdM_f]; rfl
    rw [parseF] at hq
    by_cases hpl : pl < len
    · rw [if_pos hpl] at hq
      have hk3 : rdK M (up2 M2 156 15 (nI pl)) := rdK_tr hk (rdK_up (by omega))
      have ht3 := isTm_rdK ht hk3
      have hT3 : rTm (up2 M2 156 15 (nI pl)) T := rTm_k hT (by rw [up2_x, if_neg (by decide)]) (by rw [up2_x, if_neg (by decide)]) (fun a ha => up2_ne ha)
      have h15 : up2 M2 156 15 (nI pl) 156 15 = nI pl := by rw [up2_x, if_pos rfl]
      generalize hM3 : up2 M2 156 15 (nI pl) = M3 at hk3 ht3 hT3 h15
      have KX : ∀ (M4 : xMem) (q : Nat) (A : Option Value), q < 2000 → rdK M M4 → M4 156 15 = nI pl → itemF (ltr t len) T.1 T.2.1 pl = none → xW G mX10_reads (d + 4) 0 0 Q 66 [some (.ref (G.1 + 156)), A] [] SF (rdM M4 q true) := by
        intro M4 q A hq2 hk4 h15 hno
        rw [hno] at hq
        have e12 : rdM M4 q true 156 12 = nI len := by rw [rdM_f]; exact (isTm_rdK ht hk4).1
        have h9 := hq (rdM M4 q true) (rdK_tr hk4 rdK_rd) (fun h => by cases h) (fun p hp => by cases hp; rw [rdM_f]; exact h15)
        refine xs_aload eX10_reads_66 rfl ?_
        refine xs_getI eX10_reads_67 (by assumption) (by rfl) ?_
        refine xs_eq1 (e14 _ _ _) ?_
        refine xs_aload eX10_reads_70 rfl ?_
        refine xs_getI eX10_reads_71 (by assumption) (by rfl) ?_
        refine xs_eq1 e12 ?_
        refine xs_N_ge eX10_reads_74 (by omega) (by omega) (fun h74 => ?_) (fun h74 => ?_)
        · refine xs_aload eX10_reads_150 rfl ?_
          refine xs_getI eX10_reads_151 (by assumption) (by rfl) ?_
          refine xs_eq1 e161 ?_
          refine xs_N0_ne eX10_reads_154 (by omega) (fun h154 => ?_) (fun h => absurd h (by omega))
          refine xs_K eX10_reads_161 ?_
          exact xs_iret eX10_reads_162 rfl (by first | exact bI_nar _ | rfl) (h9)
        · refine xs_aload eX10_reads_77 rfl ?_
          refine xs_getI eX10_reads_78 (by assumption) (by rfl) ?_
          refine xs_eq1 e161 ?_
          refine xs_N0_ne eX10_reads_81 (by omega) (fun h81 => ?_) (fun h => absurd h (by omega))
          refine xs_aload eX10_reads_150 rfl ?_
          refine xs_getI eX10_reads_151 (by assumption) (by rfl) ?_
          refine xs_eq1 e161 ?_
          refine xs_N0_ne eX10_reads_154 (by omega) (fun h154 => ?_) (fun h => absurd h (by omega))
          refine xs_K eX10_reads_161 ?_
          exact xs_iret eX10_reads_162 rfl (by first | exact bI_nar _ | rfl) (h9)
      have KE : ∀ (M4 : xMem) (q : Nat) (A : Option Value), q < 1900 → rdK M M4 → M4 156 15 = nI pl → itemF (ltr t len) T.1 T.2.1 pl = none → xW G mX10_reads (d + 4) 0 0 Q 129 [some (.ref (G.1 + 156)), A] [.ref (G.1 + 156)] SF (rdM M4 q true) := by
        intro M4 q A hq2 hk4 h15 hno
        refine xs_K eX10_reads_129 ?_
        refine xs_goto eX10_reads_130 ?_
        refine xs_putI eX10_reads_134 (by assumption) (by rfl) (bI_nar true) (bI_fit true) ?_
        refine xs_eqM rdM_w1 ?_
        refine xs_aload eX10_reads_137 rfl ?_
        refine xs_dup eX10_reads_138 rfl ?_
        refine xs_getI eX10_reads_139 (by assumption) (by rfl) ?_
        refine xs_eq1 (e14 _ _ _) ?_
        refine xs_K eX10_reads_142 ?_
        refine xs_iadd eX10_reads_143 ?_
        refine xs_eq1 (nI_add q 1) ?_
        refine xs_putI eX10_reads_144 (by assumption) (by rfl) rfl rfl ?_
        refine xs_eqM rdM_at ?_
        refine xs_goto eX10_reads_147 ?_
        exact KX M4 (q + 1) _ (by omega) hk4 h15 hno
      have KE0 : ∀ (M4 : xMem) (q : Nat) (A : Option Value), q < 1900 → rdK M M4 → M4 156 15 = nI pl → itemF (ltr t len) T.1 T.2.1 pl = none → xW G mX10_reads (d + 4) 0 0 Q 129 [some (.ref (G.1 + 156)), A] [.ref (G.1 + 156)] SF (rdM M4 q false) := by
        intro M4 q A hq2 hk4 h15 hno
        refine xs_K eX10_reads_129 ?_
        refine xs_goto eX10_reads_130 ?_
        refine xs_putI eX10_reads_134 (by assumption) (by rfl) (bI_nar true) (bI_fit true) ?_
        refine xs_eqM rdM_w1 ?_
        refine xs_aload eX10_reads_137 rfl ?_
        refine xs_dup eX10_reads_138 rfl ?_
        refine xs_getI eX10_reads_139 (by assumption) (by rfl) ?_
        refine xs_eq1 (e14 _ _ _) ?_
        refine xs_K eX10_reads_142 ?_
        refine xs_iadd eX10_reads_143 ?_
        refine xs_eq1 (nI_add q 1) ?_
        refine xs_putI eX10_reads_144 (by assumption) (by rfl) rfl rfl ?_
        refine xs_eqM rdM_at ?_
        refine xs_goto eX10_reads_147 ?_
        exact KX M4 (q + 1) _ (by omega) hk4 h15 hno
      refine xs_aload eX10_reads_66 rfl ?_
      refine xs_getI eX10_reads_67 (by assumption) (by rfl) ?_
      refine xs_eq1 (e14 _ _ _) ?_
      refine xs_aload eX10_reads_70 rfl ?_
      refine xs_getI eX10_reads_71 (by assumption) (by rfl) ?_
      refine xs_eq1 e12 ?_
      refine xs_N_ge eX10_reads_74 (by omega) (by omega) (fun h => absurd h (by omega)) (fun h74 => ?_)
      refine xs_aload eX10_reads_77 rfl ?_
      refine xs_getI eX10_reads_78 (by assumption) (by rfl) ?_
      refine xs_eq1 e160 ?_
      refine xs_N0_ne eX10_reads_81 (by omega) (fun h => absurd h (by omega)) (fun h81 => ?_)
      refine xs_aload eX10_reads_84 rfl ?_
      refine xs_aload eX10_reads_85 rfl ?_
      refine xs_getI eX10_reads_86 (by assumption) (by rfl) ?_
      refine xs_eq1 (e14 _ _ _) ?_
      refine xs_putI eX10_reads_89 (by assumption) (by rfl) rfl rfl ?_
      refine xs_eqM (rdM_c (by decide) (by decide)) ?_
      rw [hM3]
      refine xs_aload eX10_reads_92 rfl ?_
      refine xs_callV0i eX10_reads_93 (by assumption) (Nat.le_of_ble_eq_true rfl) (c_X10_next ht3 ⟨_, rfl, ?_⟩)
      refine xs_istore eX10_reads_96 (Nat.le_of_ble_eq_true rfl) rfl rfl ?_
      refine xs_aload eX10_reads_97 rfl ?_
      refine xs_dup eX10_reads_98 rfl ?_
      refine xs_getI eX10_reads_99 (by assumption) (by rfl) ?_
      refine xs_eq1 (e14 _ _ _) ?_
      refine xs_K eX10_reads_102 ?_
      refine xs_iadd eX10_reads_103 ?_
      refine xs_eq1 (nI_add pl 1) ?_
      refine xs_putI eX10_reads_104 (by assumption) (by rfl) rfl rfl ?_
      refine xs_eqM rdM_at ?_
      refine xs_aload eX10_reads_107 rfl ?_
      refine xs_iload eX10_reads_108 rfl ?_
      refine xs_callV1v eX10_reads_109 (by assumption) (Nat.le_of_ble_eq_true rfl) (c_X10_item ht3 (by omega) hT3.1 ho.1 hT3.2.1 ho.2.1 (fun it q g1 g2 g3 => ⟨rfl, ?_⟩) (fun q h1 h2 => ⟨rfl, ?_⟩))
      · have hk4 : rdK M (itR M3 T.1 T.2.1 it) := rdK_tr hk3 rdK_it
        have ht4 := isTm_rdK ht hk4
        have hT4 := rTm_item hT3 ho g1
        have h15' : itR M3 T.1 T.2.1 it 156 15 = nI pl := by
          unfold itR
          split
          · rw [up2_x, if_neg (by decide), up2_ne (by decide), up2_ne (by decide)]; exact h15
          · split
            · rw [up2_ne (by decide), up2_ne (by decide)]; exact h15
            · rw [up2_x, if_neg (by decide), up2_ne (by decide)]; exact h15
        have hx := nx_eq (pl := q) (c := 59) ht4 (by decide) (by decide)
        have ho2 := okT_item ho g1
        refine xs_eqM itR_rd ?_
        generalize itR M3 T.1 T.2.1 it = M4 at hk4 ht4 hT4 h15' hx
        refine xs_aload eX10_reads_112 rfl ?_
        refine xs_aload eX10_reads_113 rfl ?_
        refine xs_getI eX10_reads_114 (by assumption) (by rfl) ?_
        refine xs_eq1 e160 ?_
        refine xs_N0_ne eX10_reads_117 (by omega) (fun h => absurd h (by omega)) (fun h117 => ?_)
        refine xs_aload eX10_reads_120 rfl ?_
        refine xs_callV0i eX10_reads_121 (by assumption) (Nat.le_of_ble_eq_true rfl) (c_X10_next ht4 ⟨_, rfl, ?_⟩)
        refine xs_K eX10_reads_124 ?_
        refine xs_icmp_eq eX10_reads_126 (fun h126 => ?_) (fun h126 => ?_)
        · refine xs_K eX10_reads_133 ?_
          refine xs_putI eX10_reads_134 (by assumption) (by rfl) (bI_nar false) (bI_fit false) ?_
          refine xs_eqM rdM_w0 ?_
          refine xs_aload eX10_reads_137 rfl ?_
          refine xs_dup eX10_reads_138 rfl ?_
          refine xs_getI eX10_reads_139 (by assumption) (by rfl) ?_
          refine xs_eq1 (e14 _ _ _) ?_
          refine xs_K eX10_reads_142 ?_
          refine xs_iadd eX10_reads_143 ?_
          refine xs_eq1 (nI_add q 1) ?_
          refine xs_putI eX10_reads_144 (by assumption) (by rfl) rfl rfl ?_
          refine xs_eqM rdM_at ?_
          refine xs_goto eX10_reads_147 ?_
          have h59 := hx.mp h126
          rw [if_pos h59] at g2
          rw [g2] at hq
          have hs := itemF_some hl g2
          refine ih M4 (itemT T it) (q + 1) _ (by omega) (by omega) hk4 hT4 ho2.1 ?_
          rw [ho2.2.1, ho2.2.2]
          exact hq
        · exact KE0 M4 q _ (by omega) hk4 h15' (by rw [g2, if_neg (fun e => h126 (hx.mpr e))])
      · refine xs_aload eX10_reads_112 rfl ?_
        refine xs_aload eX10_reads_113 rfl ?_
        refine xs_getI eX10_reads_114 (by assumption) (by rfl) ?_
        refine xs_eq1 e161 ?_
        refine xs_N0_ne eX10_reads_117 (by omega) (fun h117 => ?_) (fun h => absurd h (by omega))
        exact KE M3 q _ (by omega) hk3 h15 h2
    · rw [if_neg hpl] at hq
      have h9 := hq (rdM M2 pl false) (rdK_tr hk rdK_rd) (fun _ => rTm_k hT (by rw [rdM_f]; rfl) (by rw [rdM_f]; rfl) (fun a ha => rdM_ne ha)) (fun p hp => by cases hp)
      refine xs_aload eX10_reads_66 rfl ?_
      refine xs_getI eX10_reads_67 (by assumption) (by rfl) ?_
      refine xs_eq1 (e14 _ _ _) ?_
      refine xs_aload eX10_reads_70 rfl ?_
      refine xs_getI eX10_reads_71 (by assumption) (by rfl) ?_
      refine xs_eq1 e12 ?_
      refine xs_N_ge eX10_reads_74 (by omega) (by omega) (fun h74 => ?_) (fun h => absurd h (by omega))
      refine xs_aload eX10_reads_150 rfl ?_
      refine xs_getI eX10_reads_151 (by assumption) (by rfl) ?_
      refine xs_eq1 e160 ?_
      refine xs_N0_ne eX10_reads_154 (by omega) (fun h => absurd h (by omega)) (fun h154 => ?_)
      refine xs_K eX10_reads_157 ?_
      refine xs_goto eX10_reads_158 ?_
      exact xs_iret eX10_reads_162 rfl (by first | exact bI_nar _ | rfl) (h9)
end RE

/-! what Book's methods do, as numbers -/
theorem swearM_ne {M : xMem} {c v kd a : Nat} {hon : Int32} (h : a < c ∨ c + 4 < a) : swearM M c v kd hon a = M a := by
  simp only [swearM]
  rw [up2_ne (by omega)]
  split
  · rw [up2_ne (by omega), up2_ne (by omega), up2_ne (by omega)]
  · rw [up2_ne (by omega)]
theorem askM_ne {M : xMem} {c p v w kd a : Nat} {hon : Int32} (h : a < c ∨ c + 4 < a) : askM M c p v w kd hon a = M a := by
  simp only [askM]
  rw [swearM_ne h, up2_ne (by omega), up2_ne (by omega)]
theorem checkM_ne {M : xMem} {c v a : Nat} (h : a < c ∨ c + 4 < a) : checkM M c v a = M a := by
  simp only [checkM]
  rw [up2_ne (by omega), up2_ne (by omega)]
theorem strikeM_ne {M : xMem} {c v a : Nat} (h : a < c ∨ c + 4 < a) : strikeM M c v a = M a := by
  simp only [strikeM]
  rw [up2_ne (by omega), up2_ne (by omega)]
theorem openM_ne {M : xMem} {c a : Nat} (h : a < c ∨ c + 4 < a) : openM M c a = M a := by
  simp only [openM]
  rw [setR_ne (by omega), setR_ne (by omega), setR_ne (by omega), setR_ne (by omega), setR_ne (by omega)]
theorem cpE_ne {M : xMem} {c e a : Nat} (h : a < c ∨ c + 2 < a) : cpE M c e a = M a := by
  simp only [cpE]
  rw [setR_ne (by omega), setR_ne (by omega), setR_ne (by omega)]
theorem rB_cp {M : xMem} {c e : Nat} {b : aBk} (hap : c + 5 ≤ e ∨ e + 5 ≤ c) (h : rB M e b) : rB (cpB M c e) c b := by
  obtain ⟨h1, h2, h3, h4⟩ := h
  have g0 : cpB M c e c = M e := by simp only [cpB, cpE]; rw [setR_ne (by omega), setR_ne (by omega), setR_ne (by omega), setR_ne (by omega), setR_row]
  have g1 : cpB M c e (c + 1) = M (e + 1) := by simp only [cpB, cpE]; rw [setR_ne (by omega), setR_ne (by omega), setR_ne (by omega), setR_row]
  have g2 : cpB M c e (c + 2) = M (e + 2) := by simp only [cpB, cpE]; rw [setR_ne (by omega), setR_ne (by omega), setR_row]
  have g3 : cpB M c e (c + 3) = M (e + 3) := by simp only [cpB]; rw [setR_ne (by omega), setR_row]
  have g4 : cpB M c e (c + 4) = M (e + 4) := by simp only [cpB]; rw [setR_row]
  exact ⟨by rw [g0]; exact h1, by rw [g0]; exact h2, fun v hv => by rw [g1, g2]; exact h3 v hv, fun p hp => by rw [g3, g4]; exact h4 p hp⟩
/-- entries alone: a book's first three rows -/
def rE (M : xMem) (c : Nat) (b : aBk) : Prop := M c 5 = nI b.1 ∧ M c 6 = nI b.2.1 ∧ ∀ v, v < 7 → M (c + 1) v = nI (b.2.2.1 v) ∧ M (c + 2) v = nI (b.2.2.2.1 v)
theorem rB.e {M : xMem} {c : Nat} {b : aBk} (h : rB M c b) : rE M c b := ⟨h.1, h.2.1, h.2.2.1⟩
theorem rE_cp {M : xMem} {c e : Nat} {b : aBk} (hap : c + 5 ≤ e ∨ e + 5 ≤ c) (h : rE M e b) : rE (cpE M c e) c b := by
  obtain ⟨h1, h2, h3⟩ := h
  have g0 : cpE M c e c = M e := by simp only [cpE]; rw [setR_ne (by omega), setR_ne (by omega), setR_row]
  have g1 : cpE M c e (c + 1) = M (e + 1) := by simp only [cpE]; rw [setR_ne (by omega), setR_row]
  have g2 : cpE M c e (c + 2) = M (e + 2) := by simp only [cpE]; rw [setR_row]
  exact ⟨by rw [g0]; exact h1, by rw [g0]; exact h2, fun v hv => by rw [g1, g2]; exact h3 v hv⟩
theorem rE_keep {M M1 : xMem} {c : Nat} {b : aBk} (h : rE M c b) (hk : ∀ a, c ≤ a → a ≤ c + 4 → M1 a = M a) : rE M1 c b := by
  obtain ⟨h1, h2, h3⟩ := h
  refine ⟨by rw [hk c (by omega) (by omega)]; exact h1, by rw [hk c (by omega) (by omega)]; exact h2, fun v hv => ?_⟩
  rw [hk (c + 1) (by omega) (by omega), hk (c + 2) (by omega) (by omega)]; exact h3 v hv
theorem sw_of {M : xMem} {c v kd : Nat} {near : Nat → Nat} {hon : Nat} {b : aBk} (hv : v < 7) (hE : rE M c b) (hn : M 22 v = nI (near v)) (hn2 : near v < 128) (hox : ∀ v, v < 7 → b.2.2.1 v ≤ 420) : swornP (M 22 v &&& M c 5) (nI hon) (M (c + 1)) (M (c + 2)) v kd = nI (swN near hon b v kd) := by
  rw [hn, hE.1]
  exact sw_nI hv hn2 (fun v hv => (hE.2.2 v hv).1) (fun v hv => (hE.2.2 v hv).2) (by have := hox v hv; omega)
theorem rE_swear {M : xMem} {c v kd : Nat} {near : Nat → Nat} {hon : Nat} {b : aBk} (hc : isBk c) (hv : v < 7) (hE : rE M c b) (hn : M 22 v = nI (near v)) (hn2 : near v < 128) (hib : b.1 < 128) (hox : ∀ v, v < 7 → b.2.2.1 v ≤ 420) : rE (swearM M c v kd (nI hon)) c (swearB near hon b v kd) := by
  have hs := sw_of (kd := kd) (hon := hon) hv hE hn hn2 hox
  obtain ⟨h1, h2, h3⟩ := hE
  have ha : near v &&& b.1 < 128 := and_lt (n := 7) hn2
  have e1 : (M 22 v &&& M c 5 = 0) = (near v &&& b.1 = 0) := by
    rw [hn, h1]
    exact propext (nI_and0 hn2)
  have e2 : lowN (M 22 v &&& M c 5) = lowA (near v &&& b.1) := by rw [hn, h1, nx_and, lowN_nI]
  simp only [swearM]
  rw [hs, e2]
  simp only [e1]
  by_cases hk : kd = 4 ∧ ¬ near v &&& b.1 = 0
  · have hl := lowA_lt _ ha hk.2
    rw [if_pos hk]
    refine ⟨?_, ?_, fun u hu => ⟨?_, ?_⟩⟩
    · rw [up2_row, h1, (bon_nI _ hib v hv).1]
      simp [upd, swearB]
    · rw [up2_row, up2_ne (by omega), up2_ne (by omega), up2_ne (by omega)]
      simp [upd, swearB, h2]
    · rw [up2_ne (by omega), up2_row, up2_row, up2_ne (by omega), (h3 _ hl).1, (h3 v hv).1, nI_add]
      simp only [swearB, ne_eq, hk, not_false_eq_true, and_self, if_true, upd, va_up]
      by_cases q : u = v
      · rw [if_pos q, if_pos q]
      · rw [if_neg q, if_neg q]
        by_cases q2 : u = lowA (near v &&& b.1)
        · rw [if_pos q2, if_pos q2]
        · rw [if_neg q2, if_neg q2]
          exact (h3 u hu).1
    · rw [up2_ne (by omega), up2_ne (by omega), up2_ne (by omega), up2_row]
      simp only [swearB, upd, va_up]
      by_cases q : u = v
      · rw [if_pos q, if_pos q]
      · rw [if_neg q, if_neg q]
        exact (h3 u hu).2
  · rw [if_neg hk]
    refine ⟨?_, ?_, fun u hu => ⟨?_, ?_⟩⟩
    · rw [up2_row, h1, (bon_nI _ hib v hv).1]
      simp [upd, swearB]
    · rw [up2_row, up2_ne (by omega)]
      simp [upd, swearB, h2]
    · rw [up2_ne (by omega), up2_ne (by omega)]
      simp only [swearB, ne_eq]
      rw [if_neg hk]
      exact (h3 u hu).1
    · rw [up2_ne (by omega), up2_row]
      simp only [swearB, upd, va_up]
      by_cases q : u = v
      · rw [if_pos q, if_pos q]
      · rw [if_neg q, if_neg q]
        exact (h3 u hu).2
theorem rB_swear {M : xMem} {c v kd : Nat} {near : Nat → Nat} {hon : Nat} {b : aBk} (hc : isBk c) (hv : v < 7) (hB : rB M c b) (hn : M 22 v = nI (near v)) (hn2 : near v < 128) (hib : b.1 < 128) (hox : ∀ v, v < 7 → b.2.2.1 v ≤ 420) : rB (swearM M c v kd (nI hon)) c (swearB near hon b v kd) := by
  obtain ⟨h1, h2, h3⟩ := rE_swear (kd := kd) (hon := hon) hc hv hB.e hn hn2 hib hox
  refine ⟨h1, h2, h3, fun p hp => ?_⟩
  have e : ∀ a, (a = c + 3 ∨ a = c + 4) → swearM M c v kd (nI hon) a = M a := by
    intro a ha
    simp only [swearM]
    rw [up2_ne (by omega)]
    split
    · rw [up2_ne (by omega), up2_ne (by omega), up2_ne (by omega)]
    · rw [up2_ne (by omega)]
  rw [e _ (Or.inl rfl), e _ (Or.inr rfl)]
  exact hB.2.2.2 p hp
theorem rB_ask {M : xMem} {c p v : Nat} {l : aLd} {b : aBk} (hc : isBk c) (hp : p < 3) (hv : v < 7) (hL : rL M l) (hB : rB M c b) (hw : b.2.2.2.2.1 p < 7) (hn2 : l.2.2.2.1 v < 128) (hib : b.1 < 128) (hox : ∀ v, v < 7 → b.2.2.1 v ≤ 420) : rB (askM M c p v (b.2.2.2.2.1 p) (l.2.2.1 v) (M 18 7)) c (askB l b p v) := by
  have hr := bkR hc
  rw [hL.2.2.1]
  unfold askM askB
  refine rB_swear hc hv ?_ ?_ hn2 hib hox
  · obtain ⟨h1, h2, h3, h4⟩ := hB
    refine ⟨by rw [up2_ne (by omega), up2_ne (by omega)]; exact h1, by rw [up2_ne (by omega), up2_ne (by omega)]; exact h2, fun u hu => ?_, fun q hq => ⟨?_, ?_⟩⟩
    · rw [up2_ne (by omega), up2_ne (by omega), up2_ne (by omega), up2_ne (by omega)]; exact h3 u hu
    · rw [up2_row, up2_ne (by omega)]
      simp only [upd, goB, va_up]
      by_cases e : q = p
      · rw [if_pos e, if_pos e]
      · rw [if_neg e, if_neg e]; exact (h4 q hq).1
    · rw [up2_ne (by omega), up2_row, (h4 p hp).2, hL.2.2.2.2 _ v hw hv, nI_add, nI_add]
      simp only [upd, goB, va_up]
      by_cases e : q = p
      · rw [if_pos e, if_pos e]
      · rw [if_neg e, if_neg e]; exact (h4 q hq).2
  · rw [up2_ne (by omega), up2_ne (by omega)]
    exact (hL.2.2.2.1 v hv).2
theorem rB_check {M : xMem} {c v : Nat} {b : aBk} (hv : v < 7) (hB : rB M c b) (hck : b.2.1 < 128) : rB (checkM M c v) c (checkB b v) := by
  obtain ⟨h1, h2, h3, h4⟩ := hB
  simp only [checkM]
  refine ⟨?_, ?_, fun u hu => ⟨?_, ?_⟩, fun p hp => ?_⟩
  · rw [up2_row, up2_ne (by omega)]; simp [upd, checkB, h1]
  · rw [up2_row, h2, (bon_nI _ hck v hv).1]; simp [upd, checkB]
  · rw [up2_ne (by omega), up2_ne (by omega)]; exact (h3 u hu).1
  · rw [up2_ne (by omega), up2_row, (h3 v hv).1]
    simp only [upd, checkB, va_up]
    by_cases e : u = v
    · rw [if_pos e, if_pos e]
    · rw [if_neg e, if_neg e]; exact (h3 u hu).2
  · rw [up2_ne (by omega), up2_ne (by omega), up2_ne (by omega), up2_ne (by omega)]; exact h4 p hp
theorem rB_strike {M : xMem} {c v : Nat} {b : aBk} (hv : v < 7) (hB : rB M c b) (hib : b.1 < 128) (hck : b.2.1 < 128) : rB (strikeM M c v) c (strikeB b v) := by
  obtain ⟨h1, h2, h3, h4⟩ := hB
  simp only [strikeM]
  refine ⟨?_, ?_, fun u hu => ?_, fun p hp => ?_⟩
  · rw [up2_row, up2_row, h1, (boff_nI _ hib v hv).1]; simp [upd, strikeB]
  · rw [up2_row, h2, (boff_nI _ hck v hv).1]; simp [upd, strikeB]
  · rw [up2_ne (by omega), up2_ne (by omega), up2_ne (by omega), up2_ne (by omega)]; exact h3 u hu
  · rw [up2_ne (by omega), up2_ne (by omega), up2_ne (by omega), up2_ne (by omega)]; exact h4 p hp
/-! a book stays as it can be -/
theorem sumA_up {f : Nat → Nat} {v x : Nat} : ∀ {n : Nat}, sumA (va_up f v x) n + (if v < n then f v else 0) = sumA f n + (if v < n then x else 0)
  | 0 => by simp [sumA]
  | n + 1 => by
    have ih := sumA_up (f := f) (v := v) (x := x) (n := n)
    simp only [sumA]
    by_cases e : n = v
    · subst e
      rw [if_neg (by omega), if_neg (by omega)] at ih
      rw [if_pos (by omega), if_pos (by omega)]
      have hu : va_up f n x n = x := by simp [va_up]
      rw [hu]
      omega
    · have hu : va_up f v x n = f n := by simp [va_up, e]
      rw [hu]
      by_cases q : v < n
      · rw [if_pos q, if_pos q] at ih
        rw [if_pos (by omega), if_pos (by omega)]
        omega
      · rw [if_neg q, if_neg q] at ih
        rw [if_neg (by omega), if_neg (by omega)]
        omega
theorem swN_le {near : Nat → Nat} {hon : Nat} {b : aBk} {v kd nv dy : Nat} (hb : okB nv dy b) (hv : v < 7) (hn : near v < 128) : swN near hon b v kd ≤ 420 := by
  have h1 := okB_ox hb hv
  have ha : near v &&& b.1 < 128 := and_lt (n := 7) hn
  unfold swN
  by_cases k1 : kd = 1
  · rw [if_pos k1]; split <;> omega
  · rw [if_neg k1]
    by_cases k2 : kd = 2
    · rw [if_pos k2]; split <;> omega
    · rw [if_neg k2]
      by_cases k3 : kd = 3
      · rw [if_pos k3]
        split
        · exact h1
        · exact hb.2.2.2.1 _ (lowA_lt _ ha (by assumption))
      · rw [if_neg k3]
        by_cases k4 : kd = 4
        · rw [if_pos k4]; split <;> omega
        · rw [if_neg k4]; exact h1
theorem okB_swear {near : Nat → Nat} {hon : Nat} {b : aBk} {v kd nv dy : Nat} (h7 : nv ≤ 7) (hb : okB nv dy b) (hv : v < nv) (hn : near v < 128) : okB nv dy (swearB near hon b v kd) := by
  have hs := swN_le (hon := hon) (kd := kd) hb (show v < 7 by omega) hn
  have ha : near v &&& b.1 < 128 := and_lt (n := 7) hn
  obtain ⟨h1, h2, h3, h4, h5⟩ := hb
  refine ⟨sbt_lt nv (by omega) _ h1 v hv, h2, ?_, fun u hu => ?_, h5⟩
  · show sumA (if kd = 4 ∧ near v &&& b.1 ≠ 0 then _ else b.2.2.1) 7 ≤ 420
    split
    · next hk =>
      have hl := lowA_lt _ ha hk.2
      have e1 := sumA_up (f := b.2.2.1) (v := lowA (near v &&& b.1)) (x := b.2.2.1 (lowA (near v &&& b.1)) + b.2.2.1 v) (n := 7)
      rw [if_pos hl, if_pos hl] at e1
      have e2 := sumA_up (f := va_up b.2.2.1 (lowA (near v &&& b.1)) (b.2.2.1 (lowA (near v &&& b.1)) + b.2.2.1 v)) (v := v) (x := 0) (n := 7)
      rw [if_pos (by omega), if_pos (by omega)] at e2
      have e3 : b.2.2.1 v ≤ va_up b.2.2.1 (lowA (near v &&& b.1)) (b.2.2.1 (lowA (near v &&& b.1)) + b.2.2.1 v) v := by
        simp only [va_up]
        split
        · omega
        · exact Nat.le_refl _
      omega
    · exact h3
  · show va_up b.2.2.2.1 v (swN near hon b v kd) u ≤ 420
    simp only [va_up]
    split
    · exact hs
    · exact h4 u hu
theorem okB_ask {l : aLd} {b : aBk} {p v dy : Nat} (hl : okL l) (hb : okB l.1 dy b) (hp : p < l.2.1) (hv : v < l.1) (hd : l.2.2.2.2.2 (b.2.2.2.2.1 p) v ≠ 1000000) : okB l.1 (dy + 121) (askB l b p v) := by
  obtain ⟨⟨l1, l2⟩, ⟨l3, l4⟩, l5, l6, l7, l8⟩ := hl
  have hw := hb.2.2.2.2 p (by omega)
  have hD := (l8 _ v hw.1 hv).resolve_right hd
  refine okB_swear l2 ?_ hv (Nat.lt_of_lt_of_le (l6 v (by omega)) (pow7 l2))
  obtain ⟨h1, h2, h3, h4, h5⟩ := hb
  refine ⟨h1, h2, h3, h4, fun q hq => ⟨?_, ?_⟩⟩
  · show va_up b.2.2.2.2.1 p v q < l.1
    simp only [va_up]
    split
    · exact hv
    · exact (h5 q hq).1
  · show va_up b.2.2.2.2.2 p _ q ≤ _
    simp only [va_up]
    split
    · omega
    · have := (h5 q hq).2; omega
theorem okB_check {b : aBk} {v nv dy : Nat} (h7 : nv ≤ 7) (hb : okB nv dy b) (hv : v < nv) : okB nv dy (checkB b v) := by
  have ho := okB_ox hb (show v < 7 by omega)
  obtain ⟨h1, h2, h3, h4, h5⟩ := hb
  refine ⟨h1, sbt_lt nv (by omega) _ h2 v hv, h3, fun u hu => ?_, h5⟩
  show va_up b.2.2.2.1 v (b.2.2.1 v) u ≤ 420
  simp only [va_up]
  split
  · exact ho
  · exact h4 u hu
theorem okB_strike {b : aBk} {v nv dy : Nat} (h7 : nv ≤ 7) (hb : okB nv dy b) (hv : v < nv) : okB nv dy (strikeB b v) := by
  obtain ⟨h1, h2, h3, h4, h5⟩ := hb
  exact ⟨cbt_lt nv (by omega) _ h1 v hv, cbt_lt nv (by omega) _ h2 v hv, h3, h4, h5⟩
theorem okB_more {b : aBk} {nv dy e : Nat} (hb : okB nv dy b) (h : dy ≤ e) : okB nv e b := ⟨hb.1, hb.2.1, hb.2.2.1, hb.2.2.2.1, fun p hp => ⟨(hb.2.2.2.2 p hp).1, Nat.le_trans (hb.2.2.2.2 p hp).2 h⟩⟩

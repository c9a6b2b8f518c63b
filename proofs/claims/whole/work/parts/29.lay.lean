/-! A LAND LAID: fault, lay -/
def d0W (W : Nat → Nat → Nat) (a b : Nat) : Nat := if a = b then 0 else if W a b = 0 then 1000000 else W a b
/-- the class's land at c, as far as it is told -/
def rT (M : xMem) (c : Nat) (T : aT) : Prop := M c 5 = nI T.1 ∧ M c 6 = nI T.2.1 ∧ M c 7 = nI T.2.2.2.2.2.2.1 ∧ (∀ v, v < 7 → M (c + 1) v = nI (T.2.2.1 v) ∧ M (c + 2) v = nI (T.2.2.2.1 v) ∧ M (c + 4) v = nI (T.2.2.2.2.2.1 v)) ∧ (∀ p, p < 3 → M (c + 3) p = nI (T.2.2.2.2.1 p)) ∧ ∀ a b, a < 7 → b < 7 → M (c + 6 + a) b = nI (d0W T.2.2.2.2.2.2.2 a b)
theorem rT_keep {M M1 : xMem} {c : Nat} {T : aT} (h : rT M c T) (hk : ∀ a, c ≤ a → a ≤ c + 12 → M1 a = M a) : rT M1 c T := by
  obtain ⟨h1, h2, h3, h4, h5, h6⟩ := h
  refine ⟨by rw [hk c (by omega) (by omega)]; exact h1, by rw [hk c (by omega) (by omega)]; exact h2, by rw [hk c (by omega) (by omega)]; exact h3, fun v hv => ?_, fun p hp => ?_, fun a b ha hb => ?_⟩
  · rw [hk (c + 1) (by omega) (by omega), hk (c + 2) (by omega) (by omega), hk (c + 4) (by omega) (by omega)]; exact h4 v hv
  · rw [hk (c + 3) (by omega) (by omega)]; exact h5 p hp
  · rw [hk (c + 6 + a) (by omega) (by omega)]; exact h6 a b ha hb
theorem rT_clear {M : xMem} {c : Nat} : rT (clearM M c) c t0A := by
  have e : ∀ a, a = c ∨ (c + 1 ≤ a ∧ a ≤ c + 4) → clearM M c a = fun _ => nI 0 := fun a h => if_pos h
  refine ⟨by rw [e c (by omega)]; rfl, by rw [e c (by omega)]; rfl, by rw [e c (by omega)]; rfl, fun v _ => by rw [e (c + 1) (by omega), e (c + 2) (by omega), e (c + 4) (by omega)]; exact ⟨rfl, rfl, rfl⟩, fun p _ => by rw [e (c + 3) (by omega)]; rfl, fun a b ha hb => ?_⟩
  have e1 : clearM M c (c + 6 + a) = frow a := by
    unfold clearM
    rw [if_neg (by omega), if_pos (by omega)]
    congr 1
    omega
  rw [e1]
  simp only [frow, d0W, t0A]
  split <;> simp
theorem d0W_up {W : Nat → Nat → Nat} {a b y i j : Nat} (hy : 1 ≤ y) (hab : a ≠ b) : d0W (up2N W a b y) i j = up2N (d0W W) a b y i j := by
  by_cases h : i = a ∧ j = b
  · obtain ⟨rfl, rfl⟩ := h
    simp only [d0W, up2N, and_self, if_true]
    rw [if_neg hab, if_neg (by omega)]
  · simp only [d0W, up2N, h, if_false]
theorem rT_item {M : xMem} {c : Nat} {T : aT} {it : Nat × List Nat} (h : rT M c T) (ho : okT T) (hi : okI T it) : rT (itemM M c T.1 T.2.1 it) c (itemT T it) := by
  obtain ⟨h1, h2, h3, h4, h5, h6⟩ := h
  obtain ⟨o1, o2, o3, o4, o5, o6, ⟨o7, o7b⟩, o8⟩ := ho
  have hn : T.2.2.2.2.2.2.1 < 128 := Nat.lt_of_lt_of_le o7 (pow7 o1)
  have hr : ∀ v, T.2.2.2.2.2.1 v < 128 := fun v => Nat.lt_of_lt_of_le (o6 v) (pow7 o1)
  rcases hi with ⟨k, o, rfl, q1, q2, q3⟩ | ⟨a, b, y, rfl, q1, q2, q3, q4, q5⟩ | ⟨v, rfl, q1, q2⟩
  · show rT (villM M c T.1 k (nI o)) c (T.1 + 1, T.2.1, va_up T.2.2.1 T.1 k, va_up T.2.2.2.1 T.1 o, T.2.2.2.2.1, T.2.2.2.2.2.1, (if k = 0 then sbt T.2.2.2.2.2.2.1 T.1 else T.2.2.2.2.2.2.1), T.2.2.2.2.2.2.2)
    have e : ∀ a, a ≠ c → villM M c T.1 k (nI o) a = up2 (up2 M (c + 1) T.1 (nI k)) (c + 2) T.1 (nI o) a := fun a ha => by
      simp only [villM]
      rw [up2_ne ha]
      split
      · rw [up2_ne ha]
      · rfl
    have e7 : villM M c T.1 k (nI o) c = upd (if k = 0 then upd (M c) 7 (bon (M c 7) T.1) else M c) 5 (nI (T.1 + 1)) := by
      simp only [villM]
      rw [up2_row]
      congr 1
      split
      · rw [up2_row, up2_ne (by omega), up2_ne (by omega)]
      · rw [up2_ne (by omega), up2_ne (by omega)]
    refine ⟨by rw [e7]; simp [upd], ?_, ?_, fun v hv => ?_, fun p hp => ?_, fun a b ha hb => ?_⟩
    · rw [e7]
      split <;> simp [upd] <;> exact h2
    · rw [e7]
      simp only [upd]
      rw [if_neg (by decide)]
      split
      · rw [show upd (M c) 7 (bon (M c 7) T.1) 7 = bon (M c 7) T.1 by simp [upd], h3]; exact (bon_nI _ hn T.1 (by omega)).1
      · exact h3
    · rw [e (c + 1) (by omega), e (c + 2) (by omega), e (c + 4) (by omega), up2_ne (by omega), up2_row, up2_row, up2_ne (by omega), up2_ne (by omega), up2_ne (by omega)]
      simp only [upd, va_up]
      refine ⟨?_, ?_, (h4 v hv).2.2⟩
      · split
        · rfl
        · exact (h4 v hv).1
      · split
        · rfl
        · exact (h4 v hv).2.1
    · rw [e (c + 3) (by omega), up2_ne (by omega), up2_ne (by omega)]; exact h5 p hp
    · rw [e (c + 6 + a) (by omega), up2_ne (by omega), up2_ne (by omega)]; exact h6 a b ha hb
  · show rT (wayM M c a b (nI y)) c (T.1, T.2.1, T.2.2.1, T.2.2.2.1, T.2.2.2.2.1, va_up (va_up T.2.2.2.2.2.1 a (sbt (T.2.2.2.2.2.1 a) b)) b (sbt (va_up T.2.2.2.2.2.1 a (sbt (T.2.2.2.2.2.1 a) b) b) a), T.2.2.2.2.2.2.1, up2N (up2N T.2.2.2.2.2.2.2 a b y) b a y)
    have e : ∀ i, i ≠ c + 4 → wayM M c a b (nI y) i = up2 (up2 M (c + 6 + a) b (nI y)) (c + 6 + b) a (nI y) i := fun i hi => by
      simp only [wayM]
      rw [up2_ne hi, up2_ne hi]
    have e4 : wayM M c a b (nI y) (c + 4) = upd (upd (M (c + 4)) a (bon (M (c + 4) a) b)) b (bon (upd (M (c + 4)) a (bon (M (c + 4) a) b) b) a) := by
      simp only [wayM]
      rw [up2_row, up2_row, up2_ne (by omega), up2_ne (by omega)]
    refine ⟨?_, ?_, ?_, fun v hv => ⟨?_, ?_, ?_⟩, fun p hp => ?_, fun i j ha hb => ?_⟩
    · rw [e c (by omega), up2_ne (by omega), up2_ne (by omega)]; exact h1
    · rw [e c (by omega), up2_ne (by omega), up2_ne (by omega)]; exact h2
    · rw [e c (by omega), up2_ne (by omega), up2_ne (by omega)]; exact h3
    · rw [e (c + 1) (by omega), up2_ne (by omega), up2_ne (by omega)]; exact (h4 v hv).1
    · rw [e (c + 2) (by omega), up2_ne (by omega), up2_ne (by omega)]; exact (h4 v hv).2.1
    · rw [e4]
      have ea := (h4 a (by omega)).2.2
      have eb := (h4 b (by omega)).2.2
      have ev := (h4 v hv).2.2
      simp only [upd, va_up]
      rw [if_neg (c := b = a) (fun e => q3 e.symm), if_neg (c := b = a) (fun e => q3 e.symm)]
      split
      · rw [eb]; exact (bon_nI _ (hr b) a (by omega)).1
      · split
        · rw [ea]; exact (bon_nI _ (hr a) b (by omega)).1
        · exact ev
    · rw [e (c + 3) (by omega), up2_ne (by omega), up2_ne (by omega)]; exact h5 p hp
    · rw [e (c + 6 + i) (by omega)]
      show _ = nI (d0W (up2N (up2N T.2.2.2.2.2.2.2 a b y) b a y) i j)
      rw [d0W_up q4 (Ne.symm q3)]
      have e9 : up2N (d0W (up2N T.2.2.2.2.2.2.2 a b y)) b a y i j = up2N (up2N (d0W T.2.2.2.2.2.2.2) a b y) b a y i j := by
        simp only [up2N]
        split
        · rfl
        · rw [d0W_up q4 q3]; rfl
      rw [e9]
      have g := h6 i j ha hb
      simp only [up2, up2N]
      by_cases k1 : i = b
      · subst k1
        simp only [if_true, true_and]
        by_cases k2 : j = a
        · simp [k2, upd]
        · simp [k2, upd, Ne.symm q3]
          exact g
      · have k1' : ¬ c + 6 + i = c + 6 + b := by omega
        simp only [k1, k1', if_false, false_and]
        by_cases k2 : i = a
        · subst k2
          by_cases k3 : j = b
          · simp [k3, upd]
          · simp [k3, upd]
            exact g
        · have k2' : ¬ c + 6 + i = c + 6 + a := by omega
          simp only [k2, k2', if_false, false_and]
          exact g
  · show rT (partM M c T.2.1 v) c (T.1, T.2.1 + 1, T.2.2.1, T.2.2.2.1, va_up T.2.2.2.2.1 T.2.1 v, T.2.2.2.2.2)
    have e : ∀ i, i ≠ c → partM M c T.2.1 v i = up2 M (c + 3) T.2.1 (nI v) i := fun i hi => by
      simp only [partM]
      rw [up2_ne hi]
    have e0 : partM M c T.2.1 v c = upd (M c) 6 (nI (T.2.1 + 1)) := by
      simp only [partM]
      rw [up2_row, up2_ne (by omega)]
    refine ⟨by rw [e0]; simp [upd]; exact h1, by rw [e0]; simp [upd], by rw [e0]; simp [upd]; exact h3, fun v hv => ?_, fun p hp => ?_, fun a b ha hb => ?_⟩
    · rw [e (c + 1) (by omega), e (c + 2) (by omega), e (c + 4) (by omega), up2_ne (by omega), up2_ne (by omega), up2_ne (by omega)]; exact h4 v hv
    · rw [e (c + 3) (by omega), up2_row]
      simp only [upd, va_up]
      split
      · rfl
      · exact h5 p hp
    · rw [e (c + 6 + a) (by omega), up2_ne (by omega)]; exact h6 a b ha hb
theorem rT_items {c : Nat} : ∀ {its : List (Nat × List Nat)} {T : aT} {M : xMem}, rT M c T → okT T → okIs its T → rT (itemsM c T.1 T.2.1 its M) c (buildT its T)
  | [], _, _, h, _, _ => h
  | it :: r, T, M, h, ho, hi => by
    have h9 := okT_item ho hi.1
    show rT (itemsM c (itV T.1 it) (itP T.2.1 it) r (itemM M c T.1 T.2.1 it)) c (buildT r (itemT T it))
    rw [← h9.2.1, ← h9.2.2]
    exact rT_items (rT_item h ho hi.1) h9.1 hi.2
theorem itemsM_low {c a : Nat} (h : a < c ∨ c + 13 ≤ a) : ∀ {its : List (Nat × List Nat)} {T : aT} {M : xMem}, okT T → okIs its T → itemsM c T.1 T.2.1 its M a = M a
  | [], _, _, _, _ => rfl
  | it :: r, T, M, ho, hi => by
    have h9 := okT_item ho hi.1
    show itemsM c (itV T.1 it) (itP T.2.1 it) r (itemM M c T.1 T.2.1 it) a = M a
    rw [← h9.2.1, ← h9.2.2, itemsM_low h h9.1 hi.2, itemM_low h]
    intro e
    have o1 := ho.1
    rcases hi.1 with ⟨k, o, rfl, -⟩ | ⟨a, b, y, rfl, q1, q2, -⟩ | ⟨v, rfl, -⟩
    · cases e
    · exact ⟨by simp; omega, by simp; omega⟩
    · cases e
/-! measure -/
theorem mn_nI {x y : Nat} (hx : x < 2 ^ 30) (hy : y < 2 ^ 30) : mnI (nI x) (nI y) = nI (if y < x then y else x) := by
  unfold mnI
  have e : (nI y < nI x) = (y < x) := propext (nI_ltI (by omega) (by omega))
  simp only [e]
  split <;> rfl
def rFa (M : xMem) (c : Nat) (D : Nat → Nat → Nat) : Prop := ∀ a b, a < 7 → b < 7 → M (c + 6 + a) b = nI (D a b) ∧ D a b ≤ 1000000
theorem rFa_rlx {M : xMem} {c k a b : Nat} {D : Nat → Nat → Nat} (hk : k < 7) (ha : a < 7) (hb : b < 7) (h : rFa M c D) : rFa (relaxM c k a b M) c (rlx k a b D) := by
  intro i j hi hj
  have h1 := h a b ha hb
  have h2 := h a k ha hk
  have h3 := h k b hk hb
  have h4 := h i j hi hj
  simp only [relaxM, rlx, up2N, up2]
  by_cases e : i = a ∧ j = b
  · obtain ⟨rfl, rfl⟩ := e
    simp only [and_self, if_true]
    rw [h1.1, h2.1, h3.1, nI_add, mn_nI (by omega) (by omega)]
    refine ⟨rfl, ?_⟩
    split <;> omega
  · rw [if_neg (by omega), if_neg e]
    exact h4
theorem iterN_rel {α β : Type} {f : Nat → α → α} {g : Nat → β → β} {R : α → β → Prop} {n : Nat} (h : ∀ i x y, i < n → R x y → R (f i x) (g i y)) : ∀ {i : Nat} {x : α} {y : β}, i ≤ n → R x y → R (iterN f i x) (iterN g i y)
  | 0, _, _, _, hr => hr
  | i + 1, _, _, hi, hr => h i _ _ (by omega) (iterN_rel h (by omega) hr)
theorem rFa_meas {M : xMem} {c nv : Nat} {D : Nat → Nat → Nat} (h7 : nv ≤ 7) (h : rFa M c D) : rFa (measM M c nv) c (fwA nv D) :=
  iterN_rel (f := fun k M => iterN (fun a M => iterN (relaxM c k a) nv M) nv M) (g := fun k D => fwK nv k D) (R := fun M D => rFa M c D) (n := nv) (fun k M D hk h => iterN_rel (f := fun a M => iterN (relaxM c k a) nv M) (g := fun a D => iterN (rlx k a) nv D) (R := fun M D => rFa M c D) (n := nv) (fun a M D ha h => iterN_rel (f := relaxM c k a) (g := rlx k a) (R := fun M D => rFa M c D) (n := nv) (fun b M D hb h => rFa_rlx (by omega) (by omega) (by omega) h) (Nat.le_refl _) h) (Nat.le_refl _) h) (Nat.le_refl _) h
theorem measM_low {M : xMem} {c nv i : Nat} (h : i < c + 6 ∨ c + 13 ≤ i) (h7 : nv ≤ 7) : measM M c nv i = M i :=
  (iterN_rel (f := fun k M => iterN (fun a M => iterN (relaxM c k a) nv M) nv M) (g := fun _ (u : Unit) => u) (R := fun M1 _ => M1 i = M i) (n := nv) (fun k M1 _ hk h1 => iterN_rel (f := fun a M => iterN (relaxM c k a) nv M) (g := fun _ (u : Unit) => u) (R := fun M1 _ => M1 i = M i) (n := nv) (fun a M1 _ ha h1 => iterN_rel (f := relaxM c k a) (g := fun _ (u : Unit) => u) (R := fun M1 _ => M1 i = M i) (n := nv) (fun b M1 _ hb h1 => by rw [relaxM, up2_ne (by omega)]; exact h1) (y := ()) (Nat.le_refl _) h1) (y := ()) (Nat.le_refl _) h1) (y := ()) (Nat.le_refl _) rfl)
/-! what is laid -/
def ldT (T : aT) : aLd := (T.1, T.2.1, T.2.2.1, T.2.2.2.2.2.1, T.2.2.2.2.2.2.1, fwA T.1 (d0W T.2.2.2.2.2.2.2))
def bkT (T : aT) : aBk := (0, 0, T.2.2.2.1, fun _ => 0, T.2.2.2.2.1, fun _ => 0)
theorem fwI_d0 {T : aT} (h : okT T) : fwI T.1 0 (d0W T.2.2.2.2.2.2.2) := by
  have h8 := h.2.2.2.2.2.2.2
  refine ⟨fun a _ => by simp [d0W], fun a b _ _ e => ?_, fun a b _ _ => ?_, fun c a b hc => by omega, fun a b _ _ e hf => Or.inl ?_, fun a b _ _ hf => ?_⟩
  · have := (h8 a b).1
    simp only [d0W]; rw [if_neg e]; split <;> omega
  · have := (h8 a b).1
    simp only [d0W]; split
    · omega
    · split <;> omega
  · have := (h8 a b).1
    simp only [d0W] at hf ⊢; rw [if_neg e] at hf ⊢; split <;> (try omega)
    · next e => rw [if_pos e] at hf; omega
  · have := (h8 a b).1
    simp only [d0W] at hf ⊢
    split
    · omega
    · next e1 =>
      rw [if_neg e1] at hf
      split
      · next e => rw [if_pos e] at hf; omega
      · omega
theorem okL_ldT {T : aT} (h : okT T) (h1 : T.1 ≠ 0) (h2 : T.2.1 ≠ 0) : okL (ldT T) := by
  obtain ⟨o1, o2, o3, o4, o5, o6, ⟨o7, o7b⟩, o8⟩ := id h
  exact ⟨⟨by show 1 ≤ T.1; omega, o1⟩, ⟨by show 1 ≤ T.2.1; omega, o2⟩, fun v _ => o3 v, fun v _ => o6 v, ⟨Nat.lt_of_lt_of_le o7 (pow7 o1), o7b⟩, fun a b ha hb => fwI_120 o1 (fwI_all (fwI_d0 h) T.1 (Nat.le_refl _)) ha hb⟩
theorem okB_bkT {T : aT} {dy : Nat} (h : okT T) (h1 : T.1 ≠ 0) : okB T.1 dy (bkT T) := by
  obtain ⟨o1, o2, o3, o4, o5, o6, o7, o8⟩ := id h
  refine ⟨by show 0 < 2 ^ T.1; exact Nat.two_pow_pos _, by show 0 < 2 ^ T.1; exact Nat.two_pow_pos _, ?_, fun v _ => by show 0 ≤ 420; omega, fun p _ => ⟨?_, by show 0 ≤ dy; omega⟩⟩
  · show sumA T.2.2.2.1 7 ≤ 420
    have := o4 0; have := o4 1; have := o4 2; have := o4 3; have := o4 4; have := o4 5; have := o4 6
    simp only [sumA]; omega
  · show T.2.2.2.2.1 p < T.1
    have := o5 p
    omega
def ttx (w : aX) : Nat → Nat := ltr (fun j => w.1.getD j 0) w.1.length
def prs (w : aX) : List (Nat × List Nat) × Option Nat := parseF (ttx w) w.1.length 200 0 0 0
def prT (w : aX) : aT := buildT (prs w).1 t0A
def spFault (w : aX) : Int32 := optI (prs w).2
def spLay (w : aX) : Int32 × aX := if (prs w).2 = none ∧ (prT w).1 ≠ 0 ∧ (prT w).2.1 ≠ 0 then (nI (prT w).1, (w.1, ldT (prT w), bkT (prT w), [], [], [])) else (-2, w)
theorem ttx_le {N : Nat} {w : aX} (h : okX N w) (j : Nat) : ttx w j ≤ 126 := by
  unfold ttx ltr
  split
  · next hj =>
    have e : w.1.getD j 0 ∈ w.1 := by rw [List.getD_eq_getElem?_getD, List.getElem?_eq_getElem hj]; exact List.getElem_mem hj
    exact (h.1.2 _ e).2
  · omega
theorem okT_prT {N : Nat} {w : aX} (h : okX N w) : okT (prT w) ∧ okIs (prs w).1 t0A := by
  have h1 : okIs (prs w).1 t0A := okIs_parse (l := ttx w) (ttx_le h) okT_0
  exact ⟨okT_build okT_0 h1, h1⟩
theorem okX_lay {N : Nat} {w : aX} (h : okX N w) : okX N (spLay w).2 := by
  unfold spLay
  split
  · next e =>
    obtain ⟨-, e1, e2⟩ := e
    have ho := (okT_prT h).1
    exact ⟨h.1, okL_ldT ho e1 e2, okB_bkT ho e1, ⟨by simp, fun b hb => by simp at hb⟩, ⟨by simp, fun b hb => by simp at hb⟩, ⟨by simp, fun b hb => by simp at hb⟩⟩
  · exact h
section LY
variable {G : xGl} {d N : Nat} {w : aX} {M : xMem} {Q : Option Value → List xSh → xMem → Prop}
theorem optI_4 {o : Option Nat} (h : ∀ v, o = some v → v < 2 ^ 31) : optI o = -4 ↔ o = none := by
  cases o with
  | none => exact ⟨fun _ => rfl, fun _ => rfl⟩
  | some v =>
    refine ⟨fun e => ?_, fun e => by cases e⟩
    exact absurd (show nI v = -4 from e) (fun e => by
      have h9 := nI_toInt (h v rfl)
      rw [e] at h9
      have : (-4 : Int32).toInt = -4 := by decide
      omega)
theorem parse_lt {l : Nat → Nat} {len : Nat} : ∀ {f nv np pl : Nat} {v : Nat}, (parseF l len f nv np pl).2 = some v → v < len
  | 0, _, _, _, _, h => by cases h
  | f + 1, nv, np, pl, v, h => by
    rw [parseF] at h
    split at h
    · split at h
      · cases h; assumption
      · exact parse_lt h
    · cases h
/-- the draft read: the reader's and the draft's cells only -/
theorem draft9 (hok : okX N w) {M1 : xMem} (h : offR (itemsM 5 0 0 (prs w).1 (clearM M 5)) M1) : (∀ a, a < 3 ∨ 18 ≤ a → M1 a = M a) ∧ rT M1 5 (prT w) := by
  have ho := okT_prT hok
  refine ⟨fun a ha => ?_, ?_⟩
  · rw [h a (by omega) (by omega)]
    exact (itemsM_low (T := t0A) (by omega) okT_0 ho.2).trans (clearM_low (by omega))
  · exact rT_keep (rT_items (T := t0A) rT_clear okT_0 ho.2) (fun a h1 h2 => h a (by omega) (by omega))
theorem c_X9_fault (hR : repC w M) (hok : okX N w) (hQ : ∀ M1, hiK M M1 → repC w M1 → Q (some (.int (spFault w))) SF M1) : xC G mX9_fault (d + 9) 0 0 [.ref (G.1 + 0)] SF M Q := by
  have s0 := sh0
  have s3 := sh3
  refine xC_intro [some (.ref (G.1 + 0))] rfl (by decide) (Nat.le_of_ble_eq_true rfl) ?_
  refine xs_aload eX9_fault_0 rfl ?_
  refine xs_getR eX9_fault_1 (by assumption) (by rfl) ?_
  refine xs_aload eX9_fault_4 rfl ?_
  refine xs_getR eX9_fault_5 (by assumption) (by rfl) ?_
  refine xs_aload eX9_fault_8 rfl ?_
  refine xs_getR eX9_fault_9 (by assumption) (by rfl) ?_
  refine xs_callV2i eX9_fault_12 (by assumption) (Nat.le_of_ble_eq_true rfl) (c_X5_readAll (t := fun j => w.1.getD j 0) (len := w.1.length) hR.1 (Or.inl rfl) (fun M1 h1 => ⟨_, rfl, ?_⟩))
  exact xs_iretI eX9_fault_15 rfl (hQ M1 (fun a ha => (draft9 hok h1).1 a (by omega)) (repC_scr hR (fun a ha hs => (draft9 hok h1).1 a (by unfold scr at hs; omega))))
/-- the world's land and book laid -/
def laidM (M : xMem) (nv : Nat) : xMem := up2 (up2 (up2 (up2 (up2 (openM (measM M 18 nv) 31) 95 2 (nI 0)) 41 1 (nI 0)) 41 2 (nI 0)) 83 1 (nI 0)) 83 2 (nI 0)
theorem laidM_ne {M : xMem} {nv a : Nat} (h7 : nv ≤ 7) (h : a < 24 ∨ (36 ≤ a ∧ a ≤ 40) ∨ (42 ≤ a ∧ a ≤ 82) ∨ (84 ≤ a ∧ a ≤ 94) ∨ 96 ≤ a) : laidM M nv a = M a := by
  unfold laidM
  rw [up2_ne (by omega), up2_ne (by omega), up2_ne (by omega), up2_ne (by omega), up2_ne (by omega), openM_ne (by omega), measM_low (by omega) h7]
theorem laidM_b {M : xMem} {nv a : Nat} (h : a < 41) : laidM M nv a = openM (measM M 18 nv) 31 a := by
  unfold laidM
  rw [up2_ne (by omega), up2_ne (by omega), up2_ne (by omega), up2_ne (by omega), up2_ne (by omega)]
theorem repC_laid {T : aT} {t : List Nat} (ht : isTx M (fun j => t.getD j 0) t.length) (h : rT M 18 T) (ho : okT T) : repC (t, ldT T, bkT T, [], [], []) (laidM M T.1) := by
  have h7 := ho.1
  obtain ⟨h1, h2, h3, h4, h5, h6⟩ := h
  have e := fun a h => laidM_ne (M := M) (nv := T.1) (a := a) h7 h
  have eb := fun a h => laidM_b (M := M) (nv := T.1) (a := a) h
  have em := fun i h => measM_low (M := M) (c := 18) (nv := T.1) (i := i) h h7
  have hf : rFa M 18 (d0W T.2.2.2.2.2.2.2) := fun a b ha hb => ⟨h6 a b ha hb, by
    have := (ho.2.2.2.2.2.2.2 a b).1
    simp only [d0W]; split
    · omega
    · split <;> omega⟩
  have hf2 := rFa_meas h7 hf
  refine ⟨isTx_keep ht (e 1 (by omega)) (e 2 (by omega)), ⟨?_, ?_, ?_, fun v hv => ⟨?_, ?_⟩, fun a b ha hb => ?_⟩, ⟨?_, ?_, fun v hv => ⟨?_, ?_⟩, fun p hp => ⟨?_, ?_⟩⟩, ⟨0, by decide, ?_, ?_, by simp, fun i k hi => by simp at hi⟩, ⟨0, by decide, ?_, ?_, by simp, fun i k hi => by simp at hi⟩, ?_, fun i k hi => by simp at hi⟩
  · rw [e 18 (by omega)]; exact h1
  · rw [e 18 (by omega)]; exact h2
  · rw [e 18 (by omega)]; exact h3
  · rw [e 19 (by omega)]; exact (h4 v hv).1
  · rw [e 22 (by omega)]; exact (h4 v hv).2.2
  · rw [eb (24 + a) (by omega), openM_ne (by omega)]
    exact (hf2 a b ha hb).1
  · rw [eb 31 (by omega)]; rfl
  · rw [eb 31 (by omega)]; rfl
  · rw [eb (31 + 1) (by omega)]
    show measM M 18 T.1 20 v = _
    rw [em 20 (by omega)]; exact (h4 v hv).2.1
  · rw [eb (31 + 2) (by omega)]; rfl
  · rw [eb (31 + 3) (by omega)]
    show measM M 18 T.1 21 p = _
    rw [em 21 (by omega)]; exact h5 p hp
  · rw [eb (31 + 4) (by omega)]; rfl
  · rfl
  · rfl
  · rfl
  · rfl
  · rfl
theorem c_X9_layScroll (hT : isTx M (fun j => w.1.getD j 0) w.1.length) (hok : okX N w) (hQ : ∀ M1, hiK M M1 → repC (w.1, ldT (prT w), bkT (prT w), [], [], []) M1 → Q none SF M1) : xC G mX9_layScroll (d + 8) 0 0 [.ref (G.1 + 0)] SF M Q := by
  have s0 := sh0
  have s3 := sh3
  have isl : isLd 18 := Or.inr rfl
  have l0 := ld0 isl
  have b0 := bk0 isBk31
  have isb := isBk31
  have isp := pl83
  have isp41 := pl41
  have s95 := sh95
  have p0 := pl0 pl83
  have p41 := pl0 pl41
  have ho := okT_prT hok
  have h7 := ho.1.1
  refine xC_intro [some (.ref (G.1 + 0))] rfl (by decide) (Nat.le_of_ble_eq_true rfl) ?_
  refine xs_aload eX9_layScroll_0 rfl ?_
  refine xs_getR eX9_layScroll_1 (by assumption) (by rfl) ?_
  refine xs_aload eX9_layScroll_4 rfl ?_
  refine xs_getR eX9_layScroll_5 (by assumption) (by rfl) ?_
  refine xs_aload eX9_layScroll_8 rfl ?_
  refine xs_getR eX9_layScroll_9 (by assumption) (by rfl) ?_
  refine xs_callV2i eX9_layScroll_12 (by assumption) (Nat.le_of_ble_eq_true rfl) (c_X5_readAll (t := fun j => w.1.getD j 0) (len := w.1.length) hT isl (fun M1 h1 => ⟨_, rfl, ?_⟩))
  have g1 : ∀ a, a < 3 ∨ (5 ≤ a ∧ a < 18) ∨ 31 ≤ a → M1 a = M a := fun a ha => (h1 a (by omega) (by omega)).trans ((itemsM_low (T := t0A) (by omega) okT_0 ho.2).trans (clearM_low (by omega)))
  have g2 : rT M1 18 (prT w) := rT_keep (rT_items (T := t0A) rT_clear okT_0 ho.2) (fun a h2 h3 => h1 a (by omega) (by omega))
  have hn := g2.1
  have hQ9 := hQ (laidM M1 (prT w).1) (fun a ha => (laidM_ne h7 (by omega)).trans (g1 a (by omega))) (repC_laid (isTx_keep hT (g1 1 (by omega)) (g1 2 (by omega))) g2 ho.1)
  refine xs_pop eX9_layScroll_15 rfl ?_
  refine xs_aload eX9_layScroll_16 rfl ?_
  refine xs_getR eX9_layScroll_17 (by assumption) (by rfl) ?_
  refine xs_callV0v eX9_layScroll_20 (by assumption) (Nat.le_of_ble_eq_true rfl) (c_X2_measure (nv := (prT w).1) isl hn h7 ⟨rfl, ?_⟩)
  refine xs_aload eX9_layScroll_23 rfl ?_
  refine xs_getR eX9_layScroll_24 (by assumption) (by rfl) ?_
  refine xs_callV0v eX9_layScroll_27 (by assumption) (Nat.le_of_ble_eq_true rfl) (c_X0_open isb ⟨rfl, ?_⟩)
  refine xs_aload eX9_layScroll_30 rfl ?_
  refine xs_getR eX9_layScroll_31 (by assumption) (by rfl) ?_
  refine xs_callV0v eX9_layScroll_34 (by assumption) (Nat.le_of_ble_eq_true rfl) (c_X8_clear ⟨rfl, ?_⟩)
  refine xs_aload eX9_layScroll_37 rfl ?_
  refine xs_getR eX9_layScroll_38 (by assumption) (by rfl) ?_
  refine xs_callV0v eX9_layScroll_41 (by assumption) (Nat.le_of_ble_eq_true rfl) (c_X4_clear isp41 ⟨rfl, ?_⟩)
  refine xs_aload eX9_layScroll_44 rfl ?_
  refine xs_getR eX9_layScroll_45 (by assumption) (by rfl) ?_
  refine xs_callV0v eX9_layScroll_48 (by assumption) (Nat.le_of_ble_eq_true rfl) (c_X4_clear isp ⟨rfl, ?_⟩)
  exact xs_vret eX9_layScroll_51 rfl (hQ9)
theorem c_X9_lay (hR : repC w M) (hok : okX N w) (hQ : ∀ M1, hiK M M1 → repC (spLay w).2 M1 → Q (some (.int (spLay w).1)) SF M1) : xC G mX9_lay (d + 9) 0 0 [.ref (G.1 + 0)] SF M Q := by
  have s0 := sh0
  have s3 := sh3
  have isl : isLd 5 := Or.inl rfl
  have l0 := ld0 isl
  have isl2 : isLd 18 := Or.inr rfl
  have l2 := ld0 isl2
  have ho := okT_prT hok
  have h7 := ho.1.1
  have h3 := ho.1.2.1
  have hp := optI_4 (o := (prs w).2) (fun v hv => by have := parse_lt hv; have := hok.1.1; omega)
  have no9 : ∀ {M1 : xMem}, hiK M M1 → repC w M1 → ¬ ((prs w).2 = none ∧ (prT w).1 ≠ 0 ∧ (prT w).2.1 ≠ 0) → Q (some (.int (-2))) SF M1 := fun {M1} r1 r2 h => by
    have h9 := hQ M1
    unfold spLay at h9
    rw [if_neg h] at h9
    exact h9 r1 r2
  refine xC_intro [some (.ref (G.1 + 0))] rfl (by decide) (Nat.le_of_ble_eq_true rfl) ?_
  refine xs_aload eX9_lay_0 rfl ?_
  refine xs_getR eX9_lay_1 (by assumption) (by rfl) ?_
  refine xs_aload eX9_lay_4 rfl ?_
  refine xs_getR eX9_lay_5 (by assumption) (by rfl) ?_
  refine xs_aload eX9_lay_8 rfl ?_
  refine xs_getR eX9_lay_9 (by assumption) (by rfl) ?_
  refine xs_callV2i eX9_lay_12 (by assumption) (Nat.le_of_ble_eq_true rfl) (c_X5_readAll (t := fun j => w.1.getD j 0) (len := w.1.length) hR.1 isl (fun M1 h1 => ⟨_, rfl, ?_⟩))
  have g1 := (draft9 hok h1).1
  have g2 := (draft9 hok h1).2
  have r1 : hiK M M1 := fun a ha => g1 a (by omega)
  have r2 := repC_scr hR (fun a ha hs => g1 a (by unfold scr at hs; omega))
  refine xs_K eX9_lay_15 ?_
  refine xs_icmp_ne eX9_lay_17 (fun h17 => ?_) (fun h17 => ?_)
  · refine xs_K eX9_lay_40 ?_
    exact xs_iretI eX9_lay_42 rfl (no9 r1 r2 (fun h => h17 (hp.mpr h.1)))
  · refine xs_aload eX9_lay_20 rfl ?_
    refine xs_getR eX9_lay_21 (by assumption) (by rfl) ?_
    refine xs_getI eX9_lay_24 (by assumption) (by rfl) ?_
    refine xs_eq1 g2.1 ?_
    refine xs_N0_eq eX9_lay_27 (by omega) (fun h27 => ?_) (fun h27 => ?_)
    · refine xs_K eX9_lay_40 ?_
      exact xs_iretI eX9_lay_42 rfl (no9 r1 r2 (fun h => h.2.1 h27))
    · refine xs_aload eX9_lay_30 rfl ?_
      refine xs_getR eX9_lay_31 (by assumption) (by rfl) ?_
      refine xs_getI eX9_lay_34 (by assumption) (by rfl) ?_
      refine xs_eq1 g2.2.1 ?_
      refine xs_N0_ne eX9_lay_37 (by omega) (fun h37 => ?_) (fun h37 => ?_)
      · refine xs_aload eX9_lay_43 rfl ?_
        refine xs_callV0v eX9_lay_44 (by assumption) (Nat.le_of_ble_eq_true rfl) (c_X9_layScroll (isTx_keep hR.1 (g1 1 (by omega)) (g1 2 (by omega))) hok (fun M2 e1 e2 => ⟨rfl, ?_⟩))
        refine xs_aload eX9_lay_47 rfl ?_
        refine xs_getR eX9_lay_48 (by assumption) (by rfl) ?_
        refine xs_getI eX9_lay_51 (by assumption) (by rfl) ?_
        refine xs_eq1 e2.2.1.1 ?_
        exact xs_iretI eX9_lay_54 rfl (by have h9 := hQ M2; unfold spLay at h9; rw [if_pos ⟨hp.mp h17, h27, h37⟩] at h9; exact h9 (fun a ha => (e1 a ha).trans (r1 a ha)) e2)
      · refine xs_K eX9_lay_40 ?_
        exact xs_iretI eX9_lay_42 rfl (no9 r1 r2 (fun h => h.2.2 h37))
end LY

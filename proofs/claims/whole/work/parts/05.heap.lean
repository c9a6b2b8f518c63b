/-! ROWS OF THE HEAP: fields, arrays, new cells -/
theorem inX0 : ∀ w ∈ u_ws RX0 TX0 7, w ∈ xT := by decide +kernel
theorem inX1 : ∀ w ∈ u_ws RX1 TX1 4, w ∈ xT := by decide +kernel
theorem inX2 : ∀ w ∈ u_ws RX2 TX2 8, w ∈ xT := by decide +kernel
theorem inX3 : ∀ w ∈ u_ws RX3 TX3 8, w ∈ xT := by decide +kernel
theorem inX4 : ∀ w ∈ u_ws RX4 TX4 3, w ∈ xT := by decide +kernel
theorem inX5 : ∀ w ∈ u_ws RX5 TX5 2, w ∈ xT := by decide +kernel
theorem inX6 : ∀ w ∈ u_ws RX6 TX6 2, w ∈ xT := by decide +kernel
theorem inX7 : ∀ w ∈ u_ws RX7 TX7 6, w ∈ xT := by decide +kernel
theorem inX8 : ∀ w ∈ u_ws RX8 TX8 3, w ∈ xT := by decide +kernel
theorem inX9 : ∀ w ∈ u_ws RX9 TX9 12, w ∈ xT := by decide +kernel
theorem inX10 : ∀ w ∈ u_ws RX10 TX10 26, w ∈ xT := by decide +kernel
/-- what is known of every class: its fields' words, their types, their names -/
def xKnown (q : vw_C) : Prop := (∀ w ∈ u_ws q.1 q.2.1 q.2.2, w ∈ xT) ∧ (∃ ty : Nat → FieldType, ∀ k, k < q.2.2 → parseFieldDescriptor (q.2.1 k).2.2.1 = some (ty k)) ∧ ∀ a, a < q.2.2 → ∀ b, b < q.2.2 → a ≠ b → (q.2.1 a).2.1 ≠ (q.2.1 b).2.1
theorem xKnown_at {ci : Nat} {q : vw_C} (h : vwCl[ci]? = some q) : xKnown q := by
  match ci, h with
  | 0, h => cases h; exact ⟨inX0, ⟨tyX0, tyX0_ok⟩, nmX0⟩
  | 1, h => cases h; exact ⟨inX1, ⟨tyX1, tyX1_ok⟩, nmX1⟩
  | 2, h => cases h; exact ⟨inX2, ⟨tyX2, tyX2_ok⟩, nmX2⟩
  | 3, h => cases h; exact ⟨inX3, ⟨tyX3, tyX3_ok⟩, nmX3⟩
  | 4, h => cases h; exact ⟨inX4, ⟨tyX4, tyX4_ok⟩, nmX4⟩
  | 5, h => cases h; exact ⟨inX5, ⟨tyX5, tyX5_ok⟩, nmX5⟩
  | 6, h => cases h; exact ⟨inX6, ⟨tyX6, tyX6_ok⟩, nmX6⟩
  | 7, h => cases h; exact ⟨inX7, ⟨tyX7, tyX7_ok⟩, nmX7⟩
  | 8, h => cases h; exact ⟨inX8, ⟨tyX8, tyX8_ok⟩, nmX8⟩
  | 9, h => cases h; exact ⟨inX9, ⟨tyX9, tyX9_ok⟩, nmX9⟩
  | 10, h => cases h; exact ⟨inX10, ⟨tyX10, tyX10_ok⟩, nmX10⟩
  | k + 11, h => simp [vwCl] at h
/-- a field's entry of the pool: field k of class ci -/
def xFl (own : String) (idx ci k : Nat) (ty : FieldType) (fin : Bool) : Prop := ∃ q : vw_C, vwCl[ci]? = some q ∧ k < q.2.2 ∧ parseFieldDescriptor (q.2.1 k).2.2.1 = some ty ∧ (q.2.1 k).2.2.2 = fin ∧ (q.2.1 k).1 = q.1 ∧ (Cond.fieldLink own idx (q.2.1 k).1 (q.2.1 k).2.1 (q.2.1 k).2.2.1 ∈ xT ∨ ∃ host, Cond.fieldLinkNest own idx (q.2.1 k).1 (q.2.1 k).2.1 (q.2.1 k).2.2.1 host ∈ xNest)
def xGF (m : xM) (pc ci k nx : Nat) : Prop := ∃ (idx : Nat) (ty : FieldType) (fin : Bool), decode m.2.1 pc = .ok (.getfield idx, 3) ∧ pc + 3 = nx ∧ xFl m.1.cls idx ci k ty fin
def xPF (m : xM) (pc ci k : Nat) (ty : FieldType) (nx : Nat) : Prop := ∃ (idx : Nat) (fin : Bool), decode m.2.1 pc = .ok (.putfield idx, 3) ∧ pc + 3 = nx ∧ xFl m.1.cls idx ci k ty fin ∧ (fin = true → m.1.name = "<init>" ∧ (∃ q : vw_C, vwCl[ci]? = some q ∧ q.1 = m.1.cls) ∧ ∃ q : vw_C, vwCl[ci]? = some q ∧ Cond.fieldLink m.1.cls idx (q.2.1 k).1 (q.2.1 k).2.1 (q.2.1 k).2.2.1 ∈ xT)
def up2 (M : xMem) (c k : Nat) (v : Int32) : xMem := fun a i => if a = c ∧ i = k then v else M a i
def setR (M : xMem) (c : Nat) (f : Nat → Int32) : xMem := fun a => if a = c then f else M a
theorem up2_ne {M : xMem} {c k a : Nat} {v : Int32} (h : a ≠ c) : up2 M c k v a = M a := by
  funext i
  simp [up2, h]
theorem up2_row {M : xMem} {c k : Nat} {v : Int32} : up2 M c k v c = upd (M c) k v := by
  funext i
  simp [up2, upd]
theorem setR_ne {M : xMem} {c a : Nat} {f : Nat → Int32} (h : a ≠ c) : setR M c f a = M a := by simp [setR, h]
theorem setR_row {M : xMem} {c : Nat} {f : Nat → Int32} : setR M c f c = f := by simp [setR]
section XH
variable {G : xGl} {m : xM} {d k n pc nx : Nat} {Q : Option Value → List xSh → xMem → Prop} {L : List (Option Value)} {st : List Value} {S : List xSh} {M : xMem}
theorem xs_get {c ci j : Nat} {fs : List (Option (Option Nat))} {o : Option (Option Nat)} (he : xGF m pc ci j nx) (hs : S[c]? = some (.inr (.inl (ci, fs)))) (ho : fs[j]? = some o) (kk : xW G m d k n Q nx L (xval G.1 M c j o :: st) S M) : xW G m d k n Q pc L (.ref (G.1 + c) :: st) S M := by
  obtain ⟨idx, ty, fin, hd, rfl, q, hq, hj, -, -, -, hlk⟩ := he
  intro l D p e R s mi args below meth ccc H locs cells slots Z ls E hR hS hl
  obtain ⟨r, hr, hOB⟩ := hR.2 c _ hs
  obtain rfl : r = q := Option.some.inj (hr.symm.trans hq)
  obtain ⟨C, T, N⟩ := r
  obtain ⟨cell, q1, q2, q3, q4⟩ := hOB
  have hK := E.2.2.2.2.2.2.1.2.1
  obtain ⟨hSl, hfc, kC, hkC, hkind⟩ := hK.1 ci _ hq
  obtain ⟨cf, kf, fi, f, hi, hsl⟩ := hSl j hj
  have hst := (u_facts hfc hkC (u_lays E.2.2.2.2.1 (xKnown_at hq).1 hj) hi).1
  have hv : cell.slots[f.slot]? = some (xval G.1 M c j o) := by
    rw [hsl, q4 j hj]
    simp [ho]
  rcases hlk with hlk | ⟨host, hlk⟩
  · exact W.getf E.1 E.2.1 E.2.2.2.1 (E.2.2.2.2.1 _ hlk) hi hst q1 (by rw [q3]; exact fun h => by cases h) hv rfl rfl hd (kk l D p e R s mi args below meth ccc H locs cells slots Z ls E hR hS hl)
  · exact va_Wgetf E.1 E.2.1 E.2.2.2.1 (va_Nw.use rfl (E.2.2.2.2.2.2.1.2.2.1 _ hlk)) hi hst q1 (by rw [q3]; exact fun h => by cases h) hv rfl rfl hd (kk l D p e R s mi args below meth ccc H locs cells slots Z ls E hR hS hl)
theorem xs_getI {c ci j : Nat} {fs : List (Option (Option Nat))} (he : xGF m pc ci j nx) (hs : S[c]? = some (.inr (.inl (ci, fs)))) (ho : fs[j]? = some none) (kk : xW G m d k n Q nx L (.int (M c j) :: st) S M) : xW G m d k n Q pc L (.ref (G.1 + c) :: st) S M := xs_get he hs ho kk
theorem xs_getR {c ci j r : Nat} {fs : List (Option (Option Nat))} (he : xGF m pc ci j nx) (hs : S[c]? = some (.inr (.inl (ci, fs)))) (ho : fs[j]? = some (some (some r))) (kk : xW G m d k n Q nx L (.ref (G.1 + r) :: st) S M) : xW G m d k n Q pc L (.ref (G.1 + c) :: st) S M := xs_get he hs ho kk
theorem xs_put {c ci j : Nat} {ty : FieldType} {v : Value} {M1 : xMem} {fs fs1 : List (Option (Option Nat))} (he : xPF m pc ci j ty nx) (hs : S[c]? = some (.inr (.inl (ci, fs)))) (hn : narrow ty v = v) (hf : fits ty v = true) (hM : ∀ a, a ≠ c → M1 a = M a) (hV : ∀ i, xval G.1 M1 c i (fs1.getD i none) = updV (fun i => xval G.1 M c i (fs.getD i none)) j v i)
    (kk : xW G m d k n Q nx L st (S.set c (.inr (.inl (ci, fs1)))) M1) : xW G m d k n Q pc L (v :: .ref (G.1 + c) :: st) S M := by
  obtain ⟨idx, fin, hd, rfl, ⟨q, hq, hj, hty, hfin, hown1, hlk⟩, hini⟩ := he
  intro l D p e R s mi args below meth ccc H locs cells slots Z ls E hR hS hl
  obtain ⟨r, hr, hOB⟩ := hR.2 c _ hs
  obtain rfl : r = q := Option.some.inj (hr.symm.trans hq)
  obtain ⟨C, T, N⟩ := r
  obtain ⟨cell, q1, q2, q3, q4⟩ := hOB
  have hts := E.2.2.2.2.1
  have hown := E.2.2.2.1
  have hK := E.2.2.2.2.2.2.1.2.1
  obtain ⟨hin, ⟨ty0, hty0⟩, hnm⟩ := xKnown_at hq
  have hap := va_apart (own := m.1.cls) hts hin ty0 hty0 hnm hK hq
  obtain ⟨hSl, hfc, kC, hkC, hkind⟩ := hK.1 ci _ hq
  obtain ⟨cf, kf, fi, f, hi, hsl⟩ := hSl j hj
  have hst := (u_facts hfc hkC (u_lays hts hin hj) hi).1
  have hlay := hts _ (hin _ (u_in_lay hj))
  unfold u_lay at hlay
  have fin1 : ∀ H1 : Heap, H1[G.1 + c]? = some (cell.setSlot f.slot v) → H1.size = H.size → (∀ q, q ≠ G.1 + c → H1[q]? = H[q]?) → W p l e R s mi args below meth ccc H1 (locs ++ [⟨G.1 + c, f.slot⟩]) cells slots Z (F0 mi (pc + 3) ls st) := by
    intro H1 e1 e2 e3
    rw [hsl] at e1
    refine kk l D p e R s mi args below meth ccc H1 _ cells slots Z ls E (hR.set hs e2 e3 hM ⟨(C, T, N), hq, t_OB.to (V := updV (fun i => xval G.1 M c i (fs.getD i none)) j v) ⟨_, e1, q2, q3, t_set q4 hap hj v⟩ (fun i _ => (hV i).symm)⟩) (hS.put e2 e3 (Nat.le_add_right _ _)) hl
  cases hfn : fin with
  | false =>
    rw [if_neg (by rw [hfin, hfn]; decide)] at hlay
    have h6 := u_store hfc hkC hkind hlay hi hty hn hf
    rcases hlk with hlk | ⟨host, hlk⟩
    · exact W.putK E.1 E.2.1 (f := f) ⟨hown, hts _ hlk, ⟨_, _, _, hi⟩, hst⟩ (by rw [q2]; exact h6) q1 q3 (by rw [hsl]; exact k2_hasslot (q4 j hj)) rfl rfl hd fin1
    · exact va_WputK E.1 E.2.1 (f := f) hown (va_Nw.use rfl (E.2.2.2.2.2.2.1.2.2.1 _ hlk)) hi hst (by rw [q2]; exact h6) q1 q3 (by rw [hsl]; exact k2_hasslot (q4 j hj)) rfl rfl hd fin1
  | true =>
    rw [if_pos (by rw [hfin, hfn])] at hlay
    obtain ⟨hnm1, ⟨q', hq', hqc⟩, q'', hq'', hlk2⟩ := hini hfn
    obtain rfl : q' = (C, T, N) := Option.some.inj (hq'.symm.trans hq)
    obtain rfl : q'' = (C, T, N) := Option.some.inj (hq''.symm.trans hq)
    have hcf : mi.cls = cf := by
      obtain ⟨_, _, c', _, _, _, -, -, hf', -, -, -, hown2, -⟩ := Cond.laysFinal_spec hlay
      have e1 : c' = cf := by have := hi.symm.trans hf'; simp at this; exact this.1.symm
      rw [hown1, hqc] at hown2
      rw [← e1]; exact Option.some.inj (hown.symm.trans hown2)
    have h6 := u_fits hfc hkC hkind (Or.inr hlay) hi hty hn hf
    exact W.putFinK E.1 E.2.1 hown (hts _ hlk2) hi hst hcf (E.2.2.2.2.2.1.trans hnm1) (by rw [q2]; exact h6) q1 q3 (by rw [hsl]; exact k2_hasslot (q4 j hj)) rfl rfl hd fin1
theorem xset_self {c : Nat} {sh : xSh} (hc : S[c]? = some sh) : S.set c sh = S := by
  apply List.ext_getElem?
  intro i
  by_cases q : i = c
  · subst q
    rw [List.getElem?_set_self (List.getElem?_eq_some_iff.mp hc).1, hc]
  · rw [List.getElem?_set_ne (Ne.symm q)]
theorem xs_putI {c ci j : Nat} {ty : FieldType} {y : Int32} {fs : List (Option (Option Nat))} (he : xPF m pc ci j ty nx) (hs : S[c]? = some (.inr (.inl (ci, fs)))) (ho : fs[j]? = some none) (hn : narrow ty (.int y) = .int y) (hf : fits ty (.int y) = true) (kk : xW G m d k n Q nx L st S (up2 M c j y)) : xW G m d k n Q pc L (.int y :: .ref (G.1 + c) :: st) S M := by
  refine xs_put (fs1 := fs) (M1 := up2 M c j y) he hs hn hf (fun a h => up2_ne h) (fun i => ?_) (by rw [xset_self hs]; exact kk)
  by_cases e : i = j
  · subst e
    simp [updV, ho, xval, up2]
  · rw [show updV (fun i => xval G.1 M c i (fs.getD i none)) j (.int y) i = xval G.1 M c i (fs.getD i none) from if_neg e]
    cases fs.getD i none with
    | none => simp [xval, up2, e]
    | some r => rfl
theorem xs_putR {c ci j r : Nat} {ty : FieldType} {fs : List (Option (Option Nat))} {S1 : List xSh} (he : xPF m pc ci j ty nx) (hs : S[c]? = some (.inr (.inl (ci, fs)))) (hj : j < fs.length) (hn : narrow ty (.ref (G.1 + r)) = .ref (G.1 + r)) (hf : fits ty (.ref (G.1 + r)) = true) (hS1 : S.set c (.inr (.inl (ci, fs.set j (some (some r))))) = S1) (kk : xW G m d k n Q nx L st S1 M) : xW G m d k n Q pc L (.ref (G.1 + r) :: .ref (G.1 + c) :: st) S M := by
  subst hS1
  refine xs_put (M1 := M) he hs hn hf (fun a h => rfl) (fun i => ?_) kk
  by_cases e : i = j
  · subst e
    simp [updV, xval, va_rf, hj]
  · simp [updV, e, List.getD_eq_getElem?_getD, List.getElem?_set_ne (Ne.symm e)]
/-- an array's element, by a number in range -/
theorem xs_iald {c j N : Nat} (he : xD m pc .iaload 1 nx) (hs : S[c]? = some (.inl (.int, N))) (hj : j < N) (hN : N < 2 ^ 31) (kk : xW G m d k n Q nx L (.int (M c j) :: st) S M) : xW G m d k n Q pc L (.int (nI j) :: .ref (G.1 + c) :: st) S M := by
  obtain ⟨hd, rfl⟩ := he
  intro l D p e R s mi args below meth ccc H locs cells slots Z ls E hR hS hl
  obtain ⟨cA, h1, h2⟩ := hR.2 c _ hs
  exact W.iald (v := .int (M c j)) E.1 E.2.1 h2 (h1 _ _) (fun q => by cases q) (by show ¬ (_ ∨ (arrV _ _ _).slots.size ≤ _); rw [arrV_size]; exact vp_in_nI hj hN) (by show (arrV _ _ _).slots[_]? = _; rw [nI_clamp (by omega), arrV_read _ _ hj]) rfl rfl hd (kk l D p e R s mi args below meth ccc H locs cells slots Z ls E hR hS hl)
theorem xs_cald {c j N : Nat} (he : xD m pc .caload 1 nx) (hs : S[c]? = some (.inl (.char, N))) (hj : j < N) (hN : N < 2 ^ 31) (kk : xW G m d k n Q nx L (.int (M c j) :: st) S M) : xW G m d k n Q pc L (.int (nI j) :: .ref (G.1 + c) :: st) S M := by
  obtain ⟨hd, rfl⟩ := he
  intro l D p e R s mi args below meth ccc H locs cells slots Z ls E hR hS hl
  obtain ⟨cA, h1, h2⟩ := hR.2 c _ hs
  exact W.cald (v := .int (M c j)) E.1 E.2.1 h2 (h1 _ _) (fun q => by cases q) (by show ¬ (_ ∨ (arrV _ _ _).slots.size ≤ _); rw [arrV_size]; exact vp_in_nI hj hN) (by show (arrV _ _ _).slots[_]? = _; rw [nI_clamp (by omega), arrV_read _ _ hj]) rfl rfl hd (kk l D p e R s mi args below meth ccc H locs cells slots Z ls E hR hS hl)
theorem xs_bald {c j N : Nat} (he : xD m pc .baload 1 nx) (hs : S[c]? = some (.inl (.byte, N))) (hj : j < N) (hN : N < 2 ^ 31) (kk : xW G m d k n Q nx L (.int (M c j) :: st) S M) : xW G m d k n Q pc L (.int (nI j) :: .ref (G.1 + c) :: st) S M := by
  obtain ⟨hd, rfl⟩ := he
  intro l D p e R s mi args below meth ccc H locs cells slots Z ls E hR hS hl
  obtain ⟨cA, h1, h2⟩ := hR.2 c _ hs
  exact W.bald (v := .int (M c j)) E.1 E.2.1 h2 (h1 _ _) (fun q => by cases q) (by show ¬ (_ ∨ (arrV _ _ _).slots.size ≤ _); rw [arrV_size]; exact vp_in_nI hj hN) (by show (arrV _ _ _).slots[_]? = _; rw [nI_clamp (by omega), arrV_read _ _ hj]) rfl rfl hd (kk l D p e R s mi args below meth ccc H locs cells slots Z ls E hR hS hl)
theorem xarr_set {D : va_G} {s : State} {H1 : Heap} {c j N : Nat} {ty : FieldType} {y : Int32} {cA : ClassId} (h1 : ArrOfT s cA ty) (e : H1[G.1 + c]? = some ((arrV cA N (fun j => Value.int (M c j))).setSlot j (.int y))) : xCell D s G.1 (up2 M c j y) c (.inl (ty, N)) H1 := by
  refine ⟨cA, h1, ?_⟩
  rw [e, arrV_store]
  congr 2
  funext q
  by_cases hq : q = j <;> simp [updV, up2, hq]
theorem xs_iast {c j N : Nat} {y : Int32} (he : xD m pc .iastore 1 nx) (hs : S[c]? = some (.inl (.int, N))) (hj : j < N) (hN : N < 2 ^ 31) (kk : xW G m d k n Q nx L st S (up2 M c j y)) : xW G m d k n Q pc L (.int y :: .int (nI j) :: .ref (G.1 + c) :: st) S M := by
  obtain ⟨hd, rfl⟩ := he
  intro l D p e R s mi args below meth ccc H locs cells slots Z ls E hR hS hl
  obtain ⟨cA, h1, h2⟩ := hR.2 c _ hs
  refine W.iast E.1 E.2.1 h2 (h1 _ _) (fun q => by cases q) (by show ¬ (_ ∨ (arrV _ _ _).slots.size ≤ _); rw [arrV_size]; exact vp_in_nI hj hN) rfl rfl hd fun H1 e1 z oq => ?_
  rw [nI_clamp (by omega)] at e1 ⊢
  exact kk l D p e R s mi args below meth ccc H1 _ cells slots Z ls E (hR.setM hs z oq (fun a h => up2_ne h) (xarr_set h1 e1)) (hS.put z oq (Nat.le_add_right _ _)) hl
theorem xs_cast {c j N : Nat} {y : Int32} (he : xD m pc .castore 1 nx) (hs : S[c]? = some (.inl (.char, N))) (hj : j < N) (hN : N < 2 ^ 31) (hy : narrow .char (.int y) = .int y) (kk : xW G m d k n Q nx L st S (up2 M c j y)) : xW G m d k n Q pc L (.int y :: .int (nI j) :: .ref (G.1 + c) :: st) S M := by
  obtain ⟨hd, rfl⟩ := he
  intro l D p e R s mi args below meth ccc H locs cells slots Z ls E hR hS hl
  obtain ⟨cA, h1, h2⟩ := hR.2 c _ hs
  refine W.cast E.1 E.2.1 h2 (h1 _ _) (fun q => by cases q) (by show ¬ (_ ∨ (arrV _ _ _).slots.size ≤ _); rw [arrV_size]; exact vp_in_nI hj hN) rfl rfl hd fun H1 e1 z oq => ?_
  rw [nI_clamp (by omega)] at e1 ⊢
  rw [hy] at e1
  exact kk l D p e R s mi args below meth ccc H1 _ cells slots Z ls E (hR.setM hs z oq (fun a h => up2_ne h) (xarr_set h1 e1)) (hS.put z oq (Nat.le_add_right _ _)) hl
theorem xs_bast {c j N : Nat} {y : Int32} (he : xD m pc .bastore 1 nx) (hs : S[c]? = some (.inl (.byte, N))) (hj : j < N) (hN : N < 2 ^ 31) (hy : narrow .byte (.int y) = .int y) (kk : xW G m d k n Q nx L st S (up2 M c j y)) : xW G m d k n Q pc L (.int y :: .int (nI j) :: .ref (G.1 + c) :: st) S M := by
  obtain ⟨hd, rfl⟩ := he
  intro l D p e R s mi args below meth ccc H locs cells slots Z ls E hR hS hl
  obtain ⟨cA, h1, h2⟩ := hR.2 c _ hs
  refine W.bast E.1 E.2.1 h2 (h1 _ _) (fun q => by cases q) (by show ¬ (_ ∨ (arrV _ _ _).slots.size ≤ _); rw [arrV_size]; exact vp_in_nI hj hN) rfl rfl hd fun H1 e1 z oq => ?_
  rw [nI_clamp (by omega)] at e1 ⊢
  rw [hy] at e1
  exact kk l D p e R s mi args below meth ccc H1 _ cells slots Z ls E (hR.setM hs z oq (fun a h => up2_ne h) (xarr_set h1 e1)) (hS.put z oq (Nat.le_add_right _ _)) hl
theorem xs_aald {c j r : Nat} {ty : FieldType} {rs : List (Option Nat)} (he : xD m pc .aaload 1 nx) (hs : S[c]? = some (.inr (.inr (ty, rs)))) (hty : ty.isReference = true) (hr : rs[j]? = some (some r)) (hN : rs.length < 2 ^ 31) (kk : xW G m d k n Q nx L (.ref (G.1 + r) :: st) S M) : xW G m d k n Q pc L (.int (nI j) :: .ref (G.1 + c) :: st) S M := by
  obtain ⟨hd, rfl⟩ := he
  intro l D p e R s mi args below meth ccc H locs cells slots Z ls E hR hS hl
  obtain ⟨cA, h1, -, h2⟩ := hR.2 c _ hs
  have hj : j < rs.length := (List.getElem?_eq_some_iff.mp hr).1
  exact W.aald (v := .ref (G.1 + r)) (ty := ty) E.1 E.2.1 h2 (h1 _ _) hty (fun q => by cases q) (by show ¬ (_ ∨ (arrV _ _ _).slots.size ≤ _); rw [arrV_size]; exact vp_in_nI hj hN) (by show (arrV _ _ _).slots[_]? = _; rw [nI_clamp (by omega), arrV_read _ _ hj]; simp [hr, va_rf]) rfl rfl hd (kk l D p e R s mi args below meth ccc H locs cells slots Z ls E hR hS hl)
theorem xs_alenI {c N : Nat} {ty : FieldType} (he : xD m pc .arraylength 1 nx) (hs : S[c]? = some (.inl (ty, N))) (kk : xW G m d k n Q nx L (.int (nI N) :: st) S M) : xW G m d k n Q pc L (.ref (G.1 + c) :: st) S M := by
  obtain ⟨hd, rfl⟩ := he
  intro l D p e R s mi args below meth ccc H locs cells slots Z ls E hR hS hl
  obtain ⟨cA, h1, h2⟩ := hR.2 c _ hs
  exact W.alen (n := nI N) E.1 E.2.1 h2 (h1 _ _) (by rw [arrV_size]; rfl) rfl rfl hd (kk l D p e R s mi args below meth ccc H locs cells slots Z ls E hR hS hl)
theorem xs_alenR {c : Nat} {ty : FieldType} {rs : List (Option Nat)} (he : xD m pc .arraylength 1 nx) (hs : S[c]? = some (.inr (.inr (ty, rs)))) (kk : xW G m d k n Q nx L (.int (nI rs.length) :: st) S M) : xW G m d k n Q pc L (.ref (G.1 + c) :: st) S M := by
  obtain ⟨hd, rfl⟩ := he
  intro l D p e R s mi args below meth ccc H locs cells slots Z ls E hR hS hl
  obtain ⟨cA, h1, -, h2⟩ := hR.2 c _ hs
  exact W.alen (n := nI rs.length) E.1 E.2.1 h2 (h1 _ _) (by rw [arrV_size]; rfl) rfl rfl hd (kk l D p e R s mi args below meth ccc H locs cells slots Z ls E hR hS hl)
/-- the law's script -/
theorem xs_sld {j : Nat} (he : xD m pc .iaload 1 nx) (hj : j < G.2.2.1) (hN : G.2.2.1 < 2 ^ 31) (kk : xW G m d k n Q nx L (.int (G.2.2.2.1 j) :: st) S M) : xW G m d k n Q pc L (.int (nI j) :: .ref G.2.1 :: st) S M := by
  obtain ⟨hd, rfl⟩ := he
  intro l D p e R s mi args below meth ccc H locs cells slots Z ls E hR hS hl
  obtain ⟨hX, hlt⟩ := E.2.2.2.2.2.2.1.2.2.2.1
  have hB := E.2.2.2.2.2.2.1.1
  have K := kk l D p e R s mi args below meth ccc H locs cells slots Z ls E hR hS hl
  refine va_sld E.1 E.2.1 hX (by omega) (show ¬ G.1 ≤ G.2.1 by omega) hS (vp_in_nI hj hN) hd ?_
  rw [nI_clamp (by omega)]
  exact K
theorem xs_slen (he : xD m pc .arraylength 1 nx) (kk : xW G m d k n Q nx L (.int (nI G.2.2.1) :: st) S M) : xW G m d k n Q pc L (.ref G.2.1 :: st) S M := by
  obtain ⟨hd, rfl⟩ := he
  intro l D p e R s mi args below meth ccc H locs cells slots Z ls E hR hS hl
  obtain ⟨hX, hlt⟩ := E.2.2.2.2.2.2.1.2.2.2.1
  have hB := E.2.2.2.2.2.2.1.1
  exact va_slen E.1 E.2.1 hX (by omega) (show ¬ G.1 ≤ G.2.1 by omega) hS hd (kk l D p e R s mi args below meth ccc H locs cells slots Z ls E hR hS hl)
end XH

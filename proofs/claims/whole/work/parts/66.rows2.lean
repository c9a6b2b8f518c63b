/-! ROWS FOR MAKING: newarray, new, anewarray, multianewarray, aastore -/
def xNA (m : xM) (pc : Nat) (a : ArrayType) (nx : Nat) : Prop := decode m.2.1 pc = .ok (.newarray a, 2) ∧ pc + 2 = nx ∧ Cond.arrayClass (newarray.typeOf a) ∈ xT
def xNW (m : xM) (pc ci nx : Nat) : Prop := ∃ (idx : Nat) (q : vw_C), decode m.2.1 pc = .ok (.new idx, 3) ∧ pc + 3 = nx ∧ vwCl[ci]? = some q ∧ Cond.classLink m.1.cls idx q.1 ∈ xT ∧ Cond.instantiable q.1 q.2.2 ∈ xT ∧ Cond.initialized q.1 ∈ xT
def xNQ (m : xM) (pc nx : Nat) : Prop := ∃ idx : Nat, decode m.2.1 pc = .ok (.anewarray idx, 3) ∧ pc + 3 = nx ∧ Cond.classLink m.1.cls idx "NotAnOx$Book" ∈ xT
def xMA (m : xM) (pc nx : Nat) : Prop := ∃ idx : Nat, decode m.2.1 pc = .ok (.multianewarray idx 2, 4) ∧ pc + 4 = nx ∧ Cond.classLink m.1.cls idx "[[I" ∈ xT ∧ Cond.arrayClass .int ∈ xT
/-- what a field holds at its birth -/
def xv0 (o : Option (Option Nat)) : Value := match o with
  | none => .int 0
  | some _ => .null
section XMK
variable {G : xGl} {m : xM} {d k n pc nx : Nat} {Q : Option Value → List xSh → xMem → Prop} {L : List (Option Value)} {st : List Value} {S : List xSh} {M : xMem}
theorem xs_newa {N : Nat} {ty : FieldType} {at9 : ArrayType} (he : xNA m pc at9 nx) (hty : newarray.typeOf at9 = ty) (hdv : defaultValue ty = .int 0) (hb : N * componentBytes ty ≤ 536870912) (hN : N < 2 ^ 31) (hz : ∀ j, M S.length j = 0) (hk : 1 ≤ k) (hn : N ≤ n) (kk : xW G m d (k - 1) (n - N) Q nx L (.ref (G.1 + S.length) :: st) (S ++ [.inl (ty, N)]) M) : xW G m d k n Q pc L (.int (nI N) :: st) S M := by
  obtain ⟨hd, rfl, harr⟩ := he
  subst hty
  intro l D p e R s mi args below meth c H locs cells slots Z ls E hR hS hl
  have hts := E.2.2.2.2.1
  obtain ⟨rm1, rm2, rm3, rm4⟩ := E.2.2.2.2.2.2.2.1
  have hsz := hR.1
  refine va_newaK (atype := at9) (g := F0 mi pc ls (.int (nI N) :: st)) E.1 E.2.1 (hts _ harr) rfl hd rfl (nI_pos hN) (nI_clamp hN) hb (by omega) (by omega) hsz (fun H' cA e1 z1 o1 hAr _ => ?_)
  refine kk l D p e R s mi args below meth c H' locs (cells + 1) (slots + N) Z ls (E.sub hk hn) (hR.push (by omega) (fun q hq => o1 q (by omega)) (fun _ _ => rfl) ⟨cA, hAr, ?_⟩) ⟨by have := hS.1; omega, fun x h1 h2 => (o1 x (by have := hS.1; omega)).trans (hS.2.1 x h1 h2), hS.2.2⟩ hl
  rw [e1]
  refine congrArg some (congrArg (arrV cA N) (funext fun j => ?_))
  rw [hz j, hdv]
theorem xs_new {ci N : Nat} {C : String} {T : u_T} {fs : List (Option (Option Nat))} (he : xNW m pc ci nx) (hc : vwCl[ci]? = some (C, T, N)) (ty : Nat → FieldType) (hty : ∀ k, k < N → parseFieldDescriptor (T k).2.2.1 = some (ty k)) (hfs : ∀ j, j < N → defaultValue (ty j) = xv0 (fs.getD j none) ∧ fs.getD j none ≠ some (some 0) ∧ (∀ r, fs.getD j none = some r → r = none)) (hz : ∀ j, M S.length j = 0) (hk : 1 ≤ k) (hn : N ≤ n) (kk : xW G m d (k - 1) (n - N) Q nx L (.ref (G.1 + S.length) :: st) (S ++ [.inr (.inl (ci, fs))]) M) : xW G m d k n Q pc L st S M := by
  obtain ⟨idx, q, hd, rfl, hq, hlk, hins, hini⟩ := he
  obtain rfl : q = (C, T, N) := Option.some.inj (hq.symm.trans hc)
  intro l D p e R s mi args below meth c H locs cells slots Z ls E hR hS hl
  have hts := E.2.2.2.2.1
  obtain ⟨rm1, rm2, rm3, rm4⟩ := E.2.2.2.2.2.2.2.1
  have hsz := hR.1
  have hKn := E.2.2.2.2.2.2.1.2.1.1 ci _ hc
  refine W.newcK (g := F0 mi pc ls st) E.1 E.2.1 E.2.2.2.1 (hts _ hlk) (hts _ hins) (hts _ hini) rfl hd (by omega) (by show slots + N ≤ R.slots; omega) hKn.2.1 hsz (fun H' kC hkC e1 z1 o1 => ?_)
  refine kk l D p e R s mi args below meth c H' locs (cells + 1) (slots + N) Z ls (E.sub hk hn) (hR.push (by omega) (fun q hq => o1 q (by omega)) (fun _ _ => rfl) ⟨_, hc, ?_⟩) ⟨by have := hS.1; omega, fun x h1 h2 => (o1 x (by have := hS.1; omega)).trans (hS.2.1 x h1 h2), hS.2.2⟩ hl
  refine (u_born ty hts (xKnown_at hc).1 hKn hkC e1 hty).to (fun j hj => ?_)
  obtain ⟨f1, -, f3⟩ := hfs j hj
  rw [f1]
  cases hx : fs.getD j none with
  | none => simp only [xv0, xval]; rw [hz j]
  | some r =>
    have := f3 r hx
    subst this
    rfl
theorem xs_anew {N : Nat} (he : xNQ m pc nx) (hb : N * 4 ≤ 536870912) (hN : N < 2 ^ 31) (hk : 1 ≤ k) (hn : N ≤ n) (kk : xW G m d (k - 1) (n - N) Q nx L (.ref (G.1 + S.length) :: st) (S ++ [.inr (.inr (.object "NotAnOx$Book", List.replicate N none))]) M) : xW G m d k n Q pc L (.int (nI N) :: st) S M := by
  obtain ⟨idx, hd, rfl, hlk⟩ := he
  intro l D p e R s mi args below meth c H locs cells slots Z ls E hR hS hl
  have hts := E.2.2.2.2.1
  obtain ⟨rm1, rm2, rm3, rm4⟩ := E.2.2.2.2.2.2.2.1
  have hsz := hR.1
  have hAO := E.2.2.2.2.2.2.1.2.2.2.2.1.1
  refine W.anew (g := F0 mi pc ls (.int (nI N) :: st)) E.1 E.2.1 E.2.2.2.1 (hts _ hlk) (va_AO.use hAO) rfl hd rfl (nI_pos hN) (by rw [nI_clamp hN]; exact hb) (by omega) (by rw [nI_clamp hN]; omega) (fun cA kA comp f1 f2 f3 f4 => ?_)
  rw [nI_clamp hN]
  generalize hH1 : H.push ({ cls := cA, slots := Array.replicate N .null, vm := .none } : Cell) = H1
  have z1 : H1.size = H.size + 1 := by rw [← hH1, Array.size_push]
  have e1 : H1[H.size]? = some (arrV cA N (fun _ => .null)) := by rw [← hH1, Array.getElem?_push_size, ← arrV_new]
  have o1 : ∀ q : Nat, q < H.size → H1[q]? = H[q]? := fun q hq => by rw [← hH1, Array.getElem?_push, if_neg (Nat.ne_of_lt hq)]
  rw [show Array.size H = G.1 + S.length from hsz]
  refine kk l D p e R s mi args below meth c H1 locs (cells + 1) (slots + N) Z ls (E.sub hk hn) (hR.push z1 o1 (fun _ _ => rfl) ⟨cA, fun N z => ⟨(fun k h => by cases h), kA, f2, comp, f3⟩, ⟨kA, comp, f2, f3, f4, f1⟩, ?_⟩) ⟨by have := hS.1; omega, fun x h1 h2 => (o1 x (by have := hS.1; omega)).trans (hS.2.1 x h1 h2), hS.2.2⟩ hl
  rw [← hsz, e1, List.length_replicate]
  refine congrArg some (congrArg (arrV cA N) (funext fun j => ?_))
  have : (List.replicate N (none : Option Nat)).getD j none = none := by
    rw [List.getD_eq_getElem?_getD, List.getElem?_replicate]
    split <;> rfl
  rw [this]
  rfl
theorem xs_aast {c1 v ci j : Nat} {rs : List (Option Nat)} {fs : List (Option (Option Nat))} {q : vw_C} {S1 : List xSh} (he : xD m pc .aastore 1 nx) (hs : S[c1]? = some (.inr (.inr (.object q.1, rs)))) (hv : S[v]? = some (.inr (.inl (ci, fs)))) (hq : vwCl[ci]? = some q) (hj : j < rs.length) (hN : rs.length < 2 ^ 31) (hS1 : S.set c1 (.inr (.inr (.object q.1, rs.set j (some v)))) = S1) (kk : xW G m d k n Q nx L st S1 M) : xW G m d k n Q pc L (.ref (G.1 + v) :: .int (nI j) :: .ref (G.1 + c1) :: st) S M := by
  obtain ⟨hd, rfl⟩ := he
  subst hS1
  intro l D p e R s mi args below meth c H locs cells slots Z ls E hR hS hl
  obtain ⟨cA, hA1, ⟨kA, comp, k1, k2, k3, k4⟩, hA3⟩ := hR.2 c1 _ hs
  obtain ⟨q', hq', cellV, g1, g2, g3, -⟩ := hR.2 v _ hv
  have hcls := (E.2.2.2.2.2.2.1.2.1.1 ci q hq).2
  have hcomp : comp = D.1 ci := Option.some.inj (k3.symm.trans hcls.1)
  subst hcomp
  obtain ⟨kC, hkC, -⟩ := hcls.2
  refine W.aast (g := F0 mi pc ls (.ref (G.1 + v) :: .int (nI j) :: .ref (G.1 + c1) :: st)) E.1 E.2.1 hA3 (fun q h => by cases h) (fun h => by cases h) k1 k2 rfl hkC ⟨nI_pos (by omega), by rw [nI_clamp (by omega)]; show _ < (arrV _ _ _).slots.size; rw [arrV_size]; exact hj⟩ g1 (fun q h => by rw [g3] at h; cases h) (by rw [g2]; exact hkC) (by rw [g2]; exact va_assign hcls) rfl rfl hd (fun H1 e z oq => ?_)
  refine kk l D p _ R s mi args below meth c H1 _ cells slots Z ls E (hR.set hs z oq (fun _ _ => rfl) ⟨cA, hA1, ⟨kA, _, k1, k2, k3, k4⟩, ?_⟩) (hS.put z oq (by show G.1 ≤ G.1 + c1; omega)) hl
  rw [e, List.length_set, arrV_store, nI_clamp (by omega)]
  refine congrArg some (congrArg (arrV cA rs.length) (funext fun i => ?_))
  by_cases ei : i = j
  · subst ei
    simp [updV, va_rf, List.getD_eq_getElem?_getD, hj]
  · have : (rs.set j (some v)).getD i none = rs.getD i none := by
      rw [List.getD_eq_getElem?_getD, List.getElem?_set_ne (Ne.symm ei), List.getD_eq_getElem?_getD]
    rw [this]
    exact if_neg ei
theorem xs_mna {N K : Nat} (he : xMA m pc nx) (hN : N ≤ 1000) (hK : K ≤ 1000) (hz : ∀ i, i < N → ∀ j, M (S.length + 1 + i) j = 0) (hk : 1 + N ≤ k) (hn : N + N * K ≤ n) (kk : xW G m d (k - (1 + N)) (n - (N + N * K)) Q nx L (.ref (G.1 + S.length) :: st) (S ++ (.inr (.inr (.array .int, (List.range N).map (fun i => some (S.length + 1 + i)))) :: List.replicate N (.inl (.int, K)))) M) : xW G m d k n Q pc L (.int (nI K) :: .int (nI N) :: st) S M := by
  obtain ⟨idx, hd, rfl, hlk, harr⟩ := he
  intro l D p e R s mi args below meth c H locs cells slots Z ls E hR hS hl
  have hts := E.2.2.2.2.1
  obtain ⟨rm1, rm2, rm3, rm4⟩ := E.2.2.2.2.2.2.2.1
  have hsz := hR.1
  have hAO : (Cond.arrayOver (.array .int)).before args s = true := E.2.2.2.2.2.2.1.2.2.2.2.1.2
  refine xm_W (g := F0 mi pc ls (.int (nI K) :: .int (nI N) :: st)) E.1 E.2.1 E.2.2.2.1 (hts _ hlk) hAO (hts _ harr) rfl hd rfl hN hK (by omega) (by omega) (fun H1 a b ta na tb z o old inn => ?_)
  rw [show Array.size H = G.1 + S.length from hsz]
  refine kk l D p e R s mi args below meth c H1 locs (cells + (1 + N)) (slots + (N + N * K)) Z ls (E.sub hk hn) ⟨?_, fun c9 sh hc => ?_⟩ ⟨by have := hS.1; omega, fun x h1 h2 => (old x (by have := hS.1; omega)).trans (hS.2.1 x h1 h2), hS.2.2⟩ hl
  · rw [z, hsz, List.length_append, List.length_cons, List.length_replicate]
    omega
  by_cases h1 : c9 < S.length
  · rw [List.getElem?_append_left h1] at hc
    exact (hR.2 c9 sh hc).kept (old _ (by omega))
  rw [List.getElem?_append_right (by omega)] at hc
  by_cases h2 : c9 = S.length
  · subst h2
    rw [Nat.sub_self] at hc
    cases hc
    refine ⟨a, ta, na, ?_⟩
    rw [← hsz, o, List.length_map, List.length_range]
    refine congrArg some (congrArg (arrV a N) (funext fun j => ?_))
    rw [List.getD_eq_getElem?_getD, List.getElem?_map]
    by_cases hj : j < N
    · rw [List.getElem?_range hj, if_pos hj]
      show va_rf (some (H.size + 1 + j)) = va_rf (some (G.1 + (S.length + 1 + j)))
      rw [show H.size + 1 + j = G.1 + (S.length + 1 + j) by omega]
    · rw [show (List.range N)[j]? = none from List.getElem?_eq_none (by rw [List.length_range]; omega), if_neg hj]
      rfl
  obtain ⟨i, rfl⟩ : ∃ i, c9 = S.length + 1 + i := ⟨c9 - S.length - 1, by omega⟩
  rw [show S.length + 1 + i - S.length = i + 1 by omega, List.getElem?_cons_succ, List.getElem?_replicate] at hc
  by_cases hi : i < N
  · rw [if_pos hi] at hc
    cases hc
    refine ⟨b, tb, ?_⟩
    rw [show G.1 + (S.length + 1 + i) = H.size + 1 + i by omega, inn i hi]
    refine congrArg some (congrArg (arrV b K) (funext fun j => ?_))
    rw [hz i hi j]
  · rw [if_neg hi] at hc
    cases hc
end XMK

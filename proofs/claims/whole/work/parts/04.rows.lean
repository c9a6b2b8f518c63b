/-! THE ROWS: an instruction, a row; a static fact of a place comes first, the walk behind it last -/
section XR
variable {G : xGl} {m : xM} {d k n pc nx : Nat} {Q : Option Value → List xSh → xMem → Prop} {L L1 : List (Option Value)} {st : List Value} {S : List xSh} {M : xMem}
def xD (m : xM) (pc : Nat) (i : Instr) (w nx : Nat) : Prop := decode m.2.1 pc = .ok (i, w) ∧ pc + w = nx
def xJ (m : xM) (pc : Nat) (mk : Int → Instr) (tgt nx : Nat) : Prop := ∃ off : Int, decode m.2.1 pc = .ok (mk off, 3) ∧ (pc : Int) + off = (tgt : Int) ∧ pc + 3 = nx
def xK (m : xM) (pc : Nat) (v : Int32) (nx : Nat) : Prop := (∃ i : Int, decode m.2.1 pc = .ok (.iconst i, 1) ∧ Int32.ofInt i = v ∧ pc + 1 = nx) ∨ (∃ i : Int, decode m.2.1 pc = .ok (.bipush i, 2) ∧ (Int8.ofInt i).toInt32 = v ∧ pc + 2 = nx) ∨ (∃ i : Int, decode m.2.1 pc = .ok (.sipush i, 3) ∧ (Int16.ofInt i).toInt32 = v ∧ pc + 3 = nx) ∨ (∃ i : Nat, decode m.2.1 pc = .ok (.ldc i, 2) ∧ Cond.constant m.1.cls i v ∈ xT ∧ pc + 2 = nx) ∨ (∃ i : Nat, decode m.2.1 pc = .ok (.ldc_w i, 3) ∧ Cond.constant m.1.cls i v ∈ xT ∧ pc + 3 = nx)
def xKL (m : xM) (pc : Nat) (v : Int64) (nx : Nat) : Prop := (∃ i : Fin 2, decode m.2.1 pc = .ok (.lconst i, 1) ∧ Int64.ofNat (i : Nat) = v ∧ pc + 1 = nx) ∨ (∃ i : Nat, decode m.2.1 pc = .ok (.ldc2_w i, 3) ∧ Cond.constantLong m.1.cls i v ∈ xT ∧ pc + 3 = nx)

def x_iload (m : xM) (pc i nx : Nat) : Prop := (∃ k : Fin 4, decode m.2.1 pc = .ok (.iload_n k, 1) ∧ (k : Nat) = i ∧ pc + 1 = nx) ∨ (decode m.2.1 pc = .ok (.iload i, 2) ∧ pc + 2 = nx)
def x_aload (m : xM) (pc i nx : Nat) : Prop := (∃ k : Fin 4, decode m.2.1 pc = .ok (.aload_n k, 1) ∧ (k : Nat) = i ∧ pc + 1 = nx) ∨ (decode m.2.1 pc = .ok (.aload i, 2) ∧ pc + 2 = nx)
def x_lload (m : xM) (pc i nx : Nat) : Prop := (∃ k : Fin 4, decode m.2.1 pc = .ok (.lload_n k, 1) ∧ (k : Nat) = i ∧ pc + 1 = nx) ∨ (decode m.2.1 pc = .ok (.lload i, 2) ∧ pc + 2 = nx)
theorem xs_iload {i : Nat} {y : Int32} (he : x_iload m pc i nx) (hv : L[i]? = some (some (.int y))) (kk : xW G m d k n Q nx L (.int y :: st) S M) : xW G m d k n Q pc L st S M := by
  intro l D p e R s mi args below meth c H locs cells slots Z ls E hR hS hl
  rcases he with ⟨j, hd, hj, rfl⟩ | ⟨hd, rfl⟩
  · exact lv_iload_n E.1 E.2.1 hd hj (hl.2.2.2 i _ hv) (kk l D p e R s mi args below meth c H locs cells slots Z ls E hR hS hl)
  · exact lv_iload E.1 E.2.1 hd (hl.2.2.2 i _ hv) (kk l D p e R s mi args below meth c H locs cells slots Z ls E hR hS hl)
theorem xs_aload {i : Nat} {y : Nat} (he : x_aload m pc i nx) (hv : L[i]? = some (some (.ref y))) (kk : xW G m d k n Q nx L (.ref y :: st) S M) : xW G m d k n Q pc L st S M := by
  intro l D p e R s mi args below meth c H locs cells slots Z ls E hR hS hl
  rcases he with ⟨j, hd, hj, rfl⟩ | ⟨hd, rfl⟩
  · exact lv_aload_n E.1 E.2.1 hd hj (hl.2.2.2 i _ hv) (kk l D p e R s mi args below meth c H locs cells slots Z ls E hR hS hl)
  · exact lv_aload E.1 E.2.1 hd (hl.2.2.2 i _ hv) (kk l D p e R s mi args below meth c H locs cells slots Z ls E hR hS hl)
theorem xs_lload {i : Nat} {y : Int64} (he : x_lload m pc i nx) (hv : L[i]? = some (some (.long y))) (kk : xW G m d k n Q nx L (.long y :: st) S M) : xW G m d k n Q pc L st S M := by
  intro l D p e R s mi args below meth c H locs cells slots Z ls E hR hS hl
  rcases he with ⟨j, hd, hj, rfl⟩ | ⟨hd, rfl⟩
  · exact lv_lload_n E.1 E.2.1 hd hj (hl.2.2.2 i _ hv) (kk l D p e R s mi args below meth c H locs cells slots Z ls E hR hS hl)
  · exact lv_lload E.1 E.2.1 hd (hl.2.2.2 i _ hv) (kk l D p e R s mi args below meth c H locs cells slots Z ls E hR hS hl)
/-- the place below holds no long -/
def xok (L : List (Option Value)) (i : Nat) : Bool := match i with
  | 0 => true
  | j + 1 => match L[j]? with
    | some (some v) => v.category == 1
    | _ => true
theorem xLoc.has {ls : Array Slot} {nL : Nat} (hl : xLoc ls nL L) : lv_has ls nL ((List.range nL).filterMap (fun i => match L[i]? with | some (some v) => some (i, v) | _ => none)) := by
  refine ⟨hl.1, hl.2.2.1, fun q hq => ?_⟩
  obtain ⟨i, -, hi⟩ := List.mem_filterMap.mp hq
  cases hL : L[i]? with
  | none => rw [hL] at hi; cases hi
  | some w =>
    cases w with
    | none => rw [hL] at hi; cases hi
    | some v =>
      rw [hL] at hi
      cases hi
      exact hl.2.2.2 i v hL
theorem xLoc.mem {nL i : Nat} {v : Value} (hlen : L.length = nL) (hv : L[i]? = some (some v)) : (i, v) ∈ ((List.range nL).filterMap (fun i => match L[i]? with | some (some v) => some (i, v) | _ => none)) := by
  refine List.mem_filterMap.mpr ⟨i, List.mem_range.mpr ?_, by rw [hv]⟩
  rw [← hlen]
  exact (List.getElem?_eq_some_iff.mp hv).1
theorem xLoc.set1 {ls ls' : Array Slot} {nL i : Nat} {v : Value} (hl : xLoc ls nL L) (hk : xok L i = true) (h' : lv_has ls' nL ((i, v) :: ((List.range nL).filterMap (fun i => match L[i]? with | some (some v) => some (i, v) | _ => none)).filter (fun q => !(q.1 == i) && !(q.1 + 1 == i && q.2.category == 2)))) : xLoc ls' nL (L.set i (some v)) := by
  refine ⟨h'.1, by rw [List.length_set]; exact hl.2.1, h'.2.1, fun j w hj => ?_⟩
  by_cases e : j = i
  · subst e
    have hlt : j < L.length := by
      have := (List.getElem?_eq_some_iff.mp hj).1
      rwa [List.length_set] at this
    rw [List.getElem?_set_self hlt] at hj
    cases hj
    exact h'.2.2 _ List.mem_cons_self
  · rw [List.getElem?_set_ne (Ne.symm e)] at hj
    refine h'.2.2 (j, w) (List.mem_cons_of_mem _ (List.mem_filter.mpr ⟨xLoc.mem hl.2.1 hj, ?_⟩))
    by_cases e2 : j + 1 = i
    · subst e2
      have hc : w.category = 1 := by simpa [xok, hj] using hk
      simp [hc]
    · simp [e, e2]
theorem xLoc.set2 {ls ls' : Array Slot} {nL i : Nat} {v : Value} (hl : xLoc ls nL L) (hk : xok L i = true) (h' : lv_has ls' nL ((i, v) :: ((List.range nL).filterMap (fun i => match L[i]? with | some (some v) => some (i, v) | _ => none)).filter (fun q => !(q.1 == i) && (!(q.1 == i + 1) && !(q.1 + 1 == i && q.2.category == 2))))) : xLoc ls' nL ((L.set i (some v)).set (i + 1) none) := by
  refine ⟨h'.1, by rw [List.length_set, List.length_set]; exact hl.2.1, h'.2.1, fun j w hj => ?_⟩
  have e1 : j ≠ i + 1 := by
    intro e
    subst e
    have hlt : i + 1 < (L.set i (some v)).length := by
      have := (List.getElem?_eq_some_iff.mp hj).1
      rwa [List.length_set] at this
    rw [List.getElem?_set_self hlt] at hj
    cases hj
  rw [List.getElem?_set_ne (Ne.symm e1)] at hj
  by_cases e : j = i
  · subst e
    have hlt : j < L.length := by
      have := (List.getElem?_eq_some_iff.mp hj).1
      rwa [List.length_set] at this
    rw [List.getElem?_set_self hlt] at hj
    cases hj
    exact h'.2.2 _ List.mem_cons_self
  · rw [List.getElem?_set_ne (Ne.symm e)] at hj
    refine h'.2.2 (j, w) (List.mem_cons_of_mem _ (List.mem_filter.mpr ⟨xLoc.mem hl.2.1 hj, ?_⟩))
    by_cases e2 : j + 1 = i
    · subst e2
      have hc : w.category = 1 := by simpa [xok, hj] using hk
      simp [hc]
      try omega
    · simp [e, e1, e2]
def x_istore (m : xM) (pc i nx : Nat) : Prop := (∃ k : Fin 4, decode m.2.1 pc = .ok (.istore_n k, 1) ∧ (k : Nat) = i ∧ pc + 1 = nx) ∨ (decode m.2.1 pc = .ok (.istore i, 2) ∧ pc + 2 = nx)
def x_astore (m : xM) (pc i nx : Nat) : Prop := (∃ k : Fin 4, decode m.2.1 pc = .ok (.astore_n k, 1) ∧ (k : Nat) = i ∧ pc + 1 = nx) ∨ (decode m.2.1 pc = .ok (.astore i, 2) ∧ pc + 2 = nx)
def x_lstore (m : xM) (pc i nx : Nat) : Prop := (∃ k : Fin 4, decode m.2.1 pc = .ok (.lstore_n k, 1) ∧ (k : Nat) = i ∧ pc + 1 = nx) ∨ (decode m.2.1 pc = .ok (.lstore i, 2) ∧ pc + 2 = nx)
theorem xs_istore {i : Nat} {y : Int32} (he : x_istore m pc i nx) (hi : i < L.length) (hk : xok L i = true) (hL : L.set i (some (.int y)) = L1) (kk : xW G m d k n Q nx L1 st S M) : xW G m d k n Q pc L (.int y :: st) S M := by
  subst hL
  intro l D p e R s mi args below meth c H locs cells slots Z ls E hR hS hl
  rcases he with ⟨j, hd, hj, rfl⟩ | ⟨hd, rfl⟩
  · exact lv_istore_n E.1 E.2.1 hd hj hl.has (by rw [← hl.2.1]; exact hi) rfl (fun ls' h' => kk l D p e R s mi args below meth c H locs cells slots Z ls' E hR hS (hl.set1 hk h'))
  · exact lv_istore E.1 E.2.1 hd hl.has (by rw [← hl.2.1]; exact hi) rfl (fun ls' h' => kk l D p e R s mi args below meth c H locs cells slots Z ls' E hR hS (hl.set1 hk h'))
theorem xs_astore {i : Nat} {y : Nat} (he : x_astore m pc i nx) (hi : i < L.length) (hk : xok L i = true) (hL : L.set i (some (.ref y)) = L1) (kk : xW G m d k n Q nx L1 st S M) : xW G m d k n Q pc L (.ref y :: st) S M := by
  subst hL
  intro l D p e R s mi args below meth c H locs cells slots Z ls E hR hS hl
  rcases he with ⟨j, hd, hj, rfl⟩ | ⟨hd, rfl⟩
  · exact lv_astore_n E.1 E.2.1 hd hj hl.has (by rw [← hl.2.1]; exact hi) rfl (fun ls' h' => kk l D p e R s mi args below meth c H locs cells slots Z ls' E hR hS (hl.set1 hk h'))
  · exact lv_astore E.1 E.2.1 hd hl.has (by rw [← hl.2.1]; exact hi) rfl (fun ls' h' => kk l D p e R s mi args below meth c H locs cells slots Z ls' E hR hS (hl.set1 hk h'))
theorem xs_lstore {i : Nat} {y : Int64} (he : x_lstore m pc i nx) (hi : i + 1 < L.length) (hk : xok L i = true) (hL : (L.set i (some (.long y))).set (i + 1) none = L1) (kk : xW G m d k n Q nx L1 st S M) : xW G m d k n Q pc L (.long y :: st) S M := by
  subst hL
  intro l D p e R s mi args below meth c H locs cells slots Z ls E hR hS hl
  rcases he with ⟨j, hd, hj, rfl⟩ | ⟨hd, rfl⟩
  · exact lv_lstore_n E.1 E.2.1 hd hj hl.has (by rw [← hl.2.1]; exact hi) rfl (fun ls' h' => kk l D p e R s mi args below meth c H locs cells slots Z ls' E hR hS (hl.set2 hk h'))
  · exact lv_lstore E.1 E.2.1 hd hl.has (by rw [← hl.2.1]; exact hi) rfl (fun ls' h' => kk l D p e R s mi args below meth c H locs cells slots Z ls' E hR hS (hl.set2 hk h'))
theorem xs_kill (i : Nat) (hL : L.set i none = L1) (kk : xW G m d k n Q pc L1 st S M) : xW G m d k n Q pc L st S M := by
  subst hL
  intro l D p e R s mi args below meth c H locs cells slots Z ls E hR hS hl
  refine kk l D p e R s mi args below meth c H locs cells slots Z ls E hR hS ⟨hl.1, by rw [List.length_set]; exact hl.2.1, hl.2.2.1, fun j w hj => ?_⟩
  by_cases e : j = i
  · subst e
    have hlt : j < L.length := by
      have := (List.getElem?_eq_some_iff.mp hj).1
      rwa [List.length_set] at this
    rw [List.getElem?_set_self hlt] at hj
    cases hj
  · rw [List.getElem?_set_ne (Ne.symm e)] at hj
    exact hl.2.2.2 j w hj
theorem xs_iinc {i : Nat} {z : Int} {y v : Int32} (he : xD m pc (.iinc i z) 3 nx) (hv : L[i]? = some (some (.int y))) (hz : y + Int32.ofInt z = v) (hk : xok L i = true) (hL : L.set i (some (.int v)) = L1) (kk : xW G m d k n Q nx L1 st S M) : xW G m d k n Q pc L st S M := by
  subst hL
  obtain ⟨hd, rfl⟩ := he
  intro l D p e R s mi args below meth c H locs cells slots Z ls E hR hS hl
  obtain ⟨j, hj⟩ := List.getElem?_of_mem (xLoc.mem hl.2.1 hv)
  have hi : i < m.2.2.1 := by
    rw [← hl.2.1]
    exact (List.getElem?_eq_some_iff.mp hv).1
  exact lv_iinc E.1 E.2.1 hd hl.has hj hz hi rfl (fun ls' h' => kk l D p e R s mi args below meth c H locs cells slots Z ls' E hR hS (hl.set1 hk h'))
/-- a counter goes up by one -/
theorem xs_inc1 {i a : Nat} (he : xD m pc (.iinc i 1) 3 nx) (hv : L[i]? = some (some (.int (nI a)))) (hk : xok L i = true) (hL : L.set i (some (.int (nI (a + 1)))) = L1) (kk : xW G m d k n Q nx L1 st S M) : xW G m d k n Q pc L st S M :=
  xs_iinc he hv (nI_1 a) hk hL kk
theorem xs_eq1 {y z : Int32} (h : y = z) (kk : xW G m d k n Q pc L (.int z :: st) S M) : xW G m d k n Q pc L (.int y :: st) S M := h ▸ kk
theorem xs_eqM {M1 : xMem} (h : M = M1) (kk : xW G m d k n Q pc L st S M1) : xW G m d k n Q pc L st S M := h ▸ kk
theorem xs_K {v : Int32} (he : xK m pc v nx) (kk : xW G m d k n Q nx L (.int v :: st) S M) : xW G m d k n Q pc L st S M := by
  intro l D p e R s mi args below meth c H locs cells slots Z ls E hR hS hl
  rcases he with ⟨i, hd, hv, rfl⟩ | ⟨i, hd, hv, rfl⟩ | ⟨i, hd, hv, rfl⟩ | ⟨i, hd, hw, rfl⟩ | ⟨i, hd, hw, rfl⟩
  · exact lv_iconst E.1 E.2.1 hd hv (kk l D p e R s mi args below meth c H locs cells slots Z ls E hR hS hl)
  · exact lv_bipush E.1 E.2.1 hd hv (kk l D p e R s mi args below meth c H locs cells slots Z ls E hR hS hl)
  · exact lv_sipush E.1 E.2.1 hd hv (kk l D p e R s mi args below meth c H locs cells slots Z ls E hR hS hl)
  · exact lv_ldc E.1 E.2.1 E.2.2.2.1 (E.2.2.2.2.1 _ hw) hd (kk l D p e R s mi args below meth c H locs cells slots Z ls E hR hS hl)
  · exact lv_ldcw E.1 E.2.1 E.2.2.2.1 (E.2.2.2.2.1 _ hw) hd (kk l D p e R s mi args below meth c H locs cells slots Z ls E hR hS hl)
theorem xs_KL {v : Int64} (he : xKL m pc v nx) (kk : xW G m d k n Q nx L (.long v :: st) S M) : xW G m d k n Q pc L st S M := by
  intro l D p e R s mi args below meth c H locs cells slots Z ls E hR hS hl
  rcases he with ⟨i, hd, hv, rfl⟩ | ⟨i, hd, hw, rfl⟩
  · exact lv_lconst E.1 E.2.1 hd hv (kk l D p e R s mi args below meth c H locs cells slots Z ls E hR hS hl)
  · exact lv_ldc2 E.1 E.2.1 E.2.2.2.1 (E.2.2.2.2.1 _ hw) hd (kk l D p e R s mi args below meth c H locs cells slots Z ls E hR hS hl)
theorem xs_iadd {y z : Int32} (he : xD m pc (.iadd) 1 nx) (kk : xW G m d k n Q nx L (.int (y + z) :: st) S M) : xW G m d k n Q pc L (.int z :: .int y :: st) S M := by
  obtain ⟨hd, rfl⟩ := he
  intro l D p e R s mi args below meth c H locs cells slots Z ls E hR hS hl
  exact lv_iadd E.1 E.2.1 hd (kk l D p e R s mi args below meth c H locs cells slots Z ls E hR hS hl)
theorem xs_isub {y z : Int32} (he : xD m pc (.isub) 1 nx) (kk : xW G m d k n Q nx L (.int (y - z) :: st) S M) : xW G m d k n Q pc L (.int z :: .int y :: st) S M := by
  obtain ⟨hd, rfl⟩ := he
  intro l D p e R s mi args below meth c H locs cells slots Z ls E hR hS hl
  exact lv_isub E.1 E.2.1 hd (kk l D p e R s mi args below meth c H locs cells slots Z ls E hR hS hl)
theorem xs_imul {y z : Int32} (he : xD m pc (.imul) 1 nx) (kk : xW G m d k n Q nx L (.int (y * z) :: st) S M) : xW G m d k n Q pc L (.int z :: .int y :: st) S M := by
  obtain ⟨hd, rfl⟩ := he
  intro l D p e R s mi args below meth c H locs cells slots Z ls E hR hS hl
  exact lv_imul E.1 E.2.1 hd (kk l D p e R s mi args below meth c H locs cells slots Z ls E hR hS hl)
theorem xs_iand {y z : Int32} (he : xD m pc (.iand) 1 nx) (kk : xW G m d k n Q nx L (.int (y &&& z) :: st) S M) : xW G m d k n Q pc L (.int z :: .int y :: st) S M := by
  obtain ⟨hd, rfl⟩ := he
  intro l D p e R s mi args below meth c H locs cells slots Z ls E hR hS hl
  exact lv_iand E.1 E.2.1 hd (kk l D p e R s mi args below meth c H locs cells slots Z ls E hR hS hl)
theorem xs_ior {y z : Int32} (he : xD m pc (.ior) 1 nx) (kk : xW G m d k n Q nx L (.int (y ||| z) :: st) S M) : xW G m d k n Q pc L (.int z :: .int y :: st) S M := by
  obtain ⟨hd, rfl⟩ := he
  intro l D p e R s mi args below meth c H locs cells slots Z ls E hR hS hl
  exact lv_ior E.1 E.2.1 hd (kk l D p e R s mi args below meth c H locs cells slots Z ls E hR hS hl)
theorem xs_ixor {y z : Int32} (he : xD m pc (.ixor) 1 nx) (kk : xW G m d k n Q nx L (.int (y ^^^ z) :: st) S M) : xW G m d k n Q pc L (.int z :: .int y :: st) S M := by
  obtain ⟨hd, rfl⟩ := he
  intro l D p e R s mi args below meth c H locs cells slots Z ls E hR hS hl
  exact lv_ixor E.1 E.2.1 hd (kk l D p e R s mi args below meth c H locs cells slots Z ls E hR hS hl)
theorem xs_ishl {y z : Int32} (he : xD m pc (.ishl) 1 nx) (kk : xW G m d k n Q nx L (.int (y <<< (z &&& 31)) :: st) S M) : xW G m d k n Q pc L (.int z :: .int y :: st) S M := by
  obtain ⟨hd, rfl⟩ := he
  intro l D p e R s mi args below meth c H locs cells slots Z ls E hR hS hl
  exact lv_ishl E.1 E.2.1 hd (kk l D p e R s mi args below meth c H locs cells slots Z ls E hR hS hl)
theorem xs_ishr {y z : Int32} (he : xD m pc (.ishr) 1 nx) (kk : xW G m d k n Q nx L (.int (y >>> (z &&& 31)) :: st) S M) : xW G m d k n Q pc L (.int z :: .int y :: st) S M := by
  obtain ⟨hd, rfl⟩ := he
  intro l D p e R s mi args below meth c H locs cells slots Z ls E hR hS hl
  exact lv_ishr E.1 E.2.1 hd (kk l D p e R s mi args below meth c H locs cells slots Z ls E hR hS hl)
theorem xs_idiv {y z : Int32} (he : xD m pc (.idiv) 1 nx) (hz : ¬ z = 0) (kk : xW G m d k n Q nx L (.int (y / z) :: st) S M) : xW G m d k n Q pc L (.int z :: .int y :: st) S M := by
  obtain ⟨hd, rfl⟩ := he
  intro l D p e R s mi args below meth c H locs cells slots Z ls E hR hS hl
  exact lv_idiv E.1 E.2.1 hd hz (kk l D p e R s mi args below meth c H locs cells slots Z ls E hR hS hl)
theorem xs_irem {y z : Int32} (he : xD m pc (.irem) 1 nx) (hz : ¬ z = 0) (kk : xW G m d k n Q nx L (.int (y - y / z * z) :: st) S M) : xW G m d k n Q pc L (.int z :: .int y :: st) S M := by
  obtain ⟨hd, rfl⟩ := he
  intro l D p e R s mi args below meth c H locs cells slots Z ls E hR hS hl
  exact lv_irem E.1 E.2.1 hd hz (kk l D p e R s mi args below meth c H locs cells slots Z ls E hR hS hl)
theorem xs_iushr {y z : Int32} (he : xD m pc (.iushr) 1 nx) (kk : xW G m d k n Q nx L (.int ((y.toUInt32 >>> (z.toUInt32 &&& Int32.toUInt32 31)).toInt32) :: st) S M) : xW G m d k n Q pc L (.int z :: .int y :: st) S M := by
  obtain ⟨hd, rfl⟩ := he
  intro l D p e R s mi args below meth c H locs cells slots Z ls E hR hS hl
  exact lv_iushr E.1 E.2.1 hd rfl (kk l D p e R s mi args below meth c H locs cells slots Z ls E hR hS hl)
theorem xs_ladd {y z : Int64} (he : xD m pc (.ladd) 1 nx) (kk : xW G m d k n Q nx L (.long (y + z) :: st) S M) : xW G m d k n Q pc L (.long z :: .long y :: st) S M := by
  obtain ⟨hd, rfl⟩ := he
  intro l D p e R s mi args below meth c H locs cells slots Z ls E hR hS hl
  exact lv_ladd E.1 E.2.1 hd (kk l D p e R s mi args below meth c H locs cells slots Z ls E hR hS hl)
theorem xs_lmul {y z : Int64} (he : xD m pc (.lmul) 1 nx) (kk : xW G m d k n Q nx L (.long (y * z) :: st) S M) : xW G m d k n Q pc L (.long z :: .long y :: st) S M := by
  obtain ⟨hd, rfl⟩ := he
  intro l D p e R s mi args below meth c H locs cells slots Z ls E hR hS hl
  exact lv_lmul E.1 E.2.1 hd (kk l D p e R s mi args below meth c H locs cells slots Z ls E hR hS hl)
theorem xs_ldiv {y z : Int64} (he : xD m pc (.ldiv) 1 nx) (hz : ¬ z = 0) (kk : xW G m d k n Q nx L (.long (y / z) :: st) S M) : xW G m d k n Q pc L (.long z :: .long y :: st) S M := by
  obtain ⟨hd, rfl⟩ := he
  intro l D p e R s mi args below meth c H locs cells slots Z ls E hR hS hl
  exact lv_ldiv E.1 E.2.1 hd hz (kk l D p e R s mi args below meth c H locs cells slots Z ls E hR hS hl)
theorem xs_lrem {y z : Int64} (he : xD m pc (.lrem) 1 nx) (hz : ¬ z = 0) (kk : xW G m d k n Q nx L (.long (y - y / z * z) :: st) S M) : xW G m d k n Q pc L (.long z :: .long y :: st) S M := by
  obtain ⟨hd, rfl⟩ := he
  intro l D p e R s mi args below meth c H locs cells slots Z ls E hR hS hl
  exact lv_lrem E.1 E.2.1 hd hz (kk l D p e R s mi args below meth c H locs cells slots Z ls E hR hS hl)
theorem xs_lcmp {y z : Int64} (he : xD m pc (.lcmp) 1 nx) (kk : xW G m d k n Q nx L (.int (lg_cmp y z) :: st) S M) : xW G m d k n Q pc L (.long z :: .long y :: st) S M := by
  obtain ⟨hd, rfl⟩ := he
  intro l D p e R s mi args below meth c H locs cells slots Z ls E hR hS hl
  exact W.lcmp E.1 E.2.1 hd (kk l D p e R s mi args below meth c H locs cells slots Z ls E hR hS hl)
theorem xs_i2l {y : Int32} (he : xD m pc (.i2l) 1 nx) (kk : xW G m d k n Q nx L (.long y.toInt64 :: st) S M) : xW G m d k n Q pc L (.int y :: st) S M := by
  obtain ⟨hd, rfl⟩ := he
  intro l D p e R s mi args below meth c H locs cells slots Z ls E hR hS hl
  exact lv_i2l E.1 E.2.1 hd rfl (kk l D p e R s mi args below meth c H locs cells slots Z ls E hR hS hl)
theorem xs_l2i {y : Int64} (he : xD m pc (.l2i) 1 nx) (kk : xW G m d k n Q nx L (.int y.toInt32 :: st) S M) : xW G m d k n Q pc L (.long y :: st) S M := by
  obtain ⟨hd, rfl⟩ := he
  intro l D p e R s mi args below meth c H locs cells slots Z ls E hR hS hl
  exact lv_l2i E.1 E.2.1 hd rfl (kk l D p e R s mi args below meth c H locs cells slots Z ls E hR hS hl)
theorem xs_i2b {y : Int32} (he : xD m pc (.i2b) 1 nx) (kk : xW G m d k n Q nx L (.int y.toInt8.toInt32 :: st) S M) : xW G m d k n Q pc L (.int y :: st) S M := by
  obtain ⟨hd, rfl⟩ := he
  intro l D p e R s mi args below meth c H locs cells slots Z ls E hR hS hl
  exact lv_i2b E.1 E.2.1 hd rfl (kk l D p e R s mi args below meth c H locs cells slots Z ls E hR hS hl)
theorem xs_i2c {y : Int32} (he : xD m pc (.i2c) 1 nx) (kk : xW G m d k n Q nx L (.int (y.toUInt32 % 65536).toInt32 :: st) S M) : xW G m d k n Q pc L (.int y :: st) S M := by
  obtain ⟨hd, rfl⟩ := he
  intro l D p e R s mi args below meth c H locs cells slots Z ls E hR hS hl
  exact lv_i2c E.1 E.2.1 hd rfl (kk l D p e R s mi args below meth c H locs cells slots Z ls E hR hS hl)
theorem xs_dup {v : Value} (he : xD m pc (.dup) 1 nx) (hv : v.category = 1) (kk : xW G m d k n Q nx L (v :: v :: st) S M) : xW G m d k n Q pc L (v :: st) S M := by
  obtain ⟨hd, rfl⟩ := he
  intro l D p e R s mi args below meth c H locs cells slots Z ls E hR hS hl
  exact lv_dup E.1 E.2.1 hd hv (kk l D p e R s mi args below meth c H locs cells slots Z ls E hR hS hl)
theorem xs_pop {v : Value} (he : xD m pc (.pop) 1 nx) (hv : v.category = 1) (kk : xW G m d k n Q nx L (st) S M) : xW G m d k n Q pc L (v :: st) S M := by
  obtain ⟨hd, rfl⟩ := he
  intro l D p e R s mi args below meth c H locs cells slots Z ls E hR hS hl
  exact lv_pop E.1 E.2.1 hd hv (kk l D p e R s mi args below meth c H locs cells slots Z ls E hR hS hl)
theorem xs_dup2 {v w : Value} (he : xD m pc (.dup2) 1 nx) (hv : v.category = 1) (hw : w.category = 1) (kk : xW G m d k n Q nx L (v :: w :: v :: w :: st) S M) : xW G m d k n Q pc L (v :: w :: st) S M := by
  obtain ⟨hd, rfl⟩ := he
  intro l D p e R s mi args below meth c H locs cells slots Z ls E hR hS hl
  exact lv_dup2_11 E.1 E.2.1 hd hv hw (kk l D p e R s mi args below meth c H locs cells slots Z ls E hR hS hl)
theorem xs_if_eq {y : Int32} {tgt : Nat} (he : xJ m pc (.ifCond .eq) tgt nx) (kt : y = 0 → xW G m d k n Q tgt L st S M) (kf : ¬ (y = 0) → xW G m d k n Q nx L st S M) : xW G m d k n Q pc L (.int y :: st) S M := by
  obtain ⟨off, hd, ht, rfl⟩ := he
  intro l D p e R s mi args below meth c H locs cells slots Z ls E hR hS hl
  exact lv_if_eq E.1 E.2.1 hd ht (fun h => kt h l D p e R s mi args below meth c H locs cells slots Z ls E hR hS hl) (fun h => kf h l D p e R s mi args below meth c H locs cells slots Z ls E hR hS hl)
theorem xs_icmp_eq {y z : Int32} {tgt : Nat} (he : xJ m pc (.if_icmp .eq) tgt nx) (kt : y = z → xW G m d k n Q tgt L st S M) (kf : ¬ (y = z) → xW G m d k n Q nx L st S M) : xW G m d k n Q pc L (.int z :: .int y :: st) S M := by
  obtain ⟨off, hd, ht, rfl⟩ := he
  intro l D p e R s mi args below meth c H locs cells slots Z ls E hR hS hl
  exact lv_icmp_eq E.1 E.2.1 hd ht (fun h => kt h l D p e R s mi args below meth c H locs cells slots Z ls E hR hS hl) (fun h => kf h l D p e R s mi args below meth c H locs cells slots Z ls E hR hS hl)
theorem xs_if_ne {y : Int32} {tgt : Nat} (he : xJ m pc (.ifCond .ne) tgt nx) (kt : y ≠ 0 → xW G m d k n Q tgt L st S M) (kf : y = 0 → xW G m d k n Q nx L st S M) : xW G m d k n Q pc L (.int y :: st) S M := by
  obtain ⟨off, hd, ht, rfl⟩ := he
  intro l D p e R s mi args below meth c H locs cells slots Z ls E hR hS hl
  exact lv_if_ne E.1 E.2.1 hd ht (fun h => kt h l D p e R s mi args below meth c H locs cells slots Z ls E hR hS hl) (fun h => kf h l D p e R s mi args below meth c H locs cells slots Z ls E hR hS hl)
theorem xs_icmp_ne {y z : Int32} {tgt : Nat} (he : xJ m pc (.if_icmp .ne) tgt nx) (kt : y ≠ z → xW G m d k n Q tgt L st S M) (kf : y = z → xW G m d k n Q nx L st S M) : xW G m d k n Q pc L (.int z :: .int y :: st) S M := by
  obtain ⟨off, hd, ht, rfl⟩ := he
  intro l D p e R s mi args below meth c H locs cells slots Z ls E hR hS hl
  exact lv_icmp_ne E.1 E.2.1 hd ht (fun h => kt h l D p e R s mi args below meth c H locs cells slots Z ls E hR hS hl) (fun h => kf h l D p e R s mi args below meth c H locs cells slots Z ls E hR hS hl)
theorem xs_if_lt {y : Int32} {tgt : Nat} (he : xJ m pc (.ifCond .lt) tgt nx) (kt : y < 0 → xW G m d k n Q tgt L st S M) (kf : ¬ (y < 0) → xW G m d k n Q nx L st S M) : xW G m d k n Q pc L (.int y :: st) S M := by
  obtain ⟨off, hd, ht, rfl⟩ := he
  intro l D p e R s mi args below meth c H locs cells slots Z ls E hR hS hl
  exact lv_if_lt E.1 E.2.1 hd ht (fun h => kt h l D p e R s mi args below meth c H locs cells slots Z ls E hR hS hl) (fun h => kf h l D p e R s mi args below meth c H locs cells slots Z ls E hR hS hl)
theorem xs_icmp_lt {y z : Int32} {tgt : Nat} (he : xJ m pc (.if_icmp .lt) tgt nx) (kt : y < z → xW G m d k n Q tgt L st S M) (kf : ¬ (y < z) → xW G m d k n Q nx L st S M) : xW G m d k n Q pc L (.int z :: .int y :: st) S M := by
  obtain ⟨off, hd, ht, rfl⟩ := he
  intro l D p e R s mi args below meth c H locs cells slots Z ls E hR hS hl
  exact lv_icmp_lt E.1 E.2.1 hd ht (fun h => kt h l D p e R s mi args below meth c H locs cells slots Z ls E hR hS hl) (fun h => kf h l D p e R s mi args below meth c H locs cells slots Z ls E hR hS hl)
theorem xs_if_ge {y : Int32} {tgt : Nat} (he : xJ m pc (.ifCond .ge) tgt nx) (kt : 0 ≤ y → xW G m d k n Q tgt L st S M) (kf : ¬ (0 ≤ y) → xW G m d k n Q nx L st S M) : xW G m d k n Q pc L (.int y :: st) S M := by
  obtain ⟨off, hd, ht, rfl⟩ := he
  intro l D p e R s mi args below meth c H locs cells slots Z ls E hR hS hl
  exact lv_if_ge E.1 E.2.1 hd ht (fun h => kt h l D p e R s mi args below meth c H locs cells slots Z ls E hR hS hl) (fun h => kf h l D p e R s mi args below meth c H locs cells slots Z ls E hR hS hl)
theorem xs_icmp_ge {y z : Int32} {tgt : Nat} (he : xJ m pc (.if_icmp .ge) tgt nx) (kt : z ≤ y → xW G m d k n Q tgt L st S M) (kf : ¬ (z ≤ y) → xW G m d k n Q nx L st S M) : xW G m d k n Q pc L (.int z :: .int y :: st) S M := by
  obtain ⟨off, hd, ht, rfl⟩ := he
  intro l D p e R s mi args below meth c H locs cells slots Z ls E hR hS hl
  exact lv_icmp_ge E.1 E.2.1 hd ht (fun h => kt h l D p e R s mi args below meth c H locs cells slots Z ls E hR hS hl) (fun h => kf h l D p e R s mi args below meth c H locs cells slots Z ls E hR hS hl)
theorem xs_if_gt {y : Int32} {tgt : Nat} (he : xJ m pc (.ifCond .gt) tgt nx) (kt : 0 < y → xW G m d k n Q tgt L st S M) (kf : ¬ (0 < y) → xW G m d k n Q nx L st S M) : xW G m d k n Q pc L (.int y :: st) S M := by
  obtain ⟨off, hd, ht, rfl⟩ := he
  intro l D p e R s mi args below meth c H locs cells slots Z ls E hR hS hl
  exact lv_if_gt E.1 E.2.1 hd ht (fun h => kt h l D p e R s mi args below meth c H locs cells slots Z ls E hR hS hl) (fun h => kf h l D p e R s mi args below meth c H locs cells slots Z ls E hR hS hl)
theorem xs_icmp_gt {y z : Int32} {tgt : Nat} (he : xJ m pc (.if_icmp .gt) tgt nx) (kt : z < y → xW G m d k n Q tgt L st S M) (kf : ¬ (z < y) → xW G m d k n Q nx L st S M) : xW G m d k n Q pc L (.int z :: .int y :: st) S M := by
  obtain ⟨off, hd, ht, rfl⟩ := he
  intro l D p e R s mi args below meth c H locs cells slots Z ls E hR hS hl
  exact lv_icmp_gt E.1 E.2.1 hd ht (fun h => kt h l D p e R s mi args below meth c H locs cells slots Z ls E hR hS hl) (fun h => kf h l D p e R s mi args below meth c H locs cells slots Z ls E hR hS hl)
theorem xs_if_le {y : Int32} {tgt : Nat} (he : xJ m pc (.ifCond .le) tgt nx) (kt : y ≤ 0 → xW G m d k n Q tgt L st S M) (kf : ¬ (y ≤ 0) → xW G m d k n Q nx L st S M) : xW G m d k n Q pc L (.int y :: st) S M := by
  obtain ⟨off, hd, ht, rfl⟩ := he
  intro l D p e R s mi args below meth c H locs cells slots Z ls E hR hS hl
  exact lv_if_le E.1 E.2.1 hd ht (fun h => kt h l D p e R s mi args below meth c H locs cells slots Z ls E hR hS hl) (fun h => kf h l D p e R s mi args below meth c H locs cells slots Z ls E hR hS hl)
theorem xs_icmp_le {y z : Int32} {tgt : Nat} (he : xJ m pc (.if_icmp .le) tgt nx) (kt : y ≤ z → xW G m d k n Q tgt L st S M) (kf : ¬ (y ≤ z) → xW G m d k n Q nx L st S M) : xW G m d k n Q pc L (.int z :: .int y :: st) S M := by
  obtain ⟨off, hd, ht, rfl⟩ := he
  intro l D p e R s mi args below meth c H locs cells slots Z ls E hR hS hl
  exact lv_icmp_le E.1 E.2.1 hd ht (fun h => kt h l D p e R s mi args below meth c H locs cells slots Z ls E hR hS hl) (fun h => kf h l D p e R s mi args below meth c H locs cells slots Z ls E hR hS hl)
theorem xs_goto {tgt : Nat} (he : xJ m pc .goto tgt nx) (kk : xW G m d k n Q tgt L st S M) : xW G m d k n Q pc L st S M := by
  obtain ⟨off, hd, ht, -⟩ := he
  intro l D p e R s mi args below meth c H locs cells slots Z ls E hR hS hl
  exact lv_goto E.1 E.2.1 hd ht (kk l D p e R s mi args below meth c H locs cells slots Z ls E hR hS hl)
/-- tableswitch: the place that a number goes to -/
def xTS (m : xM) (pc : Nat) (lo hi : Int) (f : Int → Nat) (dflt : Nat) : Prop := ∃ (dd : Int) (offs : Array Int) (w : Nat), decode m.2.1 pc = .ok (.tableswitch dd lo hi offs, w) ∧ (pc : Int) + dd = (dflt : Int) ∧ ∀ j : Nat, j < (hi - lo + 1).toNat → offs[j]? = some ((f (lo + j) : Int) - (pc : Int))
theorem xs_tsOut {y : Int32} {lo hi : Int} {f : Int → Nat} {dflt : Nat} (he : xTS m pc lo hi f dflt) (h : y.toInt < lo ∨ hi < y.toInt) (kk : xW G m d k n Q dflt L st S M) : xW G m d k n Q pc L (.int y :: st) S M := by
  obtain ⟨dd, offs, w, hd, h1, -⟩ := he
  intro l D p e R s mi args below meth c H locs cells slots Z ls E hR hS hl
  exact lv_tableOut E.1 E.2.1 hd h h1 (kk l D p e R s mi args below meth c H locs cells slots Z ls E hR hS hl)
theorem xs_tsIn {y : Int32} {lo hi : Int} {f : Int → Nat} {dflt tgt : Nat} (he : xTS m pc lo hi f dflt) (v : Int) (hv : y.toInt = v) (h1 : lo ≤ v) (h2 : v ≤ hi) (ht : f v = tgt) (kk : xW G m d k n Q tgt L st S M) : xW G m d k n Q pc L (.int y :: st) S M := by
  subst hv
  subst ht
  obtain ⟨dd, offs, w, hd, -, h4⟩ := he
  have ho1 := h4 (y.toInt - lo).toNat (by omega)
  have e9 : lo + ((y.toInt - lo).toNat : Int) = y.toInt := by omega
  rw [e9] at ho1
  intro l D p e R s mi args below meth c H locs cells slots Z ls E hR hS hl
  exact lv_tableIn E.1 E.2.1 hd (by omega) (by omega) ho1 (by omega) (kk l D p e R s mi args below meth c H locs cells slots Z ls E hR hS hl)
theorem xs_iret {y : Int32} (he : xD m pc .ireturn 1 nx) {ty : FieldType} (hty : m.2.2.2 = some ty) (hn : narrow ty (.int y) = .int y) (h : Q (some (.int y)) S M) : xW G m d k n Q pc L [.int y] S M := by
  intro l D p e R s mi args below meth c H locs cells slots Z ls E hR hS hl
  exact E.2.2.2.2.2.2.2.2 H locs cells slots ls (some (.int y)) S M pc hR hS (by have := E.2.2.2.2.2.2.2.1; omega) (by have := E.2.2.2.2.2.2.2.1; omega) h ⟨he.1, ty, hty, hn⟩
theorem xs_vret (he : xD m pc .return_ 1 nx) (hty : m.2.2.2 = none) (h : Q none S M) : xW G m d k n Q pc L [] S M := by
  intro l D p e R s mi args below meth c H locs cells slots Z ls E hR hS hl
  exact E.2.2.2.2.2.2.2.2 H locs cells slots ls none S M pc hR hS (by have := E.2.2.2.2.2.2.2.1; omega) (by have := E.2.2.2.2.2.2.2.1; omega) h ⟨he.1, hty⟩
end XR

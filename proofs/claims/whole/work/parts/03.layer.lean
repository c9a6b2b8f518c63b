/-! THE LAYER: a state is a list S of shapes (what is static of each cell of ours) and a table M of ints; a cell c lies at the address B + c. xW: the machine walks on from a place of a method; xC: a method's contract. -/
abbrev xSh : Type := (FieldType × Nat) ⊕ ((Nat × List (Option (Option Nat))) ⊕ (FieldType × List (Option Nat)))
abbrev xMem : Type := Nat → Nat → Int32
/-- B, the script's cell, its length, its ints, the String constant's cells -/
abbrev xGl : Type := Nat × Nat × Nat × (Nat → Int32) × (Nat → Nat) × (Nat → Nat)
def xT : List Cond := lw_tbl.filter goodWord
def xisN : Cond → Bool
  | .fieldLinkNest .. => true
  | .methodLinkNest .. => true
  | _ => false
def xNest : List Cond := lw_tbl.filter xisN
theorem xT_good {w : Cond} (h : w ∈ xT) : goodWord w = true := (List.mem_filter.mp h).2
theorem xT_in {w : Cond} (i : Nat) (h : lw_tbl[i]? = some w) (hg : goodWord w = true) : w ∈ xT := List.mem_filter.mpr ⟨List.mem_of_getElem? h, hg⟩
theorem xN_in {w : Cond} (i : Nat) (h : lw_tbl[i]? = some w) (hg : xisN w = true) : w ∈ xNest := List.mem_filter.mpr ⟨List.mem_of_getElem? h, hg⟩
theorem xtb_0 {w : Cond} (h : w ∈ k2_sels lw_privs) : w ∈ lw_tbl := List.mem_append_left _ h
theorem xtb_1 {w : Cond} (h : w ∈ tables_1_1) : w ∈ lw_tbl := List.mem_append_right _ (List.mem_append_left _ h)
theorem xtb_2 {w : Cond} (h : w ∈ tables_1_2) : w ∈ lw_tbl := List.mem_append_right _ (List.mem_append_right _ (List.mem_append_left _ h))
theorem xtb_3 {w : Cond} (h : w ∈ tables_1_3) : w ∈ lw_tbl := List.mem_append_right _ (List.mem_append_right _ (List.mem_append_right _ (List.mem_append_left _ h)))
theorem xtb_4 {w : Cond} (h : w ∈ tables_1_4) : w ∈ lw_tbl := List.mem_append_right _ (List.mem_append_right _ (List.mem_append_right _ (List.mem_append_right _ (List.mem_append_left _ h))))
theorem xtb_5 {w : Cond} (h : w ∈ tables_1_5) : w ∈ lw_tbl := List.mem_append_right _ (List.mem_append_right _ (List.mem_append_right _ (List.mem_append_right _ (List.mem_append_right _ h))))
theorem xT_0 {w : Cond} (i : Nat) (h : (k2_sels lw_privs)[i]? = some w) (hg : goodWord w = true) : w ∈ xT := List.mem_filter.mpr ⟨xtb_0 (List.mem_of_getElem? h), hg⟩
theorem xN_0 {w : Cond} (i : Nat) (h : (k2_sels lw_privs)[i]? = some w) (hg : xisN w = true) : w ∈ xNest := List.mem_filter.mpr ⟨xtb_0 (List.mem_of_getElem? h), hg⟩
theorem xT_1 {w : Cond} (i : Nat) (h : (tables_1_1)[i]? = some w) (hg : goodWord w = true) : w ∈ xT := List.mem_filter.mpr ⟨xtb_1 (List.mem_of_getElem? h), hg⟩
theorem xN_1 {w : Cond} (i : Nat) (h : (tables_1_1)[i]? = some w) (hg : xisN w = true) : w ∈ xNest := List.mem_filter.mpr ⟨xtb_1 (List.mem_of_getElem? h), hg⟩
theorem xT_2 {w : Cond} (i : Nat) (h : (tables_1_2)[i]? = some w) (hg : goodWord w = true) : w ∈ xT := List.mem_filter.mpr ⟨xtb_2 (List.mem_of_getElem? h), hg⟩
theorem xN_2 {w : Cond} (i : Nat) (h : (tables_1_2)[i]? = some w) (hg : xisN w = true) : w ∈ xNest := List.mem_filter.mpr ⟨xtb_2 (List.mem_of_getElem? h), hg⟩
theorem xT_3 {w : Cond} (i : Nat) (h : (tables_1_3)[i]? = some w) (hg : goodWord w = true) : w ∈ xT := List.mem_filter.mpr ⟨xtb_3 (List.mem_of_getElem? h), hg⟩
theorem xN_3 {w : Cond} (i : Nat) (h : (tables_1_3)[i]? = some w) (hg : xisN w = true) : w ∈ xNest := List.mem_filter.mpr ⟨xtb_3 (List.mem_of_getElem? h), hg⟩
theorem xT_4 {w : Cond} (i : Nat) (h : (tables_1_4)[i]? = some w) (hg : goodWord w = true) : w ∈ xT := List.mem_filter.mpr ⟨xtb_4 (List.mem_of_getElem? h), hg⟩
theorem xN_4 {w : Cond} (i : Nat) (h : (tables_1_4)[i]? = some w) (hg : xisN w = true) : w ∈ xNest := List.mem_filter.mpr ⟨xtb_4 (List.mem_of_getElem? h), hg⟩
theorem xT_5 {w : Cond} (i : Nat) (h : (tables_1_5)[i]? = some w) (hg : goodWord w = true) : w ∈ xT := List.mem_filter.mpr ⟨xtb_5 (List.mem_of_getElem? h), hg⟩
theorem xN_5 {w : Cond} (i : Nat) (h : (tables_1_5)[i]? = some w) (hg : xisN w = true) : w ∈ xNest := List.mem_filter.mpr ⟨xtb_5 (List.mem_of_getElem? h), hg⟩
theorem xGood : GoodIn xT xT := fun _ h => ⟨h, good_of_word (xT_good h)⟩
def xws (m : xM) : List Cond := .code m.1 m.2.1 m.2.2.1 m.2.2.2 :: xT
theorem xGoodM {m : xM} (h : Cond.code m.1 m.2.1 m.2.2.1 m.2.2.2 ∈ xT) : GoodIn xT (xws m) := fun w hw => (List.mem_cons.mp hw).elim (fun e => by rw [e]; exact xGood _ h) (fun h => xGood _ h)
def xval (B : Nat) (M : xMem) (c k : Nat) (o : Option (Option Nat)) : Value := match o with
  | none => .int (M c k)
  | some r => va_rf (r.map (fun j => B + j))
def xCell (D : va_G) (s : State) (B : Nat) (M : xMem) (c : Nat) (sh : xSh) (H : Heap) : Prop := match sh with
  | .inl (ty, n) => ∃ cA : ClassId, ArrOfT s cA ty ∧ H[B + c]? = some (arrV cA n (fun j => .int (M c j)))
  | .inr (.inl (ci, fs)) => ∃ r : vw_C, vwCl[ci]? = some r ∧ t_OB (B + c) (D.1 ci) r.2.2 (D.2 ci) H (fun k => xval B M c k (fs.getD k none))
  | .inr (.inr (ty, rs)) => ∃ cA : ClassId, ArrOfT s cA ty ∧ va_RA s cA ty ∧ H[B + c]? = some (arrV cA rs.length (fun j => va_rf ((rs.getD j none).map (fun i => B + i))))
def xRep (D : va_G) (B : Nat) (S : List xSh) (M : xMem) (s : State) (H : Heap) : Prop := H.size = B + S.length ∧ ∀ (c : Nat) (sh : xSh), S[c]? = some sh → xCell D s B M c sh H
theorem xCell.moved {D : va_G} {u U : State} {B : Nat} {M : xMem} {c : Nat} {sh : xSh} {H : Heap} (hvm : u.vm.Alike U.vm) (h : xCell D u B M c sh H) : xCell D U B M c sh H := by
  rcases sh with ⟨ty, n⟩ | ⟨ci, fs⟩ | ⟨ty, rs⟩
  · obtain ⟨cA, h1, h2⟩ := h
    exact ⟨cA, arrOfT_moved hvm h1, h2⟩
  · exact h
  · obtain ⟨cA, h1, h2, h3⟩ := h
    exact ⟨cA, arrOfT_moved hvm h1, h2.moved hvm, h3⟩
theorem xCell.kept {D : va_G} {s : State} {B : Nat} {M : xMem} {c : Nat} {sh : xSh} {H H1 : Heap} (hq : H1[B + c]? = H[B + c]?) (h : xCell D s B M c sh H) : xCell D s B M c sh H1 := by
  rcases sh with ⟨ty, n⟩ | ⟨ci, fs⟩ | ⟨ty, rs⟩
  · obtain ⟨cA, h1, h2⟩ := h
    exact ⟨cA, h1, hq.trans h2⟩
  · obtain ⟨r, h1, h2⟩ := h
    exact ⟨r, h1, h2.kept hq⟩
  · obtain ⟨cA, h1, h2, h3⟩ := h
    exact ⟨cA, h1, h2, hq.trans h3⟩
theorem xCell.mem {D : va_G} {s : State} {B : Nat} {M M1 : xMem} {c : Nat} {sh : xSh} {H : Heap} (hM : M1 c = M c) (h : xCell D s B M c sh H) : xCell D s B M1 c sh H := by
  rcases sh with ⟨ty, n⟩ | ⟨ci, fs⟩ | ⟨ty, rs⟩
  · obtain ⟨cA, h1, h2⟩ := h
    exact ⟨cA, h1, by rw [hM]; exact h2⟩
  · obtain ⟨r, h1, h2⟩ := h
    refine ⟨r, h1, ?_⟩
    have e : (fun k => xval B M1 c k (fs.getD k none)) = (fun k => xval B M c k (fs.getD k none)) := by
      funext k
      cases fs.getD k none <;> simp [xval, hM]
    rw [e]
    exact h2
  · exact h
theorem xRep.moved {D : va_G} {B : Nat} {S : List xSh} {M : xMem} {u U : State} {H : Heap} (hvm : u.vm.Alike U.vm) (h : xRep D B S M u H) : xRep D B S M U H := ⟨h.1, fun c sh hc => (h.2 c sh hc).moved hvm⟩
theorem xRep.lt {D : va_G} {B : Nat} {S : List xSh} {M : xMem} {s : State} {H : Heap} (h : xRep D B S M s H) {c : Nat} {sh : xSh} (hc : S[c]? = some sh) : B + c < H.size := by
  have := (List.getElem?_eq_some_iff.mp hc).1
  rw [h.1]; omega
/-- one cell changes: its shape, its row -/
theorem xRep.set {D : va_G} {B : Nat} {S : List xSh} {M M1 : xMem} {s : State} {H H1 : Heap} (h : xRep D B S M s H) {c : Nat} {sh sh1 : xSh} (hc : S[c]? = some sh) (hz : H1.size = H.size) (hq : ∀ q, q ≠ B + c → H1[q]? = H[q]?) (hM : ∀ a, a ≠ c → M1 a = M a) (hn : xCell D s B M1 c sh1 H1) : xRep D B (S.set c sh1) M1 s H1 := by
  refine ⟨by rw [hz, h.1, List.length_set], fun a sh2 ha => ?_⟩
  by_cases e : a = c
  · subst e
    rw [List.getElem?_set_self (List.getElem?_eq_some_iff.mp hc).1] at ha
    cases ha
    exact hn
  · rw [List.getElem?_set_ne (Ne.symm e)] at ha
    exact ((h.2 a sh2 ha).mem (hM a e)).kept (hq _ (by omega))
theorem xRep.setM {D : va_G} {B : Nat} {S : List xSh} {M M1 : xMem} {s : State} {H H1 : Heap} (h : xRep D B S M s H) {c : Nat} {sh : xSh} (hc : S[c]? = some sh) (hz : H1.size = H.size) (hq : ∀ q, q ≠ B + c → H1[q]? = H[q]?) (hM : ∀ a, a ≠ c → M1 a = M a) (hn : xCell D s B M1 c sh H1) : xRep D B S M1 s H1 := by
  have h9 := h.set hc hz hq hM hn
  have e : S.set c sh = S := by
    apply List.ext_getElem?
    intro i
    by_cases q : i = c
    · subst q
      rw [List.getElem?_set_self (List.getElem?_eq_some_iff.mp hc).1, hc]
    · rw [List.getElem?_set_ne (Ne.symm q)]
  rwa [e] at h9
theorem xRep.push {D : va_G} {B : Nat} {S : List xSh} {M M1 : xMem} {s : State} {H H1 : Heap} (h : xRep D B S M s H) {sh : xSh} (hz : H1.size = H.size + 1) (hq : ∀ q, q < H.size → H1[q]? = H[q]?) (hM : ∀ a, a < S.length → M1 a = M a) (hn : xCell D s B M1 S.length sh H1) : xRep D B (S ++ [sh]) M1 s H1 := by
  refine ⟨by rw [hz, h.1, List.length_append]; rfl, fun a sh2 ha => ?_⟩
  by_cases e : a < S.length
  · rw [List.getElem?_append_left e] at ha
    exact ((h.2 a sh2 ha).mem (hM a e)).kept (hq _ (h.lt ha))
  · rw [List.getElem?_append_right (by omega)] at ha
    have h0 : a - S.length < 1 := (List.getElem?_eq_some_iff.mp ha).1
    have e2 : a = S.length := by omega
    subst e2
    simp at ha
    subst ha
    exact hn
def xAO2 (U : State) : Prop := (Cond.arrayOver (.array .int)).before #[] U = true
theorem xAO2.moved {u U : State} (hvm : u.vm.Alike U.vm) (h : xAO2 u) : xAO2 U := over_moved hvm h
/-- the constant text of the class, and what the JDK's own methods over it read -/
def xtx : String := "v0,12;v1,20;v2,9;v3,15;v4,18;v1,7;w0,1,2;w1,2,3;w2,3,1;w3,4,2;w4,5,4;w0,5,6;w1,4,3;p0;p3;"
def xbl : List Nat := [118, 48, 44, 49, 50, 59, 118, 49, 44, 50, 48, 59, 118, 50, 44, 57, 59, 118, 51, 44, 49, 53, 59, 118, 52, 44, 49, 56, 59, 118, 49, 44, 55, 59, 119, 48, 44, 49, 44, 50, 59, 119, 49, 44, 50, 44, 51, 59, 119, 50, 44, 51, 44, 49, 59, 119, 51, 44, 52, 44, 50, 59, 119, 52, 44, 53, 44, 52, 59, 119, 48, 44, 53, 44, 54, 59, 119, 49, 44, 52, 44, 51, 59, 112, 48, 59, 112, 51, 59]
def xby : List Int32 := [118, 48, 44, 49, 50, 59, 118, 49, 44, 50, 48, 59, 118, 50, 44, 57, 59, 118, 51, 44, 49, 53, 59, 118, 52, 44, 49, 56, 59, 118, 49, 44, 55, 59, 119, 48, 44, 49, 44, 50, 59, 119, 49, 44, 50, 44, 51, 59, 119, 50, 44, 51, 44, 49, 59, 119, 51, 44, 52, 44, 50, 59, 119, 52, 44, 53, 44, 52, 59, 119, 48, 44, 53, 44, 54, 59, 119, 49, 44, 52, 44, 51, 59, 112, 48, 59, 112, 51, 59]
def xStr (G : xGl) (U : State) (H : Heap) : Prop := vk_S 1 [89] [xby] G.2.2.2.2.1 G.2.2.2.2.2 (fun q => G.1 ≤ q) U H ∧ vk_R RX9 85 xtx (G.2.2.2.2.1 0) U ∧ va_Z "java/lang/String" "COMPACT_STRINGS" "Z" (.int 1) (fun q => G.1 ≤ q) U H ∧ va_Zq "jdk/internal/util/Preconditions" "SIOOBE_FORMATTER" "Ljava/util/function/BiFunction;" (fun q => G.1 ≤ q) U H
def xCtx (G : xGl) (D : va_G) (U : State) : Prop :=
  G.1 ≤ U.heap.size ∧ va_K D vwCl [] U ∧ (∀ w ∈ xNest, va_Nw w U) ∧ (va_X G.2.1 G.2.2.1 G.2.2.2.1 U U.heap ∧ G.2.1 < G.1) ∧ (va_AO "NotAnOx$Book" U ∧ xAO2 U) ∧ xStr G U U.heap
theorem xNw_warm {w : Cond} (hw : xisN w = true) {s U : State} (hW : s.WarmedH U.vm) (h : va_Nw w s) : va_Nw w U := by
  cases w <;> first | exact va_Nw.warmF hW h | exact va_Nw.warmM hW h | (simp [xisN] at hw)
theorem xCtx.move {G : xGl} {D : va_G} {s U : State} (hW : s.WarmedH U.vm) (hz : s.heap.size ≤ U.heap.size) (hF : ∀ q, q < s.heap.size → ¬ G.1 ≤ q → U.heap[q]? = s.heap[q]?) (h : xCtx G D s) : xCtx G D U := by
  obtain ⟨h1, h2, h3, ⟨h4, h4b⟩, ⟨h5, h5b⟩, h6, h7, h8, h9⟩ := h
  have hbl : G.2.1 < s.heap.size := by omega
  refine ⟨by omega, va_K.moved hW.alike h2, fun w hw => xNw_warm (List.mem_filter.mp hw).2 hW (h3 w hw), ⟨va_X.moved hW.alike (h4.kept (hF _ hbl (by omega))), h4b⟩, ⟨va_AO.moved hW.alike h5, xAO2.moved hW.alike h5b⟩, vk_S.moved hW.alike (h6.kept hF), h7.warm hW, va_Z.moved hW.alike (h8.kept hF), va_Zq.moved hW.alike (h9.kept hF)⟩
theorem xCtx.calling {G : xGl} {D : va_G} {U : State} (g : JFrame) (mk : MethodId) (a : Array Value) (h : xCtx G D U) : xCtx G D (U.calling g mk a) := by
  obtain ⟨h1, h2, h3, ⟨h4, h4b⟩, ⟨h5, h5b⟩, h6, h7, h8, h9⟩ := h
  have hv : (U.calling g mk a).vm = U.vm := rfl
  have hA : U.vm.Alike (U.calling g mk a).vm := Vm.Alike.refl U.vm
  exact ⟨h1, va_K.moved hA h2, fun w hw => by
    have h := h3 w hw
    have hw2 := (List.mem_filter.mp hw).2
    cases w <;> first | exact va_Nw.same rfl hv.symm h | (simp [xisN] at hw2), ⟨va_X.moved hA h4, h4b⟩, ⟨va_AO.moved hA h5, xAO2.moved hA h5b⟩, vk_S.moved hA h6, h7.same hv, va_Z.moved hA h8, va_Zq.moved hA h9⟩
def xPre (G : xGl) (D : va_G) (S : List xSh) (M : xMem) (as : List Value) : Array Value → State → Prop := fun v U => v = as.toArray ∧ xCtx G D U ∧ xRep D G.1 S M U U.heap
def xPost (G : xGl) (D : va_G) (Q : Option Value → List xSh → xMem → Prop) : Array Value → State → Outcome → State → Prop := fun _ st o t => ∃ (v : Option Value) (S : List xSh) (M : xMem), o = .returned v ∧ xRep D G.1 S M t t.heap ∧ Q v S M ∧ va_F (fun q => G.1 ≤ q) st t
def xroom (d k n : Nat) : Room := { frames := d, cells := k, slots := n, locals := 60 * d }
/-- a method's contract -/
def xC (G : xGl) (m : xM) (d k n : Nat) (as : List Value) (S : List xSh) (M : xMem) (Q : Option Value → List xSh → xMem → Prop) : Prop :=
  ∀ (l : Launch) (D : va_G), Met l m.1 (xws m) (xroom d k n) (xPre G D S M as) (xPost G D Q) k n (fun q => G.1 ≤ q)
theorem xPre.blind {G : xGl} {D : va_G} {S : List xSh} {M : xMem} {as : List Value} : FrameBlind (xPre G D S M as) := fun a U g mk h => ⟨h.1, h.2.1.calling g mk a, xRep.moved (u := U) (U := U.calling g mk a) (Vm.Alike.refl U.vm) h.2.2⟩
/-- where a return stands, and that the answer is of its kind -/
def xRet (m : xM) (pc : Nat) (v : Option Value) : Prop := match v with
  | none => decode m.2.1 pc = .ok (.return_, 1) ∧ m.2.2.2 = none
  | some (.int y) => decode m.2.1 pc = .ok (.ireturn, 1) ∧ ∃ ty, m.2.2.2 = some ty ∧ narrow ty (.int y) = .int y
  | _ => False
def xEnd (G : xGl) (m : xM) (D : va_G) (Q : Option Value → List xSh → xMem → Prop) (p : Program) (l : Launch) (e : Env) (R : Room) (s : State) (mi : MethodId) (args : Array Value) (below : List Frame) (meth : Method) (c : Code) (Z : State → Prop) : Prop :=
  ∀ (H : Heap) (locs : List Loc) (cells slots : Nat) (ls : Array Slot) (v : Option Value) (S : List xSh) (M : xMem) (pc : Nat), xRep D G.1 S M s H → va_S (fun q => G.1 ≤ q) s.heap H locs → cells ≤ R.cells → slots ≤ R.slots → Q v S M → xRet m pc v → W p l e R s mi args below meth c H locs cells slots Z (F0 mi pc ls v.toList)
def xE (G : xGl) (m : xM) (d k n : Nat) (Q : Option Value → List xSh → xMem → Prop) (l : Launch) (D : va_G) (p : Program) (e : Env) (R : Room) (s : State) (mi : MethodId) (args : Array Value) (below : List Frame) (meth : Method) (c : Code) (cells slots : Nat) (Z : State → Prop) : Prop :=
  p.tables.exec = Jvm.exec ∧ c.code = m.2.1 ∧ c.maxLocals = m.2.2.1 ∧ s.vm.findClass m.1.cls = some mi.cls ∧ (∀ w ∈ xT, w.before args s = true) ∧ meth.name = m.1.name ∧ xCtx G D s ∧ (d ≤ R.frames ∧ 60 * d ≤ R.locals ∧ cells + k ≤ R.cells ∧ slots + n ≤ R.slots) ∧ xEnd G m D Q p l e R s mi args below meth c Z
def xLoc (ls : Array Slot) (nL : Nat) (L : List (Option Value)) : Prop := ls.size = nL ∧ L.length = nL ∧ lv_wf ls ∧ ∀ (i : Nat) (v : Value), L[i]? = some (some v) → ls[i]? = some (.val v)
/-- the walk from a place of a method -/
def xW (G : xGl) (m : xM) (d k n : Nat) (Q : Option Value → List xSh → xMem → Prop) (pc : Nat) (L : List (Option Value)) (st : List Value) (S : List xSh) (M : xMem) : Prop :=
  ∀ (l : Launch) (D : va_G) (p : Program) (e : Env) (R : Room) (s : State) (mi : MethodId) (args : Array Value) (below : List Frame) (meth : Method) (c : Code) (H : Heap) (locs : List Loc) (cells slots : Nat) (Z : State → Prop) (ls : Array Slot),
    xE G m d k n Q l D p e R s mi args below meth c cells slots Z → xRep D G.1 S M s H → va_S (fun q => G.1 ≤ q) s.heap H locs → xLoc ls m.2.2.1 L → W p l e R s mi args below meth c H locs cells slots Z (F0 mi pc ls st)
def xargs (n : Nat) (as : List Value) : List (Option Value) := (List.range n).map (fun i => ((lv_args 0 as).find? (fun q => q.1 == i)).map (·.2))
theorem xargs_loc {as : List Value} {n : Nat} (h : (lg_sl as).length ≤ n) : xLoc ((lg_sl as ++ List.replicate (n - (lg_sl as).length) Slot.unset).toArray) n (xargs n as) := by
  obtain ⟨h1, h2, h3⟩ := lv_entry as h
  refine ⟨h1, by simp [xargs], h2, fun i v hi => ?_⟩
  unfold xargs at hi
  rw [List.getElem?_map] at hi
  by_cases hn : i < n
  · rw [List.getElem?_range hn] at hi
    simp only [Option.map_some, Option.some.injEq, Option.map_eq_some_iff] at hi
    obtain ⟨q, hq, rfl⟩ := hi
    have hm := List.mem_of_find?_eq_some hq
    have he := List.find?_some hq
    have he : q.1 = i := by simpa using he
    rw [← he]
    exact h3 q hm
  · have : (List.range n)[i]? = none := List.getElem?_eq_none (by rw [List.length_range]; omega)
    rw [this] at hi
    cases hi
theorem xC_intro {G : xGl} {m : xM} {d k n : Nat} {as : List Value} {S : List xSh} {M : xMem} {Q : Option Value → List xSh → xMem → Prop} (L : List (Option Value)) (hL : xargs m.2.2.1 as = L) (hp : plainName m.1.cls = true) (hn : (lg_sl as).length ≤ m.2.2.1)
    (h : xW G m d k n Q 0 L [] S M) : xC G m d k n as S M Q := by
  intro l D
  subst hL
  refine Met.ofW (cc := m.2.1) (maxL := m.2.2.1) (ret := m.2.2.2) hp rfl ?_
  intro p e s mi args below meth c s₁ B hml hv
  obtain ⟨rfl, hctx, hrep⟩ := hv
  have hts := atoms_spec (ws := xws m) B.pre
  rw [lg_entry_eq]
  have hlocks := B.notSynchronized
  have hr := B.returns
  refine h l D p e (xroom d k n) s mi _ below meth c s.heap [] 0 0 _ _ ⟨B.exec, B.bytes, hml, findClass_of_methodNamed B.named, fun w hw => hts w (List.mem_cons_of_mem _ hw), (name_of_methodNamed B.named B.method).1, hctx, ⟨Nat.le_refl _, Nat.le_refl _, by simp [xroom], by simp [xroom]⟩, ?_⟩ hrep va_S.rf (xargs_loc hn)
  intro H locs cells slots ls v S' M' pc hR hS hc hs hQ hret
  refine W.widen (k := k) (n := n) hc hs ?_
  match v, hret with
  | none, hret =>
    exact W.vret B.exec B.bytes (hr.trans hret.2) (fun t ht hW => ⟨none, S', M', rfl, by rw [ht]; exact hR.moved hW.alike, hQ, hS.F ht⟩) hS.2.2 hret.1
  | some (.int y), hret =>
    obtain ⟨hd, ty, hty, hnar⟩ := hret
    exact W.zret B.exec B.bytes (hr.trans hty) hnar (fun t ht hW => ⟨some (.int y), S', M', rfl, by rw [ht]; exact hR.moved hW.alike, hQ, hS.F ht⟩) hS.2.2 hd

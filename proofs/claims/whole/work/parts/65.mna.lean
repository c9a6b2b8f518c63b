/-! A TABLE OF TWO DIMENSIONS (multianewarray), over the machine's own words: its rows are made one behind the other. Nothing here rests on Shelf42. -/
/-- the outer row of N places at h, of which the first i are put -/
def xmA (a : ClassId) (h N i : Nat) : Cell := arrV a N (fun j => va_rf (if j < i then some (h + 1 + j) else none))
/-- the machine behind i of the rows -/
def xmT (T : State) (a b : ClassId) (N K : Nat) : Nat → State
  | 0 => T.pushCell (xmA a T.heap.size N 0)
  | i + 1 => ((xmT T a b N K i).pushCell (arrV b K (fun _ => .int 0))).setCell T.heap.size (xmA a T.heap.size N (i + 1))
theorem xmA_0 (a : ClassId) (h N : Nat) : ({ cls := a, slots := Array.replicate N .null, vm := .none } : Cell) = xmA a h N 0 := by
  rw [arrV_new]
  refine congrArg (arrV a N) (funext fun j => ?_)
  simp [va_rf]
theorem xmA_s (a : ClassId) (h N i : Nat) : (xmA a h N i).setSlot i (.ref (h + 1 + i)) = xmA a h N (i + 1) := by
  unfold xmA
  rw [arrV_store]
  refine congrArg (arrV a N) (funext fun j => ?_)
  by_cases e : j = i
  · subst e
    simp [updV, va_rf]
  · have e1 : (j < i + 1) = (j < i) := propext (by omega)
    simp only [updV, if_neg e, e1]
theorem xmT_f (T : State) (a b : ClassId) (N K : Nat) : ∀ i : Nat, ((xmT T a b N K i).vm = T.vm ∧ (xmT T a b N K i).slotsUsed = T.slotsUsed + N + i * K ∧ (xmT T a b N K i).heap.size = T.heap.size + 1 + i) ∧ (xmT T a b N K i).heap[T.heap.size]? = some (xmA a T.heap.size N i) ∧ (∀ x : Nat, x < T.heap.size → (xmT T a b N K i).heap[x]? = T.heap[x]?) ∧ ∀ j : Nat, j < i → (xmT T a b N K i).heap[T.heap.size + 1 + j]? = some (arrV b K (fun _ => .int 0))
  | 0 => ⟨⟨rfl, by simp [xmT, xmA, arrV_size], by simp [xmT]⟩, State.heap_pushCell_size _ _, fun x hx => State.heap_pushCell_of_lt _ _ hx, fun j h => absurd h (Nat.not_lt_zero _)⟩
  | i + 1 => by
    obtain ⟨⟨v, u, z⟩, o, old, inn⟩ := xmT_f T a b N K i
    have e : xmT T a b N K (i + 1) = ((xmT T a b N K i).pushCell (arrV b K (fun _ => .int 0))).setCell T.heap.size (xmA a T.heap.size N (i + 1)) := rfl
    rw [e]
    generalize xmT T a b N K i = U at v u z o old inn
    have hp : ∀ x : Nat, x < U.heap.size → (U.pushCell (arrV b K (fun _ => .int 0))).heap[x]? = U.heap[x]? := fun x hx => State.heap_pushCell_of_lt _ _ hx
    refine ⟨⟨v, ?_, ?_⟩, State.heap_setCell_self ((hp _ (by omega)).trans o), fun x hx => ?_, fun j hj => ?_⟩
    · show U.slotsUsed + (arrV b K (fun _ => Value.int 0)).slots.size = _
      rw [arrV_size, u, Nat.add_mul, Nat.one_mul]
      omega
    · rw [size_setCell]
      show (U.heap.push _).size = _
      rw [Array.size_push, z]
      omega
    · rw [State.heap_setCell_other (Nat.ne_of_gt hx), hp x (by omega)]
      exact old x hx
    · rw [State.heap_setCell_other (show T.heap.size ≠ T.heap.size + 1 + j by omega)]
      by_cases h : j < i
      · rw [hp _ (by omega)]
        exact inn j h
      · obtain rfl : j = i := by omega
        rw [← z]
        exact State.heap_pushCell_size _ _
theorem xmT_t (T : State) (f : JFrame) (a b : ClassId) (N K : Nat) : ∀ i : Nat, xmT (T.setTop f) a b N K i = (xmT T a b N K i).setTop f
  | 0 => rfl
  | i + 1 => by
    show ((xmT (T.setTop f) a b N K i).pushCell _).setCell _ _ = _
    rw [xmT_t T f a b N K i]
    rfl
section XMS
variable {p : Program} {l : Launch} {e : Env} {R : Room} {s : State} {m : MethodId} {args : Array Value} {below : List Frame} {meth : Method} {c : Code} {T : State} {locs : List Loc} {cells slots : Nat}
theorem xmT_S (X : Stand p l e R s m args below meth c T locs cells slots) (a b : ClassId) (N K : Nat) : ∀ i : Nat, Stand p l e R s m args below meth c (xmT T a b N K i) locs (cells + 1 + i) (slots + N + i * K)
  | 0 => by
    have h := X.pushed (xmA a T.heap.size N 0)
    rw [show (xmA a T.heap.size N 0).slots.size = N from arrV_size _ _ _] at h
    rw [Nat.zero_mul]
    exact h
  | i + 1 => by
    have h := xmT_S X a b N K i
    obtain ⟨⟨-, -, z⟩, o, -, -⟩ := xmT_f T a b N K i
    have h1 := h.pushed (arrV b K (fun _ => .int 0))
    rw [arrV_size] at h1
    have o1 : ((xmT T a b N K i).pushCell (arrV b K (fun _ => .int 0))).heap[T.heap.size]? = some (xmA a T.heap.size N i) := (State.heap_pushCell_of_lt _ _ (show T.heap.size < (xmT T a b N K i).heap.size by rw [z]; omega)).trans o
    have h2 := (h1.stored o1 i (.ref (T.heap.size + 1 + i))).dropFresh (fun x hx => by cases List.mem_singleton.mp hx; exact X.heapGrown)
    rw [xmA_s] at h2
    rw [show slots + N + (i + 1) * K = slots + N + i * K + K by rw [Nat.add_mul, Nat.one_mul]; omega]
    exact h2
end XMS
section XMW
variable {E : CtlPost} {e : Env}
/-- a loop over the numbers i, i + 1 .. along a row F of states -/
theorem xm_for {f : Nat → PUnit → Sem (ForInStep PUnit)} {F : Nat → State} {N : Nat} (hf : ∀ i : Nat, i < N → ∀ (Q : ForInStep PUnit → Pre) (d : Bool) (acts : List Action), (∀ (d : Bool) (acts : List Action), Q (.yield PUnit.unit) d acts (F (i + 1))) → wp (f i PUnit.unit) Q E e d acts (F i)) {Q : PUnit → Pre} (hq : ∀ (d : Bool) (acts : List Action), Q PUnit.unit d acts (F N)) : ∀ (r i : Nat) (d : Bool) (acts : List Action), i + r = N → wp (forIn (List.range' i r) PUnit.unit f) Q E e d acts (F i)
  | 0, i, d, acts, h => by
    obtain rfl : i = N := h
    simp only [List.range'_zero, List.forIn_nil, wp_pure']
    exact hq _ _
  | r + 1, i, d, acts, h => by
    simp only [List.range'_succ, List.forIn_cons, wp_bind']
    exact hf i (by omega) _ d acts (fun d acts => xm_for hf hq r (i + 1) d acts (by omega))
theorem xm_row {d : Bool} {acts : List Action} {U : State} {b b0 : ClassId} {kb : Class} {k : Int32} (hb : U.vm.classes[b]? = some kb) (tb : kb.kind = .array b0 .int) (k0 : ¬ k < 0) (p3 : ¬ k.toNatClampNeg > e.platform.arrayLengthLimit) (p4 : ¬ k.toNatClampNeg * componentBytes .int > e.platform.maxHeapBytes) (hc : U.heap.size + 1 ≤ e.platform.maxCells) (hs : U.slotsUsed + k.toNatClampNeg ≤ e.platform.maxSlots) {Q : Addr → Pre} (hq : ∀ acts, Q U.heap.size d acts (U.pushCell (arrV b k.toNatClampNeg (fun _ => .int 0)))) : wp (multianewarray.make b [k]) Q E e d acts U := by
  rw [multianewarray.make]
  simp only [wp_bind', Jvm.W.ite, k0, if_false, wp_pure', Jvm.W.theClass, hb, tb, Option.some.injEq, exists_eq_left']
  refine Jvm.W.newArray_of hb tb p3 p4 (by omega) hs rfl (fun acts => ?_)
  have h := hq acts
  rw [← arrV_new] at h
  exact h
theorem xm_make {d : Bool} {acts : List Action} {U : State} {a b b0 : ClassId} {ka kb : Class} {n k : Int32} (ha : U.vm.classes[a]? = some ka) (ta : ka.kind = .array b (.array .int)) (hb : U.vm.classes[b]? = some kb) (tb : kb.kind = .array b0 .int) (n0 : ¬ n < 0) (k0 : ¬ k < 0) (p1 : ¬ n.toNatClampNeg > e.platform.arrayLengthLimit) (p2 : ¬ n.toNatClampNeg * componentBytes (.array .int) > e.platform.maxHeapBytes) (p3 : ¬ k.toNatClampNeg > e.platform.arrayLengthLimit) (p4 : ¬ k.toNatClampNeg * componentBytes .int > e.platform.maxHeapBytes) (hc : U.heap.size + (1 + n.toNatClampNeg) ≤ e.platform.maxCells) (hs : U.slotsUsed + (n.toNatClampNeg + n.toNatClampNeg * k.toNatClampNeg) ≤ e.platform.maxSlots) {Q : Addr → Pre} (hq : ∀ (d : Bool) (acts : List Action), Q U.heap.size d acts (xmT U a b n.toNatClampNeg k.toNatClampNeg n.toNatClampNeg)) : wp (multianewarray.make a [n, k]) Q E e d acts U := by
  have hno : ([k].find? (· < 0)) = none := by simp [k0]
  rw [multianewarray.make]
  simp only [wp_bind', Jvm.W.ite, n0, if_false, wp_pure', Jvm.W.theClass, ha, ta, Option.some.injEq, exists_eq_left', hno]
  refine Jvm.W.newArray_of ha ta p1 p2 (by omega) (by omega) rfl (fun acts => ?_)
  rw [xmA_0 a U.heap.size, ite_self, wp_bind', Std.Legacy.Range.forIn_eq_forIn_range', show ([:n.toNatClampNeg] : Std.Legacy.Range).size = n.toNatClampNeg by simp [Std.Legacy.Range.size]]
  refine xm_for (F := xmT U a b n.toNatClampNeg k.toNatClampNeg) (N := n.toNatClampNeg) (fun i hi Q' d' acts' hn => ?_) (fun d acts => ?_) _ 0 _ _ (Nat.zero_add _)
  · obtain ⟨⟨v, u, z⟩, o, -, -⟩ := xmT_f U a b n.toNatClampNeg k.toNatClampNeg i
    have hm := Nat.mul_le_mul_right k.toNatClampNeg (show i + 1 ≤ n.toNatClampNeg from hi)
    rw [Nat.add_mul, Nat.one_mul] at hm
    simp only [wp_bind']
    refine xm_row (by rw [v]; exact hb) tb k0 p3 p4 (by rw [z]; omega) (by rw [u]; omega) (fun acts => ?_)
    simp only [wp_bind', Jvm.W.writeLoc, wp_pure']
    refine ⟨xmA a U.heap.size n.toNatClampNeg i, (State.heap_pushCell_of_lt _ _ (show U.heap.size < (xmT U a b n.toNatClampNeg k.toNatClampNeg i).heap.size by rw [z]; omega)).trans o, by simp [xmA, arrV], by rw [show (xmA a U.heap.size n.toNatClampNeg i).slots.size = n.toNatClampNeg from arrV_size _ _ _]; exact hi, ?_, ?_⟩
    · show State.fitsSlot _ a .none i _ = true
      simp [State.fitsSlot, State.slotType?, v, ha, ta, fits]
    · rw [z, xmA_s]
      exact hn _ _
  · exact hq _ _
end XMW
section XMZ
variable {p : Program} {l : Launch} {e : Env} {R : Room} {s : State} {m : MethodId} {args : Array Value} {below : List Frame} {meth : Method} {c : Code} {H : Heap} {locs : List Loc} {cells slots : Nat} {Q : State → Prop}
theorem xm_W {cc : ByteArray} (hexec : p.tables.exec = Jvm.exec) (hcc : c.code = cc) {own : String} {index : Nat} (hown : s.vm.findClass own = some m.cls) (hclink : (Cond.classLink own index "[[I").before args s = true) (hover : (Cond.arrayOver (.array .int)).before args s = true) (harr : (Cond.arrayClass .int).before args s = true) {g : JFrame} (hg : g.method = m) (hdg : decode cc g.pc = .ok (.multianewarray index 2, 4)) {N K : Nat} {rest : List Value} (hstack : g.stack = .int (nI K) :: .int (nI N) :: rest) (hN : N ≤ 1000) (hK : K ≤ 1000) (hcells : cells + (1 + N) ≤ R.cells) (hslots : slots + (N + N * K) ≤ R.slots)
    (kk : ∀ (H' : Heap) (a b : ClassId), ArrOfT s a (.array .int) → va_RA s a (.array .int) → ArrOfT s b .int → H'.size = H.size + 1 + N → H'[H.size]? = some (xmA a H.size N N) → (∀ x : Nat, x < H.size → H'[x]? = H[x]?) → (∀ j : Nat, j < N → H'[H.size + 1 + j]? = some (arrV b K (fun _ => .int 0))) → W p l e R s m args below meth c H' locs (cells + (1 + N)) (slots + (N + N * K)) Q { g with pc := g.pc + 4, stack := .ref H.size :: rest }) : W p l e R s m args below meth c H locs cells slots Q g := by
  intro T hT X
  subst hT
  subst hcc
  subst hg
  have cN : (nI N).toNatClampNeg = N := nI_clamp (by omega)
  have cK : (nI K).toNatClampNeg = K := nI_clamp (by omega)
  obtain ⟨b, a, ka, fb, -, ha, ta, fa⟩ := arrayOverA_spec hover
  obtain ⟨b', kb, b0, fb', hb, tb⟩ := Cond.arrayClass_spec harr
  obtain rfl : b' = b := Option.some.inj (fb'.symm.trans fb)
  obtain ⟨a', fa', hcl⟩ := Cond.classLink_spec hown hclink e.platform (by rw [X.admits.platform])
  obtain rfl : a' = a := Option.some.inj (fa'.symm.trans fa)
  obtain ⟨hg1, hw, -⟩ := State.classEntry (e := e) X.warmed hcl
  generalize T.vm.noted g.method.cls index (.cls a') = v1 at hg1 hw
  obtain ⟨ka1, ha1, ea⟩ := hw.alike.2.2 _ _ ha
  obtain ⟨kb1, hb1, eb⟩ := hw.alike.2.2 _ _ hb
  have ta1 : ka1.kind = .array b' (.array .int) := by rw [ea]; exact ta
  have tb1 : kb1.kind = .array b0 .int := by rw [eb]; exact tb
  obtain ⟨r1, r2⟩ := X.roomAbove hcells hslots
  have X1 := xmT_S (X.noted hw) a' b' N K N
  rw [Nat.add_assoc cells, Nat.add_assoc slots] at X1
  obtain ⟨⟨-, -, z⟩, o, old, inn⟩ := xmT_f (T.setVm v1) a' b' N K N
  obtain ⟨t, s1, q1⟩ := kk _ a' b' (fun n z => ⟨(fun k h => by cases h), ka, ha, b', ta⟩) fa (fun n z => ⟨(fun k h => by cases h), kb, hb, b0, tb⟩) z o old inn _ rfl X1
  refine ⟨t, ?_, q1⟩
  have hl : ∀ x : Nat, x ≤ 1000 → ¬ x > e.platform.arrayLengthLimit := fun x hx => by rw [Launch.admits_arrayLengthLimit X.admits]; omega
  have hm : ∀ x : Nat, x ≤ 1000 → ¬ x * 4 > e.platform.maxHeapBytes := fun x hx => by rw [Launch.admits_maxHeapBytes X.admits]; omega
  jvm_step X.here [hexec, hdg]
  simp only [multianewarray.sem, wp_bind', Jvm.W.resolveClassAt_links (State.method?_setTop g X.here.top) hg1]
  refine (popN_top (s := T.setVm v1) (f := g) (args := [.int (nI N), .int (nI K)]) (rest := rest) X.here.top hstack).mpr ?_
  simp only [List.mapM_cons, List.mapM_nil, wp_bind', wp_pure']
  refine xm_make (U := (T.setVm v1).setTop { g with stack := rest }) ha1 ta1 hb1 tb1 (nI_pos (by omega)) (nI_pos (by omega)) (by rw [cN]; exact hl N hN) (by rw [cN]; exact hm N hN) (by rw [cK]; exact hl K hK) (by rw [cK]; exact hm K hK) (by rw [cN]; exact r1) (by rw [cN, cK]; exact r2) (fun d acts => ?_)
  rw [cN, cK, xmT_t]
  simp only [wp_bind', Jvm.W.mark, Jvm.W.pushRef, State.topJava?_setTop' _ X1.here.top, Option.some.injEq, exists_eq_left', State.setTop_setTop]
  intro acts
  simp [jvm, X1.here.top]
  exact s1
end XMZ

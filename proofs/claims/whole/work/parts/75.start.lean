/-! THE START: what the tables say of the classes, what is given of the constant text -/
set_option maxRecDepth 20000 in
theorem xI0 : Cond.instantiable RX0 7 ∈ xT := xT_1 115 rfl rfl
set_option maxRecDepth 20000 in
theorem xI1 : Cond.instantiable RX1 4 ∈ xT := xT_2 13 rfl rfl
set_option maxRecDepth 20000 in
theorem xI2 : Cond.instantiable RX2 8 ∈ xT := xT_1 59 rfl rfl
set_option maxRecDepth 20000 in
theorem xI3 : Cond.instantiable RX3 8 ∈ xT := xT_1 218 rfl rfl
set_option maxRecDepth 20000 in
theorem xI4 : Cond.instantiable RX4 3 ∈ xT := xT_1 151 rfl rfl
set_option maxRecDepth 20000 in
theorem xI5 : Cond.instantiable RX5 2 ∈ xT := xT_1 45 rfl rfl
set_option maxRecDepth 20000 in
theorem xI6 : Cond.instantiable RX6 2 ∈ xT := xT_1 29 rfl rfl
set_option maxRecDepth 20000 in
theorem xI7 : Cond.instantiable RX7 6 ∈ xT := xT_1 191 rfl rfl
set_option maxRecDepth 20000 in
theorem xI8 : Cond.instantiable RX8 3 ∈ xT := xT_1 174 rfl rfl
set_option maxRecDepth 20000 in
theorem xI9 : Cond.instantiable RX9 12 ∈ xT := xT_1 21 rfl rfl
set_option maxRecDepth 20000 in
theorem xI10 : Cond.instantiable RX10 26 ∈ xT := xT_4 50 rfl rfl
theorem xInst {ci : Nat} {q : vw_C} (h : vwCl[ci]? = some q) : Cond.instantiable q.1 q.2.2 ∈ xT := by
  match ci, h with
  | 0, h => cases h; exact xI0
  | 1, h => cases h; exact xI1
  | 2, h => cases h; exact xI2
  | 3, h => cases h; exact xI3
  | 4, h => cases h; exact xI4
  | 5, h => cases h; exact xI5
  | 6, h => cases h; exact xI6
  | 7, h => cases h; exact xI7
  | 8, h => cases h; exact xI8
  | 9, h => cases h; exact xI9
  | 10, h => cases h; exact xI10
  | k + 11, h => simp [vwCl] at h
theorem xD_of {args : Array Value} {s : State} (hts : ∀ w ∈ xT, w.before args s = true) : ∃ D : va_G, va_K D vwCl [] s := by
  have h1 : ∀ (k : Nat) (q : vw_C), vwCl[k]? = some q → ∃ (cC : ClassId) (iS : Nat → Nat), u_Kn s q.1 q.2.1 q.2.2 cC iS := fun k q hq => u_known hts (xKnown_at hq).1 (hts _ (xInst hq))
  obtain ⟨c0, i0, -⟩ := h1 0 _ rfl
  have h0 : ∀ k : Nat, ∃ r : ClassId × (Nat → Nat), ∀ q : vw_C, vwCl[k]? = some q → u_Kn s q.1 q.2.1 q.2.2 r.1 r.2 := by
    intro k
    cases hk : vwCl[k]? with
    | none => exact ⟨(c0, i0), fun q hq => by cases hq⟩
    | some q =>
      obtain ⟨cC, iS, h⟩ := h1 k q hk
      exact ⟨(cC, iS), fun q' hq' => by cases hq'; exact h⟩
  obtain ⟨f, hf⟩ := Classical.axiomOfChoice h0
  exact ⟨(fun k => (f k).1, fun k => (f k).2), fun k q hq => hf k q hq, fun k q h => by simp at h⟩
set_option maxRecDepth 20000 in
theorem xel : ∀ j, j < 89 → Cond.eq (.elem (.field (.string "NotAnOx" 85) "java/lang/String" "value" "[B") (.int (Int32.ofNat j))) (.int (xby.getD j 0)) ∈ flatC (Jvm.Cond.and given_1 narrow_1) := by decide +kernel
set_option maxRecDepth 20000 in
theorem xel0 : Cond.exactly (.string "NotAnOx" 85) "java/lang/String" ∈ flatC (Jvm.Cond.and given_1 narrow_1) ∧ Cond.eq (.field (.string "NotAnOx" 85) "java/lang/String" "coder" "B") (.int 0) ∈ flatC (Jvm.Cond.and given_1 narrow_1) ∧ Cond.arrayOf (.field (.string "NotAnOx" 85) "java/lang/String" "value" "[B") .byte ∈ flatC (Jvm.Cond.and given_1 narrow_1) ∧ Cond.eq (.length (.field (.string "NotAnOx" 85) "java/lang/String" "value" "[B")) (.int (Int32.ofNat 89)) ∈ flatC (Jvm.Cond.and given_1 narrow_1) ∧ Cond.eq (.static "java/lang/String" "COMPACT_STRINGS" "Z") (.int 1) ∈ flatC (Jvm.Cond.and given_1 narrow_1) ∧ Cond.isRef (.static "jdk/internal/util/Preconditions" "SIOOBE_FORMATTER" "Ljava/util/function/BiFunction;") ∈ flatC (Jvm.Cond.and given_1 narrow_1) := by decide +kernel
set_option maxRecDepth 20000 in
theorem xao1 : Cond.arrayOver (.object "NotAnOx$Book") ∈ lw_tbl := xtb_1 (List.mem_of_getElem? (i := 160) rfl)
set_option maxRecDepth 20000 in
theorem xao2 : Cond.arrayOver (.array .int) ∈ lw_tbl := xtb_1 (List.mem_of_getElem? (i := 65) rfl)
set_option maxRecDepth 20000 in
theorem xsr : Cond.stringRef "NotAnOx" 85 xtx ∈ lw_tbl := xtb_2 (List.mem_of_getElem? (i := 35) rfl)
set_option maxRecDepth 20000 in
theorem xls1 : Cond.laysStatic "java/lang/String" "COMPACT_STRINGS" "Z" ∈ lw_tbl := xtb_2 (List.mem_of_getElem? (i := 45) rfl)
set_option maxRecDepth 20000 in
theorem xls2 : Cond.laysStatic "jdk/internal/util/Preconditions" "SIOOBE_FORMATTER" "Ljava/util/function/BiFunction;" ∈ lw_tbl := xtb_2 (List.mem_of_getElem? (i := 61) rfl)
set_option maxRecDepth 20000 in
theorem xin1 : Cond.initialized "java/lang/String" ∈ lw_tbl := xtb_1 (List.mem_of_getElem? (i := 12) rfl)
set_option maxRecDepth 20000 in
theorem xin2 : Cond.initialized "jdk/internal/util/Preconditions" ∈ lw_tbl := xtb_1 (List.mem_of_getElem? (i := 14) rfl)
theorem xctx_of {s : State} {b L : Nat} {xs : Nat → Int32} (hts : ∀ w ∈ lw_tbl, w.before #[Value.ref b] s = true) (hX : va_X b L xs s s.heap) (hbl : b < s.heap.size) (hgv : (Jvm.Cond.and given_1 narrow_1).before #[Value.ref b] s = true) : ∃ (D : va_G) (adK adV : Nat → Nat), xCtx (s.heap.size, b, L, xs, adK, adV) D s := by
  have htx : ∀ w ∈ xT, w.before #[Value.ref b] s = true := fun w hw => hts w (List.mem_filter.mp hw).1
  have hg := flat_of_before _ hgv
  obtain ⟨D, hK⟩ := xD_of htx
  have hA : ∀ a : Nat, a < s.heap.size → ¬ (fun q : Nat => s.heap.size ≤ q) a := fun a h => by
    show ¬ s.heap.size ≤ a
    omega
  obtain ⟨e1, e2, e3, e4, e5, e6⟩ := xel0
  have i0 : ∀ {i : Nat}, i < 1 → i = 0 := fun h => by omega
  obtain ⟨adK, adV, hSS, hte⟩ := vk_Sof (args := #[Value.ref b]) (s := s) (N := 1) (tm := fun _ => Term.string "NotAnOx" 85) (len := [89]) (byt := [xby]) (A := fun q => s.heap.size ≤ q) (fun i hi => by rw [i0 hi]; decide) (fun i hi => hg _ e1) (fun i hi => hg _ e2) (fun i hi => hg _ e3) (fun i hi => by rw [i0 hi]; exact hg _ e4) (fun i hi j hj => by rw [i0 hi] at hj ⊢; exact hg _ (xel j hj)) (fun i j hi hj hij => absurd ((i0 hi).trans (i0 hj).symm) hij) hA
  refine ⟨D, adK, adV, Nat.le_refl _, hK, fun w hw => ?_, ⟨hX, hbl⟩, ⟨va_AO.of (hts _ xao1), ?_⟩, hSS, vk_R.of (hts _ xsr) (hte 0 (by decide)), va_Zof (hts _ xls1) (hts _ xin1) (va_eqt (hg _ e5)) hA, va_Zqof (hts _ xls2) (hts _ xin2) (hg _ e6) hA⟩
  · obtain ⟨h1, h2⟩ := List.mem_filter.mp hw
    have h3 := hts w h1
    cases w <;> first | exact va_Nw.of rfl h3 | (simp [xisN] at h2)
  · have h3 := hts _ xao2
    exact h3

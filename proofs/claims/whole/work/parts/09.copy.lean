/-! System.arraycopy of a whole row of ints; Object.<init> -/
theorem xarr_congr {cA : ClassId} {N : Nat} {f g : Nat → Value} (h : ∀ j, j < N → f j = g j) : arrV cA N f = arrV cA N g := by
  unfold arrV
  have : (fun j : Fin N => f j.val) = (fun j : Fin N => g j.val) := by
    funext j
    exact h j.1 j.2
  rw [this]
def xCP (m : xM) (pc nx : Nat) : Prop := ∃ idx : Nat, decode m.2.1 pc = .ok (.invokestatic idx, 3) ∧ pc + 3 = nx ∧ Cond.methodLink m.1.cls idx arraycopyName ∈ xT ∧ Cond.native arraycopyName ∈ xT ∧ Cond.static arraycopyName ∈ xT ∧ Cond.initialized "java/lang/System" ∈ xT
section XP
variable {G : xGl} {m : xM} {d k n pc nx : Nat} {Q : Option Value → List xSh → xMem → Prop} {L : List (Option Value)} {st : List Value} {S : List xSh} {M : xMem}
theorem xs_copy {cs cd N : Nat} (he : xCP m pc nx) (h0 : S[cs]? = some (.inl (.int, N))) (h1 : S[cd]? = some (.inl (.int, N))) (hN : N < 2 ^ 31) (hroom : (st.map fun v => v.category).sum ≤ 8) (kk : xW G m (d + 1) k n Q nx L st S (setR M cd (M cs))) : xW G m (d + 1) k n Q pc L (.int (nI N) :: .int (nI 0) :: .ref (G.1 + cd) :: .int (nI 0) :: .ref (G.1 + cs) :: st) S M := by
  obtain ⟨idx, hd, rfl, hlink, hnat, hstat, hini⟩ := he
  intro l D p e R s mi args below meth c H locs cells slots Z ls E hR hS hl
  have hts := E.2.2.2.2.1
  obtain ⟨rm1, rm2, -, -⟩ := E.2.2.2.2.2.2.2.1
  intro T hT X
  obtain ⟨c0, hA0, hc0⟩ := hR.2 cs _ h0
  obtain ⟨c1, hA1, hc1⟩ := hR.2 cd _ h1
  obtain ⟨-, k0, hk0, cm0, hkk0⟩ := hA0 N (fun j => .int (M cs j))
  obtain ⟨-, k1, hk1, cm1, hkk1⟩ := hA1 N (fun j => .int (M cd j))
  have hz : (nI 0).toNatClampNeg = 0 := nI_clamp (by omega)
  have hzN : (nI N).toNatClampNeg = N := nI_clamp hN
  have hzi : (nI 0).toInt = 0 := nI_toInt (by omega)
  have hzNi : (nI N).toInt = (N : Int) := nI_toInt hN
  obtain ⟨vm', X', step⟩ := X.arraycopy E.1 E.2.2.2.1 (hts _ hlink) (hts _ hnat) (hts _ hstat) (hts _ hini) (src := G.1 + cs) (dst := G.1 + cd) (cs := arrV c0 N (fun j => .int (M cs j))) (cd := arrV c1 N (fun j => .int (M cd j))) (srcPos := nI 0) (destPos := nI 0) (n := nI N) (by rw [hT]; exact hc0) (by rw [hT]; exact hc1)
    (fun _ h => by cases h) (fun _ h => by cases h) (fun h => by cases h) (fun h => by cases h) hk0 hk1 hkk0 hkk1 (by simp [refKind]) (nI_pos (by omega)) (nI_pos (by omega)) (nI_pos hN)
    (by rw [hzi, hzNi, arrV_size]; omega)
    (by rw [hzi, hzNi, arrV_size]; omega)
    (fun vm₁ _ i hi => by
      rw [hzN] at hi
      have e1 : (arrV c0 N (fun j => Value.int (M cs j))).slots.getD ((nI 0).toNatClampNeg + i) .null = .int (M cs i) := by
        rw [hz, Nat.zero_add, Array.getD_eq_getD_getElem?, arrV_read _ _ hi]
        rfl
      refine ⟨?_, ?_⟩
      · rw [e1]
        rfl
      · rw [e1]
        exact trivial)
    (g := F0 mi pc ls (.int (nI N) :: .int (nI 0) :: .ref (G.1 + cd) :: .int (nI 0) :: .ref (G.1 + cs) :: st)) rfl (by rw [E.2.2.1]; exact hl.1) (rest := st) rfl (by rw [E.2.1]; exact hd) (by omega) (by
      have h7 : nativeFrameWords "java/lang/System" "arraycopy" 5 ≤ 7 := by decide
      show 2 * 0 + _ + _ ≤ _
      omega)
  have e1 : copied (arrV c0 N (fun j => Value.int (M cs j))) (arrV c1 N (fun j => Value.int (M cd j))) (nI 0) (nI 0) (nI N) = arrV c1 N (fun j => .int (M cs j)) := by
    refine (va_copied (fun z => Value.int z) c0 c1 (sp := (nI 0).toNatClampNeg) (dp := (nI 0).toNatClampNeg) (n := (nI N).toNatClampNeg) (M cs) (M cd) (by rw [hz, hzN]; omega)).trans ?_
    refine xarr_congr (fun j hj => ?_)
    rw [hz, hzN]
    simp [va_cpy, hj]
  rw [e1] at X' step
  have hl1 : G.1 + cd < H.size := (Array.getElem?_eq_some_iff.mp hc1).1
  have hheap : ((T.setVm vm').setCell (G.1 + cd) (arrV c1 N (fun j => .int (M cs j)))).heap = H.setIfInBounds (G.1 + cd) (arrV c1 N (fun j => .int (M cs j))) := by rw [← hT]; rfl
  have oq : ∀ q : Nat, q ≠ G.1 + cd → (H.setIfInBounds (G.1 + cd) (arrV c1 N (fun j => Value.int (M cs j))))[q]? = H[q]? := fun q hq => by simp [Array.getElem?_setIfInBounds, Ne.symm hq]
  have hself : (H.setIfInBounds (G.1 + cd) (arrV c1 N (fun j => Value.int (M cs j))))[G.1 + cd]? = some (arrV c1 N (fun j => Value.int (M cs j))) := by simp [Array.getElem?_setIfInBounds, hl1]
  obtain ⟨t, a1, b1⟩ := kk l D p e R s mi args below meth c _ _ cells slots Z ls E (hR.setM (M1 := setR M cd (M cs)) h1 (by simp) oq (fun a h => setR_ne h) ⟨c1, hA1, by rw [setR_row]; exact hself⟩) ⟨by simp; exact hS.1, fun q g1 g2 => by
      rw [oq q (fun e => g2 (by rw [e]; exact Nat.le_add_right _ _))]
      exact hS.2.1 q g1 g2, fun q hq => by
      rcases List.mem_append.mp hq with h | h
      · exact hS.2.2 q h
      · obtain ⟨z, -, hz2⟩ := List.mem_map.mp h
        rw [← hz2]
        exact Nat.le_add_right _ _⟩ hl _ hheap X'
  exact ⟨t, step t a1, b1⟩
/-- Object.<init> -/
def xOI (m : xM) (pc nx : Nat) : Prop := ∃ idx : Nat, decode m.2.1 pc = .ok (.invokespecial idx, 3) ∧ pc + 3 = nx ∧ Cond.methodLink m.1.cls idx objectInit ∈ xT ∧ Cond.instanceMethod objectInit ∈ xT ∧ Cond.code objectInit ⟨#[0xb1]⟩ 1 none ∈ xT
theorem xs_objI {a : Nat} (he : xOI m pc nx) (hroom : (st.map fun v => v.category).sum ≤ 8) (kk : xW G m (d + 1) k n Q nx L st S M) : xW G m (d + 1) k n Q pc L (.ref a :: st) S M := by
  obtain ⟨idx, hd, rfl, hlink, hin, hcode⟩ := he
  intro l D p e R s mi args below meth c H locs cells slots Z ls E hR hS hl
  have hts := E.2.2.2.2.1
  obtain ⟨rm1, rm2, -, -⟩ := E.2.2.2.2.2.2.2.1
  exact W.objInit E.1 E.2.1 E.2.2.2.1 (hts _ hlink) (hts _ hin) (hts _ hcode) rfl (by rw [E.2.2.1]; exact hl.1) rfl hd (by omega) (by show 2 * 0 + _ + 12 ≤ _; omega) (kk l D p e R s mi args below meth c H locs cells slots Z ls E hR hS hl)
end XP

/-! CALLS: a callee's contract, its end the walk that goes on -/
section XC1
variable {p : Program} {l : Launch} {e : Env} {R : Room} {s : State} {mi : MethodId} {args : Array Value} {below : List Frame} {meth : Method} {c : Code} {H : Heap} {locs : List Loc} {cells slots : Nat} {Z : State → Prop}
theorem xcall {G : xGl} {D : va_G} {Q' : Option Value → List xSh → xMem → Prop} {a : Array Value} {mc ms pc : Nat} {ls : Array Slot} {st0 rest : List Value} (hr : va_Run p l e R s mi args below meth c H locs cells slots mc ms (F0 mi pc ls st0) rest (xPost G D Q' a) (fun q => G.1 ≤ q)) (hS : va_S (fun q => G.1 ≤ q) s.heap H locs)
    (kk : ∀ (v : Option Value) (S' : List xSh) (M' : xMem) (H1 : Heap) (locs1 : List Loc), xRep D G.1 S' M' s H1 → Q' v S' M' → va_S (fun q => G.1 ≤ q) s.heap H1 locs1 → W p l e R s mi args below meth c H1 locs1 (cells + mc) (slots + ms) Z (F0 mi (pc + 3) ls (v.toList ++ rest))) : W p l e R s mi args below meth c H locs cells slots Z (F0 mi pc ls st0) := by
  intro T hT X
  obtain ⟨v, st₀, t, T', Lc, h0, X', hL, e1, e2, ⟨v', S', M', hv, hrep, hQ, hz, hk⟩, stp⟩ := hr T hT X
  cases hv
  rw [h0] at hz hk
  have hal : t.vm.Alike s.vm := by
    have := X'.warmed.alike
    rw [e2] at this
    exact this.symm
  obtain ⟨t2, a1, b1⟩ := kk v S' M' T'.heap (locs ++ Lc) (by rw [e1]; exact hrep.moved hal) hQ
    ⟨Nat.le_trans hS.1 (by rw [e1]; exact hz), fun q h1 h2 => by rw [e1, hk q (Nat.lt_of_lt_of_le h1 hS.1) h2]; exact hS.2.1 q h1 h2, fun q hq => by
      rcases List.mem_append.mp hq with h | h
      · exact hS.2.2 q h
      · exact hL q h⟩ T' rfl X'
  exact ⟨t2, stp t2 a1, b1⟩
end XC1
/-- where a call stands, and what the tables say of it; nb: how many parameters -/
def xCm (m : xM) (idx : Nat) (m2 : xM) (np : Nat) : Prop := Cond.code m2.1 m2.2.1 m2.2.2.1 m2.2.2.2 ∈ xT ∧ Cond.initialized m2.1.cls ∈ xT ∧ (m2.1.cls ≠ "java/lang/invoke/MethodHandle" ∧ m2.1.cls ≠ "java/lang/invoke/VarHandle" ∧ (parseMethodDescriptor m2.1.desc).map (fun d => d.parameters.length) = some np) ∧ m2.2.2.1 ≤ 41 ∧ (Cond.methodLink m.1.cls idx m2.1 ∈ xT ∨ ∃ host, Cond.methodLinkNest m.1.cls idx m2.1 host ∈ xNest)
def xCV (m : xM) (pc : Nat) (m2 : xM) (np ci nx : Nat) : Prop := ∃ idx : Nat, decode m.2.1 pc = .ok (.invokevirtual idx, 3) ∧ pc + 3 = nx ∧ xCm m idx m2 np ∧ Cond.instanceMethod m2.1 ∈ xT ∧ Cond.selects m2.1.cls m2.1 m2.1 ∈ xT ∧ ∃ q : vw_C, vwCl[ci]? = some q ∧ q.1 = m2.1.cls
def xCS (m : xM) (pc : Nat) (m2 : xM) (np nx : Nat) : Prop := ∃ idx : Nat, decode m.2.1 pc = .ok (.invokestatic idx, 3) ∧ pc + 3 = nx ∧ xCm m idx m2 np ∧ Cond.static m2.1 ∈ xT
def xCI (m : xM) (pc : Nat) (m2 : xM) (np nx : Nat) : Prop := ∃ idx : Nat, decode m.2.1 pc = .ok (.invokespecial idx, 3) ∧ pc + 3 = nx ∧ xCm m idx m2 np ∧ Cond.instanceMethod m2.1 ∈ xT ∧ m2.1.name = "<init>"
section XC2
variable {G : xGl} {m m2 : xM} {d k n kc nc pc nx np : Nat} {Q : Option Value → List xSh → xMem → Prop} {L : List (Option Value)} {st st0 : List Value} {S : List xSh} {M : xMem}
theorem xPre.use {D : va_G} {s : State} {H : Heap} {locs : List Loc} {as : List Value} (hc : xCtx G D s) (hR : xRep D G.1 S M s H) (hS : va_S (fun q => G.1 ≤ q) s.heap H locs) : ∀ U : State, U.heap = H → s.WarmedH U.vm → xPre G D S M as as.toArray U := fun U hU hW => ⟨rfl, hc.move hW (by rw [hU]; exact hS.1) (fun q h1 h2 => by rw [hU]; exact hS.2.1 q h1 h2), by rw [hU]; exact hR.moved hW.alike⟩
theorem xE.sub {l : Launch} {D : va_G} {p : Program} {e : Env} {R : Room} {s : State} {mi : MethodId} {args : Array Value} {below : List Frame} {meth : Method} {c : Code} {cells slots : Nat} {Z : State → Prop} (E : xE G m d k n Q l D p e R s mi args below meth c cells slots Z) (h1 : kc ≤ k) (h2 : nc ≤ n) : xE G m d (k - kc) (n - nc) Q l D p e R s mi args below meth c (cells + kc) (slots + nc) Z := by
  obtain ⟨a1, a2, a3, a4, a5, a6, a7, ⟨b1, b2, b3, b4⟩, a8⟩ := E
  exact ⟨a1, a2, a3, a4, a5, a6, a7, ⟨b1, b2, by omega, by omega⟩, a8⟩
theorem xs_callV {As : List Value} {ci cb : Nat} {fs : List (Option (Option Nat))} (he : xCV m pc m2 np ci nx) (hs : S[cb]? = some (.inr (.inl (ci, fs)))) (hn : As.length = np) (hst : st0 = As.reverse ++ .ref (G.1 + cb) :: st) (hroom : (st.map fun v => v.category).sum ≤ 8) (hk : kc ≤ k) (hnn : nc ≤ n)
    (hC : xC G m2 d kc nc (.ref (G.1 + cb) :: As) S M (fun v S' M' => xW G m (d + 1) (k - kc) (n - nc) Q nx L (v.toList ++ st) S' M')) : xW G m (d + 1) k n Q pc L st0 S M := by
  subst hst
  obtain ⟨idx, hd, rfl, ⟨hcode, hini, hyd, hml, hlk⟩, hinst, hsel, q, hq, hqc⟩ := he
  intro l D p e R s mi args below meth c H locs cells slots Z ls E hR hS hl
  have hts := E.2.2.2.2.1
  have hctx := E.2.2.2.2.2.2.1
  obtain ⟨rm1, rm2, rm3, rm4⟩ := E.2.2.2.2.2.2.2.1
  obtain ⟨r, hr, cell, q1, q2, q3, -⟩ := hR.2 cb _ hs
  have hrv : ∃ cellB : Cell, H[G.1 + cb]? = some cellB ∧ cellB.vm.isStatics = false ∧ s.vm.findClass m2.1.cls = some cellB.cls := ⟨cell, q1, by rw [q3]; rfl, by rw [q2, ← hqc]; exact (hctx.2.1.1 ci q hq).2.1⟩
  have hP : PreV s H m2.1.cls (G.1 + cb) (xPre G D S M (.ref (G.1 + cb) :: As)) As := ⟨xPre.blind, hrv, xPre.use hctx hR hS⟩
  have hRm : (xroom d kc nc).frames + 1 ≤ R.frames ∧ 8 + (m2.2.2.1 + 11) + (xroom d kc nc).locals ≤ R.locals := ⟨rm1, by show 8 + (m2.2.2.1 + 11) + 60 * d ≤ R.locals; omega⟩
  have hF : CallFix p mi c m.2.1 m.2.2.1 s args xT m.1.cls := ⟨E.1, E.2.1, E.2.2.1, E.2.2.2.1, hts⟩
  have fin : va_Run p l e R s mi args below meth c H locs cells slots kc nc (F0 mi pc ls (As.reverse ++ .ref (G.1 + cb) :: st)) st (xPost G D (fun v S' M' => xW G m (d + 1) (k - kc) (n - nc) Q (pc + 3) L (v.toList ++ st) S' M') (Value.ref (G.1 + cb) :: As).toArray) (fun q => G.1 ≤ q) := by
    rcases hlk with hlk | ⟨host, hlk⟩
    · exact va_runV hF (hC l D) ⟨callB_of np hts (xGoodM hcode) rfl rfl rfl (hts _ hini) (hts _ hlk) hyd hRm, hts _ hinst, hts _ hsel⟩ hP rfl hn hl.1 rfl (lv_room hroom) hd ⟨by omega, by omega⟩
    · exact va_runVN hF (hC l D) ⟨va_cnB np hts (xGoodM hcode) rfl rfl rfl (hctx.2.2.1 _ hlk) (hts _ hini) hyd hRm, hts _ hinst, hts _ hsel⟩ hP rfl hn hl.1 rfl (lv_room hroom) hd ⟨by omega, by omega⟩
  exact xcall fin hS (fun v S' M' H1 locs1 hR1 hQ hS1 => hQ l D p e R s mi args below meth c H1 locs1 (cells + kc) (slots + nc) Z ls (E.sub hk hnn) hR1 hS1 hl)
theorem xs_callS {As : List Value} (he : xCS m pc m2 np nx) (hn : As.length = np) (hst : st0 = As.reverse ++ st) (hroom : (st.map fun v => v.category).sum ≤ 8) (hk : kc ≤ k) (hnn : nc ≤ n)
    (hC : xC G m2 d kc nc As S M (fun v S' M' => xW G m (d + 1) (k - kc) (n - nc) Q nx L (v.toList ++ st) S' M')) : xW G m (d + 1) k n Q pc L st0 S M := by
  subst hst
  obtain ⟨idx, hd, rfl, ⟨hcode, hini, hyd, hml, hlk⟩, hstat⟩ := he
  intro l D p e R s mi args below meth c H locs cells slots Z ls E hR hS hl
  have hts := E.2.2.2.2.1
  have hctx := E.2.2.2.2.2.2.1
  obtain ⟨rm1, rm2, rm3, rm4⟩ := E.2.2.2.2.2.2.2.1
  have hP : PreS s H (xPre G D S M As) As := ⟨xPre.blind, xPre.use hctx hR hS⟩
  have hRm : (xroom d kc nc).frames + 1 ≤ R.frames ∧ 8 + (m2.2.2.1 + 11) + (xroom d kc nc).locals ≤ R.locals := ⟨rm1, by show 8 + (m2.2.2.1 + 11) + 60 * d ≤ R.locals; omega⟩
  have hF : CallFix p mi c m.2.1 m.2.2.1 s args xT m.1.cls := ⟨E.1, E.2.1, E.2.2.1, E.2.2.2.1, hts⟩
  have fin : va_Run p l e R s mi args below meth c H locs cells slots kc nc (F0 mi pc ls (As.reverse ++ st)) st (xPost G D (fun v S' M' => xW G m (d + 1) (k - kc) (n - nc) Q (pc + 3) L (v.toList ++ st) S' M') As.toArray) (fun q => G.1 ≤ q) := by
    rcases hlk with hlk | ⟨host, hlk⟩
    · exact va_runS hF (hC l D) ⟨callB_of np hts (xGoodM hcode) rfl rfl rfl (hts _ hini) (hts _ hlk) hyd hRm, hts _ hstat⟩ hP rfl hn hl.1 rfl (lv_room hroom) hd ⟨by omega, by omega⟩
    · exact va_runSN hF (hC l D) ⟨va_cnB np hts (xGoodM hcode) rfl rfl rfl (hctx.2.2.1 _ hlk) (hts _ hini) hyd hRm, hts _ hstat, trivial⟩ hP rfl hn hl.1 rfl (lv_room hroom) hd ⟨by omega, by omega⟩
  exact xcall fin hS (fun v S' M' H1 locs1 hR1 hQ hS1 => hQ l D p e R s mi args below meth c H1 locs1 (cells + kc) (slots + nc) Z ls (E.sub hk hnn) hR1 hS1 hl)
theorem xs_callI {As : List Value} {cb : Nat} (hret : m2.2.2.2 = none) (he : xCI m pc m2 np nx) (hn : As.length = np) (hst : st0 = As.reverse ++ .ref (G.1 + cb) :: st) (hroom : (st.map fun v => v.category).sum ≤ 8) (hk : kc ≤ k) (hnn : nc ≤ n)
    (hC : xC G m2 d kc nc (.ref (G.1 + cb) :: As) S M (fun v S' M' => xW G m (d + 1) (k - kc) (n - nc) Q nx L (v.toList ++ st) S' M')) : xW G m (d + 1) k n Q pc L st0 S M := by
  subst hst
  obtain ⟨y2, cc2, ml2, ret2⟩ := m2
  obtain rfl : ret2 = none := hret
  obtain ⟨idx, hd, rfl, ⟨hcode, hini, hyd, hml, hlk⟩, hinst, hnm⟩ := he
  intro l D p e R s mi args below meth c H locs cells slots Z ls E hR hS hl
  have hts := E.2.2.2.2.1
  have hctx := E.2.2.2.2.2.2.1
  obtain ⟨rm1, rm2, rm3, rm4⟩ := E.2.2.2.2.2.2.2.1
  have hP : PreS s H (xPre G D S M (.ref (G.1 + cb) :: As)) (.ref (G.1 + cb) :: As) := ⟨xPre.blind, xPre.use hctx hR hS⟩
  have hRm : (xroom d kc nc).frames + 1 ≤ R.frames ∧ 8 + (ml2 + 11) + (xroom d kc nc).locals ≤ R.locals := ⟨rm1, by show 8 + (ml2 + 11) + 60 * d ≤ R.locals; have : ml2 ≤ 41 := hml; omega⟩
  have hF : CallFix p mi c m.2.1 m.2.2.1 s args xT m.1.cls := ⟨E.1, E.2.1, E.2.2.1, E.2.2.2.1, hts⟩
  have fin : va_Run p l e R s mi args below meth c H locs cells slots kc nc (F0 mi pc ls (As.reverse ++ .ref (G.1 + cb) :: st)) st (xPost G D (fun v S' M' => xW G m (d + 1) (k - kc) (n - nc) Q (pc + 3) L (v.toList ++ st) S' M') (Value.ref (G.1 + cb) :: As).toArray) (fun q => G.1 ≤ q) := by
    rcases hlk with hlk | ⟨host, hlk⟩
    · exact va_runI hF (hC l D) ⟨callB_of np hts (xGoodM (m := (y2, cc2, ml2, none)) hcode) rfl rfl rfl (hts _ hini) (hts _ hlk) hyd hRm, hnm, hts _ hinst⟩ hP rfl hn hl.1 rfl (lv_room hroom) hd ⟨by omega, by omega⟩
    · exact va_runIN hF (hC l D) ⟨va_cnB np hts (xGoodM (m := (y2, cc2, ml2, none)) hcode) rfl rfl rfl (hctx.2.2.1 _ hlk) (hts _ hini) hyd hRm, hnm, hts _ hinst⟩ hP rfl hn hl.1 rfl (lv_room hroom) hd ⟨by omega, by omega⟩
  exact xcall fin hS (fun v S' M' H1 locs1 hR1 hQ hS1 => hQ l D p e R s mi args below meth c H1 locs1 (cells + kc) (slots + nc) Z ls (E.sub hk hnn) hR1 hS1 hl)
theorem xC_mono {as : List Value} {Q1 Q2 : Option Value → List xSh → xMem → Prop} (h : xC G m d k n as S M Q1) (hq : ∀ v S' M', Q1 v S' M' → Q2 v S' M') : xC G m d k n as S M Q2 := by
  intro l D p e ha hc hkk s mi args below hf happ hpre htr
  obtain ⟨j, o, h1, h2, h3, ⟨v, S', M', a1, a2, a3, a4⟩, h5⟩ := h l D p e ha hc hkk s mi args below hf happ hpre htr
  exact ⟨j, o, h1, h2, h3, ⟨v, S', M', a1, a2, hq _ _ _ a3, a4⟩, h5⟩
end XC2

/-! the law's own helpers: a call that may throw, caught -/
abbrev aL (y : ClassId) (v : Int64) : va_E := .inl (y, 1, .inr (.inl (fun _ => v)))
abbrev tyl (yI yC yD yL : ClassId) : List (ClassId × FieldType) := [(yI, .int), (yC, .char), (yD, .object RX0), (yL, .long)]
theorem cell_l {cA : ClassId} {f : Nat → Int64} {v : Int64} (h : f 0 = v) : vp_cell cA (1, .inr (.inl f)) = vp_cell cA (1, .inr (.inl (fun _ => v))) := by
  show arrV cA 1 (fun j => .long (f j)) = arrV cA 1 (fun j => .long v)
  unfold arrV
  congr 1
  apply Array.ext
  · simp
  · intro i h1 h2
    simp at h1
    subst h1
    simp [h]
theorem iv_ofWH {l : Launch} {y : MethodName} {ws ws' : List Cond} {rm : Room} {Pc : Array Value → State → Prop} {Qc : Array Value → State → Outcome → State → Prop} {mc ms : Nat} {free : Addr → Prop} {cc : ByteArray} {maxL : Nat} {ret : Option FieldType} {hh : List (Nat × Nat × Nat × Nat)}
    (hy : plainName y.cls = true) (hw : ws = Cond.codeWith y cc maxL ret hh :: ws')
    (body : ∀ p e s m args below meth c s₁, BodyLoose p l y (headSpec ws rm) cc maxL ret e s m args below meth c s₁ → c.maxLocals = maxL → Pc args s →
      W p l e (headSpec ws rm).room s m args below meth c s.heap [] 0 0 (MQ below Qc args s mc ms free) (entryFrame m args maxL)) : Met l y ws rm Pc Qc mc ms free := by
  refine MetFree.of_bodyS (code := cc) (maxLocals := maxL) (ret := ret) hy ?_ ?_
  · intro args s m h hn
    obtain ⟨m9, meth, c, hn9, h1, h2, h3, h4, -, h5, h6, -⟩ := Cond.codeWith_spec (atoms_spec (ws := ws) h _ (by rw [hw]; exact List.mem_cons_self))
    cases hn.symm.trans hn9
    exact ⟨meth, c, h1, h2, h3, h4, h5, h6⟩
  · intro p e s m args below meth c s₁ B hml hP _
    have hh0 : s₁.heap = s.heap := by rw [B.state]; rfl
    obtain ⟨t, a1, o, b1, b2, b3⟩ := body p e s m args below meth c s₁ B hml hP s₁ hh0 (Stand.of_body B)
    exact ⟨t, o, a1, b1, b2, ⟨b3.1, b3.2⟩⟩
section LX
variable {p : Program} {l : Launch} {e : Env} {R : Room} {s : State} {m : MethodId} {args : Array Value} {below : List Frame} {meth : Method} {c : Code} {H H0 : Heap} {locs : List Loc} {cells slots mc ms : Nat} {Q : State → Prop}
variable {y : MethodName} {bytes cc : ByteArray} {maxL nL n index pc : Nat} {ret : Option FieldType} {ws : List Cond} {rm : Room} {Ts : List Cond} {own C : String} {b : Addr} {As rest st : List Value} {ls : Array Slot}
variable {D : va_G} {tys : List (ClassId × FieldType)} {wc wr ws0 : va_W} {A : Nat → Prop} {S0 SX : Type} {XE : String → Prop} {wx : SX → va_W}
theorem iv_lxV {post : Int32 → S0 → Prop} {wp : S0 → va_W} {BP : S0 → State → Prop} (S : CallFix p m c cc nL s args Ts own) (hM : vx_Met l y ws rm (vxP (.ref b :: As) D tys wc H.size) (va_Qi post BP (va_A wc H.size)) (vxX D XE wx (va_A wc H.size)) mc ms (va_A wc H.size)) (cw : CallW R s args own C index y bytes maxL ret ws rm mc ms n) (hK : va_K D vwCl tys s) (hP : va_P D vwCl (wc ++ wr) H) (hD : va_D A (wc ++ wr)) (hS : va_S A s.heap H locs) (hA : ∀ q, s.heap.size ≤ q → A q) (hB : XB A s s.heap) {ci : Nat} {fs : List Value} {T : u_T} {N : Nat} (he : wc[0]? = some (b, .inr (ci, fs))) (hc : vwCl[ci]? = some (C, T, N))
    (hBP : ∀ (u : S0) (t : State), BP u t → va_P D vwCl (wp u) t.heap ∧ va_D (va_A wc H.size) (wp u)) (hFx : ∀ u, (wx u).map (·.1) = wc.map (·.1))
    (hn : As.length = n) (hsize : ls.size = nL) (hst : st = As.reverse ++ .ref b :: rest) (hr : (rest.map fun v => v.category).sum ≤ 8) (hdg : decode cc pc = .ok (.invokevirtual index, 3)) (hf : cells + mc ≤ R.cells ∧ slots + ms ≤ R.slots)
    (kx : ∀ (E : String) (ce : Cell) (q9 : Addr) (u : SX) (H1 : Heap) (locs1 : List Loc), XE E → va_P D vwCl (wx u ++ wr) H1 → va_D A (wx u ++ wr) → va_S A s.heap H1 locs1 → H1[q9]? = some ce → ce.vm = .none → s.vm.findClass E = some ce.cls → vx_W p l e R s m args below meth c H1 locs1 (cells + mc) (slots + ms) Q (F0 m pc ls rest) q9)
    (kk : ∀ (r : Int32) (u : S0) (H1 : Heap) (locs1 : List Loc), post r u → va_P D vwCl (wp u ++ wr) H1 → va_D A (wp u ++ wr) → va_S A s.heap H1 locs1 → W p l e R s m args below meth c H1 locs1 (cells + mc) (slots + ms) Q (F0 m (pc + 3) ls (.int r :: rest))) : W p l e R s m args below meth c H locs cells slots Q (F0 m pc ls st) := by
  have hFc := va_freeF hD hS hA
  refine vx_calli (vx_runV (As := As) (rest := rest) (b := b) (C := C) S hM cw ⟨vxP_blind, va_recv hK hP.l hc he, fun U hU hW => ⟨rfl, by rw [hU], by rw [hU]; exact hP.l, va_K.moved hW.alike hK, hD.l.weaken (fun _ _ _ _ => trivial), XB.at hB hS hFc hU hW⟩⟩ rfl hn hsize hst (lv_room (rest := st) hr) hdg hf) hS (fun q _ h => hFc q h) hFc (fun q _ h => hFc q h) (fun E ce q9 u t H1 locs1 ht hvm hp hB1 hz1 hk1 hS1 hc1 hv1 hcl1 => ?_) (fun r u t H1 locs1 ht hvm hw hB1 hz1 hk1 hS1 => ?_)
  · rw [ht] at hB1
    obtain ⟨h1, h2⟩ := va_fr hP hD hk1 hFc hB1.2 (va_D_fst hD.l.self (hFx u))
    exact kx E ce q9 u H1 locs1 hB1.1 h1 h2 hS1 hc1 hv1 hcl1
  · have hB2 := hBP u t hB1
    rw [ht] at hB2
    obtain ⟨h1, h2⟩ := va_fr hP hD hk1 hFc hB2.1 hB2.2
    exact kk r u H1 locs1 hw h1 h2 hS1
/-- the one number of the long array -/
theorem iv_lst (hx : p.tables.exec = Jvm.exec) (hb : c.code = cc) (hK : va_K D vwCl tys s) (hP : va_P D vwCl ws0 H) (hD : va_D A ws0) (hS : va_S A H0 H locs) (q0 t0 : Nat) {cA : ClassId} {a : Nat} {v x : Int64} (ha : ws0[q0]? = some (a, aL cA v)) (ht : tys[t0]? = some (cA, .long)) (hdg : decode cc pc = .ok (.lastore, 1))
    (kk : ∀ (H1 : Heap) (locs1 : List Loc), va_P D vwCl (ws0.set q0 (a, aL cA x)) H1 → va_D A (ws0.set q0 (a, aL cA x)) → va_S A H0 H1 locs1 → W p l e R s m args below meth c H1 locs1 cells slots Q (F0 m (pc + 1) ls rest)) : W p l e R s m args below meth c H locs cells slots Q (F0 m pc ls (.long x :: .int (iI 0) :: .ref a :: rest)) := by
  refine va_last hx hb hK hP hD hS q0 t0 ha ht (iI_in (by omega) (by omega) (by omega)) hdg (fun H1 locs1 g1 g2 g3 => ?_)
  have e9 : vp_updL (fun _ => v) (iI 0).toNatClampNeg x 0 = x := by
    rw [iI_cl (by omega)]
    exact if_pos rfl
  refine kk H1 locs1 (fun k q hq => ?_) ⟨fun i j x9 y9 hx9 hy9 hxy => ?_, fun k q hq => ?_⟩ g3
  · by_cases hk : k = q0
    · subst hk
      have hl := (List.getElem?_eq_some_iff.mp ha).1
      rw [List.getElem?_set_self hl] at hq
      cases hq
      have h9 := g1 k _ (List.getElem?_set_self hl)
      show H1[a]? = some (vp_cell cA (1, .inr (.inl (fun _ => x))))
      rw [← cell_l e9]
      exact h9
    · rw [List.getElem?_set_ne (Ne.symm hk)] at hq
      exact g1 k q (by rw [List.getElem?_set_ne (Ne.symm hk)]; exact hq)
  · have hD2 : va_D A (ws0.set q0 (a, aL cA x)) := hD.set ha
    exact hD2.1 i j x9 y9 hx9 hy9 hxy
  · have hD2 : va_D A (ws0.set q0 (a, aL cA x)) := hD.set ha
    exact hD2.2 k q hq
theorem iv_lld (hx : p.tables.exec = Jvm.exec) (hb : c.code = cc) (hK : va_K D vwCl tys s) (hP : va_P D vwCl ws0 H) (q0 t0 : Nat) {cA : ClassId} {a : Nat} {v : Int64} (ha : ws0[q0]? = some (a, aL cA v)) (ht : tys[t0]? = some (cA, .long)) (hdg : decode cc pc = .ok (.laload, 1))
    (kk : W p l e R s m args below meth c H locs cells slots Q (F0 m (pc + 1) ls (.long v :: rest))) : W p l e R s m args below meth c H locs cells slots Q (F0 m pc ls (.int (iI 0) :: .ref a :: rest)) := va_lald hx hb hK hP q0 t0 ha ht (iI_in (by omega) (by omega) (by omega)) hdg kk
end LX
/-! arrays of longs -/
abbrev aJ (y : ClassId) (n : Nat) (f : Nat → Int64) : va_E := .inl (y, n, .inr (.inl f))
section LJ
variable {p : Program} {l : Launch} {e : Env} {R : Room} {s : State} {m : MethodId} {args : Array Value} {below : List Frame} {meth : Method} {c : Code} {H H0 : Heap} {locs : List Loc} {cells slots : Nat} {Q : State → Prop}
variable {cc : ByteArray} {pc : Nat} {rest : List Value} {ls : Array Slot}
variable {D : va_G} {tys : List (ClassId × FieldType)} {ws0 : va_W} {A : Nat → Prop}
theorem iv_ljd (hx : p.tables.exec = Jvm.exec) (hb : c.code = cc) (hK : va_K D vwCl tys s) (hP : va_P D vwCl ws0 H) (q0 t0 : Nat) {cA : ClassId} {a n : Nat} {f : Nat → Int64} (ha : ws0[q0]? = some (a, aJ cA n f)) (ht : tys[t0]? = some (cA, .long)) {z : Int} (h0 : 0 ≤ z) (h1 : z < n) (h2 : n < 2147483648) (hdg : decode cc pc = .ok (.laload, 1))
    (kk : W p l e R s m args below meth c H locs cells slots Q (F0 m (pc + 1) ls (.long (f z.toNat) :: rest))) : W p l e R s m args below meth c H locs cells slots Q (F0 m pc ls (.int (iI z) :: .ref a :: rest)) := by
  have e9 : (iI z).toNatClampNeg = z.toNat := iI_cl ⟨by omega, by omega⟩
  refine va_lald hx hb hK hP q0 t0 ha ht (iI_in h0 h1 h2) hdg ?_
  rw [e9]
  exact kk
theorem iv_ljt (hx : p.tables.exec = Jvm.exec) (hb : c.code = cc) (hK : va_K D vwCl tys s) (hP : va_P D vwCl ws0 H) (hD : va_D A ws0) (hS : va_S A H0 H locs) (q0 t0 : Nat) {cA : ClassId} {a n : Nat} {f : Nat → Int64} {x : Int64} (ha : ws0[q0]? = some (a, aJ cA n f)) (ht : tys[t0]? = some (cA, .long)) {z : Int} (h0 : 0 ≤ z) (h1 : z < n) (h2 : n < 2147483648) (hdg : decode cc pc = .ok (.lastore, 1))
    (kk : ∀ (H1 : Heap) (locs1 : List Loc), va_P D vwCl (ws0.set q0 (a, aJ cA n (vp_updL f z.toNat x))) H1 → va_D A (ws0.set q0 (a, aJ cA n (vp_updL f z.toNat x))) → va_S A H0 H1 locs1 → W p l e R s m args below meth c H1 locs1 cells slots Q (F0 m (pc + 1) ls rest)) : W p l e R s m args below meth c H locs cells slots Q (F0 m pc ls (.long x :: .int (iI z) :: .ref a :: rest)) := by
  have e9 : (iI z).toNatClampNeg = z.toNat := iI_cl ⟨by omega, by omega⟩
  refine va_last hx hb hK hP hD hS q0 t0 ha ht (iI_in h0 h1 h2) hdg (fun H1 locs1 g1 g2 g3 => ?_)
  rw [e9] at g1 g2
  exact kk H1 locs1 g1 g2 g3
end LJ

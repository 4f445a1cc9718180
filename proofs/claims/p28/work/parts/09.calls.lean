/-! worlds: contracts of methods that only read, and of methods that write; calls that leave every cell at its place in the caller's list -/
abbrev tyz (yI yC yD : ClassId) : List (ClassId × FieldType) := [(yI, .int), (yC, .char), (yD, .object RX0)]
def roP (av : List Value) (D : va_G) (tys : List (ClassId × FieldType)) (ws : va_W) : Array Value → State → Prop := va_Pc av (fun U => va_P D vwCl ws U.heap ∧ va_K D vwCl tys U)
theorem roP_blind {av : List Value} {D : va_G} {tys : List (ClassId × FieldType)} {ws : va_W} : FrameBlind (roP av D tys ws) := fun a U g mk q => ⟨q.1, q.2.1, va_K.moved (u := U) (U := U.calling g mk a) (Vm.Alike.refl U.vm) q.2.2⟩
def rwP (av : List Value) (D : va_G) (tys : List (ClassId × FieldType)) (ws : va_W) (sz : Nat) : Array Value → State → Prop := va_Pc av (fun U => U.heap.size = sz ∧ va_P D vwCl ws U.heap ∧ va_K D vwCl tys U ∧ va_D (fun _ => True) ws)
theorem rwP_blind {av : List Value} {D : va_G} {tys : List (ClassId × FieldType)} {ws : va_W} {sz : Nat} : FrameBlind (rwP av D tys ws sz) := fun a U g mk q => ⟨q.1, q.2.1, q.2.2.1, va_K.moved (u := U) (U := U.calling g mk a) (Vm.Alike.refl U.vm) q.2.2.2.1, q.2.2.2.2⟩
/-- the cells at the places is are put in anew -/
def setAll : va_W → List Nat → va_W → va_W
  | ws, i :: is, q :: qs => setAll (ws.set i q) is qs
  | ws, _, _ => ws
theorem setAll_fst : ∀ (is : List Nat) (ws qs : va_W), (∀ (j i : Nat) (q : Nat × va_E), is[j]? = some i → qs[j]? = some q → ∃ p, ws[i]? = some p ∧ p.1 = q.1) → (setAll ws is qs).map (·.1) = ws.map (·.1)
  | [], ws, qs, _ => by cases qs <;> rfl
  | i :: is, ws, [], _ => rfl
  | i :: is, ws, q :: qs, h => by
    obtain ⟨p0, h1, h2⟩ := h 0 i q rfl rfl
    have e1 : (ws.set i q).map (·.1) = ws.map (·.1) := by
      apply List.ext_getElem?
      intro k
      rw [List.getElem?_map, List.getElem?_map]
      by_cases hk : k = i
      · subst hk
        rw [List.getElem?_set_self (List.getElem?_eq_some_iff.mp h1).1, h1]
        simp [h2]
      · rw [List.getElem?_set_ne (Ne.symm hk)]
    show (setAll (ws.set i q) is qs).map (·.1) = _
    rw [setAll_fst is (ws.set i q) qs, e1]
    intro j i' q' hj hq
    obtain ⟨p1, g1, g2⟩ := h (j + 1) i' q' hj hq
    have g3 : ((ws.set i q).map (·.1))[i']? = some p1.1 := by rw [e1, List.getElem?_map, g1]; rfl
    rw [List.getElem?_map] at g3
    cases hw : (ws.set i q)[i']? with
    | none => rw [hw] at g3; cases g3
    | some p2 =>
      rw [hw] at g3
      have g4 : p2.1 = p1.1 := Option.some.inj g3
      exact ⟨p2, rfl, g4.trans g2⟩
theorem setAll_get : ∀ (is : List Nat) (ws qs : va_W) (k : Nat) (q : Nat × va_E), is.length = qs.length → (setAll ws is qs)[k]? = some q → (∃ j : Nat, is[j]? = some k ∧ qs[j]? = some q) ∨ (k ∉ is ∧ ws[k]? = some q)
  | [], ws, [], k, q, _, h => Or.inr ⟨List.not_mem_nil, h⟩
  | [], _, _ :: _, _, _, hl, _ => by simp at hl
  | _ :: _, _, [], _, _, hl, _ => by simp at hl
  | i :: is, ws, p :: qs, k, q, hl, h => by
    have h' : (setAll (ws.set i p) is qs)[k]? = some q := h
    rcases setAll_get is (ws.set i p) qs k q (by simpa using hl) h' with ⟨j, h1, h2⟩ | ⟨h1, h2⟩
    · exact Or.inl ⟨j + 1, h1, h2⟩
    · by_cases hk : k = i
      · subst hk
        have hlt : k < ws.length := by
          have := (List.getElem?_eq_some_iff.mp h2).1
          simpa using this
        rw [List.getElem?_set_self hlt] at h2
        exact Or.inl ⟨0, rfl, h2⟩
      · rw [List.getElem?_set_ne (Ne.symm hk)] at h2
        exact Or.inr ⟨fun hm => (List.mem_cons.mp hm).elim hk h1, h2⟩
theorem va_D_fst {A : Nat → Prop} {ws ws' : va_W} (h : va_D A ws) (e : ws'.map (·.1) = ws.map (·.1)) : va_D A ws' := by
  have key : ∀ (k : Nat) (q : Nat × va_E), ws'[k]? = some q → ∃ q0, ws[k]? = some q0 ∧ q0.1 = q.1 := by
    intro k q hk
    have h1 : (ws'.map (·.1))[k]? = some q.1 := by rw [List.getElem?_map, hk]; rfl
    rw [e, List.getElem?_map] at h1
    cases hw : ws[k]? with
    | none => rw [hw] at h1; cases h1
    | some p => rw [hw] at h1; exact ⟨p, rfl, Option.some.inj h1⟩
  refine ⟨fun i j x y hi hj hxy => ?_, fun k q hk => ?_⟩
  · obtain ⟨x0, h1, h2⟩ := key i x hi
    obtain ⟨y0, h3, h4⟩ := key j y hj
    exact h.1 i j x0 y0 h1 h3 (h2.trans (hxy.trans h4.symm))
  · obtain ⟨q0, h1, h2⟩ := key k q hk
    rw [← h2]
    exact h.2 k q0 h1
/-- behind a call whose callee kept its cells' addresses: every cell at its place -/
theorem va_back {A : Nat → Prop} {D : va_G} {cl : List vw_C} {ws wc wc' ws1 : va_W} {H H1 : Heap} {isC : List Nat} (hP : va_P D cl ws H) (hD : va_D A ws) (hC : isC.map (fun i => ws[i]?) = wc.map some) (hF : wc'.map (·.1) = wc.map (·.1)) (hk : ∀ q : Nat, q < H.size → ¬ va_A wc H.size q → H1[q]? = H[q]?) (hP1 : va_P D cl wc' H1) (hs : setAll ws isC wc' = ws1) : va_P D cl ws1 H1 ∧ va_D A ws1 := by
  have hlen : isC.length = wc'.length := by
    have h1 := congrArg List.length hC
    have h2 := congrArg List.length hF
    simp at h1 h2
    omega
  have at' : ∀ (k : Nat) (q : Nat × va_E), wc[k]? = some q → ∃ i, isC[k]? = some i ∧ ws[i]? = some q := by
    intro k q hq
    have h1 : (isC.map (fun i => ws[i]?))[k]? = some (some q) := by rw [hC, List.getElem?_map, hq]; rfl
    rw [List.getElem?_map] at h1
    cases hi : isC[k]? with
    | none => rw [hi] at h1; cases h1
    | some i => rw [hi] at h1; exact ⟨i, rfl, Option.some.inj h1⟩
  subst hs
  refine ⟨fun k q hq => ?_, va_D_fst hD (setAll_fst _ _ _ ?_)⟩
  · rcases setAll_get isC ws wc' k q hlen hq with ⟨j, h1, h2⟩ | ⟨h1, h2⟩
    · exact hP1 j q h2
    · have hl := (hP k q h2).lt
      refine (hP k q h2).kept (hk q.1 hl (fun h => ?_))
      rcases h with ⟨j, e, h⟩ | h
      · obtain ⟨i, g1, g2⟩ := at' j _ h
        have hij := hD.1 k i q (q.1, e) h2 g2 rfl
        subst hij
        exact h1 (List.mem_of_getElem? g1)
      · omega
  · intro j i q hj hq
    have h1 : (wc'.map (·.1))[j]? = some q.1 := by rw [List.getElem?_map, hq]; rfl
    rw [hF, List.getElem?_map] at h1
    cases hw : wc[j]? with
    | none => rw [hw] at h1; cases h1
    | some p =>
      rw [hw] at h1
      obtain ⟨i', g1, g2⟩ := at' j p hw
      rw [hj] at g1
      cases g1
      exact ⟨p, g2, Option.some.inj h1⟩
theorem va_P.cv {D : va_G} {cl : List vw_C} {ws ws' : va_W} {H : Heap} (h : va_P D cl ws H) (e : ws = ws') : va_P D cl ws' H := e ▸ h
theorem va_D.cv {A : Nat → Prop} {ws ws' : va_W} (h : va_D A ws) (e : ws = ws') : va_D A ws' := e ▸ h
section CALLS
variable {p : Program} {l : Launch} {e : Env} {R : Room} {s : State} {m : MethodId} {args : Array Value} {below : List Frame} {meth : Method} {c : Code} {H H0 : Heap} {locs : List Loc} {cells slots : Nat} {Q : State → Prop}
variable {y : MethodName} {bytes cc : ByteArray} {maxL nL mc ms n index pc : Nat} {ret : Option FieldType} {ws : List Cond} {rm : Room} {Ts : List Cond} {own C : String} {b : Addr} {As rest st : List Value} {ls : Array Slot}
variable {D : va_G} {tys : List (ClassId × FieldType)} {ws0 wc wc' ws1 : va_W} {A : Nat → Prop}
/-- a call that only reads, of an object -/
theorem iv_roV {r : Int32} (S : CallFix p m c cc nL s args Ts own) (hM : Met l y ws rm (roP (.ref b :: As) D tys wc) (QcRead r) 0 0 (fun _ => False)) (cw : CallW R s args own C index y bytes maxL ret ws rm 0 0 n) (hK : va_K D vwCl tys s) (hP : va_P D vwCl ws0 H) (isC : List Nat) (hC : isC.filterMap (fun i => ws0[i]?) = wc) (q0 : Nat) {ci : Nat} {fs : List Value} {T : u_T} {N : Nat} (he : ws0[q0]? = some (b, .inr (ci, fs))) (hc : vwCl[ci]? = some (C, T, N))
    (hn : As.length = n) (hsize : ls.size = nL) (hst : st = As.reverse ++ .ref b :: rest) (hr : (rest.map fun v => v.category).sum ≤ 8) (hdg : decode cc pc = .ok (.invokevirtual index, 3)) (hf : cells ≤ R.cells ∧ slots ≤ R.slots)
    (kk : W p l e R s m args below meth c H locs cells slots Q (F0 m (pc + 3) ls (.int r :: rest))) : W p l e R s m args below meth c H locs cells slots Q (F0 m pc ls st) := by
  refine W.callR (W.runV (As := As) (rest := rest) (b := b) (C := C) S hM cw ⟨roP_blind, va_recv hK hP hc he, fun U hU hW => ⟨rfl, ?_, va_K.moved hW.alike hK⟩⟩ rfl hn hsize hst (lv_room (rest := st) hr) hdg hf) kk
  rw [hU]
  exact hP.sub isC hC
/-- a static call that only reads -/
theorem iv_roS {r : Int32} (S : CallFix p m c cc nL s args Ts own) (hM : Met l y ws rm (roP As D tys wc) (QcRead r) 0 0 (fun _ => False)) (cw : CallB R s args own index y bytes maxL ret ws rm 0 0 n ∧ (Cond.static y).before args s = true) (hK : va_K D vwCl tys s) (hP : va_P D vwCl ws0 H) (isC : List Nat) (hC : isC.filterMap (fun i => ws0[i]?) = wc)
    (hn : As.length = n) (hsize : ls.size = nL) (hst : st = As.reverse ++ rest) (hr : (rest.map fun v => v.category).sum ≤ 8) (hdg : decode cc pc = .ok (.invokestatic index, 3)) (hf : cells ≤ R.cells ∧ slots ≤ R.slots)
    (kk : W p l e R s m args below meth c H locs cells slots Q (F0 m (pc + 3) ls (.int r :: rest))) : W p l e R s m args below meth c H locs cells slots Q (F0 m pc ls st) := by
  refine W.callR (W.runS (As := As) (rest := rest) S hM cw ⟨roP_blind, fun U hU hW => ⟨rfl, ?_, va_K.moved hW.alike hK⟩⟩ rfl hn hsize hst (lv_room (rest := st) hr) hdg hf) kk
  rw [hU]
  exact hP.sub isC hC
theorem va_freeC (hD : va_D A ws0) (hS : va_S A H0 H locs) (hA : ∀ q, H0.size ≤ q → A q) {isC : List Nat} (hC : isC.map (fun i => ws0[i]?) = wc.map some) : ∀ q, va_A wc H.size q → A q := va_free hD hS hA isC hC
theorem map_filter {isC : List Nat} (hC : isC.map (fun i => ws0[i]?) = wc.map some) : isC.filterMap (fun i => ws0[i]?) = wc := by
  have h : ∀ (is : List Nat) (w : va_W), is.map (fun i => ws0[i]?) = w.map some → is.filterMap (fun i => ws0[i]?) = w := by
    intro is
    induction is with
    | nil => intro w h; cases w with
      | nil => rfl
      | cons => simp at h
    | cons i is ih => intro w h; cases w with
      | nil => simp at h
      | cons q w =>
        simp at h
        simp [h.1]
        exact ih w (by simpa using h.2)
  exact h isC wc hC
/-- a call that writes, of an object: an int comes back -/
theorem iv_rwV {S0 : Type} {post : Int32 → S0 → Prop} {wp : S0 → va_W} (S : CallFix p m c cc nL s args Ts own) (hM : Met l y ws rm (rwP (.ref b :: As) D tys wc H.size) (va_Qi post (fun u t => va_P D vwCl (wp u) t.heap) (va_A wc H.size)) 0 0 (va_A wc H.size)) (cw : CallW R s args own C index y bytes maxL ret ws rm 0 0 n) (hK : va_K D vwCl tys s) (hP : va_P D vwCl ws0 H) (hD : va_D A ws0) (hS : va_S A H0 H locs) (hA : ∀ q, H0.size ≤ q → A q) (isC : List Nat) (hnd : va_nd isC = true) (hC : isC.map (fun i => ws0[i]?) = wc.map some) (q0 : Nat) {ci : Nat} {fs : List Value} {T : u_T} {N : Nat} (he : ws0[q0]? = some (b, .inr (ci, fs))) (hc : vwCl[ci]? = some (C, T, N))
    (hn : As.length = n) (hsize : ls.size = nL) (hst : st = As.reverse ++ .ref b :: rest) (hr : (rest.map fun v => v.category).sum ≤ 8) (hdg : decode cc pc = .ok (.invokevirtual index, 3)) (hf : cells ≤ R.cells ∧ slots ≤ R.slots) (hF : ∀ u, (wp u).map (·.1) = wc.map (·.1))
    (kk : ∀ (r : Int32) (u : S0) (H1 : Heap) (locs1 : List Loc), post r u → va_P D vwCl (setAll ws0 isC (wp u)) H1 → va_D A (setAll ws0 isC (wp u)) → va_S A H0 H1 locs1 → W p l e R s m args below meth c H1 locs1 cells slots Q (F0 m (pc + 3) ls (.int r :: rest))) : W p l e R s m args below meth c H locs cells slots Q (F0 m pc ls st) := by
  have hFc := va_freeC hD hS hA hC
  refine va_calli (va_runV (As := As) (rest := rest) (b := b) (C := C) S hM cw ⟨rwP_blind, va_recv hK hP hc he, fun U hU hW => ⟨rfl, by rw [hU], by rw [hU]; exact hP.sub isC (map_filter hC), va_K.moved hW.alike hK, (hD.sub isC hnd hC).weaken (fun _ _ _ _ => trivial)⟩⟩ rfl hn hsize hst (lv_room (rest := st) hr) hdg hf) hS (fun q _ h => hFc q h) hFc (fun r u t H1 locs1 ht hvm hw hB hz1 hk1 hS1 => ?_)
  rw [ht] at hB
  obtain ⟨h1, h2⟩ := va_back hP hD hC (hF u) hk1 hB rfl
  exact kk r u H1 locs1 hw h1 h2 hS1
theorem iv_rwVv {S0 : Type} {post : S0 → Prop} {wp : S0 → va_W} (S : CallFix p m c cc nL s args Ts own) (hM : Met l y ws rm (rwP (.ref b :: As) D tys wc H.size) (va_Qv post (fun u t => va_P D vwCl (wp u) t.heap) (va_A wc H.size)) 0 0 (va_A wc H.size)) (cw : CallW R s args own C index y bytes maxL ret ws rm 0 0 n) (hK : va_K D vwCl tys s) (hP : va_P D vwCl ws0 H) (hD : va_D A ws0) (hS : va_S A H0 H locs) (hA : ∀ q, H0.size ≤ q → A q) (isC : List Nat) (hnd : va_nd isC = true) (hC : isC.map (fun i => ws0[i]?) = wc.map some) (q0 : Nat) {ci : Nat} {fs : List Value} {T : u_T} {N : Nat} (he : ws0[q0]? = some (b, .inr (ci, fs))) (hc : vwCl[ci]? = some (C, T, N))
    (hn : As.length = n) (hsize : ls.size = nL) (hst : st = As.reverse ++ .ref b :: rest) (hr : (rest.map fun v => v.category).sum ≤ 8) (hdg : decode cc pc = .ok (.invokevirtual index, 3)) (hf : cells ≤ R.cells ∧ slots ≤ R.slots) (hF : ∀ u, (wp u).map (·.1) = wc.map (·.1))
    (kk : ∀ (u : S0) (H1 : Heap) (locs1 : List Loc), post u → va_P D vwCl (setAll ws0 isC (wp u)) H1 → va_D A (setAll ws0 isC (wp u)) → va_S A H0 H1 locs1 → W p l e R s m args below meth c H1 locs1 cells slots Q (F0 m (pc + 3) ls rest)) : W p l e R s m args below meth c H locs cells slots Q (F0 m pc ls st) := by
  have hFc := va_freeC hD hS hA hC
  refine va_callv (va_runV (As := As) (rest := rest) (b := b) (C := C) S hM cw ⟨rwP_blind, va_recv hK hP hc he, fun U hU hW => ⟨rfl, by rw [hU], by rw [hU]; exact hP.sub isC (map_filter hC), va_K.moved hW.alike hK, (hD.sub isC hnd hC).weaken (fun _ _ _ _ => trivial)⟩⟩ rfl hn hsize hst (lv_room (rest := st) hr) hdg hf) hS (fun q _ h => hFc q h) hFc (fun u t H1 locs1 ht hvm hw hB hz1 hk1 hS1 => ?_)
  rw [ht] at hB
  obtain ⟨h1, h2⟩ := va_back hP hD hC (hF u) hk1 hB rfl
  exact kk u H1 locs1 hw h1 h2 hS1
theorem iv_rwSv {S0 : Type} {post : S0 → Prop} {wp : S0 → va_W} (S : CallFix p m c cc nL s args Ts own) (hM : Met l y ws rm (rwP As D tys wc H.size) (va_Qv post (fun u t => va_P D vwCl (wp u) t.heap) (va_A wc H.size)) 0 0 (va_A wc H.size)) (cw : CallB R s args own index y bytes maxL ret ws rm 0 0 n ∧ (Cond.static y).before args s = true) (hK : va_K D vwCl tys s) (hP : va_P D vwCl ws0 H) (hD : va_D A ws0) (hS : va_S A H0 H locs) (hA : ∀ q, H0.size ≤ q → A q) (isC : List Nat) (hnd : va_nd isC = true) (hC : isC.map (fun i => ws0[i]?) = wc.map some)
    (hn : As.length = n) (hsize : ls.size = nL) (hst : st = As.reverse ++ rest) (hr : (rest.map fun v => v.category).sum ≤ 8) (hdg : decode cc pc = .ok (.invokestatic index, 3)) (hf : cells ≤ R.cells ∧ slots ≤ R.slots) (hF : ∀ u, (wp u).map (·.1) = wc.map (·.1))
    (kk : ∀ (u : S0) (H1 : Heap) (locs1 : List Loc), post u → va_P D vwCl (setAll ws0 isC (wp u)) H1 → va_D A (setAll ws0 isC (wp u)) → va_S A H0 H1 locs1 → W p l e R s m args below meth c H1 locs1 cells slots Q (F0 m (pc + 3) ls rest)) : W p l e R s m args below meth c H locs cells slots Q (F0 m pc ls st) := by
  have hFc := va_freeC hD hS hA hC
  refine va_callv (va_runS (As := As) (rest := rest) S hM cw ⟨rwP_blind, fun U hU hW => ⟨rfl, by rw [hU], by rw [hU]; exact hP.sub isC (map_filter hC), va_K.moved hW.alike hK, (hD.sub isC hnd hC).weaken (fun _ _ _ _ => trivial)⟩⟩ rfl hn hsize hst (lv_room (rest := st) hr) hdg hf) hS (fun q _ h => hFc q h) hFc (fun u t H1 locs1 ht hvm hw hB hz1 hk1 hS1 => ?_)
  rw [ht] at hB
  obtain ⟨h1, h2⟩ := va_back hP hD hC (hF u) hk1 hB rfl
  exact kk u H1 locs1 hw h1 h2 hS1
end CALLS
section ARR
variable {p : Program} {l : Launch} {e : Env} {R : Room} {s : State} {m : MethodId} {args : Array Value} {below : List Frame} {meth : Method} {c : Code} {H H0 : Heap} {locs : List Loc} {cells slots : Nat} {Q : State → Prop}
variable {cc : ByteArray} {pc a : Nat} {ls : Array Slot} {rest : List Value} {D : va_G} {cl : List vw_C} {tys : List (ClassId × FieldType)} {ws : va_W} {A : Nat → Prop}
theorem iv_ald (hx : p.tables.exec = Jvm.exec) (hb : c.code = cc) (hK : va_K D cl tys s) (hP : va_P D cl ws H) (q0 t0 : Nat) {cA : ClassId} {n : Nat} {f : Int → Int} (ha : ws[q0]? = some (a, .inl (cA, n, .inl (ar f)))) (ht : tys[t0]? = some (cA, .int)) {z : Int} (h0 : 0 ≤ z) (h1 : z < n) (h2 : n < 2147483648) (hdg : decode cc pc = .ok (.iaload, 1))
    (kk : W p l e R s m args below meth c H locs cells slots Q (F0 m (pc + 1) ls (.int (iI (f z)) :: rest))) : W p l e R s m args below meth c H locs cells slots Q (F0 m pc ls (.int (iI z) :: .ref a :: rest)) := va_iald hx hb hK hP q0 t0 ha ht (iI_in h0 h1 h2) hdg (by rw [ar_at h0 (by omega)]; exact kk)
theorem iv_cald (hx : p.tables.exec = Jvm.exec) (hb : c.code = cc) (hK : va_K D cl tys s) (hP : va_P D cl ws H) (q0 t0 : Nat) {cA : ClassId} {n : Nat} {f : Int → Int} (ha : ws[q0]? = some (a, .inl (cA, n, .inl (ar f)))) (ht : tys[t0]? = some (cA, .char)) {z : Int} (h0 : 0 ≤ z) (h1 : z < n) (h2 : n < 2147483648) (hdg : decode cc pc = .ok (.caload, 1))
    (kk : W p l e R s m args below meth c H locs cells slots Q (F0 m (pc + 1) ls (.int (iI (f z)) :: rest))) : W p l e R s m args below meth c H locs cells slots Q (F0 m pc ls (.int (iI z) :: .ref a :: rest)) := va_cald hx hb hK hP q0 t0 ha ht (iI_in h0 h1 h2) hdg (by rw [ar_at h0 (by omega)]; exact kk)
theorem iv_ast (hx : p.tables.exec = Jvm.exec) (hb : c.code = cc) (hK : va_K D cl tys s) (hP : va_P D cl ws H) (hD : va_D A ws) (hS : va_S A H0 H locs) (q0 t0 : Nat) {cA : ClassId} {n : Nat} {f : Int → Int} (ha : ws[q0]? = some (a, .inl (cA, n, .inl (ar f)))) (ht : tys[t0]? = some (cA, .int)) {z v : Int} (h0 : 0 ≤ z) (h1 : z < n) (h2 : n < 2147483648) (hdg : decode cc pc = .ok (.iastore, 1))
    (kk : ∀ (H1 : Heap) (locs1 : List Loc), va_P D cl (ws.set q0 (a, .inl (cA, n, .inl (ar (up f z v))))) H1 → va_D A (ws.set q0 (a, .inl (cA, n, .inl (ar (up f z v))))) → va_S A H0 H1 locs1 → W p l e R s m args below meth c H1 locs1 cells slots Q (F0 m (pc + 1) ls rest)) : W p l e R s m args below meth c H locs cells slots Q (F0 m pc ls (.int (iI v) :: .int (iI z) :: .ref a :: rest)) :=
  va_iast hx hb hK hP hD hS q0 t0 ha ht (iI_in h0 h1 h2) hdg (fun H1 locs1 g1 g2 g3 => kk H1 locs1 (by rw [← ar_up h0 (by omega)]; exact g1) (by rw [← ar_up h0 (by omega)]; exact g2) g3)
theorem iv_cst (hx : p.tables.exec = Jvm.exec) (hb : c.code = cc) (hK : va_K D cl tys s) (hP : va_P D cl ws H) (hD : va_D A ws) (hS : va_S A H0 H locs) (q0 t0 : Nat) {cA : ClassId} {n : Nat} {f : Int → Int} (ha : ws[q0]? = some (a, .inl (cA, n, .inl (ar f)))) (ht : tys[t0]? = some (cA, .char)) {z v : Int} (h0 : 0 ≤ z) (h1 : z < n) (h2 : n < 2147483648) (h3 : vp_nar .char (iI v) = iI v) (hdg : decode cc pc = .ok (.castore, 1))
    (kk : ∀ (H1 : Heap) (locs1 : List Loc), va_P D cl (ws.set q0 (a, .inl (cA, n, .inl (ar (up f z v))))) H1 → va_D A (ws.set q0 (a, .inl (cA, n, .inl (ar (up f z v))))) → va_S A H0 H1 locs1 → W p l e R s m args below meth c H1 locs1 cells slots Q (F0 m (pc + 1) ls rest)) : W p l e R s m args below meth c H locs cells slots Q (F0 m pc ls (.int (iI v) :: .int (iI z) :: .ref a :: rest)) :=
  va_cast hx hb hK hP hD hS q0 t0 ha ht (iI_in h0 h1 h2) hdg (fun H1 locs1 g1 g2 g3 => kk H1 locs1 (by rw [← ar_up h0 (by omega), ← h3]; exact g1) (by rw [← ar_up h0 (by omega), ← h3]; exact g2) g3)
end ARR

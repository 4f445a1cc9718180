/-! rows for methods that make objects, and for methods that may throw -/
section FRAMES
/-- the cells of a call in front, the others behind -/
theorem va_fr {A0 : Nat → Prop} {D : va_G} {cl : List vw_C} {C C1 R : va_W} {H H1 : Heap} (hP : va_P D cl (C ++ R) H) (hD : va_D A0 (C ++ R)) (hk : ∀ q : Nat, q < H.size → ¬ va_A C H.size q → H1[q]? = H[q]?) (hF : ∀ q, va_A C H.size q → A0 q) (hP1 : va_P D cl C1 H1) (hD1 : va_D (va_A C H.size) C1) : va_P D cl (C1 ++ R) H1 ∧ va_D A0 (C1 ++ R) := by
  have hR : ∀ (k : Nat) (q : Nat × va_E), R[k]? = some q → (C ++ R)[C.length + k]? = some q := fun k q h => by
    rw [List.getElem?_append_right (by omega), Nat.add_sub_cancel_left]; exact h
  have apart : ∀ (k : Nat) (q : Nat × va_E), R[k]? = some q → q.1 < H.size ∧ ¬ va_A C H.size q.1 := by
    intro k q h
    have hl := (hP _ q (hR k q h)).lt
    refine ⟨hl, fun z => ?_⟩
    rcases z with ⟨j, e, hj⟩ | z
    · have hj2 : (C ++ R)[j]? = some (q.1, e) := by
        rw [List.getElem?_append_left (List.getElem?_eq_some_iff.mp hj).1]; exact hj
      have := hD.1 _ _ _ _ hj2 (hR k q h) rfl
      have := (List.getElem?_eq_some_iff.mp hj).1
      omega
    · omega
  refine ⟨hP1.app (fun k q h => ((hP _ q (hR k q h)).kept (hk q.1 (apart k q h).1 (apart k q h).2))), va_D.app (hD1.weaken (fun k q h z => hF _ z)) ⟨fun i j x y hx hy hxy => ?_, fun k q h => hD.2 _ q (hR k q h)⟩ (fun i j x y hx hy hxy => ?_)⟩
  · have := hD.1 _ _ x y (hR i x hx) (hR j y hy) hxy
    omega
  · exact (apart j y hy).2 (hxy ▸ hD1.2 i x hx)
theorem va_P.comm {D : va_G} {cl : List vw_C} {a b : va_W} {H : Heap} (h : va_P D cl (a ++ b) H) : va_P D cl (b ++ a) H := by
  have h2 : va_P D cl (([] ++ a) ++ b) H := h
  exact h2.swap
theorem va_D.comm {A : Nat → Prop} {a b : va_W} (h : va_D A (a ++ b)) : va_D A (b ++ a) := by
  have h2 : va_D A (([] ++ a) ++ b) := h
  exact h2.swap
theorem va_freeF {A0 : Nat → Prop} {C R : va_W} {H0 H : Heap} {locs : List Loc} (hD : va_D A0 (C ++ R)) (hS : va_S A0 H0 H locs) (hA : ∀ q, H0.size ≤ q → A0 q) : ∀ q, va_A C H.size q → A0 q := by
  intro q h
  rcases h with ⟨k, e, h⟩ | h
  · have h2 : (C ++ R)[k]? = some (q, e) := by
      rw [List.getElem?_append_left (List.getElem?_eq_some_iff.mp h).1]; exact h
    exact hD.2 k _ h2
  · exact hA q (Nat.le_trans hS.1 h)
theorem va_P.l {D : va_G} {cl : List vw_C} {a b : va_W} {H : Heap} (h : va_P D cl (a ++ b) H) : va_P D cl a H := fun k q hk => h k q (by rw [List.getElem?_append_left (List.getElem?_eq_some_iff.mp hk).1]; exact hk)
theorem va_D.l {A : Nat → Prop} {a b : va_W} (h : va_D A (a ++ b)) : va_D A a :=
  ⟨fun i j x y hx hy hxy => h.1 i j x y (by rw [List.getElem?_append_left (List.getElem?_eq_some_iff.mp hx).1]; exact hx) (by rw [List.getElem?_append_left (List.getElem?_eq_some_iff.mp hy).1]; exact hy) hxy, fun k q hk => h.2 k q (by rw [List.getElem?_append_left (List.getElem?_eq_some_iff.mp hk).1]; exact hk)⟩
theorem va_P.ext {D : va_G} {cl : List vw_C} {ws : va_W} {H H1 : Heap} (h : va_P D cl ws H) (hk : ∀ q : Nat, q < H.size → H1[q]? = H[q]?) : va_P D cl ws H1 := h.kept (fun k q hq => hk q.1 (h k q hq).lt)
end FRAMES
/-! what a method that may throw stands on -/
abbrev eA : String := "java/lang/IllegalArgumentException"
abbrev eS : String := "java/lang/IllegalStateException"
abbrev eI : String := "java/lang/IndexOutOfBoundsException"
abbrev nmX : List String := ["java/lang/RuntimeException", "java/lang/Exception"]
def xstr : List (Nat × String) := [(126, "no such number"), (138, "no such number of an answer"), (158, "negative"), (174, "no such setting"), (182, "the range is too narrow"), (190, "no such number of places"), (251, "no such place"), (254, "the last place is before the first"), (259, "no such answer")]
/-- what a method that makes objects stands on -/
def XN (U : State) : Prop := va_Nw (.methodLinkNest RX4 9 yX3_init "RiddleDrive") U ∧ va_Nw (.methodLinkNest RX4 18 yX0_init "RiddleDrive") U ∧ va_Nw (.methodLinkNest RX4 28 yX1_init "RiddleDrive") U ∧ va_Nw (.methodLinkNest RX4 35 yX2_init "RiddleDrive") U ∧ va_Nw (.methodLinkNest RX2 24 yX0_init "RiddleDrive") U ∧ va_AO RX0 U
theorem XN.moved {s U : State} (hW : s.WarmedH U.vm) (h : XN s) : XN U := ⟨va_Nw.warmM hW h.1, va_Nw.warmM hW h.2.1, va_Nw.warmM hW h.2.2.1, va_Nw.warmM hW h.2.2.2.1, va_Nw.warmM hW h.2.2.2.2.1, va_AO.moved hW.alike h.2.2.2.2.2⟩
def XB (A : Nat → Prop) (U : State) (H : Heap) : Prop :=
  (va_Nw (.castable eA eA) U ∧ va_Nw (.castable eS eS) U ∧ va_Nw (.castable eI eI) U) ∧
  (va_Nc eA eS U ∧ va_Nc eA eI U ∧ va_Nc eS eA U ∧ va_Nc eS eI U ∧ va_Nc eI eA U ∧ va_Nc eI eS U) ∧
  (vx_Zq Bundle.tN "UNASSIGNED_STACK" Bundle.steD A U H ∧ vx_Zq Bundle.tN "SUPPRESSED_SENTINEL" Bundle.listD A U H) ∧
  (∀ q ∈ xstr, ∃ sa, vk_R RX4 q.1 q.2 sa U) ∧
  (va_Nw (.declares (Bundle.initS "java/lang/RuntimeException")) U ∧ va_Nw (.declares (Bundle.initS "java/lang/Exception")) U ∧ va_Nw (.declares (Bundle.initS Bundle.tN)) U) ∧ XN U
theorem warmD {x : MethodName} {s U : State} (hW : s.WarmedH U.vm) (hZ : va_Nw (.declares x) s) : va_Nw (.declares x) U := va_tabs rfl (rfl : (s.setVm U.vm).vm = U.vm) (by rw [Cond.declares_setVm hW.alike]; exact hZ)
theorem XB.moved {A : Nat → Prop} {s U : State} {H : Heap} (hW : s.WarmedH U.vm) (h : XB A s H) : XB A U H := by
  obtain ⟨⟨a1, a2, a3⟩, ⟨b1, b2, b3, b4, b5, b6⟩, ⟨c1, c2⟩, d, ⟨e1, e2, e3⟩, f⟩ := h
  refine ⟨⟨a1.warmC hW, a2.warmC hW, a3.warmC hW⟩, ⟨b1.moved hW.alike, b2.moved hW.alike, b3.moved hW.alike, b4.moved hW.alike, b5.moved hW.alike, b6.moved hW.alike⟩, ⟨c1.moved hW.alike, c2.moved hW.alike⟩, fun q hq => ?_, ⟨warmD hW e1, warmD hW e2, warmD hW e3⟩, f.moved hW⟩
  obtain ⟨sa, h⟩ := d q hq
  exact ⟨sa, vk_R.warm hW h⟩
theorem XB.kept {A : Nat → Prop} {U : State} {H H1 : Heap} (h : XB A U H) (hq : ∀ a : Nat, a < H.size → ¬ A a → H1[a]? = H[a]?) : XB A U H1 := ⟨h.1, h.2.1, ⟨h.2.2.1.1.kept hq, h.2.2.1.2.kept hq⟩, h.2.2.2⟩
theorem XB.narrow {A B : Nat → Prop} {U : State} {H : Heap} (h : XB A U H) (hAB : ∀ q, B q → A q) : XB B U H := ⟨h.1, h.2.1, ⟨h.2.2.1.1.narrow hAB, h.2.2.1.2.narrow hAB⟩, h.2.2.2⟩
theorem XB.at {A B : Nat → Prop} {s U : State} {H : Heap} {locs : List Loc} (hB : XB A s s.heap) (hS : va_S A s.heap H locs) (hBA : ∀ q, B q → A q) (hU : U.heap = H) (hW : s.WarmedH U.vm) : XB B U U.heap := by
  rw [hU]
  exact ((hB.kept hS.2.1).narrow hBA).moved hW
def vxP (av : List Value) (D : va_G) (tys : List (ClassId × FieldType)) (ws : va_W) (sz : Nat) : Array Value → State → Prop := va_Pc av (fun U => U.heap.size = sz ∧ va_P D vwCl ws U.heap ∧ va_K D vwCl tys U ∧ va_D (fun _ => True) ws ∧ XB (va_A ws sz) U U.heap)
theorem vxP_blind {av : List Value} {D : va_G} {tys : List (ClassId × FieldType)} {ws : va_W} {sz : Nat} : FrameBlind (vxP av D tys ws sz) := fun a U g mk q => ⟨q.1, q.2.1, q.2.2.1, va_K.moved (u := U) (U := U.calling g mk a) (Vm.Alike.refl U.vm) q.2.2.2.1, q.2.2.2.2.1, XB.moved (s := U) (U := U.calling g mk a) (State.WarmedH.refl U) q.2.2.2.2.2⟩
def aoP (av : List Value) (D : va_G) (tys : List (ClassId × FieldType)) (ws : va_W) (sz : Nat) : Array Value → State → Prop := va_Pc av (fun U => U.heap.size = sz ∧ va_P D vwCl ws U.heap ∧ va_K D vwCl tys U ∧ va_D (fun _ => True) ws ∧ XN U)
theorem aoP_blind {av : List Value} {D : va_G} {tys : List (ClassId × FieldType)} {ws : va_W} {sz : Nat} : FrameBlind (aoP av D tys ws sz) := fun a U g mk q => ⟨q.1, q.2.1, q.2.2.1, va_K.moved (u := U) (U := U.calling g mk a) (Vm.Alike.refl U.vm) q.2.2.2.1, q.2.2.2.2.1, XN.moved (s := U) (U := U.calling g mk a) (State.WarmedH.refl U) q.2.2.2.2.2⟩
abbrev vxX {S : Type} (D : va_G) (XE : String → Prop) (wx : S → va_W) (A : Nat → Prop) : String → State → State → Prop := vx_X (S := S) (fun _ => True) (fun E u t => XE E ∧ va_P D vwCl (wx u) t.heap) A
section CALLX
variable {p : Program} {l : Launch} {e : Env} {R : Room} {s : State} {m : MethodId} {args : Array Value} {below : List Frame} {meth : Method} {c : Code} {H H0 : Heap} {locs : List Loc} {cells slots mc ms : Nat} {Q : State → Prop}
variable {y : MethodName} {bytes cc : ByteArray} {maxL nL n index pc : Nat} {ret : Option FieldType} {ws : List Cond} {rm : Room} {Ts : List Cond} {own C : String} {b : Addr} {As rest st : List Value} {ls : Array Slot}
variable {D : va_G} {tys : List (ClassId × FieldType)} {ws0 wc wq X cx wr : va_W} {A : Nat → Prop} {S0 SX : Type} {XE : String → Prop} {wx : SX → va_W}
/-- a call of a method that may throw, no object made: nothing comes back -/
theorem iv_vxVv {post : S0 → Prop} {wp : S0 → va_W} (S : CallFix p m c cc nL s args Ts own) (hM : vx_Met l y ws rm (vxP (.ref b :: As) D tys wc H.size) (va_Qv post (fun u t => va_P D vwCl (wp u) t.heap) (va_A wc H.size)) (vxX D XE wx (va_A wc H.size)) mc ms (va_A wc H.size)) (cw : CallW R s args own C index y bytes maxL ret ws rm mc ms n) (hK : va_K D vwCl tys s) (hP : va_P D vwCl ws0 H) (hD : va_D A ws0) (hS : va_S A s.heap H locs) (hA : ∀ q, s.heap.size ≤ q → A q) (hB : XB A s s.heap) (isC : List Nat) (hnd : va_nd isC = true) (hC : isC.map (fun i => ws0[i]?) = wc.map some) (q0 : Nat) {ci : Nat} {fs : List Value} {T : u_T} {N : Nat} (he : ws0[q0]? = some (b, .inr (ci, fs))) (hc : vwCl[ci]? = some (C, T, N))
    (hn : As.length = n) (hsize : ls.size = nL) (hst : st = As.reverse ++ .ref b :: rest) (hr : (rest.map fun v => v.category).sum ≤ 8) (hdg : decode cc pc = .ok (.invokevirtual index, 3)) (hf : cells + mc ≤ R.cells ∧ slots + ms ≤ R.slots) (hF : ∀ u, (wp u).map (·.1) = wc.map (·.1)) (hFx : ∀ u, (wx u).map (·.1) = wc.map (·.1))
    (kx : ∀ (E : String) (ce : Cell) (q9 : Addr) (u : SX) (H1 : Heap) (locs1 : List Loc), XE E → va_P D vwCl (setAll ws0 isC (wx u)) H1 → va_D A (setAll ws0 isC (wx u)) → va_S A s.heap H1 locs1 → H1[q9]? = some ce → ce.vm = .none → s.vm.findClass E = some ce.cls → vx_W p l e R s m args below meth c H1 locs1 (cells + mc) (slots + ms) Q (F0 m pc ls rest) q9)
    (kk : ∀ (u : S0) (H1 : Heap) (locs1 : List Loc), post u → va_P D vwCl (setAll ws0 isC (wp u)) H1 → va_D A (setAll ws0 isC (wp u)) → va_S A s.heap H1 locs1 → W p l e R s m args below meth c H1 locs1 (cells + mc) (slots + ms) Q (F0 m (pc + 3) ls rest)) : W p l e R s m args below meth c H locs cells slots Q (F0 m pc ls st) := by
  have hFc := va_freeC hD hS hA hC
  refine vx_callv (vx_runV (As := As) (rest := rest) (b := b) (C := C) S hM cw ⟨vxP_blind, va_recv hK hP hc he, fun U hU hW => ⟨rfl, by rw [hU], by rw [hU]; exact hP.sub isC (map_filter hC), va_K.moved hW.alike hK, (hD.sub isC hnd hC).weaken (fun _ _ _ _ => trivial), XB.at hB hS hFc hU hW⟩⟩ rfl hn hsize hst (lv_room (rest := st) hr) hdg hf) hS (fun q _ h => hFc q h) hFc (fun q _ h => hFc q h) (fun E ce q9 u t H1 locs1 ht hvm hp hB1 hz1 hk1 hS1 hc1 hv1 hcl1 => ?_) (fun u t H1 locs1 ht hvm hw hB1 hz1 hk1 hS1 => ?_)
  · rw [ht] at hB1
    obtain ⟨h1, h2⟩ := va_back hP hD hC (hFx u) hk1 hB1.2 rfl
    exact kx E ce q9 u H1 locs1 hB1.1 h1 h2 hS1 hc1 hv1 hcl1
  · rw [ht] at hB1
    obtain ⟨h1, h2⟩ := va_back hP hD hC (hF u) hk1 hB1 rfl
    exact kk u H1 locs1 hw h1 h2 hS1
/-- a call that makes objects (and may swallow the cells wq): nothing comes back -/
theorem iv_alVv {post : S0 → Prop} {wp : S0 → va_W} (S : CallFix p m c cc nL s args Ts own) (hM : Met l y ws rm (aoP (.ref b :: As) D tys (cx ++ wq) H.size) (va_Qv post (fun u t => va_P D vwCl (wp u) t.heap ∧ va_D (va_A (cx ++ wq) H.size) (wp u)) (va_A (cx ++ wq) H.size)) mc ms (va_A (cx ++ wq) H.size)) (cw : CallW R s args own C index y bytes maxL ret ws rm mc ms n) (hN : XN s) (hK : va_K D vwCl tys s) (hP : va_P D vwCl (X ++ wq) H) (hD : va_D A (X ++ wq)) (hS : va_S A H0 H locs) (hA : ∀ q, H0.size ≤ q → A q) (isC isR : List Nat) (hnd : va_nd isC = true) (hC : isC.map (fun i => X[i]?) = cx.map some) (hR : isR.map (fun i => X[i]?) = wr.map some) (hndR : va_nd isR = true) (hdis : ∀ i ∈ isR, i ∉ isC) (q0 : Nat) {ci : Nat} {fs : List Value} {T : u_T} {N : Nat} (he : (X ++ wq)[q0]? = some (b, .inr (ci, fs))) (hc : vwCl[ci]? = some (C, T, N))
    (hn : As.length = n) (hsize : ls.size = nL) (hst : st = As.reverse ++ .ref b :: rest) (hr : (rest.map fun v => v.category).sum ≤ 8) (hdg : decode cc pc = .ok (.invokevirtual index, 3)) (hf : cells + mc ≤ R.cells ∧ slots + ms ≤ R.slots)
    (kk : ∀ (u : S0) (H1 : Heap) (locs1 : List Loc), post u → va_P D vwCl (wr ++ wp u) H1 → va_D A (wr ++ wp u) → va_S A H0 H1 locs1 → W p l e R s m args below meth c H1 locs1 (cells + mc) (slots + ms) Q (F0 m (pc + 3) ls rest)) : W p l e R s m args below meth c H locs cells slots Q (F0 m pc ls st) := by
  have hFc : ∀ q, va_A (cx ++ wq) H.size q → A q := by
    intro q h
    rcases h with ⟨k, e9, h⟩ | h
    · exact hD.2 _ _ (va_part isC hC k _ h)
    · exact hA q (Nat.le_trans hS.1 h)
  refine va_callv (va_runV (As := As) (rest := rest) (b := b) (C := C) S hM cw ⟨aoP_blind, va_recv hK hP hc he, fun U hU hW => ⟨rfl, by rw [hU], by rw [hU]; exact hP.part isC hC, va_K.moved hW.alike hK, (hD.part isC hnd hC).weaken (fun _ _ _ _ => trivial), hN.moved hW⟩⟩ rfl hn hsize hst (lv_room (rest := st) hr) hdg hf) hS (fun q _ h => hFc q h) hFc (fun u t H1 locs1 ht hvm hw hB1 hz1 hk1 hS1 => ?_)
  rw [ht] at hB1
  have h9 := va_joinP (rx := wp u) (pl1 := []) hP hD isC isR hC hR hndR hdis hk1 hFc (by rw [List.append_nil]; exact hB1.1) (by rw [List.append_nil]; exact hB1.2)
  rw [List.append_nil] at h9
  exact kk u H1 locs1 hw h9.1 h9.2 hS1
/-- a new object and its constructor -/
theorem iv_newO {wp : Nat → S0 → va_W} {raw : List Value} {ci ic N : Nat} {T : u_T} (S : CallFix p m c cc nL s args Ts own) (hin : ∀ w ∈ u_ws C T N, w ∈ Ts) (ty : Nat → FieldType) (hty : ∀ k, k < N → parseFieldDescriptor (T k).2.2.1 = some (ty k)) (hcl : (Cond.classLink own index C).before args s = true) (hinst : (Cond.instantiable C N).before args s = true) (hini : (Cond.initialized C).before args s = true) (hc : vwCl[ci]? = some (C, T, N)) (hfs : ∀ j, j < N → defaultValue (ty j) = vp_V raw j)
    (hM : ∀ q sz : Nat, Met l y ws rm (rwP [.ref q] D tys [(q, .inr (ci, raw))] sz) (va_Qv (fun _ : S0 => True) (fun u t => va_P D vwCl (wp q u) t.heap ∧ va_D (va_A [(q, .inr (ci, raw))] sz) (wp q u)) (va_A [(q, .inr (ci, raw))] sz)) mc ms (va_A [(q, .inr (ci, raw))] sz))
    (cw : CallB R s args own ic y bytes maxL none ws rm mc ms 0 ∧ y.name = "<init>" ∧ (Cond.instanceMethod y).before args s = true)
    (hK : va_K D vwCl tys s) (hP : va_P D vwCl ws0 H) (hD : va_D A ws0) (hS : va_S A H0 H locs) (hA : ∀ q, H0.size ≤ q → A q) (hsize : ls.size = nL) (d0 : decode cc pc = .ok (.new index, 3)) (d3 : decode cc (pc + 3) = .ok (.dup, 1)) (d4 : decode cc (pc + 4) = .ok (.invokespecial ic, 3)) (hr : 1 + (rest.map fun v => v.category).sum ≤ 8) (hf : cells + 1 + mc ≤ R.cells ∧ slots + N + ms ≤ R.slots)
    (kk : ∀ (q : Nat) (u : S0) (H1 : Heap) (locs1 : List Loc), va_P D vwCl (ws0 ++ wp q u) H1 → va_D A (ws0 ++ wp q u) → va_S A H0 H1 locs1 → W p l e R s m args below meth c H1 locs1 (cells + 1 + mc) (slots + N + ms) Q (F0 m (pc + 7) ls (.ref q :: rest))) : W p l e R s m args below meth c H locs cells slots Q (F0 m pc ls rest) := by
  obtain ⟨hx, hb, hml, hown, hts⟩ := id S
  refine va_new (ci := ci) (fs := raw) (C := C) (T := T) (N := N) hx hb hts hin ty hty hown hcl hinst hini hK hP hD hS hA hc hfs (by omega) (by omega) d0 (fun q H hP hD hS => ?_)
  refine lv_dup hx hb d3 rfl ?_
  have hPq := hP.comm
  have hDq := hD.comm
  have hFc := va_freeF hDq hS hA
  refine va_callv (va_runI (As := []) (rest := .ref q :: rest) S (hM q H.size) cw ⟨rwP_blind, fun U hU hW => ⟨rfl, by rw [hU], by rw [hU]; exact hPq.l, va_K.moved hW.alike hK, (hDq.l).weaken (fun _ _ _ _ => trivial)⟩⟩ rfl rfl hsize rfl (lv_room (rest := .ref q :: .ref q :: rest) (by show (1 + (rest.map fun v => v.category).sum) ≤ 8; exact hr)) d4 hf) hS (fun q _ h => hFc q h) hFc (fun u t H1 locs1 ht hvm hw hB1 hz1 hk1 hS1 => ?_)
  rw [ht] at hB1
  obtain ⟨h1, h2⟩ := va_fr hPq hDq hk1 hFc hB1.1 hB1.2
  exact kk q u H1 locs1 h1.comm h2.comm hS1
/-- .. whose constructor makes an array of references -/
theorem iv_newOa {wp : Nat → S0 → va_W} {raw : List Value} {ci ic N : Nat} {T : u_T} (S : CallFix p m c cc nL s args Ts own) (hin : ∀ w ∈ u_ws C T N, w ∈ Ts) (ty : Nat → FieldType) (hty : ∀ k, k < N → parseFieldDescriptor (T k).2.2.1 = some (ty k)) (hcl : (Cond.classLink own index C).before args s = true) (hinst : (Cond.instantiable C N).before args s = true) (hini : (Cond.initialized C).before args s = true) (hc : vwCl[ci]? = some (C, T, N)) (hfs : ∀ j, j < N → defaultValue (ty j) = vp_V raw j)
    (hM : ∀ q sz : Nat, Met l y ws rm (aoP [.ref q] D tys [(q, .inr (ci, raw))] sz) (va_Qv (fun _ : S0 => True) (fun u t => va_P D vwCl (wp q u) t.heap ∧ va_D (va_A [(q, .inr (ci, raw))] sz) (wp q u)) (va_A [(q, .inr (ci, raw))] sz)) mc ms (va_A [(q, .inr (ci, raw))] sz))
    (cw : CallB R s args own ic y bytes maxL none ws rm mc ms 0 ∧ y.name = "<init>" ∧ (Cond.instanceMethod y).before args s = true)
    (hN : XN s) (hK : va_K D vwCl tys s) (hP : va_P D vwCl ws0 H) (hD : va_D A ws0) (hS : va_S A H0 H locs) (hA : ∀ q, H0.size ≤ q → A q) (hsize : ls.size = nL) (d0 : decode cc pc = .ok (.new index, 3)) (d3 : decode cc (pc + 3) = .ok (.dup, 1)) (d4 : decode cc (pc + 4) = .ok (.invokespecial ic, 3)) (hr : 1 + (rest.map fun v => v.category).sum ≤ 8) (hf : cells + 1 + mc ≤ R.cells ∧ slots + N + ms ≤ R.slots)
    (kk : ∀ (q : Nat) (u : S0) (H1 : Heap) (locs1 : List Loc), va_P D vwCl (ws0 ++ wp q u) H1 → va_D A (ws0 ++ wp q u) → va_S A H0 H1 locs1 → W p l e R s m args below meth c H1 locs1 (cells + 1 + mc) (slots + N + ms) Q (F0 m (pc + 7) ls (.ref q :: rest))) : W p l e R s m args below meth c H locs cells slots Q (F0 m pc ls rest) := by
  obtain ⟨hx, hb, hml, hown, hts⟩ := id S
  refine va_new (ci := ci) (fs := raw) (C := C) (T := T) (N := N) hx hb hts hin ty hty hown hcl hinst hini hK hP hD hS hA hc hfs (by omega) (by omega) d0 (fun q H hP hD hS => ?_)
  refine lv_dup hx hb d3 rfl ?_
  have hPq := hP.comm
  have hDq := hD.comm
  have hFc := va_freeF hDq hS hA
  refine va_callv (va_runI (As := []) (rest := .ref q :: rest) S (hM q H.size) cw ⟨aoP_blind, fun U hU hW => ⟨rfl, by rw [hU], by rw [hU]; exact hPq.l, va_K.moved hW.alike hK, (hDq.l).weaken (fun _ _ _ _ => trivial), hN.moved hW⟩⟩ rfl rfl hsize rfl (lv_room (rest := .ref q :: .ref q :: rest) (by show (1 + (rest.map fun v => v.category).sum) ≤ 8; exact hr)) d4 hf) hS (fun q _ h => hFc q h) hFc (fun u t H1 locs1 ht hvm hw hB1 hz1 hk1 hS1 => ?_)
  rw [ht] at hB1
  obtain ⟨h1, h2⟩ := va_fr hPq hDq hk1 hFc hB1.1 hB1.2
  exact kk q u H1 locs1 h1.comm h2.comm hS1
/-- nest mates: a new object and its constructor -/
theorem iv_newN {wp : Nat → S0 → va_W} {raw : List Value} {ci ic N : Nat} {T : u_T} (S : CallFix p m c cc nL s args Ts own) (hin : ∀ w ∈ u_ws C T N, w ∈ Ts) (ty : Nat → FieldType) (hty : ∀ k, k < N → parseFieldDescriptor (T k).2.2.1 = some (ty k)) (hcl : (Cond.classLink own index C).before args s = true) (hinst : (Cond.instantiable C N).before args s = true) (hini : (Cond.initialized C).before args s = true) (hc : vwCl[ci]? = some (C, T, N)) (hfs : ∀ j, j < N → defaultValue (ty j) = vp_V raw j)
    (hM : ∀ q sz : Nat, Met l y ws rm (rwP [.ref q] D tys [(q, .inr (ci, raw))] sz) (va_Qv (fun _ : S0 => True) (fun u t => va_P D vwCl (wp q u) t.heap ∧ va_D (va_A [(q, .inr (ci, raw))] sz) (wp q u)) (va_A [(q, .inr (ci, raw))] sz)) mc ms (va_A [(q, .inr (ci, raw))] sz))
    {host : String} (cw : va_CN R s args own ic y host bytes maxL none ws rm mc ms 0 ∧ y.name = "<init>" ∧ (Cond.instanceMethod y).before args s = true)
    (hK : va_K D vwCl tys s) (hP : va_P D vwCl ws0 H) (hD : va_D A ws0) (hS : va_S A H0 H locs) (hA : ∀ q, H0.size ≤ q → A q) (hsize : ls.size = nL) (d0 : decode cc pc = .ok (.new index, 3)) (d3 : decode cc (pc + 3) = .ok (.dup, 1)) (d4 : decode cc (pc + 4) = .ok (.invokespecial ic, 3)) (hr : 1 + (rest.map fun v => v.category).sum ≤ 8) (hf : cells + 1 + mc ≤ R.cells ∧ slots + N + ms ≤ R.slots)
    (kk : ∀ (q : Nat) (u : S0) (H1 : Heap) (locs1 : List Loc), va_P D vwCl (ws0 ++ wp q u) H1 → va_D A (ws0 ++ wp q u) → va_S A H0 H1 locs1 → W p l e R s m args below meth c H1 locs1 (cells + 1 + mc) (slots + N + ms) Q (F0 m (pc + 7) ls (.ref q :: rest))) : W p l e R s m args below meth c H locs cells slots Q (F0 m pc ls rest) := by
  obtain ⟨hx, hb, hml, hown, hts⟩ := id S
  refine va_new (ci := ci) (fs := raw) (C := C) (T := T) (N := N) hx hb hts hin ty hty hown hcl hinst hini hK hP hD hS hA hc hfs (by omega) (by omega) d0 (fun q H hP hD hS => ?_)
  refine lv_dup hx hb d3 rfl ?_
  have hPq := hP.comm
  have hDq := hD.comm
  have hFc := va_freeF hDq hS hA
  refine va_callv (va_runIN (As := []) (rest := .ref q :: rest) S (hM q H.size) cw ⟨rwP_blind, fun U hU hW => ⟨rfl, by rw [hU], by rw [hU]; exact hPq.l, va_K.moved hW.alike hK, (hDq.l).weaken (fun _ _ _ _ => trivial)⟩⟩ rfl rfl hsize rfl (lv_room (rest := .ref q :: .ref q :: rest) (by show (1 + (rest.map fun v => v.category).sum) ≤ 8; exact hr)) d4 hf) hS (fun q _ h => hFc q h) hFc (fun u t H1 locs1 ht hvm hw hB1 hz1 hk1 hS1 => ?_)
  rw [ht] at hB1
  obtain ⟨h1, h2⟩ := va_fr hPq hDq hk1 hFc hB1.1 hB1.2
  exact kk q u H1 locs1 h1.comm h2.comm hS1
/-- .. whose constructor makes an array of references -/
theorem iv_newNa {wp : Nat → S0 → va_W} {raw : List Value} {ci ic N : Nat} {T : u_T} (S : CallFix p m c cc nL s args Ts own) (hin : ∀ w ∈ u_ws C T N, w ∈ Ts) (ty : Nat → FieldType) (hty : ∀ k, k < N → parseFieldDescriptor (T k).2.2.1 = some (ty k)) (hcl : (Cond.classLink own index C).before args s = true) (hinst : (Cond.instantiable C N).before args s = true) (hini : (Cond.initialized C).before args s = true) (hc : vwCl[ci]? = some (C, T, N)) (hfs : ∀ j, j < N → defaultValue (ty j) = vp_V raw j)
    (hM : ∀ q sz : Nat, Met l y ws rm (aoP [.ref q] D tys [(q, .inr (ci, raw))] sz) (va_Qv (fun _ : S0 => True) (fun u t => va_P D vwCl (wp q u) t.heap ∧ va_D (va_A [(q, .inr (ci, raw))] sz) (wp q u)) (va_A [(q, .inr (ci, raw))] sz)) mc ms (va_A [(q, .inr (ci, raw))] sz))
    {host : String} (cw : va_CN R s args own ic y host bytes maxL none ws rm mc ms 0 ∧ y.name = "<init>" ∧ (Cond.instanceMethod y).before args s = true)
    (hN : XN s) (hK : va_K D vwCl tys s) (hP : va_P D vwCl ws0 H) (hD : va_D A ws0) (hS : va_S A H0 H locs) (hA : ∀ q, H0.size ≤ q → A q) (hsize : ls.size = nL) (d0 : decode cc pc = .ok (.new index, 3)) (d3 : decode cc (pc + 3) = .ok (.dup, 1)) (d4 : decode cc (pc + 4) = .ok (.invokespecial ic, 3)) (hr : 1 + (rest.map fun v => v.category).sum ≤ 8) (hf : cells + 1 + mc ≤ R.cells ∧ slots + N + ms ≤ R.slots)
    (kk : ∀ (q : Nat) (u : S0) (H1 : Heap) (locs1 : List Loc), va_P D vwCl (ws0 ++ wp q u) H1 → va_D A (ws0 ++ wp q u) → va_S A H0 H1 locs1 → W p l e R s m args below meth c H1 locs1 (cells + 1 + mc) (slots + N + ms) Q (F0 m (pc + 7) ls (.ref q :: rest))) : W p l e R s m args below meth c H locs cells slots Q (F0 m pc ls rest) := by
  obtain ⟨hx, hb, hml, hown, hts⟩ := id S
  refine va_new (ci := ci) (fs := raw) (C := C) (T := T) (N := N) hx hb hts hin ty hty hown hcl hinst hini hK hP hD hS hA hc hfs (by omega) (by omega) d0 (fun q H hP hD hS => ?_)
  refine lv_dup hx hb d3 rfl ?_
  have hPq := hP.comm
  have hDq := hD.comm
  have hFc := va_freeF hDq hS hA
  refine va_callv (va_runIN (As := []) (rest := .ref q :: rest) S (hM q H.size) cw ⟨aoP_blind, fun U hU hW => ⟨rfl, by rw [hU], by rw [hU]; exact hPq.l, va_K.moved hW.alike hK, (hDq.l).weaken (fun _ _ _ _ => trivial), hN.moved hW⟩⟩ rfl rfl hsize rfl (lv_room (rest := .ref q :: .ref q :: rest) (by show (1 + (rest.map fun v => v.category).sum) ≤ 8; exact hr)) d4 hf) hS (fun q _ h => hFc q h) hFc (fun u t H1 locs1 ht hvm hw hB1 hz1 hk1 hS1 => ?_)
  rw [ht] at hB1
  obtain ⟨h1, h2⟩ := va_fr hPq hDq hk1 hFc hB1.1 hB1.2
  exact kk q u H1 locs1 h1.comm h2.comm hS1
/-- 'throw new E("text")' in the class -/
theorem iv_thrG {ic ik is : Nat} {cls text : String} {Qc : Array Value → State → Outcome → State → Prop} (hx : p.tables.exec = Jvm.exec) (hb : c.code = cc) (hl : l.stackTraces = false) (hown : s.vm.findClass RX4 = some m.cls) (hcls : Bundle.fit cls = true) (hfilt : ∀ w ∈ (vx_atS RX4 ic cls nmX).filter (fun w => !goodWord w), w ∈ [Cond.castable cls cls, .declares (Bundle.initS "java/lang/RuntimeException"), .declares (Bundle.initS "java/lang/Exception"), .declares (Bundle.initS Bundle.tN)]) (hgood : ∀ w ∈ Cond.classLink RX4 ik cls :: Cond.initialized cls :: vx_atS RX4 ic cls nmX, vx_ot w = true) (hca : va_Nw (.castable cls cls) s) (hts : ∀ w ∈ Ts, w.before args s = true) (hg : ∀ w ∈ (vx_atS RX4 ic cls nmX).filter goodWord, w ∈ Ts) (hk : Cond.classLink RX4 ik cls ∈ Ts) (hi : Cond.initialized cls ∈ Ts)
    (hB : XB A s s.heap) (hS : va_S A s.heap H locs) (u : SX) (hP : va_P D vwCl (wx u) H) (hXE : XE cls) (hsize : ls.size = c.maxLocals) (hlocks : meth.locks = false) (hno : ∀ x ∈ c.exceptionTable.toList, False) (hstr : (is, text) ∈ xstr)
    (hR : 5 < R.frames ∧ (rest.map fun v => v.category).sum + 82 ≤ R.locals ∧ cells + 1 ≤ R.cells ∧ slots + 6 ≤ R.slots) (hc : cells + 1 ≤ mc) (hs : slots + 6 ≤ ms)
    (d0 : decode cc pc = .ok (.new ik, 3)) (d3 : decode cc (pc + 3) = .ok (.dup, 1)) (d4 : (decode cc (pc + 4) = .ok (.ldc is, 2) ∧ decode cc (pc + 6) = .ok (.invokespecial ic, 3) ∧ decode cc (pc + 9) = .ok (.athrow, 1)) ∨ (decode cc (pc + 4) = .ok (.ldc_w is, 3) ∧ decode cc (pc + 7) = .ok (.invokespecial ic, 3) ∧ decode cc (pc + 10) = .ok (.athrow, 1))) :
    W p l e R s m args below meth c H locs cells slots (vx_MQ below Qc (vxX D XE wx A) args s mc ms A) (F0 m pc ls rest) := by
  obtain ⟨sa, hsa⟩ := hB.2.2.2.1 _ hstr
  have hat := vx_hat (fun w h => hts w (hg w h)) hfilt (vx_c (va_Nw.use (A := args) rfl hca) (vx_c (va_Nw.use (A := args) rfl hB.2.2.2.2.1.1) (vx_c (va_Nw.use (A := args) rfl hB.2.2.2.2.1.2.1) (vx_c (va_Nw.use (A := args) rfl hB.2.2.2.2.1.2.2) vx_n))))
  have hxx : ∀ t : State, s.vm.Alike t.vm → H.size ≤ t.heap.size → (∀ q : Nat, q < H.size → t.heap[q]? = H[q]?) → vxX D XE wx A cls s t := fun t ha hz hq => ⟨u, trivial, ⟨hXE, hP.ext hq⟩, ⟨Nat.le_trans hS.1 hz, fun q h1 h2 => by rw [hq q (Nat.lt_of_lt_of_le h1 hS.1)]; exact hS.2.1 q h1 h2⟩⟩
  rcases d4 with ⟨d4, d6, d9⟩ | ⟨d4, d6, d9⟩
  · exact vx_throwS hx hb hl (own := RX4) (cls := cls) (text := text) (names := nmX) hown hcls (by decide) (hts _ hk) (hts _ hi) hsa hat hgood hB.2.2.1.1 hB.2.2.1.2 hS hsize d0 d3 d4 d6 d9 (fun x h => (hno x h).elim) hR.1 (by have := hR.2.1; simp only [nmX, List.length_cons, List.length_nil]; omega) hR.2.2.1 hR.2.2.2 hlocks hxx hS.2.2 hc hs
  · exact vx_throwSW hx hb hl (own := RX4) (cls := cls) (text := text) (names := nmX) hown hcls (by decide) (hts _ hk) (hts _ hi) hsa hat hgood hB.2.2.1.1 hB.2.2.1.2 hS hsize d0 d3 d4 d6 d9 (fun x h => (hno x h).elim) hR.1 (by have := hR.2.1; simp only [nmX, List.length_cons, List.length_nil]; omega) hR.2.2.1 hR.2.2.2 hlocks hxx hS.2.2 hc hs
/-- a throw of a callee that goes on -/
theorem iv_out {E : String} {ce : Cell} {q : Addr} {Qc : Array Value → State → Outcome → State → Prop} (hno : ∀ x ∈ c.exceptionTable.toList, False) (hlocks : meth.locks = false) (hcell : H[q]? = some ce) (hv : ce.vm = .none) (hcl : s.vm.findClass E = some ce.cls) (hS : va_S A s.heap H locs) (u : SX) (hP : va_P D vwCl (wx u) H) (hXE : XE E) (hc : cells ≤ mc) (hs : slots ≤ ms) : vx_W p l e R s m args below meth c H locs cells slots (vx_MQ below Qc (vxX D XE wx A) args s mc ms A) (F0 m pc ls rest) q :=
  vx_out (fun x hx => (hno x hx).elim) hlocks hcell hv hcl (fun t ht ha => ⟨u, trivial, ⟨hXE, by rw [ht]; exact hP⟩, hS.F ht⟩) hS.2.2 hc hs
end CALLX
theorem xfA : ∀ w ∈ (vx_atS RX4 52 eA nmX).filter (fun w => !goodWord w), w ∈ [Cond.castable eA eA, .declares (Bundle.initS "java/lang/RuntimeException"), .declares (Bundle.initS "java/lang/Exception"), .declares (Bundle.initS Bundle.tN)] := by decide +kernel
theorem xfS : ∀ w ∈ (vx_atS RX4 63 eS nmX).filter (fun w => !goodWord w), w ∈ [Cond.castable eS eS, .declares (Bundle.initS "java/lang/RuntimeException"), .declares (Bundle.initS "java/lang/Exception"), .declares (Bundle.initS Bundle.tN)] := by decide +kernel
theorem xfI : ∀ w ∈ (vx_atS RX4 253 eI nmX).filter (fun w => !goodWord w), w ∈ [Cond.castable eI eI, .declares (Bundle.initS "java/lang/RuntimeException"), .declares (Bundle.initS "java/lang/Exception"), .declares (Bundle.initS Bundle.tN)] := by decide +kernel
theorem xgA : ∀ w ∈ Cond.classLink RX4 48 eA :: Cond.initialized eA :: vx_atS RX4 52 eA nmX, vx_ot w = true := by decide +kernel
theorem xgS : ∀ w ∈ Cond.classLink RX4 59 eS :: Cond.initialized eS :: vx_atS RX4 63 eS nmX, vx_ot w = true := by decide +kernel
theorem xgI : ∀ w ∈ Cond.classLink RX4 249 eI :: Cond.initialized eI :: vx_atS RX4 253 eI nmX, vx_ot w = true := by decide +kernel
theorem bfA : Bundle.fit eA = true := by decide +kernel
theorem bfS : Bundle.fit eS = true := by decide +kernel
theorem bfI : Bundle.fit eI = true := by decide +kernel
abbrev rawX0 : List Value := [.int (iI 0), .int (iI 0), .int (iI 0), .int (iI 0), .int (iI 0), .int (iI 0), .int (iI 0), .int (iI 0), .long 0, .null]
abbrev rawX1 : List Value := [.int (iI 0), .null]
abbrev rawX2 : List Value := [.null, .int (iI 0), .int (iI 0)]
abbrev rawX3 : List Value := [.null, .int (iI 0), .int (iI 0), .int (iI 0)]
abbrev rawX4 : List Value := [.null, .null, .null, .null, .null, .null]
theorem dfX0 : ∀ j, j < 10 → defaultValue (tyX0 j) = vp_V rawX0 j := fun j hj => by
  rcases (show j = 0 ∨ j = 1 ∨ j = 2 ∨ j = 3 ∨ j = 4 ∨ j = 5 ∨ j = 6 ∨ j = 7 ∨ j = 8 ∨ j = 9 by omega) with rfl | rfl | rfl | rfl | rfl | rfl | rfl | rfl | rfl | rfl <;> rfl
theorem dfX1 : ∀ j, j < 2 → defaultValue (tyX1 j) = vp_V rawX1 j := fun j hj => by
  rcases (show j = 0 ∨ j = 1 by omega) with rfl | rfl <;> rfl
theorem dfX2 : ∀ j, j < 3 → defaultValue (tyX2 j) = vp_V rawX2 j := fun j hj => by
  rcases (show j = 0 ∨ j = 1 ∨ j = 2 by omega) with rfl | rfl | rfl <;> rfl
theorem dfX3 : ∀ j, j < 4 → defaultValue (tyX3 j) = vp_V rawX3 j := fun j hj => by
  rcases (show j = 0 ∨ j = 1 ∨ j = 2 ∨ j = 3 by omega) with rfl | rfl | rfl | rfl <;> rfl
theorem dfX4 : ∀ j, j < 6 → defaultValue (tyX4 j) = vp_V rawX4 j := fun j hj => by
  rcases (show j = 0 ∨ j = 1 ∨ j = 2 ∨ j = 3 ∨ j = 4 ∨ j = 5 by omega) with rfl | rfl | rfl | rfl | rfl | rfl <;> rfl
section NEWA
variable {p : Program} {l : Launch} {e : Env} {R : Room} {s : State} {m : MethodId} {args : Array Value} {below : List Frame} {meth : Method} {c : Code} {H H0 : Heap} {locs : List Loc} {cells slots : Nat} {Q : State → Prop}
variable {cc : ByteArray} {pc : Nat} {ls : Array Slot} {rest : List Value} {D : va_G} {cl : List vw_C} {tys : List (ClassId × FieldType)} {ws : va_W} {A : Nat → Prop}
theorem va_K.last {cA : ClassId} {ty : FieldType} (h : va_K D cl (tys ++ [(cA, ty)]) s) : va_RA s cA ty := (h.2 tys.length (cA, ty) (by rw [List.getElem?_append_right (Nat.le_refl _), Nat.sub_self]; rfl)).2
theorem ra_int {a b : ClassId} (h1 : va_RA s a .int) (h2 : va_RA s b .int) : a = b := Option.some.inj (h1.symm.trans h2)
theorem ra_char {a b : ClassId} (h1 : va_RA s a .char) (h2 : va_RA s b .char) : a = b := Option.some.inj (h1.symm.trans h2)
theorem ra_obj {C : String} {a b : ClassId} (h1 : va_RA s a (.object C)) (h2 : va_RA s b (.object C)) : a = b := by
  obtain ⟨_, _, -, -, -, h3⟩ := h1
  obtain ⟨_, _, -, -, -, h4⟩ := h2
  exact Option.some.inj (h3.symm.trans h4)
/-- a new array of ints, all 0 -/
theorem iv_newI (hx : p.tables.exec = Jvm.exec) (hb : c.code = cc) (harr : (Cond.arrayClass .int).before args s = true) (hK : va_K D cl tys s) (hP : va_P D cl ws H) (hD : va_D A ws) (hS : va_S A H0 H locs) (hA : ∀ q, H0.size ≤ q → A q) (t0 : Nat) {yI : ClassId} (ht : tys[t0]? = some (yI, .int)) {z : Int} {N' : Nat} (hz : z = N' ∧ N' < 100000) (hcells : cells + 1 ≤ R.cells) (hslots : slots + N' ≤ R.slots) (hdg : decode cc pc = .ok (.newarray .int, 2))
    (kk : ∀ (q : Nat) (H1 : Heap), va_P D cl (ws ++ [(q, aI yI N' (fun _ => 0))]) H1 → va_D A (ws ++ [(q, aI yI N' (fun _ => 0))]) → va_S A H0 H1 locs → W p l e R s m args below meth c H1 locs (cells + 1) (slots + N') Q (F0 m (pc + 2) ls (.ref q :: rest))) : W p l e R s m args below meth c H locs cells slots Q (F0 m pc ls (.int (iI z) :: rest)) := by
  have hzi : (iI z).toInt = z := iI_toInt (by omega)
  refine va_newa (atype := .int) (ty := .int) (N' := N') (a0 := (N', .inl (fun _ => (0 : Int32)))) hx hb harr rfl hK hP hD hS hA (fun cA => rfl) (fun q => by rw [Int32.lt_iff_toInt_lt, hzi] at q; have : (0 : Int32).toInt = 0 := (by decide +kernel); omega) (by rw [iI_cl (by omega)]; omega) (by show N' * 4 ≤ _; omega) hcells hslots hdg (fun q cA H1 hK1 hP1 hD1 hS1 => ?_)
  have e9 := ra_int hK1.last (hK.2 t0 _ ht).2
  subst e9
  have e8 : (aI cA N' (fun _ => 0) : va_E) = .inl (cA, N', .inl (fun _ => (0 : Int32))) := congrArg (fun f => (.inl (cA, N', .inl f) : va_E)) ar_0
  exact kk q H1 (by show va_P D cl (ws ++ [(q, aI cA N' (fun _ => 0))]) H1; rw [e8]; exact hP1) (by show va_D A (ws ++ [(q, aI cA N' (fun _ => 0))]); rw [e8]; exact hD1) hS1
theorem iv_newC (hx : p.tables.exec = Jvm.exec) (hb : c.code = cc) (harr : (Cond.arrayClass .char).before args s = true) (hK : va_K D cl tys s) (hP : va_P D cl ws H) (hD : va_D A ws) (hS : va_S A H0 H locs) (hA : ∀ q, H0.size ≤ q → A q) (t0 : Nat) {yC : ClassId} (ht : tys[t0]? = some (yC, .char)) {z : Int} {N' : Nat} (hz : z = N' ∧ N' < 100000) (hcells : cells + 1 ≤ R.cells) (hslots : slots + N' ≤ R.slots) (hdg : decode cc pc = .ok (.newarray .char, 2))
    (kk : ∀ (q : Nat) (H1 : Heap), va_P D cl (ws ++ [(q, aC yC N' (fun _ => 0))]) H1 → va_D A (ws ++ [(q, aC yC N' (fun _ => 0))]) → va_S A H0 H1 locs → W p l e R s m args below meth c H1 locs (cells + 1) (slots + N') Q (F0 m (pc + 2) ls (.ref q :: rest))) : W p l e R s m args below meth c H locs cells slots Q (F0 m pc ls (.int (iI z) :: rest)) := by
  have hzi : (iI z).toInt = z := iI_toInt (by omega)
  refine va_newa (atype := .char) (ty := .char) (N' := N') (a0 := (N', .inl (fun _ => (0 : Int32)))) hx hb harr rfl hK hP hD hS hA (fun cA => rfl) (fun q => by rw [Int32.lt_iff_toInt_lt, hzi] at q; have : (0 : Int32).toInt = 0 := (by decide +kernel); omega) (by rw [iI_cl (by omega)]; omega) (by show N' * 2 ≤ _; omega) hcells hslots hdg (fun q cA H1 hK1 hP1 hD1 hS1 => ?_)
  have e9 := ra_char hK1.last (hK.2 t0 _ ht).2
  subst e9
  have e8 : (aI cA N' (fun _ => 0) : va_E) = .inl (cA, N', .inl (fun _ => (0 : Int32))) := congrArg (fun f => (.inl (cA, N', .inl f) : va_E)) ar_0
  exact kk q H1 (by show va_P D cl (ws ++ [(q, aI cA N' (fun _ => 0))]) H1; rw [e8]; exact hP1) (by show va_D A (ws ++ [(q, aI cA N' (fun _ => 0))]); rw [e8]; exact hD1) hS1
/-- a new array of references, all null -/
theorem iv_newD (hx : p.tables.exec = Jvm.exec) (hb : c.code = cc) {own C : String} {index : Nat} (hown : s.vm.findClass own = some m.cls) (hclink : (Cond.classLink own index C).before args s = true) (hover : va_AO C s) (hK : va_K D cl tys s) (hP : va_P D cl ws H) (hD : va_D A ws) (hS : va_S A H0 H locs) (hA : ∀ q, H0.size ≤ q → A q) (t0 : Nat) {yD : ClassId} (ht : tys[t0]? = some (yD, .object C)) {z : Int} {N' : Nat} (hz : z = N' ∧ N' < 100000) (hcells : cells + 1 ≤ R.cells) (hslots : slots + N' ≤ R.slots) (hdg : decode cc pc = .ok (.anewarray index, 3))
    (kk : ∀ (q : Nat) (H1 : Heap), va_P D cl (ws ++ [(q, aD yD N' (fun _ => none))]) H1 → va_D A (ws ++ [(q, aD yD N' (fun _ => none))]) → va_S A H0 H1 locs → W p l e R s m args below meth c H1 locs (cells + 1) (slots + N') Q (F0 m (pc + 3) ls (.ref q :: rest))) : W p l e R s m args below meth c H locs cells slots Q (F0 m pc ls (.int (iI z) :: rest)) := by
  have hzi : (iI z).toInt = z := iI_toInt (by omega)
  refine va_newq (N' := N') hx hb hown hclink hover hK hP hD hS hA (fun q => by rw [Int32.lt_iff_toInt_lt, hzi] at q; have : (0 : Int32).toInt = 0 := (by decide +kernel); omega) (by rw [iI_cl (by omega)]; omega) (by omega) hcells hslots hdg (fun q cA H1 hK1 hP1 hD1 hS1 => ?_)
  have e9 := ra_obj hK1.last (hK.2 t0 _ ht).2
  subst e9
  exact kk q H1 hP1 hD1 hS1
end NEWA
theorem rf_s {q : Nat} : va_rf (some q) = .ref q := rfl
theorem rf_n : va_rf none = .null := rfl

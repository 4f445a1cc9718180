/-! the law: what holds at its loop's head -/
theorem perm6 {a b c w A1 A2 : va_W} : ((a ++ (b ++ c)) ++ (A1 ++ (w ++ A2))).Perm (((a ++ w) ++ b) ++ (c ++ (A1 ++ A2))) := by
  refine mid_perm.trans ?_
  have h1 : ((b ++ c) ++ (w ++ (A1 ++ A2))).Perm (w ++ ((b ++ c) ++ (A1 ++ A2))) := by
    rw [← List.append_assoc (b ++ c) w, ← List.append_assoc w (b ++ c)]
    exact List.Perm.append_right _ List.perm_append_comm
  simp only [List.append_assoc] at h1 ⊢
  exact List.Perm.append_left a h1
theorem cmp_self (x : Int64) : lg_cmp x x = iI 0 := by
  have h := cmp_e (x := x) (y := x) (b := x.toInt) rfl
  rw [h]
  unfold cmpI
  rw [if_neg (by omega), if_pos rfl]
theorem and31 (x : Int32) : ∃ z : Int, 0 ≤ z ∧ z ≤ 31 ∧ x &&& iI 31 = iI z := by
  obtain ⟨n, hn, rfl⟩ := wb_of32 x
  have h1 : nI n &&& iI 31 = nI (n &&& 31) := by
    apply Int32.toBitVec_inj.mp
    show BitVec.ofNat 32 n &&& (31 : BitVec 32) = BitVec.ofNat 32 (n &&& 31)
    apply BitVec.eq_of_toNat_eq
    rw [BitVec.toNat_and, BitVec.toNat_ofNat, BitVec.toNat_ofNat, Nat.mod_eq_of_lt hn, Nat.mod_eq_of_lt (Nat.lt_of_le_of_lt Nat.and_le_right (by decide))]
    rfl
  refine ⟨((n &&& 31 : Nat) : Int), by omega, ?_, by rw [h1, nI_iI]⟩
  have : n &&& 31 ≤ 31 := Nat.and_le_right
  omega
section LAWR
variable {p : Program} {l : Launch} {e : Env} {R : Room} {s : State} {m : MethodId} {args : Array Value} {below : List Frame} {meth : Method} {c : Code} {H H0 : Heap} {locs : List Loc} {cells slots mc ms : Nat} {Q : State → Prop}
variable {y : MethodName} {bytes cc : ByteArray} {maxL nL n index pc : Nat} {ret : Option FieldType} {ws : List Cond} {rm : Room} {Ts : List Cond} {own C : String} {b : Addr} {As rest st : List Value} {ls : Array Slot} {hh : List (Nat × Nat × Nat × Nat)}
variable {D : va_G} {tys : List (ClassId × FieldType)} {X cx wr pl RR : va_W} {A : Nat → Prop} {S0 : Type}
theorem iv_sld (hx : p.tables.exec = Jvm.exec) (hb : c.code = cc) {L : Nat} {xs : Nat → Int32} (hX : va_X b L xs s s.heap) (hbl : b < s.heap.size) (hbA : ¬ A b) (hS : va_S A s.heap H locs) {j z : Int} (hz : xs j.toNat = iI z) (h0 : 0 ≤ j ∧ j < L ∧ L ≤ 2048) (hdg : decode cc pc = .ok (.iaload, 1))
    (kk : W p l e R s m args below meth c H locs cells slots Q (F0 m (pc + 1) ls (.int (iI z) :: rest))) : W p l e R s m args below meth c H locs cells slots Q (F0 m pc ls (.int (iI j) :: .ref b :: rest)) :=
  va_sld hx hb hX hbl hbA hS (iI_in (by omega) (by omega) (by omega)) hdg (by rw [iI_cl (by omega), hz]; exact kk)
/-- a call of a helper of the law's, its cells in front -/
theorem iv_lawF {post : Int32 → S0 → Prop} {wp : S0 → va_W} (S : CallFix p m c cc nL s args Ts own) (hM : Met l y ws rm (vxP As D tys cx H.size) (va_Qi post (fun u t => va_P D vwCl (wp u) t.heap ∧ va_D (va_A cx H.size) (wp u)) (va_A cx H.size)) mc ms (va_A cx H.size)) (cw : vx_CSW R s args own index y bytes maxL ret hh ws rm mc ms n) (hK : va_K D vwCl tys s) (hP : va_P D vwCl (cx ++ RR) H) (hD : va_D A (cx ++ RR)) (hS : va_S A s.heap H locs) (hA : ∀ q, s.heap.size ≤ q → A q) (hB : XB A s s.heap)
    (hn : As.length = n) (hsize : ls.size = nL) (hst : st = As.reverse ++ rest) (hr : (rest.map fun v => v.category).sum ≤ 8) (hdg : decode cc pc = .ok (.invokestatic index, 3)) (hf : cells + mc ≤ R.cells ∧ slots + ms ≤ R.slots)
    (kk : ∀ (r : Int32) (u : S0) (H1 : Heap) (locs1 : List Loc), post r u → va_P D vwCl (wp u ++ RR) H1 → va_D A (wp u ++ RR) → va_S A s.heap H1 locs1 → W p l e R s m args below meth c H1 locs1 (cells + mc) (slots + ms) Q (F0 m (pc + 3) ls (.int r :: rest))) : W p l e R s m args below meth c H locs cells slots Q (F0 m pc ls st) := by
  have hFc := va_freeF hD hS hA
  refine va_calli (vx_runSW (As := As) (rest := rest) S hM cw ⟨vxP_blind, fun U hU hW => ⟨rfl, by rw [hU], by rw [hU]; exact hP.l, va_K.moved hW.alike hK, hD.l.weaken (fun _ _ _ _ => trivial), XB.at hB hS hFc hU hW⟩⟩ rfl hn hsize hst (lv_room (rest := st) hr) hdg hf) hS (fun q _ h => hFc q h) hFc (fun r u t H1 locs1 ht hvm hw hB1 hz1 hk1 hS1 => ?_)
  rw [ht] at hB1
  obtain ⟨h1, h2⟩ := va_fr hP hD hk1 hFc hB1.1 hB1.2
  exact kk r u H1 locs1 hw h1 h2 hS1
end LAWR
theorem va_P.re {D : va_G} {cl : List vw_C} {X Y pl : va_W} {H : Heap} (h : va_P D cl (X ++ pl) H) (is : List Nat) (hs : is.map (fun i => X[i]?) = Y.map some) : va_P D cl (Y ++ pl) H := h.part is hs
theorem va_D.re {A : Nat → Prop} {X Y pl : va_W} (h : va_D A (X ++ pl)) (is : List Nat) (hn : va_nd is = true) (hs : is.map (fun i => X[i]?) = Y.map some) : va_D A (Y ++ pl) := h.part is hn hs
theorem mid2 {a c w A1 A2 : va_W} : ((a ++ c) ++ (A1 ++ (w ++ A2))).Perm ((a ++ w) ++ (c ++ (A1 ++ A2))) := by
  have h := perm6 (a := a) (b := []) (c := c) (w := w) (A1 := A1) (A2 := A2)
  simpa using h
section SXC
variable {p : Program} {l : Launch} {e : Env} {R : Room} {s : State} {m : MethodId} {args : Array Value} {below : List Frame} {meth : Method} {c : Code} {H : Heap} {locs : List Loc} {cells slots : Nat} {Q : State → Prop}
variable {y : MethodName} {bytes cc : ByteArray} {maxL nL n index pc : Nat} {ret : Option FieldType} {ws : List Cond} {rm : Room} {Ts : List Cond} {own : String} {rest st : List Value} {ls : Array Slot} {A : Nat → Prop}
/-- the script's cell -/
theorem iv_cell {r : Int32} {b L : Nat} {xs : Nat → Int32} {k : Int} (S : CallFix p m c cc nL s args Ts own) (hM : Met l y ws rm (sxP k b L xs) (QcRead r) 0 0 (fun _ => False)) (cw : CallB R s args own index y bytes maxL ret ws rm 0 0 n ∧ (Cond.static y).before args s = true) (hX : va_X b L xs s s.heap) (hbl : b < s.heap.size) (hbA : ¬ A b) (hS : va_S A s.heap H locs)
    (hn : 2 = n) (hsize : ls.size = nL) (hst : st = [.int (iI k), .ref b] ++ rest) (hr : (rest.map fun v => v.category).sum ≤ 8) (hdg : decode cc pc = .ok (.invokestatic index, 3)) (hf : cells ≤ R.cells ∧ slots ≤ R.slots)
    (kk : W p l e R s m args below meth c H locs cells slots Q (F0 m (pc + 3) ls (.int r :: rest))) : W p l e R s m args below meth c H locs cells slots Q (F0 m pc ls st) := by
  refine W.callR (W.runS (As := [.ref b, .int (iI k)]) (rest := rest) S hM cw ⟨sxP_blind, fun U hU hW => ⟨rfl, ?_⟩⟩ rfl hn hsize hst (lv_room (rest := st) hr) hdg hf) kk
  show va_X b L xs U U.heap ∧ b < U.heap.size
  rw [hU]
  exact ⟨va_X.moved hW.alike (hX.kept (hS.2.1 b hbl hbA)), Nat.lt_of_lt_of_le hbl hS.1⟩
end SXC

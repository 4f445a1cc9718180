section ROSL
variable {p : Program} {l : Launch} {e : Env} {R : Room} {s : State} {m : MethodId} {args : Array Value} {below : List Frame} {meth : Method} {c : Code} {H H0 : Heap} {locs : List Loc} {cells slots : Nat} {Q : State → Prop}
variable {y : MethodName} {bytes cc : ByteArray} {maxL nL mc ms n index pc : Nat} {ret : Option FieldType} {ws : List Cond} {rm : Room} {Ts : List Cond} {own C : String} {b : Addr} {As rest st : List Value} {ls : Array Slot}
variable {D : va_G} {tys : List (ClassId × FieldType)} {ws0 wc : va_W} {a : Array Value} {g : JFrame}
theorem iv_callRL {r : Int64} (hr : CallRun p l e R s m args below meth c H locs cells slots 0 0 g rest (QcReadL r a) (fun _ => False)) (kk : W p l e R s m args below meth c H locs cells slots Q { g with pc := g.pc + 3, stack := .long r :: rest }) : W p l e R s m args below meth c H locs cells slots Q g := by
  intro T hT X
  obtain ⟨v, st₀, t, T', L, h0, X', hL, e1, ⟨hv, hh⟩, st⟩ := hr T hT X
  cases hv
  obtain ⟨t2, a1, b1⟩ := kk T' (by rw [e1, hh, h0]) (Stand.forget X' (fun q h => (hL q h).elim))
  exact ⟨t2, st t2 a1, b1⟩
theorem iv_roSL {r : Int64} (S : CallFix p m c cc nL s args Ts own) (hM : Met l y ws rm (roP As D tys wc) (QcReadL r) 0 0 (fun _ => False)) (cw : CallB R s args own index y bytes maxL ret ws rm 0 0 n ∧ (Cond.static y).before args s = true) (hK : va_K D vwCl tys s) (hP : va_P D vwCl ws0 H) (isC : List Nat) (hC : isC.filterMap (fun i => ws0[i]?) = wc)
    (hn : As.length = n) (hsize : ls.size = nL) (hst : st = As.reverse ++ rest) (hr : (rest.map fun v => v.category).sum ≤ 8) (hdg : decode cc pc = .ok (.invokestatic index, 3)) (hf : cells ≤ R.cells ∧ slots ≤ R.slots)
    (kk : W p l e R s m args below meth c H locs cells slots Q (F0 m (pc + 3) ls (.long r :: rest))) : W p l e R s m args below meth c H locs cells slots Q (F0 m pc ls st) := by
  refine iv_callRL (W.runS (As := As) (rest := rest) S hM cw ⟨roP_blind, fun U hU hW => ⟨rfl, ?_, va_K.moved hW.alike hK⟩⟩ rfl hn hsize hst (lv_room (rest := st) hr) hdg hf) kk
  rw [hU]
  exact hP.sub isC hC
end ROSL
def gAb (x : Int64) : Nat → Int64
  | 0 => x
  | k + 1 => gAb x k / 100000
theorem gAb_t {x : Int64} (h : 0 ≤ x.toInt) {k : Nat} (hk : k ≤ 3) : (gAb x k).toInt = x.toInt / gw k := by
  have h5 : (0 : Int) < (100000 : Int64).toInt := by rw [i64_1e5]; omega
  have e1 : (x / 100000).toInt = x.toInt / 100000 := by rw [i64_div h h5, i64_1e5]
  have e2 : (x / 100000 / 100000).toInt = x.toInt / 100000 / 100000 := by rw [i64_div (by omega) h5, i64_1e5, e1]
  have e3 : (x / 100000 / 100000 / 100000).toInt = x.toInt / 100000 / 100000 / 100000 := by rw [i64_div (by omega) h5, i64_1e5, e2]
  rcases (show k = 0 ∨ k = 1 ∨ k = 2 ∨ k = 3 by omega) with rfl | rfl | rfl | rfl
  · show x.toInt = x.toInt / (100000 : Int) ^ 0
    rw [show (100000 : Int) ^ 0 = 1 by decide]
    omega
  · show (x / 100000).toInt = x.toInt / (100000 : Int) ^ 1
    rw [e1, show (100000 : Int) ^ 1 = 100000 by decide]
  · show (x / 100000 / 100000).toInt = x.toInt / (100000 : Int) ^ 2
    rw [e2, show (100000 : Int) ^ 2 = 10000000000 by decide]
    omega
  · show (x / 100000 / 100000 / 100000).toInt = x.toInt / (100000 : Int) ^ 3
    rw [e3, show (100000 : Int) ^ 3 = 1000000000000000 by decide]
    omega
theorem bnd_gw {nn X : Int} (h : 1 ≤ nn ∧ nn ≤ 3) (hX : 0 ≤ X) : X / gw nn.toNat ≤ 0 ↔ X < bnd3 nn := by
  rcases (show nn = 1 ∨ nn = 2 ∨ nn = 3 by omega) with rfl | rfl | rfl
  · rw [show gw (1 : Int).toNat = 100000 by decide +kernel, show bnd3 1 = 100000 by decide +kernel]
    omega
  · rw [show gw (2 : Int).toNat = 10000000000 by decide +kernel, show bnd3 2 = 10000000000 by decide +kernel]
    omega
  · rw [show gw (3 : Int).toNat = 1000000000000000 by decide +kernel, show bnd3 3 = 1000000000000000 by decide +kernel]
    omega
theorem min_999 {z : Int} : (if iI 999 < iI z then iI 999 else iI z) = iI (if iI 999 ≤ iI z then 999 else z) := by
  by_cases h1 : iI 999 < iI z
  · rw [if_pos h1, if_pos (by rw [Int32.le_iff_toInt_le]; rw [Int32.lt_iff_toInt_lt] at h1; omega)]
  · rw [if_neg h1]
    by_cases h2 : iI 999 ≤ iI z
    · rw [if_pos h2]
      rw [Int32.le_iff_toInt_le] at h2
      rw [Int32.lt_iff_toInt_lt] at h1
      exact Int32.toInt_inj.mp (by omega)
    · rw [if_neg h2]

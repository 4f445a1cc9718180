/-! truth values as numbers; loops; joins; the shapes of the objects -/
def bI (P : Prop) [Decidable P] : Int := if P then 1 else 0
theorem bI_t {P : Prop} [Decidable P] (h : P) : bI P = 1 := if_pos h
theorem bI_f {P : Prop} [Decidable P] (h : ¬ P) : bI P = 0 := if_neg h
theorem bI_1 {P : Prop} [Decidable P] : bI P = 1 ↔ P := by
  unfold bI
  split <;> simp_all
theorem bI_0 {P : Prop} [Decidable P] : bI P = 0 ↔ ¬ P := by
  unfold bI
  split <;> simp_all
theorem bI_r {P : Prop} [Decidable P] : 0 ≤ bI P ∧ bI P ≤ 1 := by
  unfold bI
  split <;> omega
theorem bI_c {P P2 : Prop} [Decidable P] [Decidable P2] (h : P ↔ P2) : bI P = bI P2 := by
  by_cases q : P
  · rw [bI_t q, bI_t (h.mp q)]
  · rw [bI_f q, bI_f (fun z => q (h.mpr z))]
theorem narB (P : Prop) [Decidable P] : narrow .boolean (.int (iI (bI P))) = .int (iI (bI P)) := by
  by_cases h : P
  · rw [bI_t h]
    decide +kernel
  · rw [bI_f h]
    decide +kernel
def QcReadL (r : Int64) : Array Value → State → Outcome → State → Prop := fun _ st o t => o = .returned (some (.long r)) ∧ t.heap = st.heap
abbrev oDrv (dc : Nat) (S : Int → Int) (k : Int64) : va_E := .inr (0, [.int (iI (S 0)), .int (iI (S 1)), .int (iI (S 2)), .int (iI (S 3)), .int (iI (S 4)), .int (iI (S 5)), .int (iI (S 6)), .int (iI (S 7)), .long k, .ref dc])
abbrev oKn (n : Int) (ex : Nat) : va_E := .inr (1, [.int (iI n), .ref ex])
abbrev oMem (rg : Nat) (nx ct : Int) : va_E := .inr (2, [.ref rg, .int (iI nx), .int (iI ct)])
abbrev oTx (sg : Nat) (n po lo : Int) : va_E := .inr (3, [.ref sg, .int (iI n), .int (iI po), .int (iI lo)])
abbrev oRD (tx nw tr kn me sl : Nat) : va_E := .inr (4, [.ref tx, .ref nw, .ref tr, .ref kn, .ref me, .ref sl])
abbrev oMo (th : Int) (a1 a2 a3 : Nat) (re : Int) (a4 a5 a6 : Nat) (tl : Int) (a7 a8 : Nat) : va_E := .inr (5, [.int (iI th), .ref a1, .ref a2, .ref a3, .int (iI re), .ref a4, .ref a5, .ref a6, .int (iI tl), .ref a7, .ref a8])
abbrev aI (y : ClassId) (n : Nat) (f : Int → Int) : va_E := .inl (y, n, .inl (ar f))
abbrev aC (y : ClassId) (n : Nat) (f : Int → Int) : va_E := .inl (y, n, .inl (ar f))
abbrev aD (y : ClassId) (n : Nat) (f : Nat → Option Nat) : va_E := .inl (y, n, .inr (.inr (.inr (.inr f))))
section LOOPS
variable {p : Program} {l : Launch} {e : Env} {R : Room} {s : State} {m : MethodId} {args : Array Value} {below : List Frame} {meth : Method} {c : Code} {H : Heap} {locs : List Loc} {cells slots : Nat} {Q : State → Prop}
variable {cc : ByteArray} {pc : Nat} {ls : Array Slot} {rest st : List Value}
theorem iv_loop {σ : Type} (I : σ → Heap → List Loc → Array Slot → Prop) (μ : σ → Nat) (x0 : σ) (h0 : I x0 H locs ls)
    (body : ∀ (x : σ) (H : Heap) (locs : List Loc) (ls : Array Slot), I x H locs ls → (∀ (y : σ) (H' : Heap) (locs' : List Loc) {ls' : Array Slot}, μ y < μ x → I y H' locs' ls' → W p l e R s m args below meth c H' locs' cells slots Q (F0 m pc ls' st)) → W p l e R s m args below meth c H locs cells slots Q (F0 m pc ls st)) : W p l e R s m args below meth c H locs cells slots Q (F0 m pc ls st) := by
  have key : ∀ (n : Nat) (x : σ) (H : Heap) (locs : List Loc) (ls : Array Slot), μ x < n → I x H locs ls → W p l e R s m args below meth c H locs cells slots Q (F0 m pc ls st) := by
    intro n
    induction n with
    | zero => intro x H locs ls h; omega
    | succ n ih => intro x H locs ls h hI; exact body x H locs ls hI (fun y H' locs' ls' hy hI' => ih y H' locs' ls' (by omega) hI')
  exact key _ x0 H locs ls (Nat.lt_succ_self _) h0
theorem iv_loopR {σ : Type} (I : σ → Array Slot → Prop) (μ : σ → Nat) (x0 : σ) (h0 : I x0 ls)
    (body : ∀ (x : σ) (ls : Array Slot), I x ls → (∀ (y : σ) {ls' : Array Slot}, μ y < μ x → I y ls' → W p l e R s m args below meth c H locs cells slots Q (F0 m pc ls' st)) → W p l e R s m args below meth c H locs cells slots Q (F0 m pc ls st)) : W p l e R s m args below meth c H locs cells slots Q (F0 m pc ls st) := by
  have key : ∀ (n : Nat) (x : σ) (ls : Array Slot), μ x < n → I x ls → W p l e R s m args below meth c H locs cells slots Q (F0 m pc ls st) := by
    intro n
    induction n with
    | zero => intro x ls h; omega
    | succ n ih => intro x ls h hI; exact body x ls hI (fun y ls' hy hI' => ih y ls' (by omega) hI')
  exact key _ x0 ls (Nat.lt_succ_self _) h0
theorem iv_join {σ : Type} (I : σ → Heap → List Loc → Array Slot → Prop) (sx : σ → List Value) (pcj : Nat) (hJ : ∀ (x : σ) (H : Heap) (locs : List Loc) (ls : Array Slot), I x H locs ls → W p l e R s m args below meth c H locs cells slots Q (F0 m pcj ls (sx x)))
    (k : (∀ (x : σ) (H : Heap) (locs : List Loc) {ls : Array Slot}, I x H locs ls → W p l e R s m args below meth c H locs cells slots Q (F0 m pcj ls (sx x))) → W p l e R s m args below meth c H locs cells slots Q (F0 m pc ls st)) : W p l e R s m args below meth c H locs cells slots Q (F0 m pc ls st) := k (fun x H locs ls => hJ x H locs ls)
theorem iv_joinR {σ : Type} (I : σ → Array Slot → Prop) (sx : σ → List Value) (pcj : Nat) (hJ : ∀ (x : σ) (ls : Array Slot), I x ls → W p l e R s m args below meth c H locs cells slots Q (F0 m pcj ls (sx x)))
    (k : (∀ (x : σ) {ls : Array Slot}, I x ls → W p l e R s m args below meth c H locs cells slots Q (F0 m pcj ls (sx x))) → W p l e R s m args below meth c H locs cells slots Q (F0 m pc ls st)) : W p l e R s m args below meth c H locs cells slots Q (F0 m pc ls st) := k (fun x ls => hJ x ls)
theorem iv_ifb_eq (hx : p.tables.exec = Jvm.exec) (hb : c.code = cc) {P : Prop} [Decidable P] {off : Int} {tgt : Nat} (hdg : decode cc pc = .ok (.ifCond .eq off, 3)) (ht : (pc : Int) + off = (tgt : Int)) (kt : ¬ P → W p l e R s m args below meth c H locs cells slots Q (F0 m tgt ls rest)) (kf : P → W p l e R s m args below meth c H locs cells slots Q (F0 m (pc + 3) ls rest)) : W p l e R s m args below meth c H locs cells slots Q (F0 m pc ls (.int (iI (bI P)) :: rest)) :=
  iv_if_eq hx hb ⟨by have := bI_r (P := P); omega, by have := bI_r (P := P); omega⟩ hdg ht (fun h => kt (bI_0.mp h)) (fun h => kf (Decidable.byContradiction fun q => h (bI_f q)))
theorem iv_ifb_ne (hx : p.tables.exec = Jvm.exec) (hb : c.code = cc) {P : Prop} [Decidable P] {off : Int} {tgt : Nat} (hdg : decode cc pc = .ok (.ifCond .ne off, 3)) (ht : (pc : Int) + off = (tgt : Int)) (kt : P → W p l e R s m args below meth c H locs cells slots Q (F0 m tgt ls rest)) (kf : ¬ P → W p l e R s m args below meth c H locs cells slots Q (F0 m (pc + 3) ls rest)) : W p l e R s m args below meth c H locs cells slots Q (F0 m pc ls (.int (iI (bI P)) :: rest)) :=
  iv_if_ne hx hb ⟨by have := bI_r (P := P); omega, by have := bI_r (P := P); omega⟩ hdg ht (fun h => kt (Decidable.byContradiction fun q => h (bI_f q))) (fun h => kf (bI_0.mp h))
theorem iv_max (hx : p.tables.exec = Jvm.exec) (hb : c.code = cc) (hml : c.maxLocals = ls.size) {own : String} {index : Nat} (hown : s.vm.findClass own = some m.cls) (hlink : (Cond.methodLink own index Lib.Math.max.name).before args s = true) (hstat : (Cond.static Lib.Math.max.name).before args s = true) (hini : (Cond.initialized "java/lang/Math").before args s = true) (hcode : (Cond.code Lib.Math.max.name Lib.Math.max.code 2 (some .int)).before args s = true)
    (hframes : 1 ≤ R.frames) (hlocals : (rest.map fun v => v.category).sum + 13 ≤ R.locals) (hc : cells ≤ R.cells) (hs : slots ≤ R.slots) {a b : Int} (ha : inR a) (hbb : inR b) (hdg : decode cc pc = .ok (.invokestatic index, 3))
    (kk : W p l e R s m args below meth c H locs cells slots Q (F0 m (pc + 3) ls (.int (iI (max a b)) :: rest))) : W p l e R s m args below meth c H locs cells slots Q (F0 m pc ls (.int (iI b) :: .int (iI a) :: rest)) := by
  refine va_mmax hx hb hml hown hlink hstat hini hcode hframes hlocals hc hs hdg ?_
  have h : (if iI a < iI b then iI b else iI a) = iI (max a b) := by
    by_cases q : a < b
    · rw [if_pos ((iI_lt ha hbb).mpr q), Int.max_eq_right (by omega)]
    · rw [if_neg (fun z => q ((iI_lt ha hbb).mp z)), Int.max_eq_left (by omega)]
  rw [h]
  exact kk
theorem iv_min (hx : p.tables.exec = Jvm.exec) (hb : c.code = cc) (hml : c.maxLocals = ls.size) {own : String} {index : Nat} (hown : s.vm.findClass own = some m.cls) (hlink : (Cond.methodLink own index Lib.Math.min.name).before args s = true) (hstat : (Cond.static Lib.Math.min.name).before args s = true) (hini : (Cond.initialized "java/lang/Math").before args s = true) (hcode : (Cond.code Lib.Math.min.name Lib.Math.min.code 2 (some .int)).before args s = true)
    (hframes : 1 ≤ R.frames) (hlocals : (rest.map fun v => v.category).sum + 13 ≤ R.locals) (hc : cells ≤ R.cells) (hs : slots ≤ R.slots) {a b : Int} (ha : inR a) (hbb : inR b) (hdg : decode cc pc = .ok (.invokestatic index, 3))
    (kk : W p l e R s m args below meth c H locs cells slots Q (F0 m (pc + 3) ls (.int (iI (min a b)) :: rest))) : W p l e R s m args below meth c H locs cells slots Q (F0 m pc ls (.int (iI b) :: .int (iI a) :: rest)) := by
  refine va_mmin hx hb hml hown hlink hstat hini hcode hframes hlocals hc hs hdg ?_
  have h : (if iI b < iI a then iI b else iI a) = iI (min a b) := by
    by_cases q : b < a
    · rw [if_pos ((iI_lt hbb ha).mpr q), Int.min_eq_right (by omega)]
    · rw [if_neg (fun z => q ((iI_lt hbb ha).mp z)), Int.min_eq_left (by omega)]
  rw [h]
  exact kk
theorem iv_lcmp (hx : p.tables.exec = Jvm.exec) (hb : c.code = cc) {x y : Int64} {z : Int} (hz : lg_cmp x y = iI z) (hdg : decode cc pc = .ok (.lcmp, 1))
    (k : W p l e R s m args below meth c H locs cells slots Q (F0 m (pc + 1) ls (.int (iI z) :: rest))) : W p l e R s m args below meth c H locs cells slots Q (F0 m pc ls (.long y :: .long x :: rest)) := W.lcmp hx hb hdg (by rw [hz]; exact k)
end LOOPS

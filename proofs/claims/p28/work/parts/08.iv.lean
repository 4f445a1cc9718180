/-! numbers: an Int32 by its integer; arrays as functions of integers -/
abbrev vwCl : List vw_C := [(RX0, TX0, 10), (RX1, TX1, 2), (RX2, TX2, 3), (RX3, TX3, 4), (RX4, TX4, 6)]
def iI (z : Int) : Int32 := Int32.ofInt z
abbrev inR (z : Int) : Prop := -2147483648 ≤ z ∧ z < 2147483648
theorem iI_toInt {z : Int} (h : inR z) : (iI z).toInt = z := Int32.toInt_ofInt_of_le h.1 h.2
theorem iI_of (x : Int32) : x = iI x.toInt := (Int32.ofInt_toInt x).symm
theorem iI_rng (x : Int32) : inR x.toInt := by
  have h1 := Int32.le_toInt x
  have h2 := Int32.toInt_lt x
  exact ⟨h1, h2⟩
theorem iI_add (a b : Int) : iI a + iI b = iI (a + b) := (Int32.ofInt_add a b).symm
theorem iI_sub (a b : Int) : iI a - iI b = iI (a - b) := (Int32.ofInt_sub a b).symm
theorem iI_mul (a b : Int) : iI a * iI b = iI (a * b) := (Int32.ofInt_mul a b).symm
theorem iI_neg (a : Int) : -iI a = iI (-a) := (Int32.ofInt_neg a).symm
theorem iI_eq {a b : Int} (ha : inR a) (hb : inR b) : iI a = iI b ↔ a = b := ⟨fun h => by rw [← iI_toInt ha, ← iI_toInt hb, h], fun h => by rw [h]⟩
theorem iI_lt {a b : Int} (ha : inR a) (hb : inR b) : iI a < iI b ↔ a < b := by rw [Int32.lt_iff_toInt_lt, iI_toInt ha, iI_toInt hb]
theorem iI_le {a b : Int} (ha : inR a) (hb : inR b) : iI a ≤ iI b ↔ a ≤ b := by rw [Int32.le_iff_toInt_le, iI_toInt ha, iI_toInt hb]
theorem iI_cl {z : Int} (h : inR z) : (iI z).toNatClampNeg = z.toNat := Int32.toNatClampNeg_ofInt_of_le h.1 h.2
theorem iI_0 : iI 0 = 0 := by decide +kernel
theorem iI_div {a b : Int} (ha : 0 ≤ a) (h1 : inR a) (hb : 0 < b) (h2 : inR b) : iI a / iI b = iI (a / b) := by
  have e : a.tdiv b = a / b := Int.tdiv_eq_ediv_of_nonneg ha
  rw [← e]
  refine (Int32.ofInt_tdiv ?_ ?_ ?_ ?_).symm
  · rw [show Int32.minValue.toInt = -2147483648 by decide +kernel]; exact h1.1
  · rw [show Int32.maxValue.toInt = 2147483647 by decide +kernel]; have := h1.2; omega
  · rw [show Int32.minValue.toInt = -2147483648 by decide +kernel]; exact h2.1
  · rw [show Int32.maxValue.toInt = 2147483647 by decide +kernel]; have := h2.2; omega
theorem iI_rem {a b : Int} (ha : 0 ≤ a) (h1 : inR a) (hb : 0 < b) (h2 : inR b) : iI a - iI a / iI b * iI b = iI (a % b) := by
  rw [iI_div ha h1 hb h2, iI_mul, iI_sub]
  have := Int.emod_def a b
  rw [this, Int.mul_comm]
theorem iI_in {z : Int} {n : Nat} (h0 : 0 ≤ z) (h : z < n) (hn : n < 2147483648) : vp_in (iI z) n := by
  have hr : inR z := ⟨by omega, by omega⟩
  intro q
  rcases q with q | q
  · rw [Int32.lt_iff_toInt_lt, iI_toInt hr, Int32.toInt_zero] at q
    omega
  · rw [iI_cl hr] at q
    omega
/-- an array's contents by a function of integers -/
def ar (f : Int → Int) : Nat → Int32 := fun k => iI (f (k : Int))
def up (f : Int → Int) (k v : Int) : Int → Int := fun j => if j = k then v else f j
theorem up_s {f : Int → Int} {k v : Int} : up f k v k = v := by simp [up]
theorem up_n {f : Int → Int} {k v j : Int} (h : j ≠ k) : up f k v j = f j := by simp [up, h]
theorem ar_at {f : Int → Int} {z : Int} (h0 : 0 ≤ z) (h : z < 2147483648) : ar f (iI z).toNatClampNeg = iI (f z) := by
  rw [iI_cl ⟨by omega, h⟩]
  unfold ar
  rw [Int.toNat_of_nonneg h0]
theorem ar_up {f : Int → Int} {z v : Int} (h0 : 0 ≤ z) (h : z < 2147483648) : upd (ar f) (iI z).toNatClampNeg (iI v) = ar (up f z v) := by
  rw [iI_cl ⟨by omega, h⟩]
  funext j
  unfold upd ar up
  by_cases e : j = z.toNat
  · rw [if_pos e, if_pos (by omega)]
  · rw [if_neg e, if_neg (by omega)]
theorem ar_0 : ar (fun _ => 0) = fun _ => (0 : Int32) := by
  funext j
  unfold ar
  exact iI_0
theorem ar_va {D : va_G} {cl : List vw_C} {cA : ClassId} {n a : Nat} {f g : Nat → Int32} {H : Heap} (h : va_at D cl (a, .inl (cA, n, .inl f)) H) (e : ∀ k : Nat, k < n → f k = g k) : va_at D cl (a, .inl (cA, n, .inl g)) H := by
  have e2 : vp_cell cA (n, .inl f) = vp_cell cA (n, .inl g) := by
    show arrV cA n (fun j => .int (f j)) = arrV cA n (fun j => .int (g j))
    unfold arrV
    congr 1
    apply Array.ext
    · simp
    · intro i h1 h2
      simp at h1
      simp [e i h1]
  exact h.trans (congrArg some e2)
section IV
variable {p : Program} {l : Launch} {e : Env} {R : Room} {s : State} {m : MethodId} {args : Array Value} {below : List Frame} {meth : Method} {c : Code} {H : Heap} {locs : List Loc} {cells slots : Nat} {Q : State → Prop}
variable {cc : ByteArray} {pc : Nat} {ls : Array Slot} {rest : List Value}
theorem iv_add (hx : p.tables.exec = Jvm.exec) (hb : c.code = cc) {a b : Int} (hdg : decode cc pc = .ok (.iadd, 1)) (k : W p l e R s m args below meth c H locs cells slots Q (F0 m (pc + 1) ls (.int (iI (a + b)) :: rest))) : W p l e R s m args below meth c H locs cells slots Q (F0 m pc ls (.int (iI b) :: .int (iI a) :: rest)) := lv_iadd hx hb hdg (by rw [iI_add]; exact k)
theorem iv_sub (hx : p.tables.exec = Jvm.exec) (hb : c.code = cc) {a b : Int} (hdg : decode cc pc = .ok (.isub, 1)) (k : W p l e R s m args below meth c H locs cells slots Q (F0 m (pc + 1) ls (.int (iI (a - b)) :: rest))) : W p l e R s m args below meth c H locs cells slots Q (F0 m pc ls (.int (iI b) :: .int (iI a) :: rest)) := lv_isub hx hb hdg (by rw [iI_sub]; exact k)
theorem iv_mul (hx : p.tables.exec = Jvm.exec) (hb : c.code = cc) {a b : Int} (hdg : decode cc pc = .ok (.imul, 1)) (k : W p l e R s m args below meth c H locs cells slots Q (F0 m (pc + 1) ls (.int (iI (a * b)) :: rest))) : W p l e R s m args below meth c H locs cells slots Q (F0 m pc ls (.int (iI b) :: .int (iI a) :: rest)) := lv_imul hx hb hdg (by rw [iI_mul]; exact k)
theorem iv_neg (hx : p.tables.exec = Jvm.exec) (hb : c.code = cc) {a : Int} (hdg : decode cc pc = .ok (.ineg, 1)) (k : W p l e R s m args below meth c H locs cells slots Q (F0 m (pc + 1) ls (.int (iI (-a)) :: rest))) : W p l e R s m args below meth c H locs cells slots Q (F0 m pc ls (.int (iI a) :: rest)) := lv_ineg hx hb hdg (by rw [iI_neg]; exact k)
theorem iI_ne0 {b : Int} (hb : 0 < b) (h2 : inR b) : ¬ iI b = 0 := fun q => by
  rw [← iI_0, iI_eq h2 ⟨by omega, by omega⟩] at q
  omega
theorem iv_div (hx : p.tables.exec = Jvm.exec) (hb : c.code = cc) {a b : Int} (h0 : 0 ≤ a) (h1 : inR a) (h2 : 0 < b) (h3 : inR b) (hdg : decode cc pc = .ok (.idiv, 1)) (k : W p l e R s m args below meth c H locs cells slots Q (F0 m (pc + 1) ls (.int (iI (a / b)) :: rest))) : W p l e R s m args below meth c H locs cells slots Q (F0 m pc ls (.int (iI b) :: .int (iI a) :: rest)) := lv_idiv hx hb hdg (iI_ne0 h2 h3) (by rw [iI_div h0 h1 h2 h3]; exact k)
theorem iv_rem (hx : p.tables.exec = Jvm.exec) (hb : c.code = cc) {a b : Int} (h0 : 0 ≤ a) (h1 : inR a) (h2 : 0 < b) (h3 : inR b) (hdg : decode cc pc = .ok (.irem, 1)) (k : W p l e R s m args below meth c H locs cells slots Q (F0 m (pc + 1) ls (.int (iI (a % b)) :: rest))) : W p l e R s m args below meth c H locs cells slots Q (F0 m pc ls (.int (iI b) :: .int (iI a) :: rest)) := lv_irem hx hb hdg (iI_ne0 h2 h3) (by rw [iI_rem h0 h1 h2 h3]; exact k)
theorem iv_inc (hx : p.tables.exec = Jvm.exec) (hb : c.code = cc) {i nL k : Nat} {n a : Int} {lv lv' : List (Nat × Value)} (hdg : decode cc pc = .ok (.iinc i n, 3)) (h : lv_has ls nL lv) (hk : lv[k]? = some (i, .int (iI a))) (hn : i < nL) (hl : (i, Value.int (iI (a + n))) :: lv.filter (fun q => !(q.1 == i) && !(q.1 + 1 == i && q.2.category == 2)) = lv')
    (kk : ∀ ls' : Array Slot, lv_has ls' nL lv' → W p l e R s m args below meth c H locs cells slots Q (F0 m (pc + 3) ls' rest)) : W p l e R s m args below meth c H locs cells slots Q (F0 m pc ls rest) := lv_iinc hx hb hdg h hk (iI_add a n) hn hl kk
theorem iv_icmp_eq (hx : p.tables.exec = Jvm.exec) (hb : c.code = cc) {a b : Int} {off : Int} {tgt : Nat} (ha : inR a) (hbb : inR b) (hdg : decode cc pc = .ok (.if_icmp .eq off, 3)) (ht : (pc : Int) + off = (tgt : Int)) (kt : a = b → W p l e R s m args below meth c H locs cells slots Q (F0 m tgt ls rest)) (kf : ¬ a = b → W p l e R s m args below meth c H locs cells slots Q (F0 m (pc + 3) ls rest)) : W p l e R s m args below meth c H locs cells slots Q (F0 m pc ls (.int (iI b) :: .int (iI a) :: rest)) := lv_icmp_eq hx hb hdg ht (fun q => kt ((iI_eq ha hbb).mp q)) (fun q => kf (fun h => q ((iI_eq ha hbb).mpr h)))
theorem iv_if_eq (hx : p.tables.exec = Jvm.exec) (hb : c.code = cc) {a : Int} {off : Int} {tgt : Nat} (ha : inR a) (hdg : decode cc pc = .ok (.ifCond .eq off, 3)) (ht : (pc : Int) + off = (tgt : Int)) (kt : a = 0 → W p l e R s m args below meth c H locs cells slots Q (F0 m tgt ls rest)) (kf : ¬ a = 0 → W p l e R s m args below meth c H locs cells slots Q (F0 m (pc + 3) ls rest)) : W p l e R s m args below meth c H locs cells slots Q (F0 m pc ls (.int (iI a) :: rest)) := by
  have h0r : inR 0 := ⟨by omega, by omega⟩
  refine lv_if_eq hx hb hdg ht ?_ ?_ <;> rw [← iI_0]
  · exact fun q => kt ((iI_eq ha h0r).mp q)
  · exact fun q => kf (fun h => q ((iI_eq ha h0r).mpr h))
theorem iv_icmp_ne (hx : p.tables.exec = Jvm.exec) (hb : c.code = cc) {a b : Int} {off : Int} {tgt : Nat} (ha : inR a) (hbb : inR b) (hdg : decode cc pc = .ok (.if_icmp .ne off, 3)) (ht : (pc : Int) + off = (tgt : Int)) (kt : ¬ a = b → W p l e R s m args below meth c H locs cells slots Q (F0 m tgt ls rest)) (kf : a = b → W p l e R s m args below meth c H locs cells slots Q (F0 m (pc + 3) ls rest)) : W p l e R s m args below meth c H locs cells slots Q (F0 m pc ls (.int (iI b) :: .int (iI a) :: rest)) := lv_icmp_ne hx hb hdg ht (fun q => kt (fun h => q ((iI_eq ha hbb).mpr h))) (fun q => kf (by first | exact (iI_eq ha hbb).mp q | exact (iI_eq ha hbb).mp (Decidable.not_not.mp q)))
theorem iv_if_ne (hx : p.tables.exec = Jvm.exec) (hb : c.code = cc) {a : Int} {off : Int} {tgt : Nat} (ha : inR a) (hdg : decode cc pc = .ok (.ifCond .ne off, 3)) (ht : (pc : Int) + off = (tgt : Int)) (kt : ¬ a = 0 → W p l e R s m args below meth c H locs cells slots Q (F0 m tgt ls rest)) (kf : a = 0 → W p l e R s m args below meth c H locs cells slots Q (F0 m (pc + 3) ls rest)) : W p l e R s m args below meth c H locs cells slots Q (F0 m pc ls (.int (iI a) :: rest)) := by
  have h0r : inR 0 := ⟨by omega, by omega⟩
  refine lv_if_ne hx hb hdg ht ?_ ?_ <;> rw [← iI_0]
  · exact fun q => kt (fun h => q ((iI_eq ha h0r).mpr h))
  · exact fun q => kf (by first | exact (iI_eq ha h0r).mp q | exact (iI_eq ha h0r).mp (Decidable.not_not.mp q))
theorem iv_icmp_lt (hx : p.tables.exec = Jvm.exec) (hb : c.code = cc) {a b : Int} {off : Int} {tgt : Nat} (ha : inR a) (hbb : inR b) (hdg : decode cc pc = .ok (.if_icmp .lt off, 3)) (ht : (pc : Int) + off = (tgt : Int)) (kt : a < b → W p l e R s m args below meth c H locs cells slots Q (F0 m tgt ls rest)) (kf : b ≤ a → W p l e R s m args below meth c H locs cells slots Q (F0 m (pc + 3) ls rest)) : W p l e R s m args below meth c H locs cells slots Q (F0 m pc ls (.int (iI b) :: .int (iI a) :: rest)) := lv_icmp_lt hx hb hdg ht (fun q => kt ((iI_lt ha hbb).mp q)) (fun q => kf (by have := mt (iI_lt ha hbb).mpr q; omega))
theorem iv_if_lt (hx : p.tables.exec = Jvm.exec) (hb : c.code = cc) {a : Int} {off : Int} {tgt : Nat} (ha : inR a) (hdg : decode cc pc = .ok (.ifCond .lt off, 3)) (ht : (pc : Int) + off = (tgt : Int)) (kt : a < 0 → W p l e R s m args below meth c H locs cells slots Q (F0 m tgt ls rest)) (kf : 0 ≤ a → W p l e R s m args below meth c H locs cells slots Q (F0 m (pc + 3) ls rest)) : W p l e R s m args below meth c H locs cells slots Q (F0 m pc ls (.int (iI a) :: rest)) := by
  have h0r : inR 0 := ⟨by omega, by omega⟩
  refine lv_if_lt hx hb hdg ht ?_ ?_ <;> rw [← iI_0]
  · exact fun q => kt ((iI_lt ha h0r).mp q)
  · exact fun q => kf (by have := mt (iI_lt ha h0r).mpr q; omega)
theorem iv_icmp_ge (hx : p.tables.exec = Jvm.exec) (hb : c.code = cc) {a b : Int} {off : Int} {tgt : Nat} (ha : inR a) (hbb : inR b) (hdg : decode cc pc = .ok (.if_icmp .ge off, 3)) (ht : (pc : Int) + off = (tgt : Int)) (kt : b ≤ a → W p l e R s m args below meth c H locs cells slots Q (F0 m tgt ls rest)) (kf : a < b → W p l e R s m args below meth c H locs cells slots Q (F0 m (pc + 3) ls rest)) : W p l e R s m args below meth c H locs cells slots Q (F0 m pc ls (.int (iI b) :: .int (iI a) :: rest)) := lv_icmp_ge hx hb hdg ht (fun q => kt (by first | exact (iI_le hbb ha).mp q | (have := mt (iI_lt ha hbb).mpr q; omega))) (fun q => kf (by first | exact (iI_lt ha hbb).mp q | (have := mt (iI_le hbb ha).mpr q; omega) | (have := (iI_lt ha hbb).mp (Decidable.not_not.mp q); omega)))
theorem iv_if_ge (hx : p.tables.exec = Jvm.exec) (hb : c.code = cc) {a : Int} {off : Int} {tgt : Nat} (ha : inR a) (hdg : decode cc pc = .ok (.ifCond .ge off, 3)) (ht : (pc : Int) + off = (tgt : Int)) (kt : 0 ≤ a → W p l e R s m args below meth c H locs cells slots Q (F0 m tgt ls rest)) (kf : a < 0 → W p l e R s m args below meth c H locs cells slots Q (F0 m (pc + 3) ls rest)) : W p l e R s m args below meth c H locs cells slots Q (F0 m pc ls (.int (iI a) :: rest)) := by
  have h0r : inR 0 := ⟨by omega, by omega⟩
  refine lv_if_ge hx hb hdg ht ?_ ?_ <;> rw [← iI_0]
  · exact fun q => kt (by first | exact (iI_le h0r ha).mp q | (have := mt (iI_lt ha h0r).mpr q; omega))
  · exact fun q => kf (by first | exact (iI_lt ha h0r).mp q | (have := mt (iI_le h0r ha).mpr q; omega) | (have := (iI_lt ha h0r).mp (Decidable.not_not.mp q); omega))
theorem iv_icmp_gt (hx : p.tables.exec = Jvm.exec) (hb : c.code = cc) {a b : Int} {off : Int} {tgt : Nat} (ha : inR a) (hbb : inR b) (hdg : decode cc pc = .ok (.if_icmp .gt off, 3)) (ht : (pc : Int) + off = (tgt : Int)) (kt : b < a → W p l e R s m args below meth c H locs cells slots Q (F0 m tgt ls rest)) (kf : a ≤ b → W p l e R s m args below meth c H locs cells slots Q (F0 m (pc + 3) ls rest)) : W p l e R s m args below meth c H locs cells slots Q (F0 m pc ls (.int (iI b) :: .int (iI a) :: rest)) := lv_icmp_gt hx hb hdg ht (fun q => kt (by first | exact (iI_lt hbb ha).mp q | (have := mt (iI_le ha hbb).mpr q; omega))) (fun q => kf (by first | exact (iI_le ha hbb).mp q | (have := mt (iI_lt hbb ha).mpr q; omega) | (have := (iI_le ha hbb).mp (Decidable.not_not.mp q); omega)))
theorem iv_if_gt (hx : p.tables.exec = Jvm.exec) (hb : c.code = cc) {a : Int} {off : Int} {tgt : Nat} (ha : inR a) (hdg : decode cc pc = .ok (.ifCond .gt off, 3)) (ht : (pc : Int) + off = (tgt : Int)) (kt : 0 < a → W p l e R s m args below meth c H locs cells slots Q (F0 m tgt ls rest)) (kf : a ≤ 0 → W p l e R s m args below meth c H locs cells slots Q (F0 m (pc + 3) ls rest)) : W p l e R s m args below meth c H locs cells slots Q (F0 m pc ls (.int (iI a) :: rest)) := by
  have h0r : inR 0 := ⟨by omega, by omega⟩
  refine lv_if_gt hx hb hdg ht ?_ ?_ <;> rw [← iI_0]
  · exact fun q => kt (by first | exact (iI_lt h0r ha).mp q | (have := mt (iI_le ha h0r).mpr q; omega))
  · exact fun q => kf (by first | exact (iI_le ha h0r).mp q | (have := mt (iI_lt h0r ha).mpr q; omega) | (have := (iI_le ha h0r).mp (Decidable.not_not.mp q); omega))
theorem iv_icmp_le (hx : p.tables.exec = Jvm.exec) (hb : c.code = cc) {a b : Int} {off : Int} {tgt : Nat} (ha : inR a) (hbb : inR b) (hdg : decode cc pc = .ok (.if_icmp .le off, 3)) (ht : (pc : Int) + off = (tgt : Int)) (kt : a ≤ b → W p l e R s m args below meth c H locs cells slots Q (F0 m tgt ls rest)) (kf : b < a → W p l e R s m args below meth c H locs cells slots Q (F0 m (pc + 3) ls rest)) : W p l e R s m args below meth c H locs cells slots Q (F0 m pc ls (.int (iI b) :: .int (iI a) :: rest)) := lv_icmp_le hx hb hdg ht (fun q => kt ((iI_le ha hbb).mp q)) (fun q => kf (by have := mt (iI_le ha hbb).mpr q; omega))
theorem iv_if_le (hx : p.tables.exec = Jvm.exec) (hb : c.code = cc) {a : Int} {off : Int} {tgt : Nat} (ha : inR a) (hdg : decode cc pc = .ok (.ifCond .le off, 3)) (ht : (pc : Int) + off = (tgt : Int)) (kt : a ≤ 0 → W p l e R s m args below meth c H locs cells slots Q (F0 m tgt ls rest)) (kf : 0 < a → W p l e R s m args below meth c H locs cells slots Q (F0 m (pc + 3) ls rest)) : W p l e R s m args below meth c H locs cells slots Q (F0 m pc ls (.int (iI a) :: rest)) := by
  have h0r : inR 0 := ⟨by omega, by omega⟩
  refine lv_if_le hx hb hdg ht ?_ ?_ <;> rw [← iI_0]
  · exact fun q => kt ((iI_le ha h0r).mp q)
  · exact fun q => kf (by have := mt (iI_le ha h0r).mpr q; omega)
end IV

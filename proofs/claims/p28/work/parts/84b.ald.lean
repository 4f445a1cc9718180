section ALDE
variable {p : Program} {l : Launch} {e : Env} {R : Room} {s : State} {m : MethodId} {args : Array Value} {below : List Frame} {meth : Method} {c : Code} {H H0 : Heap} {locs : List Loc} {cells slots : Nat} {Q : State → Prop}
variable {cc : ByteArray} {pc a : Nat} {rest : List Value} {ls : Array Slot}
variable {D : va_G} {tys : List (ClassId × FieldType)} {cl : List vw_C} {ws : va_W}
theorem iv_aldE (hx : p.tables.exec = Jvm.exec) (hb : c.code = cc) (hK : va_K D cl tys s) (hP : va_P D cl ws H) (q0 t0 : Nat) {cA : ClassId} {n : Nat} {f : Int → Int} (ha : ws[q0]? = some (a, .inl (cA, n, .inl (ar f)))) (ht : tys[t0]? = some (cA, .int)) {z w : Int} (hw : f z = w) (h0 : 0 ≤ z) (h1 : z < n) (h2 : n < 2147483648) (hdg : decode cc pc = .ok (.iaload, 1))
    (k : W p l e R s m args below meth c H locs cells slots Q (F0 m (pc + 1) ls (.int (iI w) :: rest))) : W p l e R s m args below meth c H locs cells slots Q (F0 m pc ls (.int (iI z) :: .ref a :: rest)) := by
  refine iv_ald hx hb hK hP q0 t0 ha ht h0 h1 h2 hdg ?_
  rw [hw]
  exact k
end ALDE

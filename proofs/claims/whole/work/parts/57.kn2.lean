/-! all answers: the shortest ways -/
theorem tri_FB {S : Int → Int} (hI : Inv S) (wo : Int) : Tri (FB S wo) (S 0) := tri_fb hI wo (S 4).toNat (by have := hI.na; omega)

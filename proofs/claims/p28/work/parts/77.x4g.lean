theorem ite_a {α : Type} {P1 Q1 : Prop} [Decidable P1] [Decidable Q1] {u v : α} : (if P1 ∧ Q1 then u else v) = if P1 then (if Q1 then u else v) else v := by
  by_cases h1 : P1 <;> by_cases h2 : Q1 <;> simp [h1, h2]
theorem sim1_a {S : Int → Int} {r : Int} (h : r / 8 % S 0 + S 1 - 1 + r / 512 % 8 < S 0) : sim1 S r = askd S (r / 8 % S 0) (r / 8 % S 0 + S 1 - 1 + r / 512 % 8) := if_pos h
theorem sim1_b {S : Int → Int} {r : Int} (h : ¬ r / 8 % S 0 + S 1 - 1 + r / 512 % 8 < S 0) (h2 : r % 8 = 0) : sim1 S r = wr S (r / 8 % S 0) (1 - S (8 + r / 8 % S 0)) := (if_neg h).trans (if_pos h2)
theorem sim1_c {S : Int → Int} {r : Int} (h : ¬ r / 8 % S 0 + S 1 - 1 + r / 512 % 8 < S 0) (h2 : r % 8 ≠ 0) : sim1 S r = S := (if_neg h).trans (if_neg h2)

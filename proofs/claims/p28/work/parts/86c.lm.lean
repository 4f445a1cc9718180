set_option maxHeartbeats 4000000 in
set_option maxRecDepth 100000 in
theorem c_L_is (l : Launch) (D : va_G) (yI yC yD yL : ClassId) (sa : Nat) (z : Int) (M : Nat) (G : Nat → Int) (hz : 0 ≤ z ∧ z < 512) (hm : z.toNat < M) : Met l yL_is wsL_is ({ frames := 0, cells := 0, slots := 0, locals := 0 }) (roP [.int (iI z), .ref sa] D (tyl yI yC yD yL) [(sa, aJ yL 16 (setF G M))]) (QcRead (iI (bI (G z.toNat = 1)))) 0 0 (fun _ => False) := by
  refine Met.ofW (cc := cL_is) (maxL := 2) (ret := (some .boolean)) (by decide) rfl ?_
  intro p e s m args below meth c s₁ B hml hv
  obtain ⟨rfl, hP, hK⟩ := hv
  have hx := B.exec
  have hb := B.bytes
  have hr := B.returns
  have hts := atoms_spec (ws := wsL_is) B.pre
  have hown : s.vm.findClass RL = some m.cls := findClass_of_methodNamed B.named
  have hlocks := B.notSynchronized
  have hP : va_P D vwCl [(sa, aJ yL 16 (setF G M))] s.heap := hP
  have hKz : va_K D vwCl (tyz yI yC yD) s := hK.sub [0, 1, 2] rfl
  have hl := lv_entry ([.int (iI z), .ref sa]) (n := 2) (Nat.le_of_ble_eq_true rfl)
  rw [lg_entry_eq]
  generalize (lg_sl ([.int (iI z), .ref sa]) ++ List.replicate (2 - (lg_sl ([.int (iI z), .ref sa])).length) Slot.unset).toArray = ls at hl ⊢
  have hl : lv_has ls 2 [(0, .int (iI z)), (1, .ref sa)] := hl
  refine lv_aload_n hx hb dL_is_0 rfl (lv_at hl 1 rfl) ?_
  refine lv_iload_n hx hb dL_is_1 rfl (lv_at hl 0 rfl) ?_
  refine lv_bipush (v := iI 64) hx hb dL_is_2 (by decide +kernel) ?_
  refine iv_div hx hb (by omega) (by omega) (by omega) (by omega) dL_is_4 ?_
  refine iv_ljd hx hb hK hP 0 3 rfl rfl (z := z / 64) (by omega) (by omega) (by omega) dL_is_5 ?_
  refine lv_iload_n hx hb dL_is_6 rfl (lv_at hl 0 rfl) ?_
  refine lv_bipush (v := iI 64) hx hb dL_is_7 (by decide +kernel) ?_
  refine iv_rem hx hb (by omega) (by omega) (by omega) (by omega) dL_is_9 ?_
  refine lv_lshr (v := ((setF G M) ((z / 64).toNat)) >>> ((iI (z % 64)).toInt64 &&& 63)) hx hb dL_is_10 rfl ?_
  refine lv_lconst (v := 1) hx hb dL_is_11 (by decide +kernel) ?_
  refine lv_land hx hb dL_is_12 ?_
  refine lv_lconst (v := 1) hx hb dL_is_13 (by decide +kernel) ?_
  refine iv_lcmp (z := cmpI (if G z.toNat = 1 then 1 else 0) 1) hx hb (is_e hz.1 hm) dL_is_14 ?_
  obtain ⟨cz, hcz⟩ : ∃ nv_, nv_ = (cmpI (if G z.toNat = 1 then 1 else 0) 1) := ⟨_, rfl⟩
  rw [← hcz]
  have hcs := cmpI_s (if G z.toNat = 1 then 1 else 0) 1
  rw [← hcz] at hcs
  obtain ⟨bv, hbv⟩ : ∃ q, q = (if G z.toNat = 1 then (1 : Int) else 0) := ⟨_, rfl⟩
  have hb2 : (G z.toNat = 1 ∧ bv = 1) ∨ (¬ G z.toNat = 1 ∧ bv = 0) := by rw [hbv]; split; exact Or.inl ⟨by assumption, rfl⟩; exact Or.inr ⟨by assumption, rfl⟩
  rw [← hbv] at hcs
  refine iv_if_ne (a := cz) (tgt := 22) hx hb (by omega) dL_is_15 (by decide) (fun c15 => ?_) (fun c15 => ?_)
  · refine lv_iconst (v := iI 0) hx hb dL_is_22 (by decide +kernel) ?_
    exact W.zret hx hb hr (by decide +kernel) (fun t ht hW => ⟨congrArg (fun z => Outcome.returned (some (Value.int (iI z)))) (show 0 = bI (G z.toNat = 1) by first | exact (bI_t (by omega)).symm | exact (bI_f (by omega)).symm), ht⟩) (fun q h => by cases h) dL_is_23
  · refine lv_iconst (v := iI 1) hx hb dL_is_18 (by decide +kernel) ?_
    refine lv_goto (tgt := 23) hx hb dL_is_19 (by decide) ?_
    exact W.zret hx hb hr (by decide +kernel) (fun t ht hW => ⟨congrArg (fun z => Outcome.returned (some (Value.int (iI z)))) (show 1 = bI (G z.toNat = 1) by first | exact (bI_t (by omega)).symm | exact (bI_f (by omega)).symm), ht⟩) (fun q h => by cases h) dL_is_23
set_option maxHeartbeats 4000000 in
set_option maxRecDepth 100000 in
theorem c_L_least (l : Launch) (D : va_G) (yI yC yD yL : ClassId) (qa : Nat) (sa : Nat) (S : Int → Int) (G : Nat → Int) (a : Int) (b : Int) (hp9 : 8 ≤ S 0 ∧ S 0 ≤ 9) (hab : 0 ≤ a ∧ a ≤ b ∧ b < S 0) : Met l yL_least wsL_least ({ frames := 2, cells := 0, slots := 0, locals := 44 }) (roP [.int (iI a), .int (iI b), .ref qa, .ref sa] D (tyl yI yC yD yL) [(qa, aI yI 9 (qS S)), (sa, aJ yL 16 (setF G (2 ^ (S 0).toNat)))]) (QcRead (iI (lsN G a b (2 ^ (S 0).toNat)))) 0 0 (fun _ => False) := by
  refine Met.ofW (cc := cL_least) (maxL := 6) (ret := (some .int)) (by decide) rfl ?_
  intro p e s m args below meth c s₁ B hml hv
  obtain ⟨rfl, hP, hK⟩ := hv
  have hx := B.exec
  have hb := B.bytes
  have hr := B.returns
  have hts := atoms_spec (ws := wsL_least) B.pre
  have hown : s.vm.findClass RL = some m.cls := findClass_of_methodNamed B.named
  have hlocks := B.notSynchronized
  have hP : va_P D vwCl [(qa, aI yI 9 (qS S)), (sa, aJ yL 16 (setF G (2 ^ (S 0).toNat)))] s.heap := hP
  have hKz : va_K D vwCl (tyz yI yC yD) s := hK.sub [0, 1, 2] rfl
  have hl := lv_entry ([.int (iI a), .int (iI b), .ref qa, .ref sa]) (n := 6) (Nat.le_of_ble_eq_true rfl)
  rw [lg_entry_eq]
  generalize (lg_sl ([.int (iI a), .int (iI b), .ref qa, .ref sa]) ++ List.replicate (6 - (lg_sl ([.int (iI a), .int (iI b), .ref qa, .ref sa])).length) Slot.unset).toArray = ls at hl ⊢
  have hl : lv_has ls 6 [(0, .int (iI a)), (1, .int (iI b)), (2, .ref qa), (3, .ref sa)] := hl
  have hM : 2 ^ (S 0).toNat ≤ 512 := pw_le (n := 9) (by omega)
  refine lv_bipush (v := iI 99) hx hb dL_least_0 (by decide +kernel) ?_
  refine lv_istore (lv' := [(4, .int (iI 99)), (0, .int (iI a)), (1, .int (iI b)), (2, .ref qa), (3, .ref sa)]) hx hb dL_least_2 hl (by decide) rfl (fun ls hl => ?_)
  refine lv_iconst (v := iI 0) hx hb dL_least_4 (by decide +kernel) ?_
  refine lv_istore (lv' := [(5, .int (iI 0)), (4, .int (iI 99)), (0, .int (iI a)), (1, .int (iI b)), (2, .ref qa), (3, .ref sa)]) hx hb dL_least_5 hl (by decide) rfl (fun ls hl => ?_)
  refine iv_loopR (I := fun (qq : Nat × Int × Int) ls => match qq with | (n, x4, x5) => (n ≤ (2 ^ (S 0).toNat)) ∧ (x5 = n) ∧ (x4 = lsN G a b n) ∧ lv_has ls 6 [(5, .int (iI x5)), (4, .int (iI x4)), (0, .int (iI a)), (1, .int (iI b)), (2, .ref qa), (3, .ref sa)]) (μ := fun (qq : Nat × Int × Int) => match qq with | (n, x4, x5) => (2 ^ (S 0).toNat) - n) (0, 99, 0) ?_ ?_
  · exact ⟨Nat.zero_le _, by omega, rfl, lv_sub hl [0, 1, 2, 3, 4, 5] rfl⟩
  · intro qq ls hI ih7
    obtain ⟨n, x4, x5⟩ := qq
    obtain ⟨hn, h5, h4, hl⟩ := hI
    refine lv_iload hx hb dL_least_7 (lv_at hl 0 rfl) ?_
    refine lv_iconst (v := iI 1) hx hb dL_least_9 (by decide +kernel) ?_
    refine lv_aload_n hx hb dL_least_10 rfl (lv_at hl 4 rfl) ?_
    refine lv_iconst (v := iI 0) hx hb dL_least_11 (by decide +kernel) ?_
    refine iv_aldE hx hb hK hP 0 0 rfl rfl (z := 0) (w := S 0) (by first | exact qS_n (by omega) | exact up_s | rfl) (by omega) (by omega) (by omega) dL_least_12 ?_
    refine lv_ishl hx hb dL_least_13 ?_
    rw [isl_i 1 (S 0)]
    rw [show (isl 1 (S 0) : Int) = ((2 ^ (S 0).toNat : Nat) : Int) from (isl_1 (by omega))]
    refine iv_icmp_ge (a := x5) (b := ((2 ^ (S 0).toNat : Nat) : Int)) (tgt := 53) hx hb (by omega) (by omega) dL_least_14 (by decide) (fun c14 => ?_) (fun c14 => ?_)
    · refine lv_iload hx hb dL_least_53 (lv_at hl 1 rfl) ?_
      exact W.iret hx hb hr (fun t ht hW => ⟨congrArg (fun z => Outcome.returned (some (Value.int (iI z)))) (show x4 = lsN G a b (2 ^ (S 0).toNat) by rw [h4, show n = (2 ^ (S 0).toNat) by omega]), ht⟩) (fun q h => by cases h) dL_least_55
    · have hx5 : x5.toNat = n := by omega
      have hir := inL_r (L := x5.toNat) (a := a) (b := b) (by omega)
      have hlr := lsN_r (G := G) (a := a) (b := b) (by omega) n
      refine lv_iload hx hb dL_least_17 (lv_at hl 0 rfl) ?_
      refine lv_aload_n hx hb dL_least_19 rfl (lv_at hl 5 rfl) ?_
      refine iv_roS (As := [.int (iI x5), .ref sa]) (rest := []) (n := 2) ⟨hx, hb, hml, hown, hts⟩ (c_L_is l D yI yC yD yL sa x5 (2 ^ (S 0).toNat) G (by omega) (by omega)) (va_cwS 2 hts gL_least_L_is rfl rfl rfl (by decide +kernel) ⟨Nat.le_of_ble_eq_true rfl, Nat.le_of_ble_eq_true rfl⟩) hK hP [1] rfl rfl hl.1 rfl (Nat.le_of_ble_eq_true rfl) dL_least_20 ⟨Nat.zero_le _, Nat.zero_le _⟩ ?_
      refine iv_ifb_eq (P := G x5.toNat = 1) (tgt := 47) hx hb dL_least_23 (by decide) (fun c23 => ?_) (fun c23 => ?_)
      · refine iv_inc (lv' := [(5, .int (iI (x5 + 1))), (4, .int (iI x4)), (0, .int (iI a)), (1, .int (iI b)), (2, .ref qa), (3, .ref sa)]) hx hb dL_least_47 hl (k := 0) rfl (by decide) rfl (fun ls hl => ?_)
        refine lv_goto (tgt := 7) hx hb dL_least_50 (by decide) ?_
        refine ih7 (n + 1, x4, x5 + 1) (by show ((2 ^ (S 0).toNat) - (n + 1) : Nat) < (2 ^ (S 0).toNat) - n; omega) ?_
        exact ⟨by omega, by omega, by rw [show lsN G a b (n + 1) = if G n = 1 ∧ inL n a b < lsN G a b n then inL n a b else lsN G a b n from rfl, ← h4, ← hx5]; first | (rw [if_pos (by omega)]; done) | (rw [if_neg (by omega)]; done), lv_sub hl [0, 1, 2, 3, 4, 5] rfl⟩
      · refine lv_iload hx hb dL_least_26 (lv_at hl 0 rfl) ?_
        refine lv_iload_n hx hb dL_least_28 rfl (lv_at hl 2 rfl) ?_
        refine lv_iload_n hx hb dL_least_29 rfl (lv_at hl 3 rfl) ?_
        refine iv_roS (As := [.int (iI x5), .int (iI a), .int (iI b)]) (rest := []) (n := 3) ⟨hx, hb, hml, hown, hts⟩ (c_L_in l D yI yC yD yL x5 a b (by omega) (by omega)) (va_cwS 3 hts gL_least_L_in rfl rfl rfl (by decide +kernel) ⟨Nat.le_of_ble_eq_true rfl, Nat.le_of_ble_eq_true rfl⟩) hK hP [] rfl rfl hl.1 rfl (Nat.le_of_ble_eq_true rfl) dL_least_30 ⟨Nat.zero_le _, Nat.zero_le _⟩ ?_
        refine lv_iload hx hb dL_least_33 (lv_at hl 1 rfl) ?_
        refine iv_icmp_ge (a := inL x5.toNat a b) (b := x4) (tgt := 47) hx hb (by omega) (by omega) dL_least_35 (by decide) (fun c35 => ?_) (fun c35 => ?_)
        · refine iv_inc (lv' := [(5, .int (iI (x5 + 1))), (4, .int (iI x4)), (0, .int (iI a)), (1, .int (iI b)), (2, .ref qa), (3, .ref sa)]) hx hb dL_least_47 hl (k := 0) rfl (by decide) rfl (fun ls hl => ?_)
          refine lv_goto (tgt := 7) hx hb dL_least_50 (by decide) ?_
          refine ih7 (n + 1, x4, x5 + 1) (by show ((2 ^ (S 0).toNat) - (n + 1) : Nat) < (2 ^ (S 0).toNat) - n; omega) ?_
          exact ⟨by omega, by omega, by rw [show lsN G a b (n + 1) = if G n = 1 ∧ inL n a b < lsN G a b n then inL n a b else lsN G a b n from rfl, ← h4, ← hx5]; first | (rw [if_pos (by omega)]; done) | (rw [if_neg (by omega)]; done), lv_sub hl [0, 1, 2, 3, 4, 5] rfl⟩
        · refine lv_iload hx hb dL_least_38 (lv_at hl 0 rfl) ?_
          refine lv_iload_n hx hb dL_least_40 rfl (lv_at hl 2 rfl) ?_
          refine lv_iload_n hx hb dL_least_41 rfl (lv_at hl 3 rfl) ?_
          refine iv_roS (As := [.int (iI x5), .int (iI a), .int (iI b)]) (rest := []) (n := 3) ⟨hx, hb, hml, hown, hts⟩ (c_L_in l D yI yC yD yL x5 a b (by omega) (by omega)) (va_cwS 3 hts gL_least_L_in rfl rfl rfl (by decide +kernel) ⟨Nat.le_of_ble_eq_true rfl, Nat.le_of_ble_eq_true rfl⟩) hK hP [] rfl rfl hl.1 rfl (Nat.le_of_ble_eq_true rfl) dL_least_42 ⟨Nat.zero_le _, Nat.zero_le _⟩ ?_
          refine lv_istore (lv' := [(4, .int (iI (inL x5.toNat a b))), (5, .int (iI x5)), (0, .int (iI a)), (1, .int (iI b)), (2, .ref qa), (3, .ref sa)]) hx hb dL_least_45 hl (by decide) rfl (fun ls hl => ?_)
          refine iv_inc (lv' := [(5, .int (iI (x5 + 1))), (4, .int (iI (inL x5.toNat a b))), (0, .int (iI a)), (1, .int (iI b)), (2, .ref qa), (3, .ref sa)]) hx hb dL_least_47 hl (k := 1) rfl (by decide) rfl (fun ls hl => ?_)
          refine lv_goto (tgt := 7) hx hb dL_least_50 (by decide) ?_
          refine ih7 (n + 1, inL x5.toNat a b, x5 + 1) (by show ((2 ^ (S 0).toNat) - (n + 1) : Nat) < (2 ^ (S 0).toNat) - n; omega) ?_
          exact ⟨by omega, by omega, by rw [show lsN G a b (n + 1) = if G n = 1 ∧ inL n a b < lsN G a b n then inL n a b else lsN G a b n from rfl, ← h4, ← hx5]; first | (rw [if_pos (by omega)]; done) | (rw [if_neg (by omega)]; done), lv_sub hl [0, 1, 2, 3, 4, 5] rfl⟩
set_option maxHeartbeats 4000000 in
set_option maxRecDepth 100000 in
theorem c_L_most (l : Launch) (D : va_G) (yI yC yD yL : ClassId) (qa : Nat) (sa : Nat) (S : Int → Int) (G : Nat → Int) (a : Int) (b : Int) (hp9 : 8 ≤ S 0 ∧ S 0 ≤ 9) (hab : 0 ≤ a ∧ a ≤ b ∧ b < S 0) : Met l yL_most wsL_most ({ frames := 2, cells := 0, slots := 0, locals := 44 }) (roP [.int (iI a), .int (iI b), .ref qa, .ref sa] D (tyl yI yC yD yL) [(qa, aI yI 9 (qS S)), (sa, aJ yL 16 (setF G (2 ^ (S 0).toNat)))]) (QcRead (iI (msN G a b (2 ^ (S 0).toNat)))) 0 0 (fun _ => False) := by
  refine Met.ofW (cc := cL_most) (maxL := 6) (ret := (some .int)) (by decide) rfl ?_
  intro p e s m args below meth c s₁ B hml hv
  obtain ⟨rfl, hP, hK⟩ := hv
  have hx := B.exec
  have hb := B.bytes
  have hr := B.returns
  have hts := atoms_spec (ws := wsL_most) B.pre
  have hown : s.vm.findClass RL = some m.cls := findClass_of_methodNamed B.named
  have hlocks := B.notSynchronized
  have hP : va_P D vwCl [(qa, aI yI 9 (qS S)), (sa, aJ yL 16 (setF G (2 ^ (S 0).toNat)))] s.heap := hP
  have hKz : va_K D vwCl (tyz yI yC yD) s := hK.sub [0, 1, 2] rfl
  have hl := lv_entry ([.int (iI a), .int (iI b), .ref qa, .ref sa]) (n := 6) (Nat.le_of_ble_eq_true rfl)
  rw [lg_entry_eq]
  generalize (lg_sl ([.int (iI a), .int (iI b), .ref qa, .ref sa]) ++ List.replicate (6 - (lg_sl ([.int (iI a), .int (iI b), .ref qa, .ref sa])).length) Slot.unset).toArray = ls at hl ⊢
  have hl : lv_has ls 6 [(0, .int (iI a)), (1, .int (iI b)), (2, .ref qa), (3, .ref sa)] := hl
  have hM : 2 ^ (S 0).toNat ≤ 512 := pw_le (n := 9) (by omega)
  refine lv_iconst (v := iI (-1)) hx hb dL_most_0 (by decide +kernel) ?_
  refine lv_istore (lv' := [(4, .int (iI (-1))), (0, .int (iI a)), (1, .int (iI b)), (2, .ref qa), (3, .ref sa)]) hx hb dL_most_1 hl (by decide) rfl (fun ls hl => ?_)
  refine lv_iconst (v := iI 0) hx hb dL_most_3 (by decide +kernel) ?_
  refine lv_istore (lv' := [(5, .int (iI 0)), (4, .int (iI (-1))), (0, .int (iI a)), (1, .int (iI b)), (2, .ref qa), (3, .ref sa)]) hx hb dL_most_4 hl (by decide) rfl (fun ls hl => ?_)
  refine iv_loopR (I := fun (qq : Nat × Int × Int) ls => match qq with | (n, x4, x5) => (n ≤ (2 ^ (S 0).toNat)) ∧ (x5 = n) ∧ (x4 = msN G a b n) ∧ lv_has ls 6 [(5, .int (iI x5)), (4, .int (iI x4)), (0, .int (iI a)), (1, .int (iI b)), (2, .ref qa), (3, .ref sa)]) (μ := fun (qq : Nat × Int × Int) => match qq with | (n, x4, x5) => (2 ^ (S 0).toNat) - n) (0, -1, 0) ?_ ?_
  · exact ⟨Nat.zero_le _, by omega, rfl, lv_sub hl [0, 1, 2, 3, 4, 5] rfl⟩
  · intro qq ls hI ih6
    obtain ⟨n, x4, x5⟩ := qq
    obtain ⟨hn, h5, h4, hl⟩ := hI
    refine lv_iload hx hb dL_most_6 (lv_at hl 0 rfl) ?_
    refine lv_iconst (v := iI 1) hx hb dL_most_8 (by decide +kernel) ?_
    refine lv_aload_n hx hb dL_most_9 rfl (lv_at hl 4 rfl) ?_
    refine lv_iconst (v := iI 0) hx hb dL_most_10 (by decide +kernel) ?_
    refine iv_aldE hx hb hK hP 0 0 rfl rfl (z := 0) (w := S 0) (by first | exact qS_n (by omega) | exact up_s | rfl) (by omega) (by omega) (by omega) dL_most_11 ?_
    refine lv_ishl hx hb dL_most_12 ?_
    rw [isl_i 1 (S 0)]
    rw [show (isl 1 (S 0) : Int) = ((2 ^ (S 0).toNat : Nat) : Int) from (isl_1 (by omega))]
    refine iv_icmp_ge (a := x5) (b := ((2 ^ (S 0).toNat : Nat) : Int)) (tgt := 52) hx hb (by omega) (by omega) dL_most_13 (by decide) (fun c13 => ?_) (fun c13 => ?_)
    · refine lv_iload hx hb dL_most_52 (lv_at hl 1 rfl) ?_
      exact W.iret hx hb hr (fun t ht hW => ⟨congrArg (fun z => Outcome.returned (some (Value.int (iI z)))) (show x4 = msN G a b (2 ^ (S 0).toNat) by rw [h4, show n = (2 ^ (S 0).toNat) by omega]), ht⟩) (fun q h => by cases h) dL_most_54
    · have hx5 : x5.toNat = n := by omega
      have hir := inL_r (L := x5.toNat) (a := a) (b := b) (by omega)
      have hlr := msN_r (G := G) (a := a) (b := b) (by omega) n
      refine lv_iload hx hb dL_most_16 (lv_at hl 0 rfl) ?_
      refine lv_aload_n hx hb dL_most_18 rfl (lv_at hl 5 rfl) ?_
      refine iv_roS (As := [.int (iI x5), .ref sa]) (rest := []) (n := 2) ⟨hx, hb, hml, hown, hts⟩ (c_L_is l D yI yC yD yL sa x5 (2 ^ (S 0).toNat) G (by omega) (by omega)) (va_cwS 2 hts gL_most_L_is rfl rfl rfl (by decide +kernel) ⟨Nat.le_of_ble_eq_true rfl, Nat.le_of_ble_eq_true rfl⟩) hK hP [1] rfl rfl hl.1 rfl (Nat.le_of_ble_eq_true rfl) dL_most_19 ⟨Nat.zero_le _, Nat.zero_le _⟩ ?_
      refine iv_ifb_eq (P := G x5.toNat = 1) (tgt := 46) hx hb dL_most_22 (by decide) (fun c22 => ?_) (fun c22 => ?_)
      · refine iv_inc (lv' := [(5, .int (iI (x5 + 1))), (4, .int (iI x4)), (0, .int (iI a)), (1, .int (iI b)), (2, .ref qa), (3, .ref sa)]) hx hb dL_most_46 hl (k := 0) rfl (by decide) rfl (fun ls hl => ?_)
        refine lv_goto (tgt := 6) hx hb dL_most_49 (by decide) ?_
        refine ih6 (n + 1, x4, x5 + 1) (by show ((2 ^ (S 0).toNat) - (n + 1) : Nat) < (2 ^ (S 0).toNat) - n; omega) ?_
        exact ⟨by omega, by omega, by rw [show msN G a b (n + 1) = if G n = 1 ∧ msN G a b n < inL n a b then inL n a b else msN G a b n from rfl, ← h4, ← hx5]; first | (rw [if_pos (by omega)]; done) | (rw [if_neg (by omega)]; done), lv_sub hl [0, 1, 2, 3, 4, 5] rfl⟩
      · refine lv_iload hx hb dL_most_25 (lv_at hl 0 rfl) ?_
        refine lv_iload_n hx hb dL_most_27 rfl (lv_at hl 2 rfl) ?_
        refine lv_iload_n hx hb dL_most_28 rfl (lv_at hl 3 rfl) ?_
        refine iv_roS (As := [.int (iI x5), .int (iI a), .int (iI b)]) (rest := []) (n := 3) ⟨hx, hb, hml, hown, hts⟩ (c_L_in l D yI yC yD yL x5 a b (by omega) (by omega)) (va_cwS 3 hts gL_most_L_in rfl rfl rfl (by decide +kernel) ⟨Nat.le_of_ble_eq_true rfl, Nat.le_of_ble_eq_true rfl⟩) hK hP [] rfl rfl hl.1 rfl (Nat.le_of_ble_eq_true rfl) dL_most_29 ⟨Nat.zero_le _, Nat.zero_le _⟩ ?_
        refine lv_iload hx hb dL_most_32 (lv_at hl 1 rfl) ?_
        refine iv_icmp_le (a := inL x5.toNat a b) (b := x4) (tgt := 46) hx hb (by omega) (by omega) dL_most_34 (by decide) (fun c34 => ?_) (fun c34 => ?_)
        · refine iv_inc (lv' := [(5, .int (iI (x5 + 1))), (4, .int (iI x4)), (0, .int (iI a)), (1, .int (iI b)), (2, .ref qa), (3, .ref sa)]) hx hb dL_most_46 hl (k := 0) rfl (by decide) rfl (fun ls hl => ?_)
          refine lv_goto (tgt := 6) hx hb dL_most_49 (by decide) ?_
          refine ih6 (n + 1, x4, x5 + 1) (by show ((2 ^ (S 0).toNat) - (n + 1) : Nat) < (2 ^ (S 0).toNat) - n; omega) ?_
          exact ⟨by omega, by omega, by rw [show msN G a b (n + 1) = if G n = 1 ∧ msN G a b n < inL n a b then inL n a b else msN G a b n from rfl, ← h4, ← hx5]; first | (rw [if_pos (by omega)]; done) | (rw [if_neg (by omega)]; done), lv_sub hl [0, 1, 2, 3, 4, 5] rfl⟩
        · refine lv_iload hx hb dL_most_37 (lv_at hl 0 rfl) ?_
          refine lv_iload_n hx hb dL_most_39 rfl (lv_at hl 2 rfl) ?_
          refine lv_iload_n hx hb dL_most_40 rfl (lv_at hl 3 rfl) ?_
          refine iv_roS (As := [.int (iI x5), .int (iI a), .int (iI b)]) (rest := []) (n := 3) ⟨hx, hb, hml, hown, hts⟩ (c_L_in l D yI yC yD yL x5 a b (by omega) (by omega)) (va_cwS 3 hts gL_most_L_in rfl rfl rfl (by decide +kernel) ⟨Nat.le_of_ble_eq_true rfl, Nat.le_of_ble_eq_true rfl⟩) hK hP [] rfl rfl hl.1 rfl (Nat.le_of_ble_eq_true rfl) dL_most_41 ⟨Nat.zero_le _, Nat.zero_le _⟩ ?_
          refine lv_istore (lv' := [(4, .int (iI (inL x5.toNat a b))), (5, .int (iI x5)), (0, .int (iI a)), (1, .int (iI b)), (2, .ref qa), (3, .ref sa)]) hx hb dL_most_44 hl (by decide) rfl (fun ls hl => ?_)
          refine iv_inc (lv' := [(5, .int (iI (x5 + 1))), (4, .int (iI (inL x5.toNat a b))), (0, .int (iI a)), (1, .int (iI b)), (2, .ref qa), (3, .ref sa)]) hx hb dL_most_46 hl (k := 1) rfl (by decide) rfl (fun ls hl => ?_)
          refine lv_goto (tgt := 6) hx hb dL_most_49 (by decide) ?_
          refine ih6 (n + 1, inL x5.toNat a b, x5 + 1) (by show ((2 ^ (S 0).toNat) - (n + 1) : Nat) < (2 ^ (S 0).toNat) - n; omega) ?_
          exact ⟨by omega, by omega, by rw [show msN G a b (n + 1) = if G n = 1 ∧ msN G a b n < inL n a b then inL n a b else msN G a b n from rfl, ← h4, ← hx5]; first | (rw [if_pos (by omega)]; done) | (rw [if_neg (by omega)]; done), lv_sub hl [0, 1, 2, 3, 4, 5] rfl⟩
set_option maxHeartbeats 4000000 in
set_option maxRecDepth 100000 in
theorem c_L_known (l : Launch) (D : va_G) (yI yC yD yL : ClassId) (qa : Nat) (sa : Nat) (S : Int → Int) (G : Nat → Int) (hp9 : 8 ≤ S 0 ∧ S 0 ≤ 9) : Met l yL_known wsL_known ({ frames := 1, cells := 0, slots := 0, locals := 21 }) (roP [.ref qa, .ref sa] D (tyl yI yC yD yL) [(qa, aI yI 9 (qS S)), (sa, aJ yL 16 (setF G (2 ^ (S 0).toNat)))]) (QcRead (iI (kmI (alI G (2 ^ (S 0).toNat)) (soI G (2 ^ (S 0).toNat)) (S 0)))) 0 0 (fun _ => False) := by
  refine Met.ofW (cc := cL_known) (maxL := 5) (ret := (some .int)) (by decide) rfl ?_
  intro p e s m args below meth c s₁ B hml hv
  obtain ⟨rfl, hP, hK⟩ := hv
  have hx := B.exec
  have hb := B.bytes
  have hr := B.returns
  have hts := atoms_spec (ws := wsL_known) B.pre
  have hown : s.vm.findClass RL = some m.cls := findClass_of_methodNamed B.named
  have hlocks := B.notSynchronized
  have hP : va_P D vwCl [(qa, aI yI 9 (qS S)), (sa, aJ yL 16 (setF G (2 ^ (S 0).toNat)))] s.heap := hP
  have hKz : va_K D vwCl (tyz yI yC yD) s := hK.sub [0, 1, 2] rfl
  have hl := lv_entry ([.ref qa, .ref sa]) (n := 5) (Nat.le_of_ble_eq_true rfl)
  rw [lg_entry_eq]
  generalize (lg_sl ([.ref qa, .ref sa]) ++ List.replicate (5 - (lg_sl ([.ref qa, .ref sa])).length) Slot.unset).toArray = ls at hl ⊢
  have hl : lv_has ls 5 [(0, .ref qa), (1, .ref sa)] := hl
  have hM : 2 ^ (S 0).toNat ≤ 512 := pw_le (n := 9) (by omega)
  refine lv_iconst (v := iI (-1)) hx hb dL_known_0 (by decide +kernel) ?_
  refine lv_istore_n (lv' := [(2, .int (iI (-1))), (0, .ref qa), (1, .ref sa)]) hx hb dL_known_1 rfl hl (by decide) rfl (fun ls hl => ?_)
  refine lv_iconst (v := iI 0) hx hb dL_known_2 (by decide +kernel) ?_
  refine lv_istore_n (lv' := [(3, .int (iI 0)), (2, .int (iI (-1))), (0, .ref qa), (1, .ref sa)]) hx hb dL_known_3 rfl hl (by decide) rfl (fun ls hl => ?_)
  refine lv_iconst (v := iI 0) hx hb dL_known_4 (by decide +kernel) ?_
  refine lv_istore (lv' := [(4, .int (iI 0)), (3, .int (iI 0)), (2, .int (iI (-1))), (0, .ref qa), (1, .ref sa)]) hx hb dL_known_5 hl (by decide) rfl (fun ls hl => ?_)
  refine iv_loopR (I := fun (qq : Nat × Int × Int × Int) ls => match qq with | (n, x2, x3, x4) => (n ≤ (2 ^ (S 0).toNat)) ∧ (x4 = n) ∧ (x2 = alI G n) ∧ (x3 = soI G n) ∧ lv_has ls 5 [(4, .int (iI x4)), (3, .int (iI x3)), (2, .int (iI x2)), (0, .ref qa), (1, .ref sa)]) (μ := fun (qq : Nat × Int × Int × Int) => match qq with | (n, x2, x3, x4) => (2 ^ (S 0).toNat) - n) (0, -1, 0, 0) ?_ ?_
  · exact ⟨Nat.zero_le _, by omega, rfl, rfl, lv_sub hl [0, 1, 2, 3, 4] rfl⟩
  · intro qq ls hI ih7
    obtain ⟨n, x2, x3, x4⟩ := qq
    obtain ⟨hn, h4, h2, h3, hl⟩ := hI
    refine lv_iload hx hb dL_known_7 (lv_at hl 0 rfl) ?_
    refine lv_iconst (v := iI 1) hx hb dL_known_9 (by decide +kernel) ?_
    refine lv_aload_n hx hb dL_known_10 rfl (lv_at hl 3 rfl) ?_
    refine lv_iconst (v := iI 0) hx hb dL_known_11 (by decide +kernel) ?_
    refine iv_aldE hx hb hK hP 0 0 rfl rfl (z := 0) (w := S 0) (by first | exact qS_n (by omega) | exact up_s | rfl) (by omega) (by omega) (by omega) dL_known_12 ?_
    refine lv_ishl hx hb dL_known_13 ?_
    rw [isl_i 1 (S 0)]
    rw [show (isl 1 (S 0) : Int) = ((2 ^ (S 0).toNat : Nat) : Int) from (isl_1 (by omega))]
    refine iv_icmp_ge (a := x4) (b := ((2 ^ (S 0).toNat : Nat) : Int)) (tgt := 45) hx hb (by omega) (by omega) dL_known_14 (by decide) (fun c14 => ?_) (fun c14 => ?_)
    · refine lv_iload_n hx hb dL_known_45 rfl (lv_at hl 2 rfl) ?_
      refine lv_iload_n hx hb dL_known_46 rfl (lv_at hl 1 rfl) ?_
      refine lv_iconst (v := iI (-1)) hx hb dL_known_47 (by decide +kernel) ?_
      refine lv_ixor hx hb dL_known_48 ?_
      rw [ixr_i x3 (-1)]
      refine lv_ior hx hb dL_known_49 ?_
      rw [io_i x2 (ixr x3 (-1))]
      refine lv_iconst (v := iI 1) hx hb dL_known_50 (by decide +kernel) ?_
      refine lv_aload_n hx hb dL_known_51 rfl (lv_at hl 3 rfl) ?_
      refine lv_iconst (v := iI 0) hx hb dL_known_52 (by decide +kernel) ?_
      refine iv_aldE hx hb hK hP 0 0 rfl rfl (z := 0) (w := S 0) (by first | exact qS_n (by omega) | exact up_s | rfl) (by omega) (by omega) (by omega) dL_known_53 ?_
      refine lv_ishl hx hb dL_known_54 ?_
      rw [isl_i 1 (S 0)]
      refine lv_iconst (v := iI 1) hx hb dL_known_55 (by decide +kernel) ?_
      refine iv_sub hx hb dL_known_56 ?_
      refine lv_iand hx hb dL_known_57 ?_
      rw [ia_i (io x2 (ixr x3 (-1))) (isl 1 (S 0) - 1)]
      exact W.iret hx hb hr (fun t ht hW => ⟨congrArg (fun z => Outcome.returned (some (Value.int (iI z)))) (show ia (io x2 (ixr x3 (-1))) (isl 1 (S 0) - 1) = kmI (alI G (2 ^ (S 0).toNat)) (soI G (2 ^ (S 0).toNat)) (S 0) by rw [h2, h3, show n = (2 ^ (S 0).toNat) by omega]; rfl), ht⟩) (fun q h => by cases h) dL_known_58
    · have hx4 : x4.toNat = n := by omega
      refine lv_iload hx hb dL_known_17 (lv_at hl 0 rfl) ?_
      refine lv_aload_n hx hb dL_known_19 rfl (lv_at hl 4 rfl) ?_
      refine iv_roS (As := [.int (iI x4), .ref sa]) (rest := []) (n := 2) ⟨hx, hb, hml, hown, hts⟩ (c_L_is l D yI yC yD yL sa x4 (2 ^ (S 0).toNat) G (by omega) (by omega)) (va_cwS 2 hts gL_known_L_is rfl rfl rfl (by decide +kernel) ⟨Nat.le_of_ble_eq_true rfl, Nat.le_of_ble_eq_true rfl⟩) hK hP [1] rfl rfl hl.1 rfl (Nat.le_of_ble_eq_true rfl) dL_known_20 ⟨Nat.zero_le _, Nat.zero_le _⟩ ?_
      refine iv_ifb_ne (P := G x4.toNat = 1) (tgt := 29) hx hb dL_known_23 (by decide) (fun c23 => ?_) (fun c23 => ?_)
      · refine lv_iload_n hx hb dL_known_29 rfl (lv_at hl 2 rfl) ?_
        refine lv_iload hx hb dL_known_30 (lv_at hl 0 rfl) ?_
        refine lv_iand hx hb dL_known_32 ?_
        rw [ia_i x2 x4]
        refine lv_istore_n (lv' := [(2, .int (iI (ia x2 x4))), (4, .int (iI x4)), (3, .int (iI x3)), (0, .ref qa), (1, .ref sa)]) hx hb dL_known_33 rfl hl (by decide) rfl (fun ls hl => ?_)
        refine lv_iload_n hx hb dL_known_34 rfl (lv_at hl 2 rfl) ?_
        refine lv_iload hx hb dL_known_35 (lv_at hl 1 rfl) ?_
        refine lv_ior hx hb dL_known_37 ?_
        rw [io_i x3 x4]
        refine lv_istore_n (lv' := [(3, .int (iI (io x3 x4))), (2, .int (iI (ia x2 x4))), (4, .int (iI x4)), (0, .ref qa), (1, .ref sa)]) hx hb dL_known_38 rfl hl (by decide) rfl (fun ls hl => ?_)
        refine iv_inc (lv' := [(4, .int (iI (x4 + 1))), (3, .int (iI (io x3 x4))), (2, .int (iI (ia x2 x4))), (0, .ref qa), (1, .ref sa)]) hx hb dL_known_39 hl (k := 2) rfl (by decide) rfl (fun ls hl => ?_)
        refine lv_goto (tgt := 7) hx hb dL_known_42 (by decide) ?_
        refine ih7 (n + 1, ia x2 x4, io x3 x4, x4 + 1) (by show ((2 ^ (S 0).toNat) - (n + 1) : Nat) < (2 ^ (S 0).toNat) - n; omega) ?_
        exact ⟨by omega, by omega, by rw [h2]; (try rw [h4]); first | exact (if_pos (by rw [← hx4]; exact c23)).symm | exact (if_neg (by rw [← hx4]; exact c23)).symm, by rw [h3]; (try rw [h4]); first | exact (if_pos (by rw [← hx4]; exact c23)).symm | exact (if_neg (by rw [← hx4]; exact c23)).symm, lv_sub hl [0, 1, 2, 3, 4] rfl⟩
      · refine lv_goto (tgt := 39) hx hb dL_known_26 (by decide) ?_
        refine iv_inc (lv' := [(4, .int (iI (x4 + 1))), (3, .int (iI x3)), (2, .int (iI x2)), (0, .ref qa), (1, .ref sa)]) hx hb dL_known_39 hl (k := 0) rfl (by decide) rfl (fun ls hl => ?_)
        refine lv_goto (tgt := 7) hx hb dL_known_42 (by decide) ?_
        refine ih7 (n + 1, x2, x3, x4 + 1) (by show ((2 ^ (S 0).toNat) - (n + 1) : Nat) < (2 ^ (S 0).toNat) - n; omega) ?_
        exact ⟨by omega, by omega, by rw [h2]; (try rw [h4]); first | exact (if_pos (by rw [← hx4]; exact c23)).symm | exact (if_neg (by rw [← hx4]; exact c23)).symm, by rw [h3]; (try rw [h4]); first | exact (if_pos (by rw [← hx4]; exact c23)).symm | exact (if_neg (by rw [← hx4]; exact c23)).symm, lv_sub hl [0, 1, 2, 3, 4] rfl⟩

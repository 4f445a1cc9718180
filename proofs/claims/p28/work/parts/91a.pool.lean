/-! the drives that are kept: fourteen states of the ring, two save slots, in one list -/
theorem va_P.perm {D : va_G} {cl : List vw_C} {a b : va_W} {H : Heap} (h : va_P D cl a H) (hp : a.Perm b) : va_P D cl b H := fun k q hq => by
  have h1 : q ∈ a := hp.mem_iff.mpr (List.mem_of_getElem? hq)
  obtain ⟨i, hi⟩ := List.getElem?_of_mem h1
  exact h i q hi
theorem va_D_cons {A : Nat → Prop} {a : Nat × va_E} {w : va_W} : va_D A (a :: w) ↔ A a.1 ∧ (∀ q ∈ w, q.1 ≠ a.1) ∧ va_D A w := by
  constructor
  · intro h
    refine ⟨h.2 0 a rfl, fun q hq e => ?_, ⟨fun i j x y hx hy hxy => ?_, fun k q hq => h.2 (k + 1) q hq⟩⟩
    · obtain ⟨i, hi⟩ := List.getElem?_of_mem hq
      have := h.1 (i + 1) 0 q a hi rfl e
      omega
    · have := h.1 (i + 1) (j + 1) x y hx hy hxy
      omega
  · rintro ⟨h1, h2, h3⟩
    refine ⟨fun i j x y hx hy hxy => ?_, fun k q hq => ?_⟩
    · cases i with
      | zero => cases j with
        | zero => rfl
        | succ j =>
          cases hx
          exact absurd hxy.symm (h2 y (List.mem_of_getElem? (show w[j]? = some y from hy)))
      | succ i => cases j with
        | zero =>
          cases hy
          exact absurd hxy (h2 x (List.mem_of_getElem? (show w[i]? = some x from hx)))
        | succ j => exact congrArg (· + 1) (h3.1 i j x y hx hy hxy)
    · cases k with
      | zero => cases hq; exact h1
      | succ k => exact h3.2 k q hq
theorem va_D.perm {A : Nat → Prop} {a b : va_W} (hp : a.Perm b) : va_D A a → va_D A b := by
  induction hp with
  | nil => exact id
  | cons x _ ih =>
    intro h
    obtain ⟨h1, h2, h3⟩ := va_D_cons.mp h
    rename_i l1 l2 hp
    exact va_D_cons.mpr ⟨h1, fun q hq => h2 q (hp.mem_iff.mpr hq), ih h3⟩
  | swap x y l =>
    intro h
    obtain ⟨h1, h2, h3⟩ := va_D_cons.mp h
    obtain ⟨h4, h5, h6⟩ := va_D_cons.mp h3
    refine va_D_cons.mpr ⟨h4, fun q hq => ?_, va_D_cons.mpr ⟨h1, fun q hq => h2 q (List.mem_cons_of_mem _ hq), h6⟩⟩
    rcases List.mem_cons.mp hq with rfl | hq
    · exact fun e => h2 x List.mem_cons_self e.symm
    · exact h5 q hq
  | trans _ _ ih1 ih2 => exact fun h => ih2 (ih1 h)
theorem mid_perm {X A1 W A2 : va_W} : (X ++ (A1 ++ (W ++ A2))).Perm ((X ++ W) ++ (A1 ++ A2)) := by
  rw [List.append_assoc X W]
  exact List.Perm.append_left X (by
    rw [← List.append_assoc, ← List.append_assoc]
    exact List.Perm.append_right A2 List.perm_append_comm)
/-- a kept drive: its object, its row, its state, what its row holds -/
abbrev DE : Type := Nat × Nat × (Int → Int) × (Int → Int)
def eC (yI : ClassId) (o : Option DE) : va_W := match o with
  | none => []
  | some (q, qc, S, g) => [(q, oDrv qc S (lN (kL S 0 40))), (qc, aI yI 48 g)]
def plE (yI : ClassId) (en : Nat → Option DE) : Nat → va_W
  | 0 => []
  | n + 1 => plE yI en n ++ eC yI (en n)
theorem plE_c {yI : ClassId} {en en2 : Nat → Option DE} : ∀ n : Nat, (∀ i, i < n → en2 i = en i) → plE yI en2 n = plE yI en n
  | 0, _ => rfl
  | n + 1, h => by
    show plE yI en2 n ++ eC yI (en2 n) = plE yI en n ++ eC yI (en n)
    rw [plE_c n (fun i hi => h i (by omega)), h n (by omega)]
theorem plE_split {yI : ClassId} {en : Nat → Option DE} {j : Nat} : ∀ n : Nat, j < n → ∃ A1 A2 : va_W, plE yI en n = A1 ++ (eC yI (en j) ++ A2) ∧ ∀ e : Option DE, plE yI (fun i => if i = j then e else en i) n = A1 ++ (eC yI e ++ A2)
  | 0, h => absurd h (by omega)
  | n + 1, h => by
    by_cases q : j = n
    · subst q
      refine ⟨plE yI en j, [], ?_, fun e => ?_⟩
      · show plE yI en j ++ eC yI (en j) = _
        rw [List.append_nil]
      · show plE yI _ j ++ eC yI (if j = j then e else en j) = _
        rw [if_pos rfl, List.append_nil, plE_c (en := en) j (fun i hi => if_neg (by omega))]
    · obtain ⟨A1, A2, h1, h2⟩ := plE_split (en := en) (j := j) n (by omega)
      refine ⟨A1, A2 ++ eC yI (en n), ?_, fun e => ?_⟩
      · show plE yI en n ++ eC yI (en n) = _
        rw [h1]
        simp only [List.append_assoc]
      · show plE yI _ n ++ eC yI (if n = j then e else en n) = _
        rw [h2 e, if_neg (fun z => q z.symm)]
        simp only [List.append_assoc]
theorem plE_drop {yI : ClassId} {en : Nat → Option DE} : ∃ A2 : va_W, plE yI en 16 = plE yI (fun i => if i < 14 then en i else none) 16 ++ A2 := by
  refine ⟨eC yI (en 14) ++ eC yI (en 15), ?_⟩
  show (plE yI en 14 ++ eC yI (en 14)) ++ eC yI (en 15) = ((plE yI (fun i => if i < 14 then en i else none) 14 ++ eC yI (if 14 < 14 then en 14 else none)) ++ eC yI (if 15 < 14 then en 15 else none)) ++ (eC yI (en 14) ++ eC yI (en 15))
  rw [if_neg (by omega), if_neg (by omega), plE_c (en := en) 14 (fun i hi => if_pos hi)]
  simp only [List.append_assoc]
  rfl
/-- where the state number t (the oldest is 0) lies in the ring -/
def ri (nx ct t : Int) : Nat := (if nx - ct + t < 0 then nx - ct + t + 14 else nx - ct + t).toNat
def SR (e : DE) (S0 : Int → Int) : Prop := Inv e.2.2.1 ∧ Rc e.2.2.1 e.2.2.2 ∧ ∀ z : Int, 0 ≤ z → z < 96 → S0 z = e.2.2.1 z
def fO (en : Nat → Option DE) (f fs : Nat → Option Nat) : Prop := (∀ j, j < 14 → f j = (en j).map (·.1)) ∧ ∀ j, j < 2 → fs j = (en (14 + j)).map (·.1)
def rO (en : Nat → Option DE) (nx ct : Int) (Hh : Int → Int) : Prop := ∀ t : Int, 0 ≤ t → t < ct → ∃ e, en (ri nx ct t) = some e ∧ SR e (hst Hh t)
def sO (en : Nat → Option DE) (Sl Sv : Int → Int) : Prop := ∀ j : Int, 0 ≤ j → j < 2 → (Sv j = 1 → ∃ e, en (14 + j.toNat) = some e ∧ SR e (hst Sl j)) ∧ (Sv j ≠ 1 → en (14 + j.toNat) = none)
def enU (en : Nat → Option DE) (j : Nat) (e : DE) : Nat → Option DE := fun i => if i = j then some e else en i
theorem ri_lt {nx ct t : Int} (h : 0 ≤ nx ∧ nx < 14 ∧ ct ≤ 14) (ht : 0 ≤ t ∧ t < ct) : ri nx ct t < 14 := by
  unfold ri
  split <;> omega
theorem fO_ring {en : Nat → Option DE} {f fs : Nat → Option Nat} (h : fO en f fs) {j : Nat} (hj : j < 14) (e : DE) : fO (enU en j e) (va_up f j (some e.1)) fs := by
  refine ⟨fun i hi => ?_, fun i hi => ?_⟩
  · unfold enU va_up
    split
    · rfl
    · exact h.1 i hi
  · unfold enU
    rw [if_neg (by omega)]
    exact h.2 i hi
theorem fO_slot {en : Nat → Option DE} {f fs : Nat → Option Nat} (h : fO en f fs) {j : Nat} (hj : j < 2) (e : DE) : fO (enU en (14 + j) e) f (va_up fs j (some e.1)) := by
  refine ⟨fun i hi => ?_, fun i hi => ?_⟩
  · unfold enU
    rw [if_neg (by omega)]
    exact h.1 i hi
  · unfold enU va_up
    by_cases q : i = j
    · subst q
      rw [if_pos rfl, if_pos rfl]
      rfl
    · rw [if_neg q, if_neg (by omega)]
      exact h.2 i hi
theorem hst_rem {S F : Int → Int} {re t : Int} (hr : 0 ≤ re ∧ re ≤ 14) (ht : 0 ≤ t) : (t = remR re → ∀ z, 0 ≤ z → z < 96 → hst (remH S F re) t z = S z) ∧ (t < remR re → ∀ z, 0 ≤ z → z < 96 → hst (remH S F re) t z = hst F (if re = 14 then t + 1 else t) z) := by
  unfold remR
  refine ⟨fun h z h0 h1 => ?_, fun h z h0 h1 => ?_⟩
  · unfold hst remH cpy cpyN
    unfold remR
    rw [if_pos (by split at h <;> omega)]
    congr 1
    split at h <;> omega
  · unfold hst remH cpy cpyN remB
    unfold remR
    rw [if_neg (by split at h <;> split <;> omega)]
    by_cases q : re = 14
    · rw [if_pos q] at h ⊢
      rw [if_pos q]
      unfold shH
      rw [if_pos (by omega)]
      congr 1
      omega
    · rw [if_neg q, if_neg q]
theorem rO_rem {en : Nat → Option DE} {nx ct : Int} {Hh S g : Int → Int} {q qc : Nat} (h : rO en nx ct Hh) (hI : Inv S) (hR : Rc S g) (hm : 0 ≤ nx ∧ nx < 14 ∧ 0 ≤ ct ∧ ct ≤ 14) : rO (enU en nx.toNat (q, qc, S, g)) (if nx + 1 < 14 then nx + 1 else 0) (min (ct + 1) 14) (remH S Hh ct) := by
  intro t h0 h1
  obtain ⟨r1, r2⟩ := hst_rem (S := S) (F := Hh) (re := ct) (t := t) (by omega) h0
  have hrr : remR ct = if ct = 14 then 13 else ct := rfl
  by_cases ht : t = remR ct
  · refine ⟨(q, qc, S, g), ?_, hI, hR, r1 ht⟩
    unfold enU ri
    rw [if_pos]
    split at hrr <;> (split <;> split <;> omega)
  · have ht2 : t < remR ct := by split at hrr <;> omega
    obtain ⟨e, he, s1, s2, s3⟩ := h (if ct = 14 then t + 1 else t) (by split <;> omega) (by split at hrr <;> split <;> omega)
    refine ⟨e, ?_, s1, s2, fun z z0 z1 => (r2 ht2 z z0 z1).trans (s3 z z0 z1)⟩
    have e1 : ri (if nx + 1 < 14 then nx + 1 else 0) (min (ct + 1) 14) t = ri nx ct (if ct = 14 then t + 1 else t) := by
      unfold ri
      by_cases c1 : ct = 14
      · rw [if_pos c1]
        rw [if_pos c1] at hrr
        split <;> split <;> split <;> omega
      · rw [if_neg c1]
        rw [if_neg c1] at hrr
        split <;> split <;> split <;> omega
    rw [e1]
    unfold enU
    rw [if_neg]
    · exact he
    · unfold ri
      by_cases c1 : ct = 14
      · rw [if_pos c1]
        rw [if_pos c1] at hrr
        split <;> omega
      · rw [if_neg c1]
        rw [if_neg c1] at hrr
        split <;> omega
theorem sO_ring {en : Nat → Option DE} {Sl Sv : Int → Int} (h : sO en Sl Sv) {j : Nat} (hj : j < 14) (e : DE) : sO (enU en j e) Sl Sv := fun i h0 h1 => by
  unfold enU
  rw [if_neg (by omega)]
  exact h i h0 h1
theorem rO_slot {en : Nat → Option DE} {nx ct : Int} {Hh : Int → Int} (h : rO en nx ct Hh) (hm : 0 ≤ nx ∧ nx < 14 ∧ ct ≤ 14) {j : Nat} (e : DE) : rO (enU en (14 + j) e) nx ct Hh := fun t h0 h1 => by
  have := ri_lt hm (t := t) (by omega)
  unfold enU
  rw [if_neg (by omega)]
  exact h t h0 h1
theorem rO_back {en : Nat → Option DE} {nx ct nw : Int} {Hh : Int → Int} (h : rO en nx ct Hh) (hm : 0 ≤ nx ∧ nx < 14 ∧ 0 < ct ∧ ct ≤ 14) (hnw : (0 < nx ∧ nw = nx - 1) ∨ (¬ 0 < nx ∧ nw = 13)) : rO en nw (ct - 1) Hh := fun t h0 h1 => by
  obtain ⟨e, he, hs⟩ := h t h0 (by omega)
  refine ⟨e, ?_, hs⟩
  rw [← he]
  congr 1
  unfold ri
  split <;> split <;> omega
theorem rO_top {en : Nat → Option DE} {nx ct nw : Int} {Hh : Int → Int} (h : rO en nx ct Hh) (hm : 0 ≤ nx ∧ nx < 14 ∧ 0 < ct ∧ ct ≤ 14) (hnw : (0 < nx ∧ nw = nx - 1) ∨ (¬ 0 < nx ∧ nw = 13)) : ∃ e, en nw.toNat = some e ∧ SR e (hst Hh (ct - 1)) := by
  obtain ⟨e, he, hs⟩ := h (ct - 1) (by omega) (by omega)
  refine ⟨e, ?_, hs⟩
  rw [← he]
  congr 1
  unfold ri
  split <;> omega
theorem rO_0 {en : Nat → Option DE} {nx : Int} {Hh : Int → Int} : rO en nx 0 Hh := fun t h0 h1 => by omega
theorem sO_save {en : Nat → Option DE} {Sl Sv S g : Int → Int} {i : Int} {q qc : Nat} (h : sO en Sl Sv) (hi : 0 ≤ i ∧ i < 2) (hI : Inv S) (hR : Rc S g) : sO (enU en (14 + i.toNat) (q, qc, S, g)) (cpy S Sl 0 (96 * i)) (up Sv i 1) := fun j h0 h1 => by
  by_cases c : j = i
  · subst c
    rw [up_s]
    refine ⟨fun _ => ⟨(q, qc, S, g), if_pos rfl, hI, hR, fun z z0 z1 => ?_⟩, fun z => absurd rfl z⟩
    unfold hst cpy cpyN
    rw [if_pos (by omega)]
    show S _ = S _
    congr 1
    omega
  · rw [up_n c]
    unfold enU
    rw [if_neg (by omega)]
    refine ⟨fun hv => ?_, (h j h0 h1).2⟩
    obtain ⟨e, he, s1, s2, s3⟩ := (h j h0 h1).1 hv
    refine ⟨e, he, s1, s2, fun z z0 z1 => ?_⟩
    rw [← s3 z z0 z1]
    unfold hst cpy cpyN
    rw [if_neg (by omega)]
theorem fO_load {en : Nat → Option DE} {f fs fs2 : Nat → Option Nat} (h : fO en f fs) (h2 : ∀ j : Nat, j < 2 → fs2 j = none) : fO (fun i => if i < 14 then en i else none) f fs2 := ⟨fun j hj => by
    show f j = Option.map (·.1) (if j < 14 then en j else none)
    rw [if_pos hj]
    exact h.1 j hj, fun j hj => by
    show fs2 j = Option.map (·.1) (if 14 + j < 14 then en (14 + j) else none)
    rw [h2 j hj, if_neg (by omega)]
    rfl⟩
theorem sO_load {en : Nat → Option DE} {Sl Sv : Int → Int} : sO (fun i => if i < 14 then en i else none) Sl (up (up Sv 0 0) 1 0) := fun j h0 h1 => by
  have e : up (up Sv 0 0) 1 0 j = 0 := by
    rcases (show j = 0 ∨ j = 1 by omega) with rfl | rfl
    · rw [up_n (by omega), up_s]
    · exact up_s
  rw [e]
  exact ⟨fun q => absurd q (by omega), fun _ => if_neg (by omega)⟩
theorem rO_load {en : Nat → Option DE} {nx ct : Int} {Hh : Int → Int} (h : ct = 0) : rO en nx ct Hh := fun t h0 h1 => by omega
theorem fO_slot_y {en : Nat → Option DE} {f fs : Nat → Option Nat} (h : fO en f fs) {j : Nat} (hj : j < 2) {e : DE} (hf : fs j = some e.1) : fO (enU en (14 + j) e) f fs := by
  refine ⟨fun i hi => ?_, fun i hi => ?_⟩
  · unfold enU
    rw [if_neg (by omega)]
    exact h.1 i hi
  · unfold enU
    by_cases q : i = j
    · subst q
      rw [if_pos rfl, hf]
      rfl
    · rw [if_neg (by omega)]
      exact h.2 i hi
theorem wq_of {yI : ClassId} {en : Nat → Option DE} {f fs : Nat → Option Nat} (h : fO en f fs) {j : Nat} (hj : j < 14) : (f j = none ∧ eC yI (en j) = []) ∨ ∃ (q qc : Nat) (S2 g2 : Int → Int) (k2 : Int64), f j = some q ∧ eC yI (en j) = [(q, oDrv qc S2 k2), (qc, aI yI 48 g2)] := by
  rw [h.1 j hj]
  cases en j with
  | none => exact Or.inl ⟨rfl, rfl⟩
  | some e => exact Or.inr ⟨_, _, _, _, _, rfl, rfl⟩
theorem whyS_0 {V : Int → Int} {q : Int} (h : whyS V q = 0) : (0 ≤ q ∧ q < 2) ∧ V q = 1 := by
  unfold whyS at h
  split at h
  · omega
  · split at h
    · exact ⟨by omega, by assumption⟩
    · omega
theorem whyS_n {V : Int → Int} {q : Int} (h : ¬ whyS V q = 0) : (if 0 ≤ q ∧ q < 2 then 2 else 1) = whyS V q ∧ (0 ≤ q ∧ q < 2 → V q ≠ 1) := by
  unfold whyS at h ⊢
  by_cases c : 0 ≤ q ∧ q < 2
  · rw [if_pos c, if_neg (not_not_intro c)]
    rw [if_neg (not_not_intro c)] at h
    by_cases d : V q = 1
    · rw [if_pos d] at h
      exact absurd rfl h
    · rw [if_neg d]
      exact ⟨rfl, fun _ => d⟩
  · rw [if_neg c, if_pos c]
    exact ⟨rfl, fun z => absurd z c⟩
theorem whyAp_0 {n x : Int} (h : whyAp n x = 0) : 0 ≤ x ∧ x ≤ 255 ∧ n ≠ 100 := by
  unfold whyAp at h
  split at h
  · omega
  · split at h <;> omega
theorem whyAp_r {n x : Int} : 0 ≤ whyAp n x ∧ whyAp n x ≤ 2 := by
  unfold whyAp
  repeat' split
  all_goals omega
theorem whyAn_r {S : Int → Int} {i w : Int} : 0 ≤ whyAn S i w ∧ whyAn S i w ≤ 2 := by
  unfold whyAn
  repeat' split
  all_goals omega
theorem whyS_r {V : Int → Int} {q : Int} : 0 ≤ whyS V q ∧ whyS V q ≤ 2 := by
  unfold whyS
  repeat' split
  all_goals omega
theorem hrt_up {T : Int → Int} {tl x : Int} (h : ∀ z, 0 ≤ z → z < tl → 0 ≤ T z ∧ T z ≤ 255) (hx : 0 ≤ x ∧ x ≤ 255) : ∀ z, 0 ≤ z → z < tl + 1 → 0 ≤ up T tl x z ∧ up T tl x z ≤ 255 := fun z h0 h1 => by
  by_cases c : z = tl
  · rw [c, up_s]
    exact hx
  · rw [up_n c]
    exact h z h0 (by omega)
theorem hsv_up {V : Int → Int} {q : Int} (h : ∀ z, 0 ≤ z → z < 2 → 0 ≤ V z ∧ V z ≤ 1) : ∀ z, 0 ≤ z → z < 2 → 0 ≤ up V q 1 z ∧ up V q 1 z ≤ 1 := fun z h0 h1 => by
  by_cases c : z = q
  · rw [c, up_s]
    omega
  · rw [up_n c]
    exact h z h0 h1
theorem hsv_ld {V : Int → Int} : ∀ z : Int, 0 ≤ z → z < 2 → 0 ≤ up (up V 0 0) 1 0 z ∧ up (up V 0 0) 1 0 z ≤ 1 := fun z h0 h1 => by
  have e : up (up V 0 0) 1 0 z = 0 := by
    rcases (show z = 0 ∨ z = 1 by omega) with rfl | rfl
    · rw [up_n (by omega), up_s]
    · exact up_s
  omega
theorem va_P.ll {D : va_G} {cl : List vw_C} {X a b : va_W} {H : Heap} (h : va_P D cl (X ++ (a ++ b)) H) : va_P D cl (X ++ a) H := va_P.l (h.cv (List.append_assoc X a b).symm)
theorem va_D.ll {A : Nat → Prop} {X a b : va_W} (h : va_D A (X ++ (a ++ b))) : va_D A (X ++ a) := va_D.l (h.cv (List.append_assoc X a b).symm)

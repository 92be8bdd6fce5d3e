/-! ===== pure: loops over HOURS and JOBS ===== -/
theorem tn300 {p x : Nat} : (300 * (p : Int) + (x : Int)).toNat = 300 * p + x := by omega
theorem tn4 {p x : Nat} : (4 * (p : Int) + (x : Int)).toNat = 4 * p + x := by omega
def setr (M : gaM) (i : Nat) (f : Nat → Int) : gaM := fun a => if a = i then f else M a
def upr (f : Nat → Int) (j : Nat) (v : Int) : Nat → Int := fun x => if x = j then v else f x
def adr (f : Nat → Int) (a k : Nat) (d : Int) : Nat → Int := fun x => if a ≤ x ∧ x < a + k then f x + d else f x
theorem setr_self {M : gaM} {i : Nat} {f : Nat → Int} : setr M i f i = f := by simp [setr]
theorem setr_ne {M : gaM} {i a : Nat} {f : Nat → Int} (h : a ≠ i) : setr M i f a = M a := by simp [setr, h]
theorem setr_setr {M : gaM} {i : Nat} {f g : Nat → Int} : setr (setr M i f) i g = setr M i g := by
  funext a
  by_cases h : a = i <;> simp [setr, h]
theorem setr_id {M : gaM} {i : Nat} : setr M i (M i) = M := by
  funext a
  by_cases h : a = i
  · subst h; simp [setr]
  · simp [setr, h]
theorem st_setr {M : gaM} {i j : Nat} {v : Int} : ga_st M i j v = setr M i (upr (M i) j v) := by
  funext a b
  by_cases h : a = i
  · subst h
    by_cases hb : b = j <;> simp [ga_st, setr, upr, hb]
  · simp [ga_st, setr, h]
theorem adr_zero {f : Nat → Int} {a : Nat} {d : Int} : adr f a 0 d = f := by
  funext x
  unfold adr
  rw [if_neg (by omega)]
theorem adr_first {f : Nat → Int} {a k : Nat} {d : Int} : adr (upr f a (f a + d)) (a + 1) k d = adr f a (k + 1) d := by
  funext x
  unfold adr upr
  by_cases h : x = a
  · subst h
    rw [if_neg (by omega), if_pos rfl, if_pos (by omega)]
  · simp only [h, if_false]
    by_cases h2 : a + 1 ≤ x ∧ x < a + 1 + k
    · rw [if_pos h2, if_pos (by omega)]
    · rw [if_neg h2, if_neg (by omega)]
theorem upr_self {f : Nat → Int} {j : Nat} {v : Int} : upr f j v j = v := by simp [upr]
theorem upr_ne {f : Nat → Int} {j x : Nat} {v : Int} (h : x ≠ j) : upr f j v x = f x := by simp [upr, h]
section L1
variable {n G : Nat} {M : gaM} {α : Type} {k0 : Int → Option α} {kM : gaM → Option α}
-- COST of a JOB at a PLACE from an HOUR on, by the reference's numbers
def cst (M : gaM) (j p h : Nat) : Int := M 114 j * M 107 (4 * (M 110 j).toNat + p) + sm (M 108) (300 * p + h) (M 111 j).toNat
theorem p_costM_l {j p h len : Nat} (hj : j < 40) (hp : p < 4) (hl : M 111 j = (len : Int)) (hh : h + len ≤ 300) : ∀ (k x F : Nat) (acc : Int), x + k = h + len → k < F → l_X6_costOf_27 G n M F (j : Int) (p : Int) (h : Int) acc (x : Int) = some (acc + sm (M 108) (300 * p + x) k) := by
  intro k
  induction k with
  | zero =>
    intro x F acc hx hF
    obtain ⟨F, rfl⟩ : ∃ F1, F = F1 + 1 := ⟨F - 1, by omega⟩
    rw [l_X6_costOf_27]
    try simp only [Int.toNat_natCast, tn300, tn4, Nat.reduceMul, Nat.reduceAdd]
    try simp (disch := (first | omega | (simp (disch := omega) only [ga_st_self, ga_st_id, ga_st_ix] <;> omega) | skip)) only [↓gb_of, ↓gb2_of, ↓gb3_of, ↓gB_eq, ↓gg_pos, ↓if_pos, ↓if_neg, ↓b_wi1, ↓b_wi0, ↓b_has1, ↓b_has0, ↓b_in1, ↓b_in0, ↓b_pl1, ↓b_pl0, ↓b_jm1, ↓b_jm0, ↓b_jc1, ↓b_jc0, ↓b_size, ↓b_get, ↓b_ref, ↓b_den, ↓b_gra, ↓b_don]
    simp [sm]
  | succ k ih =>
    intro x F acc hx hF
    obtain ⟨F, rfl⟩ : ∃ F1, F = F1 + 1 := ⟨F - 1, by omega⟩
    rw [l_X6_costOf_27]
    try simp only [Int.toNat_natCast, tn300, tn4, Nat.reduceMul, Nat.reduceAdd]
    try simp (disch := (first | omega | (simp (disch := omega) only [ga_st_self, ga_st_id, ga_st_ix] <;> omega) | skip)) only [↓gb_of, ↓gb2_of, ↓gb3_of, ↓gB_eq, ↓gg_pos, ↓if_pos, ↓if_neg, ↓b_wi1, ↓b_wi0, ↓b_has1, ↓b_has0, ↓b_in1, ↓b_in0, ↓b_pl1, ↓b_pl0, ↓b_jm1, ↓b_jm0, ↓b_jc1, ↓b_jc0, ↓b_size, ↓b_get, ↓b_ref, ↓b_den, ↓b_gra, ↓b_don]
    rw [show ((x : Int) + 1) = ((x + 1 : Nat) : Int) from rfl, ih (x + 1) F _ (by omega) (by omega), sm_first, show 300 * p + (x + 1) = 300 * p + x + 1 by omega, Int.add_assoc]
theorem p_costM {j p h : Nat} (hG : 5000 ≤ G) (hj : j < 40) (hp : p < 4) (hl : 0 ≤ M 111 j ∧ (h : Int) + M 111 j ≤ 300) (ho : 0 ≤ M 110 j ∧ M 110 j < 4) : f_X6_costOf G n M (j : Int) (p : Int) (h : Int) = some (cst M j p h) := by
  obtain ⟨len, hlen⟩ : ∃ len : Nat, M 111 j = (len : Int) := ⟨(M 111 j).toNat, by omega⟩
  obtain ⟨o, hom⟩ : ∃ o : Nat, M 110 j = (o : Int) := ⟨(M 110 j).toNat, by omega⟩
  unfold f_X6_costOf
  try simp only [Int.toNat_natCast, tn300, tn4, Nat.reduceMul, Nat.reduceAdd]
  simp only [hom]
  try simp only [Int.toNat_natCast, tn300, tn4, Nat.reduceMul, Nat.reduceAdd]
  try simp (disch := (first | omega | (simp (disch := omega) only [ga_st_self, ga_st_id, ga_st_ix] <;> omega) | skip)) only [↓gb_of, ↓gb2_of, ↓gb3_of, ↓gB_eq, ↓gg_pos, ↓if_pos, ↓if_neg, ↓b_wi1, ↓b_wi0, ↓b_has1, ↓b_has0, ↓b_in1, ↓b_in0, ↓b_pl1, ↓b_pl0, ↓b_jm1, ↓b_jm0, ↓b_jc1, ↓b_jc0, ↓b_size, ↓b_get, ↓b_ref, ↓b_den, ↓b_gra, ↓b_don]
  rw [gb_eq (p_costM_l hj hp hlen (by omega) len h G _ rfl (by omega))]
  unfold cst
  rw [hom, hlen, Int.toNat_natCast, Int.toNat_natCast]
theorem p_costC_l {w p h len : Nat} (hp : p < 4) (hl : M w 2 = (len : Int)) (hh : h + len ≤ 300) : ∀ (k x F : Nat) (acc : Int), x + k = h + len → k < F → l_X2_costOf_11 G n w M F (p : Int) (h : Int) acc (x : Int) = some (acc + sm (M (21 + p)) x k) := by
  intro k
  induction k with
  | zero =>
    intro x F acc hx hF
    obtain ⟨F, rfl⟩ : ∃ F1, F = F1 + 1 := ⟨F - 1, by omega⟩
    rw [l_X2_costOf_11]
    try simp only [Int.toNat_natCast, tn300, tn4, Nat.reduceMul, Nat.reduceAdd]
    try simp (disch := (first | omega | (simp (disch := omega) only [ga_st_self, ga_st_id, ga_st_ix] <;> omega) | skip)) only [↓gb_of, ↓gb2_of, ↓gb3_of, ↓gB_eq, ↓gg_pos, ↓if_pos, ↓if_neg, ↓b_wi1, ↓b_wi0, ↓b_has1, ↓b_has0, ↓b_in1, ↓b_in0, ↓b_pl1, ↓b_pl0, ↓b_jm1, ↓b_jm0, ↓b_jc1, ↓b_jc0, ↓b_size, ↓b_get, ↓b_ref, ↓b_den, ↓b_gra, ↓b_don]
    simp [sm]
  | succ k ih =>
    intro x F acc hx hF
    obtain ⟨F, rfl⟩ : ∃ F1, F = F1 + 1 := ⟨F - 1, by omega⟩
    rw [l_X2_costOf_11]
    try simp only [Int.toNat_natCast, tn300, tn4, Nat.reduceMul, Nat.reduceAdd]
    try simp (disch := (first | omega | (simp (disch := omega) only [ga_st_self, ga_st_id, ga_st_ix] <;> omega) | skip)) only [↓gb_of, ↓gb2_of, ↓gb3_of, ↓gB_eq, ↓gg_pos, ↓if_pos, ↓if_neg, ↓b_wi1, ↓b_wi0, ↓b_has1, ↓b_has0, ↓b_in1, ↓b_in0, ↓b_pl1, ↓b_pl0, ↓b_jm1, ↓b_jm0, ↓b_jc1, ↓b_jc0, ↓b_size, ↓b_get, ↓b_ref, ↓b_den, ↓b_gra, ↓b_don]
    rw [show ((x : Int) + 1) = ((x + 1 : Nat) : Int) from rfl, ih (x + 1) F _ (by omega) (by omega), sm_first, Int.add_assoc]
theorem p_costC {w p h : Nat} (hG : 5000 ≤ G) (hp : p < 4) (hl : 0 ≤ M w 2 ∧ (h : Int) + M w 2 ≤ 300) (ho : 0 ≤ M w 1 ∧ M w 1 < 4) : f_X2_costOf G n M w (p : Int) (h : Int) = some (M w 5 * M (11 + (M w 1).toNat) p + sm (M (21 + p)) h (M w 2).toNat) := by
  obtain ⟨len, hlen⟩ : ∃ len : Nat, M w 2 = (len : Int) := ⟨(M w 2).toNat, by omega⟩
  have hc : f_X2_carriage G n M w (p : Int) = some (M w 5 * M (11 + (M w 1).toNat) p) := by
    unfold f_X2_carriage
    try simp only [Int.toNat_natCast, tn300, tn4, Nat.reduceMul, Nat.reduceAdd]
    try simp (disch := (first | omega | (simp (disch := omega) only [ga_st_self, ga_st_id, ga_st_ix] <;> omega) | skip)) only [↓gb_of, ↓gb2_of, ↓gb3_of, ↓gB_eq, ↓gg_pos, ↓if_pos, ↓if_neg, ↓b_wi1, ↓b_wi0, ↓b_has1, ↓b_has0, ↓b_in1, ↓b_in0, ↓b_pl1, ↓b_pl0, ↓b_jm1, ↓b_jm0, ↓b_jc1, ↓b_jc0, ↓b_size, ↓b_get, ↓b_ref, ↓b_den, ↓b_gra, ↓b_don]
  unfold f_X2_costOf
  rw [gb_eq hc, gb_eq (p_costC_l hp hlen (by omega) len h G _ rfl (by omega)), hlen, Int.toNat_natCast]
/-- both sides' COST is one -/
theorem cst_eq {j p h : Nat} (hI : Inv n M) (hj : j < n) (hp : (p : Int) < M 100 2) (hh : (h : Int) + M 111 j ≤ 300) : M (200 + j) 5 * M (11 + (M (200 + j) 1).toNat) p + sm (M (21 + p)) h (M (200 + j) 2).toNat = cst M j p h := by
  obtain ⟨hA, hB, hGr, hJ, -⟩ := hI
  obtain ⟨⟨g0, g1, g2, g3, g4, g5, -⟩, ⟨u1, u2, u3, u4, u5, u6, -⟩, -⟩ := hJ j hj
  unfold cst
  rw [g5, g1, g2, hB.1 (M 110 j).toNat p (by omega) hp]
  congr 1
  refine sm_congr (fun i hi => ?_)
  rw [hGr.1 p (h + i) hp (by omega), show 300 * p + (h + i) = 300 * p + h + i by omega]
theorem b_costC {j p h : Nat} (hG : 5000 ≤ G) (hI : Inv n M) (hj : j < n) (hp : (p : Int) < M 100 2) (hh : (h : Int) + M 111 j ≤ 300) : f_X2_costOf G n M (200 + j) (p : Int) (h : Int) = some (cst M j p h) := by
  have h1 := hI.2.2.2.1 j hj
  obtain ⟨⟨g0, g1, g2, -⟩, ⟨u1, u2, u3, u4, u5, u6, -⟩, -⟩ := h1
  have h4 := hI.1.2.2.1
  rw [p_costC hG (by omega) (by rw [g2]; omega) (by rw [g1]; omega), cst_eq hI hj hp hh]
theorem b_costM {j p h : Nat} (hG : 5000 ≤ G) (hI : Inv n M) (hj : j < n) (hp : (p : Int) < M 100 2) (hh : (h : Int) + M 111 j ≤ 300) : f_X6_costOf G n M (j : Int) (p : Int) (h : Int) = some (cst M j p h) := by
  obtain ⟨-, ⟨u1, u2, u3, u4, u5, u6, -⟩, -⟩ := hI.2.2.2.1 j hj
  have h4 := hI.1.2.2.1
  have h6 := hI.1.2.2.2.2.2.1
  exact p_costM hG (by omega) (by omega) (by omega) (by omega)
theorem cst_bd {j p h : Nat} (hI : Inv n M) (hj : j < n) (hp : p < 4) (hh : (h : Int) + M 111 j ≤ 300) : 0 ≤ cst M j p h ∧ cst M j p h ≤ 21789 := by
  obtain ⟨hA, hB, hGr, hJ, -⟩ := hI
  obtain ⟨-, ⟨u1, u2, u3, u4, u5, u6, u7, u8, u9, u10, u11⟩, -⟩ := hJ j hj
  have h4 := hA.2.2.1
  have f1 := hB.2.1 (M 110 j).toNat p (by omega) hp
  have s1 := sm_bd (f := M 108) (a := 300 * p + h) (lo := 0) (hi := 999) (k := (M 111 j).toNat) (fun i hi => by
    have := hGr.2.1 p (h + i) hp (by omega)
    rw [show 300 * p + h + i = 300 * p + (h + i) by omega]
    exact this)
  unfold cst
  have m1 : 0 ≤ M 114 j * M 107 (4 * (M 110 j).toNat + p) := Int.mul_nonneg u10 f1.1
  have m2 : M 114 j * M 107 (4 * (M 110 j).toNat + p) ≤ 99 * 99 := Int.mul_le_mul u11 f1.2 f1.1 (by omega)
  omega
-- ROOM: puts, take, giveBack
theorem p_puts_l {j p h len : Nat} {d : Int} (hj : j < 40) (hp : p < 4) (hh : h + len ≤ 300) : ∀ (k x F : Nat) (M : gaM), M 111 j = (len : Int) → x + k = h + len → k < F → l_X6_puts_3 G n F M (j : Int) (p : Int) (h : Int) d (x : Int) = some (setr M 119 (adr (M 119) (300 * p + x) k d)) := by
  intro k
  induction k with
  | zero =>
    intro x F M hl hx hF
    obtain ⟨F, rfl⟩ : ∃ F1, F = F1 + 1 := ⟨F - 1, by omega⟩
    rw [l_X6_puts_3]
    try simp only [Int.toNat_natCast, tn300, tn4, Nat.reduceMul, Nat.reduceAdd]
    try simp (disch := (first | omega | (simp (disch := omega) only [ga_st_self, ga_st_id, ga_st_ix] <;> omega) | skip)) only [↓gb_of, ↓gb2_of, ↓gb3_of, ↓gB_eq, ↓gg_pos, ↓if_pos, ↓if_neg, ↓b_wi1, ↓b_wi0, ↓b_has1, ↓b_has0, ↓b_in1, ↓b_in0, ↓b_pl1, ↓b_pl0, ↓b_jm1, ↓b_jm0, ↓b_jc1, ↓b_jc0, ↓b_size, ↓b_get, ↓b_ref, ↓b_den, ↓b_gra, ↓b_don]
    rw [adr_zero, setr_id]
  | succ k ih =>
    intro x F M hl hx hF
    obtain ⟨F, rfl⟩ : ∃ F1, F = F1 + 1 := ⟨F - 1, by omega⟩
    rw [l_X6_puts_3]
    try simp only [Int.toNat_natCast, tn300, tn4, Nat.reduceMul, Nat.reduceAdd]
    try simp (disch := (first | omega | (simp (disch := omega) only [ga_st_self, ga_st_id, ga_st_ix] <;> omega) | skip)) only [↓gb_of, ↓gb2_of, ↓gb3_of, ↓gB_eq, ↓gg_pos, ↓if_pos, ↓if_neg, ↓b_wi1, ↓b_wi0, ↓b_has1, ↓b_has0, ↓b_in1, ↓b_in0, ↓b_pl1, ↓b_pl0, ↓b_jm1, ↓b_jm0, ↓b_jc1, ↓b_jc0, ↓b_size, ↓b_get, ↓b_ref, ↓b_den, ↓b_gra, ↓b_don]
    rw [show ((x : Int) + 1) = ((x + 1 : Nat) : Int) from rfl, ih (x + 1) F _ (by rw [ga_st_id (by decide)]; exact hl) (by omega) (by omega), st_setr, setr_setr, setr_self, show 300 * p + (x + 1) = 300 * p + x + 1 by omega, adr_first]
theorem p_puts {j p h len : Nat} {d : Int} (hG : 5000 ≤ G) (hj : j < 40) (hp : p < 4) (hh : h + len ≤ 300) (hl : M 111 j = (len : Int)) : f_X6_puts G n M (j : Int) (p : Int) (h : Int) d = some (setr M 119 (adr (M 119) (300 * p + h) len d)) := by
  unfold f_X6_puts
  rw [gb_eq (p_puts_l hj hp hh len h G M hl rfl (by omega))]
theorem p_take_l {p h len : Nat} (hp : p < 4) (hh : h + len ≤ 300) : ∀ (k x F : Nat) (M : gaM), x + k = h + len → k < F → l_X2_take_3 G n F M (p : Int) (h : Int) (len : Int) (x : Int) = some (setr M (31 + p) (adr (M (31 + p)) x k (-1))) := by
  intro k
  induction k with
  | zero =>
    intro x F M hx hF
    obtain ⟨F, rfl⟩ : ∃ F1, F = F1 + 1 := ⟨F - 1, by omega⟩
    rw [l_X2_take_3]
    try simp only [Int.toNat_natCast, tn300, tn4, Nat.reduceMul, Nat.reduceAdd]
    try simp (disch := (first | omega | (simp (disch := omega) only [ga_st_self, ga_st_id, ga_st_ix] <;> omega) | skip)) only [↓gb_of, ↓gb2_of, ↓gb3_of, ↓gB_eq, ↓gg_pos, ↓if_pos, ↓if_neg, ↓b_wi1, ↓b_wi0, ↓b_has1, ↓b_has0, ↓b_in1, ↓b_in0, ↓b_pl1, ↓b_pl0, ↓b_jm1, ↓b_jm0, ↓b_jc1, ↓b_jc0, ↓b_size, ↓b_get, ↓b_ref, ↓b_den, ↓b_gra, ↓b_don]
    rw [adr_zero, setr_id]
  | succ k ih =>
    intro x F M hx hF
    obtain ⟨F, rfl⟩ : ∃ F1, F = F1 + 1 := ⟨F - 1, by omega⟩
    rw [l_X2_take_3]
    try simp only [Int.toNat_natCast, tn300, tn4, Nat.reduceMul, Nat.reduceAdd]
    try simp (disch := (first | omega | (simp (disch := omega) only [ga_st_self, ga_st_id, ga_st_ix] <;> omega) | skip)) only [↓gb_of, ↓gb2_of, ↓gb3_of, ↓gB_eq, ↓gg_pos, ↓if_pos, ↓if_neg, ↓b_wi1, ↓b_wi0, ↓b_has1, ↓b_has0, ↓b_in1, ↓b_in0, ↓b_pl1, ↓b_pl0, ↓b_jm1, ↓b_jm0, ↓b_jc1, ↓b_jc0, ↓b_size, ↓b_get, ↓b_ref, ↓b_den, ↓b_gra, ↓b_don]
    rw [show ((x : Int) + 1) = ((x + 1 : Nat) : Int) from rfl, ih (x + 1) F _ (by omega) (by omega), st_setr, setr_setr, setr_self, show M (31 + p) x - 1 = M (31 + p) x + (-1) by omega, adr_first]
theorem p_take {p h len : Nat} (hG : 5000 ≤ G) (hp : p < 4) (hh : h + len ≤ 300) : f_X2_take G n M (p : Int) (h : Int) (len : Int) = some (setr M (31 + p) (adr (M (31 + p)) h len (-1))) := by
  unfold f_X2_take
  rw [gb_eq (p_take_l hp hh len h G M rfl (by omega))]
theorem p_give_l {p h len : Nat} (hp : p < 4) (hh : h + len ≤ 300) : ∀ (k x F : Nat) (M : gaM), x + k = h + len → k < F → l_X2_giveBack_3 G n F M (p : Int) (h : Int) (len : Int) (x : Int) = some (setr M (31 + p) (adr (M (31 + p)) x k 1)) := by
  intro k
  induction k with
  | zero =>
    intro x F M hx hF
    obtain ⟨F, rfl⟩ : ∃ F1, F = F1 + 1 := ⟨F - 1, by omega⟩
    rw [l_X2_giveBack_3]
    try simp only [Int.toNat_natCast, tn300, tn4, Nat.reduceMul, Nat.reduceAdd]
    try simp (disch := (first | omega | (simp (disch := omega) only [ga_st_self, ga_st_id, ga_st_ix] <;> omega) | skip)) only [↓gb_of, ↓gb2_of, ↓gb3_of, ↓gB_eq, ↓gg_pos, ↓if_pos, ↓if_neg, ↓b_wi1, ↓b_wi0, ↓b_has1, ↓b_has0, ↓b_in1, ↓b_in0, ↓b_pl1, ↓b_pl0, ↓b_jm1, ↓b_jm0, ↓b_jc1, ↓b_jc0, ↓b_size, ↓b_get, ↓b_ref, ↓b_den, ↓b_gra, ↓b_don]
    rw [adr_zero, setr_id]
  | succ k ih =>
    intro x F M hx hF
    obtain ⟨F, rfl⟩ : ∃ F1, F = F1 + 1 := ⟨F - 1, by omega⟩
    rw [l_X2_giveBack_3]
    try simp only [Int.toNat_natCast, tn300, tn4, Nat.reduceMul, Nat.reduceAdd]
    try simp (disch := (first | omega | (simp (disch := omega) only [ga_st_self, ga_st_id, ga_st_ix] <;> omega) | skip)) only [↓gb_of, ↓gb2_of, ↓gb3_of, ↓gB_eq, ↓gg_pos, ↓if_pos, ↓if_neg, ↓b_wi1, ↓b_wi0, ↓b_has1, ↓b_has0, ↓b_in1, ↓b_in0, ↓b_pl1, ↓b_pl0, ↓b_jm1, ↓b_jm0, ↓b_jc1, ↓b_jc0, ↓b_size, ↓b_get, ↓b_ref, ↓b_den, ↓b_gra, ↓b_don]
    rw [show ((x : Int) + 1) = ((x + 1 : Nat) : Int) from rfl, ih (x + 1) F _ (by omega) (by omega), st_setr, setr_setr, setr_self, adr_first]
theorem p_give {p h len : Nat} (hG : 5000 ≤ G) (hp : p < 4) (hh : h + len ≤ 300) : f_X2_giveBack G n M (p : Int) (h : Int) (len : Int) = some (setr M (31 + p) (adr (M (31 + p)) h len 1)) := by
  unfold f_X2_giveBack
  rw [gb_eq (p_give_l hp hh len h G M rfl (by omega))]
end L1

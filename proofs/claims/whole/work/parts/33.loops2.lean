/-! ===== pure: ROOM left, uses, DELAY, sums over JOBS ===== -/
section L2
variable {n G : Nat} {M : gaM}
-- hasRoom and fits
theorem p_hasRoom_l {j p h len : Nat} (hj : j < 40) (hp : p < 4) (hl : M 111 j = (len : Int)) (hh : h + len ≤ 300) (ho : ∀ x, x < 1200 → ok (M 119 x)) (hr : ok (M 106 p)) : ∀ (k x F : Nat), x + k = h + len → k < F → l_X6_hasRoom_6 G n M F (j : Int) (p : Int) (h : Int) 1 (x : Int) = some (if ∀ i, i < k → M 119 (300 * p + x + i) < M 106 p then 1 else 0) := by
  intro k
  induction k with
  | zero =>
    intro x F hx hF
    obtain ⟨F, rfl⟩ : ∃ F1, F = F1 + 1 := ⟨F - 1, by omega⟩
    rw [l_X6_hasRoom_6]
    try simp only [Int.toNat_natCast, tn300, tn4, Nat.reduceMul, Nat.reduceAdd]
    try simp (disch := (first | omega | (simp (disch := omega) only [ga_st_self, ga_st_id, ga_st_ix] <;> omega) | skip)) only [↓gb_of, ↓gb2_of, ↓gb3_of, ↓gB_eq, ↓gg_pos, ↓if_pos, ↓if_neg, ↓b_wi1, ↓b_wi0, ↓b_has1, ↓b_has0, ↓b_in1, ↓b_in0, ↓b_pl1, ↓b_pl0, ↓b_jm1, ↓b_jm0, ↓b_jc1, ↓b_jc0, ↓b_size, ↓b_get, ↓b_ref, ↓b_den, ↓b_gra, ↓b_don]
  | succ k ih =>
    intro x F hx hF
    obtain ⟨F, rfl⟩ : ∃ F1, F = F1 + 1 := ⟨F - 1, by omega⟩
    have h1 := ho (300 * p + x) (by omega)
    rw [l_X6_hasRoom_6]
    try simp only [Int.toNat_natCast, tn300, tn4, Nat.reduceMul, Nat.reduceAdd]
    try simp (disch := (first | omega | (simp (disch := omega) only [ga_st_self, ga_st_id, ga_st_ix] <;> omega) | skip)) only [↓gb_of, ↓gb2_of, ↓gb3_of, ↓gB_eq, ↓gg_pos, ↓if_pos, ↓if_neg, ↓b_wi1, ↓b_wi0, ↓b_has1, ↓b_has0, ↓b_in1, ↓b_in0, ↓b_pl1, ↓b_pl0, ↓b_jm1, ↓b_jm0, ↓b_jc1, ↓b_jc0, ↓b_size, ↓b_get, ↓b_ref, ↓b_den, ↓b_gra, ↓b_don]
    by_cases c : M 119 (300 * p + x) < M 106 p
    · rw [if_pos c, gb_of, show ((x : Int) + 1) = ((x + 1 : Nat) : Int) from rfl, ih (x + 1) F (by omega) (by omega)]
      congr 1
      by_cases d : ∀ i, i < k → M 119 (300 * p + (x + 1) + i) < M 106 p
      · rw [if_pos d, if_pos]
        intro i hi
        cases i with
        | zero => exact c
        | succ i =>
          have := d i (by omega)
          rw [show 300 * p + x + (i + 1) = 300 * p + (x + 1) + i by omega]
          exact this
      · rw [if_neg d, if_neg]
        intro q
        refine d (fun i hi => ?_)
        have := q (i + 1) (by omega)
        rw [show 300 * p + (x + 1) + i = 300 * p + x + (i + 1) by omega]
        exact this
    · rw [if_neg c, gb_of, if_neg (fun q => c (q 0 (by omega)))]
      obtain ⟨F, rfl⟩ : ∃ F1, F = F1 + 1 := ⟨F - 1, by omega⟩
      rw [l_X6_hasRoom_6]
      try simp only [Int.toNat_natCast, tn300, tn4, Nat.reduceMul, Nat.reduceAdd]
      by_cases e : (x : Int) + 1 < (h : Int) + M 111 j
      · try simp (disch := (first | omega | (simp (disch := omega) only [ga_st_self, ga_st_id, ga_st_ix] <;> omega) | skip)) only [↓gb_of, ↓gb2_of, ↓gb3_of, ↓gB_eq, ↓gg_pos, ↓if_pos, ↓if_neg, ↓b_wi1, ↓b_wi0, ↓b_has1, ↓b_has0, ↓b_in1, ↓b_in0, ↓b_pl1, ↓b_pl0, ↓b_jm1, ↓b_jm0, ↓b_jc1, ↓b_jc0, ↓b_size, ↓b_get, ↓b_ref, ↓b_den, ↓b_gra, ↓b_don]
      · try simp (disch := (first | omega | (simp (disch := omega) only [ga_st_self, ga_st_id, ga_st_ix] <;> omega) | skip)) only [↓gb_of, ↓gb2_of, ↓gb3_of, ↓gB_eq, ↓gg_pos, ↓if_pos, ↓if_neg, ↓b_wi1, ↓b_wi0, ↓b_has1, ↓b_has0, ↓b_in1, ↓b_in0, ↓b_pl1, ↓b_pl0, ↓b_jm1, ↓b_jm0, ↓b_jc1, ↓b_jc0, ↓b_size, ↓b_get, ↓b_ref, ↓b_den, ↓b_gra, ↓b_don]
theorem p_hasRoom {j p h len : Nat} (hG : 5000 ≤ G) (hj : j < 40) (hp : p < 4) (hl : M 111 j = (len : Int)) (hh : h + len ≤ 300) (ho : ∀ x, x < 1200 → ok (M 119 x)) (hr : ok (M 106 p)) : f_X6_hasRoom G n M (j : Int) (p : Int) (h : Int) = some (if ∀ i, i < len → M 119 (300 * p + h + i) < M 106 p then 1 else 0) := by
  unfold f_X6_hasRoom
  rw [gb_eq (p_hasRoom_l hj hp hl hh ho hr len h G rfl (by omega))]
  split
  · try simp (disch := (first | omega | (simp (disch := omega) only [ga_st_self, ga_st_id, ga_st_ix] <;> omega) | skip)) only [↓gb_of, ↓gb2_of, ↓gb3_of, ↓gB_eq, ↓gg_pos, ↓if_pos, ↓if_neg, ↓b_wi1, ↓b_wi0, ↓b_has1, ↓b_has0, ↓b_in1, ↓b_in0, ↓b_pl1, ↓b_pl0, ↓b_jm1, ↓b_jm0, ↓b_jc1, ↓b_jc0, ↓b_size, ↓b_get, ↓b_ref, ↓b_den, ↓b_gra, ↓b_don]
  · try simp (disch := (first | omega | (simp (disch := omega) only [ga_st_self, ga_st_id, ga_st_ix] <;> omega) | skip)) only [↓gb_of, ↓gb2_of, ↓gb3_of, ↓gB_eq, ↓gg_pos, ↓if_pos, ↓if_neg, ↓b_wi1, ↓b_wi0, ↓b_has1, ↓b_has0, ↓b_in1, ↓b_in0, ↓b_pl1, ↓b_pl0, ↓b_jm1, ↓b_jm0, ↓b_jc1, ↓b_jc0, ↓b_size, ↓b_get, ↓b_ref, ↓b_den, ↓b_gra, ↓b_don]
theorem p_fits_l {p h len : Nat} (hp : p < 4) (hh : h + len ≤ 300) (ho : ∀ x, x < 300 → h ≤ x → ok (M (31 + p) x)) : ∀ (k x F : Nat), h ≤ x → x + k = h + len → k < F → l_X2_fits_3 G n M F (p : Int) (h : Int) (len : Int) (x : Int) = some (if ∀ i, i < k → 0 < M (31 + p) (x + i) then 1 else 0) := by
  intro k
  induction k with
  | zero =>
    intro x F hx0 hx hF
    obtain ⟨F, rfl⟩ : ∃ F1, F = F1 + 1 := ⟨F - 1, by omega⟩
    rw [l_X2_fits_3]
    try simp only [Int.toNat_natCast, tn300, tn4, Nat.reduceMul, Nat.reduceAdd]
    try simp (disch := (first | omega | (simp (disch := omega) only [ga_st_self, ga_st_id, ga_st_ix] <;> omega) | skip)) only [↓gb_of, ↓gb2_of, ↓gb3_of, ↓gB_eq, ↓gg_pos, ↓if_pos, ↓if_neg, ↓b_wi1, ↓b_wi0, ↓b_has1, ↓b_has0, ↓b_in1, ↓b_in0, ↓b_pl1, ↓b_pl0, ↓b_jm1, ↓b_jm0, ↓b_jc1, ↓b_jc0, ↓b_size, ↓b_get, ↓b_ref, ↓b_den, ↓b_gra, ↓b_don]
  | succ k ih =>
    intro x F hx0 hx hF
    obtain ⟨F, rfl⟩ : ∃ F1, F = F1 + 1 := ⟨F - 1, by omega⟩
    have h1 := ho x (by omega) (by omega)
    rw [l_X2_fits_3]
    try simp only [Int.toNat_natCast, tn300, tn4, Nat.reduceMul, Nat.reduceAdd]
    by_cases c : 0 < M (31 + p) x
    · try simp (disch := (first | omega | (simp (disch := omega) only [ga_st_self, ga_st_id, ga_st_ix] <;> omega) | skip)) only [↓gb_of, ↓gb2_of, ↓gb3_of, ↓gB_eq, ↓gg_pos, ↓if_pos, ↓if_neg, ↓b_wi1, ↓b_wi0, ↓b_has1, ↓b_has0, ↓b_in1, ↓b_in0, ↓b_pl1, ↓b_pl0, ↓b_jm1, ↓b_jm0, ↓b_jc1, ↓b_jc0, ↓b_size, ↓b_get, ↓b_ref, ↓b_den, ↓b_gra, ↓b_don]
      rw [show ((x : Int) + 1) = ((x + 1 : Nat) : Int) from rfl, ih (x + 1) F (by omega) (by omega) (by omega)]
      congr 1
      by_cases d : ∀ i, i < k → 0 < M (31 + p) (x + 1 + i)
      · rw [if_pos d, if_pos]
        intro i hi
        cases i with
        | zero => exact c
        | succ i =>
          have := d i (by omega)
          rw [show x + (i + 1) = x + 1 + i by omega]
          exact this
      · rw [if_neg d, if_neg]
        intro q
        refine d (fun i hi => ?_)
        have := q (i + 1) (by omega)
        rw [show x + 1 + i = x + (i + 1) by omega]
        exact this
    · try simp (disch := (first | omega | (simp (disch := omega) only [ga_st_self, ga_st_id, ga_st_ix] <;> omega) | skip)) only [↓gb_of, ↓gb2_of, ↓gb3_of, ↓gB_eq, ↓gg_pos, ↓if_pos, ↓if_neg, ↓b_wi1, ↓b_wi0, ↓b_has1, ↓b_has0, ↓b_in1, ↓b_in0, ↓b_pl1, ↓b_pl0, ↓b_jm1, ↓b_jm0, ↓b_jc1, ↓b_jc0, ↓b_size, ↓b_get, ↓b_ref, ↓b_den, ↓b_gra, ↓b_don]
      rw [if_neg (fun q => c (q 0 (by omega)))]
theorem p_fits {p h len : Nat} (hG : 5000 ≤ G) (hp : p < 4) (hh : h + len ≤ 300) (ho : ∀ x, x < 300 → h ≤ x → ok (M (31 + p) x)) : f_X2_fits G n M (p : Int) (h : Int) (len : Int) = some (if ∀ i, i < len → 0 < M (31 + p) (h + i) then 1 else 0) := by
  unfold f_X2_fits
  exact p_fits_l hp hh ho len h G (Nat.le_refl h) rfl (by omega)
-- uses
theorem p_uses0 : ∀ (k x F : Nat) (M : gaM), x + k = 1200 → k < F → ∃ u : Nat → Int, l_X6_uses_2 G n F M (x : Int) = some (setr M 119 u) ∧ (∀ y, x ≤ y → y < 1200 → u y = 0) ∧ ∀ y, y < x → u y = M 119 y := by
  intro k
  induction k with
  | zero =>
    intro x F M hx hF
    obtain ⟨F, rfl⟩ : ∃ F1, F = F1 + 1 := ⟨F - 1, by omega⟩
    rw [l_X6_uses_2]
    try simp only [Int.toNat_natCast, tn300, tn4, Nat.reduceMul, Nat.reduceAdd]
    refine ⟨M 119, ?_, fun y h1 h2 => by omega, fun y _ => rfl⟩
    try simp (disch := (first | omega | (simp (disch := omega) only [ga_st_self, ga_st_id, ga_st_ix] <;> omega) | skip)) only [↓gb_of, ↓gb2_of, ↓gb3_of, ↓gB_eq, ↓gg_pos, ↓if_pos, ↓if_neg, ↓b_wi1, ↓b_wi0, ↓b_has1, ↓b_has0, ↓b_in1, ↓b_in0, ↓b_pl1, ↓b_pl0, ↓b_jm1, ↓b_jm0, ↓b_jc1, ↓b_jc0, ↓b_size, ↓b_get, ↓b_ref, ↓b_den, ↓b_gra, ↓b_don]
    rw [setr_id]
  | succ k ih =>
    intro x F M hx hF
    obtain ⟨F, rfl⟩ : ∃ F1, F = F1 + 1 := ⟨F - 1, by omega⟩
    obtain ⟨u, e1, e2, e3⟩ := ih (x + 1) F (ga_st M 119 x 0) (by omega) (by omega)
    refine ⟨u, ?_, fun y h1 h2 => ?_, fun y h1 => ?_⟩
    · rw [l_X6_uses_2]
      try simp only [Int.toNat_natCast, tn300, tn4, Nat.reduceMul, Nat.reduceAdd]
      try simp (disch := (first | omega | (simp (disch := omega) only [ga_st_self, ga_st_id, ga_st_ix] <;> omega) | skip)) only [↓gb_of, ↓gb2_of, ↓gb3_of, ↓gB_eq, ↓gg_pos, ↓if_pos, ↓if_neg, ↓b_wi1, ↓b_wi0, ↓b_has1, ↓b_has0, ↓b_in1, ↓b_in0, ↓b_pl1, ↓b_pl0, ↓b_jm1, ↓b_jm0, ↓b_jc1, ↓b_jc0, ↓b_size, ↓b_get, ↓b_ref, ↓b_den, ↓b_gra, ↓b_don]
      rw [show ((x : Int) + 1) = ((x + 1 : Nat) : Int) from rfl, e1, st_setr, setr_setr]
    · by_cases c : y = x
      · subst c
        rw [e3 y (by omega), ga_st_self]
      · exact e2 y (by omega) h2
    · rw [e3 y (by omega), ga_st_ix (by omega)]
/-- the BEGUN ones' facts that uses needs -/
def ubd (n : Nat) (M : gaM) : Prop := M 100 3 = (n : Int) ∧ n ≤ 40 ∧ ∀ j, j < n → ok (M 115 j) ∧ (M 115 j = 1 → ∃ p h len : Nat, p < 4 ∧ h + len ≤ 300 ∧ M 116 j = (p : Int) ∧ M 117 j = (h : Int) ∧ M 111 j = (len : Int))
theorem ubd.set {n : Nat} {M : gaM} {u : Nat → Int} (h : ubd n M) : ubd n (setr M 119 u) := by
  unfold ubd at *
  rw [setr_ne (by decide), setr_ne (by decide), setr_ne (by decide), setr_ne (by decide), setr_ne (by decide)]
  exact h
theorem oc_set {M : gaM} {u : Nat → Int} {p h j : Nat} : oc (setr M 119 u) p h j = oc M p h j := by
  unfold oc
  rw [setr_ne (by decide), setr_ne (by decide), setr_ne (by decide), setr_ne (by decide)]
theorem p_uses1 (hG : 5000 ≤ G) : ∀ (k j F : Nat) (M : gaM), ubd n M → j + k = n → k < F → ∃ u : Nat → Int, l_X6_uses_24 G n F M (j : Int) = some (setr M 119 u) ∧ ∀ p h : Nat, p < 4 → h < 300 → u (300 * p + h) = M 119 (300 * p + h) + sm (oc M p h) j k := by
  intro k
  induction k with
  | zero =>
    intro j F M hu hj hF
    obtain ⟨u1, u2, u3⟩ := hu
    obtain ⟨F, rfl⟩ : ∃ F1, F = F1 + 1 := ⟨F - 1, by omega⟩
    refine ⟨M 119, ?_, fun p h _ _ => by simp [sm]⟩
    rw [l_X6_uses_24]
    try simp only [Int.toNat_natCast, tn300, tn4, Nat.reduceMul, Nat.reduceAdd]
    try simp (disch := (first | omega | (simp (disch := omega) only [ga_st_self, ga_st_id, ga_st_ix] <;> omega) | skip)) only [↓gb_of, ↓gb2_of, ↓gb3_of, ↓gB_eq, ↓gg_pos, ↓if_pos, ↓if_neg, ↓b_wi1, ↓b_wi0, ↓b_has1, ↓b_has0, ↓b_in1, ↓b_in0, ↓b_pl1, ↓b_pl0, ↓b_jm1, ↓b_jm0, ↓b_jc1, ↓b_jc0, ↓b_size, ↓b_get, ↓b_ref, ↓b_den, ↓b_gra, ↓b_don]
    rw [setr_id]
  | succ k ih =>
    intro j F M hu hj hF
    obtain ⟨u1, u2, u3⟩ := id hu
    obtain ⟨F, rfl⟩ : ∃ F1, F = F1 + 1 := ⟨F - 1, by omega⟩
    obtain ⟨o1, o2⟩ := u3 j (by omega)
    by_cases c : M 115 j = 1
    · obtain ⟨p0, h0, len, hp0, hh0, e1, e2, e3⟩ := o2 c
      have ep := p_puts (G := G) (n := n) (M := M) (d := 1) hG (show j < 40 by omega) hp0 hh0 e3
      obtain ⟨u, w1, w2⟩ := ih (j + 1) F (setr M 119 (adr (M 119) (300 * p0 + h0) len 1)) hu.set (by omega) (by omega)
      refine ⟨u, ?_, fun p h hp hh => ?_⟩
      · rw [l_X6_uses_24]
        try simp only [Int.toNat_natCast, tn300, tn4, Nat.reduceMul, Nat.reduceAdd]
        try simp (disch := (first | omega | (simp (disch := omega) only [ga_st_self, ga_st_id, ga_st_ix] <;> omega) | skip)) only [↓gb_of, ↓gb2_of, ↓gb3_of, ↓gB_eq, ↓gg_pos, ↓if_pos, ↓if_neg, ↓b_wi1, ↓b_wi0, ↓b_has1, ↓b_has0, ↓b_in1, ↓b_in0, ↓b_pl1, ↓b_pl0, ↓b_jm1, ↓b_jm0, ↓b_jc1, ↓b_jc0, ↓b_size, ↓b_get, ↓b_ref, ↓b_den, ↓b_gra, ↓b_don]
        simp only [e1, e2]
        rw [gb_eq ep, gb_of, show ((j : Int) + 1) = ((j + 1 : Nat) : Int) from rfl, w1, setr_setr]
      · rw [w2 p h hp hh, setr_self, sm_first]
        have e9 : sm (oc (setr M 119 (adr (M 119) (300 * p0 + h0) len 1)) p h) (j + 1) k = sm (oc M p h) (j + 1) k := sm_congr (fun i _ => oc_set)
        rw [e9]
        have e8 : adr (M 119) (300 * p0 + h0) len 1 (300 * p + h) = M 119 (300 * p + h) + oc M p h j := by
          unfold adr oc
          rw [e1, e2, e3]
          by_cases d : 300 * p0 + h0 ≤ 300 * p + h ∧ 300 * p + h < 300 * p0 + h0 + len
          · rw [if_pos d, if_pos ⟨c, by omega, by omega, by omega⟩]
          · rw [if_neg d, if_neg (by omega)]
            omega
        rw [e8]
        omega
    · obtain ⟨u, w1, w2⟩ := ih (j + 1) F M hu (by omega) (by omega)
      refine ⟨u, ?_, fun p h hp hh => ?_⟩
      · rw [l_X6_uses_24]
        try simp only [Int.toNat_natCast, tn300, tn4, Nat.reduceMul, Nat.reduceAdd]
        try simp (disch := (first | omega | (simp (disch := omega) only [ga_st_self, ga_st_id, ga_st_ix] <;> omega) | skip)) only [↓gb_of, ↓gb2_of, ↓gb3_of, ↓gB_eq, ↓gg_pos, ↓if_pos, ↓if_neg, ↓b_wi1, ↓b_wi0, ↓b_has1, ↓b_has0, ↓b_in1, ↓b_in0, ↓b_pl1, ↓b_pl0, ↓b_jm1, ↓b_jm0, ↓b_jc1, ↓b_jc0, ↓b_size, ↓b_get, ↓b_ref, ↓b_den, ↓b_gra, ↓b_don]
        rw [show ((j : Int) + 1) = ((j + 1 : Nat) : Int) from rfl, w1]
      · rw [w2 p h hp hh, sm_first]
        have e8 : oc M p h j = 0 := by
          unfold oc
          rw [if_neg (fun q => c q.1)]
        rw [e8]
        omega
theorem p_uses (hG : 5000 ≤ G) (hu : ubd n M) : ∃ u : Nat → Int, f_X6_uses G n M = some (setr M 119 u) ∧ ∀ p h : Nat, p < 4 → h < 300 → u (300 * p + h) = sm (oc M p h) 0 n := by
  obtain ⟨u, e1, e2, -⟩ := p_uses0 (G := G) (n := n) 1200 0 G M rfl (by omega)
  obtain ⟨u', w1, w2⟩ := p_uses1 (G := G) hG n 0 G (setr M 119 u) hu.set (by omega) (by have := hu.2.1; omega)
  refine ⟨u', ?_, fun p h hp hh => ?_⟩
  · unfold f_X6_uses
    rw [show (0 : Int) = ((0 : Nat) : Int) from rfl, gb_eq e1, gb_eq w1, setr_setr]
  · rw [w2 p h hp hh, setr_self, e2 _ (by omega) (by omega)]
    have e9 : sm (oc (setr M 119 u) p h) 0 n = sm (oc M p h) 0 n := sm_congr (fun i _ => oc_set)
    rw [e9]
    omega
theorem Inv.ubd {n : Nat} {M : gaM} (h : Inv n M) : ubd n M := by
  obtain ⟨hA, -, -, hJ, -⟩ := h
  refine ⟨hA.2.2.2.2.1, hA.2.2.2.2.2.1, fun j hj => ?_⟩
  obtain ⟨-, ⟨u1, u2, u3, u4, u5, u6, u7, u8, u9, -⟩, ⟨w1, w2, w3, w4, w5, w6, w7, w8⟩⟩ := hJ j hj
  refine ⟨⟨by omega, by omega⟩, fun c => ?_⟩
  obtain ⟨x1, x2, x3, x4⟩ := w3 (Or.inl c)
  have hP := hA.2.2.1
  exact ⟨(M 116 j).toNat, (M 117 j).toNat, (M 111 j).toNat, by omega, by omega, by omega, by omega, by omega⟩
-- DELAY
theorem p_delay_l {o : Nat} (ho : o < 6) (h1 : M 100 3 = (n : Int)) (hn : n ≤ 40) (hj : ∀ j, j < n → ok (M 109 j) ∧ ok (M 115 j)) : ∀ (k j F : Nat) (acc : Int), j + k = n → k < F → l_X6_delayOf_4 G n M F (o : Int) acc (j : Int) = some (acc + sm (dl M o) j k) := by
  intro k
  induction k with
  | zero =>
    intro j F acc hx hF
    obtain ⟨F, rfl⟩ : ∃ F1, F = F1 + 1 := ⟨F - 1, by omega⟩
    rw [l_X6_delayOf_4]
    try simp only [Int.toNat_natCast, tn300, tn4, Nat.reduceMul, Nat.reduceAdd]
    try simp (disch := (first | omega | (simp (disch := omega) only [ga_st_self, ga_st_id, ga_st_ix] <;> omega) | skip)) only [↓gb_of, ↓gb2_of, ↓gb3_of, ↓gB_eq, ↓gg_pos, ↓if_pos, ↓if_neg, ↓b_wi1, ↓b_wi0, ↓b_has1, ↓b_has0, ↓b_in1, ↓b_in0, ↓b_pl1, ↓b_pl0, ↓b_jm1, ↓b_jm0, ↓b_jc1, ↓b_jc0, ↓b_size, ↓b_get, ↓b_ref, ↓b_den, ↓b_gra, ↓b_don]
    simp [sm]
  | succ k ih =>
    intro j F acc hx hF
    obtain ⟨F, rfl⟩ : ∃ F1, F = F1 + 1 := ⟨F - 1, by omega⟩
    obtain ⟨o1, o2⟩ := hj j (by omega)
    rw [l_X6_delayOf_4]
    try simp only [Int.toNat_natCast, tn300, tn4, Nat.reduceMul, Nat.reduceAdd]
    have e : ∀ x, x = dl M o j → l_X6_delayOf_4 G n M F (o : Int) (acc + x) ((j : Int) + 1) = some (acc + sm (dl M o) j (k + 1)) := by
      intro x hx9
      rw [show ((j : Int) + 1) = ((j + 1 : Nat) : Int) from rfl, ih (j + 1) F _ (by omega) (by omega), sm_first, hx9, Int.add_assoc]
    by_cases c : M 109 j = (o : Int)
    · by_cases d : M 115 j = 1
      · try simp (disch := (first | omega | (simp (disch := omega) only [ga_st_self, ga_st_id, ga_st_ix] <;> omega) | skip)) only [↓gb_of, ↓gb2_of, ↓gb3_of, ↓gB_eq, ↓gg_pos, ↓if_pos, ↓if_neg, ↓b_wi1, ↓b_wi0, ↓b_has1, ↓b_has0, ↓b_in1, ↓b_in0, ↓b_pl1, ↓b_pl0, ↓b_jm1, ↓b_jm0, ↓b_jc1, ↓b_jc0, ↓b_size, ↓b_get, ↓b_ref, ↓b_den, ↓b_gra, ↓b_don]
        exact e _ (by unfold dl; rw [if_pos ⟨c, Or.inl d⟩])
      · by_cases d2 : M 115 j = 2
        · try simp (disch := (first | omega | (simp (disch := omega) only [ga_st_self, ga_st_id, ga_st_ix] <;> omega) | skip)) only [↓gb_of, ↓gb2_of, ↓gb3_of, ↓gB_eq, ↓gg_pos, ↓if_pos, ↓if_neg, ↓b_wi1, ↓b_wi0, ↓b_has1, ↓b_has0, ↓b_in1, ↓b_in0, ↓b_pl1, ↓b_pl0, ↓b_jm1, ↓b_jm0, ↓b_jc1, ↓b_jc0, ↓b_size, ↓b_get, ↓b_ref, ↓b_den, ↓b_gra, ↓b_don]
          exact e _ (by unfold dl; rw [if_pos ⟨c, Or.inr d2⟩])
        · try simp (disch := (first | omega | (simp (disch := omega) only [ga_st_self, ga_st_id, ga_st_ix] <;> omega) | skip)) only [↓gb_of, ↓gb2_of, ↓gb3_of, ↓gB_eq, ↓gg_pos, ↓if_pos, ↓if_neg, ↓b_wi1, ↓b_wi0, ↓b_has1, ↓b_has0, ↓b_in1, ↓b_in0, ↓b_pl1, ↓b_pl0, ↓b_jm1, ↓b_jm0, ↓b_jc1, ↓b_jc0, ↓b_size, ↓b_get, ↓b_ref, ↓b_den, ↓b_gra, ↓b_don]
          exact e _ (by unfold dl; rw [if_neg (by omega)])
    · try simp (disch := (first | omega | (simp (disch := omega) only [ga_st_self, ga_st_id, ga_st_ix] <;> omega) | skip)) only [↓gb_of, ↓gb2_of, ↓gb3_of, ↓gB_eq, ↓gg_pos, ↓if_pos, ↓if_neg, ↓b_wi1, ↓b_wi0, ↓b_has1, ↓b_has0, ↓b_in1, ↓b_in0, ↓b_pl1, ↓b_pl0, ↓b_jm1, ↓b_jm0, ↓b_jc1, ↓b_jc0, ↓b_size, ↓b_get, ↓b_ref, ↓b_den, ↓b_gra, ↓b_don]
      exact e _ (by unfold dl; rw [if_neg (by omega)])
theorem p_delay {o : Nat} (hG : 5000 ≤ G) (ho : o < 6) (h1 : M 100 3 = (n : Int)) (hn : n ≤ 40) (hj : ∀ j, j < n → ok (M 109 j) ∧ ok (M 115 j)) : f_X6_delayOf G n M (o : Int) = some (sm (dl M o) 0 n) := by
  unfold f_X6_delayOf
  have := p_delay_l (G := G) ho h1 hn hj n 0 G 0 (by omega) (by omega)
  rw [Int.zero_add] at this
  exact gb_eq this
theorem Inv.okJ {n : Nat} {M : gaM} (h : Inv n M) : ∀ j, j < n → ok (M 109 j) ∧ ok (M 115 j) := by
  intro j hj
  obtain ⟨-, ⟨u1, u2, -⟩, ⟨w1, w2, -⟩⟩ := h.2.2.2.1 j hj
  exact ⟨⟨by omega, by omega⟩, ⟨by omega, by omega⟩⟩
-- counts
def cn (M : gaM) (s : Int) (j : Nat) : Int := if M 115 j = s then 1 else 0
theorem p_countC_l {s : Int} (hs : ok s) (h : Inv n M) : ∀ (k j F : Nat) (acc : Int), j + k = n → k < F → l_X5_countOf_4 G n M F s acc (j : Int) = some (acc + sm (cn M s) j k) := by
  obtain ⟨a1, a2, a3, a4, a5, a6, a7, a8, a9, a10, a11, a12, a13, a14, a15⟩ := h.1
  intro k
  induction k with
  | zero =>
    intro j F acc hx hF
    obtain ⟨F, rfl⟩ : ∃ F1, F = F1 + 1 := ⟨F - 1, by omega⟩
    rw [l_X5_countOf_4]
    try simp only [Int.toNat_natCast, tn300, tn4, Nat.reduceMul, Nat.reduceAdd]
    try simp (disch := (first | omega | (simp (disch := omega) only [ga_st_self, ga_st_id, ga_st_ix] <;> omega) | skip)) only [↓gb_of, ↓gb2_of, ↓gb3_of, ↓gB_eq, ↓gg_pos, ↓if_pos, ↓if_neg, ↓b_wi1, ↓b_wi0, ↓b_has1, ↓b_has0, ↓b_in1, ↓b_in0, ↓b_pl1, ↓b_pl0, ↓b_jm1, ↓b_jm0, ↓b_jc1, ↓b_jc0, ↓b_size, ↓b_get, ↓b_ref, ↓b_den, ↓b_gra, ↓b_don]
    simp [sm]
  | succ k ih =>
    intro j F acc hx hF
    obtain ⟨F, rfl⟩ : ∃ F1, F = F1 + 1 := ⟨F - 1, by omega⟩
    obtain ⟨⟨-, -, -, -, -, -, g6, -⟩, -, -⟩ := h.2.2.2.1 j (by omega)
    have o2 := (h.okJ j (by omega)).2
    rw [l_X5_countOf_4]
    try simp only [Int.toNat_natCast, tn300, tn4, Nat.reduceMul, Nat.reduceAdd]
    try simp (disch := (first | omega | (simp (disch := omega) only [ga_st_self, ga_st_id, ga_st_ix] <;> omega) | skip)) only [↓gb_of, ↓gb2_of, ↓gb3_of, ↓gB_eq, ↓gg_pos, ↓if_pos, ↓if_neg, ↓b_wi1, ↓b_wi0, ↓b_has1, ↓b_has0, ↓b_in1, ↓b_in0, ↓b_pl1, ↓b_pl0, ↓b_jm1, ↓b_jm0, ↓b_jc1, ↓b_jc0, ↓b_size, ↓b_get, ↓b_ref, ↓b_den, ↓b_gra, ↓b_don]
    try simp only [Int.toNat_natCast, tn300, tn4, Nat.reduceMul, Nat.reduceAdd]
    simp only [g6]
    try simp (disch := (first | omega | (simp (disch := omega) only [ga_st_self, ga_st_id, ga_st_ix] <;> omega) | skip)) only [↓gb_of, ↓gb2_of, ↓gb3_of, ↓gB_eq, ↓gg_pos, ↓if_pos, ↓if_neg, ↓b_wi1, ↓b_wi0, ↓b_has1, ↓b_has0, ↓b_in1, ↓b_in0, ↓b_pl1, ↓b_pl0, ↓b_jm1, ↓b_jm0, ↓b_jc1, ↓b_jc0, ↓b_size, ↓b_get, ↓b_ref, ↓b_den, ↓b_gra, ↓b_don]
    rw [sm_first]
    by_cases c : M 115 j = s
    · try simp (disch := (first | omega | (simp (disch := omega) only [ga_st_self, ga_st_id, ga_st_ix] <;> omega) | skip)) only [↓gb_of, ↓gb2_of, ↓gb3_of, ↓gB_eq, ↓gg_pos, ↓if_pos, ↓if_neg, ↓b_wi1, ↓b_wi0, ↓b_has1, ↓b_has0, ↓b_in1, ↓b_in0, ↓b_pl1, ↓b_pl0, ↓b_jm1, ↓b_jm0, ↓b_jc1, ↓b_jc0, ↓b_size, ↓b_get, ↓b_ref, ↓b_den, ↓b_gra, ↓b_don]
      rw [show ((j : Int) + 1) = ((j + 1 : Nat) : Int) from rfl, ih (j + 1) F _ (by omega) (by omega), show cn M s j = 1 from if_pos c, Int.add_assoc]
    · try simp (disch := (first | omega | (simp (disch := omega) only [ga_st_self, ga_st_id, ga_st_ix] <;> omega) | skip)) only [↓gb_of, ↓gb2_of, ↓gb3_of, ↓gB_eq, ↓gg_pos, ↓if_pos, ↓if_neg, ↓b_wi1, ↓b_wi0, ↓b_has1, ↓b_has0, ↓b_in1, ↓b_in0, ↓b_pl1, ↓b_pl0, ↓b_jm1, ↓b_jm0, ↓b_jc1, ↓b_jc0, ↓b_size, ↓b_get, ↓b_ref, ↓b_den, ↓b_gra, ↓b_don]
      rw [show ((j : Int) + 1) = ((j + 1 : Nat) : Int) from rfl, ih (j + 1) F _ (by omega) (by omega), show cn M s j = 0 from if_neg c, Int.zero_add]
theorem p_countC {s : Int} (hG : 5000 ≤ G) (hs : ok s) (h : Inv n M) : f_X5_countOf G n M s = some (sm (cn M s) 0 n) := by
  have hn := h.1.2.2.2.2.2.1
  have := p_countC_l (G := G) hs h n 0 G 0 (by omega) (by omega)
  rw [Int.zero_add] at this
  unfold f_X5_countOf
  exact gb_eq this
theorem p_countM_l {s : Int} (hs : ok s) (h : Inv n M) : ∀ (k j F : Nat) (acc : Int), j + k = n → k < F → l_X6_many_4 G n M F s acc (j : Int) = some (acc + sm (cn M s) j k) := by
  obtain ⟨a1, a2, a3, a4, a5, a6, a7, a8, a9, a10, a11, a12, a13, a14, a15⟩ := h.1
  intro k
  induction k with
  | zero =>
    intro j F acc hx hF
    obtain ⟨F, rfl⟩ : ∃ F1, F = F1 + 1 := ⟨F - 1, by omega⟩
    rw [l_X6_many_4]
    try simp only [Int.toNat_natCast, tn300, tn4, Nat.reduceMul, Nat.reduceAdd]
    try simp (disch := (first | omega | (simp (disch := omega) only [ga_st_self, ga_st_id, ga_st_ix] <;> omega) | skip)) only [↓gb_of, ↓gb2_of, ↓gb3_of, ↓gB_eq, ↓gg_pos, ↓if_pos, ↓if_neg, ↓b_wi1, ↓b_wi0, ↓b_has1, ↓b_has0, ↓b_in1, ↓b_in0, ↓b_pl1, ↓b_pl0, ↓b_jm1, ↓b_jm0, ↓b_jc1, ↓b_jc0, ↓b_size, ↓b_get, ↓b_ref, ↓b_den, ↓b_gra, ↓b_don]
    simp [sm]
  | succ k ih =>
    intro j F acc hx hF
    obtain ⟨F, rfl⟩ : ∃ F1, F = F1 + 1 := ⟨F - 1, by omega⟩
    have o2 := (h.okJ j (by omega)).2
    rw [l_X6_many_4]
    try simp only [Int.toNat_natCast, tn300, tn4, Nat.reduceMul, Nat.reduceAdd]
    rw [sm_first]
    by_cases c : M 115 j = s
    · try simp (disch := (first | omega | (simp (disch := omega) only [ga_st_self, ga_st_id, ga_st_ix] <;> omega) | skip)) only [↓gb_of, ↓gb2_of, ↓gb3_of, ↓gB_eq, ↓gg_pos, ↓if_pos, ↓if_neg, ↓b_wi1, ↓b_wi0, ↓b_has1, ↓b_has0, ↓b_in1, ↓b_in0, ↓b_pl1, ↓b_pl0, ↓b_jm1, ↓b_jm0, ↓b_jc1, ↓b_jc0, ↓b_size, ↓b_get, ↓b_ref, ↓b_den, ↓b_gra, ↓b_don]
      rw [show ((j : Int) + 1) = ((j + 1 : Nat) : Int) from rfl, ih (j + 1) F _ (by omega) (by omega), show cn M s j = 1 from if_pos c, Int.add_assoc]
    · try simp (disch := (first | omega | (simp (disch := omega) only [ga_st_self, ga_st_id, ga_st_ix] <;> omega) | skip)) only [↓gb_of, ↓gb2_of, ↓gb3_of, ↓gB_eq, ↓gg_pos, ↓if_pos, ↓if_neg, ↓b_wi1, ↓b_wi0, ↓b_has1, ↓b_has0, ↓b_in1, ↓b_in0, ↓b_pl1, ↓b_pl0, ↓b_jm1, ↓b_jm0, ↓b_jc1, ↓b_jc0, ↓b_size, ↓b_get, ↓b_ref, ↓b_den, ↓b_gra, ↓b_don]
      rw [show ((j : Int) + 1) = ((j + 1 : Nat) : Int) from rfl, ih (j + 1) F _ (by omega) (by omega), show cn M s j = 0 from if_neg c, Int.add_assoc]
theorem p_countM {s : Int} (hG : 5000 ≤ G) (hs : ok s) (h : Inv n M) : f_X6_many G n M s = some (sm (cn M s) 0 n) := by
  have hn := h.1.2.2.2.2.2.1
  have := p_countM_l (G := G) hs h n 0 G 0 (by omega) (by omega)
  rw [Int.zero_add] at this
  unfold f_X6_many
  exact gb_eq this
end L2

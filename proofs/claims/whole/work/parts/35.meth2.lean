/-! ===== pure: drop, fare, laid, cost, free, would ===== -/
section M2
variable {n G : Nat} {M : gaM}
theorem e_would {v1 v2 v3 : Int} (hG : 5000 ≤ G) (h : Inv n M) (hv1 : ok v1) (hv2 : ok v2) (hv3 : ok v3) : ∃ r Mc Mm, f_X5_would G n M v1 v2 v3 = some (r, Mc) ∧ f_X6_would G n Mc v1 v2 v3 = some (r, Mm) ∧ Inv n Mm := by
  obtain ⟨a1, a2, a3, a4, a5, a6, a7, a8, a9, a10, a11, a12, a13, a14, a15⟩ := h.1
  by_cases c1 : 0 ≤ v1 ∧ v1 < (n : Int)
  · by_cases c2 : 0 ≤ v2 ∧ v2 < M 100 2
    · obtain ⟨j, rfl⟩ : ∃ j : Nat, v1 = (j : Int) := ⟨v1.toNat, by omega⟩
      obtain ⟨p, rfl⟩ : ∃ p : Nat, v2 = (p : Int) := ⟨v2.toNat, by omega⟩
      obtain ⟨⟨g0, g1, g2, g3, g4, g5, g6, g7, g8, g9⟩, ⟨u1, u2, u3, u4, u5, u6, u7, u8, u9, u10, u11⟩, -⟩ := h.2.2.2.1 j (by omega)
      have hi0 : Inv n (ga_st (ga_st (ga_st M 0 10 0) 100 0 0) 100 1 0) := h.sc (by unfold iA; simp [ga_st]; try omega) (by intro a ha; unfold rel at ha; simp (disch := omega) only [ga_st_row]) (by simp [ga_st]) (by simp [ga_st]) (by simp [ga_st]) (by simp [ga_st])
      by_cases c3 : M 112 j ≤ v3 ∧ v3 ≤ M 113 j - M 111 j
      · obtain ⟨x, rfl⟩ : ∃ x : Nat, v3 = (x : Int) := ⟨v3.toNat, by omega⟩
        have e0 : cst (ga_st M 0 10 0) j p x = cst M j p x := by
          unfold cst
          rw [ga_st_row _ (by decide), ga_st_row _ (by decide), ga_st_row _ (by decide), ga_st_row _ (by decide), ga_st_row _ (by decide)]
        have ec : f_X2_costOf G n (ga_st M 0 10 0) (200 + j) (p : Int) (x : Int) = some (cst M j p x) := by
          rw [p_costC hG (by omega) (by rw [ga_st_id (by omega), g2]; omega) (by rw [ga_st_id (by omega), g1]; omega), ga_st_row _ (by omega), ga_st_row _ (by omega), ga_st_row _ (by omega), cst_eq h (by omega) (by omega) (by omega)]
        have em : f_X6_costOf G n (ga_st (ga_st M 0 10 0) 100 0 0) (j : Int) (p : Int) (x : Int) = some (cst M j p x) := by
          rw [p_costM hG (by omega) (by omega) (by simp [ga_st]; omega) (by simp [ga_st]; omega), cst_th, e0]
        refine ⟨cst M j p x, ga_st M 0 10 0, _, ?_, ?_, hi0⟩
        · unfold f_X5_would
          try simp (disch := (first | omega | (simp (disch := omega) only [ga_st_self, ga_st_id, ga_st_ix] <;> omega) | skip)) only [↓gb_of, ↓gb2_of, ↓gb3_of, ↓gB_eq, ↓gg_pos, ↓if_pos, ↓if_neg, ↓b_wi1, ↓b_wi0, ↓b_has1, ↓b_has0, ↓b_in1, ↓b_in0, ↓b_pl1, ↓b_pl0, ↓b_jm1, ↓b_jm0, ↓b_jc1, ↓b_jc0, ↓b_size, ↓b_get, ↓b_ref, ↓b_den, ↓b_gra, ↓b_don]
          try simp only [Int.toNat_natCast, tn300, tn4, Nat.reduceMul, Nat.reduceAdd]
          rw [ga_st_row _ (by omega), g3, g4, g2]
          try simp (disch := (first | omega | (simp (disch := omega) only [ga_st_self, ga_st_id, ga_st_ix] <;> omega) | skip)) only [↓gb_of, ↓gb2_of, ↓gb3_of, ↓gB_eq, ↓gg_pos, ↓if_pos, ↓if_neg, ↓b_wi1, ↓b_wi0, ↓b_has1, ↓b_has0, ↓b_in1, ↓b_in0, ↓b_pl1, ↓b_pl0, ↓b_jm1, ↓b_jm0, ↓b_jc1, ↓b_jc0, ↓b_size, ↓b_get, ↓b_ref, ↓b_den, ↓b_gra, ↓b_don]
          rw [gb_eq ec]
        · unfold f_X6_would
          try simp only [Int.toNat_natCast, tn300, tn4, Nat.reduceMul, Nat.reduceAdd]
          try simp (disch := (first | omega | (simp (disch := omega) only [ga_st_self, ga_st_id, ga_st_ix] <;> omega) | skip)) only [↓gb_of, ↓gb2_of, ↓gb3_of, ↓gB_eq, ↓gg_pos, ↓if_pos, ↓if_neg, ↓b_wi1, ↓b_wi0, ↓b_has1, ↓b_has0, ↓b_in1, ↓b_in0, ↓b_pl1, ↓b_pl0, ↓b_jm1, ↓b_jm0, ↓b_jc1, ↓b_jc0, ↓b_size, ↓b_get, ↓b_ref, ↓b_den, ↓b_gra, ↓b_don]
          rw [gb_eq em]
      · refine ⟨-2, ga_st M 0 10 0, _, ?_, ?_, hi0⟩
        · unfold f_X5_would
          try simp (disch := (first | omega | (simp (disch := omega) only [ga_st_self, ga_st_id, ga_st_ix] <;> omega) | skip)) only [↓gb_of, ↓gb2_of, ↓gb3_of, ↓gB_eq, ↓gg_pos, ↓if_pos, ↓if_neg, ↓b_wi1, ↓b_wi0, ↓b_has1, ↓b_has0, ↓b_in1, ↓b_in0, ↓b_pl1, ↓b_pl0, ↓b_jm1, ↓b_jm0, ↓b_jc1, ↓b_jc0, ↓b_size, ↓b_get, ↓b_ref, ↓b_den, ↓b_gra, ↓b_don]
          try simp only [Int.toNat_natCast, tn300, tn4, Nat.reduceMul, Nat.reduceAdd]
          rw [ga_st_row _ (by omega), g3, g4, g2]
          try simp (disch := (first | omega | (simp (disch := omega) only [ga_st_self, ga_st_id, ga_st_ix] <;> omega) | skip)) only [↓gb_of, ↓gb2_of, ↓gb3_of, ↓gB_eq, ↓gg_pos, ↓if_pos, ↓if_neg, ↓b_wi1, ↓b_wi0, ↓b_has1, ↓b_has0, ↓b_in1, ↓b_in0, ↓b_pl1, ↓b_pl0, ↓b_jm1, ↓b_jm0, ↓b_jc1, ↓b_jc0, ↓b_size, ↓b_get, ↓b_ref, ↓b_den, ↓b_gra, ↓b_don]
        · unfold f_X6_would
          try simp only [Int.toNat_natCast, tn300, tn4, Nat.reduceMul, Nat.reduceAdd]
          by_cases d : M 112 j ≤ v3
          · try simp (disch := (first | omega | (simp (disch := omega) only [ga_st_self, ga_st_id, ga_st_ix] <;> omega) | skip)) only [↓gb_of, ↓gb2_of, ↓gb3_of, ↓gB_eq, ↓gg_pos, ↓if_pos, ↓if_neg, ↓b_wi1, ↓b_wi0, ↓b_has1, ↓b_has0, ↓b_in1, ↓b_in0, ↓b_pl1, ↓b_pl0, ↓b_jm1, ↓b_jm0, ↓b_jc1, ↓b_jc0, ↓b_size, ↓b_get, ↓b_ref, ↓b_den, ↓b_gra, ↓b_don]
          · try simp (disch := (first | omega | (simp (disch := omega) only [ga_st_self, ga_st_id, ga_st_ix] <;> omega) | skip)) only [↓gb_of, ↓gb2_of, ↓gb3_of, ↓gB_eq, ↓gg_pos, ↓if_pos, ↓if_neg, ↓b_wi1, ↓b_wi0, ↓b_has1, ↓b_has0, ↓b_in1, ↓b_in0, ↓b_pl1, ↓b_pl0, ↓b_jm1, ↓b_jm0, ↓b_jc1, ↓b_jc0, ↓b_size, ↓b_get, ↓b_ref, ↓b_den, ↓b_gra, ↓b_don]
    · refine ⟨-1, ga_st M 0 10 1, ga_st (ga_st (ga_st M 0 10 1) 100 0 0) 100 1 1, ?_, ?_, h.sc (by unfold iA; simp [ga_st]; try omega) (by intro a ha; unfold rel at ha; simp (disch := omega) only [ga_st_row]) (by simp [ga_st]) (by simp [ga_st]) (by simp [ga_st]) (by simp [ga_st])⟩
      · unfold f_X5_would
        try simp (disch := (first | omega | (simp (disch := omega) only [ga_st_self, ga_st_id, ga_st_ix] <;> omega) | skip)) only [↓gb_of, ↓gb2_of, ↓gb3_of, ↓gB_eq, ↓gg_pos, ↓if_pos, ↓if_neg, ↓b_wi1, ↓b_wi0, ↓b_has1, ↓b_has0, ↓b_in1, ↓b_in0, ↓b_pl1, ↓b_pl0, ↓b_jm1, ↓b_jm0, ↓b_jc1, ↓b_jc0, ↓b_size, ↓b_get, ↓b_ref, ↓b_den, ↓b_gra, ↓b_don]
      · unfold f_X6_would
        try simp (disch := (first | omega | (simp (disch := omega) only [ga_st_self, ga_st_id, ga_st_ix] <;> omega) | skip)) only [↓gb_of, ↓gb2_of, ↓gb3_of, ↓gB_eq, ↓gg_pos, ↓if_pos, ↓if_neg, ↓b_wi1, ↓b_wi0, ↓b_has1, ↓b_has0, ↓b_in1, ↓b_in0, ↓b_pl1, ↓b_pl0, ↓b_jm1, ↓b_jm0, ↓b_jc1, ↓b_jc0, ↓b_size, ↓b_get, ↓b_ref, ↓b_den, ↓b_gra, ↓b_don]
  · refine ⟨-1, ga_st M 0 10 1, ga_st (ga_st (ga_st M 0 10 1) 100 0 0) 100 1 1, ?_, ?_, h.sc (by unfold iA; simp [ga_st]; try omega) (by intro a ha; unfold rel at ha; simp (disch := omega) only [ga_st_row]) (by simp [ga_st]) (by simp [ga_st]) (by simp [ga_st]) (by simp [ga_st])⟩
    · unfold f_X5_would
      try simp (disch := (first | omega | (simp (disch := omega) only [ga_st_self, ga_st_id, ga_st_ix] <;> omega) | skip)) only [↓gb_of, ↓gb2_of, ↓gb3_of, ↓gB_eq, ↓gg_pos, ↓if_pos, ↓if_neg, ↓b_wi1, ↓b_wi0, ↓b_has1, ↓b_has0, ↓b_in1, ↓b_in0, ↓b_pl1, ↓b_pl0, ↓b_jm1, ↓b_jm0, ↓b_jc1, ↓b_jc0, ↓b_size, ↓b_get, ↓b_ref, ↓b_den, ↓b_gra, ↓b_don]
    · unfold f_X6_would
      try simp (disch := (first | omega | (simp (disch := omega) only [ga_st_self, ga_st_id, ga_st_ix] <;> omega) | skip)) only [↓gb_of, ↓gb2_of, ↓gb3_of, ↓gB_eq, ↓gg_pos, ↓if_pos, ↓if_neg, ↓b_wi1, ↓b_wi0, ↓b_has1, ↓b_has0, ↓b_in1, ↓b_in0, ↓b_pl1, ↓b_pl0, ↓b_jm1, ↓b_jm0, ↓b_jc1, ↓b_jc0, ↓b_size, ↓b_get, ↓b_ref, ↓b_den, ↓b_gra, ↓b_don]
theorem e_free {v1 v2 : Int} (hG : 5000 ≤ G) (h : Inv n M) (hv1 : ok v1) (hv2 : ok v2) : ∃ r Mm, f_X5_free G n M v1 v2 = some r ∧ f_X6_free G n M v1 v2 = some (r, Mm) ∧ Inv n Mm := by
  have hi := h.th
  obtain ⟨a1, a2, a3, a4, a5, a6, a7, a8, a9, a10, a11, a12, a13, a14, a15⟩ := h.1
  by_cases c1 : 0 ≤ v1 ∧ v1 < M 100 2
  · by_cases c2 : M 100 4 ≤ v2 ∧ v2 ≤ 299
    · obtain ⟨p, rfl⟩ : ∃ p : Nat, v1 = (p : Int) := ⟨v1.toNat, by omega⟩
      obtain ⟨x, rfl⟩ : ∃ x : Nat, v2 = (x : Int) := ⟨v2.toNat, by omega⟩
      obtain ⟨u, w1, w2⟩ := p_uses (G := G) hG hi.ubd
      have w3 := w2 p x (by omega) (by omega)
      have e9 : sm (oc (ga_st M 100 0 0) p x) 0 n = sm (oc M p x) 0 n := sm_congr (fun i _ => by
        unfold oc
        rw [ga_st_row _ (by decide), ga_st_row _ (by decide), ga_st_row _ (by decide), ga_st_row _ (by decide)])
      refine ⟨M (31 + p) x, setr (ga_st M 100 0 0) 119 u, ?_, ?_, ?_⟩
      · unfold f_X5_free
        try simp (disch := (first | omega | (simp (disch := omega) only [ga_st_self, ga_st_id, ga_st_ix] <;> omega) | skip)) only [↓gb_of, ↓gb2_of, ↓gb3_of, ↓gB_eq, ↓gg_pos, ↓if_pos, ↓if_neg, ↓b_wi1, ↓b_wi0, ↓b_has1, ↓b_has0, ↓b_in1, ↓b_in0, ↓b_pl1, ↓b_pl0, ↓b_jm1, ↓b_jm0, ↓b_jc1, ↓b_jc0, ↓b_size, ↓b_get, ↓b_ref, ↓b_den, ↓b_gra, ↓b_don]
        try simp only [Int.toNat_natCast, tn300, tn4, Nat.reduceMul, Nat.reduceAdd]
      · unfold f_X6_free
        try simp (disch := (first | omega | (simp (disch := omega) only [ga_st_self, ga_st_id, ga_st_ix] <;> omega) | skip)) only [↓gb_of, ↓gb2_of, ↓gb3_of, ↓gB_eq, ↓gg_pos, ↓if_pos, ↓if_neg, ↓b_wi1, ↓b_wi0, ↓b_has1, ↓b_has0, ↓b_in1, ↓b_in0, ↓b_pl1, ↓b_pl0, ↓b_jm1, ↓b_jm0, ↓b_jc1, ↓b_jc0, ↓b_size, ↓b_get, ↓b_ref, ↓b_den, ↓b_gra, ↓b_don]
        rw [gb_eq w1]
        try simp only [Int.toNat_natCast, tn300, tn4, Nat.reduceMul, Nat.reduceAdd]
        try simp (disch := (first | omega | (simp (disch := omega) only [ga_st_self, ga_st_id, ga_st_ix] <;> omega) | skip)) only [↓gb_of, ↓gb2_of, ↓gb3_of, ↓gB_eq, ↓gg_pos, ↓if_pos, ↓if_neg, ↓b_wi1, ↓b_wi0, ↓b_has1, ↓b_has0, ↓b_in1, ↓b_in0, ↓b_pl1, ↓b_pl0, ↓b_jm1, ↓b_jm0, ↓b_jc1, ↓b_jc0, ↓b_size, ↓b_get, ↓b_ref, ↓b_den, ↓b_gra, ↓b_don]
        rw [h.2.2.2.2.1 p x (by omega) (by omega) (by omega), setr_self, w3, e9, setr_ne (by decide), ga_st_row _ (by decide)]
      · refine hi.sc ?_ (fun a ha => setr_ne (by unfold rel at ha; omega)) (by rw [setr_ne (by decide)]) (by rw [setr_ne (by decide)]) (by rw [setr_ne (by decide)]) (by rw [setr_ne (by decide)])
        have := hi.1
        unfold iA at *
        rw [setr_ne (by decide), setr_ne (by decide), setr_ne (by decide), setr_ne (by decide)]
        exact this
    · refine ⟨-1, _, ?_, ?_, hi⟩
      · unfold f_X5_free
        try simp (disch := (first | omega | (simp (disch := omega) only [ga_st_self, ga_st_id, ga_st_ix] <;> omega) | skip)) only [↓gb_of, ↓gb2_of, ↓gb3_of, ↓gB_eq, ↓gg_pos, ↓if_pos, ↓if_neg, ↓b_wi1, ↓b_wi0, ↓b_has1, ↓b_has0, ↓b_in1, ↓b_in0, ↓b_pl1, ↓b_pl0, ↓b_jm1, ↓b_jm0, ↓b_jc1, ↓b_jc0, ↓b_size, ↓b_get, ↓b_ref, ↓b_den, ↓b_gra, ↓b_don]
      · unfold f_X6_free
        try simp (disch := (first | omega | (simp (disch := omega) only [ga_st_self, ga_st_id, ga_st_ix] <;> omega) | skip)) only [↓gb_of, ↓gb2_of, ↓gb3_of, ↓gB_eq, ↓gg_pos, ↓if_pos, ↓if_neg, ↓b_wi1, ↓b_wi0, ↓b_has1, ↓b_has0, ↓b_in1, ↓b_in0, ↓b_pl1, ↓b_pl0, ↓b_jm1, ↓b_jm0, ↓b_jc1, ↓b_jc0, ↓b_size, ↓b_get, ↓b_ref, ↓b_den, ↓b_gra, ↓b_don]
  · refine ⟨-1, _, ?_, ?_, hi⟩
    · unfold f_X5_free
      try simp (disch := (first | omega | (simp (disch := omega) only [ga_st_self, ga_st_id, ga_st_ix] <;> omega) | skip)) only [↓gb_of, ↓gb2_of, ↓gb3_of, ↓gB_eq, ↓gg_pos, ↓if_pos, ↓if_neg, ↓b_wi1, ↓b_wi0, ↓b_has1, ↓b_has0, ↓b_in1, ↓b_in0, ↓b_pl1, ↓b_pl0, ↓b_jm1, ↓b_jm0, ↓b_jc1, ↓b_jc0, ↓b_size, ↓b_get, ↓b_ref, ↓b_den, ↓b_gra, ↓b_don]
    · unfold f_X6_free
      try simp (disch := (first | omega | (simp (disch := omega) only [ga_st_self, ga_st_id, ga_st_ix] <;> omega) | skip)) only [↓gb_of, ↓gb2_of, ↓gb3_of, ↓gB_eq, ↓gg_pos, ↓if_pos, ↓if_neg, ↓b_wi1, ↓b_wi0, ↓b_has1, ↓b_has0, ↓b_in1, ↓b_in0, ↓b_pl1, ↓b_pl0, ↓b_jm1, ↓b_jm0, ↓b_jc1, ↓b_jc0, ↓b_size, ↓b_get, ↓b_ref, ↓b_den, ↓b_gra, ↓b_don]
theorem p_costL_l {L : Nat} (h1 : M 100 29 = (L : Int)) (hL : L ≤ 40) (ho : ∀ j, j < L → ok (M 124 j)) : ∀ (k j F : Nat) (acc : Int), j + k = L → k < F → l_X6_cost_19 G n F M acc (j : Int) = some (acc + sm (lc M) j k) := by
  intro k
  induction k with
  | zero =>
    intro j F acc hx hF
    obtain ⟨F, rfl⟩ : ∃ F1, F = F1 + 1 := ⟨F - 1, by omega⟩
    rw [l_X6_cost_19]
    try simp (disch := (first | omega | (simp (disch := omega) only [ga_st_self, ga_st_id, ga_st_ix] <;> omega) | skip)) only [↓gb_of, ↓gb2_of, ↓gb3_of, ↓gB_eq, ↓gg_pos, ↓if_pos, ↓if_neg, ↓b_wi1, ↓b_wi0, ↓b_has1, ↓b_has0, ↓b_in1, ↓b_in0, ↓b_pl1, ↓b_pl0, ↓b_jm1, ↓b_jm0, ↓b_jc1, ↓b_jc0, ↓b_size, ↓b_get, ↓b_ref, ↓b_den, ↓b_gra, ↓b_don]
    simp [sm]
  | succ k ih =>
    intro j F acc hx hF
    obtain ⟨F, rfl⟩ : ∃ F1, F = F1 + 1 := ⟨F - 1, by omega⟩
    have o2 := ho j (by omega)
    rw [l_X6_cost_19]
    try simp only [Int.toNat_natCast, tn300, tn4, Nat.reduceMul, Nat.reduceAdd]
    rw [sm_first]
    by_cases c : M 124 j = -1
    · try simp (disch := (first | omega | (simp (disch := omega) only [ga_st_self, ga_st_id, ga_st_ix] <;> omega) | skip)) only [↓gb_of, ↓gb2_of, ↓gb3_of, ↓gB_eq, ↓gg_pos, ↓if_pos, ↓if_neg, ↓b_wi1, ↓b_wi0, ↓b_has1, ↓b_has0, ↓b_in1, ↓b_in0, ↓b_pl1, ↓b_pl0, ↓b_jm1, ↓b_jm0, ↓b_jc1, ↓b_jc0, ↓b_size, ↓b_get, ↓b_ref, ↓b_den, ↓b_gra, ↓b_don]
      rw [show ((j : Int) + 1) = ((j + 1 : Nat) : Int) from rfl, ih (j + 1) F _ (by omega) (by omega), show lc M j = _ from if_pos c, Int.add_assoc]
    · try simp (disch := (first | omega | (simp (disch := omega) only [ga_st_self, ga_st_id, ga_st_ix] <;> omega) | skip)) only [↓gb_of, ↓gb2_of, ↓gb3_of, ↓gB_eq, ↓gg_pos, ↓if_pos, ↓if_neg, ↓b_wi1, ↓b_wi0, ↓b_has1, ↓b_has0, ↓b_in1, ↓b_in0, ↓b_pl1, ↓b_pl0, ↓b_jm1, ↓b_jm0, ↓b_jc1, ↓b_jc0, ↓b_size, ↓b_get, ↓b_ref, ↓b_den, ↓b_gra, ↓b_don]
      rw [show ((j : Int) + 1) = ((j + 1 : Nat) : Int) from rfl, ih (j + 1) F _ (by omega) (by omega), show lc M j = _ from if_neg c, Int.add_assoc]
theorem e_cost (hG : 5000 ≤ G) (h : Inv n M) : ∃ r Mm, f_X5_cost G n M = some r ∧ f_X6_cost G n M = some (r, Mm) ∧ Inv n Mm := by
  have hi := h.th
  obtain ⟨a1, a2, a3, a4, a5, a6, a7, a8, a9, a10, a11, a12, a13, a14, a15⟩ := h.1
  rcases h.2.2.2.2.2.2 with ⟨q1, q2, q3⟩ | ⟨L, q1, q2, q3, q4, q5⟩
  · refine ⟨-1, _, ?_, ?_, hi⟩
    · unfold f_X5_cost
      rw [q2]
    · unfold f_X6_cost
      try simp (disch := (first | omega | (simp (disch := omega) only [ga_st_self, ga_st_id, ga_st_ix] <;> omega) | skip)) only [↓gb_of, ↓gb2_of, ↓gb3_of, ↓gB_eq, ↓gg_pos, ↓if_pos, ↓if_neg, ↓b_wi1, ↓b_wi0, ↓b_has1, ↓b_has0, ↓b_in1, ↓b_in0, ↓b_pl1, ↓b_pl0, ↓b_jm1, ↓b_jm0, ↓b_jc1, ↓b_jc0, ↓b_size, ↓b_get, ↓b_ref, ↓b_den, ↓b_gra, ↓b_don]
  · refine ⟨M 4 4, _, rfl, ?_, hi⟩
    have e1 := p_costL_l (G := G) (n := n) (M := ga_st M 100 0 0) (L := L) (by simp [ga_st]; exact q1) (by omega) (fun j hj => by
      obtain ⟨-, x1, x2, -⟩ := q3 j hj
      rw [ga_st_row _ (by decide)]
      exact ⟨by omega, by omega⟩) L 0 G 0 (by omega) (by omega)
    have e2 : sm (lc (ga_st M 100 0 0)) 0 L = sm (lc M) 0 L := sm_congr (fun i _ => by
      unfold lc
      rw [ga_st_row _ (by decide), ga_st_row _ (by decide)])
    rw [e2, Int.zero_add, ← q5] at e1
    unfold f_X6_cost
    try simp (disch := (first | omega | (simp (disch := omega) only [ga_st_self, ga_st_id, ga_st_ix] <;> omega) | skip)) only [↓gb_of, ↓gb2_of, ↓gb3_of, ↓gB_eq, ↓gg_pos, ↓if_pos, ↓if_neg, ↓b_wi1, ↓b_wi0, ↓b_has1, ↓b_has0, ↓b_in1, ↓b_in0, ↓b_pl1, ↓b_pl0, ↓b_jm1, ↓b_jm0, ↓b_jc1, ↓b_jc0, ↓b_size, ↓b_get, ↓b_ref, ↓b_den, ↓b_gra, ↓b_don]
    exact gb_eq e1
theorem e_laid {v1 v2 : Int} (h : Inv n M) (hv1 : ok v1) (hv2 : ok v2) : ∃ r Mm, f_X5_laid G n M v1 v2 = some r ∧ f_X6_laid G n M v1 v2 = some (r, Mm) ∧ Inv n Mm := by
  have hi := h.th
  obtain ⟨a1, a2, a3, a4, a5, a6, a7, a8, a9, a10, a11, a12, a13, a14, a15⟩ := h.1
  have hneg : ∀ j : Nat, j < 40 → M 40 j = -1 → f_X5_laid G n M (j : Int) v2 = some (-1) := by
    intro j hj e
    have e1 : f_X0_has G n M 4 (j : Int) = some 0 := by
      unfold f_X0_has
      try simp only [Int.toNat_natCast, tn300, tn4, Nat.reduceMul, Nat.reduceAdd]
      try simp (disch := (first | omega | (simp (disch := omega) only [ga_st_self, ga_st_id, ga_st_ix] <;> omega) | skip)) only [↓gb_of, ↓gb2_of, ↓gb3_of, ↓gB_eq, ↓gg_pos, ↓if_pos, ↓if_neg, ↓b_wi1, ↓b_wi0, ↓b_has1, ↓b_has0, ↓b_in1, ↓b_in0, ↓b_pl1, ↓b_pl0, ↓b_jm1, ↓b_jm0, ↓b_jc1, ↓b_jc0, ↓b_size, ↓b_get, ↓b_ref, ↓b_den, ↓b_gra, ↓b_don]
    have e2 : f_X0_tell G n M 4 (j : Int) v2 = some (-1) := by
      unfold f_X0_tell
      rw [gb_eq e1]
      try simp (disch := (first | omega | (simp (disch := omega) only [ga_st_self, ga_st_id, ga_st_ix] <;> omega) | skip)) only [↓gb_of, ↓gb2_of, ↓gb3_of, ↓gB_eq, ↓gg_pos, ↓if_pos, ↓if_neg, ↓b_wi1, ↓b_wi0, ↓b_has1, ↓b_has0, ↓b_in1, ↓b_in0, ↓b_pl1, ↓b_pl0, ↓b_jm1, ↓b_jm0, ↓b_jc1, ↓b_jc0, ↓b_size, ↓b_get, ↓b_ref, ↓b_den, ↓b_gra, ↓b_don]
    unfold f_X5_laid
    try simp (disch := (first | omega | (simp (disch := omega) only [ga_st_self, ga_st_id, ga_st_ix] <;> omega) | skip)) only [↓gb_of, ↓gb2_of, ↓gb3_of, ↓gB_eq, ↓gg_pos, ↓if_pos, ↓if_neg, ↓b_wi1, ↓b_wi0, ↓b_has1, ↓b_has0, ↓b_in1, ↓b_in0, ↓b_pl1, ↓b_pl0, ↓b_jm1, ↓b_jm0, ↓b_jc1, ↓b_jc0, ↓b_size, ↓b_get, ↓b_ref, ↓b_den, ↓b_gra, ↓b_don]
    rw [gb_eq e2]
  by_cases c1 : 0 ≤ v1 ∧ v1 < 40
  · obtain ⟨j, rfl⟩ : ∃ j : Nat, v1 = (j : Int) := ⟨v1.toNat, by omega⟩
    rcases h.2.2.2.2.2.2 with ⟨q1, q2, q3⟩ | ⟨L, q1, q2, q3, q4, q5⟩
    · refine ⟨-1, _, hneg j (by omega) (q3 j (by omega)), ?_, hi⟩
      unfold f_X6_laid
      try simp (disch := (first | omega | (simp (disch := omega) only [ga_st_self, ga_st_id, ga_st_ix] <;> omega) | skip)) only [↓gb_of, ↓gb2_of, ↓gb3_of, ↓gB_eq, ↓gg_pos, ↓if_pos, ↓if_neg, ↓b_wi1, ↓b_wi0, ↓b_has1, ↓b_has0, ↓b_in1, ↓b_in0, ↓b_pl1, ↓b_pl0, ↓b_jm1, ↓b_jm0, ↓b_jc1, ↓b_jc0, ↓b_size, ↓b_get, ↓b_ref, ↓b_den, ↓b_gra, ↓b_don]
    · by_cases c2 : j < L
      · obtain ⟨x0, x1, x2, x3, x4⟩ := q3 j c2
        by_cases c3 : M 124 j = -1
        · refine ⟨-1, _, hneg j (by omega) (by omega), ?_, hi⟩
          obtain ⟨y1, y2⟩ := x3 c3
          by_cases d0 : v2 = 0
          · unfold f_X6_laid
            try simp only [Int.toNat_natCast, tn300, tn4, Nat.reduceMul, Nat.reduceAdd]
            try simp (disch := (first | omega | (simp (disch := omega) only [ga_st_self, ga_st_id, ga_st_ix] <;> omega) | skip)) only [↓gb_of, ↓gb2_of, ↓gb3_of, ↓gB_eq, ↓gg_pos, ↓if_pos, ↓if_neg, ↓b_wi1, ↓b_wi0, ↓b_has1, ↓b_has0, ↓b_in1, ↓b_in0, ↓b_pl1, ↓b_pl0, ↓b_jm1, ↓b_jm0, ↓b_jc1, ↓b_jc0, ↓b_size, ↓b_get, ↓b_ref, ↓b_den, ↓b_gra, ↓b_don]
            rw [ga_st_row _ (by decide), c3]
          by_cases d1 : v2 = 1
          · unfold f_X6_laid
            try simp only [Int.toNat_natCast, tn300, tn4, Nat.reduceMul, Nat.reduceAdd]
            try simp (disch := (first | omega | (simp (disch := omega) only [ga_st_self, ga_st_id, ga_st_ix] <;> omega) | skip)) only [↓gb_of, ↓gb2_of, ↓gb3_of, ↓gB_eq, ↓gg_pos, ↓if_pos, ↓if_neg, ↓b_wi1, ↓b_wi0, ↓b_has1, ↓b_has0, ↓b_in1, ↓b_in0, ↓b_pl1, ↓b_pl0, ↓b_jm1, ↓b_jm0, ↓b_jc1, ↓b_jc0, ↓b_size, ↓b_get, ↓b_ref, ↓b_den, ↓b_gra, ↓b_don]
            rw [ga_st_row _ (by decide), y1]
          by_cases d2 : v2 = 2
          · unfold f_X6_laid
            try simp only [Int.toNat_natCast, tn300, tn4, Nat.reduceMul, Nat.reduceAdd]
            try simp (disch := (first | omega | (simp (disch := omega) only [ga_st_self, ga_st_id, ga_st_ix] <;> omega) | skip)) only [↓gb_of, ↓gb2_of, ↓gb3_of, ↓gB_eq, ↓gg_pos, ↓if_pos, ↓if_neg, ↓b_wi1, ↓b_wi0, ↓b_has1, ↓b_has0, ↓b_in1, ↓b_in0, ↓b_pl1, ↓b_pl0, ↓b_jm1, ↓b_jm0, ↓b_jc1, ↓b_jc0, ↓b_size, ↓b_get, ↓b_ref, ↓b_den, ↓b_gra, ↓b_don]
            rw [ga_st_row _ (by decide), y2]
          unfold f_X6_laid
          try simp only [Int.toNat_natCast, tn300, tn4, Nat.reduceMul, Nat.reduceAdd]
          try simp (disch := (first | omega | (simp (disch := omega) only [ga_st_self, ga_st_id, ga_st_ix] <;> omega) | skip)) only [↓gb_of, ↓gb2_of, ↓gb3_of, ↓gB_eq, ↓gg_pos, ↓if_pos, ↓if_neg, ↓b_wi1, ↓b_wi0, ↓b_has1, ↓b_has0, ↓b_in1, ↓b_in0, ↓b_pl1, ↓b_pl0, ↓b_jm1, ↓b_jm0, ↓b_jc1, ↓b_jc0, ↓b_size, ↓b_get, ↓b_ref, ↓b_den, ↓b_gra, ↓b_don]
        · obtain ⟨y1, y2⟩ := x4 c3
          have e1 : f_X0_has G n M 4 (j : Int) = some 1 := by
            unfold f_X0_has
            try simp only [Int.toNat_natCast, tn300, tn4, Nat.reduceMul, Nat.reduceAdd]
            try simp (disch := (first | omega | (simp (disch := omega) only [ga_st_self, ga_st_id, ga_st_ix] <;> omega) | skip)) only [↓gb_of, ↓gb2_of, ↓gb3_of, ↓gB_eq, ↓gg_pos, ↓if_pos, ↓if_neg, ↓b_wi1, ↓b_wi0, ↓b_has1, ↓b_has0, ↓b_in1, ↓b_in0, ↓b_pl1, ↓b_pl0, ↓b_jm1, ↓b_jm0, ↓b_jc1, ↓b_jc0, ↓b_size, ↓b_get, ↓b_ref, ↓b_den, ↓b_gra, ↓b_don]
          have e2 : ∀ r, f_X0_tell G n M 4 (j : Int) v2 = some r → f_X5_laid G n M (j : Int) v2 = some r := by
            intro r hr
            unfold f_X5_laid
            try simp (disch := (first | omega | (simp (disch := omega) only [ga_st_self, ga_st_id, ga_st_ix] <;> omega) | skip)) only [↓gb_of, ↓gb2_of, ↓gb3_of, ↓gB_eq, ↓gg_pos, ↓if_pos, ↓if_neg, ↓b_wi1, ↓b_wi0, ↓b_has1, ↓b_has0, ↓b_in1, ↓b_in0, ↓b_pl1, ↓b_pl0, ↓b_jm1, ↓b_jm0, ↓b_jc1, ↓b_jc0, ↓b_size, ↓b_get, ↓b_ref, ↓b_den, ↓b_gra, ↓b_don]
            rw [gb_eq hr]
          by_cases d0 : v2 = 0
          · refine ⟨M 124 j, _, e2 _ ?_, ?_, hi⟩
            · unfold f_X0_tell
              rw [gb_eq e1]
              try simp (disch := (first | omega | (simp (disch := omega) only [ga_st_self, ga_st_id, ga_st_ix] <;> omega) | skip)) only [↓gb_of, ↓gb2_of, ↓gb3_of, ↓gB_eq, ↓gg_pos, ↓if_pos, ↓if_neg, ↓b_wi1, ↓b_wi0, ↓b_has1, ↓b_has0, ↓b_in1, ↓b_in0, ↓b_pl1, ↓b_pl0, ↓b_jm1, ↓b_jm0, ↓b_jc1, ↓b_jc0, ↓b_size, ↓b_get, ↓b_ref, ↓b_den, ↓b_gra, ↓b_don]
              try simp only [Int.toNat_natCast, tn300, tn4, Nat.reduceMul, Nat.reduceAdd]
              rw [x0]
            · unfold f_X6_laid
              try simp only [Int.toNat_natCast, tn300, tn4, Nat.reduceMul, Nat.reduceAdd]
              try simp (disch := (first | omega | (simp (disch := omega) only [ga_st_self, ga_st_id, ga_st_ix] <;> omega) | skip)) only [↓gb_of, ↓gb2_of, ↓gb3_of, ↓gB_eq, ↓gg_pos, ↓if_pos, ↓if_neg, ↓b_wi1, ↓b_wi0, ↓b_has1, ↓b_has0, ↓b_in1, ↓b_in0, ↓b_pl1, ↓b_pl0, ↓b_jm1, ↓b_jm0, ↓b_jc1, ↓b_jc0, ↓b_size, ↓b_get, ↓b_ref, ↓b_den, ↓b_gra, ↓b_don]
              rw [ga_st_row _ (by decide)]
          by_cases d1 : v2 = 1
          · refine ⟨M 125 j, _, e2 _ ?_, ?_, hi⟩
            · unfold f_X0_tell
              rw [gb_eq e1]
              try simp (disch := (first | omega | (simp (disch := omega) only [ga_st_self, ga_st_id, ga_st_ix] <;> omega) | skip)) only [↓gb_of, ↓gb2_of, ↓gb3_of, ↓gB_eq, ↓gg_pos, ↓if_pos, ↓if_neg, ↓b_wi1, ↓b_wi0, ↓b_has1, ↓b_has0, ↓b_in1, ↓b_in0, ↓b_pl1, ↓b_pl0, ↓b_jm1, ↓b_jm0, ↓b_jc1, ↓b_jc0, ↓b_size, ↓b_get, ↓b_ref, ↓b_den, ↓b_gra, ↓b_don]
              try simp only [Int.toNat_natCast, tn300, tn4, Nat.reduceMul, Nat.reduceAdd]
              rw [y1]
            · unfold f_X6_laid
              try simp only [Int.toNat_natCast, tn300, tn4, Nat.reduceMul, Nat.reduceAdd]
              try simp (disch := (first | omega | (simp (disch := omega) only [ga_st_self, ga_st_id, ga_st_ix] <;> omega) | skip)) only [↓gb_of, ↓gb2_of, ↓gb3_of, ↓gB_eq, ↓gg_pos, ↓if_pos, ↓if_neg, ↓b_wi1, ↓b_wi0, ↓b_has1, ↓b_has0, ↓b_in1, ↓b_in0, ↓b_pl1, ↓b_pl0, ↓b_jm1, ↓b_jm0, ↓b_jc1, ↓b_jc0, ↓b_size, ↓b_get, ↓b_ref, ↓b_den, ↓b_gra, ↓b_don]
              rw [ga_st_row _ (by decide)]
          by_cases d2 : v2 = 2
          · refine ⟨M 126 j, _, e2 _ ?_, ?_, hi⟩
            · unfold f_X0_tell
              rw [gb_eq e1]
              try simp (disch := (first | omega | (simp (disch := omega) only [ga_st_self, ga_st_id, ga_st_ix] <;> omega) | skip)) only [↓gb_of, ↓gb2_of, ↓gb3_of, ↓gB_eq, ↓gg_pos, ↓if_pos, ↓if_neg, ↓b_wi1, ↓b_wi0, ↓b_has1, ↓b_has0, ↓b_in1, ↓b_in0, ↓b_pl1, ↓b_pl0, ↓b_jm1, ↓b_jm0, ↓b_jc1, ↓b_jc0, ↓b_size, ↓b_get, ↓b_ref, ↓b_den, ↓b_gra, ↓b_don]
              try simp only [Int.toNat_natCast, tn300, tn4, Nat.reduceMul, Nat.reduceAdd]
              rw [y2]
            · unfold f_X6_laid
              try simp only [Int.toNat_natCast, tn300, tn4, Nat.reduceMul, Nat.reduceAdd]
              try simp (disch := (first | omega | (simp (disch := omega) only [ga_st_self, ga_st_id, ga_st_ix] <;> omega) | skip)) only [↓gb_of, ↓gb2_of, ↓gb3_of, ↓gB_eq, ↓gg_pos, ↓if_pos, ↓if_neg, ↓b_wi1, ↓b_wi0, ↓b_has1, ↓b_has0, ↓b_in1, ↓b_in0, ↓b_pl1, ↓b_pl0, ↓b_jm1, ↓b_jm0, ↓b_jc1, ↓b_jc0, ↓b_size, ↓b_get, ↓b_ref, ↓b_den, ↓b_gra, ↓b_don]
              rw [ga_st_row _ (by decide)]
          refine ⟨-1, _, e2 _ ?_, ?_, hi⟩
          · unfold f_X0_tell
            rw [gb_eq e1]
            try simp (disch := (first | omega | (simp (disch := omega) only [ga_st_self, ga_st_id, ga_st_ix] <;> omega) | skip)) only [↓gb_of, ↓gb2_of, ↓gb3_of, ↓gB_eq, ↓gg_pos, ↓if_pos, ↓if_neg, ↓b_wi1, ↓b_wi0, ↓b_has1, ↓b_has0, ↓b_in1, ↓b_in0, ↓b_pl1, ↓b_pl0, ↓b_jm1, ↓b_jm0, ↓b_jc1, ↓b_jc0, ↓b_size, ↓b_get, ↓b_ref, ↓b_den, ↓b_gra, ↓b_don]
          · unfold f_X6_laid
            try simp only [Int.toNat_natCast, tn300, tn4, Nat.reduceMul, Nat.reduceAdd]
            try simp (disch := (first | omega | (simp (disch := omega) only [ga_st_self, ga_st_id, ga_st_ix] <;> omega) | skip)) only [↓gb_of, ↓gb2_of, ↓gb3_of, ↓gB_eq, ↓gg_pos, ↓if_pos, ↓if_neg, ↓b_wi1, ↓b_wi0, ↓b_has1, ↓b_has0, ↓b_in1, ↓b_in0, ↓b_pl1, ↓b_pl0, ↓b_jm1, ↓b_jm0, ↓b_jc1, ↓b_jc0, ↓b_size, ↓b_get, ↓b_ref, ↓b_den, ↓b_gra, ↓b_don]
      · refine ⟨-1, _, hneg j (by omega) (q4 j (by omega) (by omega)), ?_, hi⟩
        unfold f_X6_laid
        try simp (disch := (first | omega | (simp (disch := omega) only [ga_st_self, ga_st_id, ga_st_ix] <;> omega) | skip)) only [↓gb_of, ↓gb2_of, ↓gb3_of, ↓gB_eq, ↓gg_pos, ↓if_pos, ↓if_neg, ↓b_wi1, ↓b_wi0, ↓b_has1, ↓b_has0, ↓b_in1, ↓b_in0, ↓b_pl1, ↓b_pl0, ↓b_jm1, ↓b_jm0, ↓b_jc1, ↓b_jc0, ↓b_size, ↓b_get, ↓b_ref, ↓b_den, ↓b_gra, ↓b_don]
  · refine ⟨-1, _, ?_, ?_, hi⟩
    · unfold f_X5_laid
      try simp (disch := (first | omega | (simp (disch := omega) only [ga_st_self, ga_st_id, ga_st_ix] <;> omega) | skip)) only [↓gb_of, ↓gb2_of, ↓gb3_of, ↓gB_eq, ↓gg_pos, ↓if_pos, ↓if_neg, ↓b_wi1, ↓b_wi0, ↓b_has1, ↓b_has0, ↓b_in1, ↓b_in0, ↓b_pl1, ↓b_pl0, ↓b_jm1, ↓b_jm0, ↓b_jc1, ↓b_jc0, ↓b_size, ↓b_get, ↓b_ref, ↓b_den, ↓b_gra, ↓b_don]
    · unfold f_X6_laid
      rcases h.2.2.2.2.2.2 with ⟨q1, q2, q3⟩ | ⟨L, q1, q2, q3, q4, q5⟩
      · by_cases d : 0 ≤ v1
        · try simp (disch := (first | omega | (simp (disch := omega) only [ga_st_self, ga_st_id, ga_st_ix] <;> omega) | skip)) only [↓gb_of, ↓gb2_of, ↓gb3_of, ↓gB_eq, ↓gg_pos, ↓if_pos, ↓if_neg, ↓b_wi1, ↓b_wi0, ↓b_has1, ↓b_has0, ↓b_in1, ↓b_in0, ↓b_pl1, ↓b_pl0, ↓b_jm1, ↓b_jm0, ↓b_jc1, ↓b_jc0, ↓b_size, ↓b_get, ↓b_ref, ↓b_den, ↓b_gra, ↓b_don]
        · try simp (disch := (first | omega | (simp (disch := omega) only [ga_st_self, ga_st_id, ga_st_ix] <;> omega) | skip)) only [↓gb_of, ↓gb2_of, ↓gb3_of, ↓gB_eq, ↓gg_pos, ↓if_pos, ↓if_neg, ↓b_wi1, ↓b_wi0, ↓b_has1, ↓b_has0, ↓b_in1, ↓b_in0, ↓b_pl1, ↓b_pl0, ↓b_jm1, ↓b_jm0, ↓b_jc1, ↓b_jc0, ↓b_size, ↓b_get, ↓b_ref, ↓b_den, ↓b_gra, ↓b_don]
      · by_cases d : 0 ≤ v1
        · try simp (disch := (first | omega | (simp (disch := omega) only [ga_st_self, ga_st_id, ga_st_ix] <;> omega) | skip)) only [↓gb_of, ↓gb2_of, ↓gb3_of, ↓gB_eq, ↓gg_pos, ↓if_pos, ↓if_neg, ↓b_wi1, ↓b_wi0, ↓b_has1, ↓b_has0, ↓b_in1, ↓b_in0, ↓b_pl1, ↓b_pl0, ↓b_jm1, ↓b_jm0, ↓b_jc1, ↓b_jc0, ↓b_size, ↓b_get, ↓b_ref, ↓b_den, ↓b_gra, ↓b_don]
        · try simp (disch := (first | omega | (simp (disch := omega) only [ga_st_self, ga_st_id, ga_st_ix] <;> omega) | skip)) only [↓gb_of, ↓gb2_of, ↓gb3_of, ↓gB_eq, ↓gg_pos, ↓if_pos, ↓if_neg, ↓b_wi1, ↓b_wi0, ↓b_has1, ↓b_has0, ↓b_in1, ↓b_in0, ↓b_pl1, ↓b_pl0, ↓b_jm1, ↓b_jm0, ↓b_jc1, ↓b_jc0, ↓b_size, ↓b_get, ↓b_ref, ↓b_den, ↓b_gra, ↓b_don]
end M2

/-! ===== pure: drop, fare, green, place ===== -/
section M3
variable {n G : Nat} {M : gaM}
theorem e_drop {v1 : Int} (h : Inv n M) (hv1 : ok v1) : ∃ r Mc Mm, f_X5_drop G n M v1 = some (r, Mc) ∧ f_X6_drop G n Mc v1 = some (r, Mm) ∧ Inv n Mm := by
  obtain ⟨a1, a2, a3, a4, a5, a6, a7, a8, a9, a10, a11, a12, a13, a14, a15⟩ := h.1
  by_cases c1 : 0 ≤ v1 ∧ v1 < (n : Int)
  · obtain ⟨j, rfl⟩ : ∃ j : Nat, v1 = (j : Int) := ⟨v1.toNat, by omega⟩
    have hj : j < n := by omega
    obtain ⟨⟨g0, g1, g2, g3, g4, g5, g6, g7, g8, g9⟩, u, w⟩ := h.2.2.2.1 j hj
    have o2 := (h.okJ j hj).2
    by_cases c2 : M 115 j = 0
    · have t1 : f_X5_troubleOfDrop G n M (j : Int) = some 0 := by
        unfold f_X5_troubleOfDrop
        try simp (disch := (first | omega | (simp (disch := omega) only [ga_st_self, ga_st_id, ga_st_ix] <;> omega) | skip)) only [↓gb_of, ↓gb2_of, ↓gb3_of, ↓gB_eq, ↓gg_pos, ↓if_pos, ↓if_neg, ↓b_wi1, ↓b_wi0, ↓b_has1, ↓b_has0, ↓b_in1, ↓b_in0, ↓b_pl1, ↓b_pl0, ↓b_jm1, ↓b_jm0, ↓b_jc1, ↓b_jc0, ↓b_size, ↓b_get, ↓b_ref, ↓b_den, ↓b_gra, ↓b_don]
        try simp only [Int.toNat_natCast, tn300, tn4, Nat.reduceMul, Nat.reduceAdd]
        simp only [g6]
        try simp (disch := (first | omega | (simp (disch := omega) only [ga_st_self, ga_st_id, ga_st_ix] <;> omega) | skip)) only [↓gb_of, ↓gb2_of, ↓gb3_of, ↓gB_eq, ↓gg_pos, ↓if_pos, ↓if_neg, ↓b_wi1, ↓b_wi0, ↓b_has1, ↓b_has0, ↓b_in1, ↓b_in0, ↓b_pl1, ↓b_pl0, ↓b_jm1, ↓b_jm0, ↓b_jc1, ↓b_jc0, ↓b_size, ↓b_get, ↓b_ref, ↓b_den, ↓b_gra, ↓b_don]
      refine ⟨1, ga_st (ga_st M 0 10 0) (200 + j) 6 3, ga_st (ga_st (ga_st (ga_st (ga_st M 0 10 0) (200 + j) 6 3) 100 0 0) 115 j 3) 100 1 0, ?_, ?_, ?_⟩
      · unfold f_X5_drop
        rw [gb_eq t1]
        try simp (disch := (first | omega | (simp (disch := omega) only [ga_st_self, ga_st_id, ga_st_ix] <;> omega) | skip)) only [↓gb_of, ↓gb2_of, ↓gb3_of, ↓gB_eq, ↓gg_pos, ↓if_pos, ↓if_neg, ↓b_wi1, ↓b_wi0, ↓b_has1, ↓b_has0, ↓b_in1, ↓b_in0, ↓b_pl1, ↓b_pl0, ↓b_jm1, ↓b_jm0, ↓b_jc1, ↓b_jc0, ↓b_size, ↓b_get, ↓b_ref, ↓b_den, ↓b_gra, ↓b_don]
        try simp only [Int.toNat_natCast, tn300, tn4, Nat.reduceMul, Nat.reduceAdd]
      · unfold f_X6_drop
        try simp only [Int.toNat_natCast, tn300, tn4, Nat.reduceMul, Nat.reduceAdd]
        try simp (disch := (first | omega | (simp (disch := omega) only [ga_st_self, ga_st_id, ga_st_ix] <;> omega) | skip)) only [↓gb_of, ↓gb2_of, ↓gb3_of, ↓gB_eq, ↓gg_pos, ↓if_pos, ↓if_neg, ↓b_wi1, ↓b_wi0, ↓b_has1, ↓b_has0, ↓b_in1, ↓b_in0, ↓b_pl1, ↓b_pl0, ↓b_jm1, ↓b_jm0, ↓b_jc1, ↓b_jc0, ↓b_size, ↓b_get, ↓b_ref, ↓b_den, ↓b_gra, ↓b_don]
      · obtain ⟨iA0, iB0, iG0, iJ0, iR0, iD0, iL0⟩ := id h
        have hP : M 100 2 ≤ 4 := iA0.2.2.1
        have hr : ∀ a, rel a → a ≠ 115 → a ≠ 200 + j → ga_st (ga_st (ga_st (ga_st (ga_st M 0 10 0) (200 + j) 6 3) 100 0 0) 115 j 3) 100 1 0 a = M a := by
          intro a ha h1 h2
          unfold rel at ha
          simp (disch := omega) only [ga_st_row]
        have h115 : ∀ i, ga_st (ga_st (ga_st (ga_st (ga_st M 0 10 0) (200 + j) 6 3) 100 0 0) 115 j 3) 100 1 0 115 i = if i = j then 3 else M 115 i := by
          intro i
          by_cases e : i = j
          · subst e
            rw [ga_st_id (by decide), ga_st_self, if_pos rfl]
          · rw [ga_st_id (by decide), ga_st_ix e, if_neg e, ga_st_id (by decide), ga_st_id (by omega), ga_st_id (by decide)]
        have hw : ∀ b, ga_st (ga_st (ga_st (ga_st (ga_st M 0 10 0) (200 + j) 6 3) 100 0 0) 115 j 3) 100 1 0 (200 + j) b = if b = 6 then 3 else M (200 + j) b := by
          intro b
          rw [ga_st_id (by omega), ga_st_id (by omega), ga_st_id (by omega)]
          by_cases e : b = 6
          · subst e
            rw [ga_st_self, if_pos rfl]
          · rw [ga_st_ix e, if_neg e, ga_st_id (by omega)]
        have h2 : ga_st (ga_st (ga_st (ga_st (ga_st M 0 10 0) (200 + j) 6 3) 100 0 0) 115 j 3) 100 1 0 100 2 = M 100 2 := by
          rw [ga_st_ix (by decide), ga_st_id (by decide), ga_st_ix (by decide), ga_st_id (by omega), ga_st_id (by decide)]
        have h4 : ga_st (ga_st (ga_st (ga_st (ga_st M 0 10 0) (200 + j) 6 3) 100 0 0) 115 j 3) 100 1 0 100 4 = M 100 4 := by
          rw [ga_st_ix (by decide), ga_st_id (by decide), ga_st_ix (by decide), ga_st_id (by omega), ga_st_id (by decide)]
        have h29 : ga_st (ga_st (ga_st (ga_st (ga_st M 0 10 0) (200 + j) 6 3) 100 0 0) 115 j 3) 100 1 0 100 29 = M 100 29 := by
          rw [ga_st_ix (by decide), ga_st_id (by decide), ga_st_ix (by decide), ga_st_id (by omega), ga_st_id (by decide)]
        have h44 : ga_st (ga_st (ga_st (ga_st (ga_st M 0 10 0) (200 + j) 6 3) 100 0 0) 115 j 3) 100 1 0 4 4 = M 4 4 := by
          rw [ga_st_id (by decide), ga_st_id (by decide), ga_st_id (by decide), ga_st_id (by omega), ga_st_id (by decide)]
        have hA' : iA n (ga_st (ga_st (ga_st (ga_st (ga_st M 0 10 0) (200 + j) 6 3) 100 0 0) 115 j 3) 100 1 0) := by
          unfold iA
          simp (disch := omega) only [ga_st_self, ga_st_id, ga_st_ix, true_and]
          omega
        generalize ga_st (ga_st (ga_st (ga_st (ga_st M 0 10 0) (200 + j) 6 3) 100 0 0) 115 j 3) 100 1 0 = M' at hr h115 hw h2 h4 h29 h44 hA' ⊢
        have e : ∀ a, rel a → a ≠ 115 → a ≠ 200 + j → ∀ b, M' a b = M a b := fun a ha h1 h2 b => by rw [hr a ha h1 h2]
        refine ⟨hA', iB0.of (fun a ha => hr _ (by unfold rel; omega) (by omega) (by omega)) (hr _ (by unfold rel; omega) (by omega) (by omega)) h2 hP, iG0.of (fun a ha => hr _ (by unfold rel; omega) (by omega) (by omega)) (hr _ (by unfold rel; omega) (by omega) (by omega)) (hr _ (by unfold rel; omega) (by omega) (by omega)) h2 hP, fun i hi => ?_, ?_, ?_, iL0.of h29 h44 (hr _ (by unfold rel; omega) (by omega) (by omega)) (hr _ (by unfold rel; omega) (by omega) (by omega)) (hr _ (by unfold rel; omega) (by omega) (by omega)) (hr _ (by unfold rel; omega) (by omega) (by omega)) (hr _ (by unfold rel; omega) (by omega) (by omega)) (hr _ (by unfold rel; omega) (by omega) (by omega))⟩
        · by_cases c : i = j
          · subst c
            have ee : ∀ a, 109 ≤ a → a ≤ 118 → a ≠ 115 → M' a i = M a i := fun a q1 q2 q3 => e a (by unfold rel; omega) q3 (by omega) i
            obtain ⟨w1, w2, w3, w4, w5, w6, w7, w8⟩ := w
            refine ⟨?_, ?_, ?_⟩
            · unfold iJ1
              rw [hw, hw, hw, hw, hw, hw, hw, hw, hw, hw, ee 109 (by omega) (by omega) (by omega), ee 110 (by omega) (by omega) (by omega), ee 111 (by omega) (by omega) (by omega), ee 112 (by omega) (by omega) (by omega), ee 113 (by omega) (by omega) (by omega), ee 114 (by omega) (by omega) (by omega), h115, ee 116 (by omega) (by omega) (by omega), ee 117 (by omega) (by omega) (by omega), ee 118 (by omega) (by omega) (by omega)]
              simp [g0, g1, g2, g3, g4, g5, g7, g8, g9]
            · unfold iJ2
              rw [ee 109 (by omega) (by omega) (by omega), ee 110 (by omega) (by omega) (by omega), ee 111 (by omega) (by omega) (by omega), ee 112 (by omega) (by omega) (by omega), ee 113 (by omega) (by omega) (by omega), ee 114 (by omega) (by omega) (by omega), h2]
              exact u
            · unfold iJ3
              rw [h115, if_pos rfl, ee 118 (by omega) (by omega) (by omega), h4]
              refine ⟨by omega, by omega, fun q => by omega, fun q => by omega, fun q => by omega, w6, w7, fun q => by omega⟩
          · refine iJ.of (iJ0 i hi) (hr _ (by unfold rel; omega) (by omega) (by omega)) (fun a q1 q2 => ?_) h2 h4
            by_cases c9 : a = 115
            · subst c9
              rw [h115, if_neg c]
            · exact e a (by unfold rel; omega) c9 (by omega) i
        · intro p hh hp hn h3h
          rw [h2] at hp
          rw [h4] at hn
          rw [hr (31 + p) (by unfold rel; omega) (by omega) (by omega), hr 106 (by unfold rel; omega) (by omega) (by omega), iR0 p hh hp hn h3h]
          congr 1
          refine sm_congr (fun i hi => ?_)
          rw [Nat.zero_add]
          unfold oc
          rw [h115, e 116 (by unfold rel; omega) (by omega) (by omega), e 117 (by unfold rel; omega) (by omega) (by omega), e 111 (by unfold rel; omega) (by omega) (by omega)]
          by_cases c : i = j
          · subst c
            rw [if_neg (by omega), if_neg (by rw [if_pos rfl]; omega)]
          · rw [if_neg c]
        · intro o ho
          rw [hr 3 (by unfold rel; omega) (by omega) (by omega), iD0 o ho]
          refine sm_congr (fun i hi => ?_)
          rw [Nat.zero_add]
          unfold dl
          rw [h115, e 109 (by unfold rel; omega) (by omega) (by omega), e 117 (by unfold rel; omega) (by omega) (by omega), e 112 (by unfold rel; omega) (by omega) (by omega)]
          by_cases c : i = j
          · subst c
            rw [if_neg (by omega), if_neg (by rw [if_pos rfl]; omega)]
          · rw [if_neg c]
    · have t1 : f_X5_troubleOfDrop G n M (j : Int) = some 4 := by
        unfold f_X5_troubleOfDrop
        try simp (disch := (first | omega | (simp (disch := omega) only [ga_st_self, ga_st_id, ga_st_ix] <;> omega) | skip)) only [↓gb_of, ↓gb2_of, ↓gb3_of, ↓gB_eq, ↓gg_pos, ↓if_pos, ↓if_neg, ↓b_wi1, ↓b_wi0, ↓b_has1, ↓b_has0, ↓b_in1, ↓b_in0, ↓b_pl1, ↓b_pl0, ↓b_jm1, ↓b_jm0, ↓b_jc1, ↓b_jc0, ↓b_size, ↓b_get, ↓b_ref, ↓b_den, ↓b_gra, ↓b_don]
        try simp only [Int.toNat_natCast, tn300, tn4, Nat.reduceMul, Nat.reduceAdd]
        simp only [g6]
        try simp (disch := (first | omega | (simp (disch := omega) only [ga_st_self, ga_st_id, ga_st_ix] <;> omega) | skip)) only [↓gb_of, ↓gb2_of, ↓gb3_of, ↓gB_eq, ↓gg_pos, ↓if_pos, ↓if_neg, ↓b_wi1, ↓b_wi0, ↓b_has1, ↓b_has0, ↓b_in1, ↓b_in0, ↓b_pl1, ↓b_pl0, ↓b_jm1, ↓b_jm0, ↓b_jc1, ↓b_jc0, ↓b_size, ↓b_get, ↓b_ref, ↓b_den, ↓b_gra, ↓b_don]
      refine ⟨0, ga_st M 0 10 4, ga_st (ga_st (ga_st M 0 10 4) 100 0 0) 100 1 4, ?_, ?_, h.sc (by unfold iA; simp [ga_st]; try omega) (by intro a ha; unfold rel at ha; simp (disch := omega) only [ga_st_row]) (by simp [ga_st]) (by simp [ga_st]) (by simp [ga_st]) (by simp [ga_st])⟩
      · unfold f_X5_drop
        rw [gb_eq t1]
        try simp (disch := (first | omega | (simp (disch := omega) only [ga_st_self, ga_st_id, ga_st_ix] <;> omega) | skip)) only [↓gb_of, ↓gb2_of, ↓gb3_of, ↓gB_eq, ↓gg_pos, ↓if_pos, ↓if_neg, ↓b_wi1, ↓b_wi0, ↓b_has1, ↓b_has0, ↓b_in1, ↓b_in0, ↓b_pl1, ↓b_pl0, ↓b_jm1, ↓b_jm0, ↓b_jc1, ↓b_jc0, ↓b_size, ↓b_get, ↓b_ref, ↓b_den, ↓b_gra, ↓b_don]
      · unfold f_X6_drop
        try simp only [Int.toNat_natCast, tn300, tn4, Nat.reduceMul, Nat.reduceAdd]
        try simp (disch := (first | omega | (simp (disch := omega) only [ga_st_self, ga_st_id, ga_st_ix] <;> omega) | skip)) only [↓gb_of, ↓gb2_of, ↓gb3_of, ↓gB_eq, ↓gg_pos, ↓if_pos, ↓if_neg, ↓b_wi1, ↓b_wi0, ↓b_has1, ↓b_has0, ↓b_in1, ↓b_in0, ↓b_pl1, ↓b_pl0, ↓b_jm1, ↓b_jm0, ↓b_jc1, ↓b_jc0, ↓b_size, ↓b_get, ↓b_ref, ↓b_den, ↓b_gra, ↓b_don]
  · have t1 : f_X5_troubleOfDrop G n M v1 = some 1 := by
      unfold f_X5_troubleOfDrop
      try simp (disch := (first | omega | (simp (disch := omega) only [ga_st_self, ga_st_id, ga_st_ix] <;> omega) | skip)) only [↓gb_of, ↓gb2_of, ↓gb3_of, ↓gB_eq, ↓gg_pos, ↓if_pos, ↓if_neg, ↓b_wi1, ↓b_wi0, ↓b_has1, ↓b_has0, ↓b_in1, ↓b_in0, ↓b_pl1, ↓b_pl0, ↓b_jm1, ↓b_jm0, ↓b_jc1, ↓b_jc0, ↓b_size, ↓b_get, ↓b_ref, ↓b_den, ↓b_gra, ↓b_don]
    refine ⟨0, ga_st M 0 10 1, ga_st (ga_st (ga_st M 0 10 1) 100 0 0) 100 1 1, ?_, ?_, h.sc (by unfold iA; simp [ga_st]; try omega) (by intro a ha; unfold rel at ha; simp (disch := omega) only [ga_st_row]) (by simp [ga_st]) (by simp [ga_st]) (by simp [ga_st]) (by simp [ga_st])⟩
    · unfold f_X5_drop
      rw [gb_eq t1]
      try simp (disch := (first | omega | (simp (disch := omega) only [ga_st_self, ga_st_id, ga_st_ix] <;> omega) | skip)) only [↓gb_of, ↓gb2_of, ↓gb3_of, ↓gB_eq, ↓gg_pos, ↓if_pos, ↓if_neg, ↓b_wi1, ↓b_wi0, ↓b_has1, ↓b_has0, ↓b_in1, ↓b_in0, ↓b_pl1, ↓b_pl0, ↓b_jm1, ↓b_jm0, ↓b_jc1, ↓b_jc0, ↓b_size, ↓b_get, ↓b_ref, ↓b_den, ↓b_gra, ↓b_don]
    · unfold f_X6_drop
      try simp (disch := (first | omega | (simp (disch := omega) only [ga_st_self, ga_st_id, ga_st_ix] <;> omega) | skip)) only [↓gb_of, ↓gb2_of, ↓gb3_of, ↓gB_eq, ↓gg_pos, ↓if_pos, ↓if_neg, ↓b_wi1, ↓b_wi0, ↓b_has1, ↓b_has0, ↓b_in1, ↓b_in0, ↓b_pl1, ↓b_pl0, ↓b_jm1, ↓b_jm0, ↓b_jc1, ↓b_jc0, ↓b_size, ↓b_get, ↓b_ref, ↓b_den, ↓b_gra, ↓b_don]
theorem e_fare {v1 v2 v3 : Int} (h : Inv n M) (hv1 : ok v1) (hv2 : ok v2) (hv3 : ok v3) : ∃ r Mc Mm, f_X5_fare G n M v1 v2 v3 = some (r, Mc) ∧ f_X6_fare G n Mc v1 v2 v3 = some (r, Mm) ∧ Inv n Mm := by
  obtain ⟨a1, a2, a3, a4, a5, a6, a7, a8, a9, a10, a11, a12, a13, a14, a15⟩ := h.1
  have rj : ∀ t : Int, 0 ≤ t ∧ t ≤ 4 → ¬ t = 0 → f_X5_troubleOfFare G n M v1 v2 v3 = some t → f_X5_fare G n M v1 v2 v3 = some (0, ga_st M 0 10 t) := by
    intro t ht h0 e
    unfold f_X5_fare
    rw [gb_eq e]
    try simp (disch := (first | omega | (simp (disch := omega) only [ga_st_self, ga_st_id, ga_st_ix] <;> omega) | skip)) only [↓gb_of, ↓gb2_of, ↓gb3_of, ↓gB_eq, ↓gg_pos, ↓if_pos, ↓if_neg, ↓b_wi1, ↓b_wi0, ↓b_has1, ↓b_has0, ↓b_in1, ↓b_in0, ↓b_pl1, ↓b_pl0, ↓b_jm1, ↓b_jm0, ↓b_jc1, ↓b_jc0, ↓b_size, ↓b_get, ↓b_ref, ↓b_den, ↓b_gra, ↓b_don]
  by_cases c1 : 0 ≤ v1 ∧ v1 < M 100 2
  · by_cases c2 : 0 ≤ v2 ∧ v2 < M 100 2
    · by_cases c3 : v1 = v2
      · have t1 : f_X5_troubleOfFare G n M v1 v2 v3 = some 1 := by
          unfold f_X5_troubleOfFare
          try simp (disch := (first | omega | (simp (disch := omega) only [ga_st_self, ga_st_id, ga_st_ix] <;> omega) | skip)) only [↓gb_of, ↓gb2_of, ↓gb3_of, ↓gB_eq, ↓gg_pos, ↓if_pos, ↓if_neg, ↓b_wi1, ↓b_wi0, ↓b_has1, ↓b_has0, ↓b_in1, ↓b_in0, ↓b_pl1, ↓b_pl0, ↓b_jm1, ↓b_jm0, ↓b_jc1, ↓b_jc0, ↓b_size, ↓b_get, ↓b_ref, ↓b_den, ↓b_gra, ↓b_don]
        refine ⟨0, ga_st M 0 10 1, ga_st (ga_st (ga_st M 0 10 1) 100 0 0) 100 1 1, rj 1 (by omega) (by omega) t1, ?_, h.sc (by unfold iA; simp [ga_st]; try omega) (by intro a ha; unfold rel at ha; simp (disch := omega) only [ga_st_row]) (by simp [ga_st]) (by simp [ga_st]) (by simp [ga_st]) (by simp [ga_st])⟩
        unfold f_X6_fare
        try simp (disch := (first | omega | (simp (disch := omega) only [ga_st_self, ga_st_id, ga_st_ix] <;> omega) | skip)) only [↓gb_of, ↓gb2_of, ↓gb3_of, ↓gB_eq, ↓gg_pos, ↓if_pos, ↓if_neg, ↓b_wi1, ↓b_wi0, ↓b_has1, ↓b_has0, ↓b_in1, ↓b_in0, ↓b_pl1, ↓b_pl0, ↓b_jm1, ↓b_jm0, ↓b_jc1, ↓b_jc0, ↓b_size, ↓b_get, ↓b_ref, ↓b_den, ↓b_gra, ↓b_don]
      · by_cases c4 : 0 ≤ v3 ∧ v3 ≤ 99
        · obtain ⟨a, rfl⟩ : ∃ a : Nat, v1 = (a : Int) := ⟨v1.toNat, by omega⟩
          obtain ⟨b, rfl⟩ : ∃ b : Nat, v2 = (b : Int) := ⟨v2.toNat, by omega⟩
          have hab : a ≠ b := by omega
          have t1 : f_X5_troubleOfFare G n M (a : Int) (b : Int) v3 = some 0 := by
            unfold f_X5_troubleOfFare
            try simp (disch := (first | omega | (simp (disch := omega) only [ga_st_self, ga_st_id, ga_st_ix] <;> omega) | skip)) only [↓gb_of, ↓gb2_of, ↓gb3_of, ↓gB_eq, ↓gg_pos, ↓if_pos, ↓if_neg, ↓b_wi1, ↓b_wi0, ↓b_has1, ↓b_has0, ↓b_in1, ↓b_in0, ↓b_pl1, ↓b_pl0, ↓b_jm1, ↓b_jm0, ↓b_jc1, ↓b_jc0, ↓b_size, ↓b_get, ↓b_ref, ↓b_den, ↓b_gra, ↓b_don]
          refine ⟨1, ga_st (ga_st (ga_st M 0 10 0) (11 + a) b v3) (11 + b) a v3, ga_st (ga_st (ga_st (ga_st (ga_st (ga_st (ga_st M 0 10 0) (11 + a) b v3) (11 + b) a v3) 100 0 0) 107 (4 * a + b) v3) 107 (4 * b + a) v3) 100 1 0, ?_, ?_, ?_⟩
          · unfold f_X5_fare
            rw [gb_eq t1]
            try simp only [Int.toNat_natCast, tn300, tn4, Nat.reduceMul, Nat.reduceAdd]
            try simp (disch := (first | omega | (simp (disch := omega) only [ga_st_self, ga_st_id, ga_st_ix] <;> omega) | skip)) only [↓gb_of, ↓gb2_of, ↓gb3_of, ↓gB_eq, ↓gg_pos, ↓if_pos, ↓if_neg, ↓b_wi1, ↓b_wi0, ↓b_has1, ↓b_has0, ↓b_in1, ↓b_in0, ↓b_pl1, ↓b_pl0, ↓b_jm1, ↓b_jm0, ↓b_jc1, ↓b_jc0, ↓b_size, ↓b_get, ↓b_ref, ↓b_den, ↓b_gra, ↓b_don]
          · unfold f_X6_fare
            try simp only [Int.toNat_natCast, tn300, tn4, Nat.reduceMul, Nat.reduceAdd]
            try simp (disch := (first | omega | (simp (disch := omega) only [ga_st_self, ga_st_id, ga_st_ix] <;> omega) | skip)) only [↓gb_of, ↓gb2_of, ↓gb3_of, ↓gB_eq, ↓gg_pos, ↓if_pos, ↓if_neg, ↓b_wi1, ↓b_wi0, ↓b_has1, ↓b_has0, ↓b_in1, ↓b_in0, ↓b_pl1, ↓b_pl0, ↓b_jm1, ↓b_jm0, ↓b_jc1, ↓b_jc0, ↓b_size, ↓b_get, ↓b_ref, ↓b_den, ↓b_gra, ↓b_don]
          · obtain ⟨iA0, iB0, iG0, iJ0, iR0, iD0, iL0⟩ := id h
            have hP : M 100 2 ≤ 4 := iA0.2.2.1
            obtain ⟨b1, b2, b3, b4⟩ := iB0
            have hr : ∀ x, rel x → (x < 11 ∨ 14 < x) → x ≠ 107 → ga_st (ga_st (ga_st (ga_st (ga_st (ga_st (ga_st M 0 10 0) (11 + a) b v3) (11 + b) a v3) 100 0 0) 107 (4 * a + b) v3) 107 (4 * b + a) v3) 100 1 0 x = M x := by
              intro x hx q1 q2
              unfold rel at hx
              simp (disch := omega) only [ga_st_row]
            have hf : ∀ x y, x < 4 → ga_st (ga_st (ga_st (ga_st (ga_st (ga_st (ga_st M 0 10 0) (11 + a) b v3) (11 + b) a v3) 100 0 0) 107 (4 * a + b) v3) 107 (4 * b + a) v3) 100 1 0 (11 + x) y = if (x = a ∧ y = b) ∨ (x = b ∧ y = a) then v3 else M (11 + x) y := by
              intro x y hx
              rw [ga_st_id (by omega), ga_st_id (by omega), ga_st_id (by omega), ga_st_id (by omega)]
              unfold ga_st
              by_cases q1 : x = b ∧ y = a
              · rw [if_pos (by omega), if_pos (Or.inr q1)]
              · rw [if_neg (by omega)]
                by_cases q2 : x = a ∧ y = b
                · rw [if_pos (by omega), if_pos (Or.inl q2)]
                · rw [if_neg (by omega), if_neg (by omega), if_neg (by omega)]
            have hm : ∀ x y, x < 4 → y < 4 → ga_st (ga_st (ga_st (ga_st (ga_st (ga_st (ga_st M 0 10 0) (11 + a) b v3) (11 + b) a v3) 100 0 0) 107 (4 * a + b) v3) 107 (4 * b + a) v3) 100 1 0 107 (4 * x + y) = if (x = a ∧ y = b) ∨ (x = b ∧ y = a) then v3 else M 107 (4 * x + y) := by
              intro x y hx hy
              rw [ga_st_id (by omega)]
              by_cases q1 : x = b ∧ y = a
              · obtain ⟨rfl, rfl⟩ := q1
                rw [ga_st_self, if_pos (Or.inr ⟨rfl, rfl⟩)]
              · rw [ga_st_ix (by omega)]
                by_cases q2 : x = a ∧ y = b
                · obtain ⟨rfl, rfl⟩ := q2
                  rw [ga_st_self, if_pos (Or.inl ⟨rfl, rfl⟩)]
                · rw [ga_st_ix (by omega), if_neg (by omega), ga_st_id (by omega), ga_st_id (by omega), ga_st_id (by omega), ga_st_id (by omega)]
            have hs : ∀ k, k ≠ 0 → k ≠ 1 → ga_st (ga_st (ga_st (ga_st (ga_st (ga_st (ga_st M 0 10 0) (11 + a) b v3) (11 + b) a v3) 100 0 0) 107 (4 * a + b) v3) 107 (4 * b + a) v3) 100 1 0 100 k = M 100 k := by
              intro k k0 k1
              rw [ga_st_ix (by omega), ga_st_id (by omega), ga_st_id (by omega), ga_st_ix (by omega), ga_st_id (by omega), ga_st_id (by omega), ga_st_id (by omega)]
            have h44 : ga_st (ga_st (ga_st (ga_st (ga_st (ga_st (ga_st M 0 10 0) (11 + a) b v3) (11 + b) a v3) 100 0 0) 107 (4 * a + b) v3) 107 (4 * b + a) v3) 100 1 0 4 4 = M 4 4 := by
              simp (disch := omega) only [ga_st_id]
            have hA' : iA n (ga_st (ga_st (ga_st (ga_st (ga_st (ga_st (ga_st M 0 10 0) (11 + a) b v3) (11 + b) a v3) 100 0 0) 107 (4 * a + b) v3) 107 (4 * b + a) v3) 100 1 0) := by
              unfold iA
              simp (disch := omega) only [ga_st_self, ga_st_id, ga_st_ix, true_and]
              omega
            generalize ga_st (ga_st (ga_st (ga_st (ga_st (ga_st (ga_st M 0 10 0) (11 + a) b v3) (11 + b) a v3) 100 0 0) 107 (4 * a + b) v3) 107 (4 * b + a) v3) 100 1 0 = M' at hr hf hm hs h44 hA' ⊢
            have e : ∀ x, rel x → (x < 11 ∨ 14 < x) → x ≠ 107 → ∀ y, M' x y = M x y := fun x q1 q2 q3 y => by rw [hr x q1 q2 q3]
            have h2 := hs 2 (by omega) (by omega)
            have h4 := hs 4 (by omega) (by omega)
            refine ⟨hA', ⟨fun x y hx hy => ?_, fun x y hx hy => ?_, fun x y hx hy q => ?_, fun x hx => ?_⟩, iG0.of (fun x hx => hr _ (by unfold rel; omega) (by omega) (by omega)) (hr _ (by unfold rel; omega) (by omega) (by omega)) (hr _ (by unfold rel; omega) (by omega) (by omega)) h2 hP, fun i hi => iJ.of (iJ0 i hi) (hr _ (by unfold rel; omega) (by omega) (by omega)) (fun x q1 q2 => e x (by unfold rel; omega) (by omega) (by omega) i) h2 h4, iR0.of (fun x hx => hr _ (by unfold rel; omega) (by omega) (by omega)) (hr _ (by unfold rel; omega) (by omega) (by omega)) (fun i hi => ⟨e _ (by unfold rel; omega) (by omega) (by omega) i, e _ (by unfold rel; omega) (by omega) (by omega) i, e _ (by unfold rel; omega) (by omega) (by omega) i, e _ (by unfold rel; omega) (by omega) (by omega) i⟩) h2 h4 hP, iD0.of (hr _ (by unfold rel; omega) (by omega) (by omega)) (fun i hi => ⟨e _ (by unfold rel; omega) (by omega) (by omega) i, e _ (by unfold rel; omega) (by omega) (by omega) i, e _ (by unfold rel; omega) (by omega) (by omega) i, e _ (by unfold rel; omega) (by omega) (by omega) i⟩), iL0.of (hs 29 (by omega) (by omega)) h44 (hr _ (by unfold rel; omega) (by omega) (by omega)) (hr _ (by unfold rel; omega) (by omega) (by omega)) (hr _ (by unfold rel; omega) (by omega) (by omega)) (hr _ (by unfold rel; omega) (by omega) (by omega)) (hr _ (by unfold rel; omega) (by omega) (by omega)) (hr _ (by unfold rel; omega) (by omega) (by omega))⟩
            · rw [h2] at hx hy
              rw [hf x y (by omega), hm x y (by omega) (by omega), b1 x y hx hy]
            · rw [hm x y hx hy]
              split
              · omega
              · exact b2 x y hx hy
            · rw [h2] at q
              rw [hm x y hx hy, if_neg (by omega)]
              exact b3 x y hx hy q
            · rw [hf x x hx, if_neg (by omega)]
              exact b4 x hx
        · have t1 : f_X5_troubleOfFare G n M v1 v2 v3 = some 2 := by
            unfold f_X5_troubleOfFare
            try simp (disch := (first | omega | (simp (disch := omega) only [ga_st_self, ga_st_id, ga_st_ix] <;> omega) | skip)) only [↓gb_of, ↓gb2_of, ↓gb3_of, ↓gB_eq, ↓gg_pos, ↓if_pos, ↓if_neg, ↓b_wi1, ↓b_wi0, ↓b_has1, ↓b_has0, ↓b_in1, ↓b_in0, ↓b_pl1, ↓b_pl0, ↓b_jm1, ↓b_jm0, ↓b_jc1, ↓b_jc0, ↓b_size, ↓b_get, ↓b_ref, ↓b_den, ↓b_gra, ↓b_don]
          refine ⟨0, ga_st M 0 10 2, ga_st (ga_st (ga_st M 0 10 2) 100 0 0) 100 1 2, rj 2 (by omega) (by omega) t1, ?_, h.sc (by unfold iA; simp [ga_st]; try omega) (by intro a ha; unfold rel at ha; simp (disch := omega) only [ga_st_row]) (by simp [ga_st]) (by simp [ga_st]) (by simp [ga_st]) (by simp [ga_st])⟩
          unfold f_X6_fare
          try simp (disch := (first | omega | (simp (disch := omega) only [ga_st_self, ga_st_id, ga_st_ix] <;> omega) | skip)) only [↓gb_of, ↓gb2_of, ↓gb3_of, ↓gB_eq, ↓gg_pos, ↓if_pos, ↓if_neg, ↓b_wi1, ↓b_wi0, ↓b_has1, ↓b_has0, ↓b_in1, ↓b_in0, ↓b_pl1, ↓b_pl0, ↓b_jm1, ↓b_jm0, ↓b_jc1, ↓b_jc0, ↓b_size, ↓b_get, ↓b_ref, ↓b_den, ↓b_gra, ↓b_don]
    · have t1 : f_X5_troubleOfFare G n M v1 v2 v3 = some 1 := by
        unfold f_X5_troubleOfFare
        try simp (disch := (first | omega | (simp (disch := omega) only [ga_st_self, ga_st_id, ga_st_ix] <;> omega) | skip)) only [↓gb_of, ↓gb2_of, ↓gb3_of, ↓gB_eq, ↓gg_pos, ↓if_pos, ↓if_neg, ↓b_wi1, ↓b_wi0, ↓b_has1, ↓b_has0, ↓b_in1, ↓b_in0, ↓b_pl1, ↓b_pl0, ↓b_jm1, ↓b_jm0, ↓b_jc1, ↓b_jc0, ↓b_size, ↓b_get, ↓b_ref, ↓b_den, ↓b_gra, ↓b_don]
      refine ⟨0, ga_st M 0 10 1, ga_st (ga_st (ga_st M 0 10 1) 100 0 0) 100 1 1, rj 1 (by omega) (by omega) t1, ?_, h.sc (by unfold iA; simp [ga_st]; try omega) (by intro a ha; unfold rel at ha; simp (disch := omega) only [ga_st_row]) (by simp [ga_st]) (by simp [ga_st]) (by simp [ga_st]) (by simp [ga_st])⟩
      unfold f_X6_fare
      try simp (disch := (first | omega | (simp (disch := omega) only [ga_st_self, ga_st_id, ga_st_ix] <;> omega) | skip)) only [↓gb_of, ↓gb2_of, ↓gb3_of, ↓gB_eq, ↓gg_pos, ↓if_pos, ↓if_neg, ↓b_wi1, ↓b_wi0, ↓b_has1, ↓b_has0, ↓b_in1, ↓b_in0, ↓b_pl1, ↓b_pl0, ↓b_jm1, ↓b_jm0, ↓b_jc1, ↓b_jc0, ↓b_size, ↓b_get, ↓b_ref, ↓b_den, ↓b_gra, ↓b_don]
  · have t1 : f_X5_troubleOfFare G n M v1 v2 v3 = some 1 := by
      unfold f_X5_troubleOfFare
      try simp (disch := (first | omega | (simp (disch := omega) only [ga_st_self, ga_st_id, ga_st_ix] <;> omega) | skip)) only [↓gb_of, ↓gb2_of, ↓gb3_of, ↓gB_eq, ↓gg_pos, ↓if_pos, ↓if_neg, ↓b_wi1, ↓b_wi0, ↓b_has1, ↓b_has0, ↓b_in1, ↓b_in0, ↓b_pl1, ↓b_pl0, ↓b_jm1, ↓b_jm0, ↓b_jc1, ↓b_jc0, ↓b_size, ↓b_get, ↓b_ref, ↓b_den, ↓b_gra, ↓b_don]
    refine ⟨0, ga_st M 0 10 1, ga_st (ga_st (ga_st M 0 10 1) 100 0 0) 100 1 1, rj 1 (by omega) (by omega) t1, ?_, h.sc (by unfold iA; simp [ga_st]; try omega) (by intro a ha; unfold rel at ha; simp (disch := omega) only [ga_st_row]) (by simp [ga_st]) (by simp [ga_st]) (by simp [ga_st]) (by simp [ga_st])⟩
    unfold f_X6_fare
    try simp (disch := (first | omega | (simp (disch := omega) only [ga_st_self, ga_st_id, ga_st_ix] <;> omega) | skip)) only [↓gb_of, ↓gb2_of, ↓gb3_of, ↓gB_eq, ↓gg_pos, ↓if_pos, ↓if_neg, ↓b_wi1, ↓b_wi0, ↓b_has1, ↓b_has0, ↓b_in1, ↓b_in0, ↓b_pl1, ↓b_pl0, ↓b_jm1, ↓b_jm0, ↓b_jc1, ↓b_jc0, ↓b_size, ↓b_get, ↓b_ref, ↓b_den, ↓b_gra, ↓b_don]
end M3
section M4
variable {n G : Nat} {M : gaM}
def str (f : Nat → Int) (a k : Nat) (v : Int) : Nat → Int := fun x => if a ≤ x ∧ x < a + k then v else f x
theorem str_zero {f : Nat → Int} {a : Nat} {v : Int} : str f a 0 v = f := by
  funext x
  unfold str
  rw [if_neg (by omega)]
theorem str_first {f : Nat → Int} {a k : Nat} {v : Int} : str (upr f a v) (a + 1) k v = str f a (k + 1) v := by
  funext x
  unfold str upr
  by_cases h : x = a
  · subst h
    rw [if_neg (by omega), if_pos rfl, if_pos (by omega)]
  · simp only [h, if_false]
    by_cases h2 : a + 1 ≤ x ∧ x < a + 1 + k
    · rw [if_pos h2, if_pos (by omega)]
    · rw [if_neg h2, if_neg (by omega)]
theorem p_greenC_l {p : Nat} {v3 v : Int} (hp : p < 4) (h3 : ok v3) : ∀ (k x F : Nat) (M : gaM), (x : Int) + k = v3 + 1 → v3 < 300 → k < F → l_X5_green_25 G n F M (p : Int) v3 v (x : Int) = some (setr M (21 + p) (str (M (21 + p)) x k v)) := by
  intro k
  induction k with
  | zero =>
    intro x F M hx h9 hF
    obtain ⟨F, rfl⟩ : ∃ F1, F = F1 + 1 := ⟨F - 1, by omega⟩
    rw [l_X5_green_25]
    try simp only [Int.toNat_natCast, tn300, tn4, Nat.reduceMul, Nat.reduceAdd]
    try simp (disch := (first | omega | (simp (disch := omega) only [ga_st_self, ga_st_id, ga_st_ix] <;> omega) | skip)) only [↓gb_of, ↓gb2_of, ↓gb3_of, ↓gB_eq, ↓gg_pos, ↓if_pos, ↓if_neg, ↓b_wi1, ↓b_wi0, ↓b_has1, ↓b_has0, ↓b_in1, ↓b_in0, ↓b_pl1, ↓b_pl0, ↓b_jm1, ↓b_jm0, ↓b_jc1, ↓b_jc0, ↓b_size, ↓b_get, ↓b_ref, ↓b_den, ↓b_gra, ↓b_don]
    rw [str_zero, setr_id]
  | succ k ih =>
    intro x F M hx h9 hF
    obtain ⟨F, rfl⟩ : ∃ F1, F = F1 + 1 := ⟨F - 1, by omega⟩
    rw [l_X5_green_25]
    try simp only [Int.toNat_natCast, tn300, tn4, Nat.reduceMul, Nat.reduceAdd]
    try simp (disch := (first | omega | (simp (disch := omega) only [ga_st_self, ga_st_id, ga_st_ix] <;> omega) | skip)) only [↓gb_of, ↓gb2_of, ↓gb3_of, ↓gB_eq, ↓gg_pos, ↓if_pos, ↓if_neg, ↓b_wi1, ↓b_wi0, ↓b_has1, ↓b_has0, ↓b_in1, ↓b_in0, ↓b_pl1, ↓b_pl0, ↓b_jm1, ↓b_jm0, ↓b_jc1, ↓b_jc0, ↓b_size, ↓b_get, ↓b_ref, ↓b_den, ↓b_gra, ↓b_don]
    rw [show ((x : Int) + 1) = ((x + 1 : Nat) : Int) from rfl, ih (x + 1) F _ (by omega) h9 (by omega), st_setr, setr_setr, setr_self, str_first]
theorem p_greenM_l {p : Nat} {v3 v : Int} (hp : p < 4) (h3 : ok v3) : ∀ (k x F : Nat) (M : gaM), (x : Int) + k = v3 + 1 → v3 < 300 → k < F → l_X6_green_60 G n F M (p : Int) v3 v (x : Int) = some (setr M 108 (str (M 108) (300 * p + x) k v)) := by
  intro k
  induction k with
  | zero =>
    intro x F M hx h9 hF
    obtain ⟨F, rfl⟩ : ∃ F1, F = F1 + 1 := ⟨F - 1, by omega⟩
    rw [l_X6_green_60]
    try simp only [Int.toNat_natCast, tn300, tn4, Nat.reduceMul, Nat.reduceAdd]
    try simp (disch := (first | omega | (simp (disch := omega) only [ga_st_self, ga_st_id, ga_st_ix] <;> omega) | skip)) only [↓gb_of, ↓gb2_of, ↓gb3_of, ↓gB_eq, ↓gg_pos, ↓if_pos, ↓if_neg, ↓b_wi1, ↓b_wi0, ↓b_has1, ↓b_has0, ↓b_in1, ↓b_in0, ↓b_pl1, ↓b_pl0, ↓b_jm1, ↓b_jm0, ↓b_jc1, ↓b_jc0, ↓b_size, ↓b_get, ↓b_ref, ↓b_den, ↓b_gra, ↓b_don]
    rw [str_zero, setr_id]
  | succ k ih =>
    intro x F M hx h9 hF
    obtain ⟨F, rfl⟩ : ∃ F1, F = F1 + 1 := ⟨F - 1, by omega⟩
    rw [l_X6_green_60]
    try simp only [Int.toNat_natCast, tn300, tn4, Nat.reduceMul, Nat.reduceAdd]
    try simp (disch := (first | omega | (simp (disch := omega) only [ga_st_self, ga_st_id, ga_st_ix] <;> omega) | skip)) only [↓gb_of, ↓gb2_of, ↓gb3_of, ↓gB_eq, ↓gg_pos, ↓if_pos, ↓if_neg, ↓b_wi1, ↓b_wi0, ↓b_has1, ↓b_has0, ↓b_in1, ↓b_in0, ↓b_pl1, ↓b_pl0, ↓b_jm1, ↓b_jm0, ↓b_jc1, ↓b_jc0, ↓b_size, ↓b_get, ↓b_ref, ↓b_den, ↓b_gra, ↓b_don]
    rw [show ((x : Int) + 1) = ((x + 1 : Nat) : Int) from rfl, ih (x + 1) F _ (by omega) h9 (by omega), st_setr, setr_setr, setr_self, show 300 * p + (x + 1) = 300 * p + x + 1 by omega, str_first]
theorem e_green {v1 v2 v3 v4 : Int} (hG : 5000 ≤ G) (h : Inv n M) (hv1 : ok v1) (hv2 : ok v2) (hv3 : ok v3) (hv4 : ok v4) : ∃ r Mc Mm, f_X5_green G n M v1 v2 v3 v4 = some (r, Mc) ∧ f_X6_green G n Mc v1 v2 v3 v4 = some (r, Mm) ∧ Inv n Mm := by
  obtain ⟨a1, a2, a3, a4, a5, a6, a7, a8, a9, a10, a11, a12, a13, a14, a15⟩ := h.1
  have rj : ∀ t : Int, 0 ≤ t ∧ t ≤ 4 → ¬ t = 0 → f_X5_troubleOfGreen G n M v1 v2 v3 v4 = some t → f_X5_green G n M v1 v2 v3 v4 = some (0, ga_st M 0 10 t) := by
    intro t ht h0 e
    unfold f_X5_green
    rw [gb_eq e]
    try simp (disch := (first | omega | (simp (disch := omega) only [ga_st_self, ga_st_id, ga_st_ix] <;> omega) | skip)) only [↓gb_of, ↓gb2_of, ↓gb3_of, ↓gB_eq, ↓gg_pos, ↓if_pos, ↓if_neg, ↓b_wi1, ↓b_wi0, ↓b_has1, ↓b_has0, ↓b_in1, ↓b_in0, ↓b_pl1, ↓b_pl0, ↓b_jm1, ↓b_jm0, ↓b_jc1, ↓b_jc0, ↓b_size, ↓b_get, ↓b_ref, ↓b_den, ↓b_gra, ↓b_don]
  by_cases c1 : 0 ≤ v1 ∧ v1 < M 100 2
  · by_cases c2 : M 100 4 ≤ v2 ∧ v2 ≤ v3 ∧ v3 ≤ 299
    · by_cases c4 : 0 ≤ v4 ∧ v4 ≤ 999
      · obtain ⟨p, rfl⟩ : ∃ p : Nat, v1 = (p : Int) := ⟨v1.toNat, by omega⟩
        obtain ⟨x, rfl⟩ : ∃ x : Nat, v2 = (x : Int) := ⟨v2.toNat, by omega⟩
        obtain ⟨k, hk⟩ : ∃ k : Nat, (x : Int) + k = v3 + 1 := ⟨(v3 + 1 - x).toNat, by omega⟩
        have t1 : f_X5_troubleOfGreen G n M (p : Int) (x : Int) v3 v4 = some 0 := by
          unfold f_X5_troubleOfGreen
          try simp (disch := (first | omega | (simp (disch := omega) only [ga_st_self, ga_st_id, ga_st_ix] <;> omega) | skip)) only [↓gb_of, ↓gb2_of, ↓gb3_of, ↓gB_eq, ↓gg_pos, ↓if_pos, ↓if_neg, ↓b_wi1, ↓b_wi0, ↓b_has1, ↓b_has0, ↓b_in1, ↓b_in0, ↓b_pl1, ↓b_pl0, ↓b_jm1, ↓b_jm0, ↓b_jc1, ↓b_jc0, ↓b_size, ↓b_get, ↓b_ref, ↓b_den, ↓b_gra, ↓b_don]
        have e1 := p_greenC_l (G := G) (n := n) (p := p) (v3 := v3) (v := v4) (by omega) hv3 k x G (ga_st M 0 10 0) hk (by omega) (by omega)
        rw [ga_st_row _ (by omega)] at e1
        generalize hMc : setr (ga_st M 0 10 0) (21 + p) (str (M (21 + p)) x k v4) = Mc at e1
        have e2 := p_greenM_l (G := G) (n := n) (p := p) (v3 := v3) (v := v4) (by omega) hv3 k x G (ga_st Mc 100 0 0) hk (by omega) (by omega)
        have m108 : ga_st Mc 100 0 0 108 = M 108 := by rw [ga_st_row _ (by omega), ← hMc, setr_ne (by omega), ga_st_row _ (by omega)]
        rw [m108] at e2
        have mr : ∀ a, a ≠ 0 → a ≠ 21 + p → Mc a = M a := fun a q1 q2 => by rw [← hMc, setr_ne q2, ga_st_row _ q1]
        refine ⟨1, Mc, ga_st (setr (ga_st Mc 100 0 0) 108 (str (M 108) (300 * p + x) k v4)) 100 1 0, ?_, ?_, ?_⟩
        · unfold f_X5_green
          rw [gb_eq t1]
          try simp (disch := (first | omega | (simp (disch := omega) only [ga_st_self, ga_st_id, ga_st_ix] <;> omega) | skip)) only [↓gb_of, ↓gb2_of, ↓gb3_of, ↓gB_eq, ↓gg_pos, ↓if_pos, ↓if_neg, ↓b_wi1, ↓b_wi0, ↓b_has1, ↓b_has0, ↓b_in1, ↓b_in0, ↓b_pl1, ↓b_pl0, ↓b_jm1, ↓b_jm0, ↓b_jc1, ↓b_jc0, ↓b_size, ↓b_get, ↓b_ref, ↓b_den, ↓b_gra, ↓b_don]
          rw [gb_eq e1]
        · have r2 := mr 100 (by omega) (by omega)
          unfold f_X6_green
          rw [gB_eq]
          have q2 : ga_st Mc 100 0 0 100 2 = M 100 2 := by rw [ga_st_ix (by decide), r2]
          have q4 : ga_st Mc 100 0 0 100 4 = M 100 4 := by rw [ga_st_ix (by decide), r2]
          try simp (disch := (first | omega | (simp (disch := omega) only [ga_st_self, ga_st_id, ga_st_ix] <;> omega) | skip)) only [↓gb_of, ↓gb2_of, ↓gb3_of, ↓gB_eq, ↓gg_pos, ↓if_pos, ↓if_neg, ↓b_wi1, ↓b_wi0, ↓b_has1, ↓b_has0, ↓b_in1, ↓b_in0, ↓b_pl1, ↓b_pl0, ↓b_jm1, ↓b_jm0, ↓b_jc1, ↓b_jc0, ↓b_size, ↓b_get, ↓b_ref, ↓b_den, ↓b_gra, ↓b_don]
          rw [gb_eq e2]
          try simp (disch := (first | omega | (simp (disch := omega) only [ga_st_self, ga_st_id, ga_st_ix] <;> omega) | skip)) only [↓gb_of, ↓gb2_of, ↓gb3_of, ↓gB_eq, ↓gg_pos, ↓if_pos, ↓if_neg, ↓b_wi1, ↓b_wi0, ↓b_has1, ↓b_has0, ↓b_in1, ↓b_in0, ↓b_pl1, ↓b_pl0, ↓b_jm1, ↓b_jm0, ↓b_jc1, ↓b_jc0, ↓b_size, ↓b_get, ↓b_ref, ↓b_den, ↓b_gra, ↓b_don]
        · obtain ⟨iA0, iB0, iG0, iJ0, iR0, iD0, iL0⟩ := id h
          have hP : M 100 2 ≤ 4 := iA0.2.2.1
          obtain ⟨g1, g2, g3, g4⟩ := iG0
          have hr : ∀ a, rel a → a ≠ 21 + p → a ≠ 108 → ga_st (setr (ga_st Mc 100 0 0) 108 (str (M 108) (300 * p + x) k v4)) 100 1 0 a = M a := by
            intro a ha q1 q2
            unfold rel at ha
            rw [ga_st_row _ (by omega), setr_ne (by omega), ga_st_row _ (by omega), mr a (by omega) q1]
          have hg : ga_st (setr (ga_st Mc 100 0 0) 108 (str (M 108) (300 * p + x) k v4)) 100 1 0 (21 + p) = str (M (21 + p)) x k v4 := by
            rw [ga_st_row _ (by omega), setr_ne (by omega), ga_st_row _ (by omega), ← hMc, setr_self]
          have hm : ga_st (setr (ga_st Mc 100 0 0) 108 (str (M 108) (300 * p + x) k v4)) 100 1 0 108 = str (M 108) (300 * p + x) k v4 := by
            rw [ga_st_row _ (by omega), setr_self]
          have hs : ∀ q, q ≠ 0 → q ≠ 1 → ga_st (setr (ga_st Mc 100 0 0) 108 (str (M 108) (300 * p + x) k v4)) 100 1 0 100 q = M 100 q := by
            intro q k0 k1
            rw [ga_st_ix (by omega), setr_ne (by omega), ga_st_ix (by omega), mr 100 (by omega) (by omega)]
          have hA' : iA n (ga_st (setr (ga_st Mc 100 0 0) 108 (str (M 108) (300 * p + x) k v4)) 100 1 0) := by
            have z0 : ∀ q, ga_st (setr (ga_st Mc 100 0 0) 108 (str (M 108) (300 * p + x) k v4)) 100 1 0 0 q = ga_st M 0 10 0 0 q := fun q => by
              rw [ga_st_id (by omega), setr_ne (by omega), ga_st_id (by omega), ← hMc, setr_ne (by omega)]
            have z1 : ∀ b q, b = 1 ∨ b = 2 → ga_st (setr (ga_st Mc 100 0 0) 108 (str (M 108) (300 * p + x) k v4)) 100 1 0 b q = M b q := fun b q hb => by
              rw [ga_st_id (by omega), setr_ne (by omega), ga_st_id (by omega), mr b (by omega) (by omega)]
            unfold iA
            rw [hs 2 (by omega) (by omega), hs 3 (by omega) (by omega), hs 4 (by omega) (by omega), hs 5 (by omega) (by omega), z0, z0, z0, z1 1 0 (by omega), z1 2 2 (by omega), ga_st_self, ga_st_self, ga_st_ix (by omega), ga_st_ix (by omega)]
            omega
          have h44 : ga_st (setr (ga_st Mc 100 0 0) 108 (str (M 108) (300 * p + x) k v4)) 100 1 0 4 4 = M 4 4 := by
            rw [ga_st_id (by omega), setr_ne (by omega), ga_st_id (by omega), mr 4 (by omega) (by omega)]
          generalize ga_st (setr (ga_st Mc 100 0 0) 108 (str (M 108) (300 * p + x) k v4)) 100 1 0 = M' at hr hg hm hs hA' h44 ⊢
          have e : ∀ x, rel x → x ≠ 21 + p → x ≠ 108 → ∀ y, M' x y = M x y := fun x q1 q2 q3 y => by rw [hr x q1 q2 q3]
          have h2 := hs 2 (by omega) (by omega)
          have h4 := hs 4 (by omega) (by omega)
          refine ⟨hA', iB0.of (fun a ha => hr _ (by unfold rel; omega) (by omega) (by omega)) (hr _ (by unfold rel; omega) (by omega) (by omega)) h2 hP, ⟨fun a y ha hy => ?_, fun a y ha hy => ?_, fun a y ha hy q => ?_, fun a ha => ?_⟩, fun i hi => iJ.of (iJ0 i hi) (hr _ (by unfold rel; omega) (by omega) (by omega)) (fun a q1 q2 => e a (by unfold rel; omega) (by omega) (by omega) i) h2 h4, iR0.of (fun a ha => hr _ (by unfold rel; omega) (by omega) (by omega)) (hr _ (by unfold rel; omega) (by omega) (by omega)) (fun i hi => ⟨e _ (by unfold rel; omega) (by omega) (by omega) i, e _ (by unfold rel; omega) (by omega) (by omega) i, e _ (by unfold rel; omega) (by omega) (by omega) i, e _ (by unfold rel; omega) (by omega) (by omega) i⟩) h2 h4 hP, iD0.of (hr _ (by unfold rel; omega) (by omega) (by omega)) (fun i hi => ⟨e _ (by unfold rel; omega) (by omega) (by omega) i, e _ (by unfold rel; omega) (by omega) (by omega) i, e _ (by unfold rel; omega) (by omega) (by omega) i, e _ (by unfold rel; omega) (by omega) (by omega) i⟩), iL0.of (hs 29 (by omega) (by omega)) h44 (hr _ (by unfold rel; omega) (by omega) (by omega)) (hr _ (by unfold rel; omega) (by omega) (by omega)) (hr _ (by unfold rel; omega) (by omega) (by omega)) (hr _ (by unfold rel; omega) (by omega) (by omega)) (hr _ (by unfold rel; omega) (by omega) (by omega)) (hr _ (by unfold rel; omega) (by omega) (by omega))⟩
          · rw [h2] at ha
            rw [hm]
            by_cases c : a = p
            · subst c
              rw [hg]
              unfold str
              by_cases d : x ≤ y ∧ y < x + k
              · rw [if_pos d, if_pos (by omega)]
              · rw [if_neg d, if_neg (by omega)]
                exact g1 a y ha hy
            · rw [hr (21 + a) (by unfold rel; omega) (by omega) (by omega)]
              unfold str
              rw [if_neg (by omega)]
              exact g1 a y ha hy
          · rw [hm]
            unfold str
            split
            · omega
            · exact g2 a y ha hy
          · rw [h2] at q
            rw [hm]
            unfold str
            rw [if_neg (by omega)]
            exact g3 a y ha hy q
          · rw [h2] at ha
            rw [hr 106 (by unfold rel; omega) (by omega) (by omega)]
            exact g4 a ha
      · have t1 : f_X5_troubleOfGreen G n M v1 v2 v3 v4 = some 2 := by
          unfold f_X5_troubleOfGreen
          try simp (disch := (first | omega | (simp (disch := omega) only [ga_st_self, ga_st_id, ga_st_ix] <;> omega) | skip)) only [↓gb_of, ↓gb2_of, ↓gb3_of, ↓gB_eq, ↓gg_pos, ↓if_pos, ↓if_neg, ↓b_wi1, ↓b_wi0, ↓b_has1, ↓b_has0, ↓b_in1, ↓b_in0, ↓b_pl1, ↓b_pl0, ↓b_jm1, ↓b_jm0, ↓b_jc1, ↓b_jc0, ↓b_size, ↓b_get, ↓b_ref, ↓b_den, ↓b_gra, ↓b_don]
        refine ⟨0, ga_st M 0 10 2, ga_st (ga_st (ga_st M 0 10 2) 100 0 0) 100 1 2, rj 2 (by omega) (by omega) t1, ?_, h.sc (by unfold iA; simp [ga_st]; try omega) (by intro a ha; unfold rel at ha; simp (disch := omega) only [ga_st_row]) (by simp [ga_st]) (by simp [ga_st]) (by simp [ga_st]) (by simp [ga_st])⟩
        unfold f_X6_green
        try simp (disch := (first | omega | (simp (disch := omega) only [ga_st_self, ga_st_id, ga_st_ix] <;> omega) | skip)) only [↓gb_of, ↓gb2_of, ↓gb3_of, ↓gB_eq, ↓gg_pos, ↓if_pos, ↓if_neg, ↓b_wi1, ↓b_wi0, ↓b_has1, ↓b_has0, ↓b_in1, ↓b_in0, ↓b_pl1, ↓b_pl0, ↓b_jm1, ↓b_jm0, ↓b_jc1, ↓b_jc0, ↓b_size, ↓b_get, ↓b_ref, ↓b_den, ↓b_gra, ↓b_don]
    · have t1 : f_X5_troubleOfGreen G n M v1 v2 v3 v4 = some 2 := by
        unfold f_X5_troubleOfGreen
        by_cases d : M 0 9 ≤ v2 ∧ v2 ≤ 299
        · try simp (disch := (first | omega | (simp (disch := omega) only [ga_st_self, ga_st_id, ga_st_ix] <;> omega) | skip)) only [↓gb_of, ↓gb2_of, ↓gb3_of, ↓gB_eq, ↓gg_pos, ↓if_pos, ↓if_neg, ↓b_wi1, ↓b_wi0, ↓b_has1, ↓b_has0, ↓b_in1, ↓b_in0, ↓b_pl1, ↓b_pl0, ↓b_jm1, ↓b_jm0, ↓b_jc1, ↓b_jc0, ↓b_size, ↓b_get, ↓b_ref, ↓b_den, ↓b_gra, ↓b_don]
        · try simp (disch := (first | omega | (simp (disch := omega) only [ga_st_self, ga_st_id, ga_st_ix] <;> omega) | skip)) only [↓gb_of, ↓gb2_of, ↓gb3_of, ↓gB_eq, ↓gg_pos, ↓if_pos, ↓if_neg, ↓b_wi1, ↓b_wi0, ↓b_has1, ↓b_has0, ↓b_in1, ↓b_in0, ↓b_pl1, ↓b_pl0, ↓b_jm1, ↓b_jm0, ↓b_jc1, ↓b_jc0, ↓b_size, ↓b_get, ↓b_ref, ↓b_den, ↓b_gra, ↓b_don]
      refine ⟨0, ga_st M 0 10 2, ga_st (ga_st (ga_st M 0 10 2) 100 0 0) 100 1 2, rj 2 (by omega) (by omega) t1, ?_, h.sc (by unfold iA; simp [ga_st]; try omega) (by intro a ha; unfold rel at ha; simp (disch := omega) only [ga_st_row]) (by simp [ga_st]) (by simp [ga_st]) (by simp [ga_st]) (by simp [ga_st])⟩
      unfold f_X6_green
      by_cases d : M 100 4 ≤ v2
      · by_cases d2 : v2 ≤ v3
        · try simp (disch := (first | omega | (simp (disch := omega) only [ga_st_self, ga_st_id, ga_st_ix] <;> omega) | skip)) only [↓gb_of, ↓gb2_of, ↓gb3_of, ↓gB_eq, ↓gg_pos, ↓if_pos, ↓if_neg, ↓b_wi1, ↓b_wi0, ↓b_has1, ↓b_has0, ↓b_in1, ↓b_in0, ↓b_pl1, ↓b_pl0, ↓b_jm1, ↓b_jm0, ↓b_jc1, ↓b_jc0, ↓b_size, ↓b_get, ↓b_ref, ↓b_den, ↓b_gra, ↓b_don]
        · try simp (disch := (first | omega | (simp (disch := omega) only [ga_st_self, ga_st_id, ga_st_ix] <;> omega) | skip)) only [↓gb_of, ↓gb2_of, ↓gb3_of, ↓gB_eq, ↓gg_pos, ↓if_pos, ↓if_neg, ↓b_wi1, ↓b_wi0, ↓b_has1, ↓b_has0, ↓b_in1, ↓b_in0, ↓b_pl1, ↓b_pl0, ↓b_jm1, ↓b_jm0, ↓b_jc1, ↓b_jc0, ↓b_size, ↓b_get, ↓b_ref, ↓b_den, ↓b_gra, ↓b_don]
      · try simp (disch := (first | omega | (simp (disch := omega) only [ga_st_self, ga_st_id, ga_st_ix] <;> omega) | skip)) only [↓gb_of, ↓gb2_of, ↓gb3_of, ↓gB_eq, ↓gg_pos, ↓if_pos, ↓if_neg, ↓b_wi1, ↓b_wi0, ↓b_has1, ↓b_has0, ↓b_in1, ↓b_in0, ↓b_pl1, ↓b_pl0, ↓b_jm1, ↓b_jm0, ↓b_jc1, ↓b_jc0, ↓b_size, ↓b_get, ↓b_ref, ↓b_den, ↓b_gra, ↓b_don]
  · have t1 : f_X5_troubleOfGreen G n M v1 v2 v3 v4 = some 1 := by
      unfold f_X5_troubleOfGreen
      try simp (disch := (first | omega | (simp (disch := omega) only [ga_st_self, ga_st_id, ga_st_ix] <;> omega) | skip)) only [↓gb_of, ↓gb2_of, ↓gb3_of, ↓gB_eq, ↓gg_pos, ↓if_pos, ↓if_neg, ↓b_wi1, ↓b_wi0, ↓b_has1, ↓b_has0, ↓b_in1, ↓b_in0, ↓b_pl1, ↓b_pl0, ↓b_jm1, ↓b_jm0, ↓b_jc1, ↓b_jc0, ↓b_size, ↓b_get, ↓b_ref, ↓b_den, ↓b_gra, ↓b_don]
    refine ⟨0, ga_st M 0 10 1, ga_st (ga_st (ga_st M 0 10 1) 100 0 0) 100 1 1, rj 1 (by omega) (by omega) t1, ?_, h.sc (by unfold iA; simp [ga_st]; try omega) (by intro a ha; unfold rel at ha; simp (disch := omega) only [ga_st_row]) (by simp [ga_st]) (by simp [ga_st]) (by simp [ga_st]) (by simp [ga_st])⟩
    unfold f_X6_green
    try simp (disch := (first | omega | (simp (disch := omega) only [ga_st_self, ga_st_id, ga_st_ix] <;> omega) | skip)) only [↓gb_of, ↓gb2_of, ↓gb3_of, ↓gB_eq, ↓gg_pos, ↓if_pos, ↓if_neg, ↓b_wi1, ↓b_wi0, ↓b_has1, ↓b_has0, ↓b_in1, ↓b_in0, ↓b_pl1, ↓b_pl0, ↓b_jm1, ↓b_jm0, ↓b_jc1, ↓b_jc0, ↓b_size, ↓b_get, ↓b_ref, ↓b_den, ↓b_gra, ↓b_don]
end M4

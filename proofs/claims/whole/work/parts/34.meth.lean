/-! ===== pure: drop, fare, laid, cost, free, delay, behind, paid, atOnce, saved, would, count ===== -/
section M1
variable {n G : Nat} {M : gaM}
theorem Inv.th {n : Nat} {M : gaM} (h : Inv n M) : Inv n (ga_st M 100 0 0) := by
  obtain ⟨a1, a2, a3, a4, a5, a6, a7, a8, a9, a10, a11, a12, a13, a14, a15⟩ := h.1
  exact h.sc (by unfold iA; simp [ga_st]; try omega) (by intro a ha; unfold rel at ha; simp (disch := omega) only [ga_st_row]) (by simp [ga_st]) (by simp [ga_st]) (by simp [ga_st]) (by simp [ga_st])
theorem cst_th {j p h : Nat} : cst (ga_st M 100 0 0) j p h = cst M j p h := by
  unfold cst
  rw [ga_st_row _ (by decide), ga_st_row _ (by decide), ga_st_row _ (by decide), ga_st_row _ (by decide), ga_st_row _ (by decide)]
theorem dl_th {o j : Nat} : dl (ga_st M 100 0 0) o j = dl M o j := by
  unfold dl
  rw [ga_st_row _ (by decide), ga_st_row _ (by decide), ga_st_row _ (by decide), ga_st_row _ (by decide)]
theorem cn_th {s : Int} {j : Nat} : cn (ga_st M 100 0 0) s j = cn M s j := by
  unfold cn
  rw [ga_st_row _ (by decide)]
theorem e_delay {v1 : Int} (hG : 5000 ≤ G) (h : Inv n M) (hv1 : ok v1) : ∃ r Mm, f_X5_delay G n M v1 = some r ∧ f_X6_delay G n M v1 = some (r, Mm) ∧ Inv n Mm := by
  have hi := h.th
  obtain ⟨a1, a2, a3, a4, a5, a6, a7, a8, a9, a10, a11, a12, a13, a14, a15⟩ := h.1
  by_cases c : 0 ≤ v1 ∧ v1 ≤ 5
  · obtain ⟨o, rfl⟩ : ∃ o : Nat, v1 = (o : Int) := ⟨v1.toNat, by omega⟩
    refine ⟨M 3 o, _, ?_, ?_, hi⟩
    · unfold f_X5_delay
      try simp only [Int.toNat_natCast, tn300, tn4, Nat.reduceMul, Nat.reduceAdd]
      try simp (disch := (first | omega | (simp (disch := omega) only [ga_st_self, ga_st_id, ga_st_ix] <;> omega) | skip)) only [↓gb_of, ↓gb2_of, ↓gb3_of, ↓gB_eq, ↓gg_pos, ↓if_pos, ↓if_neg, ↓b_wi1, ↓b_wi0, ↓b_has1, ↓b_has0, ↓b_in1, ↓b_in0, ↓b_pl1, ↓b_pl0, ↓b_jm1, ↓b_jm0, ↓b_jc1, ↓b_jc0, ↓b_size, ↓b_get, ↓b_ref, ↓b_den, ↓b_gra, ↓b_don]
    · unfold f_X6_delay
      try simp (disch := (first | omega | (simp (disch := omega) only [ga_st_self, ga_st_id, ga_st_ix] <;> omega) | skip)) only [↓gb_of, ↓gb2_of, ↓gb3_of, ↓gB_eq, ↓gg_pos, ↓if_pos, ↓if_neg, ↓b_wi1, ↓b_wi0, ↓b_has1, ↓b_has0, ↓b_in1, ↓b_in0, ↓b_pl1, ↓b_pl0, ↓b_jm1, ↓b_jm0, ↓b_jc1, ↓b_jc0, ↓b_size, ↓b_get, ↓b_ref, ↓b_den, ↓b_gra, ↓b_don]
      rw [gb_eq (p_delay hG (by omega) hi.1.2.2.2.2.1 a6 hi.okJ), h.2.2.2.2.2.1 o (by omega)]
      rw [sm_congr (fun i _ => dl_th)]
  · refine ⟨-1, _, ?_, ?_, hi⟩
    · unfold f_X5_delay
      try simp (disch := (first | omega | (simp (disch := omega) only [ga_st_self, ga_st_id, ga_st_ix] <;> omega) | skip)) only [↓gb_of, ↓gb2_of, ↓gb3_of, ↓gB_eq, ↓gg_pos, ↓if_pos, ↓if_neg, ↓b_wi1, ↓b_wi0, ↓b_has1, ↓b_has0, ↓b_in1, ↓b_in0, ↓b_pl1, ↓b_pl0, ↓b_jm1, ↓b_jm0, ↓b_jc1, ↓b_jc0, ↓b_size, ↓b_get, ↓b_ref, ↓b_den, ↓b_gra, ↓b_don]
    · unfold f_X6_delay
      try simp (disch := (first | omega | (simp (disch := omega) only [ga_st_self, ga_st_id, ga_st_ix] <;> omega) | skip)) only [↓gb_of, ↓gb2_of, ↓gb3_of, ↓gB_eq, ↓gg_pos, ↓if_pos, ↓if_neg, ↓b_wi1, ↓b_wi0, ↓b_has1, ↓b_has0, ↓b_in1, ↓b_in0, ↓b_pl1, ↓b_pl0, ↓b_jm1, ↓b_jm0, ↓b_jc1, ↓b_jc0, ↓b_size, ↓b_get, ↓b_ref, ↓b_den, ↓b_gra, ↓b_don]
theorem smdl_bd {o k : Nat} (h : Inv n M) (hk : k ≤ n) : 0 ≤ sm (dl M o) 0 k ∧ sm (dl M o) 0 k ≤ k * 300 := by
  have := sm_bd (f := dl M o) (a := 0) (lo := 0) (hi := 300) (k := k) (fun i hi => by
    rw [Nat.zero_add]
    obtain ⟨-, ⟨u1, u2, u3, u4, u5, u6, u7, u8, u9, u10, u11⟩, ⟨w1, w2, w3, w4, w5, -⟩⟩ := h.2.2.2.1 i (by omega)
    unfold dl
    split
    · rename_i q
      obtain ⟨x1, x2, x3, x4⟩ := w3 q.2
      omega
    · omega)
  omega
theorem e_behind {v1 : Int} (hG : 5000 ≤ G) (h : Inv n M) (hv1 : ok v1) : ∃ r Mm, f_X5_behind G n M v1 = some r ∧ f_X6_behind G n M v1 = some (r, Mm) ∧ Inv n Mm := by
  have hi := h.th
  obtain ⟨a1, a2, a3, a4, a5, a6, a7, a8, a9, a10, a11, a12, a13, a14, a15⟩ := h.1
  by_cases c : 0 ≤ v1 ∧ v1 ≤ 5
  · obtain ⟨o, rfl⟩ : ∃ o : Nat, v1 = (o : Int) := ⟨v1.toNat, by omega⟩
    have hd := h.2.2.2.2.2.1 o (by omega)
    have hb := smdl_bd (o := o) h (Nat.le_refl n)
    have hp := p_delay (G := G) (n := n) (M := ga_st M 100 0 0) (o := o) hG (by omega) hi.1.2.2.2.2.1 a6 hi.okJ
    rw [sm_congr (fun i _ => dl_th), ← hd] at hp
    refine ⟨if M 100 5 < M 3 o then 1 else 0, _, ?_, ?_, hi⟩
    · have hbh : f_X5_isBehind G n M (o : Int) = some (if M 100 5 < M 3 o then 1 else 0) := by
        unfold f_X5_isBehind
        try simp only [Int.toNat_natCast, tn300, tn4, Nat.reduceMul, Nat.reduceAdd]
        rw [a10]
        by_cases d : M 100 5 < M 3 o
        · try simp (disch := (first | omega | (simp (disch := omega) only [ga_st_self, ga_st_id, ga_st_ix] <;> omega) | skip)) only [↓gb_of, ↓gb2_of, ↓gb3_of, ↓gB_eq, ↓gg_pos, ↓if_pos, ↓if_neg, ↓b_wi1, ↓b_wi0, ↓b_has1, ↓b_has0, ↓b_in1, ↓b_in0, ↓b_pl1, ↓b_pl0, ↓b_jm1, ↓b_jm0, ↓b_jc1, ↓b_jc0, ↓b_size, ↓b_get, ↓b_ref, ↓b_den, ↓b_gra, ↓b_don]
        · try simp (disch := (first | omega | (simp (disch := omega) only [ga_st_self, ga_st_id, ga_st_ix] <;> omega) | skip)) only [↓gb_of, ↓gb2_of, ↓gb3_of, ↓gB_eq, ↓gg_pos, ↓if_pos, ↓if_neg, ↓b_wi1, ↓b_wi0, ↓b_has1, ↓b_has0, ↓b_in1, ↓b_in0, ↓b_pl1, ↓b_pl0, ↓b_jm1, ↓b_jm0, ↓b_jc1, ↓b_jc0, ↓b_size, ↓b_get, ↓b_ref, ↓b_den, ↓b_gra, ↓b_don]
      unfold f_X5_behind
      try simp (disch := (first | omega | (simp (disch := omega) only [ga_st_self, ga_st_id, ga_st_ix] <;> omega) | skip)) only [↓gb_of, ↓gb2_of, ↓gb3_of, ↓gB_eq, ↓gg_pos, ↓if_pos, ↓if_neg, ↓b_wi1, ↓b_wi0, ↓b_has1, ↓b_has0, ↓b_in1, ↓b_in0, ↓b_pl1, ↓b_pl0, ↓b_jm1, ↓b_jm0, ↓b_jc1, ↓b_jc0, ↓b_size, ↓b_get, ↓b_ref, ↓b_den, ↓b_gra, ↓b_don]
      rw [gb_eq hbh]
      by_cases d : M 100 5 < M 3 o
      · rw [if_pos d]
        try simp (disch := (first | omega | (simp (disch := omega) only [ga_st_self, ga_st_id, ga_st_ix] <;> omega) | skip)) only [↓gb_of, ↓gb2_of, ↓gb3_of, ↓gB_eq, ↓gg_pos, ↓if_pos, ↓if_neg, ↓b_wi1, ↓b_wi0, ↓b_has1, ↓b_has0, ↓b_in1, ↓b_in0, ↓b_pl1, ↓b_pl0, ↓b_jm1, ↓b_jm0, ↓b_jc1, ↓b_jc0, ↓b_size, ↓b_get, ↓b_ref, ↓b_den, ↓b_gra, ↓b_don]
      · rw [if_neg d]
        try simp (disch := (first | omega | (simp (disch := omega) only [ga_st_self, ga_st_id, ga_st_ix] <;> omega) | skip)) only [↓gb_of, ↓gb2_of, ↓gb3_of, ↓gB_eq, ↓gg_pos, ↓if_pos, ↓if_neg, ↓b_wi1, ↓b_wi0, ↓b_has1, ↓b_has0, ↓b_in1, ↓b_in0, ↓b_pl1, ↓b_pl0, ↓b_jm1, ↓b_jm0, ↓b_jc1, ↓b_jc0, ↓b_size, ↓b_get, ↓b_ref, ↓b_den, ↓b_gra, ↓b_don]
    · unfold f_X6_behind
      try simp (disch := (first | omega | (simp (disch := omega) only [ga_st_self, ga_st_id, ga_st_ix] <;> omega) | skip)) only [↓gb_of, ↓gb2_of, ↓gb3_of, ↓gB_eq, ↓gg_pos, ↓if_pos, ↓if_neg, ↓b_wi1, ↓b_wi0, ↓b_has1, ↓b_has0, ↓b_in1, ↓b_in0, ↓b_pl1, ↓b_pl0, ↓b_jm1, ↓b_jm0, ↓b_jc1, ↓b_jc0, ↓b_size, ↓b_get, ↓b_ref, ↓b_den, ↓b_gra, ↓b_don]
      rw [gb_eq hp]
      by_cases d : M 100 5 < M 3 o
      · rw [if_pos d]
        try simp (disch := (first | omega | (simp (disch := omega) only [ga_st_self, ga_st_id, ga_st_ix] <;> omega) | skip)) only [↓gb_of, ↓gb2_of, ↓gb3_of, ↓gB_eq, ↓gg_pos, ↓if_pos, ↓if_neg, ↓b_wi1, ↓b_wi0, ↓b_has1, ↓b_has0, ↓b_in1, ↓b_in0, ↓b_pl1, ↓b_pl0, ↓b_jm1, ↓b_jm0, ↓b_jc1, ↓b_jc0, ↓b_size, ↓b_get, ↓b_ref, ↓b_den, ↓b_gra, ↓b_don]
      · rw [if_neg d]
        try simp (disch := (first | omega | (simp (disch := omega) only [ga_st_self, ga_st_id, ga_st_ix] <;> omega) | skip)) only [↓gb_of, ↓gb2_of, ↓gb3_of, ↓gB_eq, ↓gg_pos, ↓if_pos, ↓if_neg, ↓b_wi1, ↓b_wi0, ↓b_has1, ↓b_has0, ↓b_in1, ↓b_in0, ↓b_pl1, ↓b_pl0, ↓b_jm1, ↓b_jm0, ↓b_jc1, ↓b_jc0, ↓b_size, ↓b_get, ↓b_ref, ↓b_den, ↓b_gra, ↓b_don]
  · refine ⟨-1, _, ?_, ?_, hi⟩
    · unfold f_X5_behind
      try simp (disch := (first | omega | (simp (disch := omega) only [ga_st_self, ga_st_id, ga_st_ix] <;> omega) | skip)) only [↓gb_of, ↓gb2_of, ↓gb3_of, ↓gB_eq, ↓gg_pos, ↓if_pos, ↓if_neg, ↓b_wi1, ↓b_wi0, ↓b_has1, ↓b_has0, ↓b_in1, ↓b_in0, ↓b_pl1, ↓b_pl0, ↓b_jm1, ↓b_jm0, ↓b_jc1, ↓b_jc0, ↓b_size, ↓b_get, ↓b_ref, ↓b_den, ↓b_gra, ↓b_don]
    · unfold f_X6_behind
      try simp (disch := (first | omega | (simp (disch := omega) only [ga_st_self, ga_st_id, ga_st_ix] <;> omega) | skip)) only [↓gb_of, ↓gb2_of, ↓gb3_of, ↓gB_eq, ↓gg_pos, ↓if_pos, ↓if_neg, ↓b_wi1, ↓b_wi0, ↓b_has1, ↓b_has0, ↓b_in1, ↓b_in0, ↓b_pl1, ↓b_pl0, ↓b_jm1, ↓b_jm0, ↓b_jc1, ↓b_jc0, ↓b_size, ↓b_get, ↓b_ref, ↓b_den, ↓b_gra, ↓b_don]
theorem e_count {v1 : Int} (hG : 5000 ≤ G) (h : Inv n M) (hv1 : ok v1) : ∃ r Mm, f_X5_count G n M v1 = some r ∧ f_X6_count G n M v1 = some (r, Mm) ∧ Inv n Mm := by
  have hi := h.th
  obtain ⟨a1, a2, a3, a4, a5, a6, a7, a8, a9, a10, a11, a12, a13, a14, a15⟩ := h.1
  have hc : ∀ s : Int, ok s → f_X5_countOf G n M s = some (sm (cn M s) 0 n) := fun s hs => p_countC hG hs h
  have hm : ∀ s : Int, ok s → f_X6_many G n (ga_st M 100 0 0) s = some (sm (cn M s) 0 n) := fun s hs => by rw [p_countM hG hs hi, sm_congr (fun i _ => cn_th)]
  by_cases d0 : v1 = 0
  · exact ⟨M 100 2, _, by try simp (disch := (first | omega | (simp (disch := omega) only [ga_st_self, ga_st_id, ga_st_ix] <;> omega) | skip)) only [f_X5_count, ↓gb_of, ↓gb2_of, ↓gb3_of, ↓gB_eq, ↓gg_pos, ↓if_pos, ↓if_neg, ↓b_wi1, ↓b_wi0, ↓b_has1, ↓b_has0, ↓b_in1, ↓b_in0, ↓b_pl1, ↓b_pl0, ↓b_jm1, ↓b_jm0, ↓b_jc1, ↓b_jc0, ↓b_size, ↓b_get, ↓b_ref, ↓b_den, ↓b_gra, ↓b_don]; rw [a1], by try simp (disch := (first | omega | (simp (disch := omega) only [ga_st_self, ga_st_id, ga_st_ix] <;> omega) | skip)) only [f_X6_count, ↓gb_of, ↓gb2_of, ↓gb3_of, ↓gB_eq, ↓gg_pos, ↓if_pos, ↓if_neg, ↓b_wi1, ↓b_wi0, ↓b_has1, ↓b_has0, ↓b_in1, ↓b_in0, ↓b_pl1, ↓b_pl0, ↓b_jm1, ↓b_jm0, ↓b_jc1, ↓b_jc0, ↓b_size, ↓b_get, ↓b_ref, ↓b_den, ↓b_gra, ↓b_don]; simp [ga_st], hi⟩
  by_cases d1 : v1 = 1
  · exact ⟨M 100 3, _, by try simp (disch := (first | omega | (simp (disch := omega) only [ga_st_self, ga_st_id, ga_st_ix] <;> omega) | skip)) only [f_X5_count, ↓gb_of, ↓gb2_of, ↓gb3_of, ↓gB_eq, ↓gg_pos, ↓if_pos, ↓if_neg, ↓b_wi1, ↓b_wi0, ↓b_has1, ↓b_has0, ↓b_in1, ↓b_in0, ↓b_pl1, ↓b_pl0, ↓b_jm1, ↓b_jm0, ↓b_jc1, ↓b_jc0, ↓b_size, ↓b_get, ↓b_ref, ↓b_den, ↓b_gra, ↓b_don]; rw [a4, a5], by try simp (disch := (first | omega | (simp (disch := omega) only [ga_st_self, ga_st_id, ga_st_ix] <;> omega) | skip)) only [f_X6_count, ↓gb_of, ↓gb2_of, ↓gb3_of, ↓gB_eq, ↓gg_pos, ↓if_pos, ↓if_neg, ↓b_wi1, ↓b_wi0, ↓b_has1, ↓b_has0, ↓b_in1, ↓b_in0, ↓b_pl1, ↓b_pl0, ↓b_jm1, ↓b_jm0, ↓b_jc1, ↓b_jc0, ↓b_size, ↓b_get, ↓b_ref, ↓b_den, ↓b_gra, ↓b_don]; simp [ga_st], hi⟩
  by_cases d2 : v1 = 2
  · exact ⟨_, _, by try simp (disch := (first | omega | (simp (disch := omega) only [ga_st_self, ga_st_id, ga_st_ix] <;> omega) | skip)) only [f_X5_count, ↓gb_of, ↓gb2_of, ↓gb3_of, ↓gB_eq, ↓gg_pos, ↓if_pos, ↓if_neg, ↓b_wi1, ↓b_wi0, ↓b_has1, ↓b_has0, ↓b_in1, ↓b_in0, ↓b_pl1, ↓b_pl0, ↓b_jm1, ↓b_jm0, ↓b_jc1, ↓b_jc0, ↓b_size, ↓b_get, ↓b_ref, ↓b_den, ↓b_gra, ↓b_don]; rw [gb_eq (hc 0 (by decide))], by try simp (disch := (first | omega | (simp (disch := omega) only [ga_st_self, ga_st_id, ga_st_ix] <;> omega) | skip)) only [f_X6_count, ↓gb_of, ↓gb2_of, ↓gb3_of, ↓gB_eq, ↓gg_pos, ↓if_pos, ↓if_neg, ↓b_wi1, ↓b_wi0, ↓b_has1, ↓b_has0, ↓b_in1, ↓b_in0, ↓b_pl1, ↓b_pl0, ↓b_jm1, ↓b_jm0, ↓b_jc1, ↓b_jc0, ↓b_size, ↓b_get, ↓b_ref, ↓b_den, ↓b_gra, ↓b_don]; rw [gb_eq (hm 0 (by decide))], hi⟩
  by_cases d3 : v1 = 3
  · exact ⟨_, _, by try simp (disch := (first | omega | (simp (disch := omega) only [ga_st_self, ga_st_id, ga_st_ix] <;> omega) | skip)) only [f_X5_count, ↓gb_of, ↓gb2_of, ↓gb3_of, ↓gB_eq, ↓gg_pos, ↓if_pos, ↓if_neg, ↓b_wi1, ↓b_wi0, ↓b_has1, ↓b_has0, ↓b_in1, ↓b_in0, ↓b_pl1, ↓b_pl0, ↓b_jm1, ↓b_jm0, ↓b_jc1, ↓b_jc0, ↓b_size, ↓b_get, ↓b_ref, ↓b_den, ↓b_gra, ↓b_don]; rw [gb_eq (hc 1 (by decide))], by try simp (disch := (first | omega | (simp (disch := omega) only [ga_st_self, ga_st_id, ga_st_ix] <;> omega) | skip)) only [f_X6_count, ↓gb_of, ↓gb2_of, ↓gb3_of, ↓gB_eq, ↓gg_pos, ↓if_pos, ↓if_neg, ↓b_wi1, ↓b_wi0, ↓b_has1, ↓b_has0, ↓b_in1, ↓b_in0, ↓b_pl1, ↓b_pl0, ↓b_jm1, ↓b_jm0, ↓b_jc1, ↓b_jc0, ↓b_size, ↓b_get, ↓b_ref, ↓b_den, ↓b_gra, ↓b_don]; rw [gb_eq (hm 1 (by decide))], hi⟩
  by_cases d4 : v1 = 4
  · exact ⟨_, _, by try simp (disch := (first | omega | (simp (disch := omega) only [ga_st_self, ga_st_id, ga_st_ix] <;> omega) | skip)) only [f_X5_count, ↓gb_of, ↓gb2_of, ↓gb3_of, ↓gB_eq, ↓gg_pos, ↓if_pos, ↓if_neg, ↓b_wi1, ↓b_wi0, ↓b_has1, ↓b_has0, ↓b_in1, ↓b_in0, ↓b_pl1, ↓b_pl0, ↓b_jm1, ↓b_jm0, ↓b_jc1, ↓b_jc0, ↓b_size, ↓b_get, ↓b_ref, ↓b_den, ↓b_gra, ↓b_don]; rw [gb_eq (hc 2 (by decide))], by try simp (disch := (first | omega | (simp (disch := omega) only [ga_st_self, ga_st_id, ga_st_ix] <;> omega) | skip)) only [f_X6_count, ↓gb_of, ↓gb2_of, ↓gb3_of, ↓gB_eq, ↓gg_pos, ↓if_pos, ↓if_neg, ↓b_wi1, ↓b_wi0, ↓b_has1, ↓b_has0, ↓b_in1, ↓b_in0, ↓b_pl1, ↓b_pl0, ↓b_jm1, ↓b_jm0, ↓b_jc1, ↓b_jc0, ↓b_size, ↓b_get, ↓b_ref, ↓b_den, ↓b_gra, ↓b_don]; rw [gb_eq (hm 2 (by decide))], hi⟩
  by_cases d5 : v1 = 5
  · exact ⟨_, _, by try simp (disch := (first | omega | (simp (disch := omega) only [ga_st_self, ga_st_id, ga_st_ix] <;> omega) | skip)) only [f_X5_count, ↓gb_of, ↓gb2_of, ↓gb3_of, ↓gB_eq, ↓gg_pos, ↓if_pos, ↓if_neg, ↓b_wi1, ↓b_wi0, ↓b_has1, ↓b_has0, ↓b_in1, ↓b_in0, ↓b_pl1, ↓b_pl0, ↓b_jm1, ↓b_jm0, ↓b_jc1, ↓b_jc0, ↓b_size, ↓b_get, ↓b_ref, ↓b_den, ↓b_gra, ↓b_don]; rw [gb_eq (hc 3 (by decide))], by try simp (disch := (first | omega | (simp (disch := omega) only [ga_st_self, ga_st_id, ga_st_ix] <;> omega) | skip)) only [f_X6_count, ↓gb_of, ↓gb2_of, ↓gb3_of, ↓gB_eq, ↓gg_pos, ↓if_pos, ↓if_neg, ↓b_wi1, ↓b_wi0, ↓b_has1, ↓b_has0, ↓b_in1, ↓b_in0, ↓b_pl1, ↓b_pl0, ↓b_jm1, ↓b_jm0, ↓b_jc1, ↓b_jc0, ↓b_size, ↓b_get, ↓b_ref, ↓b_den, ↓b_gra, ↓b_don]; rw [gb_eq (hm 3 (by decide))], hi⟩
  by_cases d6 : v1 = 6
  · exact ⟨M 100 4, _, by try simp (disch := (first | omega | (simp (disch := omega) only [ga_st_self, ga_st_id, ga_st_ix] <;> omega) | skip)) only [f_X5_count, ↓gb_of, ↓gb2_of, ↓gb3_of, ↓gB_eq, ↓gg_pos, ↓if_pos, ↓if_neg, ↓b_wi1, ↓b_wi0, ↓b_has1, ↓b_has0, ↓b_in1, ↓b_in0, ↓b_pl1, ↓b_pl0, ↓b_jm1, ↓b_jm0, ↓b_jc1, ↓b_jc0, ↓b_size, ↓b_get, ↓b_ref, ↓b_den, ↓b_gra, ↓b_don]; rw [a7], by try simp (disch := (first | omega | (simp (disch := omega) only [ga_st_self, ga_st_id, ga_st_ix] <;> omega) | skip)) only [f_X6_count, ↓gb_of, ↓gb2_of, ↓gb3_of, ↓gB_eq, ↓gg_pos, ↓if_pos, ↓if_neg, ↓b_wi1, ↓b_wi0, ↓b_has1, ↓b_has0, ↓b_in1, ↓b_in0, ↓b_pl1, ↓b_pl0, ↓b_jm1, ↓b_jm0, ↓b_jc1, ↓b_jc0, ↓b_size, ↓b_get, ↓b_ref, ↓b_den, ↓b_gra, ↓b_don]; simp [ga_st], hi⟩
  exact ⟨-1, _, by try simp (disch := (first | omega | (simp (disch := omega) only [ga_st_self, ga_st_id, ga_st_ix] <;> omega) | skip)) only [f_X5_count, ↓gb_of, ↓gb2_of, ↓gb3_of, ↓gB_eq, ↓gg_pos, ↓if_pos, ↓if_neg, ↓b_wi1, ↓b_wi0, ↓b_has1, ↓b_has0, ↓b_in1, ↓b_in0, ↓b_pl1, ↓b_pl0, ↓b_jm1, ↓b_jm0, ↓b_jc1, ↓b_jc0, ↓b_size, ↓b_get, ↓b_ref, ↓b_den, ↓b_gra, ↓b_don], by try simp (disch := (first | omega | (simp (disch := omega) only [ga_st_self, ga_st_id, ga_st_ix] <;> omega) | skip)) only [f_X6_count, ↓gb_of, ↓gb2_of, ↓gb3_of, ↓gB_eq, ↓gg_pos, ↓if_pos, ↓if_neg, ↓b_wi1, ↓b_wi0, ↓b_has1, ↓b_has0, ↓b_in1, ↓b_in0, ↓b_pl1, ↓b_pl0, ↓b_jm1, ↓b_jm0, ↓b_jc1, ↓b_jc0, ↓b_size, ↓b_get, ↓b_ref, ↓b_den, ↓b_gra, ↓b_don], hi⟩
-- paid
theorem p_paidC_l (h : Inv n M) : ∀ (k j F : Nat) (acc : Int), j + k = n → k < F → l_X5_paid_4 G n M F acc (j : Int) = some (acc + sm (M 118) j k) := by
  obtain ⟨a1, a2, a3, a4, a5, a6, a7, a8, a9, a10, a11, a12, a13, a14, a15⟩ := h.1
  intro k
  induction k with
  | zero =>
    intro j F acc hx hF
    obtain ⟨F, rfl⟩ : ∃ F1, F = F1 + 1 := ⟨F - 1, by omega⟩
    rw [l_X5_paid_4]
    try simp (disch := (first | omega | (simp (disch := omega) only [ga_st_self, ga_st_id, ga_st_ix] <;> omega) | skip)) only [↓gb_of, ↓gb2_of, ↓gb3_of, ↓gB_eq, ↓gg_pos, ↓if_pos, ↓if_neg, ↓b_wi1, ↓b_wi0, ↓b_has1, ↓b_has0, ↓b_in1, ↓b_in0, ↓b_pl1, ↓b_pl0, ↓b_jm1, ↓b_jm0, ↓b_jc1, ↓b_jc0, ↓b_size, ↓b_get, ↓b_ref, ↓b_den, ↓b_gra, ↓b_don]
    simp [sm]
  | succ k ih =>
    intro j F acc hx hF
    obtain ⟨F, rfl⟩ : ∃ F1, F = F1 + 1 := ⟨F - 1, by omega⟩
    obtain ⟨⟨-, -, -, -, -, -, -, -, -, g9⟩, -, -⟩ := h.2.2.2.1 j (by omega)
    rw [l_X5_paid_4]
    try simp (disch := (first | omega | (simp (disch := omega) only [ga_st_self, ga_st_id, ga_st_ix] <;> omega) | skip)) only [↓gb_of, ↓gb2_of, ↓gb3_of, ↓gB_eq, ↓gg_pos, ↓if_pos, ↓if_neg, ↓b_wi1, ↓b_wi0, ↓b_has1, ↓b_has0, ↓b_in1, ↓b_in0, ↓b_pl1, ↓b_pl0, ↓b_jm1, ↓b_jm0, ↓b_jc1, ↓b_jc0, ↓b_size, ↓b_get, ↓b_ref, ↓b_den, ↓b_gra, ↓b_don]
    try simp only [Int.toNat_natCast, tn300, tn4, Nat.reduceMul, Nat.reduceAdd]
    rw [g9, show ((j : Int) + 1) = ((j + 1 : Nat) : Int) from rfl, ih (j + 1) F _ (by omega) (by omega), sm_first, Int.add_assoc]
theorem p_paidM_l (h1 : M 100 3 = (n : Int)) (hn : n ≤ 40) : ∀ (k j F : Nat) (acc : Int), j + k = n → k < F → l_X6_paid_9 G n F M acc (j : Int) = some (acc + sm (M 118) j k) := by
  intro k
  induction k with
  | zero =>
    intro j F acc hx hF
    obtain ⟨F, rfl⟩ : ∃ F1, F = F1 + 1 := ⟨F - 1, by omega⟩
    rw [l_X6_paid_9]
    try simp (disch := (first | omega | (simp (disch := omega) only [ga_st_self, ga_st_id, ga_st_ix] <;> omega) | skip)) only [↓gb_of, ↓gb2_of, ↓gb3_of, ↓gB_eq, ↓gg_pos, ↓if_pos, ↓if_neg, ↓b_wi1, ↓b_wi0, ↓b_has1, ↓b_has0, ↓b_in1, ↓b_in0, ↓b_pl1, ↓b_pl0, ↓b_jm1, ↓b_jm0, ↓b_jc1, ↓b_jc0, ↓b_size, ↓b_get, ↓b_ref, ↓b_den, ↓b_gra, ↓b_don]
    simp [sm]
  | succ k ih =>
    intro j F acc hx hF
    obtain ⟨F, rfl⟩ : ∃ F1, F = F1 + 1 := ⟨F - 1, by omega⟩
    rw [l_X6_paid_9]
    try simp only [Int.toNat_natCast, tn300, tn4, Nat.reduceMul, Nat.reduceAdd]
    try simp (disch := (first | omega | (simp (disch := omega) only [ga_st_self, ga_st_id, ga_st_ix] <;> omega) | skip)) only [↓gb_of, ↓gb2_of, ↓gb3_of, ↓gB_eq, ↓gg_pos, ↓if_pos, ↓if_neg, ↓b_wi1, ↓b_wi0, ↓b_has1, ↓b_has0, ↓b_in1, ↓b_in0, ↓b_pl1, ↓b_pl0, ↓b_jm1, ↓b_jm0, ↓b_jc1, ↓b_jc0, ↓b_size, ↓b_get, ↓b_ref, ↓b_den, ↓b_gra, ↓b_don]
    rw [show ((j : Int) + 1) = ((j + 1 : Nat) : Int) from rfl, ih (j + 1) F _ (by omega) (by omega), sm_first, Int.add_assoc]
theorem e_paid (hG : 5000 ≤ G) (h : Inv n M) : ∃ r Mm, f_X5_paid G n M = some r ∧ f_X6_paid G n M = some (r, Mm) ∧ Inv n Mm := by
  have hi := h.th
  obtain ⟨a1, a2, a3, a4, a5, a6, a7, a8, a9, a10, a11, a12, a13, a14, a15⟩ := h.1
  have e1 := p_paidC_l (G := G) h n 0 G 0 (by omega) (by omega)
  have e2 := p_paidM_l (G := G) (M := ga_st M 100 0 0) hi.1.2.2.2.2.1 a6 n 0 G 0 (by omega) (by omega)
  rw [ga_st_row _ (by decide)] at e2
  exact ⟨_, _, gb_eq e1, gb_eq e2, hi⟩
-- atOnce, saved
def ao (M : gaM) (j : Nat) : Int := if M 115 j = 2 then cst M j (M 110 j).toNat (M 112 j).toNat else 0
def pd (M : gaM) (j : Nat) : Int := if M 115 j = 2 then M 118 j else 0
theorem p_aoC_l (hG : 5000 ≤ G) (h : Inv n M) : ∀ (k j F : Nat) (acc : Int), j + k = n → k < F → l_X5_atOnce_4 G n M F acc (j : Int) = some (acc + sm (ao M) j k) := by
  obtain ⟨a1, a2, a3, a4, a5, a6, a7, a8, a9, a10, a11, a12, a13, a14, a15⟩ := h.1
  intro k
  induction k with
  | zero =>
    intro j F acc hx hF
    obtain ⟨F, rfl⟩ : ∃ F1, F = F1 + 1 := ⟨F - 1, by omega⟩
    rw [l_X5_atOnce_4]
    try simp (disch := (first | omega | (simp (disch := omega) only [ga_st_self, ga_st_id, ga_st_ix] <;> omega) | skip)) only [↓gb_of, ↓gb2_of, ↓gb3_of, ↓gB_eq, ↓gg_pos, ↓if_pos, ↓if_neg, ↓b_wi1, ↓b_wi0, ↓b_has1, ↓b_has0, ↓b_in1, ↓b_in0, ↓b_pl1, ↓b_pl0, ↓b_jm1, ↓b_jm0, ↓b_jc1, ↓b_jc0, ↓b_size, ↓b_get, ↓b_ref, ↓b_den, ↓b_gra, ↓b_don]
    simp [sm]
  | succ k ih =>
    intro j F acc hx hF
    obtain ⟨F, rfl⟩ : ∃ F1, F = F1 + 1 := ⟨F - 1, by omega⟩
    obtain ⟨⟨-, g1, -, g3, -, -, g6, -⟩, ⟨u1, u2, u3, u4, u5, u6, u7, u8, u9, u10, u11⟩, -⟩ := h.2.2.2.1 j (by omega)
    have o2 := (h.okJ j (by omega)).2
    rw [l_X5_atOnce_4]
    try simp (disch := (first | omega | (simp (disch := omega) only [ga_st_self, ga_st_id, ga_st_ix] <;> omega) | skip)) only [↓gb_of, ↓gb2_of, ↓gb3_of, ↓gB_eq, ↓gg_pos, ↓if_pos, ↓if_neg, ↓b_wi1, ↓b_wi0, ↓b_has1, ↓b_has0, ↓b_in1, ↓b_in0, ↓b_pl1, ↓b_pl0, ↓b_jm1, ↓b_jm0, ↓b_jc1, ↓b_jc0, ↓b_size, ↓b_get, ↓b_ref, ↓b_den, ↓b_gra, ↓b_don]
    try simp only [Int.toNat_natCast, tn300, tn4, Nat.reduceMul, Nat.reduceAdd]
    simp only [g6, g1, g3]
    rw [sm_first]
    by_cases c : M 115 j = 2
    · have ec := b_costC (G := G) (p := (M 110 j).toNat) (h := (M 112 j).toNat) hG h (show j < n by omega) (by omega) (by omega)
      rw [Int.toNat_of_nonneg u3, Int.toNat_of_nonneg u7] at ec
      try simp (disch := (first | omega | (simp (disch := omega) only [ga_st_self, ga_st_id, ga_st_ix] <;> omega) | skip)) only [↓gb_of, ↓gb2_of, ↓gb3_of, ↓gB_eq, ↓gg_pos, ↓if_pos, ↓if_neg, ↓b_wi1, ↓b_wi0, ↓b_has1, ↓b_has0, ↓b_in1, ↓b_in0, ↓b_pl1, ↓b_pl0, ↓b_jm1, ↓b_jm0, ↓b_jc1, ↓b_jc0, ↓b_size, ↓b_get, ↓b_ref, ↓b_den, ↓b_gra, ↓b_don]
      rw [gb_eq ec, gb_of, show ((j : Int) + 1) = ((j + 1 : Nat) : Int) from rfl, ih (j + 1) F _ (by omega) (by omega), show ao M j = _ from if_pos c, Int.add_assoc]
    · try simp (disch := (first | omega | (simp (disch := omega) only [ga_st_self, ga_st_id, ga_st_ix] <;> omega) | skip)) only [↓gb_of, ↓gb2_of, ↓gb3_of, ↓gB_eq, ↓gg_pos, ↓if_pos, ↓if_neg, ↓b_wi1, ↓b_wi0, ↓b_has1, ↓b_has0, ↓b_in1, ↓b_in0, ↓b_pl1, ↓b_pl0, ↓b_jm1, ↓b_jm0, ↓b_jc1, ↓b_jc0, ↓b_size, ↓b_get, ↓b_ref, ↓b_den, ↓b_gra, ↓b_don]
      rw [show ((j : Int) + 1) = ((j + 1 : Nat) : Int) from rfl, ih (j + 1) F _ (by omega) (by omega), show ao M j = _ from if_neg c, Int.zero_add]
theorem p_aoM_l (hG : 5000 ≤ G) (h : Inv n M) : ∀ (k j F : Nat) (acc : Int), j + k = n → k < F → l_X6_homeCost_4 G n M F acc (j : Int) = some (acc + sm (ao M) j k) := by
  obtain ⟨a1, a2, a3, a4, a5, a6, a7, a8, a9, a10, a11, a12, a13, a14, a15⟩ := h.1
  intro k
  induction k with
  | zero =>
    intro j F acc hx hF
    obtain ⟨F, rfl⟩ : ∃ F1, F = F1 + 1 := ⟨F - 1, by omega⟩
    rw [l_X6_homeCost_4]
    try simp (disch := (first | omega | (simp (disch := omega) only [ga_st_self, ga_st_id, ga_st_ix] <;> omega) | skip)) only [↓gb_of, ↓gb2_of, ↓gb3_of, ↓gB_eq, ↓gg_pos, ↓if_pos, ↓if_neg, ↓b_wi1, ↓b_wi0, ↓b_has1, ↓b_has0, ↓b_in1, ↓b_in0, ↓b_pl1, ↓b_pl0, ↓b_jm1, ↓b_jm0, ↓b_jc1, ↓b_jc0, ↓b_size, ↓b_get, ↓b_ref, ↓b_den, ↓b_gra, ↓b_don]
    simp [sm]
  | succ k ih =>
    intro j F acc hx hF
    obtain ⟨F, rfl⟩ : ∃ F1, F = F1 + 1 := ⟨F - 1, by omega⟩
    obtain ⟨-, ⟨u1, u2, u3, u4, u5, u6, u7, u8, u9, u10, u11⟩, -⟩ := h.2.2.2.1 j (by omega)
    have o2 := (h.okJ j (by omega)).2
    rw [l_X6_homeCost_4]
    try simp only [Int.toNat_natCast, tn300, tn4, Nat.reduceMul, Nat.reduceAdd]
    rw [sm_first]
    by_cases c : M 115 j = 2
    · have ec := b_costM (G := G) (p := (M 110 j).toNat) (h := (M 112 j).toNat) hG h (show j < n by omega) (by omega) (by omega)
      rw [Int.toNat_of_nonneg u3, Int.toNat_of_nonneg u7] at ec
      try simp (disch := (first | omega | (simp (disch := omega) only [ga_st_self, ga_st_id, ga_st_ix] <;> omega) | skip)) only [↓gb_of, ↓gb2_of, ↓gb3_of, ↓gB_eq, ↓gg_pos, ↓if_pos, ↓if_neg, ↓b_wi1, ↓b_wi0, ↓b_has1, ↓b_has0, ↓b_in1, ↓b_in0, ↓b_pl1, ↓b_pl0, ↓b_jm1, ↓b_jm0, ↓b_jc1, ↓b_jc0, ↓b_size, ↓b_get, ↓b_ref, ↓b_den, ↓b_gra, ↓b_don]
      rw [gb_eq ec, gb_of, show ((j : Int) + 1) = ((j + 1 : Nat) : Int) from rfl, ih (j + 1) F _ (by omega) (by omega), show ao M j = _ from if_pos c, Int.add_assoc]
    · try simp (disch := (first | omega | (simp (disch := omega) only [ga_st_self, ga_st_id, ga_st_ix] <;> omega) | skip)) only [↓gb_of, ↓gb2_of, ↓gb3_of, ↓gB_eq, ↓gg_pos, ↓if_pos, ↓if_neg, ↓b_wi1, ↓b_wi0, ↓b_has1, ↓b_has0, ↓b_in1, ↓b_in0, ↓b_pl1, ↓b_pl0, ↓b_jm1, ↓b_jm0, ↓b_jc1, ↓b_jc0, ↓b_size, ↓b_get, ↓b_ref, ↓b_den, ↓b_gra, ↓b_don]
      rw [show ((j : Int) + 1) = ((j + 1 : Nat) : Int) from rfl, ih (j + 1) F _ (by omega) (by omega), show ao M j = _ from if_neg c, Int.add_assoc]
theorem p_aoC (hG : 5000 ≤ G) (h : Inv n M) : f_X5_atOnce G n M = some (0 + sm (ao M) 0 n) := by
  have hn := h.1.2.2.2.2.2.1
  exact gb_eq (p_aoC_l hG h n 0 G 0 (by omega) (by omega))
theorem ao_th {j : Nat} : ao (ga_st M 100 0 0) j = ao M j := by
  unfold ao
  rw [cst_th, ga_st_row _ (by decide), ga_st_row _ (by decide), ga_st_row _ (by decide)]
theorem p_aoM (hG : 5000 ≤ G) (h : Inv n M) : f_X6_homeCost G n (ga_st M 100 0 0) = some (0 + sm (ao M) 0 n) := by
  have hn := h.1.2.2.2.2.2.1
  have := p_aoM_l (G := G) hG h.th n 0 G 0 (by omega) (by omega)
  rw [sm_congr (fun i _ => ao_th)] at this
  exact gb_eq this
theorem e_atOnce (hG : 5000 ≤ G) (h : Inv n M) : ∃ r Mm, f_X5_atOnce G n M = some r ∧ f_X6_atOnce G n M = some (r, Mm) ∧ Inv n Mm :=
  ⟨_, _, p_aoC hG h, gb_eq (p_aoM hG h), h.th⟩
theorem p_pdC_l (h : Inv n M) : ∀ (k j F : Nat) (acc : Int), j + k = n → k < F → l_X5_paidOfDone_4 G n M F acc (j : Int) = some (acc + sm (pd M) j k) := by
  obtain ⟨a1, a2, a3, a4, a5, a6, a7, a8, a9, a10, a11, a12, a13, a14, a15⟩ := h.1
  intro k
  induction k with
  | zero =>
    intro j F acc hx hF
    obtain ⟨F, rfl⟩ : ∃ F1, F = F1 + 1 := ⟨F - 1, by omega⟩
    rw [l_X5_paidOfDone_4]
    try simp (disch := (first | omega | (simp (disch := omega) only [ga_st_self, ga_st_id, ga_st_ix] <;> omega) | skip)) only [↓gb_of, ↓gb2_of, ↓gb3_of, ↓gB_eq, ↓gg_pos, ↓if_pos, ↓if_neg, ↓b_wi1, ↓b_wi0, ↓b_has1, ↓b_has0, ↓b_in1, ↓b_in0, ↓b_pl1, ↓b_pl0, ↓b_jm1, ↓b_jm0, ↓b_jc1, ↓b_jc0, ↓b_size, ↓b_get, ↓b_ref, ↓b_den, ↓b_gra, ↓b_don]
    simp [sm]
  | succ k ih =>
    intro j F acc hx hF
    obtain ⟨F, rfl⟩ : ∃ F1, F = F1 + 1 := ⟨F - 1, by omega⟩
    obtain ⟨⟨-, -, -, -, -, -, g6, -, -, g9⟩, -, -⟩ := h.2.2.2.1 j (by omega)
    have o2 := (h.okJ j (by omega)).2
    rw [l_X5_paidOfDone_4]
    try simp (disch := (first | omega | (simp (disch := omega) only [ga_st_self, ga_st_id, ga_st_ix] <;> omega) | skip)) only [↓gb_of, ↓gb2_of, ↓gb3_of, ↓gB_eq, ↓gg_pos, ↓if_pos, ↓if_neg, ↓b_wi1, ↓b_wi0, ↓b_has1, ↓b_has0, ↓b_in1, ↓b_in0, ↓b_pl1, ↓b_pl0, ↓b_jm1, ↓b_jm0, ↓b_jc1, ↓b_jc0, ↓b_size, ↓b_get, ↓b_ref, ↓b_den, ↓b_gra, ↓b_don]
    try simp only [Int.toNat_natCast, tn300, tn4, Nat.reduceMul, Nat.reduceAdd]
    simp only [g6]
    rw [sm_first]
    by_cases c : M 115 j = 2
    · try simp (disch := (first | omega | (simp (disch := omega) only [ga_st_self, ga_st_id, ga_st_ix] <;> omega) | skip)) only [↓gb_of, ↓gb2_of, ↓gb3_of, ↓gB_eq, ↓gg_pos, ↓if_pos, ↓if_neg, ↓b_wi1, ↓b_wi0, ↓b_has1, ↓b_has0, ↓b_in1, ↓b_in0, ↓b_pl1, ↓b_pl0, ↓b_jm1, ↓b_jm0, ↓b_jc1, ↓b_jc0, ↓b_size, ↓b_get, ↓b_ref, ↓b_den, ↓b_gra, ↓b_don]
      try simp only [Int.toNat_natCast, tn300, tn4, Nat.reduceMul, Nat.reduceAdd]
      rw [g9, show ((j : Int) + 1) = ((j + 1 : Nat) : Int) from rfl, ih (j + 1) F _ (by omega) (by omega), show pd M j = _ from if_pos c, Int.add_assoc]
    · try simp (disch := (first | omega | (simp (disch := omega) only [ga_st_self, ga_st_id, ga_st_ix] <;> omega) | skip)) only [↓gb_of, ↓gb2_of, ↓gb3_of, ↓gB_eq, ↓gg_pos, ↓if_pos, ↓if_neg, ↓b_wi1, ↓b_wi0, ↓b_has1, ↓b_has0, ↓b_in1, ↓b_in0, ↓b_pl1, ↓b_pl0, ↓b_jm1, ↓b_jm0, ↓b_jc1, ↓b_jc0, ↓b_size, ↓b_get, ↓b_ref, ↓b_den, ↓b_gra, ↓b_don]
      rw [show ((j : Int) + 1) = ((j + 1 : Nat) : Int) from rfl, ih (j + 1) F _ (by omega) (by omega), show pd M j = _ from if_neg c, Int.zero_add]
theorem p_pdM_l (h : Inv n M) : ∀ (k j F : Nat) (acc : Int), j + k = n → k < F → l_X6_saved_12 G n F M acc (j : Int) = some (acc - sm (pd M) j k) := by
  obtain ⟨a1, a2, a3, a4, a5, a6, a7, a8, a9, a10, a11, a12, a13, a14, a15⟩ := h.1
  intro k
  induction k with
  | zero =>
    intro j F acc hx hF
    obtain ⟨F, rfl⟩ : ∃ F1, F = F1 + 1 := ⟨F - 1, by omega⟩
    rw [l_X6_saved_12]
    try simp (disch := (first | omega | (simp (disch := omega) only [ga_st_self, ga_st_id, ga_st_ix] <;> omega) | skip)) only [↓gb_of, ↓gb2_of, ↓gb3_of, ↓gB_eq, ↓gg_pos, ↓if_pos, ↓if_neg, ↓b_wi1, ↓b_wi0, ↓b_has1, ↓b_has0, ↓b_in1, ↓b_in0, ↓b_pl1, ↓b_pl0, ↓b_jm1, ↓b_jm0, ↓b_jc1, ↓b_jc0, ↓b_size, ↓b_get, ↓b_ref, ↓b_den, ↓b_gra, ↓b_don]
    simp [sm]
  | succ k ih =>
    intro j F acc hx hF
    obtain ⟨F, rfl⟩ : ∃ F1, F = F1 + 1 := ⟨F - 1, by omega⟩
    have o2 := (h.okJ j (by omega)).2
    rw [l_X6_saved_12]
    try simp only [Int.toNat_natCast, tn300, tn4, Nat.reduceMul, Nat.reduceAdd]
    rw [sm_first]
    by_cases c : M 115 j = 2
    · try simp (disch := (first | omega | (simp (disch := omega) only [ga_st_self, ga_st_id, ga_st_ix] <;> omega) | skip)) only [↓gb_of, ↓gb2_of, ↓gb3_of, ↓gB_eq, ↓gg_pos, ↓if_pos, ↓if_neg, ↓b_wi1, ↓b_wi0, ↓b_has1, ↓b_has0, ↓b_in1, ↓b_in0, ↓b_pl1, ↓b_pl0, ↓b_jm1, ↓b_jm0, ↓b_jc1, ↓b_jc0, ↓b_size, ↓b_get, ↓b_ref, ↓b_den, ↓b_gra, ↓b_don]
      rw [show ((j : Int) + 1) = ((j + 1 : Nat) : Int) from rfl, ih (j + 1) F _ (by omega) (by omega), show pd M j = _ from if_pos c]
      congr 1
      omega
    · try simp (disch := (first | omega | (simp (disch := omega) only [ga_st_self, ga_st_id, ga_st_ix] <;> omega) | skip)) only [↓gb_of, ↓gb2_of, ↓gb3_of, ↓gB_eq, ↓gg_pos, ↓if_pos, ↓if_neg, ↓b_wi1, ↓b_wi0, ↓b_has1, ↓b_has0, ↓b_in1, ↓b_in0, ↓b_pl1, ↓b_pl0, ↓b_jm1, ↓b_jm0, ↓b_jc1, ↓b_jc0, ↓b_size, ↓b_get, ↓b_ref, ↓b_den, ↓b_gra, ↓b_don]
      rw [show ((j : Int) + 1) = ((j + 1 : Nat) : Int) from rfl, ih (j + 1) F _ (by omega) (by omega), show pd M j = _ from if_neg c]
      congr 1
      omega
theorem e_saved (hG : 5000 ≤ G) (h : Inv n M) : ∃ r Mm, f_X5_saved G n M = some r ∧ f_X6_saved G n M = some (r, Mm) ∧ Inv n Mm := by
  have hn := h.1.2.2.2.2.2.1
  have e1 : f_X5_paidOfDone G n M = some (0 + sm (pd M) 0 n) := gb_eq (p_pdC_l h n 0 G 0 (by omega) (by omega))
  have e2 := p_pdM_l (G := G) h.th n 0 G (0 + sm (ao M) 0 n) (by omega) (by omega)
  have e3 : sm (pd (ga_st M 100 0 0)) 0 n = sm (pd M) 0 n := sm_congr (fun i _ => by
    unfold pd
    rw [ga_st_row _ (by decide), ga_st_row _ (by decide)])
  rw [e3] at e2
  refine ⟨0 + sm (ao M) 0 n - (0 + sm (pd M) 0 n), _, ?_, ?_, h.th⟩
  · unfold f_X5_saved
    rw [gb_eq (p_aoC hG h), gb_eq e1]
  · unfold f_X6_saved
    rw [gB_eq, gb_eq (p_aoM hG h)]
    refine (gb_eq e2).trans ?_
    congr 2
    omega
end M1

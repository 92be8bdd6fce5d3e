/-! ===== pure: job ===== -/
section JB
variable {n G : Nat}
def jrow (v1 v2 v3 v4 v5 v6 : Int) (k : Nat) : Int := match k with
  | 0 => v1
  | 1 => v2
  | 2 => v3
  | 3 => v4
  | 4 => v5
  | 5 => v6
  | 7 => -1
  | 8 => -1
  | _ => 0
/-- the class's numbers after a JOB more -/
def njb (M : gaM) (n : Nat) (c : Int) (v1 v2 v3 v4 v5 v6 : Int) : gaM := ga_st (ga_st (setr (ga_st M 0 10 0) (200 + n) (jrow v1 v2 v3 v4 v5 v6)) 2 0 c) 2 2 ((n : Int) + 1)
theorem e_job {M : gaM} {v1 v2 v3 v4 v5 v6 : Int} (h : Inv n M) (h1 : ok v1) (h2 : ok v2) (h3 : ok v3) (h4 : ok v4) (h5 : ok v5) (h6 : ok v6) : ∃ t, f_X5_troubleOfJob G n M v1 v2 v3 v4 v5 v6 = some t ∧ (0 ≤ t ∧ t ≤ 4) ∧ (t ≠ 0 → ∃ Mm, f_X6_job G n (ga_st M 0 10 t) v1 v2 v3 v4 v5 v6 = some (-1, Mm) ∧ Inv n Mm) ∧ (t = 0 → n < 40 ∧ ∀ c, ∃ Mm, f_X6_job G (n + 1) (njb M n c v1 v2 v3 v4 v5 v6) v1 v2 v3 v4 v5 v6 = some ((n : Int), Mm) ∧ Inv (n + 1) Mm) := by
  have h' := h
  obtain ⟨a1, a2, a3, a4, a5, a6, a7, a8, a9, a10, a11, a12, a13, a14, a15⟩ := h.1
  have rj : ∀ t : Int, 0 ≤ t ∧ t ≤ 4 → Inv n (ga_st (ga_st (ga_st M 0 10 t) 100 0 0) 100 1 t) := fun t ht => h.sc (by unfold iA; simp [ga_st]; try omega) (by intro a ha; unfold rel at ha; simp (disch := omega) only [ga_st_row]) (by simp [ga_st]) (by simp [ga_st]) (by simp [ga_st]) (by simp [ga_st])
  have x2 : ∀ t : Int, (ga_st (ga_st M 0 10 t) 100 0 0) 100 2 = M 100 2 := fun t => by rw [ga_st_ix (by omega), ga_st_id (by omega)]
  have x3 : ∀ t : Int, (ga_st (ga_st M 0 10 t) 100 0 0) 100 3 = (n : Int) := fun t => by rw [ga_st_ix (by omega), ga_st_id (by omega)]; exact a5
  have x4 : ∀ t : Int, (ga_st (ga_st M 0 10 t) 100 0 0) 100 4 = M 100 4 := fun t => by rw [ga_st_ix (by omega), ga_st_id (by omega)]
  have ok2 : ok (M 100 2) := ⟨by omega, by omega⟩
  have ok4 : ok (M 100 4) := ⟨by omega, by omega⟩
  by_cases c1 : 0 ≤ v2 ∧ v2 < M 100 2
  case neg =>
    refine ⟨1, ?_, by omega, fun _ => ⟨_, ?_, rj 1 (by omega)⟩, fun q => by omega⟩
    · unfold f_X5_troubleOfJob
      rw [b_has0 (by omega) h2 (by rw [a1]; exact ok2), gg_pos (by decide), if_pos rfl]
    · unfold f_X6_job
      rw [gB_eq, b_pl0 (by rw [x2]; omega) h2 (by rw [x2]; exact ok2), gg_pos (by decide), if_pos rfl, b_ref]
  by_cases c2 : 0 ≤ v1 ∧ v1 ≤ 5
  case neg =>
    refine ⟨2, ?_, by omega, fun _ => ⟨_, ?_, rj 2 (by omega)⟩, fun q => by omega⟩
    · unfold f_X5_troubleOfJob
      rw [b_has1 (by omega) h2 (by rw [a1]; exact ok2), gg_pos (by decide), if_neg (by decide), b_wi0 (by omega) h1 (by decide) (by decide), gg_pos (by decide), if_pos rfl]
    · unfold f_X6_job
      rw [gB_eq, b_pl1 (by rw [x2]; omega) h2 (by rw [x2]; exact ok2), gg_pos (by decide), if_neg (by decide), b_in0 (by omega) h1 (by decide) (by decide), gg_pos (by decide), if_pos rfl, b_ref]
  by_cases c3 : 1 ≤ v3 ∧ v3 ≤ 12
  case neg =>
    refine ⟨2, ?_, by omega, fun _ => ⟨_, ?_, rj 2 (by omega)⟩, fun q => by omega⟩
    · unfold f_X5_troubleOfJob
      rw [b_has1 (by omega) h2 (by rw [a1]; exact ok2), gg_pos (by decide), if_neg (by decide), b_wi1 (by omega) h1 (by decide) (by decide), gg_pos (by decide), if_neg (by decide), b_wi0 (by omega) h3 (by decide) (by decide), gg_pos (by decide), if_pos rfl]
    · unfold f_X6_job
      rw [gB_eq, b_pl1 (by rw [x2]; omega) h2 (by rw [x2]; exact ok2), gg_pos (by decide), if_neg (by decide), b_in1 (by omega) h1 (by decide) (by decide), gg_pos (by decide), if_neg (by decide), b_in0 (by omega) h3 (by decide) (by decide), gg_pos (by decide), if_pos rfl, b_ref]
  by_cases c4 : (0 ≤ v6 ∧ v6 ≤ 99) ∧ (0 ≤ v5 ∧ v5 ≤ 300) ∧ M 100 4 ≤ v4 ∧ v4 ≤ v5 - v3
  case neg =>
    refine ⟨2, ?_, by omega, fun _ => ⟨_, ?_, rj 2 (by omega)⟩, fun q => by omega⟩
    · unfold f_X5_troubleOfJob
      rw [b_has1 (by omega) h2 (by rw [a1]; exact ok2), gg_pos (by decide), if_neg (by decide), b_wi1 (by omega) h1 (by decide) (by decide), gg_pos (by decide), if_neg (by decide), b_wi1 (by omega) h3 (by decide) (by decide), gg_pos (by decide), if_neg (by decide)]
      by_cases d6 : 0 ≤ v6 ∧ v6 ≤ 99
      · rw [b_wi1 d6 h6 (by decide) (by decide), gg_pos (by decide), if_neg (by decide)]
        by_cases d5 : 0 ≤ v5 ∧ v5 ≤ 300
        · rw [b_wi1 d5 h5 (by decide) (by decide), gg_pos (by decide), if_neg (by decide), a7, b_wi0 (by omega) h4 ok4 ⟨by omega, by omega⟩, gg_pos (by decide), if_pos rfl]
        · rw [b_wi0 (by omega) h5 (by decide) (by decide), gg_pos (by decide), if_pos rfl]
      · rw [b_wi0 (by omega) h6 (by decide) (by decide), gg_pos (by decide), if_pos rfl]
    · unfold f_X6_job
      rw [gB_eq, b_pl1 (by rw [x2]; omega) h2 (by rw [x2]; exact ok2), gg_pos (by decide), if_neg (by decide), b_in1 (by omega) h1 (by decide) (by decide), gg_pos (by decide), if_neg (by decide), b_in1 (by omega) h3 (by decide) (by decide), gg_pos (by decide), if_neg (by decide), gg_pos h4, x4, gg_pos ok4]
      by_cases d4 : M 100 4 ≤ v4
      · rw [if_pos d4]
        by_cases d5 : 0 ≤ v5 ∧ v5 ≤ 300
        · rw [b_in1 d5 h5 (by decide) (by decide), gg_pos (by decide), if_neg (by decide), gg_pos ⟨by omega, by omega⟩]
          by_cases d7 : v4 ≤ v5 - v3
          · rw [if_pos d7, b_in0 (by omega) h6 (by decide) (by decide), gg_pos (by decide), if_pos rfl, b_ref]
          · rw [if_neg d7, b_ref]
        · rw [b_in0 (by omega) h5 (by decide) (by decide), gg_pos (by decide), if_pos rfl, b_ref]
      · rw [if_neg d4, b_ref]
  obtain ⟨d6, d5, d4, d7⟩ := c4
  have pre : ∀ t, (if (n : Int) < 40 then some (0 : Int) else some 3) = some t → f_X5_troubleOfJob G n M v1 v2 v3 v4 v5 v6 = some t := by
    intro t ht
    unfold f_X5_troubleOfJob
    rw [b_has1 (by omega) h2 (by rw [a1]; exact ok2), gg_pos (by decide), if_neg (by decide), b_wi1 (by omega) h1 (by decide) (by decide), gg_pos (by decide), if_neg (by decide), b_wi1 (by omega) h3 (by decide) (by decide), gg_pos (by decide), if_neg (by decide), b_wi1 d6 h6 (by decide) (by decide), gg_pos (by decide), if_neg (by decide), b_wi1 d5 h5 (by decide) (by decide), gg_pos (by decide), if_neg (by decide), a7, b_wi1 (by omega) h4 ok4 ⟨by omega, by omega⟩, gg_pos (by decide), if_neg (by decide), b_size, a4, gg_pos ⟨by omega, by omega⟩]
    exact ht
  by_cases c8 : n = 40
  · refine ⟨3, pre 3 (by rw [if_neg (by omega)]), by omega, fun _ => ⟨_, ?_, rj 3 (by omega)⟩, fun q => by omega⟩
    unfold f_X6_job
    rw [gB_eq, b_pl1 (by rw [x2]; omega) h2 (by rw [x2]; exact ok2), gg_pos (by decide), if_neg (by decide), b_in1 (by omega) h1 (by decide) (by decide), gg_pos (by decide), if_neg (by decide), b_in1 (by omega) h3 (by decide) (by decide), gg_pos (by decide), if_neg (by decide), gg_pos h4, x4, gg_pos ok4, if_pos d4, b_in1 d5 h5 (by decide) (by decide), gg_pos (by decide), if_neg (by decide), gg_pos ⟨by omega, by omega⟩, if_pos d7, b_in1 d6 h6 (by decide) (by decide), gg_pos (by decide), if_neg (by decide), x3, gg_pos ⟨by omega, by omega⟩, if_pos (by omega), b_ref]
  · refine ⟨0, pre 0 (by rw [if_pos (by omega)]), by omega, fun q => absurd rfl q, fun _ => ⟨by omega, fun c => ?_⟩⟩
    obtain ⟨C, hC⟩ : ∃ C, C = njb M n c v1 v2 v3 v4 v5 v6 := ⟨_, rfl⟩
    rw [← hC]
    have k100 : ∀ b, C 100 b = M 100 b := fun b => by
      rw [hC]
      unfold njb
      rw [ga_st_id (by omega), ga_st_id (by omega), setr_ne (by omega), ga_st_id (by omega)]
    have kr : ∀ a, a ≠ 0 → a ≠ 2 → a ≠ 200 + n → C a = M a := fun a q1 q2 q3 => by
      rw [hC]
      unfold njb
      rw [ga_st_row _ q2, ga_st_row _ q2, setr_ne q3, ga_st_row _ q1]
    have kw : C (200 + n) = jrow v1 v2 v3 v4 v5 v6 := by
      rw [hC]
      unfold njb
      rw [ga_st_row _ (by omega), ga_st_row _ (by omega), setr_self]
    have k0 : ∀ b, b ≠ 10 → C 0 b = M 0 b := fun b hb => by
      rw [hC]
      unfold njb
      rw [ga_st_id (by omega), ga_st_id (by omega), setr_ne (by omega), ga_st_ix hb]
    have k010 : C 0 10 = 0 := by
      rw [hC]
      unfold njb
      rw [ga_st_id (by omega), ga_st_id (by omega), setr_ne (by omega), ga_st_self]
    have k22 : C 2 2 = (n : Int) + 1 := by
      rw [hC]
      unfold njb
      rw [ga_st_self]
    obtain ⟨B, hB⟩ : ∃ B, B = ga_st (ga_st (ga_st (ga_st (ga_st (ga_st (ga_st (ga_st (ga_st (ga_st (ga_st (ga_st (ga_st C 100 0 0) 109 n v1) 110 n v2) 111 n v3) 112 n v4) 113 n v5) 114 n v6) 115 n 0) 116 n (-1)) 117 n (-1)) 118 n 0) 100 3 ((n : Int) + 1)) 100 1 0 := ⟨_, rfl⟩
    refine ⟨B, ?_, ?_⟩
    · have y2 : (ga_st C 100 0 0) 100 2 = M 100 2 := by rw [ga_st_ix (by omega)]; exact k100 2
      have y4 : (ga_st C 100 0 0) 100 4 = M 100 4 := by rw [ga_st_ix (by omega)]; exact k100 4
      have y3 : (ga_st C 100 0 0) 100 3 = (n : Int) := by rw [ga_st_ix (by omega), k100 3]; exact a5
      unfold f_X6_job
      rw [gB_eq, b_pl1 (by rw [y2]; omega) h2 (by rw [y2]; exact ok2), gg_pos (by decide), if_neg (by decide), b_in1 (by omega) h1 (by decide) (by decide), gg_pos (by decide), if_neg (by decide), b_in1 (by omega) h3 (by decide) (by decide), gg_pos (by decide), if_neg (by decide), gg_pos h4, y4, gg_pos ok4, if_pos d4, b_in1 d5 h5 (by decide) (by decide), gg_pos (by decide), if_neg (by decide), gg_pos ⟨by omega, by omega⟩, if_pos d7, b_in1 d6 h6 (by decide) (by decide), gg_pos (by decide), if_neg (by decide), y3, gg_pos (show ok (n : Int) from ⟨by omega, by omega⟩), if_neg (by omega)]
      have hix : ix (n : Int) 40 := ⟨by omega, by omega⟩
      have yk : ∀ (X : gaM) (a j : Nat) (v : Int), a ≠ 100 → X 100 3 = (n : Int) → (ga_st X a j v) 100 3 = (n : Int) := fun X a j v q1 q2 => by rw [ga_st_id (by omega)]; exact q2
      rw [gg_pos hix, gB_eq, Int.toNat_natCast]
      have z1 := yk _ 109 n v1 (by omega) y3
      rw [z1, gg_pos hix, gB_eq, Int.toNat_natCast]
      have z2 := yk _ 110 n v2 (by omega) z1
      rw [z2, gg_pos hix, gB_eq, Int.toNat_natCast]
      have z3 := yk _ 111 n v3 (by omega) z2
      rw [z3, gg_pos hix, gB_eq, Int.toNat_natCast]
      have z4 := yk _ 112 n v4 (by omega) z3
      rw [z4, gg_pos hix, gB_eq, Int.toNat_natCast]
      have z5 := yk _ 113 n v5 (by omega) z4
      rw [z5, gg_pos hix, gB_eq, Int.toNat_natCast]
      have z6 := yk _ 114 n v6 (by omega) z5
      rw [z6, gg_pos hix, gB_eq, Int.toNat_natCast]
      have z7 := yk _ 115 n 0 (by omega) z6
      rw [z7, gg_pos hix, gB_eq, Int.toNat_natCast]
      have z8 := yk _ 116 n (-1) (by omega) z7
      rw [z8, gg_pos hix, gB_eq, Int.toNat_natCast]
      have z9 := yk _ 117 n (-1) (by omega) z8
      rw [z9, gg_pos hix, gB_eq, Int.toNat_natCast]
      have z10 := yk _ 118 n 0 (by omega) z9
      rw [z10, gB_eq, ga_st_self, b_don, ← hB, show (n : Int) + 1 - 1 = (n : Int) by omega]
    · have bc : ∀ a, a < 100 ∨ 118 < a → B a = C a := by
        intro a ha
        rw [hB]
        simp (disch := omega) only [ga_st_row]
      have bm : ∀ a, 101 ≤ a → a ≤ 108 → B a = M a := by
        intro a q1 q2
        rw [hB]
        simp (disch := omega) only [ga_st_row]
        exact kr a (by omega) (by omega) (by omega)
      have b100 : ∀ b, b ≠ 0 → b ≠ 1 → b ≠ 3 → B 100 b = M 100 b := by
        intro b q1 q2 q3
        rw [hB]
        simp (disch := omega) only [ga_st_id, ga_st_ix]
        exact k100 b
      have b1003 : B 100 3 = (n : Int) + 1 := by
        rw [hB, ga_st_ix (by omega), ga_st_self]
      have b1001 : B 100 1 = 0 := by rw [hB, ga_st_self]
      have bj : ∀ a j, 109 ≤ a → a ≤ 118 → j ≠ n → B a j = M a j := by
        intro a j q1 q2 q3
        rw [hB]
        simp (disch := omega) only [ga_st_id, ga_st_ix]
        rw [kr a (by omega) (by omega) (by omega)]
      have n109 : B 109 n = v1 := by rw [hB]; simp (disch := omega) only [ga_st_id, ga_st_self]
      have n110 : B 110 n = v2 := by rw [hB]; simp (disch := omega) only [ga_st_id, ga_st_self]
      have n111 : B 111 n = v3 := by rw [hB]; simp (disch := omega) only [ga_st_id, ga_st_self]
      have n112 : B 112 n = v4 := by rw [hB]; simp (disch := omega) only [ga_st_id, ga_st_self]
      have n113 : B 113 n = v5 := by rw [hB]; simp (disch := omega) only [ga_st_id, ga_st_self]
      have n114 : B 114 n = v6 := by rw [hB]; simp (disch := omega) only [ga_st_id, ga_st_self]
      have n115 : B 115 n = 0 := by rw [hB]; simp (disch := omega) only [ga_st_id, ga_st_self]
      have n116 : B 116 n = -1 := by rw [hB]; simp (disch := omega) only [ga_st_id, ga_st_self]
      have n117 : B 117 n = -1 := by rw [hB]; simp (disch := omega) only [ga_st_id, ga_st_self]
      have n118 : B 118 n = 0 := by rw [hB]; simp (disch := omega) only [ga_st_id, ga_st_self]
      have bM : ∀ a, a ≠ 0 → a ≠ 2 → a ≠ 200 + n → a < 100 ∨ 118 < a → B a = M a := fun a q1 q2 q3 q4 => by rw [bc a q4, kr a q1 q2 q3]
      refine ⟨?_, h.2.1.of (fun a ha => bM _ (by omega) (by omega) (by omega) (by omega)) (bm _ (by omega) (by omega)) (b100 2 (by omega) (by omega) (by omega)) a3, h.2.2.1.of (fun a ha => bM _ (by omega) (by omega) (by omega) (by omega)) (bm _ (by omega) (by omega)) (bm _ (by omega) (by omega)) (b100 2 (by omega) (by omega) (by omega)) a3, fun j hj => ?_, fun p x q1 q2 q3 => ?_, fun o ho => ?_, ?_⟩
      · unfold iA
        rw [bM 1 (by omega) (by omega) (by omega) (by omega), b100 2 (by omega) (by omega) (by omega), b100 4 (by omega) (by omega) (by omega), b100 5 (by omega) (by omega) (by omega), b1003, b1001, bc 2 (by omega), k22, bc 0 (by omega), k0 9 (by omega), k0 8 (by omega), k010]
        exact ⟨a1, a2, a3, rfl, rfl, by omega, a7, a8, a9, a10, a11, a12, rfl, by omega, by omega⟩
      · by_cases e : j = n
        · subst e
          refine ⟨?_, ?_, ?_⟩
          · unfold iJ1
            rw [bc (200 + j) (by omega), kw, n109, n110, n111, n112, n113, n114, n115, n116, n117, n118]
            exact ⟨rfl, rfl, rfl, rfl, rfl, rfl, rfl, rfl, rfl, rfl⟩
          · unfold iJ2
            rw [n109, n110, n111, n112, n113, n114, b100 2 (by omega) (by omega) (by omega)]
            omega
          · unfold iJ3
            rw [n115, n116, n117, n118, b100 4 (by omega) (by omega) (by omega)]
            exact ⟨by omega, by omega, fun q => by omega, fun q => by omega, fun q => by omega, by omega, by omega, fun _ => rfl⟩
        · exact iJ.of (h.2.2.2.1 j (by omega)) (bM _ (by omega) (by omega) (by omega) (by omega)) (fun a q1 q2 => bj a j q1 q2 e) (b100 2 (by omega) (by omega) (by omega)) (b100 4 (by omega) (by omega) (by omega))
      · rw [b100 2 (by omega) (by omega) (by omega)] at q1
        rw [b100 4 (by omega) (by omega) (by omega)] at q2
        rw [bM _ (by omega) (by omega) (by omega) (by omega), bm 106 (by omega) (by omega), h.2.2.2.2.1 p x q1 q2 q3]
        show _ = _ - (sm (oc B p x) 0 n + oc B p x (0 + n))
        have e0 : oc B p x (0 + n) = 0 := by
          unfold oc
          rw [Nat.zero_add, n115, if_neg (by omega)]
        rw [e0, Int.add_zero]
        congr 1
        refine sm_congr (fun i hi => ?_)
        rw [Nat.zero_add]
        unfold oc
        rw [bj 115 i (by omega) (by omega) (by omega), bj 116 i (by omega) (by omega) (by omega), bj 117 i (by omega) (by omega) (by omega), bj 111 i (by omega) (by omega) (by omega)]
      · rw [bM 3 (by omega) (by omega) (by omega) (by omega), h.2.2.2.2.2.1 o ho]
        show _ = sm (dl B o) 0 n + dl B o (0 + n)
        have e0 : dl B o (0 + n) = 0 := by
          unfold dl
          rw [Nat.zero_add, n115, if_neg (by omega)]
        rw [e0, Int.add_zero]
        refine sm_congr (fun i hi => ?_)
        rw [Nat.zero_add]
        unfold dl
        rw [bj 109 i (by omega) (by omega) (by omega), bj 115 i (by omega) (by omega) (by omega), bj 117 i (by omega) (by omega) (by omega), bj 112 i (by omega) (by omega) (by omega)]
      · have hl := iL.of h.2.2.2.2.2.2 (b100 29 (by omega) (by omega) (by omega)) (by rw [bM 4 (by omega) (by omega) (by omega) (by omega)]) (bM 40 (by omega) (by omega) (by omega) (by omega)) (bM 41 (by omega) (by omega) (by omega) (by omega)) (bM 42 (by omega) (by omega) (by omega) (by omega)) (bM 124 (by omega) (by omega) (by omega) (by omega)) (bM 125 (by omega) (by omega) (by omega) (by omega)) (bM 126 (by omega) (by omega) (by omega) (by omega))
        rcases hl with q | ⟨L, l1, l2, l3⟩
        · exact Or.inl q
        · exact Or.inr ⟨L, l1, by omega, l3⟩
end JB

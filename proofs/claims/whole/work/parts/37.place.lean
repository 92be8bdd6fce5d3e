/-! ===== pure: place ===== -/
section M5
variable {n G : Nat} {M : gaM}
theorem p_add1 {p : Nat} {v : Int} (hp : p < 4) : ∀ (k x F : Nat) (M : gaM), x + k = 300 → k < F → l_X2_add_17 G n F M v (p : Int) (x : Int) = some (setr (setr M (21 + p) (str (M (21 + p)) x k 500)) (31 + p) (str (M (31 + p)) x k v)) := by
  intro k
  induction k with
  | zero =>
    intro x F M hx hF
    obtain ⟨F, rfl⟩ : ∃ F1, F = F1 + 1 := ⟨F - 1, by omega⟩
    rw [l_X2_add_17]
    try simp only [Int.toNat_natCast, tn300, tn4, Nat.reduceMul, Nat.reduceAdd]
    try simp (disch := (first | omega | (simp (disch := omega) only [ga_st_self, ga_st_id, ga_st_ix] <;> omega) | skip)) only [↓gb_of, ↓gb2_of, ↓gb3_of, ↓gB_eq, ↓gg_pos, ↓if_pos, ↓if_neg, ↓b_wi1, ↓b_wi0, ↓b_has1, ↓b_has0, ↓b_in1, ↓b_in0, ↓b_pl1, ↓b_pl0, ↓b_jm1, ↓b_jm0, ↓b_jc1, ↓b_jc0, ↓b_size, ↓b_get, ↓b_ref, ↓b_den, ↓b_gra, ↓b_don]
    rw [str_zero, setr_id, str_zero, setr_id]
  | succ k ih =>
    intro x F M hx hF
    obtain ⟨F, rfl⟩ : ∃ F1, F = F1 + 1 := ⟨F - 1, by omega⟩
    rw [l_X2_add_17]
    try simp only [Int.toNat_natCast, tn300, tn4, Nat.reduceMul, Nat.reduceAdd]
    try simp (disch := (first | omega | (simp (disch := omega) only [ga_st_self, ga_st_id, ga_st_ix] <;> omega) | skip)) only [↓gb_of, ↓gb2_of, ↓gb3_of, ↓gB_eq, ↓gg_pos, ↓if_pos, ↓if_neg, ↓b_wi1, ↓b_wi0, ↓b_has1, ↓b_has0, ↓b_in1, ↓b_in0, ↓b_pl1, ↓b_pl0, ↓b_jm1, ↓b_jm0, ↓b_jc1, ↓b_jc0, ↓b_size, ↓b_get, ↓b_ref, ↓b_den, ↓b_gra, ↓b_don]
    rw [show ((x : Int) + 1) = ((x + 1 : Nat) : Int) from rfl, ih (x + 1) F _ (by omega) (by omega)]
    congr 1
    rw [ga_st_row _ (show 21 + p ≠ 31 + p by omega)]
    funext a b
    by_cases c1 : a = 31 + p
    · subst c1
      rw [setr_self, setr_self, st_setr, setr_self, str_first, st_setr, setr_ne (by omega)]
    · rw [setr_ne c1, setr_ne c1]
      by_cases c2 : a = 21 + p
      · subst c2
        rw [setr_self, setr_self, st_setr, setr_self, str_first]
      · rw [setr_ne c2, setr_ne c2, ga_st_row _ c1, ga_st_row _ c2]
theorem p_add2 {p : Nat} (hp : p < 4) : ∀ (k x F : Nat) (M : gaM), x + k = p → k < F → ∃ M', l_X2_add_52 G n F M (p : Int) (x : Int) = some M' ∧ ∀ a b, M' a b = if (a = 11 + p ∧ x ≤ b ∧ b < p) ∨ (11 + x ≤ a ∧ a < 11 + p ∧ b = p) then 1 else M a b := by
  intro k
  induction k with
  | zero =>
    intro x F M hx hF
    obtain ⟨F, rfl⟩ : ∃ F1, F = F1 + 1 := ⟨F - 1, by omega⟩
    refine ⟨M, ?_, fun a b => by rw [if_neg (by omega)]⟩
    rw [l_X2_add_52]
    try simp only [Int.toNat_natCast, tn300, tn4, Nat.reduceMul, Nat.reduceAdd]
    try simp (disch := (first | omega | (simp (disch := omega) only [ga_st_self, ga_st_id, ga_st_ix] <;> omega) | skip)) only [↓gb_of, ↓gb2_of, ↓gb3_of, ↓gB_eq, ↓gg_pos, ↓if_pos, ↓if_neg, ↓b_wi1, ↓b_wi0, ↓b_has1, ↓b_has0, ↓b_in1, ↓b_in0, ↓b_pl1, ↓b_pl0, ↓b_jm1, ↓b_jm0, ↓b_jc1, ↓b_jc0, ↓b_size, ↓b_get, ↓b_ref, ↓b_den, ↓b_gra, ↓b_don]
  | succ k ih =>
    intro x F M hx hF
    obtain ⟨F, rfl⟩ : ∃ F1, F = F1 + 1 := ⟨F - 1, by omega⟩
    obtain ⟨M', e1, e2⟩ := ih (x + 1) F (ga_st (ga_st M (11 + p) x 1) (11 + x) p 1) (by omega) (by omega)
    refine ⟨M', ?_, fun a b => ?_⟩
    · rw [l_X2_add_52]
      try simp only [Int.toNat_natCast, tn300, tn4, Nat.reduceMul, Nat.reduceAdd]
      try simp (disch := (first | omega | (simp (disch := omega) only [ga_st_self, ga_st_id, ga_st_ix] <;> omega) | skip)) only [↓gb_of, ↓gb2_of, ↓gb3_of, ↓gB_eq, ↓gg_pos, ↓if_pos, ↓if_neg, ↓b_wi1, ↓b_wi0, ↓b_has1, ↓b_has0, ↓b_in1, ↓b_in0, ↓b_pl1, ↓b_pl0, ↓b_jm1, ↓b_jm0, ↓b_jc1, ↓b_jc0, ↓b_size, ↓b_get, ↓b_ref, ↓b_den, ↓b_gra, ↓b_don]
      rw [show ((x : Int) + 1) = ((x + 1 : Nat) : Int) from rfl, e1]
    · rw [e2]
      unfold ga_st
      by_cases c : (a = 11 + p ∧ x + 1 ≤ b ∧ b < p) ∨ (11 + (x + 1) ≤ a ∧ a < 11 + p ∧ b = p)
      · rw [if_pos c, if_pos (by omega)]
      · rw [if_neg c]
        by_cases c1 : a = 11 + x ∧ b = p
        · rw [if_pos c1, if_pos (by omega)]
        · rw [if_neg c1]
          by_cases c2 : a = 11 + p ∧ b = x
          · rw [if_pos c2, if_pos (by omega)]
          · rw [if_neg c2, if_neg (by omega)]
theorem p_add {p : Nat} {v : Int} (hG : 5000 ≤ G) (hp : p < 4) (h1 : M 1 0 = (p : Int)) : ∃ M', f_X2_add G n M v = some ((p : Int), M') ∧ ∀ a b, M' a b = if a = 1 ∧ b = 0 then (p : Int) + 1 else if a = 21 + p ∧ b < 300 then 500 else if a = 31 + p ∧ b < 300 then v else if (a = 11 + p ∧ b < p) ∨ (11 ≤ a ∧ a < 11 + p ∧ b = p) then 1 else M a b := by
  have e1 := p_add1 (G := G) (n := n) (p := p) (v := v) hp 300 0 G (ga_st M 1 0 ((p : Int) + 1)) rfl (by omega)
  obtain ⟨M', e2, e3⟩ := p_add2 (G := G) (n := n) hp p 0 G (setr (setr (ga_st M 1 0 ((p : Int) + 1)) (21 + p) (str (ga_st M 1 0 ((p : Int) + 1) (21 + p)) 0 300 500)) (31 + p) (str (ga_st M 1 0 ((p : Int) + 1) (31 + p)) 0 300 v)) (by omega) (by omega)
  refine ⟨M', ?_, fun a b => ?_⟩
  · unfold f_X2_add
    simp only [h1]
    rw [gB_eq]
    refine (gb_eq e1).trans ?_
    exact gb_eq e2
  · rw [e3]
    by_cases c1 : (a = 11 + p ∧ 0 ≤ b ∧ b < p) ∨ (11 + 0 ≤ a ∧ a < 11 + p ∧ b = p)
    · rw [if_pos c1, if_neg (by omega), if_neg (by omega), if_neg (by omega), if_pos (by omega)]
    · rw [if_neg c1]
      by_cases c2 : a = 31 + p
      · subst c2
        rw [setr_self, if_neg (by omega), if_neg (by omega)]
        unfold str
        by_cases c3 : b < 300
        · rw [if_pos (by omega), if_pos (by omega)]
        · rw [if_neg (by omega), if_neg (by omega), if_neg (by omega), ga_st_id (by omega)]
      · rw [setr_ne c2]
        by_cases c4 : a = 21 + p
        · subst c4
          rw [setr_self, if_neg (by omega)]
          unfold str
          by_cases c3 : b < 300
          · rw [if_pos (by omega), if_pos (by omega)]
          · rw [if_neg (by omega), if_neg (by omega), if_neg (by omega), if_neg (by omega), ga_st_id (by omega)]
        · rw [setr_ne c4]
          unfold ga_st
          by_cases c5 : a = 1 ∧ b = 0
          · rw [if_pos c5, if_pos c5]
          · rw [if_neg c5, if_neg c5, if_neg (by omega), if_neg (by omega), if_neg (by omega)]
theorem e_place {v1 : Int} (hG : 5000 ≤ G) (h : Inv n M) (hv1 : ok v1) : ∃ r Mc Mm, f_X5_place G n M v1 = some (r, Mc) ∧ f_X6_place G n Mc v1 = some (r, Mm) ∧ Inv n Mm := by
  obtain ⟨a1, a2, a3, a4, a5, a6, a7, a8, a9, a10, a11, a12, a13, a14, a15⟩ := h.1
  have rj : ∀ t : Int, 0 ≤ t ∧ t ≤ 4 → ¬ t = 0 → f_X5_troubleOfPlace G n M v1 = some t → f_X5_place G n M v1 = some (-1, ga_st M 0 10 t) := by
    intro t ht h0 e
    unfold f_X5_place
    rw [gb_eq e]
    try simp (disch := (first | omega | (simp (disch := omega) only [ga_st_self, ga_st_id, ga_st_ix] <;> omega) | skip)) only [↓gb_of, ↓gb2_of, ↓gb3_of, ↓gB_eq, ↓gg_pos, ↓if_pos, ↓if_neg, ↓b_wi1, ↓b_wi0, ↓b_has1, ↓b_has0, ↓b_in1, ↓b_in0, ↓b_pl1, ↓b_pl0, ↓b_jm1, ↓b_jm0, ↓b_jc1, ↓b_jc0, ↓b_size, ↓b_get, ↓b_ref, ↓b_den, ↓b_gra, ↓b_don]
  by_cases c1 : 1 ≤ v1 ∧ v1 ≤ 9
  · by_cases c2 : M 100 2 < 4
    · obtain ⟨p, hp⟩ : ∃ p : Nat, M 100 2 = (p : Int) := ⟨(M 100 2).toNat, by omega⟩
      have t1 : f_X5_troubleOfPlace G n M v1 = some 0 := by
        unfold f_X5_troubleOfPlace
        try simp (disch := (first | omega | (simp (disch := omega) only [ga_st_self, ga_st_id, ga_st_ix] <;> omega) | skip)) only [↓gb_of, ↓gb2_of, ↓gb3_of, ↓gB_eq, ↓gg_pos, ↓if_pos, ↓if_neg, ↓b_wi1, ↓b_wi0, ↓b_has1, ↓b_has0, ↓b_in1, ↓b_in0, ↓b_pl1, ↓b_pl0, ↓b_jm1, ↓b_jm0, ↓b_jc1, ↓b_jc0, ↓b_size, ↓b_get, ↓b_ref, ↓b_den, ↓b_gra, ↓b_don]
      obtain ⟨Mc, e1, e2⟩ := p_add (G := G) (n := n) (M := ga_st M 0 10 0) (p := p) (v := v1) hG (by omega) (by rw [ga_st_id (by decide), a1, hp])
      have r100 : ∀ b, Mc 100 b = M 100 b := fun b => by
        rw [e2, if_neg (by omega), if_neg (by omega), if_neg (by omega), if_neg (by omega), ga_st_id (by decide)]
      refine ⟨(p : Int), Mc, ga_st (ga_st (ga_st (ga_st Mc 100 0 0) 106 p v1) 100 2 ((p : Int) + 1)) 100 1 0, ?_, ?_, ?_⟩
      · unfold f_X5_place
        rw [gb_eq t1]
        try simp (disch := (first | omega | (simp (disch := omega) only [ga_st_self, ga_st_id, ga_st_ix] <;> omega) | skip)) only [↓gb_of, ↓gb2_of, ↓gb3_of, ↓gB_eq, ↓gg_pos, ↓if_pos, ↓if_neg, ↓b_wi1, ↓b_wi0, ↓b_has1, ↓b_has0, ↓b_in1, ↓b_in0, ↓b_pl1, ↓b_pl0, ↓b_jm1, ↓b_jm0, ↓b_jc1, ↓b_jc0, ↓b_size, ↓b_get, ↓b_ref, ↓b_den, ↓b_gra, ↓b_don]
        rw [gb2_eq e1]
      · unfold f_X6_place
        rw [gB_eq]
        have q2 : ga_st Mc 100 0 0 100 2 = (p : Int) := by rw [ga_st_ix (by decide), r100, hp]
        have q3 : ∀ v, ga_st (ga_st Mc 100 0 0) 106 p v 100 2 = (p : Int) := fun v => by rw [ga_st_id (by decide), q2]
        have q4 : ∀ v w, ga_st (ga_st (ga_st Mc 100 0 0) 106 p v) 100 2 w 100 2 - 1 = w - 1 := fun v w => by rw [ga_st_self]
        simp only [q2]
        try simp (disch := (first | omega | (simp (disch := omega) only [ga_st_self, ga_st_id, ga_st_ix] <;> omega) | skip)) only [↓gb_of, ↓gb2_of, ↓gb3_of, ↓gB_eq, ↓gg_pos, ↓if_pos, ↓if_neg, ↓b_wi1, ↓b_wi0, ↓b_has1, ↓b_has0, ↓b_in1, ↓b_in0, ↓b_pl1, ↓b_pl0, ↓b_jm1, ↓b_jm0, ↓b_jc1, ↓b_jc0, ↓b_size, ↓b_get, ↓b_ref, ↓b_den, ↓b_gra, ↓b_don]
        try simp only [Int.toNat_natCast, tn300, tn4, Nat.reduceMul, Nat.reduceAdd]
        simp only [q3, q4]
        try simp (disch := (first | omega | (simp (disch := omega) only [ga_st_self, ga_st_id, ga_st_ix] <;> omega) | skip)) only [↓gb_of, ↓gb2_of, ↓gb3_of, ↓gB_eq, ↓gg_pos, ↓if_pos, ↓if_neg, ↓b_wi1, ↓b_wi0, ↓b_has1, ↓b_has0, ↓b_in1, ↓b_in0, ↓b_pl1, ↓b_pl0, ↓b_jm1, ↓b_jm0, ↓b_jc1, ↓b_jc0, ↓b_size, ↓b_get, ↓b_ref, ↓b_den, ↓b_gra, ↓b_don]
        rw [show ((p : Int) + 1 - 1) = (p : Int) by omega]
      · have hr : ∀ a, rel a → a ≠ 106 → ∀ b, ga_st (ga_st (ga_st (ga_st Mc 100 0 0) 106 p v1) 100 2 ((p : Int) + 1)) 100 1 0 a b = if a = 21 + p ∧ b < 300 then 500 else if a = 31 + p ∧ b < 300 then v1 else if (a = 11 + p ∧ b < p) ∨ (11 ≤ a ∧ a < 11 + p ∧ b = p) then 1 else M a b := by
          intro a ha q1 b
          unfold rel at ha
          rw [ga_st_id (by omega), ga_st_id (by omega), ga_st_id (by omega), ga_st_id (by omega), e2, if_neg (by omega)]
          congr 3
          rw [ga_st_id (by omega)]
        have h106 : ∀ b, ga_st (ga_st (ga_st (ga_st Mc 100 0 0) 106 p v1) 100 2 ((p : Int) + 1)) 100 1 0 106 b = if b = p then v1 else M 106 b := by
          intro b
          rw [ga_st_id (by omega), ga_st_id (by omega)]
          by_cases c : b = p
          · subst c
            rw [ga_st_self, if_pos rfl]
          · rw [ga_st_ix c, if_neg c, ga_st_id (by omega), e2, if_neg (by omega), if_neg (by omega), if_neg (by omega), if_neg (by omega), ga_st_id (by omega)]
        have hs : ∀ q, q ≠ 0 → q ≠ 1 → q ≠ 2 → ga_st (ga_st (ga_st (ga_st Mc 100 0 0) 106 p v1) 100 2 ((p : Int) + 1)) 100 1 0 100 q = M 100 q := by
          intro q k0 k1 k2
          rw [ga_st_ix (by omega), ga_st_ix (by omega), ga_st_id (by omega), ga_st_ix (by omega), r100]
        have h2 : ga_st (ga_st (ga_st (ga_st Mc 100 0 0) 106 p v1) 100 2 ((p : Int) + 1)) 100 1 0 100 2 = (p : Int) + 1 := by
          rw [ga_st_ix (by omega), ga_st_self]
        have h44 : ga_st (ga_st (ga_st (ga_st Mc 100 0 0) 106 p v1) 100 2 ((p : Int) + 1)) 100 1 0 4 4 = M 4 4 := by
          rw [ga_st_id (by omega), ga_st_id (by omega), ga_st_id (by omega), ga_st_id (by omega), e2, if_neg (by omega), if_neg (by omega), if_neg (by omega), if_neg (by omega), ga_st_id (by omega)]
        have hA' : iA n (ga_st (ga_st (ga_st (ga_st Mc 100 0 0) 106 p v1) 100 2 ((p : Int) + 1)) 100 1 0) := by
          have z0 : ∀ a q, a < 3 → ga_st (ga_st (ga_st (ga_st Mc 100 0 0) 106 p v1) 100 2 ((p : Int) + 1)) 100 1 0 a q = if a = 1 ∧ q = 0 then (p : Int) + 1 else ga_st M 0 10 0 a q := fun a q ha => by
            rw [ga_st_id (by omega), ga_st_id (by omega), ga_st_id (by omega), ga_st_id (by omega), e2]
            by_cases c : a = 1 ∧ q = 0
            · rw [if_pos c, if_pos c]
            · rw [if_neg c, if_neg c, if_neg (by omega), if_neg (by omega), if_neg (by omega)]
          unfold iA
          rw [h2, hs 3 (by omega) (by omega) (by omega), hs 4 (by omega) (by omega) (by omega), hs 5 (by omega) (by omega) (by omega), z0 0 8 (by omega), z0 0 9 (by omega), z0 0 10 (by omega), z0 1 0 (by omega), z0 2 2 (by omega), ga_st_self]
          simp [ga_st]
          omega
        generalize ga_st (ga_st (ga_st (ga_st Mc 100 0 0) 106 p v1) 100 2 ((p : Int) + 1)) 100 1 0 = M' at hr h106 hs h2 h44 hA' ⊢
        obtain ⟨iA0, ⟨b1, b2, b3, b4⟩, ⟨g1, g2, g3, g4⟩, iJ0, iR0, iD0, iL0⟩ := id h
        have e : ∀ a, rel a → (a < 11 ∨ (40 ≤ a)) → a ≠ 106 → ∀ b, M' a b = M a b := fun a q1 q2 q3 b => by
          rw [hr a q1 q3, if_neg (by omega), if_neg (by omega), if_neg (by omega)]
        have er : ∀ a, rel a → (a < 11 ∨ (40 ≤ a)) → a ≠ 106 → M' a = M a := fun a q1 q2 q3 => by
          funext b
          exact e a q1 q2 q3 b
        have h4 := hs 4 (by omega) (by omega) (by omega)
        refine ⟨hA', ⟨fun a b ha hb => ?_, fun a b ha hb => ?_, fun a b ha hb q => ?_, fun a ha => ?_⟩, ⟨fun a b ha hb => ?_, fun a b ha hb => ?_, fun a b ha hb q => ?_, fun a ha => ?_⟩, fun i hi => ?_, ?_, iD0.of (er 3 (by unfold rel; omega) (by omega) (by omega)) (fun i hi => ⟨e _ (by unfold rel; omega) (by omega) (by omega) i, e _ (by unfold rel; omega) (by omega) (by omega) i, e _ (by unfold rel; omega) (by omega) (by omega) i, e _ (by unfold rel; omega) (by omega) (by omega) i⟩), iL0.of (hs 29 (by omega) (by omega) (by omega)) h44 (er _ (by unfold rel; omega) (by omega) (by omega)) (er _ (by unfold rel; omega) (by omega) (by omega)) (er _ (by unfold rel; omega) (by omega) (by omega)) (er _ (by unfold rel; omega) (by omega) (by omega)) (er _ (by unfold rel; omega) (by omega) (by omega)) (er _ (by unfold rel; omega) (by omega) (by omega))⟩
        · rw [h2] at ha hb
          rw [hr (11 + a) (by unfold rel; omega) (by omega), e 107 (by unfold rel; omega) (by omega) (by omega), if_neg (by omega), if_neg (by omega)]
          by_cases c : (11 + a = 11 + p ∧ b < p) ∨ (11 ≤ 11 + a ∧ 11 + a < 11 + p ∧ b = p)
          · rw [if_pos c, b3 a b (by omega) (by omega) (by omega), if_neg (by omega)]
          · rw [if_neg c]
            by_cases d : a = p
            · have hbp : b = p := by omega
              subst d
              subst hbp
              rw [b4 _ (by omega), b3 _ _ (by omega) (by omega) (by omega), if_pos rfl]
            · exact b1 a b (by omega) (by omega)
        · rw [e 107 (by unfold rel; omega) (by omega) (by omega)]
          exact b2 a b ha hb
        · rw [h2] at q
          rw [e 107 (by unfold rel; omega) (by omega) (by omega)]
          exact b3 a b ha hb (by omega)
        · rw [hr (11 + a) (by unfold rel; omega) (by omega), if_neg (by omega), if_neg (by omega), if_neg (by omega)]
          exact b4 a ha
        · rw [h2] at ha
          rw [hr (21 + a) (by unfold rel; omega) (by omega), e 108 (by unfold rel; omega) (by omega) (by omega)]
          by_cases d : a = p
          · subst d
            rw [if_pos (by omega), g3 _ _ (by omega) hb (by omega)]
          · rw [if_neg (by omega), if_neg (by omega), if_neg (by omega)]
            exact g1 a b (by omega) hb
        · rw [e 108 (by unfold rel; omega) (by omega) (by omega)]
          exact g2 a b ha hb
        · rw [h2] at q
          rw [e 108 (by unfold rel; omega) (by omega) (by omega)]
          exact g3 a b ha hb (by omega)
        · rw [h2] at ha
          rw [h106]
          by_cases d : a = p
          · rw [if_pos d]
            exact c1
          · rw [if_neg d]
            exact g4 a (by omega)
        · obtain ⟨j1, j2, j3⟩ := iJ0 i hi
          have ee : ∀ a, 109 ≤ a → a ≤ 118 → M' a i = M a i := fun a q1 q2 => e a (by unfold rel; omega) (by omega) (by omega) i
          unfold iJ1 iJ2 iJ3 at *
          rw [er (200 + i) (by unfold rel; omega) (by omega) (by omega), ee 109 (by omega) (by omega), ee 110 (by omega) (by omega), ee 111 (by omega) (by omega), ee 112 (by omega) (by omega), ee 113 (by omega) (by omega), ee 114 (by omega) (by omega), ee 115 (by omega) (by omega), ee 116 (by omega) (by omega), ee 117 (by omega) (by omega), ee 118 (by omega) (by omega), h2, h4]
          refine ⟨j1, by omega, ?_⟩
          obtain ⟨w1, w2, w3, w4⟩ := j3
          exact ⟨w1, w2, fun q => by have := w3 q; omega, w4⟩
        · intro a x ha hn h3h
          rw [h2] at ha
          rw [h4] at hn
          have es : sm (oc M' a x) 0 n = sm (oc M a x) 0 n := sm_congr (fun i _ => by
            unfold oc
            rw [e 115 (by unfold rel; omega) (by omega) (by omega), e 116 (by unfold rel; omega) (by omega) (by omega), e 117 (by unfold rel; omega) (by omega) (by omega), e 111 (by unfold rel; omega) (by omega) (by omega)])
          rw [es, hr (31 + a) (by unfold rel; omega) (by omega), h106, if_neg (by omega)]
          by_cases d : a = p
          · rw [if_pos (by omega), if_pos d]
            have ez : sm (oc M a x) 0 n = sm (fun _ => 0) 0 n := sm_congr (fun i hi => by
              obtain ⟨-, -, ⟨w1, w2, w3, w4⟩⟩ := iJ0 i hi
              rw [Nat.zero_add]
              unfold oc
              rw [if_neg]
              intro q
              have := w3 (Or.inl q.1)
              omega)
            have e0 := sm_bd (f := fun _ => (0 : Int)) (a := 0) (lo := 0) (hi := 0) (k := n) (fun i hi => by simp)
            rw [ez]
            omega
          · rw [if_neg (by omega), if_neg (by omega), if_neg d]
            exact iR0 a x (by omega) hn h3h
    · have t1 : f_X5_troubleOfPlace G n M v1 = some 3 := by
        unfold f_X5_troubleOfPlace
        try simp (disch := (first | omega | (simp (disch := omega) only [ga_st_self, ga_st_id, ga_st_ix] <;> omega) | skip)) only [↓gb_of, ↓gb2_of, ↓gb3_of, ↓gB_eq, ↓gg_pos, ↓if_pos, ↓if_neg, ↓b_wi1, ↓b_wi0, ↓b_has1, ↓b_has0, ↓b_in1, ↓b_in0, ↓b_pl1, ↓b_pl0, ↓b_jm1, ↓b_jm0, ↓b_jc1, ↓b_jc0, ↓b_size, ↓b_get, ↓b_ref, ↓b_den, ↓b_gra, ↓b_don]
      refine ⟨-1, ga_st M 0 10 3, ga_st (ga_st (ga_st M 0 10 3) 100 0 0) 100 1 3, rj 3 (by omega) (by omega) t1, ?_, h.sc (by unfold iA; simp [ga_st]; try omega) (by intro a ha; unfold rel at ha; simp (disch := omega) only [ga_st_row]) (by simp [ga_st]) (by simp [ga_st]) (by simp [ga_st]) (by simp [ga_st])⟩
      unfold f_X6_place
      try simp (disch := (first | omega | (simp (disch := omega) only [ga_st_self, ga_st_id, ga_st_ix] <;> omega) | skip)) only [↓gb_of, ↓gb2_of, ↓gb3_of, ↓gB_eq, ↓gg_pos, ↓if_pos, ↓if_neg, ↓b_wi1, ↓b_wi0, ↓b_has1, ↓b_has0, ↓b_in1, ↓b_in0, ↓b_pl1, ↓b_pl0, ↓b_jm1, ↓b_jm0, ↓b_jc1, ↓b_jc0, ↓b_size, ↓b_get, ↓b_ref, ↓b_den, ↓b_gra, ↓b_don]
  · have t1 : f_X5_troubleOfPlace G n M v1 = some 2 := by
      unfold f_X5_troubleOfPlace
      try simp (disch := (first | omega | (simp (disch := omega) only [ga_st_self, ga_st_id, ga_st_ix] <;> omega) | skip)) only [↓gb_of, ↓gb2_of, ↓gb3_of, ↓gB_eq, ↓gg_pos, ↓if_pos, ↓if_neg, ↓b_wi1, ↓b_wi0, ↓b_has1, ↓b_has0, ↓b_in1, ↓b_in0, ↓b_pl1, ↓b_pl0, ↓b_jm1, ↓b_jm0, ↓b_jc1, ↓b_jc0, ↓b_size, ↓b_get, ↓b_ref, ↓b_den, ↓b_gra, ↓b_don]
    refine ⟨-1, ga_st M 0 10 2, ga_st (ga_st (ga_st M 0 10 2) 100 0 0) 100 1 2, rj 2 (by omega) (by omega) t1, ?_, h.sc (by unfold iA; simp [ga_st]; try omega) (by intro a ha; unfold rel at ha; simp (disch := omega) only [ga_st_row]) (by simp [ga_st]) (by simp [ga_st]) (by simp [ga_st]) (by simp [ga_st])⟩
    unfold f_X6_place
    try simp (disch := (first | omega | (simp (disch := omega) only [ga_st_self, ga_st_id, ga_st_ix] <;> omega) | skip)) only [↓gb_of, ↓gb2_of, ↓gb3_of, ↓gB_eq, ↓gg_pos, ↓if_pos, ↓if_neg, ↓b_wi1, ↓b_wi0, ↓b_has1, ↓b_has0, ↓b_in1, ↓b_in0, ↓b_pl1, ↓b_pl0, ↓b_jm1, ↓b_jm0, ↓b_jc1, ↓b_jc0, ↓b_size, ↓b_get, ↓b_ref, ↓b_den, ↓b_gra, ↓b_don]
end M5

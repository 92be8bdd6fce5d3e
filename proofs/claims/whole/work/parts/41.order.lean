/-! ===== pure: the order of the WAITING ===== -/
section O1
variable {n G : Nat}
-- N: both sides' numbers before the call; A: the class's now, B: the reference's now
def stc (N A : gaM) : Prop := ∀ a, (a ≤ 3 ∨ (11 ≤ a ∧ a ≤ 14) ∨ (21 ≤ a ∧ a ≤ 24) ∨ 200 ≤ a) → A a = N a
def stm (N B : gaM) : Prop := (∀ a, 106 ≤ a → a ≤ 118 → B a = N a) ∧ ∀ b, 2 ≤ b → b ≤ 5 → B 100 b = N 100 b
abbrev bh (N : gaM) (j : Nat) : Prop := N 100 5 < N 3 (N 109 j).toNat
def rnk (N : gaM) (j : Nat) : Int := if bh N j then N 113 j else N 113 j + 300 + 1
def posR (N : gaM) (j : Nat) (L : Nat → Nat) : Nat → Nat
  | 0 => 0
  | c + 1 => if rnk N j < rnk N (L c) then posR N j L c else c + 1
def insL (L : Nat → Nat) (p j : Nat) : Nat → Nat := fun i => if i < p then L i else if i = p then j else L (i - 1)
def oS (N : gaM) : Nat → Nat × (Nat → Nat)
  | 0 => (0, fun _ => 0)
  | j + 1 => if N 115 j = 0 then ((oS N j).1 + 1, insL (oS N j).2 (posR N j (oS N j).2 (oS N j).1) j) else oS N j
theorem posR_le {N : gaM} {j : Nat} {L : Nat → Nat} : ∀ c, posR N j L c ≤ c
  | 0 => Nat.le_refl 0
  | c + 1 => by
    show (if rnk N j < rnk N (L c) then posR N j L c else c + 1) ≤ c + 1
    have := posR_le (N := N) (j := j) (L := L) c
    split <;> omega
theorem oS_ok {N : gaM} : ∀ j, (oS N j).1 ≤ j ∧ (∀ i, i < (oS N j).1 → (oS N j).2 i < j ∧ N 115 ((oS N j).2 i) = 0) ∧ ∀ i i', i < i' → i' < (oS N j).1 → (oS N j).2 i ≠ (oS N j).2 i'
  | 0 => ⟨Nat.le_refl 0, fun i h => absurd h (by show ¬ i < 0; omega), fun i i' h1 h2 => absurd h2 (by show ¬ i' < 0; omega)⟩
  | j + 1 => by
    obtain ⟨h1, h2, h3⟩ := oS_ok (N := N) j
    show (if N 115 j = 0 then ((oS N j).1 + 1, insL (oS N j).2 (posR N j (oS N j).2 (oS N j).1) j) else oS N j).1 ≤ j + 1 ∧ _
    rw [oS]
    by_cases c : N 115 j = 0
    · rw [if_pos c]
      have hp := posR_le (N := N) (j := j) (L := (oS N j).2) (oS N j).1
      refine ⟨by show (oS N j).1 + 1 ≤ j + 1; omega, fun i hi => ?_, fun i i' q1 q2 => ?_⟩
      · have hi : i < (oS N j).1 + 1 := hi
        show insL _ _ _ i < j + 1 ∧ N 115 (insL _ _ _ i) = 0
        unfold insL
        by_cases d : i < posR N j (oS N j).2 (oS N j).1
        · rw [if_pos d]
          have := h2 i (by omega)
          exact ⟨by omega, this.2⟩
        · rw [if_neg d]
          by_cases d2 : i = posR N j (oS N j).2 (oS N j).1
          · rw [if_pos d2]
            exact ⟨by omega, c⟩
          · rw [if_neg d2]
            have := h2 (i - 1) (by omega)
            exact ⟨by omega, this.2⟩
      · have q2 : i' < (oS N j).1 + 1 := q2
        show insL _ _ _ i ≠ insL _ _ _ i'
        unfold insL
        by_cases d : i < posR N j (oS N j).2 (oS N j).1
        · rw [if_pos d]
          by_cases d' : i' < posR N j (oS N j).2 (oS N j).1
          · rw [if_pos d']
            exact h3 i i' q1 (by omega)
          · rw [if_neg d']
            by_cases d2 : i' = posR N j (oS N j).2 (oS N j).1
            · rw [if_pos d2]
              have := h2 i (by omega)
              omega
            · rw [if_neg d2]
              exact h3 i (i' - 1) (by omega) (by omega)
        · rw [if_neg d]
          by_cases d2 : i = posR N j (oS N j).2 (oS N j).1
          · rw [if_pos d2, if_neg (by omega), if_neg (by omega)]
            have := h2 (i' - 1) (by omega)
            omega
          · rw [if_neg d2, if_neg (by omega), if_neg (by omega)]
            exact h3 (i - 1) (i' - 1) (by omega) (by omega)
    · rw [if_neg c]
      exact ⟨by omega, fun i hi => ⟨by have := h2 i hi; omega, (h2 i hi).2⟩, h3⟩
theorem i3_bd {N : gaM} {o : Nat} (h : Inv n N) (ho : o < 6) : 0 ≤ N 3 o ∧ N 3 o ≤ 12000 := by
  have := smdl_bd (o := o) h (Nat.le_refl n)
  have hn := h.1.2.2.2.2.2.1
  rw [h.2.2.2.2.2.1 o ho]
  omega
theorem p_isBehind {N A : gaM} {j : Nat} (h : Inv n N) (hA : stc N A) (hj : j < n) : f_X5_isBehind G n A (A (200 + j) 0) = some (if bh N j then 1 else 0) := by
  obtain ⟨⟨g0, -⟩, ⟨u1, u2, -⟩, -⟩ := h.2.2.2.1 j hj
  have e0 := hA 0 (by omega)
  have e3 := hA 3 (by omega)
  have eJ := hA (200 + j) (by omega)
  obtain ⟨a1, a2, a3, a4, a5, a6, a7, a8, a9, a10, a11, a12, a13, a14, a15⟩ := h.1
  have hb := i3_bd (o := (N 109 j).toNat) h (by omega)
  unfold f_X5_isBehind
  rw [eJ, g0, e0, e3, a10, gg_pos (show ix (N 109 j) 6 from ⟨by omega, by omega⟩), gg_pos (show ok (N 3 (N 109 j).toNat) from ⟨by omega, by omega⟩), gg_pos (show ok (N 100 5) from ⟨by omega, by omega⟩)]
  unfold bh
  split <;> rfl
theorem p_rank {N A : gaM} {j : Nat} (h : Inv n N) (hA : stc N A) (hj : j < n) : f_X5_rankOf G n A (j : Int) = some (rnk N j) := by
  obtain ⟨⟨g0, g1, g2, g3, g4, -⟩, ⟨u1, u2, -⟩, -⟩ := h.2.2.2.1 j hj
  have e2 := hA 2 (by omega)
  have eJ := hA (200 + j) (by omega)
  have e4 : A (200 + j) 4 = N 113 j := by rw [eJ, g4]
  obtain ⟨a1, a2, a3, a4, a5, a6, a7, a8, a9, a10, a11, a12, a13, a14, a15⟩ := h.1
  unfold f_X5_rankOf
  rw [b_get ⟨by omega, by omega⟩ (by rw [e2]; exact a4), Int.toNat_natCast, gb_eq (p_isBehind h hA hj), e4]
  unfold rnk
  by_cases c : bh N j
  · rw [if_pos c, if_pos c, gg_pos (by decide), if_neg (by decide)]
  · rw [if_neg c, if_neg c, gg_pos (by decide), if_pos rfl]
theorem rnk_bd {N : gaM} {j : Nat} (h : Inv n N) (hj : j < n) : 0 ≤ rnk N j ∧ rnk N j ≤ 601 := by
  obtain ⟨-, ⟨u1, u2, u3, u4, u5, u6, u7, u8, u9, -⟩, -⟩ := h.2.2.2.1 j hj
  unfold rnk
  split <;> omega
theorem stc.set {N A : gaM} {i : Nat} {f : Nat → Int} (hA : stc N A) (hi : 4 ≤ i ∧ (i < 11 ∨ 14 < i) ∧ (i < 21 ∨ 24 < i) ∧ i < 200) : stc N (setr A i f) := by
  intro a ha
  rw [setr_ne (by omega)]
  exact hA a ha
theorem p_ordC_in {N : gaM} {j : Nat} {v1 v2 : Int} {L : Nat → Nat} (h : Inv n N) (hj : j < n) : ∀ (c F : Nat) (A : gaM), stc N A → (∀ i, i < c → A 8 i = (L i : Int) ∧ L i < n) → c < 40 → c < F → ∃ row, l_X5_orderWaiting_44 G n F A v1 v2 (rnk N j) (c : Int) = some (setr A 8 row, ((posR N j L c : Nat) : Int)) ∧ ∀ i, row i = if posR N j L c < i ∧ i ≤ c then A 8 (i - 1) else A 8 i := by
  intro c
  induction c with
  | zero =>
    intro F A hA hL hc hF
    obtain ⟨F, rfl⟩ : ∃ F1, F = F1 + 1 := ⟨F - 1, by omega⟩
    refine ⟨A 8, ?_, fun i => by rw [if_neg (by omega)]⟩
    rw [l_X5_orderWaiting_44, setr_id]
    try simp (disch := (first | omega | (simp (disch := omega) only [ga_st_self, ga_st_id, ga_st_ix] <;> omega) | skip)) only [↓gb_of, ↓gb2_of, ↓gb3_of, ↓gB_eq, ↓gg_pos, ↓if_pos, ↓if_neg, ↓b_wi1, ↓b_wi0, ↓b_has1, ↓b_has0, ↓b_in1, ↓b_in0, ↓b_pl1, ↓b_pl0, ↓b_jm1, ↓b_jm0, ↓b_jc1, ↓b_jc0, ↓b_size, ↓b_get, ↓b_ref, ↓b_den, ↓b_gra, ↓b_don]
    rfl
  | succ c ih =>
    intro F A hA hL hc hF
    obtain ⟨F, rfl⟩ : ∃ F1, F = F1 + 1 := ⟨F - 1, by omega⟩
    have hb := rnk_bd h hj
    obtain ⟨l1, l2⟩ := hL c (by omega)
    have hb2 := rnk_bd h l2
    rw [l_X5_orderWaiting_44]
    rw [gg_pos (show ok ((c + 1 : Nat) : Int) from ⟨by omega, by omega⟩), if_pos (by omega), gg_pos (show ix (((c + 1 : Nat) : Int) - 1) 40 from ⟨by omega, by omega⟩), show (((c + 1 : Nat) : Int) - 1).toNat = c by omega, l1, gb_eq (p_rank h hA l2), gg_pos (show ok (rnk N (L c)) from ⟨by omega, by omega⟩), gg_pos (show ok (rnk N j) from ⟨by omega, by omega⟩)]
    show ∃ row, _ = some (setr A 8 row, ((if rnk N j < rnk N (L c) then posR N j L c else c + 1 : Nat) : Int)) ∧ ∀ i, row i = if (if rnk N j < rnk N (L c) then posR N j L c else c + 1) < i ∧ i ≤ c + 1 then A 8 (i - 1) else A 8 i
    by_cases d : rnk N j < rnk N (L c)
    · rw [if_pos d, if_pos d, gg_pos (show ix ((c + 1 : Nat) : Int) 40 from ⟨by omega, by omega⟩), gB_eq, Int.toNat_natCast, show ((c + 1 : Nat) : Int) + (-1) = (c : Int) by omega]
      obtain ⟨row, r1, r2⟩ := ih F (ga_st A 8 (c + 1) (L c : Int)) (by rw [st_setr]; exact hA.set (by omega)) (fun i hi => by rw [ga_st_ix (by omega)]; exact hL i (by omega)) (by omega) (by omega)
      have hp := posR_le (N := N) (j := j) (L := L) c
      refine ⟨row, ?_, fun i => ?_⟩
      · rw [r1, st_setr, setr_setr]
      · rw [r2]
        by_cases e1 : i = c + 1
        · subst e1
          rw [if_neg (by omega), ga_st_self, if_pos (by omega), ← l1]
          rfl
        · by_cases e2 : posR N j L c < i ∧ i ≤ c
          · rw [if_pos e2, if_pos (by omega), ga_st_ix (by omega)]
          · rw [if_neg e2, if_neg (by omega), ga_st_ix e1]
    · rw [if_neg d, if_neg d]
      refine ⟨A 8, by rw [setr_id], fun i => by rw [if_neg (by omega)]⟩
theorem ins_row {N : gaM} {j c : Nat} {L : Nat → Nat} {f row : Nat → Int} (hL : ∀ i, i < c → f i = (L i : Int)) (hr : ∀ i, row i = if posR N j L c < i ∧ i ≤ c then f (i - 1) else f i) : ∀ i, i < c + 1 → upr row (posR N j L c) (j : Int) i = ((insL L (posR N j L c) j i : Nat) : Int) := by
  intro i hi
  have hp := posR_le (N := N) (j := j) (L := L) c
  unfold upr insL
  by_cases e1 : i = posR N j L c
  · rw [if_pos e1, if_neg (by omega), if_pos e1]
  · rw [if_neg e1, hr]
    by_cases e2 : i < posR N j L c
    · rw [if_neg (by omega), if_pos e2, hL i (by omega)]
    · rw [if_pos (by omega), if_neg e2, if_neg e1, hL (i - 1) (by omega)]
theorem p_ordC {N : gaM} (hG : 5000 ≤ G) (h : Inv n N) : ∀ (k j F : Nat) (A : gaM), stc N A → (∀ i, i < (oS N j).1 → A 8 i = ((oS N j).2 i : Int)) → j + k = n → k < F → ∃ row, l_X5_orderWaiting_4 G n F A ((oS N j).1 : Int) (j : Int) = some (setr A 8 row, ((oS N n).1 : Int)) ∧ ∀ i, i < (oS N n).1 → row i = ((oS N n).2 i : Int) := by
  obtain ⟨a1, a2, a3, a4, a5, a6, a7, a8, a9, a10, a11, a12, a13, a14, a15⟩ := h.1
  intro k
  induction k with
  | zero =>
    intro j F A hA hL hj hF
    obtain ⟨F, rfl⟩ : ∃ F1, F = F1 + 1 := ⟨F - 1, by omega⟩
    have e : j = n := by omega
    subst e
    have e2 : A 2 2 = (j : Int) := by rw [hA 2 (by omega)]; exact a4
    refine ⟨A 8, ?_, hL⟩
    rw [l_X5_orderWaiting_4, setr_id]
    try simp (disch := (first | omega | (simp (disch := omega) only [ga_st_self, ga_st_id, ga_st_ix] <;> omega) | skip)) only [↓gb_of, ↓gb2_of, ↓gb3_of, ↓gB_eq, ↓gg_pos, ↓if_pos, ↓if_neg, ↓b_wi1, ↓b_wi0, ↓b_has1, ↓b_has0, ↓b_in1, ↓b_in0, ↓b_pl1, ↓b_pl0, ↓b_jm1, ↓b_jm0, ↓b_jc1, ↓b_jc0, ↓b_size, ↓b_get, ↓b_ref, ↓b_den, ↓b_gra, ↓b_don]
  | succ k ih =>
    intro j F A hA hL hj hF
    obtain ⟨F, rfl⟩ : ∃ F1, F = F1 + 1 := ⟨F - 1, by omega⟩
    have hjn : j < n := by omega
    have e2 : A 2 2 = (n : Int) := by rw [hA 2 (by omega)]; exact a4
    obtain ⟨⟨g0, g1, g2, g3, g4, g5, g6, -⟩, -, ⟨w1, w2, -⟩⟩ := h.2.2.2.1 j hjn
    have e6 : A (200 + j) 6 = N 115 j := by rw [hA (200 + j) (by omega), g6]
    obtain ⟨o1, o2, -⟩ := oS_ok (N := N) j
    rw [l_X5_orderWaiting_4, b_size, e2, gg_pos (show ok (j : Int) from ⟨by omega, by omega⟩), gg_pos (show ok (n : Int) from ⟨by omega, by omega⟩), if_pos (by omega), b_get ⟨by omega, by omega⟩ e2, Int.toNat_natCast]
    simp only [e6]
    rw [gg_pos (show ok (N 115 j) from ⟨by omega, by omega⟩)]
    by_cases d : N 115 j = 0
    · obtain ⟨row, r1, r2⟩ := p_ordC_in (n := n) (G := G) (N := N) (j := j) (v1 := ((oS N j).1 : Int)) (v2 := (j : Int)) (L := (oS N j).2) h hjn (oS N j).1 G A hA (fun i hi => ⟨hL i hi, by have := o2 i hi; omega⟩) (by omega) (by omega)
      have hp := posR_le (N := N) (j := j) (L := (oS N j).2) (oS N j).1
      have hst : oS N (j + 1) = ((oS N j).1 + 1, insL (oS N j).2 (posR N j (oS N j).2 (oS N j).1) j) := by
        rw [oS, if_pos d]
      obtain ⟨row', k1, k2⟩ := ih (j + 1) F (setr A 8 (upr row (posR N j (oS N j).2 (oS N j).1) (j : Int))) (hA.set (by omega)) (by
        rw [hst]
        intro i hi
        rw [setr_self]
        exact ins_row hL r2 i hi) (by omega) (by omega)
      refine ⟨row', ?_, k2⟩
      rw [if_pos d, gb_eq (p_rank h hA hjn), r1, gb2_of, gg_pos (show ix ((posR N j (oS N j).2 (oS N j).1 : Nat) : Int) 40 from ⟨by omega, by omega⟩), gB_eq, gb2_of, Int.toNat_natCast, st_setr, setr_self, setr_setr]
      rw [hst] at k1
      rw [setr_setr] at k1
      exact k1
    · have hst : oS N (j + 1) = oS N j := by
        rw [oS, if_neg d]
      obtain ⟨row', k1, k2⟩ := ih (j + 1) F A hA (by rw [hst]; exact hL) (by omega) (by omega)
      refine ⟨row', ?_, k2⟩
      rw [if_neg d, gb2_of]
      rw [hst] at k1
      exact k1
theorem p_orderC {N A : gaM} (hG : 5000 ≤ G) (h : Inv n N) (hA : stc N A) : ∃ row, f_X5_orderWaiting G n A = some (((oS N n).1 : Int), setr A 8 row) ∧ ∀ i, i < (oS N n).1 → row i = ((oS N n).2 i : Int) := by
  have hn := h.1.2.2.2.2.2.1
  obtain ⟨row, r1, r2⟩ := p_ordC (n := n) (G := G) (N := N) hG h n 0 G A hA (fun i hi => absurd hi (by show ¬ i < 0; omega)) (by omega) (by omega)
  refine ⟨row, ?_, r2⟩
  unfold f_X5_orderWaiting
  have r1' : l_X5_orderWaiting_4 G n G A 0 0 = some (setr A 8 row, ((oS N n).1 : Int)) := r1
  rw [r1']
  rfl
-- the reference
theorem p_ahead {N B : gaM} {j x : Nat} (h : Inv n N) (hB : stm N B) (h127 : ∀ y, y < n → B 127 (N 109 y).toNat = if bh N y then 1 else 0) (hj : j < n) (hx : x < j) : f_X6_isAhead G n B (j : Int) (x : Int) = some (if rnk N j < rnk N x then 1 else 0) := by
  obtain ⟨-, ⟨u1, u2, u3, u4, u5, u6, u7, u8, u9, -⟩, -⟩ := h.2.2.2.1 j hj
  obtain ⟨-, ⟨y1, y2, y3, y4, y5, y6, y7, y8, y9, -⟩, -⟩ := h.2.2.2.1 x (by omega)
  obtain ⟨a1, a2, a3, a4, a5, a6, a7, a8, a9, a10, a11, a12, a13, a14, a15⟩ := h.1
  have e109 := hB.1 109 (by omega) (by omega)
  have e113 := hB.1 113 (by omega) (by omega)
  unfold f_X6_isAhead
  try simp only [Int.toNat_natCast, tn300, tn4, Nat.reduceMul, Nat.reduceAdd]
  simp only [e109, e113, h127 j hj, h127 x (by omega)]
  rw [gg_pos (show ix (j : Int) 40 from ⟨by omega, by omega⟩), gg_pos (show ix (N 109 j) 6 from ⟨by omega, by omega⟩), gg_pos (show ix (x : Int) 40 from ⟨by omega, by omega⟩), gg_pos (show ix (N 109 x) 6 from ⟨by omega, by omega⟩)]
  unfold rnk
  by_cases b1 : bh N j
  · by_cases b2 : bh N x
    · simp only [if_pos b1, if_pos b2]
      by_cases c : N 113 j = N 113 x
      · try simp (disch := (first | omega | (simp (disch := omega) only [ga_st_self, ga_st_id, ga_st_ix] <;> omega) | skip)) only [↓gb_of, ↓gb2_of, ↓gb3_of, ↓gB_eq, ↓gg_pos, ↓if_pos, ↓if_neg, ↓b_wi1, ↓b_wi0, ↓b_has1, ↓b_has0, ↓b_in1, ↓b_in0, ↓b_pl1, ↓b_pl0, ↓b_jm1, ↓b_jm0, ↓b_jc1, ↓b_jc0, ↓b_size, ↓b_get, ↓b_ref, ↓b_den, ↓b_gra, ↓b_don]
      · by_cases c2 : N 113 j < N 113 x
        · try simp (disch := (first | omega | (simp (disch := omega) only [ga_st_self, ga_st_id, ga_st_ix] <;> omega) | skip)) only [↓gb_of, ↓gb2_of, ↓gb3_of, ↓gB_eq, ↓gg_pos, ↓if_pos, ↓if_neg, ↓b_wi1, ↓b_wi0, ↓b_has1, ↓b_has0, ↓b_in1, ↓b_in0, ↓b_pl1, ↓b_pl0, ↓b_jm1, ↓b_jm0, ↓b_jc1, ↓b_jc0, ↓b_size, ↓b_get, ↓b_ref, ↓b_den, ↓b_gra, ↓b_don]
        · try simp (disch := (first | omega | (simp (disch := omega) only [ga_st_self, ga_st_id, ga_st_ix] <;> omega) | skip)) only [↓gb_of, ↓gb2_of, ↓gb3_of, ↓gB_eq, ↓gg_pos, ↓if_pos, ↓if_neg, ↓b_wi1, ↓b_wi0, ↓b_has1, ↓b_has0, ↓b_in1, ↓b_in0, ↓b_pl1, ↓b_pl0, ↓b_jm1, ↓b_jm0, ↓b_jc1, ↓b_jc0, ↓b_size, ↓b_get, ↓b_ref, ↓b_den, ↓b_gra, ↓b_don]
    · simp only [if_pos b1, if_neg b2]
      try simp (disch := (first | omega | (simp (disch := omega) only [ga_st_self, ga_st_id, ga_st_ix] <;> omega) | skip)) only [↓gb_of, ↓gb2_of, ↓gb3_of, ↓gB_eq, ↓gg_pos, ↓if_pos, ↓if_neg, ↓b_wi1, ↓b_wi0, ↓b_has1, ↓b_has0, ↓b_in1, ↓b_in0, ↓b_pl1, ↓b_pl0, ↓b_jm1, ↓b_jm0, ↓b_jc1, ↓b_jc0, ↓b_size, ↓b_get, ↓b_ref, ↓b_den, ↓b_gra, ↓b_don]
      rfl
  · by_cases b2 : bh N x
    · simp only [if_neg b1, if_pos b2]
      try simp (disch := (first | omega | (simp (disch := omega) only [ga_st_self, ga_st_id, ga_st_ix] <;> omega) | skip)) only [↓gb_of, ↓gb2_of, ↓gb3_of, ↓gB_eq, ↓gg_pos, ↓if_pos, ↓if_neg, ↓b_wi1, ↓b_wi0, ↓b_has1, ↓b_has0, ↓b_in1, ↓b_in0, ↓b_pl1, ↓b_pl0, ↓b_jm1, ↓b_jm0, ↓b_jc1, ↓b_jc0, ↓b_size, ↓b_get, ↓b_ref, ↓b_den, ↓b_gra, ↓b_don]
      rfl
    · simp only [if_neg b1, if_neg b2]
      by_cases c : N 113 j = N 113 x
      · try simp (disch := (first | omega | (simp (disch := omega) only [ga_st_self, ga_st_id, ga_st_ix] <;> omega) | skip)) only [↓gb_of, ↓gb2_of, ↓gb3_of, ↓gB_eq, ↓gg_pos, ↓if_pos, ↓if_neg, ↓b_wi1, ↓b_wi0, ↓b_has1, ↓b_has0, ↓b_in1, ↓b_in0, ↓b_pl1, ↓b_pl0, ↓b_jm1, ↓b_jm0, ↓b_jc1, ↓b_jc0, ↓b_size, ↓b_get, ↓b_ref, ↓b_den, ↓b_gra, ↓b_don]
      · by_cases c2 : N 113 j < N 113 x
        · try simp (disch := (first | omega | (simp (disch := omega) only [ga_st_self, ga_st_id, ga_st_ix] <;> omega) | skip)) only [↓gb_of, ↓gb2_of, ↓gb3_of, ↓gB_eq, ↓gg_pos, ↓if_pos, ↓if_neg, ↓b_wi1, ↓b_wi0, ↓b_has1, ↓b_has0, ↓b_in1, ↓b_in0, ↓b_pl1, ↓b_pl0, ↓b_jm1, ↓b_jm0, ↓b_jc1, ↓b_jc0, ↓b_size, ↓b_get, ↓b_ref, ↓b_den, ↓b_gra, ↓b_don]
        · try simp (disch := (first | omega | (simp (disch := omega) only [ga_st_self, ga_st_id, ga_st_ix] <;> omega) | skip)) only [↓gb_of, ↓gb2_of, ↓gb3_of, ↓gB_eq, ↓gg_pos, ↓if_pos, ↓if_neg, ↓b_wi1, ↓b_wi0, ↓b_has1, ↓b_has0, ↓b_in1, ↓b_in0, ↓b_pl1, ↓b_pl0, ↓b_jm1, ↓b_jm0, ↓b_jc1, ↓b_jc0, ↓b_size, ↓b_get, ↓b_ref, ↓b_den, ↓b_gra, ↓b_don]
theorem stm.set {N B : gaM} {i : Nat} {f : Nat → Int} (hB : stm N B) (hi : 119 ≤ i) : stm N (setr B i f) := by
  refine ⟨fun a h1 h2 => ?_, fun b h1 h2 => ?_⟩
  · rw [setr_ne (by omega)]
    exact hB.1 a h1 h2
  · rw [setr_ne (by omega)]
    exact hB.2 b h1 h2
theorem p_ordM_in {N : gaM} {j : Nat} {L : Nat → Nat} (h : Inv n N) (hj : j < n) : ∀ (c F : Nat) (B : gaM), stm N B → (∀ y, y < n → B 127 (N 109 y).toNat = if bh N y then 1 else 0) → (∀ i, i < c → B 123 i = (L i : Int) ∧ L i < j) → c < 40 → c < F → ∃ row, l_X6_lays_94 G n F B (j : Int) (c : Int) = some (setr B 123 row, ((posR N j L c : Nat) : Int)) ∧ ∀ i, row i = if posR N j L c < i ∧ i ≤ c then B 123 (i - 1) else B 123 i := by
  intro c
  induction c with
  | zero =>
    intro F B hB h127 hL hc hF
    obtain ⟨F, rfl⟩ : ∃ F1, F = F1 + 1 := ⟨F - 1, by omega⟩
    refine ⟨B 123, ?_, fun i => by rw [if_neg (by omega)]⟩
    rw [l_X6_lays_94, setr_id]
    try simp (disch := (first | omega | (simp (disch := omega) only [ga_st_self, ga_st_id, ga_st_ix] <;> omega) | skip)) only [↓gb_of, ↓gb2_of, ↓gb3_of, ↓gB_eq, ↓gg_pos, ↓if_pos, ↓if_neg, ↓b_wi1, ↓b_wi0, ↓b_has1, ↓b_has0, ↓b_in1, ↓b_in0, ↓b_pl1, ↓b_pl0, ↓b_jm1, ↓b_jm0, ↓b_jc1, ↓b_jc0, ↓b_size, ↓b_get, ↓b_ref, ↓b_den, ↓b_gra, ↓b_don]
    rfl
  | succ c ih =>
    intro F B hB h127 hL hc hF
    obtain ⟨F, rfl⟩ : ∃ F1, F = F1 + 1 := ⟨F - 1, by omega⟩
    obtain ⟨l1, l2⟩ := hL c (by omega)
    rw [l_X6_lays_94]
    rw [gg_pos (show ok ((c + 1 : Nat) : Int) from ⟨by omega, by omega⟩), if_pos (by omega), gg_pos (show ix (((c + 1 : Nat) : Int) - 1) 40 from ⟨by omega, by omega⟩), show (((c + 1 : Nat) : Int) - 1).toNat = c by omega, l1, gb_eq (p_ahead h hB h127 hj l2)]
    show ∃ row, _ = some (setr B 123 row, ((if rnk N j < rnk N (L c) then posR N j L c else c + 1 : Nat) : Int)) ∧ ∀ i, row i = if (if rnk N j < rnk N (L c) then posR N j L c else c + 1) < i ∧ i ≤ c + 1 then B 123 (i - 1) else B 123 i
    by_cases d : rnk N j < rnk N (L c)
    · simp only [if_pos d]
      rw [gg_pos (by decide), if_neg (by decide), gg_pos (show ix ((c + 1 : Nat) : Int) 40 from ⟨by omega, by omega⟩), gB_eq, Int.toNat_natCast, show ((c + 1 : Nat) : Int) + (-1) = (c : Int) by omega]
      obtain ⟨row, r1, r2⟩ := ih F (ga_st B 123 (c + 1) (L c : Int)) (by rw [st_setr]; exact hB.set (by omega)) (fun y hy => by rw [ga_st_id (by omega)]; exact h127 y hy) (fun i hi => by rw [ga_st_ix (by omega)]; exact hL i (by omega)) (by omega) (by omega)
      have hp := posR_le (N := N) (j := j) (L := L) c
      refine ⟨row, ?_, fun i => ?_⟩
      · rw [r1, st_setr, setr_setr]
      · rw [r2]
        by_cases e1 : i = c + 1
        · subst e1
          rw [if_neg (by omega), ga_st_self, if_pos (by omega), ← l1]
          rfl
        · by_cases e2 : posR N j L c < i ∧ i ≤ c
          · rw [if_pos e2, if_pos (by omega), ga_st_ix (by omega)]
          · rw [if_neg e2, if_neg (by omega), ga_st_ix e1]
    · simp only [if_neg d]
      rw [gg_pos (by decide), if_pos (by trivial)]
      refine ⟨B 123, by rw [setr_id], fun i => by rw [if_neg (by omega)]⟩
-- what the reference's ordering leaves
def frO (B B' : gaM) : Prop := (∀ a, a ≠ 100 → (a < 120 ∨ 123 < a) → B' a = B a) ∧ ∀ b, b ≠ 28 → B' 100 b = B 100 b
theorem frO.tr {B B1 B2 : gaM} (h : frO B B1) (h' : frO B1 B2) : frO B B2 := ⟨fun a q1 q2 => (h'.1 a q1 q2).trans (h.1 a q1 q2), fun b q => (h'.2 b q).trans (h.2 b q)⟩
theorem frO.stm {N B B' : gaM} (h : frO B B') (hB : stm N B) : stm N B' := ⟨fun a h1 h2 => (h.1 a (by omega) (by omega)).trans (hB.1 a h1 h2), fun b h1 h2 => (h.2 b (by omega)).trans (hB.2 b h1 h2)⟩
theorem p_ordM {N : gaM} (hG : 5000 ≤ G) (h : Inv n N) : ∀ (k j F : Nat) (B : gaM), stm N B → (∀ y, y < n → B 127 (N 109 y).toNat = if bh N y then 1 else 0) → B 100 28 = ((oS N j).1 : Int) → (∀ i, i < (oS N j).1 → B 123 i = ((oS N j).2 i : Int)) → (∀ i, i < j → B 120 i = -1 ∧ B 121 i = -1 ∧ B 122 i = -1) → j + k = n → k < F → ∃ B', l_X6_lays_48 G n F B (j : Int) = some B' ∧ frO B B' ∧ B' 100 28 = ((oS N n).1 : Int) ∧ (∀ i, i < (oS N n).1 → B' 123 i = ((oS N n).2 i : Int)) ∧ ∀ i, i < n → B' 120 i = -1 ∧ B' 121 i = -1 ∧ B' 122 i = -1 := by
  obtain ⟨a1, a2, a3, a4, a5, a6, a7, a8, a9, a10, a11, a12, a13, a14, a15⟩ := h.1
  intro k
  induction k with
  | zero =>
    intro j F B hB h127 h28 hL h120 hj hF
    obtain ⟨F, rfl⟩ : ∃ F1, F = F1 + 1 := ⟨F - 1, by omega⟩
    have e : j = n := by omega
    subst e
    have e3 : B 100 3 = (j : Int) := by rw [hB.2 3 (by omega) (by omega)]; exact a5
    refine ⟨B, ?_, ⟨fun _ _ _ => rfl, fun _ _ => rfl⟩, h28, hL, h120⟩
    rw [l_X6_lays_48]
    try simp (disch := (first | omega | (simp (disch := omega) only [ga_st_self, ga_st_id, ga_st_ix] <;> omega) | skip)) only [↓gb_of, ↓gb2_of, ↓gb3_of, ↓gB_eq, ↓gg_pos, ↓if_pos, ↓if_neg, ↓b_wi1, ↓b_wi0, ↓b_has1, ↓b_has0, ↓b_in1, ↓b_in0, ↓b_pl1, ↓b_pl0, ↓b_jm1, ↓b_jm0, ↓b_jc1, ↓b_jc0, ↓b_size, ↓b_get, ↓b_ref, ↓b_den, ↓b_gra, ↓b_don]
  | succ k ih =>
    intro j F B hB h127 h28 hL h120 hj hF
    obtain ⟨F, rfl⟩ : ∃ F1, F = F1 + 1 := ⟨F - 1, by omega⟩
    have hjn : j < n := by omega
    have e3 : B 100 3 = (n : Int) := by rw [hB.2 3 (by omega) (by omega)]; exact a5
    obtain ⟨-, -, ⟨w1, w2, -⟩⟩ := h.2.2.2.1 j hjn
    obtain ⟨o1, o2, -⟩ := oS_ok (N := N) j
    obtain ⟨B1, hB1⟩ : ∃ B1, B1 = ga_st (ga_st (ga_st B 120 j (-1)) 121 j (-1)) 122 j (-1) := ⟨_, rfl⟩
    have f1 : frO B B1 := by
      rw [hB1]
      refine ⟨fun a q1 q2 => ?_, fun b q => ?_⟩
      · rw [ga_st_row _ (by omega), ga_st_row _ (by omega), ga_st_row _ (by omega)]
      · rw [ga_st_id (by omega), ga_st_id (by omega), ga_st_id (by omega)]
    have hB1s := f1.stm hB
    have b28 : B1 100 28 = ((oS N j).1 : Int) := by rw [hB1, ga_st_id (by omega), ga_st_id (by omega), ga_st_id (by omega)]; exact h28
    have b123 : B1 123 = B 123 := by rw [hB1, ga_st_row _ (by omega), ga_st_row _ (by omega), ga_st_row _ (by omega)]
    have b127 : ∀ y, y < n → B1 127 (N 109 y).toNat = if bh N y then 1 else 0 := fun y hy => by rw [f1.1 127 (by omega) (by omega)]; exact h127 y hy
    have b120 : ∀ i, i < j + 1 → B1 120 i = -1 ∧ B1 121 i = -1 ∧ B1 122 i = -1 := by
      intro i hi
      rw [hB1]
      by_cases e : i = j
      · subst e
        simp [ga_st]
      · have := h120 i (by omega)
        simp (disch := omega) only [ga_st_id, ga_st_ix]
        exact this
    have b115 : B1 115 j = N 115 j := by rw [hB1s.1 115 (by omega) (by omega)]
    rw [l_X6_lays_48, gg_pos (show ok (j : Int) from ⟨by omega, by omega⟩), e3, gg_pos (show ok (n : Int) from ⟨by omega, by omega⟩), if_pos (by omega), gg_pos (show ix (j : Int) 40 from ⟨by omega, by omega⟩), gB_eq, gB_eq, gB_eq, Int.toNat_natCast, ← hB1]
    simp only [b115, b28]
    rw [gg_pos (show ok (N 115 j) from ⟨by omega, by omega⟩)]
    by_cases d : N 115 j = 0
    · obtain ⟨row, r1, r2⟩ := p_ordM_in (n := n) (G := G) (N := N) (j := j) (L := (oS N j).2) h hjn (oS N j).1 G B1 hB1s b127 (fun i hi => ⟨by rw [b123]; exact hL i hi, by have := o2 i hi; omega⟩) (by omega) (by omega)
      rw [b123] at r2
      have hp := posR_le (N := N) (j := j) (L := (oS N j).2) (oS N j).1
      have hst : oS N (j + 1) = ((oS N j).1 + 1, insL (oS N j).2 (posR N j (oS N j).2 (oS N j).1) j) := by
        rw [oS, if_pos d]
      obtain ⟨B2, hB2⟩ : ∃ B2, B2 = ga_st (setr B1 123 (upr row (posR N j (oS N j).2 (oS N j).1) (j : Int))) 100 28 (((oS N j).1 : Int) + 1) := ⟨_, rfl⟩
      have f2 : frO B1 B2 := by
        rw [hB2]
        refine ⟨fun a q1 q2 => ?_, fun b q => ?_⟩
        · rw [ga_st_row _ (by omega), setr_ne (by omega)]
        · rw [ga_st_ix (by omega), setr_ne (by omega)]
      obtain ⟨B', k1, k2, k3⟩ := ih (j + 1) F B2 (f2.stm hB1s) (fun y hy => by rw [f2.1 127 (by omega) (by omega)]; exact b127 y hy) (by rw [hB2, ga_st_self, hst]; rfl) (by
        rw [hst]
        intro i hi
        rw [hB2, ga_st_id (by omega), setr_self]
        exact ins_row hL r2 i hi) (fun i hi => by
          rw [hB2, ga_st_id (by omega), ga_st_id (by omega), ga_st_id (by omega), setr_ne (by omega), setr_ne (by omega), setr_ne (by omega)]
          exact b120 i hi) (by omega) (by omega)
      refine ⟨B', ?_, (f1.tr f2).tr k2, k3⟩
      rw [if_pos d, r1, gb2_of, gg_pos (show ix ((posR N j (oS N j).2 (oS N j).1 : Nat) : Int) 40 from ⟨by omega, by omega⟩), gB_eq, gB_eq, gb_of, Int.toNat_natCast, st_setr (i := 123), setr_self, setr_setr, setr_ne (show 100 ≠ 123 by decide), b28, ← hB2]
      exact k1
    · have hst : oS N (j + 1) = oS N j := by
        rw [oS, if_neg d]
      obtain ⟨B', k1, k2, k3⟩ := ih (j + 1) F B1 hB1s b127 (by rw [hst]; exact b28) (by rw [hst, b123]; exact hL) b120 (by omega) (by omega)
      refine ⟨B', ?_, f1.tr k2, k3⟩
      rw [if_neg d, gb_of]
      exact k1
-- who is BEHIND
theorem p_behM {N : gaM} (hG : 5000 ≤ G) (h : Inv n N) : ∀ (k o F : Nat) (B : gaM), stm N B → (∀ i, i < o → B 127 i = if N 100 5 < N 3 i then 1 else 0) → o + k = 6 → k < F → ∃ row, l_X6_lays_2 G n F B (o : Int) = some (setr B 127 row) ∧ ∀ i, i < 6 → row i = if N 100 5 < N 3 i then 1 else 0 := by
  obtain ⟨a1, a2, a3, a4, a5, a6, a7, a8, a9, a10, a11, a12, a13, a14, a15⟩ := h.1
  intro k
  induction k with
  | zero =>
    intro o F B hB hr ho hF
    obtain ⟨F, rfl⟩ : ∃ F1, F = F1 + 1 := ⟨F - 1, by omega⟩
    have e : o = 6 := by omega
    subst e
    refine ⟨B 127, ?_, hr⟩
    rw [l_X6_lays_2, setr_id]
    try simp (disch := (first | omega | (simp (disch := omega) only [ga_st_self, ga_st_id, ga_st_ix] <;> omega) | skip)) only [↓gb_of, ↓gb2_of, ↓gb3_of, ↓gB_eq, ↓gg_pos, ↓if_pos, ↓if_neg, ↓b_wi1, ↓b_wi0, ↓b_has1, ↓b_has0, ↓b_in1, ↓b_in0, ↓b_pl1, ↓b_pl0, ↓b_jm1, ↓b_jm0, ↓b_jc1, ↓b_jc0, ↓b_size, ↓b_get, ↓b_ref, ↓b_den, ↓b_gra, ↓b_don]
  | succ k ih =>
    intro o F B hB hr ho hF
    obtain ⟨F, rfl⟩ : ∃ F1, F = F1 + 1 := ⟨F - 1, by omega⟩
    have hb := i3_bd (o := o) h (by omega)
    have hd : f_X6_delayOf G n B (o : Int) = some (N 3 o) := by
      rw [p_delay hG (by omega) (by rw [hB.2 3 (by omega) (by omega)]; exact a5) a6 (fun j hj => by rw [hB.1 109 (by omega) (by omega), hB.1 115 (by omega) (by omega)]; exact h.okJ j hj), h.2.2.2.2.2.1 o (by omega)]
      congr 1
      refine sm_congr (fun i _ => ?_)
      unfold dl
      rw [hB.1 109 (by omega) (by omega), hB.1 115 (by omega) (by omega), hB.1 117 (by omega) (by omega), hB.1 112 (by omega) (by omega)]
    have e5 := hB.2 5 (by omega) (by omega)
    obtain ⟨row, r1, r2⟩ := ih (o + 1) F (ga_st B 127 o (if N 100 5 < N 3 o then 1 else 0)) (by rw [st_setr]; exact hB.set (by omega)) (fun i hi => by
      by_cases e : i = o
      · subst e
        rw [ga_st_self]
      · rw [ga_st_ix e]
        exact hr i (by omega)) (by omega) (by omega)
    refine ⟨row, ?_, r2⟩
    rw [l_X6_lays_2, gg_pos (show ok (o : Int) from ⟨by omega, by omega⟩), if_pos (by omega), gb_eq hd, e5, gg_pos (show ok (N 3 o) from ⟨by omega, by omega⟩), gg_pos (show ok (N 100 5) from ⟨by omega, by omega⟩)]
    rw [st_setr] at r1
    rw [setr_setr] at r1
    by_cases c : N 100 5 < N 3 o
    · rw [if_pos c] at r1 ⊢
      rw [gb_of, gg_pos (by decide), gg_pos (show ix (o : Int) 6 from ⟨by omega, by omega⟩), gB_eq, Int.toNat_natCast, st_setr]
      exact r1
    · rw [if_neg c] at r1 ⊢
      rw [gb_of, gg_pos (by decide), gg_pos (show ix (o : Int) 6 from ⟨by omega, by omega⟩), gB_eq, Int.toNat_natCast, st_setr]
      exact r1
end O1

/-! ===== pure: one HOUR, to its end ===== -/
section H2
variable {n G : Nat}
def wI (n : Nat) (A2 : gaM) (f1 f2 : Nat → Nat → Int) (j : Nat) (A : gaM) : Prop := (∀ a, a < 200 → A a = A2 a) ∧ ∀ i, i < n → A (200 + i) = if i < j then f2 i else f1 i
theorem wI.step {A2 A : gaM} {f1 f2 : Nat → Nat → Int} {j : Nat} (h : wI n A2 f1 f2 j A) : wI n A2 f1 f2 (j + 1) (setr A (200 + j) (f2 j)) := by
  refine ⟨fun a ha => by rw [setr_ne (by omega)]; exact h.1 a ha, fun i hi => ?_⟩
  by_cases d : i = j
  · subst d
    rw [setr_self, if_pos (by omega)]
  · rw [setr_ne (by omega), h.2 i hi]
    by_cases d2 : i < j
    · rw [if_pos d2, if_pos (by omega)]
    · rw [if_neg d2, if_neg (by omega)]
theorem wI.skip {A2 A : gaM} {f1 f2 : Nat → Nat → Int} {j : Nat} (h : wI n A2 f1 f2 j A) (hj : j < n) (e : f2 j = f1 j) : wI n A2 f1 f2 (j + 1) A := by
  have := h.step
  have e2 : A (200 + j) = f2 j := by rw [h.2 j hj, if_neg (by omega), e]
  rw [← e2, setr_id] at this
  exact this
theorem wB1_ne {N : gaM} {i b : Nat} (h6 : b ≠ 6) (h7 : b ≠ 7) (h8 : b ≠ 8) : wB1 n N i b = N (200 + i) b := by
  unfold wB1
  cases bgp n N i with
  | none => rfl
  | some p =>
    show upr (upr (upr (N (200 + i)) 6 1) 7 (p : Int)) 8 (N 100 4) b = _
    rw [upr_ne h8, upr_ne h7, upr_ne h6]
theorem wB2_ne {N : gaM} {i b : Nat} (h6 : b ≠ 6) : wB2 n N i b = wB1 n N i b := by
  unfold wB2
  split
  · rw [upr_ne h6]
  · rfl
theorem wB2_6 {N : gaM} {i : Nat} (h : Inv n N) (hi : i < n) : wB2 n N i 6 = s1 n N i := by
  have g6 := (h.2.2.2.1 i hi).1.2.2.2.2.2.2.1
  unfold wB2 s1 wB1
  cases e : bgp n N i with
  | none =>
    simp only [g6]
    by_cases c : N 115 i = 0 ∧ N 113 i < N 100 4 + 1 + N 111 i
    · rw [if_pos c, if_pos c, upr_self]
    · rw [if_neg c, if_neg c, g6]
  | some p =>
    have e6 : upr (upr (upr (N (200 + i)) 6 1) 7 (p : Int)) 8 (N 100 4) 6 = 1 := by rw [upr_ne (by decide), upr_ne (by decide), upr_self]
    simp only []
    rw [if_neg (by rw [e6]; omega), e6]
theorem wB2_7 {N : gaM} {i : Nat} (h : Inv n N) (hi : i < n) : wB2 n N i 7 = p1 n N i := by
  have g7 := (h.2.2.2.1 i hi).1.2.2.2.2.2.2.2.1
  rw [wB2_ne (by decide)]
  unfold wB1 p1
  cases e : bgp n N i with
  | none => exact g7
  | some p =>
    show upr (upr (upr (N (200 + i)) 6 1) 7 (p : Int)) 8 (N 100 4) 7 = _
    rw [upr_ne (by decide), upr_self]
theorem wB2_8 {N : gaM} {i : Nat} (h : Inv n N) (hi : i < n) : wB2 n N i 8 = h1 n N i := by
  have g8 := (h.2.2.2.1 i hi).1.2.2.2.2.2.2.2.2.1
  rw [wB2_ne (by decide)]
  unfold wB1 h1
  cases e : bgp n N i with
  | none => exact g8
  | some p =>
    show upr (upr (upr (N (200 + i)) 6 1) 7 (p : Int)) 8 (N 100 4) 8 = _
    rw [upr_self]
theorem p_lose {N A2 : gaM} (h : Inv n N) (q0 : A2 0 9 = N 100 4) (q2 : A2 2 2 = (n : Int)) : ∀ (k j F : Nat) (A : gaM), wI n A2 (wB1 n N) (wB2 n N) j A → j + k = n → k < F → ∃ A', l_X5_loseLate_2 G n F A (j : Int) = some A' ∧ wI n A2 (wB1 n N) (wB2 n N) n A' := by
  obtain ⟨a1, a2, a3, a4, a5, a6, a7, a8, a9, a10, a11, a12, a13, a14, a15⟩ := h.1
  intro k
  induction k with
  | zero =>
    intro j F A hA hj hF
    obtain ⟨F, rfl⟩ : ∃ F1, F = F1 + 1 := ⟨F - 1, by omega⟩
    have e : j = n := by omega
    subst e
    refine ⟨A, ?_, hA⟩
    have e2 : A 2 2 = (j : Int) := by rw [hA.1 2 (by omega)]; exact q2
    rw [l_X5_loseLate_2]
    try simp (disch := (first | omega | (simp (disch := omega) only [ga_st_self, ga_st_id, ga_st_ix] <;> omega) | skip)) only [↓gb_of, ↓gb2_of, ↓gb3_of, ↓gB_eq, ↓gg_pos, ↓if_pos, ↓if_neg, ↓b_wi1, ↓b_wi0, ↓b_has1, ↓b_has0, ↓b_in1, ↓b_in0, ↓b_pl1, ↓b_pl0, ↓b_jm1, ↓b_jm0, ↓b_jc1, ↓b_jc0, ↓b_size, ↓b_get, ↓b_ref, ↓b_den, ↓b_gra, ↓b_don]
  | succ k ih =>
    intro j F A hA hj hF
    obtain ⟨F, rfl⟩ : ∃ F1, F = F1 + 1 := ⟨F - 1, by omega⟩
    have hjn : j < n := by omega
    have e2 : A 2 2 = (n : Int) := by rw [hA.1 2 (by omega)]; exact q2
    have e9 : A 0 9 = N 100 4 := by rw [hA.1 0 (by omega)]; exact q0
    have eJ : A (200 + j) = wB1 n N j := by rw [hA.2 j hjn, if_neg (by omega)]
    obtain ⟨⟨g0, g1, g2, g3, g4, g5, g6, g7, g8, g9⟩, ⟨u1, u2, u3, u4, u5, u6, u7, u8, u9, -⟩, ⟨w1, w2, -⟩⟩ := h.2.2.2.1 j hjn
    have e4 : wB1 n N j 4 = N 113 j := by rw [wB1_ne (by decide) (by decide) (by decide), g4]
    have e22 : wB1 n N j 2 = N 111 j := by rw [wB1_ne (by decide) (by decide) (by decide), g2]
    have o6 : ok (wB1 n N j 6) := by
      unfold wB1
      cases bgp n N j with
      | none => exact ⟨by show _ ≤ N (200 + j) 6; omega, by show N (200 + j) 6 ≤ _; omega⟩
      | some p =>
        show ok (upr (upr (upr (N (200 + j)) 6 1) 7 (p : Int)) 8 (N 100 4) 6)
        rw [upr_ne (by decide), upr_ne (by decide), upr_self]
        decide
    rw [l_X5_loseLate_2, b_size, e2, gg_pos (show ok (j : Int) from ⟨by omega, by omega⟩), gg_pos (show ok (n : Int) from ⟨by omega, by omega⟩), if_pos (by omega), b_get ⟨by omega, by omega⟩ e2, Int.toNat_natCast, eJ, gg_pos o6, e9, e4, e22]
    by_cases c : wB1 n N j 6 = 0
    · rw [if_pos c, gg_pos (show ok (N 100 4 + 1 + N 111 j) from ⟨by omega, by omega⟩), gg_pos (show ok (N 113 j) from ⟨by omega, by omega⟩)]
      by_cases d : N 113 j < N 100 4 + 1 + N 111 j
      · have e : wB2 n N j = upr (wB1 n N j) 6 3 := if_pos ⟨c, d⟩
        obtain ⟨A', k1, k2⟩ := ih (j + 1) F _ hA.step (by omega) (by omega)
        refine ⟨A', ?_, k2⟩
        rw [if_pos d, gB_eq, gb_of, st_setr, eJ, ← e]
        exact k1
      · have e : wB2 n N j = wB1 n N j := if_neg (fun q => d q.2)
        obtain ⟨A', k1, k2⟩ := ih (j + 1) F _ (hA.skip hjn e) (by omega) (by omega)
        refine ⟨A', ?_, k2⟩
        rw [if_neg d, gb_of]
        exact k1
    · have e : wB2 n N j = wB1 n N j := if_neg (fun q => c q.1)
      obtain ⟨A', k1, k2⟩ := ih (j + 1) F _ (hA.skip hjn e) (by omega) (by omega)
      refine ⟨A', ?_, k2⟩
      rw [if_neg c, gb_of]
      exact k1
def wB3 (n : Nat) (N : gaM) (i : Nat) : Nat → Int := if s1 n N i = 1 then (if N 100 4 + 1 < h1 n N i + N 111 i then upr (wB2 n N i) 9 (d2 n N i) else upr (upr (wB2 n N i) 9 (d2 n N i)) 6 2) else wB2 n N i
theorem p_doHour {A : gaM} {w p : Nat} {t hh len d cg : Int} (h9 : A 0 9 = t) (ht : 0 ≤ t ∧ t < 300) (hw : 200 ≤ w) (h7 : A w 7 = (p : Int)) (hp : p < 4) (h8 : A w 8 = hh) (hh8 : 0 ≤ hh ∧ hh ≤ 300) (h2 : A w 2 = len) (hl : 1 ≤ len ∧ len ≤ 12) (h99 : A w 9 = d) (h1 : 0 ≤ A w 1 ∧ A w 1 < 4) (hcg : A w 5 * A (11 + (A w 1).toNat) p = cg) (d' : Int) (hd : d' = if hh = t then d + A (21 + p) t.toNat + cg else d + A (21 + p) t.toNat) :
    f_X5_doHour G n A w = some ((if t + 1 < hh + len then 0 else 1), setr A w (if t + 1 < hh + len then upr (A w) 9 d' else upr (upr (A w) 9 d') 6 2)) := by
  have e1 : (ga_st A w 9 (d + A (21 + p) t.toNat)) w 8 = hh := by rw [ga_st_ix (by omega)]; exact h8
  have e2 : (ga_st A w 9 (d + A (21 + p) t.toNat)) 0 9 = t := by rw [ga_st_id (by omega)]; exact h9
  have e3 : (ga_st A w 9 (d + A (21 + p) t.toNat)) w 7 = (p : Int) := by rw [ga_st_ix (by omega)]; exact h7
  have hc : f_X2_carriage G n (ga_st A w 9 (d + A (21 + p) t.toNat)) w (p : Int) = some cg := by
    unfold f_X2_carriage
    rw [ga_st_ix (by omega), ga_st_ix (by omega), gg_pos (show ix (A w 1) 4 from ⟨by omega, by omega⟩), gg_pos (show ix (p : Int) 4 from ⟨by omega, by omega⟩), ga_st_id (by omega), Int.toNat_natCast, hcg]
  have key : ∀ M6, M6 = setr A w (upr (A w) 9 d') → (gg (ok (((M6 w 8) + (M6 w 2)) - 1)) <| gg (ok (M6 0 9)) <| if (M6 0 9) < (((M6 w 8) + (M6 w 2)) - 1) then (some ((0 : Int), M6)) else (gB (ga_st M6 w 6 2) fun M11 => some ((1 : Int), M11))) = some ((if t + 1 < hh + len then 0 else 1), setr A w (if t + 1 < hh + len then upr (A w) 9 d' else upr (upr (A w) 9 d') 6 2)) := by
    intro M6 hM6
    have x8 : M6 w 8 = hh := by rw [hM6, setr_self, upr_ne (by decide)]; exact h8
    have x2 : M6 w 2 = len := by rw [hM6, setr_self, upr_ne (by decide)]; exact h2
    have x9 : M6 0 9 = t := by rw [hM6, setr_ne (by omega)]; exact h9
    rw [x8, x2, x9, gg_pos (show ok (hh + len - 1) from ⟨by omega, by omega⟩), gg_pos (show ok t from ⟨by omega, by omega⟩)]
    by_cases c : t + 1 < hh + len
    · rw [if_pos (by omega), if_pos c, if_pos c, hM6]
    · rw [if_neg (by omega), if_neg c, if_neg c, gB_eq, hM6, st_setr, setr_self, setr_setr]
  unfold f_X5_doHour
  rw [h7, h9, h99, Int.toNat_natCast, gg_pos (show ix (p : Int) 4 from ⟨by omega, by omega⟩), gg_pos (show ix t 300 from ⟨by omega, by omega⟩), gB_eq, e1, e2, e3, gg_pos (show ok hh from ⟨by omega, by omega⟩), gg_pos (show ok t from ⟨by omega, by omega⟩)]
  by_cases c : hh = t
  · rw [if_pos c] at hd
    rw [if_pos c, gb_eq hc, gB_eq, gb_of]
    refine key _ ?_
    rw [st_setr, st_setr, setr_self, upr_self, setr_setr, hd]
    congr 1
    funext y
    unfold upr
    split <;> rfl
  · rw [if_neg c] at hd
    rw [if_neg c, gb_of]
    refine key _ ?_
    rw [st_setr, hd]
theorem p_hours {N A3 : gaM} (h : Inv n N) (q0 : A3 0 9 = N 100 4) (q2 : A3 2 2 = (n : Int)) (q11 : ∀ a, a < 4 → A3 (11 + a) = N (11 + a)) (q21 : ∀ a, a < 4 → A3 (21 + a) = N (21 + a)) : ∀ (k j F : Nat) (A : gaM) (acc : Int), wI n A3 (wB2 n N) (wB3 n N) j A → j + k = n → k < F → ∃ A', l_X5_passHour_20 G n F A acc (j : Int) = some (A', acc + sm (fin n N) j k) ∧ wI n A3 (wB2 n N) (wB3 n N) n A' := by
  obtain ⟨a1, a2, a3, a4, a5, a6, a7, a8, a9, a10, a11, a12, a13, a14, a15⟩ := h.1
  intro k
  induction k with
  | zero =>
    intro j F A acc hA hj hF
    obtain ⟨F, rfl⟩ : ∃ F1, F = F1 + 1 := ⟨F - 1, by omega⟩
    have e : j = n := by omega
    subst e
    refine ⟨A, ?_, hA⟩
    have e2 : A 2 2 = (j : Int) := by rw [hA.1 2 (by omega)]; exact q2
    rw [l_X5_passHour_20]
    try simp (disch := (first | omega | (simp (disch := omega) only [ga_st_self, ga_st_id, ga_st_ix] <;> omega) | skip)) only [↓gb_of, ↓gb2_of, ↓gb3_of, ↓gB_eq, ↓gg_pos, ↓if_pos, ↓if_neg, ↓b_wi1, ↓b_wi0, ↓b_has1, ↓b_has0, ↓b_in1, ↓b_in0, ↓b_pl1, ↓b_pl0, ↓b_jm1, ↓b_jm0, ↓b_jc1, ↓b_jc0, ↓b_size, ↓b_get, ↓b_ref, ↓b_den, ↓b_gra, ↓b_don]
    simp [sm]
  | succ k ih =>
    intro j F A acc hA hj hF
    obtain ⟨F, rfl⟩ : ∃ F1, F = F1 + 1 := ⟨F - 1, by omega⟩
    have hjn : j < n := by omega
    have e2 : A 2 2 = (n : Int) := by rw [hA.1 2 (by omega)]; exact q2
    have e9 : A 0 9 = N 100 4 := by rw [hA.1 0 (by omega)]; exact q0
    have eJ : A (200 + j) = wB2 n N j := by rw [hA.2 j hjn, if_neg (by omega)]
    obtain ⟨⟨g0, g1, g2, g3, g4, g5, g6, g7, g8, g9⟩, ⟨u1, u2, u3, u4, u5, u6, u7, u8, u9, u10, u11⟩, ⟨w1, w2, w3, w4, w5, w6, w7, w8⟩⟩ := h.2.2.2.1 j hjn
    obtain ⟨t1, t2, t3, t4, t5, t6, t7, t8⟩ := s1_ok h hjn
    have x6 : A (200 + j) 6 = s1 n N j := by rw [eJ, wB2_6 h hjn]
    rw [l_X5_passHour_20, b_size, e2, gg_pos (show ok (j : Int) from ⟨by omega, by omega⟩), gg_pos (show ok (n : Int) from ⟨by omega, by omega⟩), if_pos (by omega), b_get ⟨by omega, by omega⟩ e2, Int.toNat_natCast, x6, gg_pos (show ok (s1 n N j) from ⟨by omega, by omega⟩), sm_first]
    by_cases c : s1 n N j = 1
    · have y3 := t3 (Or.inl c)
      have y4 := t4 c
      obtain ⟨p, hp⟩ : ∃ p : Nat, p1 n N j = (p : Int) := ⟨(p1 n N j).toNat, by omega⟩
      have x7 : A (200 + j) 7 = (p : Int) := by rw [eJ, wB2_7 h hjn, hp]
      have x8 : A (200 + j) 8 = h1 n N j := by rw [eJ, wB2_8 h hjn]
      have x2 : A (200 + j) 2 = N 111 j := by rw [eJ, wB2_ne (by decide), wB1_ne (by decide) (by decide) (by decide), g2]
      have x9 : A (200 + j) 9 = N 118 j := by rw [eJ, wB2_ne (by decide), wB1_ne (by decide) (by decide) (by decide), g9]
      have x1 : A (200 + j) 1 = N 110 j := by rw [eJ, wB2_ne (by decide), wB1_ne (by decide) (by decide) (by decide), g1]
      have x5 : A (200 + j) 5 = N 114 j := by rw [eJ, wB2_ne (by decide), wB1_ne (by decide) (by decide) (by decide), g5]
      have xg : A (21 + p) (N 100 4).toNat = N 108 (300 * p + (N 100 4).toNat) := by
        rw [hA.1 _ (by omega), q21 p (by omega)]
        exact h.2.2.1.1 p _ (by omega) (by omega)
      have xc : A (200 + j) 5 * A (11 + (A (200 + j) 1).toNat) p = N 114 j * N 107 (4 * (N 110 j).toNat + p) := by
        rw [x5, x1, hA.1 _ (by omega), q11 _ (by omega), h.2.1.1 (N 110 j).toNat p (by omega) (by omega)]
      have hd2 : d2 n N j = if h1 n N j = N 100 4 then N 118 j + A (21 + p) (N 100 4).toNat + N 114 j * N 107 (4 * (N 110 j).toNat + p) else N 118 j + A (21 + p) (N 100 4).toNat := by
        rw [xg]
        unfold d2
        rw [if_pos c, hp, Int.toNat_natCast]
        cases e : bgp n N j with
        | none =>
          have b1 : h1 n N j = N 117 j := by unfold h1; rw [e]
          have b2 : d1 n N j = N 118 j := by unfold d1; rw [e]
          have b3 : N 115 j = 1 := by
            have : s1 n N j = if N 115 j = 0 ∧ N 113 j < N 100 4 + 1 + N 111 j then 3 else N 115 j := by unfold s1; rw [e]
            rw [this] at c
            by_cases cc : N 115 j = 0 ∧ N 113 j < N 100 4 + 1 + N 111 j
            · rw [if_pos cc] at c
              omega
            · rw [if_neg cc] at c
              exact c
          have := w4 b3
          rw [b1, b2, if_neg (by omega)]
        | some q =>
          obtain ⟨k1, k2, k3, k4, k5⟩ := bgp_ok h e
          have b1 : h1 n N j = N 100 4 := by unfold h1; rw [e]
          have b2 : d1 n N j = N 114 j * N 107 (4 * (N 110 j).toNat + q) := by unfold d1; rw [e]
          have b3 : p1 n N j = (q : Int) := by unfold p1; rw [e]
          have b4 : q = p := by omega
          have := w8 k2
          rw [b1, b2, if_pos rfl, b4, this]
          omega
      have hdo := p_doHour (n := n) (G := G) (A := A) (w := 200 + j) (p := p) e9 (by omega) (by omega) x7 (by omega) x8 (by omega) x2 (by omega) x9 (by rw [x1]; omega) xc (d2 n N j) hd2
      have e3 : wB3 n N j = if N 100 4 + 1 < h1 n N j + N 111 j then upr (A (200 + j)) 9 (d2 n N j) else upr (upr (A (200 + j)) 9 (d2 n N j)) 6 2 := by
        unfold wB3
        rw [if_pos c, eJ]
      have ef : fin n N j = if N 100 4 + 1 < h1 n N j + N 111 j then 0 else 1 := by
        unfold fin
        by_cases cc : N 100 4 + 1 < h1 n N j + N 111 j
        · rw [if_neg (fun q => q.2 cc), if_pos cc]
        · rw [if_pos ⟨c, cc⟩, if_neg cc]
      rw [← e3, ← ef] at hdo
      obtain ⟨A', k1, k2⟩ := ih (j + 1) F _ (acc + fin n N j) hA.step (by omega) (by omega)
      refine ⟨A', ?_, k2⟩
      rw [if_pos c, b_get ⟨by omega, by omega⟩ e2, Int.toNat_natCast, hdo, gb2_of, gb2_of, ← Int.add_assoc]
      exact k1
    · have e3 : wB3 n N j = wB2 n N j := if_neg c
      have ef : fin n N j = 0 := if_neg (fun q => c q.1)
      obtain ⟨A', k1, k2⟩ := ih (j + 1) F A acc (hA.skip hjn e3) (by omega) (by omega)
      refine ⟨A', ?_, k2⟩
      rw [if_neg c, gb2_of, ef, Int.zero_add]
      exact k1
-- the reference
def mI (n : Nat) (B1 : gaM) (a1 a2 b1 b2 c1 c2 e1 e2 : Nat → Int) (j : Nat) (B : gaM) : Prop := (∀ a, (a < 115 ∨ 118 < a) → B a = B1 a) ∧ ∀ i, i < n → (B 115 i = if i < j then a2 i else a1 i) ∧ (B 116 i = if i < j then b2 i else b1 i) ∧ (B 117 i = if i < j then c2 i else c1 i) ∧ (B 118 i = if i < j then e2 i else e1 i)
theorem mI.step {B1 B B' : gaM} {a1 a2 b1 b2 c1 c2 e1 e2 : Nat → Int} {j : Nat} (h : mI n B1 a1 a2 b1 b2 c1 c2 e1 e2 j B) (hr : ∀ a, (a < 115 ∨ 118 < a) → B' a = B a) (hi : ∀ a i, i ≠ j → B' a i = B a i) (k1 : B' 115 j = a2 j) (k2 : B' 116 j = b2 j) (k3 : B' 117 j = c2 j) (k4 : B' 118 j = e2 j) : mI n B1 a1 a2 b1 b2 c1 c2 e1 e2 (j + 1) B' := by
  refine ⟨fun a ha => (hr a ha).trans (h.1 a ha), fun i hn => ?_⟩
  by_cases d : i = j
  · subst d
    rw [k1, k2, k3, k4]
    simp only [if_pos (show i < i + 1 by omega)]
    exact ⟨trivial, trivial, trivial, trivial⟩
  · rw [hi 115 i d, hi 116 i d, hi 117 i d, hi 118 i d]
    have := h.2 i hn
    by_cases d2 : i < j
    · simp only [if_pos d2] at this
      simp only [if_pos (show i < j + 1 by omega)]
      exact this
    · simp only [if_neg d2] at this
      simp only [if_neg (show ¬ i < j + 1 by omega)]
      exact this
abbrev mI1 (n : Nat) (N B1 : gaM) : Nat → gaM → Prop := mI n B1 (N 115) (s1 n N) (N 116) (p1 n N) (N 117) (h1 n N) (N 118) (d1 n N)
theorem p_anH1 {N B1 : gaM} {v1 : Int} (h : Inv n N) (hB : stm N B1) (hR : ∀ i, i < n → Rm (plF n N i) B1 i) : ∀ (k j F : Nat) (B : gaM), mI1 n N B1 j B → j + k = n → k < F → ∃ B', l_X6_anHour_8 G n F B v1 (j : Int) = some B' ∧ mI1 n N B1 n B' := by
  have h' := h
  obtain ⟨a1, a2, a3, a4, a5, a6, a7, a8, a9, a10, a11, a12, a13, a14, a15⟩ := h.1
  intro k
  induction k with
  | zero =>
    intro j F B hI hj hF
    obtain ⟨F, rfl⟩ : ∃ F1, F = F1 + 1 := ⟨F - 1, by omega⟩
    have e : j = n := by omega
    subst e
    refine ⟨B, ?_, hI⟩
    have e2 : B 100 3 = (j : Int) := by rw [hI.1 100 (by omega), hB.2 3 (by omega) (by omega)]; exact a5
    rw [l_X6_anHour_8]
    try simp (disch := (first | omega | (simp (disch := omega) only [ga_st_self, ga_st_id, ga_st_ix] <;> omega) | skip)) only [↓gb_of, ↓gb2_of, ↓gb3_of, ↓gB_eq, ↓gg_pos, ↓if_pos, ↓if_neg, ↓b_wi1, ↓b_wi0, ↓b_has1, ↓b_has0, ↓b_in1, ↓b_in0, ↓b_pl1, ↓b_pl0, ↓b_jm1, ↓b_jm0, ↓b_jc1, ↓b_jc0, ↓b_size, ↓b_get, ↓b_ref, ↓b_den, ↓b_gra, ↓b_don]
  | succ k ih =>
    intro j F B hI hj hF
    obtain ⟨F, rfl⟩ : ∃ F1, F = F1 + 1 := ⟨F - 1, by omega⟩
    have hjn : j < n := by omega
    have e3 : B 100 3 = (n : Int) := by rw [hI.1 100 (by omega), hB.2 3 (by omega) (by omega)]; exact a5
    have e4 : B 100 4 = N 100 4 := by rw [hI.1 100 (by omega), hB.2 4 (by omega) (by omega)]
    have e111 : B 111 j = N 111 j := by rw [hI.1 111 (by omega), hB.1 111 (by omega) (by omega)]
    have e113 : B 113 j = N 113 j := by rw [hI.1 113 (by omega), hB.1 113 (by omega) (by omega)]
    have e110 : B 110 j = N 110 j := by rw [hI.1 110 (by omega), hB.1 110 (by omega) (by omega)]
    have e114 : B 114 j = N 114 j := by rw [hI.1 114 (by omega), hB.1 114 (by omega) (by omega)]
    have e107 : B 107 = N 107 := by rw [hI.1 107 (by omega), hB.1 107 (by omega) (by omega)]
    have e120 : B 120 j = B1 120 j := by rw [hI.1 120 (by omega)]
    have e121 : B 121 j = B1 121 j := by rw [hI.1 121 (by omega)]
    obtain ⟨x5, x6, x7, x8⟩ := hI.2 j hjn
    simp only [if_neg (show ¬ j < j by omega)] at x5 x6 x7 x8
    obtain ⟨-, ⟨u1, u2, u3, u4, u5, u6, u7, u8, u9, u10, u11⟩, ⟨w1, w2, w3, w4, w5, w6, w7, w8⟩⟩ := h.2.2.2.1 j hjn
    have hRj := hR j hjn
    have skip : bgp n N j = none → ¬ (N 115 j = 0 ∧ N 113 j < N 100 4 + 1 + N 111 j) → mI1 n N B1 (j + 1) B := by
      intro e c
      refine hI.step (fun _ _ => rfl) (fun _ _ _ => rfl) ?_ ?_ ?_ ?_
      · unfold s1; rw [e, x5]; exact (if_neg c).symm
      · unfold p1; rw [e, x6]
      · unfold h1; rw [e, x7]
      · unfold d1; rw [e, x8]
    have lost : bgp n N j = none → N 115 j = 0 ∧ N 113 j < N 100 4 + 1 + N 111 j → mI1 n N B1 (j + 1) (ga_st B 115 j 3) := by
      intro e c
      refine hI.step (fun a ha => ga_st_row _ (by omega)) (fun a i hi => ga_st_ix hi) ?_ ?_ ?_ ?_
      · unfold s1; rw [e, ga_st_self]; exact (if_pos c).symm
      · unfold p1; rw [e, ga_st_id (by omega), x6]
      · unfold h1; rw [e, ga_st_id (by omega), x7]
      · unfold d1; rw [e, ga_st_id (by omega), x8]
    rw [l_X6_anHour_8, e3, gg_pos (show ok (j : Int) from ⟨by omega, by omega⟩), gg_pos (show ok (n : Int) from ⟨by omega, by omega⟩), if_pos (by omega), gg_pos (show ix (j : Int) 40 from ⟨by omega, by omega⟩), Int.toNat_natCast, x5, gg_pos (show ok (N 115 j) from ⟨by omega, by omega⟩)]
    have late : N 115 j = 0 → bgp n N j = none → ∃ B', (gb (gg (ok (((N 100 4) + 1) + (N 111 j))) <| gg (ok (N 113 j)) <| if (N 113 j) < (((N 100 4) + 1) + (N 111 j)) then (gB (ga_st B 115 j 3) fun M11 => some M11) else (some B)) fun M7 => l_X6_anHour_8 G n F M7 v1 ((j : Int) + 1)) = some B' ∧ mI1 n N B1 n B' := by
      intro c e
      rw [gg_pos (show ok (N 100 4 + 1 + N 111 j) from ⟨by omega, by omega⟩), gg_pos (show ok (N 113 j) from ⟨by omega, by omega⟩)]
      by_cases d : N 113 j < N 100 4 + 1 + N 111 j
      · obtain ⟨B', k1, k2⟩ := ih (j + 1) F _ (lost e ⟨c, d⟩) (by omega) (by omega)
        refine ⟨B', ?_, k2⟩
        rw [if_pos d, gB_eq, gb_of]
        exact k1
      · obtain ⟨B', k1, k2⟩ := ih (j + 1) F _ (skip e (fun q => d q.2)) (by omega) (by omega)
        refine ⟨B', ?_, k2⟩
        rw [if_neg d, gb_of]
        exact k1
    by_cases c : N 115 j = 0
    · rw [if_pos c, e120, e121, e4, e111, e113]
      cases hs : plF n N j with
      | none =>
        rw [hs] at hRj
        obtain ⟨z1, z2, z3⟩ := hRj
        have e : bgp n N j = none := by
          unfold bgp
          rw [hs]
        rw [z1, gg_pos (by decide), if_pos rfl]
        exact late c e
      | some t =>
        obtain ⟨p, x, cc⟩ := t
        rw [hs] at hRj
        obtain ⟨z1, z2, z3, z4, z5, z6⟩ := hRj
        obtain ⟨-, -, ⟨y1, y2, y3, y4, y5, -⟩⟩ := plS_ok h _ (Nat.le_refl _) hs
        rw [z1, z2, gg_pos (show ok (p : Int) from ⟨by omega, by omega⟩), if_neg (by omega), gg_pos (show ok (x : Int) from ⟨by omega, by omega⟩), gg_pos (show ok (N 100 4) from ⟨by omega, by omega⟩)]
        by_cases d : (x : Int) = N 100 4
        · have e : bgp n N j = some p := by
            unfold bgp
            rw [hs]
            simp only [if_pos d]
          rw [if_pos d]
          have v1' : (ga_st B 115 j 1) 120 j = (p : Int) := by rw [ga_st_id (by omega), e120]; exact z1
          have v2' : (ga_st (ga_st B 115 j 1) 116 j (p : Int)) 100 4 = N 100 4 := by rw [ga_st_id (by omega), ga_st_id (by omega)]; exact e4
          obtain ⟨B3, hB3⟩ : ∃ B3, B3 = ga_st (ga_st (ga_st B 115 j 1) 116 j (p : Int)) 117 j (N 100 4) := ⟨_, rfl⟩
          have v3 : B3 110 j = N 110 j := by rw [hB3, ga_st_id (by omega), ga_st_id (by omega), ga_st_id (by omega)]; exact e110
          have v4 : B3 116 j = (p : Int) := by rw [hB3, ga_st_id (by omega), ga_st_self]
          have v5 : B3 114 j = N 114 j := by rw [hB3, ga_st_id (by omega), ga_st_id (by omega), ga_st_id (by omega)]; exact e114
          have v6 : B3 107 = N 107 := by rw [hB3, ga_st_row _ (by omega), ga_st_row _ (by omega), ga_st_row _ (by omega)]; exact e107
          obtain ⟨B', k1, k2⟩ := ih (j + 1) F (ga_st B3 118 j (N 114 j * N 107 (4 * (N 110 j).toNat + p))) (by
            refine hI.step (fun a ha => by rw [hB3]; simp (disch := omega) only [ga_st_row]) (fun a i hi => by rw [hB3, ga_st_ix hi, ga_st_ix hi, ga_st_ix hi, ga_st_ix hi]) ?_ ?_ ?_ ?_
            · unfold s1
              rw [e, hB3]
              simp (disch := omega) only [ga_st_id, ga_st_self]
            · unfold p1
              rw [e, hB3]
              simp (disch := omega) only [ga_st_id, ga_st_self]
            · unfold h1
              rw [e, hB3]
              simp (disch := omega) only [ga_st_id, ga_st_self]
            · unfold d1
              rw [e, ga_st_self]) (by omega) (by omega)
          refine ⟨B', ?_, k2⟩
          rw [gB_eq, v1', gB_eq, v2', gB_eq, ← hB3, v3, v4, v5, v6, gg_pos (show ix (4 * N 110 j + (p : Int)) 16 from ⟨by omega, by omega⟩), gB_eq, gb_of, show (4 * N 110 j + (p : Int)).toNat = 4 * (N 110 j).toNat + p by omega]
          exact k1
        · have e : bgp n N j = none := by
            unfold bgp
            rw [hs]
            simp only [if_neg d]
          rw [if_neg d]
          exact late c e
    · have e : bgp n N j = none := by
        cases he : bgp n N j with
        | none => rfl
        | some p => exact absurd (bgp_ok h he).2.1 c
      obtain ⟨B', k1, k2⟩ := ih (j + 1) F _ (skip e (fun q => c q.1)) (by omega) (by omega)
      refine ⟨B', ?_, k2⟩
      rw [if_neg c, gb_of]
      exact k1
abbrev mI2 (n : Nat) (N B1 : gaM) : Nat → gaM → Prop := mI n B1 (s1 n N) (s2 n N) (p1 n N) (p1 n N) (h1 n N) (h1 n N) (d1 n N) (d2 n N)
theorem p_anH2 {N B1 : gaM} (h : Inv n N) (hB : stm N B1) : ∀ (k j F : Nat) (B : gaM) (acc : Int), mI2 n N B1 j B → j + k = n → k < F → ∃ B', l_X6_anHour_153 G n F B acc (j : Int) = some (B', acc + sm (fin n N) j k) ∧ mI2 n N B1 n B' := by
  have h' := h
  obtain ⟨a1, a2, a3, a4, a5, a6, a7, a8, a9, a10, a11, a12, a13, a14, a15⟩ := h.1
  intro k
  induction k with
  | zero =>
    intro j F B acc hI hj hF
    obtain ⟨F, rfl⟩ : ∃ F1, F = F1 + 1 := ⟨F - 1, by omega⟩
    have e : j = n := by omega
    subst e
    refine ⟨B, ?_, hI⟩
    have e2 : B 100 3 = (j : Int) := by rw [hI.1 100 (by omega), hB.2 3 (by omega) (by omega)]; exact a5
    rw [l_X6_anHour_153]
    try simp (disch := (first | omega | (simp (disch := omega) only [ga_st_self, ga_st_id, ga_st_ix] <;> omega) | skip)) only [↓gb_of, ↓gb2_of, ↓gb3_of, ↓gB_eq, ↓gg_pos, ↓if_pos, ↓if_neg, ↓b_wi1, ↓b_wi0, ↓b_has1, ↓b_has0, ↓b_in1, ↓b_in0, ↓b_pl1, ↓b_pl0, ↓b_jm1, ↓b_jm0, ↓b_jc1, ↓b_jc0, ↓b_size, ↓b_get, ↓b_ref, ↓b_den, ↓b_gra, ↓b_don]
    simp [sm]
  | succ k ih =>
    intro j F B acc hI hj hF
    obtain ⟨F, rfl⟩ : ∃ F1, F = F1 + 1 := ⟨F - 1, by omega⟩
    have hjn : j < n := by omega
    have e3 : B 100 3 = (n : Int) := by rw [hI.1 100 (by omega), hB.2 3 (by omega) (by omega)]; exact a5
    have e4 : B 100 4 = N 100 4 := by rw [hI.1 100 (by omega), hB.2 4 (by omega) (by omega)]
    have e111 : B 111 j = N 111 j := by rw [hI.1 111 (by omega), hB.1 111 (by omega) (by omega)]
    have e108 : B 108 = N 108 := by rw [hI.1 108 (by omega), hB.1 108 (by omega) (by omega)]
    obtain ⟨x5, x6, x7, x8⟩ := hI.2 j hjn
    simp only [if_neg (show ¬ j < j by omega)] at x5 x6 x7 x8
    obtain ⟨-, ⟨u1, u2, u3, u4, u5, u6, u7, u8, u9, u10, u11⟩, -⟩ := h.2.2.2.1 j hjn
    obtain ⟨t1, t2, t3, t4, t5, t6, t7, t8⟩ := s1_ok h hjn
    have hf : fin n N j = if s1 n N j = 1 ∧ ¬ N 100 4 + 1 < h1 n N j + N 111 j then 1 else 0 := rfl
    rw [l_X6_anHour_153, e3, gg_pos (show ok (j : Int) from ⟨by omega, by omega⟩), gg_pos (show ok (n : Int) from ⟨by omega, by omega⟩), if_pos (by omega), gg_pos (show ix (j : Int) 40 from ⟨by omega, by omega⟩), Int.toNat_natCast, x5, gg_pos (show ok (s1 n N j) from ⟨by omega, by omega⟩), sm_first]
    by_cases c : s1 n N j = 1
    · have y3 := t3 (Or.inl c)
      have y4 := t4 c
      have hd : d2 n N j = d1 n N j + N 108 (300 * (p1 n N j).toNat + (N 100 4).toNat) := if_pos c
      obtain ⟨B3, hB3⟩ : ∃ B3, B3 = ga_st B 118 j (d2 n N j) := ⟨_, rfl⟩
      have v4 : B3 100 4 = N 100 4 := by rw [hB3, ga_st_id (by omega)]; exact e4
      have v7 : B3 117 j = h1 n N j := by rw [hB3, ga_st_id (by omega)]; exact x7
      have v1 : B3 111 j = N 111 j := by rw [hB3, ga_st_id (by omega)]; exact e111
      rw [if_pos c, x6, x8, e4, e108, gg_pos (show ix (300 * p1 n N j + N 100 4) 1200 from ⟨by omega, by omega⟩), show (300 * p1 n N j + N 100 4).toNat = 300 * (p1 n N j).toNat + (N 100 4).toNat by omega, ← hd, gB_eq, ← hB3, v4, v7, v1, gg_pos (show ok (N 100 4 + 1) from ⟨by omega, by omega⟩), gg_pos (show ok (h1 n N j + N 111 j) from ⟨by omega, by omega⟩)]
      by_cases d : N 100 4 + 1 < h1 n N j + N 111 j
      · rw [if_neg (fun q => q.2 d)] at hf
        obtain ⟨B', k1, k2⟩ := ih (j + 1) F B3 acc (by
          refine hI.step (fun a ha => by rw [hB3, ga_st_row _ (by omega)]) (fun a i hi => by rw [hB3, ga_st_ix hi]) ?_ ?_ ?_ ?_
          · rw [hB3, ga_st_id (by omega), x5]
            unfold s2
            rw [if_neg (fun q => q.2 d)]
          · rw [hB3, ga_st_id (by omega), x6]
          · exact v7
          · rw [hB3, ga_st_self]) (by omega) (by omega)
        refine ⟨B', ?_, k2⟩
        rw [if_pos d, gb2_of, hf, Int.zero_add]
        exact k1
      · rw [if_pos ⟨c, d⟩] at hf
        obtain ⟨B', k1, k2⟩ := ih (j + 1) F (ga_st B3 115 j 2) (acc + 1) (by
          refine hI.step (fun a ha => by rw [ga_st_row _ (by omega), hB3, ga_st_row _ (by omega)]) (fun a i hi => by rw [ga_st_ix hi, hB3, ga_st_ix hi]) ?_ ?_ ?_ ?_
          · rw [ga_st_self]
            unfold s2
            rw [if_pos ⟨c, d⟩]
          · rw [ga_st_id (by omega), hB3, ga_st_id (by omega), x6]
          · rw [ga_st_id (by omega)]
            exact v7
          · rw [ga_st_id (by omega), hB3, ga_st_self]) (by omega) (by omega)
        refine ⟨B', ?_, k2⟩
        rw [if_neg d, gB_eq, gb2_of, hf, ← Int.add_assoc]
        exact k1
    · rw [if_neg (fun q => c q.1)] at hf
      obtain ⟨B', k1, k2⟩ := ih (j + 1) F B acc (by
        refine hI.step (fun _ _ => rfl) (fun _ _ _ => rfl) ?_ x6 x7 ?_
        · rw [x5]
          unfold s2
          rw [if_neg (fun q => c q.1)]
        · rw [x8]
          unfold d2
          rw [if_neg c]) (by omega) (by omega)
      refine ⟨B', ?_, k2⟩
      rw [if_neg c, gb2_of, hf, Int.zero_add]
      exact k1
end H2

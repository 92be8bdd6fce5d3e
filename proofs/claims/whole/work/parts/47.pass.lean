/-! ===== pure: pass ===== -/
section Z1
variable {n G : Nat}
def mix (A B : gaM) : gaM := fun a => if 100 ≤ a ∧ a < 200 then B a else A a
theorem mix_c {A B : gaM} {a : Nat} (h : a < 100 ∨ 200 ≤ a) : mix A B a = A a := if_neg (by omega)
theorem mix_m {A B : gaM} {a : Nat} (h : 100 ≤ a ∧ a < 200) : mix A B a = B a := if_pos h
theorem sm_add {f g : Nat → Int} {a : Nat} : ∀ k, sm f a k + sm g a k = sm (fun i => f i + g i) a k
  | 0 => rfl
  | k + 1 => by
    show sm f a k + f (a + k) + (sm g a k + g (a + k)) = sm (fun i => f i + g i) a k + (f (a + k) + g (a + k))
    rw [← sm_add k]
    omega
abbrev jn (A B : gaM) : gaM := ga_st (mix A B) 100 1 (A 0 10)
theorem wB3_ne {N : gaM} {i b : Nat} (h6 : b ≠ 6) (h9 : b ≠ 9) : wB3 n N i b = wB2 n N i b := by
  unfold wB3
  split
  · split
    · rw [upr_ne h9]
    · rw [upr_ne h6, upr_ne h9]
  · rfl
theorem fin_bd {N : gaM} {i : Nat} : 0 ≤ fin n N i ∧ fin n N i ≤ 1 := by
  unfold fin
  split <;> omega
theorem s2_ok {N : gaM} {j : Nat} (h : Inv n N) (hj : j < n) : 0 ≤ s2 n N j ∧ s2 n N j ≤ 3 ∧ (s2 n N j = 1 ∨ s2 n N j = 2 → 0 ≤ p1 n N j ∧ p1 n N j < N 100 2 ∧ N 112 j ≤ h1 n N j ∧ h1 n N j + N 111 j ≤ N 113 j) ∧ (s2 n N j = 1 → h1 n N j < N 100 4 + 1 ∧ N 100 4 + 1 < h1 n N j + N 111 j) ∧ (s2 n N j = 2 → h1 n N j + N 111 j ≤ N 100 4 + 1) ∧ 0 ≤ d2 n N j ∧ d2 n N j ≤ 9801 + 999 * (N 100 4 + 1) ∧ (s2 n N j = 0 → d2 n N j = 0) := by
  obtain ⟨t1, t2, t3, t4, t5, t6, t7, t8⟩ := s1_ok h hj
  have hP4 := h.1.2.2.1
  have h44 := h.1.2.2.2.2.2.2.2
  unfold s2 d2
  by_cases c : s1 n N j = 1
  · have y3 := t3 (Or.inl c)
    have y4 := t4 c
    have gb := h.2.2.1.2.1 (p1 n N j).toNat (N 100 4).toNat (by omega) (by omega)
    rw [if_pos c]
    by_cases d : N 100 4 + 1 < h1 n N j + N 111 j
    · rw [if_neg (fun q => q.2 d)]
      exact ⟨t1, t2, t3, fun _ => ⟨by omega, d⟩, fun q => by omega, by omega, by omega, fun q => by omega⟩
    · rw [if_pos ⟨c, d⟩]
      exact ⟨by omega, by omega, fun _ => y3, fun q => by omega, fun _ => by omega, by omega, by omega, fun q => by omega⟩
  · rw [if_neg c, if_neg (fun q => c q.1)]
    exact ⟨t1, t2, t3, fun q => absurd q c, fun q => by have := t5 q; omega, t6, by omega, t8⟩
theorem oc_after {N : gaM} {p x j : Nat} (h : Inv n N) (hj : j < n) (hx : N 100 4 + 1 ≤ (x : Int)) : oc N p x j + cb n N p x j = if s2 n N j = 1 ∧ p1 n N j = (p : Int) ∧ h1 n N j ≤ (x : Int) ∧ (x : Int) < h1 n N j + N 111 j then 1 else 0 := by
  unfold oc cb s2 s1 p1 h1
  cases e : bgp n N j with
  | none =>
    simp only []
    by_cases c : N 115 j = 1
    · rw [if_neg (show ¬ (N 115 j = 0 ∧ N 113 j < N 100 4 + 1 + N 111 j) by omega)]
      by_cases d : N 100 4 + 1 < N 117 j + N 111 j
      · rw [if_neg (show ¬ (N 115 j = 1 ∧ ¬ N 100 4 + 1 < N 117 j + N 111 j) from fun q => q.2 d)]
        omega
      · rw [if_pos (show N 115 j = 1 ∧ ¬ N 100 4 + 1 < N 117 j + N 111 j from ⟨c, d⟩), if_neg (by omega), if_neg (by omega)]
        rfl
    · rw [if_neg (show ¬ (N 115 j = 1 ∧ _) from fun q => c q.1)]
      have : ¬ (if N 115 j = 0 ∧ N 113 j < N 100 4 + 1 + N 111 j then (3 : Int) else N 115 j) = 1 := by
        split
        · omega
        · exact c
      rw [if_neg (fun q => by
        have q1 := q.1
        rw [if_neg (fun r => this r.1)] at q1
        exact this q1)]
      rfl
  | some q =>
    obtain ⟨k1, k2, k3, k4, k5⟩ := bgp_ok h e
    simp only []
    rw [if_neg (show ¬ (N 115 j = 1 ∧ _) from fun r => by omega)]
    by_cases d : N 100 4 + 1 < N 100 4 + N 111 j
    · rw [if_neg (show ¬ (True ∧ ¬ N 100 4 + 1 < N 100 4 + N 111 j) from fun r => r.2 d)]
      by_cases dd : p = q ∧ N 100 4 ≤ (x : Int) ∧ (x : Int) < N 100 4 + N 111 j
      · rw [if_pos dd, if_pos ⟨rfl, by omega, by omega, by omega⟩]
        rfl
      · rw [if_neg dd, if_neg (by omega)]
        rfl
    · rw [if_pos (show True ∧ ¬ N 100 4 + 1 < N 100 4 + N 111 j from ⟨trivial, d⟩), if_neg (by omega), if_neg (by omega)]
      rfl
theorem dl_after {N : gaM} {o j : Nat} (h : Inv n N) (hj : j < n) : dl N o j + bd n N o j = if N 109 j = (o : Int) ∧ (s2 n N j = 1 ∨ s2 n N j = 2) then h1 n N j - N 112 j else 0 := by
  have hs : (s2 n N j = 1 ∨ s2 n N j = 2) ↔ (s1 n N j = 1 ∨ s1 n N j = 2) := by
    unfold s2
    by_cases c : s1 n N j = 1 ∧ ¬ N 100 4 + 1 < h1 n N j + N 111 j
    · rw [if_pos c]
      omega
    · rw [if_neg c]
  simp only [hs]
  unfold dl bd s1 h1
  cases e : bgp n N j with
  | none =>
    simp only []
    by_cases c : N 115 j = 0 ∧ N 113 j < N 100 4 + 1 + N 111 j
    · simp only [if_pos c]
      rw [if_neg (by omega), if_neg (by omega)]
      rfl
    · simp only [if_neg c]
      rw [Int.add_zero]
  | some q =>
    obtain ⟨k1, k2, k3, k4, k5⟩ := bgp_ok h e
    simp only []
    rw [if_neg (show ¬ (N 109 j = (o : Int) ∧ (N 115 j = 1 ∨ N 115 j = 2)) by omega), Int.zero_add]
    by_cases d : N 109 j = (o : Int)
    · rw [if_pos d, if_pos ⟨d, Or.inl trivial⟩]
    · rw [if_neg d, if_neg (fun r => d r.1)]
theorem p_hour {A B : gaM} (hG : 5000 ≤ G) (h : Inv n (jn A B)) (hlt : B 100 4 < 299) : ∃ r A' B', f_X5_passHour G n A = some (r, A') ∧ f_X6_anHour G n B = some (r, B') ∧ Inv n (jn A' B') ∧ (∀ a, 100 ≤ a → a < 200 → A' a = A a) ∧ (∀ a, a < 100 ∨ 200 ≤ a → B' a = B a) ∧ B' 100 4 = B 100 4 + 1 ∧ A' 0 10 = A 0 10 := by
  obtain ⟨N, hN⟩ : ∃ N, N = ga_st (mix A B) 100 1 (A 0 10) := ⟨_, rfl⟩
  have h : Inv n N := by rw [hN]; exact h
  have nc : ∀ a, a < 100 ∨ 200 ≤ a → N a = A a := fun a ha => by rw [hN, ga_st_row _ (by omega), mix_c ha]
  have nm : ∀ a, 100 < a ∧ a < 200 → N a = B a := fun a ha => by rw [hN, ga_st_row _ (by omega), mix_m (by omega)]
  have n100 : ∀ b, b ≠ 1 → N 100 b = B 100 b := fun b hb => by rw [hN, ga_st_ix hb, mix_m (by omega)]
  have n1 : N 100 1 = A 0 10 := by rw [hN, ga_st_self]
  have h' := h
  obtain ⟨a1, a2, a3, a4, a5, a6, a7, a8, a9, a10, a11, a12, a13, a14, a15⟩ := h.1
  have sA : stc N A := fun a ha => (nc a (by omega)).symm
  have sB : stm N B := ⟨fun a q1 q2 => (nm a (by omega)).symm, fun b q1 q2 => (n100 b (by omega)).symm⟩
  obtain ⟨A1, m1, m2, m3, m4, -, -⟩ := p_planC (n := n) (G := G) (N := N) (A := A) (o := 5) hG (Or.inr rfl) h sA (fun x q1 q2 => (nc x (by omega)).symm)
  have r1 : ∀ a, a ≠ 6 → a ≠ 8 → (a < 61 ∨ 64 < a) → (a < 31 ∨ 34 < a) → (a < 50 ∨ 52 < a) → a ≠ 5 → A1 a = A a := fun a q1 q2 q3 q4 q5 q6 => m2 a q1 q2 q3 q4 (by omega) q6
  have b0 : blI n N A1 0 A1 := by
    refine ⟨fun _ _ _ _ => rfl, fun i hi => ?_, fun o ho => ?_, fun p x q1 q2 q3 => ?_⟩
    · rw [if_neg (by omega), r1 _ (by omega) (by omega) (by omega) (by omega) (by omega) (by omega), nc _ (by omega)]
    · rw [r1 3 (by omega) (by omega) (by omega) (by omega) (by omega) (by omega), nc 3 (by omega)]
      show _ = _ + (0 : Int)
      omega
    · rw [m3 p x q1 q2 q3]
      show _ = N 106 p - (pU0 n N p x + 0)
      omega
  have z0 : A1 0 = A 0 := r1 0 (by omega) (by omega) (by omega) (by omega) (by omega) (by omega)
  have z2 : A1 2 = A 2 := r1 2 (by omega) (by omega) (by omega) (by omega) (by omega) (by omega)
  have q09 : A1 0 9 = N 100 4 := by rw [z0, ← nc 0 (by omega)]; exact a7
  have q22 : A1 2 2 = (n : Int) := by rw [z2, ← nc 2 (by omega)]; exact a4
  obtain ⟨A2, k1, k2⟩ := p_begin (n := n) (G := G) (N := N) (A1 := A1) hG h q09 q22 m4 n 0 G A1 b0 (by omega) (by omega)
  obtain ⟨k21, k22, k23, k24⟩ := k2
  obtain ⟨A3, l1, l2⟩ := p_lose (n := n) (G := G) (N := N) (A2 := A2) h (by rw [k21 0 (by omega) (by omega) (by omega)]; exact q09) (by rw [k21 2 (by omega) (by omega) (by omega)]; exact q22) n 0 G A2 ⟨fun _ _ => rfl, fun i hi => by rw [k22 i hi, if_pos hi, if_neg (by omega)]⟩ (by omega) (by omega)
  have r3 : ∀ a, a < 200 → a ≠ 3 → (a < 31 ∨ 34 < a) → A3 a = A1 a := fun a q1 q2 q3 => by rw [l2.1 a q1, k21 a q2 q3 q1]
  obtain ⟨A4, o1, o2⟩ := p_hours (n := n) (G := G) (N := N) (A3 := A3) h (by rw [r3 0 (by omega) (by omega) (by omega)]; exact q09) (by rw [r3 2 (by omega) (by omega) (by omega)]; exact q22) (fun a ha => by rw [r3 _ (by omega) (by omega) (by omega), r1 _ (by omega) (by omega) (by omega) (by omega) (by omega) (by omega), nc _ (by omega)]) (fun a ha => by rw [r3 _ (by omega) (by omega) (by omega), r1 _ (by omega) (by omega) (by omega) (by omega) (by omega) (by omega), nc _ (by omega)]) n 0 G A3 0 ⟨fun _ _ => rfl, fun i hi => by rw [l2.2 i hi, if_pos hi, if_neg (by omega)]⟩ (by omega) (by omega)
  have r4 : ∀ a, a < 200 → a ≠ 3 → (a < 31 ∨ 34 < a) → A4 a = A1 a := fun a q1 q2 q3 => by rw [o2.1 a q1, r3 a q1 q2 q3]
  have e49 : A4 0 9 = N 100 4 := by rw [r4 0 (by omega) (by omega) (by omega)]; exact q09
  -- the reference
  obtain ⟨B1, v1, v2, v3⟩ := p_lays (n := n) (G := G) (N := N) hG h sB
  have sB1 : stm N B1 := ⟨fun a q1 q2 => by rw [v2.1 a (by omega) (by omega) (by omega)]; exact sB.1 a q1 q2, fun b q1 q2 => by rw [v2.2 b (by omega)]; exact sB.2 b q1 q2⟩
  obtain ⟨B2, x1, x2⟩ := p_anH1 (n := n) (G := G) (N := N) (B1 := B1) (v1 := 0) h sB1 v3 n 0 G B1 ⟨fun _ _ => rfl, fun i hi => by
    simp only [if_neg (show ¬ i < 0 by omega)]
    exact ⟨by rw [sB1.1 115 (by omega) (by omega)], by rw [sB1.1 116 (by omega) (by omega)], by rw [sB1.1 117 (by omega) (by omega)], by rw [sB1.1 118 (by omega) (by omega)]⟩⟩ (by omega) (by omega)
  obtain ⟨B3, y1, y2⟩ := p_anH2 (n := n) (G := G) (N := N) (B1 := B1) h sB1 n 0 G B2 0 ⟨x2.1, fun i hi => by
    have := x2.2 i hi
    simp only [if_pos hi] at this
    simp only [if_neg (show ¬ i < 0 by omega)]
    exact this⟩ (by omega) (by omega)
  have e34 : B3 100 4 = N 100 4 := by rw [y2.1 100 (by omega)]; exact sB1.2 4 (by omega) (by omega)
  have k1 : l_X5_beginLaid_2 G n G A1 0 = some A2 := k1
  have l1 : l_X5_loseLate_2 G n G A2 0 = some A3 := l1
  have o1 : l_X5_passHour_20 G n G A3 0 0 = some (A4, 0 + sm (fin n N) 0 n) := o1
  have x1 : l_X6_anHour_8 G n G B1 0 0 = some B2 := x1
  have y1 : l_X6_anHour_153 G n G B2 0 0 = some (B3, 0 + sm (fin n N) 0 n) := y1
  have hC : f_X5_passHour G n A = some (0 + sm (fin n N) 0 n, ga_st A4 0 9 (N 100 4 + 1)) := by
    unfold f_X5_passHour
    rw [gb_eq m1]
    have hb : f_X5_beginLaid G n A1 = some A2 := gb_eq k1
    have hl : f_X5_loseLate G n A2 = some A3 := gb_eq l1
    rw [gb_eq hb, gb_eq hl, o1, gb2_of, gB_eq, e49]
  have hM : f_X6_anHour G n B = some (0 + sm (fin n N) 0 n, ga_st B3 100 4 (N 100 4 + 1)) := by
    unfold f_X6_anHour
    rw [gb_eq v1, gb_eq x1, y1, gb2_of, gB_eq, e34]
  have rc : ∀ a, a ≠ 0 → a ≠ 3 → a ≠ 5 → a ≠ 6 → a ≠ 8 → (a < 31 ∨ 34 < a) → (a < 50 ∨ 52 < a) → (a < 61 ∨ 64 < a) → a < 200 → ga_st A4 0 9 (N 100 4 + 1) a = A a := by
    intro a q0 q1 q2 q3 q4 q5 q6 q7 q8
    rw [ga_st_row _ q0, r4 a q8 q1 q5, r1 a q3 q4 q7 q5 q6 q2]
  have rm : ∀ a, a ≠ 100 → (a < 115 ∨ 123 < a) → a ≠ 127 → ga_st B3 100 4 (N 100 4 + 1) a = B a := by
    intro a q1 q2 q3
    rw [ga_st_row _ q1, y2.1 a (by omega), v2.1 a q1 (by omega) q3]
  have rm100 : ∀ b, b ≠ 4 → b ≠ 28 → ga_st B3 100 4 (N 100 4 + 1) 100 b = B 100 b := by
    intro b q1 q2
    rw [ga_st_ix q1, y2.1 100 (by omega), v2.2 b q2]
  refine ⟨_, _, _, hC, hM, ?_, fun a q1 q2 => rc a (by omega) (by omega) (by omega) (by omega) (by omega) (by omega) (by omega) (by omega) q2, fun a ha => rm a (by omega) (by omega) (by omega), by rw [ga_st_self, n100 4 (by omega)], by rw [ga_st_ix (by omega), r4 0 (by omega) (by omega) (by omega), z0]⟩
  have t10 : ga_st A4 0 9 (N 100 4 + 1) 0 10 = A 0 10 := by rw [ga_st_ix (by omega), r4 0 (by omega) (by omega) (by omega), z0]
  obtain ⟨N', hN'⟩ : ∃ N', N' = ga_st (mix (ga_st A4 0 9 (N 100 4 + 1)) (ga_st B3 100 4 (N 100 4 + 1))) 100 1 (ga_st A4 0 9 (N 100 4 + 1) 0 10) := ⟨_, rfl⟩
  show Inv n (ga_st (mix (ga_st A4 0 9 (N 100 4 + 1)) (ga_st B3 100 4 (N 100 4 + 1))) 100 1 (ga_st A4 0 9 (N 100 4 + 1) 0 10))
  rw [← hN']
  have c' : ∀ a, a < 100 ∨ 200 ≤ a → N' a = ga_st A4 0 9 (N 100 4 + 1) a := fun a ha => by rw [hN', ga_st_row _ (by omega), mix_c ha]
  have m' : ∀ a, 100 < a ∧ a < 200 → N' a = ga_st B3 100 4 (N 100 4 + 1) a := fun a ha => by rw [hN', ga_st_row _ (by omega), mix_m (by omega)]
  have f1 : N' 100 1 = N 100 1 := by rw [hN', ga_st_self, t10, n1]
  have f4 : N' 100 4 = N 100 4 + 1 := by rw [hN', ga_st_ix (by omega), mix_m (by omega), ga_st_self]
  have fb : ∀ b, b ≠ 1 → b ≠ 4 → b ≠ 28 → N' 100 b = N 100 b := fun b q1 q2 q3 => by rw [hN', ga_st_ix q1, mix_m (by omega), rm100 b q2 q3, n100 b q1]
  have fc : ∀ a, a ≠ 0 → a ≠ 3 → a ≠ 5 → a ≠ 6 → a ≠ 8 → (a < 31 ∨ 34 < a) → (a < 50 ∨ 52 < a) → (a < 61 ∨ 64 < a) → a < 100 → N' a = N a := fun a q0 q1 q2 q3 q4 q5 q6 q7 q8 => by rw [c' a (by omega), rc a q0 q1 q2 q3 q4 q5 q6 q7 (by omega), nc a (by omega)]
  have fm : ∀ a, 100 < a → a < 200 → (a < 115 ∨ 123 < a) → a ≠ 127 → N' a = N a := fun a q1 q2 q3 q4 => by rw [m' a (by omega), rm a (by omega) q3 q4, nm a (by omega)]
  have fj : ∀ i, i < n → N' 115 i = s2 n N i ∧ N' 116 i = p1 n N i ∧ N' 117 i = h1 n N i ∧ N' 118 i = d2 n N i := by
    intro i hi
    have := y2.2 i hi
    simp only [if_pos hi] at this
    rw [m' 115 (by omega), m' 116 (by omega), m' 117 (by omega), m' 118 (by omega), ga_st_id (by omega), ga_st_id (by omega), ga_st_id (by omega), ga_st_id (by omega)]
    exact this
  have fw : ∀ i, i < n → N' (200 + i) = wB3 n N i := by
    intro i hi
    rw [c' _ (by omega), ga_st_row _ (by omega), o2.2 i hi, if_pos hi]
  have f0 : ∀ b, b ≠ 9 → N' 0 b = N 0 b := fun b hb => by rw [c' 0 (by omega), ga_st_ix hb, r4 0 (by omega) (by omega) (by omega), z0, nc 0 (by omega)]
  have f09 : N' 0 9 = N 100 4 + 1 := by rw [c' 0 (by omega), ga_st_self]
  have e4lt : N 100 4 < 299 := by rw [n100 4 (by omega)]; exact hlt
  refine ⟨?_, h.2.1.of (fun a ha => fc _ (by omega) (by omega) (by omega) (by omega) (by omega) (by omega) (by omega) (by omega) (by omega)) (fm _ (by omega) (by omega) (by omega) (by omega)) (fb 2 (by omega) (by omega) (by omega)) a3, h.2.2.1.of (fun a ha => fc _ (by omega) (by omega) (by omega) (by omega) (by omega) (by omega) (by omega) (by omega) (by omega)) (fm _ (by omega) (by omega) (by omega) (by omega)) (fm _ (by omega) (by omega) (by omega) (by omega)) (fb 2 (by omega) (by omega) (by omega)) a3, fun j hj => ?_, fun p x q1 q2 q3 => ?_, fun o ho => ?_, h.2.2.2.2.2.2.of (fb 29 (by omega) (by omega) (by omega)) (by rw [fc 4 (by omega) (by omega) (by omega) (by omega) (by omega) (by omega) (by omega) (by omega) (by omega)]) (fc _ (by omega) (by omega) (by omega) (by omega) (by omega) (by omega) (by omega) (by omega) (by omega)) (fc _ (by omega) (by omega) (by omega) (by omega) (by omega) (by omega) (by omega) (by omega) (by omega)) (fc _ (by omega) (by omega) (by omega) (by omega) (by omega) (by omega) (by omega) (by omega) (by omega)) (fm _ (by omega) (by omega) (by omega) (by omega)) (fm _ (by omega) (by omega) (by omega) (by omega)) (fm _ (by omega) (by omega) (by omega) (by omega))⟩
  · unfold iA
    rw [fc 1 (by omega) (by omega) (by omega) (by omega) (by omega) (by omega) (by omega) (by omega) (by omega), fc 2 (by omega) (by omega) (by omega) (by omega) (by omega) (by omega) (by omega) (by omega) (by omega), fb 2 (by omega) (by omega) (by omega), fb 3 (by omega) (by omega) (by omega), fb 5 (by omega) (by omega) (by omega), f4, f1, f0 8 (by omega), f0 10 (by omega), f09]
    exact ⟨a1, a2, a3, a4, a5, a6, rfl, by omega, by omega, a10, a11, a12, a13, a14, a15⟩
  · obtain ⟨⟨g0, g1, g2, g3, g4, g5, g6, g7, g8, g9⟩, u, w⟩ := h.2.2.2.1 j hj
    obtain ⟨j1, j2, j3, j4⟩ := fj j hj
    have hs := s2_ok h hj
    have e9 : wB3 n N j 9 = d2 n N j := by
      unfold wB3
      by_cases c : s1 n N j = 1
      · rw [if_pos c]
        split
        · rw [upr_self]
        · rw [upr_ne (by decide), upr_self]
      · rw [if_neg c, wB2_ne (by decide), wB1_ne (by decide) (by decide) (by decide), g9]
        unfold d2
        rw [if_neg c]
        unfold d1
        cases e : bgp n N j with
        | none => rfl
        | some q =>
          have : s1 n N j = 1 := by unfold s1; rw [e]
          exact absurd this c
    have e6 : wB3 n N j 6 = s2 n N j := by
      unfold wB3 s2
      by_cases c : s1 n N j = 1
      · rw [if_pos c]
        by_cases d : N 100 4 + 1 < h1 n N j + N 111 j
        · rw [if_pos d, if_neg (fun q => q.2 d), upr_ne (by decide), wB2_6 h hj]
        · rw [if_neg d, if_pos ⟨c, d⟩, upr_self]
      · rw [if_neg c, if_neg (fun q => c q.1), wB2_6 h hj]
    have ek : ∀ b, b ≠ 6 → b ≠ 7 → b ≠ 8 → b ≠ 9 → wB3 n N j b = N (200 + j) b := fun b q6 q7 q8 q9 => by rw [wB3_ne q6 q9, wB2_ne q6, wB1_ne q6 q7 q8]
    have fmj : ∀ a, 109 ≤ a → a ≤ 114 → N' a j = N a j := fun a q1 q2 => by rw [fm a (by omega) (by omega) (by omega) (by omega)]
    refine ⟨?_, ?_, ?_⟩
    · unfold iJ1
      rw [fw j hj, j1, j2, j3, j4, e6, e9, wB3_ne (b := 7) (by decide) (by decide), wB2_7 h hj, wB3_ne (b := 8) (by decide) (by decide), wB2_8 h hj, ek 0 (by decide) (by decide) (by decide) (by decide), ek 1 (by decide) (by decide) (by decide) (by decide), ek 2 (by decide) (by decide) (by decide) (by decide), ek 3 (by decide) (by decide) (by decide) (by decide), ek 4 (by decide) (by decide) (by decide) (by decide), ek 5 (by decide) (by decide) (by decide) (by decide), fmj 109 (by omega) (by omega), fmj 110 (by omega) (by omega), fmj 111 (by omega) (by omega), fmj 112 (by omega) (by omega), fmj 113 (by omega) (by omega), fmj 114 (by omega) (by omega)]
      exact ⟨g0, g1, g2, g3, g4, g5, rfl, rfl, rfl, rfl⟩
    · unfold iJ2 at *
      rw [fmj 109 (by omega) (by omega), fmj 110 (by omega) (by omega), fmj 111 (by omega) (by omega), fmj 112 (by omega) (by omega), fmj 113 (by omega) (by omega), fmj 114 (by omega) (by omega), fb 2 (by omega) (by omega) (by omega)]
      exact u
    · unfold iJ3
      rw [j1, j2, j3, j4, fmj 111 (by omega) (by omega), fmj 112 (by omega) (by omega), fmj 113 (by omega) (by omega), fb 2 (by omega) (by omega) (by omega), f4]
      exact hs
  · rw [fb 2 (by omega) (by omega) (by omega)] at q1
    rw [f4] at q2
    have hR := k24 p x q1 (by omega) q3
    have hR : A2 (31 + p) x = N 106 p - (pU0 n N p x + sm (cb n N p x) 0 n) := hR
    rw [c' _ (by omega), ga_st_row _ (by omega), o2.1 _ (by omega), l2.1 _ (by omega), hR, fm 106 (by omega) (by omega) (by omega) (by omega)]
    congr 1
    unfold pU0
    rw [sm_add]
    refine sm_congr (fun i hi => ?_)
    rw [Nat.zero_add]
    obtain ⟨j1, j2, j3, j4⟩ := fj i hi
    show oc N p x i + cb n N p x i = _
    rw [oc_after h hi (by omega)]
    unfold oc
    rw [j1, j2, j3, fm 111 (by omega) (by omega) (by omega) (by omega)]
  · rw [c' 3 (by omega), ga_st_row _ (by omega), o2.1 3 (by omega), l2.1 3 (by omega), k23 o ho, h.2.2.2.2.2.1 o ho, sm_add]
    refine sm_congr (fun i hi => ?_)
    rw [Nat.zero_add]
    obtain ⟨j1, j2, j3, j4⟩ := fj i hi
    show dl N o i + bd n N o i = _
    rw [dl_after h hi]
    unfold dl
    rw [j1, j3, fm 109 (by omega) (by omega) (by omega) (by omega), fm 112 (by omega) (by omega) (by omega) (by omega)]
theorem p_pass {v : Nat} (hG : 5000 ≤ G) (hv : v ≤ 48) : ∀ (k i F : Nat) (A B : gaM) (acc : Int), Inv n (jn A B) → B 100 4 + k ≤ 299 → i + k = v → k < F → ∃ r A' B', l_X5_pass_22 G n F A (v : Int) acc (i : Int) = some (A', r) ∧ l_X6_pass_43 G n F B (v : Int) acc (i : Int) = some (B', r) ∧ Inv n (jn A' B') ∧ (∀ a, 100 ≤ a → a < 200 → A' a = A a) ∧ (∀ a, a < 100 ∨ 200 ≤ a → B' a = B a) ∧ A' 0 10 = A 0 10 := by
  intro k
  induction k with
  | zero =>
    intro i F A B acc hI ht hi hF
    obtain ⟨F, rfl⟩ : ∃ F1, F = F1 + 1 := ⟨F - 1, by omega⟩
    have e : i = v := by omega
    subst e
    refine ⟨acc, A, B, ?_, ?_, hI, fun _ _ _ => rfl, fun _ _ => rfl, rfl⟩
    · rw [l_X5_pass_22]
      try simp (disch := (first | omega | (simp (disch := omega) only [ga_st_self, ga_st_id, ga_st_ix] <;> omega) | skip)) only [↓gb_of, ↓gb2_of, ↓gb3_of, ↓gB_eq, ↓gg_pos, ↓if_pos, ↓if_neg, ↓b_wi1, ↓b_wi0, ↓b_has1, ↓b_has0, ↓b_in1, ↓b_in0, ↓b_pl1, ↓b_pl0, ↓b_jm1, ↓b_jm0, ↓b_jc1, ↓b_jc0, ↓b_size, ↓b_get, ↓b_ref, ↓b_den, ↓b_gra, ↓b_don]
    · rw [l_X6_pass_43]
      try simp (disch := (first | omega | (simp (disch := omega) only [ga_st_self, ga_st_id, ga_st_ix] <;> omega) | skip)) only [↓gb_of, ↓gb2_of, ↓gb3_of, ↓gB_eq, ↓gg_pos, ↓if_pos, ↓if_neg, ↓b_wi1, ↓b_wi0, ↓b_has1, ↓b_has0, ↓b_in1, ↓b_in0, ↓b_pl1, ↓b_pl0, ↓b_jm1, ↓b_jm0, ↓b_jc1, ↓b_jc0, ↓b_size, ↓b_get, ↓b_ref, ↓b_den, ↓b_gra, ↓b_don]
  | succ k ih =>
    intro i F A B acc hI ht hi hF
    obtain ⟨F, rfl⟩ : ∃ F1, F = F1 + 1 := ⟨F - 1, by omega⟩
    obtain ⟨r, A1, B1, m1, m2, m3, m4, m5, m6, m7⟩ := p_hour (n := n) (G := G) hG hI (by omega)
    obtain ⟨r', A', B', k1, k2, k3, k4, k5, k6⟩ := ih (i + 1) F A1 B1 (acc + r) m3 (by omega) (by omega) (by omega)
    refine ⟨r', A', B', ?_, ?_, k3, fun a q1 q2 => by rw [k4 a q1 q2, m4 a q1 q2], fun a q => by rw [k5 a q, m5 a q], by rw [k6, m7]⟩
    · rw [l_X5_pass_22, gg_pos (show ok (i : Int) from ⟨by omega, by omega⟩), gg_pos (show ok (v : Int) from ⟨by omega, by omega⟩), if_pos (by omega), m1, gb2_of]
      exact k1
    · rw [l_X6_pass_43, gg_pos (show ok (i : Int) from ⟨by omega, by omega⟩), gg_pos (show ok (v : Int) from ⟨by omega, by omega⟩), if_pos (by omega), m2, gb2_of]
      exact k2
theorem mix_jn {A B : gaM} (h : ∀ a, a < 100 ∨ 200 ≤ a → B a = A a) : mix A B = B := by
  funext a
  by_cases c : 100 ≤ a ∧ a < 200
  · exact mix_m c
  · rw [mix_c (by omega), h a (by omega)]
theorem e_pass {M : gaM} {v1 : Int} (hG : 5000 ≤ G) (h : Inv n M) (hv1 : ok v1) : ∃ r Mc Mm, f_X5_pass G n M v1 = some (r, Mc) ∧ f_X6_pass G n Mc v1 = some (r, Mm) ∧ Inv n Mm := by
  obtain ⟨a1, a2, a3, a4, a5, a6, a7, a8, a9, a10, a11, a12, a13, a14, a15⟩ := h.1
  by_cases c : 1 ≤ v1 ∧ v1 ≤ 48
  · obtain ⟨v, rfl⟩ : ∃ v : Nat, v1 = (v : Int) := ⟨v1.toNat, by omega⟩
    by_cases d : M 100 4 + (v : Int) < 300
    · have hA0 : Inv n (jn (ga_st M 0 10 0) (ga_st M 0 10 0)) := by
        show Inv n (ga_st (mix (ga_st M 0 10 0) (ga_st M 0 10 0)) 100 1 ((ga_st M 0 10 0) 0 10))
        rw [mix_jn (fun _ _ => rfl), ga_st_self]
        exact h.sc (by unfold iA; simp [ga_st]; try omega) (by intro a ha; unfold rel at ha; simp (disch := omega) only [ga_st_row]) (by simp [ga_st]) (by simp [ga_st]) (by simp [ga_st]) (by simp [ga_st])
      obtain ⟨r, A', B', m1, -, -, m4, -, m6⟩ := p_pass (n := n) (G := G) (v := v) hG (by omega) v 0 G (ga_st M 0 10 0) (ga_st M 0 10 0) 0 hA0 (by rw [ga_st_id (by omega)]; omega) (by omega) (by omega)
      have hB0 : Inv n (jn (ga_st M 0 10 0) (ga_st A' 100 0 0)) := by
        have e : ga_st (mix (ga_st M 0 10 0) (ga_st A' 100 0 0)) 100 1 ((ga_st M 0 10 0) 0 10) = ga_st (ga_st (ga_st M 0 10 0) 100 0 0) 100 1 0 := by
          rw [ga_st_self]
          congr 1
          funext a
          by_cases q : 100 ≤ a ∧ a < 200
          · rw [mix_m q]
            by_cases q2 : a = 100
            · subst q2
              rw [st_setr, setr_self, st_setr (M := ga_st M 0 10 0), setr_self, m4 100 (by omega) (by omega)]
            · rw [ga_st_row _ q2, ga_st_row _ q2, m4 a q.1 q.2]
          · rw [mix_c (by omega), ga_st_row _ (by omega : a ≠ 100)]
        show Inv n (ga_st (mix (ga_st M 0 10 0) (ga_st A' 100 0 0)) 100 1 ((ga_st M 0 10 0) 0 10))
        rw [e]
        exact h.sc (by unfold iA; simp [ga_st]; try omega) (by intro a ha; unfold rel at ha; simp (disch := omega) only [ga_st_row]) (by simp [ga_st]) (by simp [ga_st]) (by simp [ga_st]) (by simp [ga_st])
      have t4 : (ga_st A' 100 0 0) 100 4 = M 100 4 := by rw [ga_st_ix (by omega), m4 100 (by omega) (by omega), ga_st_id (by omega)]
      obtain ⟨r2, A2, B2, k1, k2, k3, k4, k5, k6⟩ := p_pass (n := n) (G := G) (v := v) hG (by omega) v 0 G (ga_st M 0 10 0) (ga_st A' 100 0 0) 0 hB0 (by rw [t4]; omega) (by omega) (by omega)
      have hAA : A' = A2 ∧ r = r2 := by
        have := m1.symm.trans k1
        injection this with this
        injection this with q1 q2
        exact ⟨q1, q2⟩
      obtain ⟨rfl, rfl⟩ := hAA
      refine ⟨r, A', ga_st B2 100 1 0, ?_, ?_, ?_⟩
      · have ht : f_X5_troubleOfPass G n M (v : Int) = some 0 := by
          try simp (disch := (first | omega | (simp (disch := omega) only [ga_st_self, ga_st_id, ga_st_ix] <;> omega) | skip)) only [f_X5_troubleOfPass, ↓gb_of, ↓gb2_of, ↓gb3_of, ↓gB_eq, ↓gg_pos, ↓if_pos, ↓if_neg, ↓b_wi1, ↓b_wi0, ↓b_has1, ↓b_has0, ↓b_in1, ↓b_in0, ↓b_pl1, ↓b_pl0, ↓b_jm1, ↓b_jm0, ↓b_jc1, ↓b_jc0, ↓b_size, ↓b_get, ↓b_ref, ↓b_den, ↓b_gra, ↓b_don]
        have m1 : l_X5_pass_22 G n G (ga_st M 0 10 0) (v : Int) 0 0 = some (A', r) := m1
        unfold f_X5_pass
        rw [gb_eq ht, gB_eq, ga_st_self, gg_pos (by decide), if_pos rfl, m1]
        rfl
      · have k2 : l_X6_pass_43 G n G (ga_st A' 100 0 0) (v : Int) 0 0 = some (B2, r) := k2
        unfold f_X6_pass
        rw [gB_eq, b_in1 c hv1 (by decide) (by decide), gg_pos (by decide), if_neg (by decide), t4, gg_pos ⟨by omega, by omega⟩, if_neg (by omega), k2, gb2_of, b_don]
      · have e : jn A' B2 = ga_st B2 100 1 0 := by
          show ga_st (mix A' B2) 100 1 (A' 0 10) = _
          rw [mix_jn (fun a ha => by rw [k5 a ha, ga_st_row _ (by omega)]), m6, ga_st_self]
        rw [← e]
        exact k3
    · refine ⟨-1, ga_st M 0 10 3, ga_st (ga_st (ga_st M 0 10 3) 100 0 0) 100 1 3, ?_, ?_, h.sc (by unfold iA; simp [ga_st]; try omega) (by intro a ha; unfold rel at ha; simp (disch := omega) only [ga_st_row]) (by simp [ga_st]) (by simp [ga_st]) (by simp [ga_st]) (by simp [ga_st])⟩
      · have ht : f_X5_troubleOfPass G n M (v : Int) = some 3 := by
          try simp (disch := (first | omega | (simp (disch := omega) only [ga_st_self, ga_st_id, ga_st_ix] <;> omega) | skip)) only [f_X5_troubleOfPass, ↓gb_of, ↓gb2_of, ↓gb3_of, ↓gB_eq, ↓gg_pos, ↓if_pos, ↓if_neg, ↓b_wi1, ↓b_wi0, ↓b_has1, ↓b_has0, ↓b_in1, ↓b_in0, ↓b_pl1, ↓b_pl0, ↓b_jm1, ↓b_jm0, ↓b_jc1, ↓b_jc0, ↓b_size, ↓b_get, ↓b_ref, ↓b_den, ↓b_gra, ↓b_don]
        unfold f_X5_pass
        rw [gb_eq ht, gB_eq, ga_st_self, gg_pos (by decide), if_neg (by decide)]
      · unfold f_X6_pass
        have t4 : (ga_st (ga_st M 0 10 3) 100 0 0) 100 4 = M 100 4 := by rw [ga_st_ix (by omega), ga_st_id (by omega)]
        rw [gB_eq, b_in1 c hv1 (by decide) (by decide), gg_pos (by decide), if_neg (by decide), t4, gg_pos ⟨by omega, by omega⟩, if_pos (by omega), b_ref]
  · refine ⟨-1, ga_st M 0 10 2, ga_st (ga_st (ga_st M 0 10 2) 100 0 0) 100 1 2, ?_, ?_, h.sc (by unfold iA; simp [ga_st]; try omega) (by intro a ha; unfold rel at ha; simp (disch := omega) only [ga_st_row]) (by simp [ga_st]) (by simp [ga_st]) (by simp [ga_st]) (by simp [ga_st])⟩
    · have ht : f_X5_troubleOfPass G n M v1 = some 2 := by
        unfold f_X5_troubleOfPass
        rw [b_wi0 (by omega) hv1 (by decide) (by decide), gg_pos (by decide), if_pos rfl]
      unfold f_X5_pass
      rw [gb_eq ht, gB_eq, ga_st_self, gg_pos (by decide), if_neg (by decide)]
    · unfold f_X6_pass
      rw [gB_eq, b_in0 (by omega) hv1 (by decide) (by decide), gg_pos (by decide), if_pos rfl, b_ref]
end Z1

/-! ===== pure: one HOUR ===== -/
section H1
variable {n G : Nat}
def bgp (n : Nat) (N : gaM) (j : Nat) : Option Nat := match plF n N j with
  | none => none
  | some (p, x, _) => if (x : Int) = N 100 4 then some p else none
def bd (n : Nat) (N : gaM) (o i : Nat) : Int := match bgp n N i with
  | none => 0
  | some _ => if N 109 i = (o : Int) then N 100 4 - N 112 i else 0
def cb (n : Nat) (N : gaM) (p h i : Nat) : Int := match bgp n N i with
  | none => 0
  | some q => if p = q ∧ N 100 4 ≤ (h : Int) ∧ (h : Int) < N 100 4 + N 111 i then 1 else 0
def wB1 (n : Nat) (N : gaM) (i : Nat) : Nat → Int := match bgp n N i with
  | none => N (200 + i)
  | some p => upr (upr (upr (N (200 + i)) 6 1) 7 (p : Int)) 8 (N 100 4)
def wB2 (n : Nat) (N : gaM) (i : Nat) : Nat → Int := if wB1 n N i 6 = 0 ∧ N 113 i < N 100 4 + 1 + N 111 i then upr (wB1 n N i) 6 3 else wB1 n N i
-- a JOB after the HOUR, in the reference's numbers
def s1 (n : Nat) (N : gaM) (i : Nat) : Int := match bgp n N i with
  | none => if N 115 i = 0 ∧ N 113 i < N 100 4 + 1 + N 111 i then 3 else N 115 i
  | some _ => 1
def p1 (n : Nat) (N : gaM) (i : Nat) : Int := match bgp n N i with
  | none => N 116 i
  | some p => (p : Int)
def h1 (n : Nat) (N : gaM) (i : Nat) : Int := match bgp n N i with
  | none => N 117 i
  | some _ => N 100 4
def d1 (n : Nat) (N : gaM) (i : Nat) : Int := match bgp n N i with
  | none => N 118 i
  | some p => N 114 i * N 107 (4 * (N 110 i).toNat + p)
def fin (n : Nat) (N : gaM) (i : Nat) : Int := if s1 n N i = 1 ∧ ¬ N 100 4 + 1 < h1 n N i + N 111 i then 1 else 0
def s2 (n : Nat) (N : gaM) (i : Nat) : Int := if s1 n N i = 1 ∧ ¬ N 100 4 + 1 < h1 n N i + N 111 i then 2 else s1 n N i
def d2 (n : Nat) (N : gaM) (i : Nat) : Int := if s1 n N i = 1 then d1 n N i + N 108 (300 * (p1 n N i).toNat + (N 100 4).toNat) else d1 n N i
theorem bgp_ok {N : gaM} {j p : Nat} (h : Inv n N) (e : bgp n N j = some p) : j < n ∧ N 115 j = 0 ∧ (p : Int) < N 100 2 ∧ N 112 j ≤ N 100 4 ∧ N 100 4 + N 111 j ≤ N 113 j := by
  unfold bgp at e
  cases hp : plF n N j with
  | none =>
    rw [hp] at e
    cases e
  | some t =>
    obtain ⟨q, x, c⟩ := t
    rw [hp] at e
    by_cases d : (x : Int) = N 100 4
    · simp only [if_pos d] at e
      obtain ⟨k1, k2, ⟨y1, y2, y3, y4, y5, -⟩⟩ := plS_ok h _ (Nat.le_refl _) hp
      have e' := Option.some.inj e
      exact ⟨k1, k2, by omega, by omega, by omega⟩
    · simp only [if_neg d] at e
      cases e
/-- what is true of a JOB before its HOUR -/
theorem s1_ok {N : gaM} {j : Nat} (h : Inv n N) (hj : j < n) : 0 ≤ s1 n N j ∧ s1 n N j ≤ 3 ∧ (s1 n N j = 1 ∨ s1 n N j = 2 → 0 ≤ p1 n N j ∧ p1 n N j < N 100 2 ∧ N 112 j ≤ h1 n N j ∧ h1 n N j + N 111 j ≤ N 113 j) ∧ (s1 n N j = 1 → h1 n N j ≤ N 100 4 ∧ N 100 4 < h1 n N j + N 111 j) ∧ (s1 n N j = 2 → h1 n N j + N 111 j ≤ N 100 4) ∧ 0 ≤ d1 n N j ∧ d1 n N j ≤ 9801 + 999 * N 100 4 ∧ (s1 n N j = 0 → d1 n N j = 0) := by
  obtain ⟨g, ⟨u1, u2, u3, u4, u5, u6, u7, u8, u9, u10, u11⟩, ⟨w1, w2, w3, w4, w5, w6, w7, w8⟩⟩ := h.2.2.2.1 j hj
  have hP4 := h.1.2.2.1
  have h44 := h.1.2.2.2.2.2.2.2.1
  unfold s1 p1 h1 d1
  cases e : bgp n N j with
  | none =>
    simp only []
    by_cases c : N 115 j = 0 ∧ N 113 j < N 100 4 + 1 + N 111 j
    · rw [if_pos c]
      exact ⟨by omega, by omega, by omega, by omega, by omega, w6, w7, by omega⟩
    · rw [if_neg c]
      refine ⟨w1, w2, w3, fun q => ?_, w5, w6, w7, w8⟩
      have := w4 q
      omega
  | some p =>
    simp only []
    obtain ⟨k1, k2, k3, k4, k5⟩ := bgp_ok h e
    have f1 := h.2.1.2.1 (N 110 j).toNat p (by omega) (by omega)
    have m1 : 0 ≤ N 114 j * N 107 (4 * (N 110 j).toNat + p) := Int.mul_nonneg u10 f1.1
    have m2 : N 114 j * N 107 (4 * (N 110 j).toNat + p) ≤ 99 * 99 := Int.mul_le_mul u11 f1.2 f1.1 (by omega)
    exact ⟨by omega, by omega, fun _ => ⟨by omega, by omega, by omega, by omega⟩, fun _ => ⟨by omega, by omega⟩, fun q => by omega, m1, by omega, fun q => by omega⟩
-- the class: begin
def blI (n : Nat) (N A1 : gaM) (j : Nat) (A : gaM) : Prop := (∀ a, a ≠ 3 → (a < 31 ∨ 34 < a) → a < 200 → A a = A1 a) ∧ (∀ i, i < n → A (200 + i) = if i < j then wB1 n N i else N (200 + i)) ∧ (∀ o, o < 6 → A 3 o = N 3 o + sm (bd n N o) 0 j) ∧ rmC N A (fun p h => pU0 n N p h + sm (cb n N p h) 0 j)
theorem p_begin {N A1 : gaM} (hG : 5000 ≤ G) (h : Inv n N) (q0 : A1 0 9 = N 100 4) (q2 : A1 2 2 = (n : Int)) (hP : PlC 5 A1 (plF n N)) : ∀ (k j F : Nat) (A : gaM), blI n N A1 j A → j + k = n → k < F → ∃ A', l_X5_beginLaid_2 G n F A (j : Int) = some A' ∧ blI n N A1 n A' := by
  have h' := h
  obtain ⟨a1, a2, a3, a4, a5, a6, a7, a8, a9, a10, a11, a12, a13, a14, a15⟩ := h.1
  intro k
  induction k with
  | zero =>
    intro j F A hA hj hF
    obtain ⟨F, rfl⟩ : ∃ F1, F = F1 + 1 := ⟨F - 1, by omega⟩
    have e : j = n := by omega
    subst e
    refine ⟨A, ?_, hA⟩
    have e2 : A 2 2 = (j : Int) := by rw [hA.1 2 (by omega) (by omega) (by omega)]; exact q2
    rw [l_X5_beginLaid_2]
    try simp (disch := (first | omega | (simp (disch := omega) only [ga_st_self, ga_st_id, ga_st_ix] <;> omega) | skip)) only [↓gb_of, ↓gb2_of, ↓gb3_of, ↓gB_eq, ↓gg_pos, ↓if_pos, ↓if_neg, ↓b_wi1, ↓b_wi0, ↓b_has1, ↓b_has0, ↓b_in1, ↓b_in0, ↓b_pl1, ↓b_pl0, ↓b_jm1, ↓b_jm0, ↓b_jc1, ↓b_jc0, ↓b_size, ↓b_get, ↓b_ref, ↓b_den, ↓b_gra, ↓b_don]
  | succ k ih =>
    intro j F A hA hj hF
    obtain ⟨F, rfl⟩ : ∃ F1, F = F1 + 1 := ⟨F - 1, by omega⟩
    have hjn : j < n := by omega
    obtain ⟨s1, s2, s3, s4⟩ := hA
    have e2 : A 2 2 = (n : Int) := by rw [s1 2 (by omega) (by omega) (by omega)]; exact q2
    have e9 : A 0 9 = N 100 4 := by rw [s1 0 (by omega) (by omega) (by omega)]; exact q0
    have eJ : A (200 + j) = N (200 + j) := by rw [s2 j hjn, if_neg (by omega)]
    obtain ⟨⟨g0, g1, g2, g3, g4, g5, g6, g7, g8, g9⟩, ⟨u1, u2, u3, u4, u5, u6, u7, u8, u9, -⟩, -⟩ := h.2.2.2.1 j hjn
    have hPj := hP j (by omega)
    have c50 : A 50 = A1 50 := s1 50 (by omega) (by omega) (by omega)
    have c51 : A 51 = A1 51 := s1 51 (by omega) (by omega) (by omega)
    have skip : bgp n N j = none → blI n N A1 (j + 1) A := by
      intro e
      refine ⟨s1, fun i hi => ?_, fun o ho => ?_, fun p x r1 r2 r3 => ?_⟩
      · rw [s2 i hi]
        by_cases d : i = j
        · subst d
          rw [if_neg (by omega), if_pos (by omega)]
          unfold wB1
          rw [e]
        · by_cases d2 : i < j
          · rw [if_pos d2, if_pos (by omega)]
          · rw [if_neg d2, if_neg (by omega)]
      · rw [s3 o ho]
        show _ = _ + (_ + bd n N o (0 + j))
        unfold bd
        rw [Nat.zero_add, e]
        show _ = _ + (_ + (0 : Int))
        rw [Int.add_zero]
      · rw [s4 p x r1 r2 r3]
        show N 106 p - (_ + _) = N 106 p - (_ + (_ + cb n N p x (0 + j)))
        have : cb n N p x (0 + j) = 0 := by
          unfold cb
          rw [Nat.zero_add, e]
        rw [this]
        omega
    rw [l_X5_beginLaid_2, b_size, e2, gg_pos (show ok (j : Int) from ⟨by omega, by omega⟩), gg_pos (show ok (n : Int) from ⟨by omega, by omega⟩), if_pos (by omega)]
    cases hs : plF n N j with
    | none =>
      rw [hs] at hPj
      have hPj : A1 50 j = -1 := hPj
      have hhas : f_X0_has G n A 5 (j : Int) = some 0 := by
        unfold f_X0_has
        rw [Int.toNat_natCast, show 10 * 5 = 50 from rfl, c50, hPj, gg_pos (show ix (j : Int) 40 from ⟨by omega, by omega⟩), gg_pos (by decide), if_pos rfl]
      have e : bgp n N j = none := by
        unfold bgp
        rw [hs]
      obtain ⟨A', k1, k2⟩ := ih (j + 1) F A (skip e) (by omega) (by omega)
      refine ⟨A', ?_, k2⟩
      rw [gb_eq hhas, gg_pos (by decide), if_pos rfl, gb_of]
      exact k1
    | some t =>
      obtain ⟨p, x, c⟩ := t
      obtain ⟨-, -, ⟨y1, y2, y3, y4, y5, -⟩⟩ := plS_ok h _ (Nat.le_refl _) hs
      rw [hs] at hPj
      obtain ⟨z1, z2, z3⟩ := hPj
      have z1 : A1 50 j = (p : Int) := z1
      have z2 : A1 51 j = (x : Int) := z2
      have hhas : f_X0_has G n A 5 (j : Int) = some 1 := by
        unfold f_X0_has
        rw [Int.toNat_natCast, show 10 * 5 = 50 from rfl, c50, z1, gg_pos (show ix (j : Int) 40 from ⟨by omega, by omega⟩), gg_pos (show ok (p : Int) from ⟨by omega, by omega⟩), if_neg (by omega)]
      rw [gb_eq hhas, gg_pos (by decide), if_neg (by decide), gg_pos (show ix (j : Int) 40 from ⟨by omega, by omega⟩), Int.toNat_natCast, show 10 * 5 + 1 = 51 from rfl, show 10 * 5 = 50 from rfl, c51, z2, e9, gg_pos (show ok (x : Int) from ⟨by omega, by omega⟩), gg_pos (show ok (N 100 4) from ⟨by omega, by omega⟩)]
      by_cases d : (x : Int) = N 100 4
      · have e : bgp n N j = some p := by
          unfold bgp
          rw [hs]
          simp only [if_pos d]
        have ew : wB1 n N j = upr (upr (upr (N (200 + j)) 6 1) 7 (p : Int)) 8 (N 100 4) := by
          unfold wB1
          rw [e]
        obtain ⟨len, hlen⟩ : ∃ l : Nat, N 111 j = (l : Int) := ⟨(N 111 j).toNat, by omega⟩
        obtain ⟨o, hoj⟩ : ∃ o : Nat, N 109 j = (o : Int) := ⟨(N 109 j).toNat, by omega⟩
        have w0 : wB1 n N j 0 = (o : Int) := by
          rw [ew, upr_ne (by omega), upr_ne (by omega), upr_ne (by omega), g0, hoj]
        have w3 : wB1 n N j 3 = N 112 j := by
          rw [ew, upr_ne (by omega), upr_ne (by omega), upr_ne (by omega), g3]
        have w2 : wB1 n N j 2 = (len : Int) := by
          rw [ew, upr_ne (by omega), upr_ne (by omega), upr_ne (by omega), g2, hlen]
        have w7 : wB1 n N j 7 = (p : Int) := by
          rw [ew, upr_ne (by omega), upr_self]
        have w8 : wB1 n N j 8 = (x : Int) := by
          rw [ew, upr_self, d]
        have hA3 : ga_st (ga_st (ga_st A (200 + j) 6 1) (200 + j) 7 (p : Int)) (200 + j) 8 (N 100 4) = setr A (200 + j) (wB1 n N j) := by
          rw [st_setr, st_setr, st_setr, setr_setr, setr_setr, setr_self, setr_self, eJ, ew]
        obtain ⟨A2, hA2⟩ : ∃ A2, A2 = setr (setr A (200 + j) (wB1 n N j)) 3 (upr (A 3) o (A 3 o + (N 100 4 - N 112 j))) := ⟨_, rfl⟩
        have htake := p_take (n := n) (G := G) (M := A2) (p := p) (h := x) (len := len) hG (by omega) (by omega)
        have r31 : ∀ q, q < 4 → A2 (31 + q) = A (31 + q) := by
          intro q hq
          rw [hA2, setr_ne (by omega), setr_ne (by omega)]
        have hst : blI n N A1 (j + 1) (setr A2 (31 + p) (adr (A2 (31 + p)) x len (-1))) := by
          refine ⟨fun a r1 r2 r3 => ?_, fun i hi => ?_, fun o' ho' => ?_, fun q y r1 r2 r3 => ?_⟩
          · rw [setr_ne (by omega), hA2, setr_ne r1, setr_ne (by omega)]
            exact s1 a r1 r2 r3
          · rw [setr_ne (by omega), hA2, setr_ne (by omega)]
            by_cases d1 : i = j
            · subst d1
              rw [setr_self, if_pos (by omega)]
            · rw [setr_ne (by omega), s2 i hi]
              by_cases d2 : i < j
              · rw [if_pos d2, if_pos (by omega)]
              · rw [if_neg d2, if_neg (by omega)]
          · rw [setr_ne (by omega), hA2, setr_self]
            show _ = _ + (_ + bd n N o' (0 + j))
            have : bd n N o' (0 + j) = if N 109 j = (o' : Int) then N 100 4 - N 112 j else 0 := by
              unfold bd
              rw [Nat.zero_add, e]
            rw [this]
            by_cases d1 : o' = o
            · subst d1
              rw [upr_self, if_pos hoj, s3 o' ho']
              omega
            · rw [upr_ne d1, if_neg (by omega), s3 o' ho']
              omega
          · show _ = N 106 q - (_ + (_ + cb n N q y (0 + j)))
            have : cb n N q y (0 + j) = if q = p ∧ N 100 4 ≤ (y : Int) ∧ (y : Int) < N 100 4 + N 111 j then 1 else 0 := by
              unfold cb
              rw [Nat.zero_add, e]
            rw [this]
            have hR := s4 q y r1 r2 r3
            have hR : A (31 + q) y = N 106 q - (pU0 n N q y + sm (cb n N q y) 0 j) := hR
            by_cases d1 : q = p
            · subst d1
              rw [setr_self]
              unfold adr
              rw [r31 _ (by omega), hR]
              by_cases d2 : x ≤ y ∧ y < x + len
              · rw [if_pos d2, if_pos (by omega)]
                omega
              · rw [if_neg d2, if_neg (by omega)]
                omega
            · rw [setr_ne (by omega), r31 _ (by omega), hR, if_neg (by omega)]
              omega
        obtain ⟨A', k1, k2⟩ := ih (j + 1) F _ hst (by omega) (by omega)
        refine ⟨A', ?_, k2⟩
        have x1 : (ga_st A (200 + j) 6 1) 50 j = (p : Int) := by rw [ga_st_id (by omega), c50]; exact z1
        have x2 : (ga_st (ga_st A (200 + j) 6 1) (200 + j) 7 (p : Int)) 0 9 = N 100 4 := by rw [ga_st_id (by omega), ga_st_id (by omega)]; exact e9
        rw [if_pos d, b_get ⟨by omega, by omega⟩ e2, Int.toNat_natCast, gB_eq, x1, gB_eq, x2, gB_eq, hA3, setr_self, w0, w3, setr_ne (show 3 ≠ 200 + j by omega), setr_ne (show 0 ≠ 200 + j by omega), e9, gg_pos (show ix (o : Int) 6 from ⟨by omega, by omega⟩), gB_eq, Int.toNat_natCast, st_setr, setr_ne (show 3 ≠ 200 + j by omega), ← hA2]
        have t7 : A2 (200 + j) = wB1 n N j := by rw [hA2, setr_ne (by omega), setr_self]
        rw [t7, w7, w8, w2, gb_eq htake, gb_of]
        exact k1
      · have e : bgp n N j = none := by
          unfold bgp
          rw [hs]
          simp only [if_neg d]
        obtain ⟨A', k1, k2⟩ := ih (j + 1) F A (skip e) (by omega) (by omega)
        refine ⟨A', ?_, k2⟩
        rw [if_neg d, gb_of]
        exact k1
end H1

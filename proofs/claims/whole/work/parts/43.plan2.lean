/-! ===== pure: the whole plan, the class's side ===== -/
section P2
variable {n G : Nat}
theorem p_clear_l {o : Nat} : ∀ (k i F : Nat) (A : gaM), (∀ x, x < i → A (10 * o) x = -1) → i + k = 40 → k < F → ∃ row, l_X0_clear_2 G n o F A (i : Int) = some (setr A (10 * o) row) ∧ ∀ x, x < 40 → row x = -1 := by
  intro k
  induction k with
  | zero =>
    intro i F A hA hi hF
    obtain ⟨F, rfl⟩ : ∃ F1, F = F1 + 1 := ⟨F - 1, by omega⟩
    have e : i = 40 := by omega
    subst e
    refine ⟨A (10 * o), ?_, hA⟩
    rw [l_X0_clear_2, setr_id]
    try simp (disch := (first | omega | (simp (disch := omega) only [ga_st_self, ga_st_id, ga_st_ix] <;> omega) | skip)) only [↓gb_of, ↓gb2_of, ↓gb3_of, ↓gB_eq, ↓gg_pos, ↓if_pos, ↓if_neg, ↓b_wi1, ↓b_wi0, ↓b_has1, ↓b_has0, ↓b_in1, ↓b_in0, ↓b_pl1, ↓b_pl0, ↓b_jm1, ↓b_jm0, ↓b_jc1, ↓b_jc0, ↓b_size, ↓b_get, ↓b_ref, ↓b_den, ↓b_gra, ↓b_don]
  | succ k ih =>
    intro i F A hA hi hF
    obtain ⟨F, rfl⟩ : ∃ F1, F = F1 + 1 := ⟨F - 1, by omega⟩
    obtain ⟨row, r1, r2⟩ := ih (i + 1) F (ga_st A (10 * o) i (-1)) (fun x hx => by
      by_cases e : x = i
      · subst e
        rw [ga_st_self]
      · rw [ga_st_ix e]
        exact hA x (by omega)) (by omega) (by omega)
    refine ⟨row, ?_, r2⟩
    rw [st_setr, setr_setr] at r1
    rw [l_X0_clear_2]
    try simp (disch := (first | omega | (simp (disch := omega) only [ga_st_self, ga_st_id, ga_st_ix] <;> omega) | skip)) only [↓gb_of, ↓gb2_of, ↓gb3_of, ↓gB_eq, ↓gg_pos, ↓if_pos, ↓if_neg, ↓b_wi1, ↓b_wi0, ↓b_has1, ↓b_has0, ↓b_in1, ↓b_in0, ↓b_pl1, ↓b_pl0, ↓b_jm1, ↓b_jm0, ↓b_jc1, ↓b_jc0, ↓b_size, ↓b_get, ↓b_ref, ↓b_den, ↓b_gra, ↓b_don]
    rw [Int.toNat_natCast, st_setr]
    exact r1
theorem p_clear {A : gaM} {o : Nat} (hG : 5000 ≤ G) (ho : o = 4 ∨ o = 5) : ∃ A', f_X0_clear G n A o = some A' ∧ frP o A A' ∧ A' 6 = A 6 ∧ (∀ x, 31 ≤ x → x ≤ 34 → A' x = A x) ∧ PlC o A' (fun _ => none) ∧ A' o 3 = 0 ∧ A' o 4 = 0 := by
  obtain ⟨row, r1, r2⟩ := p_clear_l (n := n) (G := G) (o := o) 40 0 G A (fun x hx => by omega) (by omega) (by omega)
  have r1 : l_X0_clear_2 G n o G A 0 = some (setr A (10 * o) row) := r1
  refine ⟨ga_st (ga_st (setr A (10 * o) row) o 3 0) o 4 0, ?_, fun a q1 q2 q3 q4 q5 => ?_, ?_, fun x q1 q2 => ?_, fun i hi => ?_, ?_, ?_⟩
  · unfold f_X0_clear
    rw [gb_eq r1, gB_eq, gB_eq]
  · rw [ga_st_row _ q5, ga_st_row _ q5, setr_ne (by omega)]
  · rw [ga_st_row _ (by omega), ga_st_row _ (by omega), setr_ne (by omega)]
  · rw [ga_st_row _ (by omega), ga_st_row _ (by omega), setr_ne (by omega)]
  · show ga_st _ _ _ _ (10 * o) i = -1
    rw [ga_st_id (by omega), ga_st_id (by omega), setr_self]
    exact r2 i hi
  · rw [ga_st_ix (by omega), ga_st_self]
  · rw [ga_st_self]
-- the state after k LAYINGS
def clS (n : Nat) (N : gaM) (o : Nat) (k : Nat) (A : gaM) : Prop := stc N A ∧ (∀ i, i < (oS N n).1 → A 8 i = ((oS N n).2 i : Int)) ∧ rmC N A (plS n N (oS N n).2 k).1 ∧ PlC o A (plS n N (oS N n).2 k).2 ∧ A o 3 = sm (fun i => pk1 ((plS n N (oS N n).2 k).2 i)) 0 n ∧ A o 4 = sm (fun i => pkc ((plS n N (oS N n).2 k).2 i)) 0 n
theorem p_mk1 {N : gaM} {o c : Nat} (hG : 5000 ≤ G) (ho : o = 4 ∨ o = 5) (h : Inv n N) (hc : c = (oS N n).1) : ∀ (k i F : Nat) (A : gaM), clS n N o i A → i + k = c → k < F → ∃ A', l_X5_makePlan_11 G n o F A (c : Int) (i : Int) = some A' ∧ clS n N o c A' ∧ frP o A A' := by
  have hok := oS_ok (N := N) n
  have hn := h.1.2.2.2.2.2.1
  intro k
  induction k with
  | zero =>
    intro i F A hA hi hF
    obtain ⟨F, rfl⟩ : ∃ F1, F = F1 + 1 := ⟨F - 1, by omega⟩
    have e : i = c := by omega
    subst e
    refine ⟨A, ?_, hA, fun _ _ _ _ _ _ => rfl⟩
    rw [l_X5_makePlan_11]
    try simp (disch := (first | omega | (simp (disch := omega) only [ga_st_self, ga_st_id, ga_st_ix] <;> omega) | skip)) only [↓gb_of, ↓gb2_of, ↓gb3_of, ↓gB_eq, ↓gg_pos, ↓if_pos, ↓if_neg, ↓b_wi1, ↓b_wi0, ↓b_has1, ↓b_has0, ↓b_in1, ↓b_in0, ↓b_pl1, ↓b_pl0, ↓b_jm1, ↓b_jm0, ↓b_jc1, ↓b_jc0, ↓b_size, ↓b_get, ↓b_ref, ↓b_den, ↓b_gra, ↓b_don]
  | succ k ih =>
    intro i F A hA hi hF
    obtain ⟨F, rfl⟩ : ∃ F1, F = F1 + 1 := ⟨F - 1, by omega⟩
    obtain ⟨s1, s2, s3, s4, s5, s6⟩ := hA
    have hLi := hok.2.1 i (by omega)
    have hbd : ∀ p h, 0 ≤ (plS n N (oS N n).2 i).1 p h ∧ (plS n N (oS N n).2 i).1 p h ≤ 100 := fun p h => by
      have := plS_bd (n := n) (N := N) (L := (oS N n).2) (p := p) (h := h) i
      omega
    have hnone : (plS n N (oS N n).2 i).2 ((oS N n).2 i) = none := plS_none i (fun a ha => hok.2.2 a i ha (by omega))
    obtain ⟨A1, m1, m2, m3, m4, m5, m6⟩ := p_layC (n := n) (G := G) (N := N) (A := A) (U := (plS n N (oS N n).2 i).1) (o := o) (j := (oS N n).2 i) hG ho h s1 hLi.1 hbd s3 s4 hnone
    have hst : clS n N o (i + 1) A1 := by
      refine ⟨m2.stc ho s1, fun a ha => by rw [m2 8 (by omega) (by omega) (by omega) (by omega) (by omega)]; exact s2 a ha, m3, m4, ?_, ?_⟩
      · rw [m5, s5, sm_upd (f := fun a => pk1 ((plS n N (oS N n).2 i).2 a)) (g := fun a => pk1 ((plS n N (oS N n).2 (i + 1)).2 a)) (j := (oS N n).2 i) n hLi.1 (fun a ha => by
          show pk1 (if a = (oS N n).2 i then _ else _) = _
          rw [if_neg ha])]
        show _ = _ + (pk1 (if (oS N n).2 i = (oS N n).2 i then _ else _) - pk1 ((plS n N (oS N n).2 i).2 ((oS N n).2 i)))
        rw [if_pos rfl, hnone]
        show _ = _ + (_ - 0)
        omega
      · rw [m6, s6, sm_upd (f := fun a => pkc ((plS n N (oS N n).2 i).2 a)) (g := fun a => pkc ((plS n N (oS N n).2 (i + 1)).2 a)) (j := (oS N n).2 i) n hLi.1 (fun a ha => by
          show pkc (if a = (oS N n).2 i then _ else _) = _
          rw [if_neg ha])]
        show _ = _ + (pkc (if (oS N n).2 i = (oS N n).2 i then _ else _) - pkc ((plS n N (oS N n).2 i).2 ((oS N n).2 i)))
        rw [if_pos rfl, hnone]
        show _ = _ + (_ - 0)
        omega
    obtain ⟨A', k1, k2, k3⟩ := ih (i + 1) F A1 hst (by omega) (by omega)
    refine ⟨A', ?_, k2, m2.tr k3⟩
    have ho1 := hok.1
    rw [l_X5_makePlan_11, gg_pos (show ok (i : Int) from ⟨by omega, by omega⟩), gg_pos (show ok (c : Int) from ⟨by omega, by omega⟩), if_pos (by omega), gg_pos (show ix (i : Int) 40 from ⟨by omega, by omega⟩), Int.toNat_natCast, s2 i (by omega), gb_eq m1]
    exact k1
-- ROOM given back
theorem p_mk2 {N : gaM} {o c : Nat} (hG : 5000 ≤ G) (ho : o = 4 ∨ o = 5) (h : Inv n N) (hc : c = (oS N n).1) : ∀ (k i F : Nat) (A : gaM), stc N A → (∀ x, x < (oS N n).1 → A 8 x = ((oS N n).2 x : Int)) → PlC o A (plS n N (oS N n).2 c).2 → rmC N A (fun p h => (plS n N (oS N n).2 c).1 p h - sm (fun a => ct N ((plS n N (oS N n).2 c).2 ((oS N n).2 a)) ((oS N n).2 a) p h) 0 i) → i + k = c → k < F → ∃ A', l_X5_makePlan_35 G n o F A (c : Int) (i : Int) = some A' ∧ rmC N A' (pU0 n N) ∧ ∀ a, (a < 31 ∨ 34 < a) → A' a = A a := by
  have hok := oS_ok (N := N) n
  have hn := h.1.2.2.2.2.2.1
  have ho1 := hok.1
  have hP4 := h.1.2.2.1
  intro k
  induction k with
  | zero =>
    intro i F A hA h8 hP hR hi hF
    obtain ⟨F, rfl⟩ : ∃ F1, F = F1 + 1 := ⟨F - 1, by omega⟩
    have e : i = c := by omega
    subst e
    refine ⟨A, ?_, fun p x q1 q2 q3 => ?_, fun _ _ => rfl⟩
    · rw [l_X5_makePlan_35]
      try simp (disch := (first | omega | (simp (disch := omega) only [ga_st_self, ga_st_id, ga_st_ix] <;> omega) | skip)) only [↓gb_of, ↓gb2_of, ↓gb3_of, ↓gB_eq, ↓gg_pos, ↓if_pos, ↓if_neg, ↓b_wi1, ↓b_wi0, ↓b_has1, ↓b_has0, ↓b_in1, ↓b_in0, ↓b_pl1, ↓b_pl0, ↓b_jm1, ↓b_jm0, ↓b_jc1, ↓b_jc0, ↓b_size, ↓b_get, ↓b_ref, ↓b_den, ↓b_gra, ↓b_don]
    · rw [hR p x q1 q2 q3]
      have := plS_sum (n := n) (N := N) (L := (oS N n).2) (c := i) (p := p) (h := x) (fun a b q1 q2 => hok.2.2 a b q1 (by omega)) i (Nat.le_refl i)
      show N 106 p - (_ - _) = _
      omega
  | succ k ih =>
    intro i F A hA h8 hP hR hi hF
    obtain ⟨F, rfl⟩ : ∃ F1, F = F1 + 1 := ⟨F - 1, by omega⟩
    have hLi := hok.2.1 i (by omega)
    obtain ⟨j, hj⟩ : ∃ j, j = (oS N n).2 i := ⟨_, rfl⟩
    rw [← hj] at hLi
    have h8i : A 8 i = (j : Int) := by rw [h8 i (by omega), hj]
    have e2 : A 2 2 = (n : Int) := by rw [hA 2 (by omega)]; exact h.1.2.2.2.1
    obtain ⟨⟨g0, g1, g2, -⟩, ⟨u1, u2, u3, u4, u5, u6, u7, u8, u9, -⟩, -⟩ := h.2.2.2.1 j hLi.1
    have hPj := hP j (by omega)
    have hsm : ∀ p x, sm (fun a => ct N ((plS n N (oS N n).2 c).2 ((oS N n).2 a)) ((oS N n).2 a) p x) 0 (i + 1) = sm (fun a => ct N ((plS n N (oS N n).2 c).2 ((oS N n).2 a)) ((oS N n).2 a) p x) 0 i + ct N ((plS n N (oS N n).2 c).2 j) j p x := by
      intro p x
      show _ + ct N ((plS n N (oS N n).2 c).2 ((oS N n).2 (0 + i))) ((oS N n).2 (0 + i)) p x = _
      rw [Nat.zero_add, ← hj]
    rw [l_X5_makePlan_35, gg_pos (show ok (i : Int) from ⟨by omega, by omega⟩), gg_pos (show ok (c : Int) from ⟨by omega, by omega⟩), if_pos (by omega), gg_pos (show ix (i : Int) 40 from ⟨by omega, by omega⟩), Int.toNat_natCast, h8i]
    cases hs : (plS n N (oS N n).2 c).2 j with
    | none =>
      rw [hs] at hPj hsm
      have hPj : A (10 * o) j = -1 := hPj
      have hhas : f_X0_has G n A o (j : Int) = some 0 := by
        unfold f_X0_has
        rw [Int.toNat_natCast, hPj, gg_pos (show ix (j : Int) 40 from ⟨by omega, by omega⟩), gg_pos (by decide), if_pos rfl]
      obtain ⟨A', k1, k2, k3⟩ := ih (i + 1) F A hA h8 hP (fun p x q1 q2 q3 => by
        rw [hR p x q1 q2 q3]
        show N 106 p - (_ - _) = N 106 p - (_ - _)
        rw [hsm]
        show _ = N 106 p - (_ - (_ + 0))
        omega) (by omega) (by omega)
      refine ⟨A', ?_, k2, k3⟩
      rw [gb_eq hhas, gg_pos (by decide), if_pos rfl, gb_of]
      exact k1
    | some t =>
      obtain ⟨p, x, cc⟩ := t
      obtain ⟨-, -, ⟨y1, y2, y3, y4, y5, -⟩⟩ := plS_ok h c (by omega) hs
      rw [hs] at hPj hsm
      obtain ⟨z1, z2, z3⟩ := hPj
      obtain ⟨len, hlen⟩ : ∃ l : Nat, N 111 j = (l : Int) := ⟨(N 111 j).toNat, by omega⟩
      have hhas : f_X0_has G n A o (j : Int) = some 1 := by
        unfold f_X0_has
        rw [Int.toNat_natCast, z1, gg_pos (show ix (j : Int) 40 from ⟨by omega, by omega⟩), gg_pos (show ok (p : Int) from ⟨by omega, by omega⟩), if_neg (by omega)]
      have hgive := p_give (n := n) (G := G) (M := A) (p := p) (h := x) (len := len) hG (by omega) (by omega)
      obtain ⟨A', k1, k2, k3⟩ := ih (i + 1) F (setr A (31 + p) (adr (A (31 + p)) x len 1)) (fun a ha => by rw [setr_ne (by omega)]; exact hA a ha) (fun y hy => by rw [setr_ne (by omega)]; exact h8 y hy) (fun y hy => by
        rw [setr_ne (by omega), setr_ne (by omega), setr_ne (by omega)]
        exact hP y hy) (fun q y q1 q2 q3 => by
        show _ = N 106 q - (_ - _)
        rw [hsm]
        show _ = N 106 q - (_ - (_ + (if q = p ∧ x ≤ y ∧ y < x + (N 111 j).toNat then 1 else 0)))
        rw [hlen, Int.toNat_natCast]
        have hRq := hR q y q1 q2 q3
        by_cases d : q = p
        · subst d
          rw [setr_self]
          unfold adr
          by_cases d2 : x ≤ y ∧ y < x + len
          · rw [if_pos d2, if_pos (by omega), hRq]
            show N 106 q - (_ - _) + 1 = _
            omega
          · rw [if_neg d2, if_neg (by omega), hRq]
            show N 106 q - (_ - _) = _
            omega
        · rw [setr_ne (by omega), if_neg (by omega), hRq]
          show N 106 q - (_ - _) = _
          omega) (by omega) (by omega)
      refine ⟨A', ?_, k2, fun a ha => by rw [k3 a ha, setr_ne (by omega)]⟩
      rw [gb_eq hhas, gg_pos (by decide), if_neg (by decide), gg_pos (show ix (j : Int) 40 from ⟨by omega, by omega⟩), b_get ⟨by omega, by omega⟩ e2, Int.toNat_natCast, z1, z2, hA (200 + j) (by omega), g2, hlen, gb_eq hgive, gb_of]
      exact k1
def frQ (o : Nat) (A A' : gaM) : Prop := ∀ a, a ≠ 6 → a ≠ 8 → (a < 61 ∨ 64 < a) → (a < 31 ∨ 34 < a) → (a < 10 * o ∨ 10 * o + 2 < a) → a ≠ o → A' a = A a
abbrev plF (n : Nat) (N : gaM) : Nat → pkT := (plS n N (oS N n).2 (oS N n).1).2
theorem p_planC {N A : gaM} {o : Nat} (hG : 5000 ≤ G) (ho : o = 4 ∨ o = 5) (h : Inv n N) (hA : stc N A) (hR : ∀ x, 31 ≤ x → x ≤ 34 → A x = N x) : ∃ A', f_X5_makePlan G n A o = some A' ∧ frQ o A A' ∧ rmC N A' (pU0 n N) ∧ PlC o A' (plF n N) ∧ A' o 3 = sm (fun i => pk1 (plF n N i)) 0 n ∧ A' o 4 = sm (fun i => pkc (plF n N i)) 0 n := by
  have hok := oS_ok (N := N) n
  have hn := h.1.2.2.2.2.2.1
  have hP4 := h.1.2.2.1
  obtain ⟨A1, m1, m2, m3, m4, m5, m6, m7⟩ := p_clear (n := n) (G := G) (A := A) (o := o) hG ho
  have hA1 := m2.stc ho hA
  obtain ⟨row, r1, r2⟩ := p_orderC (n := n) (G := G) hG h hA1
  obtain ⟨A2, k1, k2, k3⟩ := p_mk1 (n := n) (G := G) (N := N) (o := o) (c := (oS N n).1) hG ho h rfl (oS N n).1 0 G (setr A1 8 row) ⟨hA1.set (by omega), fun i hi => by rw [setr_self]; exact r2 i hi, fun p x q1 q2 q3 => by
      rw [setr_ne (by omega), m4 _ (by omega) (by omega), hR _ (by omega) (by omega)]
      exact h.2.2.2.2.1 p x q1 q2 q3, fun i hi => by
      have := m5 i hi
      show setr A1 8 row (10 * o) i = -1
      rw [setr_ne (by omega)]
      exact this, by
      rw [setr_ne (by omega), m6]
      have := sm_bd (f := fun i => pk1 ((plS n N (oS N n).2 0).2 i)) (a := 0) (lo := 0) (hi := 0) (k := n) (fun i _ => ⟨Int.le_refl 0, Int.le_refl 0⟩)
      omega, by
      rw [setr_ne (by omega), m7]
      have := sm_bd (f := fun i => pkc ((plS n N (oS N n).2 0).2 i)) (a := 0) (lo := 0) (hi := 0) (k := n) (fun i _ => ⟨Int.le_refl 0, Int.le_refl 0⟩)
      omega⟩ (by omega) (by omega)
  obtain ⟨s1, s2, s3, s4, s5, s6⟩ := k2
  obtain ⟨A3, w1, w2, w3⟩ := p_mk2 (n := n) (G := G) (N := N) (o := o) (c := (oS N n).1) hG ho h rfl (oS N n).1 0 G A2 s1 s2 s4 (fun p x q1 q2 q3 => by
    rw [s3 p x q1 q2 q3]
    show N 106 p - _ = N 106 p - (_ - 0)
    omega) (by omega) (by omega)
  refine ⟨A3, ?_, fun a q1 q2 q3 q4 q5 q6 => ?_, w2, fun i hi => ?_, ?_, ?_⟩
  · unfold f_X5_makePlan
    have k1' : l_X5_makePlan_11 G n o G (setr A1 8 row) ((oS N n).1 : Int) 0 = some A2 := k1
    have w1' : l_X5_makePlan_35 G n o G A2 ((oS N n).1 : Int) 0 = some A3 := w1
    rw [gb_eq m1, r1, gb2_of, gb_eq k1', gb_eq w1']
  · rw [w3 a (by omega), k3 a q1 q3 q4 q5 q6, setr_ne q2, m2 a q1 q3 q4 q5 q6]
  · rw [w3 _ (by omega), w3 _ (by omega), w3 _ (by omega)]
    exact s4 i hi
  · rw [w3 _ (by omega)]
    exact s5
  · rw [w3 _ (by omega)]
    exact s6
end P2

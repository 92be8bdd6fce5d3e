/-! ===== pure: the reference's lists, sorted ===== -/
section SO
variable {n G : Nat}
def hs (g : Nat → Int) (k v : Nat) (x : Int) : Prop := (∀ a b, a < b → b ≤ v → a ≠ k → b ≠ k → g a ≤ g b) ∧ ∀ b, k < b → b ≤ v → x ≤ g b
def sgm (B : gaM) (i m : Nat) : Int := B 132 (1200 * i + m)
theorem sgm_st {B : gaM} {i k m : Nat} {x : Int} : sgm (ga_st B 132 (1200 * i + k) x) i m = if m = k then x else sgm B i m := by
  unfold sgm
  by_cases c : m = k
  · rw [if_pos c, c, ga_st_self]
  · rw [if_neg c, ga_st_ix (by omega)]
def frS (i : Nat) (B B' : gaM) : Prop := (∀ a, a ≠ 132 → B' a = B a) ∧ ∀ y, y < 1200 * i ∨ 1200 * i + 1200 ≤ y → B' 132 y = B 132 y
theorem frS.rf {i : Nat} {B : gaM} : frS i B B := ⟨fun _ _ => rfl, fun _ _ => rfl⟩
theorem frS.tr {i : Nat} {B B1 B2 : gaM} (h : frS i B B1) (h' : frS i B1 B2) : frS i B B2 := ⟨fun a q => (h'.1 a q).trans (h.1 a q), fun y q => (h'.2 y q).trans (h.2 y q)⟩
theorem frS_st {i k : Nat} {B : gaM} {x : Int} (hk : k < 1200) : frS i B (ga_st B 132 (1200 * i + k) x) := ⟨fun a q => ga_st_row _ q, fun y q => ga_st_ix (by omega)⟩
theorem p_s174 {i cnt gap v : Nat} {x : Int} {v1 v5 : Int} (hi : i < 3) (hc : cnt ≤ 1200) (hg : 1 ≤ gap) (hx : 0 ≤ x ∧ x ≤ 100000000) (hv : v < cnt) : ∀ (kk k F : Nat) (B : gaM), k ≤ kk → kk < F → k ≤ v → gap ≤ 1200 → (∀ m, m < cnt → 0 ≤ sgm B i m ∧ sgm B i m ≤ 100000000) → ∃ (B' : gaM) (k' : Nat), l_X6_lists_174 G n F B v1 ((1200 * i : Nat) : Int) (gap : Int) v5 x (k : Int) = some (B', ((k' : Nat) : Int)) ∧ k' ≤ k ∧ frS i B B' ∧ (∀ m, m < cnt → 0 ≤ sgm B' i m ∧ sgm B' i m ≤ 100000000) ∧ (∀ y, ((∃ m, m < cnt ∧ m ≠ k' ∧ sgm B' i m = y) ∨ y = x) ↔ ((∃ m, m < cnt ∧ m ≠ k ∧ sgm B i m = y) ∨ y = x)) ∧ (gap = 1 → hs (sgm B i) k v x → hs (sgm B' i) k' v x ∧ (k' = 0 ∨ sgm B' i (k' - 1) ≤ x)) := by
  intro kk
  induction kk with
  | zero =>
    intro k F B hk hF hkv hg2 hb
    obtain ⟨F, rfl⟩ : ∃ F1, F = F1 + 1 := ⟨F - 1, by omega⟩
    have e : k = 0 := by omega
    subst e
    refine ⟨B, 0, ?_, Nat.le_refl 0, frS.rf, hb, fun y => Iff.rfl, fun _ h => ⟨h, Or.inl rfl⟩⟩
    rw [l_X6_lists_174, gg_pos (show ok ((0 : Nat) : Int) from ⟨by omega, by omega⟩), gg_pos (show ok (gap : Int) from ⟨by omega, by omega⟩), if_neg (by omega)]
  | succ kk ih =>
    intro k F B hk hF hkv hg2 hb
    obtain ⟨F, rfl⟩ : ∃ F1, F = F1 + 1 := ⟨F - 1, by omega⟩
    rw [l_X6_lists_174, gg_pos (show ok (k : Int) from ⟨by omega, by omega⟩), gg_pos (show ok (gap : Int) from ⟨by omega, by omega⟩)]
    by_cases c : gap ≤ k
    · have hkg : B 132 (1200 * i + (k - gap)) = sgm B i (k - gap) := rfl
      have hbk := hb (k - gap) (by omega)
      rw [if_pos (by omega), gg_pos (show ix (((1200 * i : Nat) : Int) + (k : Int) - (gap : Int)) 3600 from ⟨by omega, by omega⟩), show (((1200 * i : Nat) : Int) + (k : Int) - (gap : Int)).toNat = 1200 * i + (k - gap) by omega, show (((1200 * i : Nat) : Int) + (k : Int)).toNat = 1200 * i + k by omega, hkg, gg_pos (show ok (sgm B i (k - gap)) from ⟨by omega, by omega⟩), gg_pos (show ok x from ⟨by omega, by omega⟩)]
      by_cases d : x < sgm B i (k - gap)
      · rw [if_pos d, gg_pos (show ix (((1200 * i : Nat) : Int) + (k : Int)) 3600 from ⟨by omega, by omega⟩), gB_eq, show (k : Int) - (gap : Int) = ((k - gap : Nat) : Int) by omega]
        obtain ⟨B', k', r1, r2, r3, r4, r5, r6⟩ := ih (k - gap) F (ga_st B 132 (1200 * i + k) (sgm B i (k - gap))) (by omega) (by omega) (by omega) hg2 (fun m hm => by
          rw [sgm_st]
          by_cases q : m = k
          · rw [if_pos q]; exact hbk
          · rw [if_neg q]; exact hb m hm)
        refine ⟨B', k', r1, by omega, (frS_st (by omega)).tr r3, r4, fun y => (r5 y).trans ?_, fun g1 hh => ?_⟩
        · constructor
          · intro q
            rcases q with ⟨m, q1, q2, q3⟩ | q
            · rw [sgm_st] at q3
              by_cases e : m = k
              · rw [if_pos e] at q3
                exact Or.inl ⟨k - gap, by omega, by omega, q3⟩
              · rw [if_neg e] at q3
                exact Or.inl ⟨m, q1, e, q3⟩
            · exact Or.inr q
          · intro q
            rcases q with ⟨m, q1, q2, q3⟩ | q
            · by_cases e : m = k - gap
              · refine Or.inl ⟨k, by omega, by omega, ?_⟩
                rw [sgm_st, if_pos rfl, ← e]
                exact q3
              · refine Or.inl ⟨m, q1, e, ?_⟩
                rw [sgm_st, if_neg q2]
                exact q3
            · exact Or.inr q
        · refine r6 g1 ?_
          obtain ⟨h1, h2⟩ := hh
          refine ⟨fun a b q1 q2 q3 q4 => ?_, fun b q1 q2 => ?_⟩
          · rw [sgm_st, sgm_st]
            by_cases ea : a = k
            · rw [if_pos ea, if_neg (by omega)]
              exact h1 (k - gap) b (by omega) q2 (by omega) (by omega)
            · rw [if_neg ea]
              by_cases eb : b = k
              · rw [if_pos eb]
                exact h1 a (k - gap) (by omega) (by omega) ea (by omega)
              · rw [if_neg eb]
                exact h1 a b q1 q2 ea eb
          · rw [sgm_st]
            by_cases eb : b = k
            · rw [if_pos eb]
              omega
            · rw [if_neg eb]
              exact h2 b (by omega) q2
      · rw [if_neg d]
        refine ⟨B, k, rfl, Nat.le_refl k, frS.rf, hb, fun y => Iff.rfl, fun g1 hh => ⟨hh, Or.inr ?_⟩⟩
        rw [g1] at d
        omega
    · rw [if_neg (by omega)]
      exact ⟨B, k, rfl, Nat.le_refl k, frS.rf, hb, fun y => Iff.rfl, fun g1 hh => ⟨hh, Or.inl (by omega)⟩⟩
def svI (i cnt : Nat) (B B' : gaM) : Prop := ∀ y, (∃ m, m < cnt ∧ sgm B' i m = y) ↔ ∃ m, m < cnt ∧ sgm B i m = y
def bdI (i cnt : Nat) (B : gaM) : Prop := ∀ m, m < cnt → 0 ≤ sgm B i m ∧ sgm B i m ≤ 100000000
def soI (g : Nat → Int) (v : Nat) : Prop := ∀ a b, a < b → b < v → g a ≤ g b
theorem p_s148 {i cnt gap : Nat} {v1 : Int} (hG : 5000 ≤ G) (hi : i < 3) (h1 : v1 = (i : Int)) (hc : cnt ≤ 1200) (hg : 1 ≤ gap) (hg2 : gap ≤ 1200) : ∀ (q v F : Nat) (B : gaM), v + q = cnt ∨ (q = 0 ∧ cnt ≤ v) → v ≤ 1200 → q < F → B 131 i = (cnt : Int) → bdI i cnt B → ∃ B', l_X6_lists_148 G n F B v1 ((1200 * i : Nat) : Int) (gap : Int) (v : Int) = some B' ∧ frS i B B' ∧ bdI i cnt B' ∧ svI i cnt B B' ∧ (gap = 1 → soI (sgm B i) v → soI (sgm B' i) cnt) := by
  subst h1
  intro q
  induction q with
  | zero =>
    intro v F B hv hv2 hF h131 hb
    obtain ⟨F, rfl⟩ : ∃ F1, F = F1 + 1 := ⟨F - 1, by omega⟩
    refine ⟨B, ?_, frS.rf, hb, fun _ => Iff.rfl, fun _ h a b q1 q2 => h a b q1 (by omega)⟩
    rw [l_X6_lists_148, Int.toNat_natCast, h131, gg_pos (show ix (i : Int) 3 from ⟨by omega, by omega⟩), gg_pos (show ok (v : Int) from ⟨by omega, by omega⟩), gg_pos (show ok (cnt : Int) from ⟨by omega, by omega⟩), if_neg (by omega)]
  | succ q ih =>
    intro v F B hv hv2 hF h131 hb
    obtain ⟨F, rfl⟩ : ∃ F1, F = F1 + 1 := ⟨F - 1, by omega⟩
    have hbv := hb v (by omega)
    obtain ⟨B1, k', r1, r2, r3, r4, r5, r6⟩ := p_s174 (n := n) (G := G) (i := i) (cnt := cnt) (gap := gap) (v := v) (x := sgm B i v) (v1 := (i : Int)) (v5 := (v : Int)) hi hc hg hbv (by omega) v v G B (Nat.le_refl v) (by omega) (Nat.le_refl v) hg2 hb
    obtain ⟨B2, hB2⟩ : ∃ B2, B2 = ga_st B1 132 (1200 * i + k') (sgm B i v) := ⟨_, rfl⟩
    have f2 : frS i B B2 := by rw [hB2]; exact r3.tr (frS_st (by omega))
    have hb2 : bdI i cnt B2 := fun m hm => by
      rw [hB2, sgm_st]
      by_cases e : m = k'
      · rw [if_pos e]; exact hbv
      · rw [if_neg e]; exact r4 m hm
    have hvc : v < cnt := by omega
    have hkc : k' < cnt := by omega
    have hsv : svI i cnt B B2 := by
      intro y
      have h5 := r5 y
      constructor
      · intro ⟨m, q1, q2⟩
        rw [hB2, sgm_st] at q2
        by_cases e : m = k'
        · rw [if_pos e] at q2
          exact ⟨v, by omega, q2⟩
        · rw [if_neg e] at q2
          rcases h5.mp (Or.inl ⟨m, q1, e, q2⟩) with ⟨m', s1, s2, s3⟩ | s
          · exact ⟨m', s1, s3⟩
          · exact ⟨v, hvc, s.symm⟩
      · intro ⟨m, q1, q2⟩
        have : (∃ m, m < cnt ∧ m ≠ k' ∧ sgm B1 i m = y) ∨ y = sgm B i v := by
          refine h5.mpr ?_
          by_cases e : m = v
          · exact Or.inr (by rw [← q2, e])
          · exact Or.inl ⟨m, q1, e, q2⟩
        rcases this with ⟨m', s1, s2, s3⟩ | s
        · refine ⟨m', s1, ?_⟩
          rw [hB2, sgm_st, if_neg s2]
          exact s3
        · refine ⟨k', hkc, ?_⟩
          rw [hB2, sgm_st, if_pos rfl, s]
    have hso : gap = 1 → soI (sgm B i) v → soI (sgm B2 i) (v + 1) := by
      intro g1 hs0
      obtain ⟨⟨t1, t2⟩, t3⟩ := r6 g1 ⟨fun a b q1 q2 q3 q4 => hs0 a b q1 (by omega), fun b q1 q2 => by omega⟩
      intro a b q1 q2
      rw [hB2, sgm_st, sgm_st]
      by_cases ea : a = k'
      · rw [if_pos ea, if_neg (by omega)]
        exact t2 b (by omega) (by omega)
      · rw [if_neg ea]
        by_cases eb : b = k'
        · rw [if_pos eb]
          rcases t3 with t3 | t3
          · omega
          · by_cases e3 : a = k' - 1
            · rw [e3]; exact t3
            · have := t1 a (k' - 1) (by omega) (by omega) ea (by omega)
              omega
        · rw [if_neg eb]
          exact t1 a b q1 (by omega) ea eb
    obtain ⟨B', w1, w2, w3, w4, w5⟩ := ih (v + 1) F B2 (by omega) (by omega) (by omega) (by rw [f2.1 131 (by omega)]; exact h131) hb2
    refine ⟨B', ?_, f2.tr w2, w3, fun y => (w4 y).trans (hsv y), fun g1 hs0 => w5 g1 (hso g1 hs0)⟩
    have ev : B 132 (1200 * i + v) = sgm B i v := rfl
    rw [l_X6_lists_148, Int.toNat_natCast, h131, gg_pos (show ix (i : Int) 3 from ⟨by omega, by omega⟩), gg_pos (show ok (v : Int) from ⟨by omega, by omega⟩), gg_pos (show ok (cnt : Int) from ⟨by omega, by omega⟩), if_pos (by omega), gg_pos (show ix (((1200 * i : Nat) : Int) + (v : Int)) 3600 from ⟨by omega, by omega⟩), show (((1200 * i : Nat) : Int) + (v : Int)).toNat = 1200 * i + v by omega, ev, r1, gb2_of, gg_pos (show ix (((1200 * i : Nat) : Int) + (k' : Int)) 3600 from ⟨by omega, by omega⟩), show (((1200 * i : Nat) : Int) + (k' : Int)).toNat = 1200 * i + k' by omega, gB_eq, ← hB2]
    exact w1
theorem p_s139 {i cnt : Nat} {v1 : Int} (hG : 5000 ≤ G) (hi : i < 3) (h1 : v1 = (i : Int)) (hc : cnt ≤ 1200) : ∀ (F gap : Nat) (B : gaM), gap < F → gap ≤ 1200 → B 131 i = (cnt : Int) → bdI i cnt B → ∃ B', l_X6_lists_139 G n F B v1 ((1200 * i : Nat) : Int) (gap : Int) = some B' ∧ frS i B B' ∧ bdI i cnt B' ∧ svI i cnt B B' ∧ (1 ≤ gap → soI (sgm B' i) cnt) ∧ (gap = 0 → B' = B) := by
  intro F
  induction F with
  | zero =>
    intro gap B hF
    omega
  | succ F ih =>
    intro gap B hF hg2 h131 hb
    rw [l_X6_lists_139, gg_pos (show ok (gap : Int) from ⟨by omega, by omega⟩)]
    by_cases c : gap = 0
    · rw [if_neg (by omega)]
      exact ⟨B, rfl, frS.rf, hb, fun _ => Iff.rfl, fun q => by omega, fun _ => rfl⟩
    · obtain ⟨B1, m1, m2, m3, m4, m5⟩ := p_s148 (n := n) (G := G) (i := i) (cnt := cnt) (gap := gap) (v1 := v1) hG hi h1 hc (by omega) hg2 (cnt - gap) gap G B (by omega) hg2 (by omega) h131 hb
      obtain ⟨B', k1, k2, k3, k4, k5, k6⟩ := ih (gap / 2) B1 (by omega) (by omega) (by rw [m2.1 131 (by omega)]; exact h131) m3
      rw [if_pos (by omega), gb_eq m1, gg_pos ⟨by omega, by omega⟩, show (gap : Int) / 2 = ((gap / 2 : Nat) : Int) by omega]
      refine ⟨B', k1, m2.tr k2, k3, fun y => (k4 y).trans (m4 y), fun _ => ?_, fun q => absurd q c⟩
      by_cases d : 1 ≤ gap / 2
      · exact k5 d
      · rw [k6 (by omega)]
        exact m5 (by omega) (fun a b q1 q2 => by omega)
-- gathering
def cd (o : opt) : Int := 2048 * o.2.2 + 4 * (o.2.1 : Int) + (o.1 : Int)
def gaI (Q : opt → Prop) (i cnt : Nat) (B : gaM) : Prop := B 131 i = (cnt : Int) ∧ (∀ m, m < cnt → ∃ o, Q o ∧ sgm B i m = cd o) ∧ ∀ o, Q o → ∃ m, m < cnt ∧ sgm B i m = cd o
theorem gaI.iff {Q Q' : opt → Prop} {i cnt : Nat} {B : gaM} (h : gaI Q i cnt B) (hq : ∀ o, Q o ↔ Q' o) : gaI Q' i cnt B := ⟨h.1, fun m hm => by
  obtain ⟨o, q1, q2⟩ := h.2.1 m hm
  exact ⟨o, (hq o).mp q1, q2⟩, fun o ho => h.2.2 o ((hq o).mpr ho)⟩
def frG (i : Nat) (B B' : gaM) : Prop := (∀ a, a ≠ 131 → a ≠ 132 → B' a = B a) ∧ (∀ b, b ≠ i → B' 131 b = B 131 b) ∧ ∀ y, y < 1200 * i ∨ 1200 * i + 1200 ≤ y → B' 132 y = B 132 y
theorem frG.rf {i : Nat} {B : gaM} : frG i B B := ⟨fun _ _ _ => rfl, fun _ _ => rfl, fun _ _ => rfl⟩
theorem frG.tr {i : Nat} {B B1 B2 : gaM} (h : frG i B B1) (h' : frG i B1 B2) : frG i B B2 := ⟨fun a q1 q2 => (h'.1 a q1 q2).trans (h.1 a q1 q2), fun b q => (h'.2.1 b q).trans (h.2.1 b q), fun y q => (h'.2.2 y q).trans (h.2.2 y q)⟩
theorem frG.stm {i : Nat} {N B B' : gaM} (h : frG i B B') (hB : stm N B) : stm N B' := ⟨fun a h1 h2 => (h.1 a (by omega) (by omega)).trans (hB.1 a h1 h2), fun b h1 h2 => by rw [h.1 100 (by omega) (by omega)]; exact hB.2 b h1 h2⟩
-- seen: HOUR before h, or HOUR h and PLACE before p
def seT (N : gaM) (U : Nat → Nat → Int) (j P : Nat) (h0 p0 : Nat) (o : opt) : Prop := o.1 < P ∧ pa N j ≤ o.2.1 ∧ (o.2.1 : Int) ≤ N 113 j - N 111 j ∧ pv N U j o.1 o.2.1 = some o.2.2 ∧ (o.2.1 < h0 ∨ (o.2.1 = h0 ∧ o.1 < p0))
theorem p_l49 {N : gaM} {U : Nat → Nat → Int} {i j h P : Nat} (hG : 5000 ≤ G) (hI : Inv n N) (hi : i < 3) (hj : j < n) (hP : N 100 2 = (P : Int)) (hh : (h : Int) ≤ N 113 j - N 111 j) (hpa : pa N j ≤ h) (hU : ∀ p h, 0 ≤ U p h ∧ U p h ≤ 100) : ∀ (k p F : Nat) (B : gaM) (cnt : Nat), p + k = P → k < F → stm N B → (∀ p h, p < 4 → h < 300 → B 119 (300 * p + h) = U p h) → gaI (seT N U j P h p) i cnt B → cnt ≤ 4 * h + p → ∃ B' cnt', l_X6_lists_49 G n F B (i : Int) (j : Int) ((1200 * i : Nat) : Int) (h : Int) (p : Int) = some B' ∧ gaI (seT N U j P (h + 1) 0) i cnt' B' ∧ cnt' ≤ 4 * (h + 1) ∧ frG i B B' := by
  obtain ⟨-, ⟨u1, u2, u3, u4, u5, u6, u7, u8, u9, -⟩, -⟩ := hI.2.2.2.1 j hj
  have h4 := hI.1.2.2.1
  have hn := hI.1.2.2.2.2.2.1
  intro k
  induction k with
  | zero =>
    intro p F B cnt hp hF hB hu hg hc
    obtain ⟨F, rfl⟩ : ∃ F1, F = F1 + 1 := ⟨F - 1, by omega⟩
    have e2 : B 100 2 = (P : Int) := by rw [hB.2 2 (by omega) (by omega)]; exact hP
    refine ⟨B, cnt, ?_, hg.iff (fun o => ?_), by omega, frG.rf⟩
    · rw [l_X6_lists_49]
      try simp (disch := (first | omega | (simp (disch := omega) only [ga_st_self, ga_st_id, ga_st_ix] <;> omega) | skip)) only [↓gb_of, ↓gb2_of, ↓gb3_of, ↓gB_eq, ↓gg_pos, ↓if_pos, ↓if_neg, ↓b_wi1, ↓b_wi0, ↓b_has1, ↓b_has0, ↓b_in1, ↓b_in0, ↓b_pl1, ↓b_pl0, ↓b_jm1, ↓b_jm0, ↓b_jc1, ↓b_jc0, ↓b_size, ↓b_get, ↓b_ref, ↓b_den, ↓b_gra, ↓b_don]
    · constructor
      · intro ⟨q1, q2, q3, q4, q5⟩
        exact ⟨q1, q2, q3, q4, by omega⟩
      · intro ⟨q1, q2, q3, q4, q5⟩
        exact ⟨q1, q2, q3, q4, by omega⟩
  | succ k ih =>
    intro p F B cnt hp hF hB hu hg hc
    obtain ⟨F, rfl⟩ : ∃ F1, F = F1 + 1 := ⟨F - 1, by omega⟩
    have e2 : B 100 2 = (P : Int) := by rw [hB.2 2 (by omega) (by omega)]; exact hP
    have e111 : B 111 j = N 111 j := by rw [hB.1 111 (by omega) (by omega)]
    have e106 : B 106 p = N 106 p := by rw [hB.1 106 (by omega) (by omega)]
    have b106 := hI.2.2.1.2.2.2 p (by omega)
    have hb := cst_bd (j := j) (p := p) (h := h) hI hj (by omega) (by omega)
    have hroom : f_X6_hasRoom G n B (j : Int) (p : Int) (h : Int) = some (if ∀ i, i < (N 111 j).toNat → U p (h + i) < N 106 p then 1 else 0) := by
      rw [p_hasRoom (len := (N 111 j).toNat) hG (by omega) (by omega) (by rw [e111]; omega) (by omega) (row119 hU hu) (by rw [e106]; exact ⟨by omega, by omega⟩), e106]
      have : (∀ i, i < (N 111 j).toNat → B 119 (300 * p + h + i) < N 106 p) ↔ (∀ i, i < (N 111 j).toNat → U p (h + i) < N 106 p) := by
        constructor
        · intro q i hi
          rw [← hu p (h + i) (by omega) (by omega), show 300 * p + (h + i) = 300 * p + h + i by omega]
          exact q i hi
        · intro q i hi
          rw [show 300 * p + h + i = 300 * p + (h + i) by omega, hu p (h + i) (by omega) (by omega)]
          exact q i hi
      simp only [this]
    rw [l_X6_lists_49, gg_pos (show ok (p : Int) from ⟨by omega, by omega⟩), e2, gg_pos (show ok (P : Int) from ⟨by omega, by omega⟩), if_pos (by omega), gb_eq hroom]
    by_cases d : ∀ i, i < (N 111 j).toNat → U p (h + i) < N 106 p
    · have ev : pv N U j p h = some (cst N j p h) := if_pos d
      obtain ⟨g1, g2, g3⟩ := hg
      obtain ⟨B1, hB1⟩ : ∃ B1, B1 = ga_st (ga_st B 132 (1200 * i + cnt) (cd (p, h, cst N j p h))) 131 i ((cnt : Int) + 1) := ⟨_, rfl⟩
      have f1 : frG i B B1 := by
        rw [hB1]
        refine ⟨fun a q1 q2 => ?_, fun b q => ?_, fun y q => ?_⟩
        · rw [ga_st_row _ q1, ga_st_row _ q2]
        · rw [ga_st_ix q, ga_st_id (by omega)]
        · rw [ga_st_id (by omega), ga_st_ix (by omega)]
      have hsg : ∀ m, sgm B1 i m = if m = cnt then cd (p, h, cst N j p h) else sgm B i m := by
        intro m
        rw [← sgm_st (B := B), hB1]
        unfold sgm
        rw [ga_st_id (by omega)]
      have hg1 : gaI (seT N U j P h (p + 1)) i (cnt + 1) B1 := by
        refine ⟨by rw [hB1, ga_st_self]; rfl, fun m hm => ?_, fun o ho => ?_⟩
        · rw [hsg]
          by_cases e : m = cnt
          · rw [if_pos e]
            exact ⟨(p, h, cst N j p h), ⟨by show p < P; omega, hpa, hh, ev, Or.inr ⟨rfl, by show p < p + 1; omega⟩⟩, rfl⟩
          · rw [if_neg e]
            obtain ⟨o, ⟨q1, q2, q3, q4, q5⟩, q6⟩ := g2 m (by omega)
            exact ⟨o, ⟨q1, q2, q3, q4, by omega⟩, q6⟩
        · obtain ⟨q1, q2, q3, q4, q5⟩ := ho
          by_cases e : o.1 = p ∧ o.2.1 = h
          · refine ⟨cnt, by omega, ?_⟩
            rw [hsg, if_pos rfl]
            rw [e.1, e.2, ev] at q4
            have q4 := Option.some.inj q4
            obtain ⟨o1, o2, o3⟩ := o
            have e1 : o1 = p := e.1
            have e2 : o2 = h := e.2
            have e3 : cst N j p h = o3 := q4
            rw [e1, e2, e3]
          · obtain ⟨m, m1, m2⟩ := g3 o ⟨q1, q2, q3, q4, by omega⟩
            refine ⟨m, by omega, ?_⟩
            rw [hsg, if_neg (by omega)]
            exact m2
      obtain ⟨B', cnt', k1, k2, k3, k4⟩ := ih (p + 1) F B1 (cnt + 1) (by omega) (by omega) (f1.stm hB) (fun q x q1 q2 => by rw [f1.1 119 (by omega) (by omega)]; exact hu q x q1 q2) hg1 (by omega)
      refine ⟨B', cnt', ?_, k2, k3, f1.tr k4⟩
      have x1 : (ga_st B 132 (1200 * i + cnt) (cd (p, h, cst N j p h))) 131 i = (cnt : Int) := by rw [ga_st_id (by omega)]; exact g1
      have x2 : 2048 * cst N j p h + 4 * (h : Int) + (p : Int) = cd (p, h, cst N j p h) := rfl
      rw [if_pos d, gg_pos (by decide), if_neg (by decide), gg_pos (show ix (i : Int) 3 from ⟨by omega, by omega⟩), gb_eq (b_cM hG hI hB hj (by omega) (by omega)), Int.toNat_natCast, g1, gg_pos (show ix (((1200 * i : Nat) : Int) + (cnt : Int)) 3600 from ⟨by omega, by omega⟩), show (((1200 * i : Nat) : Int) + (cnt : Int)).toNat = 1200 * i + cnt by omega, x2, gB_eq, x1, gB_eq, gb_of, ← hB1]
      exact k1
    · have ev : pv N U j p h = none := if_neg d
      obtain ⟨B', cnt', k1, k2, k3, k4⟩ := ih (p + 1) F B cnt (by omega) (by omega) hB hu (hg.iff (fun o => by
        constructor
        · intro ⟨q1, q2, q3, q4, q5⟩
          exact ⟨q1, q2, q3, q4, by omega⟩
        · intro ⟨q1, q2, q3, q4, q5⟩
          refine ⟨q1, q2, q3, q4, ?_⟩
          by_cases e : o.1 = p ∧ o.2.1 = h
          · rw [e.1, e.2, ev] at q4
            cases q4
          · omega)) (by omega)
      refine ⟨B', cnt', ?_, k2, k3, k4⟩
      rw [if_neg d, gg_pos (by decide), if_pos rfl, gb_of]
      exact k1
theorem p_l28 {N : gaM} {U : Nat → Nat → Int} {i j P : Nat} (hG : 5000 ≤ G) (hI : Inv n N) (hi : i < 3) (hj : j < n) (hP : N 100 2 = (P : Int)) (hU : ∀ p h, 0 ≤ U p h ∧ U p h ≤ 100) : ∀ (k h F : Nat) (B : gaM) (cnt : Nat), (h : Int) + k = N 113 j - N 111 j + 1 ∨ (k = 0 ∧ N 113 j - N 111 j < (h : Int)) → pa N j ≤ h → h ≤ 400 → k < F → stm N B → (∀ p h, p < 4 → h < 300 → B 119 (300 * p + h) = U p h) → gaI (seT N U j P h 0) i cnt B → cnt ≤ 1200 ∧ cnt ≤ 4 * h → ∃ B' cnt', l_X6_lists_28 G n F B (i : Int) (j : Int) ((1200 * i : Nat) : Int) (h : Int) = some B' ∧ gaI (seT N U j P 400 0) i cnt' B' ∧ cnt' ≤ 1200 ∧ frG i B B' := by
  obtain ⟨-, ⟨u1, u2, u3, u4, u5, u6, u7, u8, u9, -⟩, -⟩ := hI.2.2.2.1 j hj
  have h4 := hI.1.2.2.1
  have hn := hI.1.2.2.2.2.2.1
  intro k
  induction k with
  | zero =>
    intro h F B cnt hk hpa hh hF hB hu hg hc
    obtain ⟨F, rfl⟩ : ∃ F1, F = F1 + 1 := ⟨F - 1, by omega⟩
    have e113 : B 113 j = N 113 j := by rw [hB.1 113 (by omega) (by omega)]
    have e111 : B 111 j = N 111 j := by rw [hB.1 111 (by omega) (by omega)]
    refine ⟨B, cnt, ?_, hg.iff (fun o => ?_), hc.1, frG.rf⟩
    · rw [l_X6_lists_28, Int.toNat_natCast, e113, e111, gg_pos (show ix (j : Int) 40 from ⟨by omega, by omega⟩), gg_pos (show ok (h : Int) from ⟨by omega, by omega⟩), gg_pos (show ok (N 113 j - N 111 j) from ⟨by omega, by omega⟩), if_neg (by omega)]
    · constructor
      · intro ⟨q1, q2, q3, q4, q5⟩
        exact ⟨q1, q2, q3, q4, by omega⟩
      · intro ⟨q1, q2, q3, q4, q5⟩
        exact ⟨q1, q2, q3, q4, by omega⟩
  | succ k ih =>
    intro h F B cnt hk hpa hh hF hB hu hg hc
    obtain ⟨F, rfl⟩ : ∃ F1, F = F1 + 1 := ⟨F - 1, by omega⟩
    have e113 : B 113 j = N 113 j := by rw [hB.1 113 (by omega) (by omega)]
    have e111 : B 111 j = N 111 j := by rw [hB.1 111 (by omega) (by omega)]
    obtain ⟨B1, cnt1, m1, m2, m3, m4⟩ := p_l49 (n := n) (G := G) (N := N) (U := U) (i := i) (j := j) (h := h) (P := P) hG hI hi hj hP (by omega) hpa hU P 0 G B cnt (by omega) (by omega) hB hu hg (by omega)
    have m1 : l_X6_lists_49 G n G B (i : Int) (j : Int) ((1200 * i : Nat) : Int) (h : Int) 0 = some B1 := m1
    obtain ⟨B', cnt', k1, k2, k3, k4⟩ := ih (h + 1) F B1 cnt1 (by omega) (by omega) (by omega) (by omega) (m4.stm hB) (fun q x q1 q2 => by rw [m4.1 119 (by omega) (by omega)]; exact hu q x q1 q2) m2 (by omega)
    refine ⟨B', cnt', ?_, k2, k3, m4.tr k4⟩
    rw [l_X6_lists_28, Int.toNat_natCast, e113, e111, gg_pos (show ix (j : Int) 40 from ⟨by omega, by omega⟩), gg_pos (show ok (h : Int) from ⟨by omega, by omega⟩), gg_pos (show ok (N 113 j - N 111 j) from ⟨by omega, by omega⟩), if_pos (by omega), gb_eq m1]
    exact k1
/-- a sorted list of all LAYINGS of a JOB -/
theorem p_lists {N B : gaM} {i j : Nat} (hG : 5000 ≤ G) (hI : Inv n N) (hi : i < 3) (hj : j < n) (hB : stm N B) (hu : ∀ p h, p < 4 → h < 300 → B 119 (300 * p + h) = pU0 n N p h) : ∃ B' cnt, f_X6_lists G n B (i : Int) (j : Int) = some B' ∧ frG i B B' ∧ gaI (Co n N j) i cnt B' ∧ cnt ≤ 1200 ∧ bdI i cnt B' ∧ soI (sgm B' i) cnt := by
  obtain ⟨-, ⟨u1, u2, u3, u4, u5, u6, u7, u8, u9, -⟩, -⟩ := hI.2.2.2.1 j hj
  have hn := hI.1.2.2.2.2.2.1
  have h4 := hI.1.2.2.1
  have h44 := hI.1.2.2.2.2.2.2.2
  obtain ⟨P, hPn⟩ : ∃ P : Nat, N 100 2 = (P : Int) := ⟨(N 100 2).toNat, by have := hI.1.2.1; omega⟩
  have hpa : max (N 100 4) (N 112 j) = (pa N j : Int) := by unfold pa; omega
  obtain ⟨B0, hB0⟩ : ∃ B0, B0 = ga_st B 131 i 0 := ⟨_, rfl⟩
  have f0 : frG i B B0 := by
    rw [hB0]
    exact ⟨fun a q1 q2 => ga_st_row _ q1, fun b q => ga_st_ix q, fun y q => ga_st_id (by omega)⟩
  have s0 := f0.stm hB
  have hpa3 : pa N j ≤ 300 := by omega
  obtain ⟨B1, cnt, m1, m2, m3, m4⟩ := p_l28 (n := n) (G := G) (N := N) (U := pU0 n N) (i := i) (j := j) (P := P) hG hI hi hj hPn (fun p x => by have := pU0_bd (N := N) hn p x; omega) (N 113 j - N 111 j + 1 - (pa N j : Int)).toNat (pa N j) G B0 0 (by omega) (Nat.le_refl _) (by omega) (by omega) s0 (fun p x q1 q2 => by rw [f0.1 119 (by omega) (by omega)]; exact hu p x q1 q2) ⟨by rw [hB0, ga_st_self]; rfl, fun m hm => by omega, fun o ho => by
    obtain ⟨q1, q2, q3, q4, q5⟩ := ho
    omega⟩ (by omega)
  have hco : ∀ o, seT N (pU0 n N) j P 400 0 o ↔ Co n N j o := by
    intro o
    constructor
    · intro ⟨q1, q2, q3, q4, q5⟩
      exact ⟨by omega, q2, q3, q4⟩
    · intro ⟨q1, q2, q3, q4⟩
      exact ⟨by omega, q2, q3, q4, by omega⟩
  have m2' := m2.iff hco
  have hbd : bdI i cnt B1 := fun m hm => by
    obtain ⟨o, ⟨q1, q2, q3, q4⟩, q5⟩ := m2'.2.1 m hm
    have := pv_bd hI hj (show o.1 < 4 by omega) q3 q4
    rw [q5]
    unfold cd
    omega
  obtain ⟨B2, k1, k2, k3, k4, k5, k6⟩ := p_s139 (n := n) (G := G) (i := i) (cnt := cnt) (v1 := (i : Int)) hG hi rfl m3 G (cnt / 2) B1 (by omega) (by omega) m2'.1 hbd
  refine ⟨B2, cnt, ?_, f0.tr (m4.tr ⟨fun a q1 q2 => k2.1 a q2, fun b q => by rw [k2.1 131 (by omega)], k2.2⟩), ⟨by rw [k2.1 131 (by omega)]; exact m2'.1, fun m hm => ?_, fun o ho => ?_⟩, m3, k3, ?_⟩
  · unfold f_X6_lists
    have x4 : B0 100 4 = N 100 4 := s0.2 4 (by omega) (by omega)
    have x112 : B0 112 j = N 112 j := by rw [s0.1 112 (by omega) (by omega)]
    rw [gg_pos (show ix (i : Int) 3 from ⟨by omega, by omega⟩), gB_eq, Int.toNat_natCast, ← hB0, gg_pos (show ix (j : Int) 40 from ⟨by omega, by omega⟩), Int.toNat_natCast, x4, x112, gg_pos (show ok (N 100 4) from ⟨by omega, by omega⟩), gg_pos (show ok (N 112 j) from ⟨by omega, by omega⟩), hpa, show (1200 * (i : Int)) = ((1200 * i : Nat) : Int) by omega, gb_eq m1, m2'.1, gg_pos ⟨by omega, by omega⟩, show (cnt : Int) / 2 = ((cnt / 2 : Nat) : Int) by omega, gb_eq k1]
  · obtain ⟨m', q1, q2⟩ := (k4 (sgm B2 i m)).mp ⟨m, hm, rfl⟩
    obtain ⟨o, r1, r2⟩ := m2'.2.1 m' q1
    exact ⟨o, r1, by rw [← q2, r2]⟩
  · obtain ⟨m, q1, q2⟩ := m2'.2.2 o ho
    exact (k4 (cd o)).mpr ⟨m, q1, q2⟩
  · by_cases c : 1 ≤ cnt / 2
    · exact k5 c
    · intro a b q1 q2
      omega
end SO

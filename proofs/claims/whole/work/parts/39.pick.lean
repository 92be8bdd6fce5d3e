/-! ===== pure: the pick of a LAYING, on both sides one ===== -/
abbrev pkT : Type := Option (Nat × Nat × Int)
def pkS (v : Nat → Nat → Option Int) (h p : Nat) (s : pkT) : pkT := match v p h with
  | none => s
  | some c => match s with
    | none => some (p, h, c)
    | some (_, _, c0) => if c < c0 then some (p, h, c) else s
def pkP (v : Nat → Nat → Option Int) (h : Nat) : Nat → Nat → pkT → pkT
  | _, 0, s => s
  | p, k + 1, s => pkP v h (p + 1) k (pkS v h p s)
def pkH (v : Nat → Nat → Option Int) (P : Nat) (soon : Bool) : Nat → Nat → pkT → pkT
  | _, 0, s => s
  | h, k + 1, s => if soon = true ∧ s.isSome = true then s else pkH v P soon (h + 1) k (pkP v h 0 P s)
theorem pkS_congr {v w : Nat → Nat → Option Int} {h p : Nat} {s : pkT} (e : v p h = w p h) : pkS v h p s = pkS w h p s := by
  unfold pkS
  rw [e]
theorem pkP_congr {v w : Nat → Nat → Option Int} {h : Nat} : ∀ (k p : Nat) (s : pkT), (∀ q, p ≤ q → q < p + k → v q h = w q h) → pkP v h p k s = pkP w h p k s
  | 0, _, _, _ => rfl
  | k + 1, p, s, e => by
    show pkP v h (p + 1) k (pkS v h p s) = pkP w h (p + 1) k (pkS w h p s)
    rw [pkS_congr (e p (Nat.le_refl p) (by omega)), pkP_congr k (p + 1) _ (fun q q1 q2 => e q (by omega) (by omega))]
theorem pkH_congr {v w : Nat → Nat → Option Int} {P : Nat} {soon : Bool} : ∀ (k h : Nat) (s : pkT), (∀ p x, p < P → h ≤ x → x < h + k → v p x = w p x) → pkH v P soon h k s = pkH w P soon h k s
  | 0, _, _, _ => rfl
  | k + 1, h, s, e => by
    show (if soon = true ∧ s.isSome = true then s else pkH v P soon (h + 1) k (pkP v h 0 P s)) = (if soon = true ∧ s.isSome = true then s else pkH w P soon (h + 1) k (pkP w h 0 P s))
    rw [pkP_congr P 0 s (fun q _ q2 => e q h (by omega) (Nat.le_refl h) (by omega)), pkH_congr k (h + 1) _ (fun p x p1 x1 x2 => e p x p1 (by omega) (by omega))]
/-- what holds of all LAYINGS holds of the picked one -/
theorem pkS_all {v : Nat → Nat → Option Int} {Q : Nat → Nat → Int → Prop} {h p : Nat} {s : pkT} (hv : ∀ c, v p h = some c → Q p h c) (hs : ∀ a b c, s = some (a, b, c) → Q a b c) : ∀ a b c, pkS v h p s = some (a, b, c) → Q a b c := by
  intro a b c e
  unfold pkS at e
  cases hvv : v p h with
  | none => rw [hvv] at e; exact hs a b c e
  | some c1 =>
    rw [hvv] at e
    cases s with
    | none =>
      cases e
      exact hv c hvv
    | some t =>
      obtain ⟨a0, b0, c0⟩ := t
      by_cases q : c1 < c0
      · have e' : some (p, h, c1) = some (a, b, c) := by
          have := e
          simp only [if_pos q] at this
          exact this
        cases e'
        exact hv c hvv
      · have e' : some (a0, b0, c0) = some (a, b, c) := by
          have := e
          simp only [if_neg q] at this
          exact this
        exact hs a b c e'
theorem pkP_all {v : Nat → Nat → Option Int} {Q : Nat → Nat → Int → Prop} {h : Nat} : ∀ (k p : Nat) (s : pkT), (∀ q c, p ≤ q → q < p + k → v q h = some c → Q q h c) → (∀ a b c, s = some (a, b, c) → Q a b c) → ∀ a b c, pkP v h p k s = some (a, b, c) → Q a b c
  | 0, _, _, _, hs => hs
  | k + 1, p, s, hv, hs => pkP_all k (p + 1) (pkS v h p s) (fun q c q1 q2 => hv q c (by omega) (by omega)) (pkS_all (fun c => hv p c (Nat.le_refl p) (by omega)) hs)
theorem pkH_all {v : Nat → Nat → Option Int} {Q : Nat → Nat → Int → Prop} {P : Nat} {soon : Bool} : ∀ (k h : Nat) (s : pkT), (∀ p x c, p < P → h ≤ x → x < h + k → v p x = some c → Q p x c) → (∀ a b c, s = some (a, b, c) → Q a b c) → ∀ a b c, pkH v P soon h k s = some (a, b, c) → Q a b c
  | 0, _, _, _, hs => hs
  | k + 1, h, s, hv, hs => by
    intro a b c e
    have e' : (if soon = true ∧ s.isSome = true then s else pkH v P soon (h + 1) k (pkP v h 0 P s)) = some (a, b, c) := e
    by_cases q : soon = true ∧ s.isSome = true
    · rw [if_pos q] at e'
      exact hs a b c e'
    · rw [if_neg q] at e'
      exact pkH_all k (h + 1) _ (fun p x c p1 x1 x2 => hv p x c p1 (by omega) (by omega)) (pkP_all P 0 s (fun q c _ q2 => hv q h c (by omega) (Nat.le_refl h) (by omega)) hs) a b c e'
section K1
variable {n G : Nat}
-- the class's fields place, hour, cost
def Rc (s : pkT) (M : gaM) : Prop := match s with
  | none => M 6 6 = -1
  | some (p, h, c) => M 6 4 = (p : Int) ∧ M 6 5 = (h : Int) ∧ M 6 6 = c ∧ 0 ≤ c ∧ c ≤ 30000
def fr6 (M M' : gaM) : Prop := (∀ a, a ≠ 6 → M' a = M a) ∧ ∀ b, b ≠ 4 → b ≠ 5 → b ≠ 6 → M' 6 b = M 6 b
theorem fr6.rf {M : gaM} : fr6 M M := ⟨fun _ _ => rfl, fun _ _ _ _ => rfl⟩
theorem fr6.tr {M M1 M2 : gaM} (h : fr6 M M1) (h' : fr6 M1 M2) : fr6 M M2 := ⟨fun a q => (h'.1 a q).trans (h.1 a q), fun b q1 q2 q3 => (h'.2 b q1 q2 q3).trans (h.2 b q1 q2 q3)⟩
def vt (T : Nat → Nat → Int) (p h : Nat) : Option Int := if T p h = -1 then none else some (T p h)
theorem fr6_set {M : gaM} {x y z : Int} : fr6 M (ga_st (ga_st (ga_st M 6 4 x) 6 5 y) 6 6 z) := by
  refine ⟨fun a q => ?_, fun b q1 q2 q3 => ?_⟩
  · rw [ga_st_row _ q, ga_st_row _ q, ga_st_row _ q]
  · rw [ga_st_ix q3, ga_st_ix q2, ga_st_ix q1]
theorem Rc_set {M : gaM} {p h : Nat} {c : Int} (h0 : 0 ≤ c) (h1 : c ≤ 30000) : Rc (some (p, h, c)) (ga_st (ga_st (ga_st M 6 4 (p : Int)) 6 5 (h : Int)) 6 6 c) := by
  unfold Rc
  simp [ga_st]
  omega
theorem p_pickAt_l {P h : Nat} {T : Nat → Nat → Int} (hP : P ≤ 4) (hh : h < 300) (hT : ∀ q, q < P → -1 ≤ T q h ∧ T q h ≤ 30000) : ∀ (k p F : Nat) (M : gaM) (s : pkT), p + k = P → k < F → M 6 1 = (P : Int) → (∀ q, q < P → M (61 + q) h = T q h) → Rc s M → ∃ M', l_X1_pickAt_2 G n F M (h : Int) (p : Int) = some M' ∧ Rc (pkP (vt T) h p k s) M' ∧ fr6 M M' := by
  intro k
  induction k with
  | zero =>
    intro p F M s hp hF h61 ht hs
    obtain ⟨F, rfl⟩ : ∃ F1, F = F1 + 1 := ⟨F - 1, by omega⟩
    refine ⟨M, ?_, hs, fr6.rf⟩
    rw [l_X1_pickAt_2]
    try simp (disch := (first | omega | (simp (disch := omega) only [ga_st_self, ga_st_id, ga_st_ix] <;> omega) | skip)) only [↓gb_of, ↓gb2_of, ↓gb3_of, ↓gB_eq, ↓gg_pos, ↓if_pos, ↓if_neg, ↓b_wi1, ↓b_wi0, ↓b_has1, ↓b_has0, ↓b_in1, ↓b_in0, ↓b_pl1, ↓b_pl0, ↓b_jm1, ↓b_jm0, ↓b_jc1, ↓b_jc0, ↓b_size, ↓b_get, ↓b_ref, ↓b_den, ↓b_gra, ↓b_don]
  | succ k ih =>
    intro p F M s hp hF h61 ht hs
    obtain ⟨F, rfl⟩ : ∃ F1, F = F1 + 1 := ⟨F - 1, by omega⟩
    have hTp := hT p (by omega)
    have htp := ht p (by omega)
    have go : ∀ M1, fr6 M M1 → Rc (pkS (vt T) h p s) M1 → ∃ M', l_X1_pickAt_2 G n F M1 (h : Int) ((p : Int) + 1) = some M' ∧ Rc (pkP (vt T) h p (k + 1) s) M' ∧ fr6 M M' := by
      intro M1 hf hr
      obtain ⟨M', m1, m2, m3⟩ := ih (p + 1) F M1 (pkS (vt T) h p s) (by omega) (by omega) (by rw [hf.2 1 (by omega) (by omega) (by omega)]; exact h61) (fun q hq => by rw [hf.1 _ (by omega)]; exact ht q hq) hr
      exact ⟨M', m1, m2, hf.tr m3⟩
    rw [l_X1_pickAt_2]
    try simp only [Int.toNat_natCast, tn300, tn4, Nat.reduceMul, Nat.reduceAdd]
    simp only [htp]
    by_cases c1 : T p h = -1
    · try simp (disch := (first | omega | (simp (disch := omega) only [ga_st_self, ga_st_id, ga_st_ix] <;> omega) | skip)) only [↓gb_of, ↓gb2_of, ↓gb3_of, ↓gB_eq, ↓gg_pos, ↓if_pos, ↓if_neg, ↓b_wi1, ↓b_wi0, ↓b_has1, ↓b_has0, ↓b_in1, ↓b_in0, ↓b_pl1, ↓b_pl0, ↓b_jm1, ↓b_jm0, ↓b_jc1, ↓b_jc0, ↓b_size, ↓b_get, ↓b_ref, ↓b_den, ↓b_gra, ↓b_don]
      refine go M fr6.rf ?_
      have : pkS (vt T) h p s = s := by
        unfold pkS vt
        rw [if_pos c1]
      rw [this]
      exact hs
    · have ev : vt T p h = some (T p h) := if_neg c1
      cases s with
      | none =>
        have hs : M 6 6 = -1 := hs
        try simp (disch := (first | omega | (simp (disch := omega) only [ga_st_self, ga_st_id, ga_st_ix] <;> omega) | skip)) only [↓gb_of, ↓gb2_of, ↓gb3_of, ↓gB_eq, ↓gg_pos, ↓if_pos, ↓if_neg, ↓b_wi1, ↓b_wi0, ↓b_has1, ↓b_has0, ↓b_in1, ↓b_in0, ↓b_pl1, ↓b_pl0, ↓b_jm1, ↓b_jm0, ↓b_jc1, ↓b_jc0, ↓b_size, ↓b_get, ↓b_ref, ↓b_den, ↓b_gra, ↓b_don]
        refine go _ fr6_set ?_
        have : pkS (vt T) h p none = some (p, h, T p h) := by
          unfold pkS
          rw [ev]
        rw [this]
        exact Rc_set (by omega) (by omega)
      | some t =>
        obtain ⟨p0, h0, c0⟩ := t
        obtain ⟨q1, q2, q3, q4, q5⟩ := id hs
        by_cases c2 : T p h < c0
        · try simp (disch := (first | omega | (simp (disch := omega) only [ga_st_self, ga_st_id, ga_st_ix] <;> omega) | skip)) only [↓gb_of, ↓gb2_of, ↓gb3_of, ↓gB_eq, ↓gg_pos, ↓if_pos, ↓if_neg, ↓b_wi1, ↓b_wi0, ↓b_has1, ↓b_has0, ↓b_in1, ↓b_in0, ↓b_pl1, ↓b_pl0, ↓b_jm1, ↓b_jm0, ↓b_jc1, ↓b_jc0, ↓b_size, ↓b_get, ↓b_ref, ↓b_den, ↓b_gra, ↓b_don]
          refine go _ fr6_set ?_
          have : pkS (vt T) h p (some (p0, h0, c0)) = some (p, h, T p h) := by
            unfold pkS
            rw [ev]
            simp only [if_pos c2]
          rw [this]
          exact Rc_set (by omega) (by omega)
        · try simp (disch := (first | omega | (simp (disch := omega) only [ga_st_self, ga_st_id, ga_st_ix] <;> omega) | skip)) only [↓gb_of, ↓gb2_of, ↓gb3_of, ↓gB_eq, ↓gg_pos, ↓if_pos, ↓if_neg, ↓b_wi1, ↓b_wi0, ↓b_has1, ↓b_has0, ↓b_in1, ↓b_in0, ↓b_pl1, ↓b_pl0, ↓b_jm1, ↓b_jm0, ↓b_jc1, ↓b_jc0, ↓b_size, ↓b_get, ↓b_ref, ↓b_den, ↓b_gra, ↓b_don]
          refine go M fr6.rf ?_
          have : pkS (vt T) h p (some (p0, h0, c0)) = some (p0, h0, c0) := by
            unfold pkS
            rw [ev]
            simp only [if_neg c2]
          rw [this]
          exact hs
theorem p_pickAt {M : gaM} {P h : Nat} {T : Nat → Nat → Int} {s : pkT} (hG : 5000 ≤ G) (hP : P ≤ 4) (hh : h < 300) (hT : ∀ q, q < P → -1 ≤ T q h ∧ T q h ≤ 30000) (h61 : M 6 1 = (P : Int)) (ht : ∀ q, q < P → M (61 + q) h = T q h) (hs : Rc s M) : ∃ M', f_X1_pickAt G n M (h : Int) = some M' ∧ Rc (pkP (vt T) h 0 P s) M' ∧ fr6 M M' := by
  obtain ⟨M', m1, m2⟩ := p_pickAt_l (n := n) (G := G) hP hh hT P 0 G M s (by omega) (by omega) h61 ht hs
  exact ⟨M', gb_eq m1, m2⟩
theorem Rc.ok {s : pkT} {M : gaM} (h : Rc s M) : ok (M 6 6) := by
  cases s with
  | none => exact ⟨by rw [show M 6 6 = -1 from h]; omega, by rw [show M 6 6 = -1 from h]; omega⟩
  | some t =>
    obtain ⟨p, x, c⟩ := t
    obtain ⟨q1, q2, q3, q4, q5⟩ := h
    exact ⟨by omega, by omega⟩
theorem p_pickC_l {P : Nat} {last : Int} {T : Nat → Nat → Int} (hG : 5000 ≤ G) (hP : P ≤ 4) (hl : -400 ≤ last ∧ last < 300) : ∀ (k h F : Nat) (M : gaM) (s : pkT), (h : Int) + k = last + 1 ∨ (k = 0 ∧ last < (h : Int)) → h ≤ 400 → k < F → M 6 1 = (P : Int) → M 6 3 = last → (∀ q x, q < P → h ≤ x → (x : Int) ≤ last → M (61 + q) x = T q x ∧ -1 ≤ T q x ∧ T q x ≤ 30000) → Rc s M → ∃ M', l_X1_pickCheapest_10 G n F M (h : Int) = some M' ∧ Rc (pkH (vt T) P false h k s) M' ∧ fr6 M M' := by
  intro k
  induction k with
  | zero =>
    intro h F M s hk hh hF h61 h63 ht hs
    obtain ⟨F, rfl⟩ : ∃ F1, F = F1 + 1 := ⟨F - 1, by omega⟩
    refine ⟨M, ?_, hs, fr6.rf⟩
    rw [l_X1_pickCheapest_10]
    try simp (disch := (first | omega | (simp (disch := omega) only [ga_st_self, ga_st_id, ga_st_ix] <;> omega) | skip)) only [↓gb_of, ↓gb2_of, ↓gb3_of, ↓gB_eq, ↓gg_pos, ↓if_pos, ↓if_neg, ↓b_wi1, ↓b_wi0, ↓b_has1, ↓b_has0, ↓b_in1, ↓b_in0, ↓b_pl1, ↓b_pl0, ↓b_jm1, ↓b_jm0, ↓b_jc1, ↓b_jc0, ↓b_size, ↓b_get, ↓b_ref, ↓b_den, ↓b_gra, ↓b_don]
  | succ k ih =>
    intro h F M s hk hh hF h61 h63 ht hs
    obtain ⟨F, rfl⟩ : ∃ F1, F = F1 + 1 := ⟨F - 1, by omega⟩
    obtain ⟨M1, m1, m2, m3⟩ := p_pickAt (n := n) (G := G) (M := M) (P := P) (h := h) (T := T) (s := s) hG hP (by omega) (fun q hq => (ht q h hq (Nat.le_refl h) (by omega)).2) h61 (fun q hq => (ht q h hq (Nat.le_refl h) (by omega)).1) hs
    obtain ⟨M', k1, k2, k3⟩ := ih (h + 1) F M1 _ (by omega) (by omega) (by omega) (by rw [m3.2 1 (by omega) (by omega) (by omega)]; exact h61) (by rw [m3.2 3 (by omega) (by omega) (by omega)]; exact h63) (fun q x q1 q2 q3 => by rw [m3.1 _ (by omega)]; exact ht q x q1 (by omega) q3) m2
    refine ⟨M', ?_, k2, m3.tr k3⟩
    rw [l_X1_pickCheapest_10]
    try simp (disch := (first | omega | (simp (disch := omega) only [ga_st_self, ga_st_id, ga_st_ix] <;> omega) | skip)) only [↓gb_of, ↓gb2_of, ↓gb3_of, ↓gB_eq, ↓gg_pos, ↓if_pos, ↓if_neg, ↓b_wi1, ↓b_wi0, ↓b_has1, ↓b_has0, ↓b_in1, ↓b_in0, ↓b_pl1, ↓b_pl0, ↓b_jm1, ↓b_jm0, ↓b_jc1, ↓b_jc0, ↓b_size, ↓b_get, ↓b_ref, ↓b_den, ↓b_gra, ↓b_don]
    rw [gb_eq m1, show ((h : Int) + 1) = ((h + 1 : Nat) : Int) from rfl, k1]
theorem p_pickS_l {P : Nat} {last : Int} {T : Nat → Nat → Int} (hG : 5000 ≤ G) (hP : P ≤ 4) (hl : -400 ≤ last ∧ last < 300) : ∀ (k h F : Nat) (M : gaM) (s : pkT), (h : Int) + k = last + 1 ∨ (k = 0 ∧ last < (h : Int)) → h ≤ 400 → k < F → M 6 1 = (P : Int) → M 6 3 = last → (∀ q x, q < P → h ≤ x → (x : Int) ≤ last → M (61 + q) x = T q x ∧ -1 ≤ T q x ∧ T q x ≤ 30000) → Rc s M → ∃ M', l_X1_pickSoonest_10 G n F M (h : Int) = some M' ∧ Rc (pkH (vt T) P true h k s) M' ∧ fr6 M M' := by
  intro k
  induction k with
  | zero =>
    intro h F M s hk hh hF h61 h63 ht hs
    obtain ⟨F, rfl⟩ : ∃ F1, F = F1 + 1 := ⟨F - 1, by omega⟩
    refine ⟨M, ?_, hs, fr6.rf⟩
    rw [l_X1_pickSoonest_10]
    try simp (disch := (first | omega | (simp (disch := omega) only [ga_st_self, ga_st_id, ga_st_ix] <;> omega) | skip)) only [↓gb_of, ↓gb2_of, ↓gb3_of, ↓gB_eq, ↓gg_pos, ↓if_pos, ↓if_neg, ↓b_wi1, ↓b_wi0, ↓b_has1, ↓b_has0, ↓b_in1, ↓b_in0, ↓b_pl1, ↓b_pl0, ↓b_jm1, ↓b_jm0, ↓b_jc1, ↓b_jc0, ↓b_size, ↓b_get, ↓b_ref, ↓b_den, ↓b_gra, ↓b_don]
  | succ k ih =>
    intro h F M s hk hh hF h61 h63 ht hs
    obtain ⟨F, rfl⟩ : ∃ F1, F = F1 + 1 := ⟨F - 1, by omega⟩
    have ho := hs.ok
    cases s with
    | none =>
      obtain ⟨M1, m1, m2, m3⟩ := p_pickAt (n := n) (G := G) (M := M) (P := P) (h := h) (T := T) (s := none) hG hP (by omega) (fun q hq => (ht q h hq (Nat.le_refl h) (by omega)).2) h61 (fun q hq => (ht q h hq (Nat.le_refl h) (by omega)).1) hs
      obtain ⟨M', k1, k2, k3⟩ := ih (h + 1) F M1 _ (by omega) (by omega) (by omega) (by rw [m3.2 1 (by omega) (by omega) (by omega)]; exact h61) (by rw [m3.2 3 (by omega) (by omega) (by omega)]; exact h63) (fun q x q1 q2 q3 => by rw [m3.1 _ (by omega)]; exact ht q x q1 (by omega) q3) m2
      refine ⟨M', ?_, ?_, m3.tr k3⟩
      · have hs : M 6 6 = -1 := hs
        rw [l_X1_pickSoonest_10]
        try simp (disch := (first | omega | (simp (disch := omega) only [ga_st_self, ga_st_id, ga_st_ix] <;> omega) | skip)) only [↓gb_of, ↓gb2_of, ↓gb3_of, ↓gB_eq, ↓gg_pos, ↓if_pos, ↓if_neg, ↓b_wi1, ↓b_wi0, ↓b_has1, ↓b_has0, ↓b_in1, ↓b_in0, ↓b_pl1, ↓b_pl0, ↓b_jm1, ↓b_jm0, ↓b_jc1, ↓b_jc0, ↓b_size, ↓b_get, ↓b_ref, ↓b_den, ↓b_gra, ↓b_don]
        rw [gb_eq m1, show ((h : Int) + 1) = ((h + 1 : Nat) : Int) from rfl, k1]
      · have : pkH (vt T) P true h (k + 1) none = pkH (vt T) P true (h + 1) k (pkP (vt T) h 0 P none) := by
          show (if true = true ∧ (none : pkT).isSome = true then _ else _) = _
          rw [if_neg (by simp)]
        rw [this]
        exact k2
    | some t =>
      obtain ⟨p0, h0, c0⟩ := t
      obtain ⟨q1, q2, q3, q4, q5⟩ := id hs
      refine ⟨M, ?_, ?_, fr6.rf⟩
      · rw [l_X1_pickSoonest_10]
        try simp (disch := (first | omega | (simp (disch := omega) only [ga_st_self, ga_st_id, ga_st_ix] <;> omega) | skip)) only [↓gb_of, ↓gb2_of, ↓gb3_of, ↓gB_eq, ↓gg_pos, ↓if_pos, ↓if_neg, ↓b_wi1, ↓b_wi0, ↓b_has1, ↓b_has0, ↓b_in1, ↓b_in0, ↓b_pl1, ↓b_pl0, ↓b_jm1, ↓b_jm0, ↓b_jc1, ↓b_jc0, ↓b_size, ↓b_get, ↓b_ref, ↓b_den, ↓b_gra, ↓b_don]
      · have : pkH (vt T) P true h (k + 1) (some (p0, h0, c0)) = some (p0, h0, c0) := by
          show (if true = true ∧ (some (p0, h0, c0) : pkT).isSome = true then _ else _) = _
          rw [if_pos (by simp)]
        rw [this]
        exact hs
theorem p_pickC {M : gaM} {P a k : Nat} {last : Int} {T : Nat → Nat → Int} (hG : 5000 ≤ G) (hP : P ≤ 4) (hl : -400 ≤ last ∧ last < 300) (ha : a ≤ 300) (hk : (a : Int) + k = last + 1 ∨ (k = 0 ∧ last < (a : Int))) (h61 : M 6 1 = (P : Int)) (h62 : M 6 2 = (a : Int)) (h63 : M 6 3 = last) (ht : ∀ q x, q < P → a ≤ x → (x : Int) ≤ last → M (61 + q) x = T q x ∧ -1 ≤ T q x ∧ T q x ≤ 30000) : ∃ M', f_X1_pickCheapest G n M = some M' ∧ Rc (pkH (vt T) P false a k none) M' ∧ fr6 M M' := by
  obtain ⟨M', m1, m2, m3⟩ := p_pickC_l (n := n) (G := G) (T := T) hG hP hl k a G (ga_st M 6 6 (-1)) none hk (by omega) (by omega) (by rw [ga_st_ix (by omega)]; exact h61) (by rw [ga_st_ix (by omega)]; exact h63) (fun q x q1 q2 q3 => by rw [ga_st_id (by omega)]; exact ht q x q1 q2 q3) (by show ga_st M 6 6 (-1) 6 6 = -1; rw [ga_st_self])
  refine ⟨M', ?_, m2, ?_⟩
  · unfold f_X1_pickCheapest
    rw [gB_eq, ga_st_ix (by omega), h62]
    exact gb_eq m1
  · exact fr6.tr ⟨fun x q => ga_st_row _ q, fun b _ _ q3 => ga_st_ix q3⟩ m3
theorem p_pickSo {M : gaM} {P a k : Nat} {last : Int} {T : Nat → Nat → Int} (hG : 5000 ≤ G) (hP : P ≤ 4) (hl : -400 ≤ last ∧ last < 300) (ha : a ≤ 300) (hk : (a : Int) + k = last + 1 ∨ (k = 0 ∧ last < (a : Int))) (h61 : M 6 1 = (P : Int)) (h62 : M 6 2 = (a : Int)) (h63 : M 6 3 = last) (ht : ∀ q x, q < P → a ≤ x → (x : Int) ≤ last → M (61 + q) x = T q x ∧ -1 ≤ T q x ∧ T q x ≤ 30000) : ∃ M', f_X1_pickSoonest G n M = some M' ∧ Rc (pkH (vt T) P true a k none) M' ∧ fr6 M M' := by
  obtain ⟨M', m1, m2, m3⟩ := p_pickS_l (n := n) (G := G) (T := T) hG hP hl k a G (ga_st M 6 6 (-1)) none hk (by omega) (by omega) (by rw [ga_st_ix (by omega)]; exact h61) (by rw [ga_st_ix (by omega)]; exact h63) (fun q x q1 q2 q3 => by rw [ga_st_id (by omega)]; exact ht q x q1 q2 q3) (by show ga_st M 6 6 (-1) 6 6 = -1; rw [ga_st_self])
  refine ⟨M', ?_, m2, ?_⟩
  · unfold f_X1_pickSoonest
    rw [gB_eq, ga_st_ix (by omega), h62]
    exact gb_eq m1
  · exact fr6.tr ⟨fun x q => ga_st_row _ q, fun b _ _ q3 => ga_st_ix q3⟩ m3
end K1

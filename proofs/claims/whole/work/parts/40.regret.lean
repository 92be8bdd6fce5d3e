/-! ===== pure: regret, worst ===== -/
theorem pkS_keep {v : Nat → Nat → Option Int} {h p : Nat} {s : pkT} (hs : s.isSome = true ∨ (v p h).isSome = true) : (pkS v h p s).isSome = true := by
  unfold pkS
  cases hv : v p h with
  | none =>
    rw [hv] at hs
    rcases hs with q | q
    · exact q
    · cases q
  | some c =>
    cases s with
    | none => rfl
    | some t =>
      obtain ⟨a, b, c0⟩ := t
      by_cases q : c < c0
      · simp only [if_pos q]; rfl
      · simp only [if_neg q]; rfl
theorem pkP_keep {v : Nat → Nat → Option Int} {h : Nat} : ∀ (k p : Nat) (s : pkT), s.isSome = true → (pkP v h p k s).isSome = true
  | 0, _, _, hs => hs
  | k + 1, p, s, hs => pkP_keep k (p + 1) _ (pkS_keep (Or.inl hs))
theorem pkH_keep {v : Nat → Nat → Option Int} {P : Nat} {soon : Bool} : ∀ (k h : Nat) (s : pkT), s.isSome = true → (pkH v P soon h k s).isSome = true
  | 0, _, _, hs => hs
  | k + 1, h, s, hs => by
    show (if soon = true ∧ s.isSome = true then s else pkH v P soon (h + 1) k (pkP v h 0 P s)).isSome = true
    by_cases q : soon = true ∧ s.isSome = true
    · rw [if_pos q]; exact hs
    · rw [if_neg q]; exact pkH_keep k (h + 1) _ (pkP_keep P 0 s hs)
section R1
variable {n G : Nat}
def rk (M : gaM) (j : Nat) : Nat := (min (M 113 j) (M 100 4) - M 111 j - M 112 j + 1).toNat
def rpk (M : gaM) (j : Nat) : pkT := pkH (fun p h => some (cst M j p h)) (M 100 2).toNat false (M 112 j).toNat (rk M j) none
def pkc (s : pkT) : Int := match s with
  | none => 0
  | some (_, _, c) => c
def rgv (M : gaM) (j : Nat) : Int := M 118 j - pkc (rpk M j)
theorem cst_of {M M' : gaM} {j : Nat} (hr : ∀ a, rel a → M' a = M a) : cst M' j = cst M j := by
  funext p h
  unfold cst
  rw [hr 114 (by unfold rel; omega), hr 107 (by unfold rel; omega), hr 110 (by unfold rel; omega), hr 108 (by unfold rel; omega), hr 111 (by unfold rel; omega)]
theorem rgv_of {M M' : gaM} {j : Nat} (hr : ∀ a, rel a → M' a = M a) (h2 : M' 100 2 = M 100 2) (h4 : M' 100 4 = M 100 4) : rgv M' j = rgv M j := by
  unfold rgv rpk rk
  rw [cst_of hr, h2, h4, hr 118 (by unfold rel; omega), hr 112 (by unfold rel; omega), hr 111 (by unfold rel; omega), hr 113 (by unfold rel; omega)]
theorem rpk_some {M : gaM} {j : Nat} (h : Inv n M) (hj : j < n) (hd : M 115 j = 2) : ∃ p x c, rpk M j = some (p, x, c) ∧ 0 ≤ c ∧ c ≤ 30000 := by
  have hJ := h.2.2.2.1 j hj
  obtain ⟨-, ⟨u1, u2, u3, u4, u5, u6, u7, u8, u9, u10, u11⟩, ⟨w1, w2, w3, w4, w5, w6, w7, w8⟩⟩ := hJ
  have w3' := w3 (Or.inr hd)
  have w5' := w5 hd
  have hs : (rpk M j).isSome = true := by
    unfold rpk
    obtain ⟨P1, hP⟩ : ∃ P1, (M 100 2).toNat = P1 + 1 := ⟨(M 100 2).toNat - 1, by omega⟩
    obtain ⟨k1, hk⟩ : ∃ k1, rk M j = k1 + 1 := ⟨rk M j - 1, by unfold rk; omega⟩
    rw [hP, hk]
    show (if false = true ∧ (none : pkT).isSome = true then (none : pkT) else pkH (fun p h => some (cst M j p h)) (P1 + 1) false ((M 112 j).toNat + 1) k1 (pkP (fun p h => some (cst M j p h)) (M 112 j).toNat 0 (P1 + 1) none)).isSome = true
    rw [if_neg (by simp)]
    refine pkH_keep _ _ _ ?_
    exact pkP_keep P1 1 _ (pkS_keep (Or.inr rfl))
  obtain ⟨t, ht⟩ := Option.isSome_iff_exists.mp hs
  obtain ⟨p, x, c⟩ := t
  refine ⟨p, x, c, ht, ?_⟩
  have ha := pkH_all (v := fun p h => some (cst M j p h)) (Q := fun _ _ c => 0 ≤ c ∧ c ≤ 30000) (P := (M 100 2).toNat) (soon := false) (rk M j) (M 112 j).toNat none (fun p x c hp hx hx2 e => by
    have e' : cst M j p x = c := Option.some.inj e
    have hb := cst_bd (j := j) (p := p) (h := x) h hj (by have := h.1.2.2.1; omega) (by unfold rk at hx2; omega)
    omega) (fun a b c e => by cases e)
  exact ha p x c ht
theorem p_rgC {M : gaM} {j : Nat} (hG : 5000 ≤ G) (h : Inv n M) (hj : j < n) (hd : M 115 j = 2) : ∃ Mc, f_X5_regretOf G n M (200 + j) = some (rgv M j, Mc) ∧ ∀ x, x ≠ 6 → (x < 61 ∨ 64 < x) → Mc x = M x := by
  have hJ := h.2.2.2.1 j hj
  obtain ⟨⟨g0, g1, g2, g3, g4, g5, g6, g7, g8, g9⟩, ⟨u1, u2, u3, u4, u5, u6, u7, u8, u9, u10, u11⟩, ⟨w1, w2, w3, w4, w5, w6, w7, w8⟩⟩ := hJ
  have w3' := w3 (Or.inr hd)
  have w5' := w5 hd
  have h' := h
  obtain ⟨a1, a2, a3, a4, a5, a6, a7, a8, a9, a10, a11, a12, a13, a14, a15⟩ := h.1
  obtain ⟨P, hP⟩ : ∃ P : Nat, M 100 2 = (P : Int) := ⟨(M 100 2).toNat, by omega⟩
  obtain ⟨a, ha⟩ : ∃ a : Nat, M 112 j = (a : Int) := ⟨(M 112 j).toNat, by omega⟩
  obtain ⟨len, hlen⟩ : ∃ l : Nat, M 111 j = (l : Int) := ⟨(M 111 j).toNat, by omega⟩
  obtain ⟨e, he⟩ : ∃ e : Nat, min (M 113 j) (M 100 4) = (e : Int) := ⟨(min (M 113 j) (M 100 4)).toNat, by omega⟩
  obtain ⟨M4, m1, m2, m3, m4, m5, m6⟩ := p_fill (n := n) (G := G) (M := M) (w := 200 + j) (a := a) (e := e) (len := len) (P := P) (v5 := 1) hG (Or.inr rfl) (by omega) (by omega) (by omega) (by omega) (by omega) (by omega) (by rw [g2]; exact hlen) (by rw [g1]; omega) (by omega) (fun q => by omega)
  have hT : ∀ q x, q < P → a ≤ x → (x : Int) ≤ (e : Int) - (len : Int) → M4 (61 + q) x = cst M j q x ∧ 0 ≤ cst M j q x ∧ cst M j q x ≤ 21789 := by
    intro q x q1 q2 q3
    refine ⟨?_, cst_bd h hj (by omega) (by omega)⟩
    rw [m6 q x q1 q2 (by omega), ← cst_eq h hj (by omega) (by omega)]
    unfold vl
    rw [if_pos (fun i _ => Or.inl rfl), g2, hlen, Int.toNat_natCast]
  obtain ⟨M5, k1, k2, k3⟩ := p_pickC (n := n) (G := G) (M := M4) (P := P) (a := a) (k := rk M j) (last := (e : Int) - (len : Int)) (T := cst M j) hG (by omega) (by omega) (by omega) (by unfold rk; omega) m2 m3 m4 (fun q x q1 q2 q3 => by have := hT q x q1 q2 q3; exact ⟨this.1, by omega, by omega⟩)
  have hc : pkH (vt (cst M j)) P false a (rk M j) none = rpk M j := by
    unfold rpk
    rw [hP, ha, Int.toNat_natCast, Int.toNat_natCast]
    refine pkH_congr _ _ _ (fun p x q1 q2 q3 => ?_)
    have := hT p x q1 q2 (by unfold rk at q3; omega)
    unfold vt
    rw [if_neg (by omega)]
  rw [hc] at k2
  obtain ⟨p, x, c, e1, e2, e3⟩ := rpk_some h hj hd
  rw [e1] at k2
  obtain ⟨z1, z2, z3, -⟩ := k2
  refine ⟨M5, ?_, fun y y1 y2 => ?_⟩
  · unfold f_X5_regretOf
    simp only [g4, g3, a7, he, ha]
    rw [gg_pos (show ok (M 113 j) from ⟨by omega, by omega⟩), gg_pos (show ok (M 100 4) from ⟨by omega, by omega⟩), gb_eq m1, gb_eq k1, z3, k3.1 _ (by omega), m5 _ (by omega) (by omega), g9]
    unfold rgv
    rw [e1]
    rfl
  · rw [k3.1 _ y1, m5 _ y1 y2]
-- the reference: the least of the COSTS
def Rx (s : pkT) (x : Int) : Prop := match s with
  | none => x = 2147483647
  | some (_, _, c) => x = c ∧ 0 ≤ c ∧ c ≤ 30000
theorem Rx.ok {s : pkT} {x : Int} (h : Rx s x) : ok x := by
  cases s with
  | none => exact ⟨by rw [show x = _ from h]; omega, by rw [show x = _ from h]; omega⟩
  | some t =>
    obtain ⟨p, y, c⟩ := t
    obtain ⟨q1, q2, q3⟩ := h
    exact ⟨by omega, by omega⟩
theorem Rx.step {s : pkT} {x : Int} {v : Nat → Nat → Option Int} {p h : Nat} {c : Int} (hs : Rx s x) (hv : v p h = some c) (hc : 0 ≤ c ∧ c ≤ 30000) : Rx (pkS v h p s) (min x c) := by
  unfold pkS
  rw [hv]
  cases s with
  | none =>
    have hs : x = 2147483647 := hs
    show min x c = c ∧ 0 ≤ c ∧ c ≤ 30000
    omega
  | some t =>
    obtain ⟨a, b, c0⟩ := t
    obtain ⟨q1, q2, q3⟩ := hs
    by_cases q : c < c0
    · simp only [if_pos q]
      show min x c = c ∧ 0 ≤ c ∧ c ≤ 30000
      omega
    · simp only [if_neg q]
      show min x c = c0 ∧ 0 ≤ c0 ∧ c0 ≤ 30000
      omega
theorem p_rgM_p {M : gaM} {j h P : Nat} (hG : 5000 ≤ G) (hI : Inv n M) (hj : j < n) (hh : (h : Int) + M 111 j ≤ 300) (hP : M 100 2 = (P : Int)) : ∀ (k p F : Nat) (s : pkT) (x : Int), p + k = P → k < F → Rx s x → ∃ y, l_X6_regretOf_45 G n M F (j : Int) x (h : Int) (p : Int) = some y ∧ Rx (pkP (fun p h => some (cst M j p h)) h p k s) y := by
  have h4 := hI.1.2.2.1
  intro k
  induction k with
  | zero =>
    intro p F s x hp hF hs
    obtain ⟨F, rfl⟩ : ∃ F1, F = F1 + 1 := ⟨F - 1, by omega⟩
    refine ⟨x, ?_, hs⟩
    rw [l_X6_regretOf_45]
    try simp (disch := (first | omega | (simp (disch := omega) only [ga_st_self, ga_st_id, ga_st_ix] <;> omega) | skip)) only [↓gb_of, ↓gb2_of, ↓gb3_of, ↓gB_eq, ↓gg_pos, ↓if_pos, ↓if_neg, ↓b_wi1, ↓b_wi0, ↓b_has1, ↓b_has0, ↓b_in1, ↓b_in0, ↓b_pl1, ↓b_pl0, ↓b_jm1, ↓b_jm0, ↓b_jc1, ↓b_jc0, ↓b_size, ↓b_get, ↓b_ref, ↓b_den, ↓b_gra, ↓b_don]
  | succ k ih =>
    intro p F s x hp hF hs
    obtain ⟨F, rfl⟩ : ∃ F1, F = F1 + 1 := ⟨F - 1, by omega⟩
    have hb := cst_bd (j := j) (p := p) (h := h) hI hj (by omega) hh
    obtain ⟨y, y1, y2⟩ := ih (p + 1) F (pkS (fun p h => some (cst M j p h)) h p s) (min x (cst M j p h)) (by omega) (by omega) (hs.step rfl (by omega))
    refine ⟨y, ?_, y2⟩
    have ho := hs.ok
    rw [l_X6_regretOf_45]
    try simp (disch := (first | omega | (simp (disch := omega) only [ga_st_self, ga_st_id, ga_st_ix] <;> omega) | skip)) only [↓gb_of, ↓gb2_of, ↓gb3_of, ↓gB_eq, ↓gg_pos, ↓if_pos, ↓if_neg, ↓b_wi1, ↓b_wi0, ↓b_has1, ↓b_has0, ↓b_in1, ↓b_in0, ↓b_pl1, ↓b_pl0, ↓b_jm1, ↓b_jm0, ↓b_jc1, ↓b_jc0, ↓b_size, ↓b_get, ↓b_ref, ↓b_den, ↓b_gra, ↓b_don]
    rw [gb_eq (b_costM hG hI hj (by omega) hh), gg_pos (show ok (cst M j p h) from ⟨by omega, by omega⟩), show ((p : Int) + 1) = ((p + 1 : Nat) : Int) from rfl, y1]
theorem p_rgM_h {M : gaM} {j P : Nat} (hG : 5000 ≤ G) (hI : Inv n M) (hj : j < n) (hP : M 100 2 = (P : Int)) : ∀ (k h F : Nat) (s : pkT) (x : Int), (h : Int) + k = min (M 113 j) (M 100 4) - M 111 j + 1 ∨ (k = 0 ∧ min (M 113 j) (M 100 4) - M 111 j < (h : Int)) → h ≤ 400 → k < F → Rx s x → ∃ y, l_X6_regretOf_10 G n M F (j : Int) x (h : Int) = some y ∧ Rx (pkH (fun p h => some (cst M j p h)) P false h k s) y := by
  obtain ⟨-, ⟨u1, u2, u3, u4, u5, u6, u7, u8, u9, u10, u11⟩, -⟩ := hI.2.2.2.1 j hj
  have h4 := hI.1.2.2.1
  have hn := hI.1.2.2.2.2.2.1
  have h44 := hI.1.2.2.2.2.2.2.2
  intro k
  induction k with
  | zero =>
    intro h F s x hk hh hF hs
    obtain ⟨F, rfl⟩ : ∃ F1, F = F1 + 1 := ⟨F - 1, by omega⟩
    refine ⟨x, ?_, hs⟩
    rw [l_X6_regretOf_10]
    try simp only [Int.toNat_natCast, tn300, tn4, Nat.reduceMul, Nat.reduceAdd]
    rw [gg_pos (show ix (j : Int) 40 from ⟨by omega, by omega⟩), gg_pos (show ok (h : Int) from ⟨by omega, by omega⟩), gg_pos (show ok (M 113 j - M 111 j) from ⟨by omega, by omega⟩)]
    by_cases c : (h : Int) ≤ M 113 j - M 111 j
    · rw [if_pos c, gg_pos (show ok ((h : Int) + M 111 j) from ⟨by omega, by omega⟩), gg_pos (show ok (M 100 4) from ⟨by omega, by omega⟩), if_neg (by omega)]
    · rw [if_neg c]
  | succ k ih =>
    intro h F s x hk hh hF hs
    obtain ⟨F, rfl⟩ : ∃ F1, F = F1 + 1 := ⟨F - 1, by omega⟩
    obtain ⟨y0, y1, y2⟩ := p_rgM_p (n := n) (G := G) (M := M) (j := j) (h := h) (P := P) hG hI hj (by omega) hP P 0 G s x (by omega) (by omega) hs
    have y1 : l_X6_regretOf_45 G n M G (j : Int) x (h : Int) 0 = some y0 := y1
    obtain ⟨y, z1, z2⟩ := ih (h + 1) F _ y0 (by omega) (by omega) (by omega) y2
    refine ⟨y, ?_, z2⟩
    rw [l_X6_regretOf_10]
    try simp only [Int.toNat_natCast, tn300, tn4, Nat.reduceMul, Nat.reduceAdd]
    rw [gg_pos (show ix (j : Int) 40 from ⟨by omega, by omega⟩), gg_pos (show ok (h : Int) from ⟨by omega, by omega⟩), gg_pos (show ok (M 113 j - M 111 j) from ⟨by omega, by omega⟩), if_pos (by omega), gg_pos (show ok ((h : Int) + M 111 j) from ⟨by omega, by omega⟩), gg_pos (show ok (M 100 4) from ⟨by omega, by omega⟩), if_pos (by omega), gb_eq y1, show ((h : Int) + 1) = ((h + 1 : Nat) : Int) from rfl, z1]
theorem p_rgM {M : gaM} {j : Nat} (hG : 5000 ≤ G) (h : Inv n M) (hj : j < n) (hd : M 115 j = 2) : f_X6_regretOf G n M (j : Int) = some (rgv M j) := by
  have hJ := h.2.2.2.1 j hj
  obtain ⟨-, ⟨u1, u2, u3, u4, u5, u6, u7, u8, u9, u10, u11⟩, ⟨w1, w2, w3, w4, w5, w6, w7, w8⟩⟩ := hJ
  have w3' := w3 (Or.inr hd)
  have w5' := w5 hd
  obtain ⟨a1, a2, a3, a4, a5, a6, a7, a8, a9, a10, a11, a12, a13, a14, a15⟩ := h.1
  obtain ⟨P, hP⟩ : ∃ P : Nat, M 100 2 = (P : Int) := ⟨(M 100 2).toNat, by omega⟩
  obtain ⟨a, ha⟩ : ∃ a : Nat, M 112 j = (a : Int) := ⟨(M 112 j).toNat, by omega⟩
  obtain ⟨y, y1, y2⟩ := p_rgM_h (n := n) (G := G) (M := M) (j := j) (P := P) hG h hj hP (rk M j) a G none 2147483647 (by unfold rk; omega) (by omega) (by unfold rk; omega) rfl
  have hc : pkH (fun p h => some (cst M j p h)) P false a (rk M j) none = rpk M j := by
    unfold rpk
    rw [hP, ha, Int.toNat_natCast, Int.toNat_natCast]
  rw [hc] at y2
  obtain ⟨p, x, c, e1, e2, e3⟩ := rpk_some h hj hd
  rw [e1] at y2
  obtain ⟨z1, -⟩ := y2
  unfold f_X6_regretOf
  try simp only [Int.toNat_natCast, tn300, tn4, Nat.reduceMul, Nat.reduceAdd]
  rw [gg_pos (show ix (j : Int) 40 from ⟨by omega, by omega⟩), ha, gb_eq y1, z1]
  unfold rgv
  rw [e1]
  rfl
theorem rgv_bd {M : gaM} {j : Nat} (h : Inv n M) (hj : j < n) (hd : M 115 j = 2) : -30000 ≤ rgv M j ∧ rgv M j ≤ 400000 := by
  obtain ⟨-, -, ⟨w1, w2, w3, w4, w5, w6, w7, w8⟩⟩ := h.2.2.2.1 j hj
  have h44 := h.1.2.2.2.2.2.2.2.2.1
  obtain ⟨p, x, c, e1, e2, e3⟩ := rpk_some h hj hd
  unfold rgv
  rw [e1]
  show -30000 ≤ M 118 j - c ∧ M 118 j - c ≤ 400000
  omega
-- a change of scratch rows only
def sq (M M' : gaM) : Prop := ∀ x, x ≠ 6 → (x < 61 ∨ 64 < x) → M' x = M x
theorem sq.inv {M M' : gaM} (h : Inv n M) (hs : sq M M') : Inv n M' := by
  have e0 := hs 0 (by omega) (by omega)
  have e1 := hs 1 (by omega) (by omega)
  have e2 := hs 2 (by omega) (by omega)
  have e4 := hs 4 (by omega) (by omega)
  have e5 := hs 100 (by omega) (by omega)
  refine h.sc ?_ (fun a ha => hs a (by unfold rel at ha; omega) (by unfold rel at ha; omega)) (by rw [e5]) (by rw [e5]) (by rw [e5]) (by rw [e4])
  have := h.1
  unfold iA at *
  rw [e0, e1, e2, e5]
  exact this
theorem sq.rg {M M' : gaM} {j : Nat} (hs : sq M M') : rgv M' j = rgv M j := by
  have e5 := hs 100 (by omega) (by omega)
  exact rgv_of (fun a ha => hs a (by unfold rel at ha; omega) (by unfold rel at ha; omega)) (by rw [e5]) (by rw [e5])
theorem rgv_th {M : gaM} {j : Nat} : rgv (ga_st M 100 0 0) j = rgv M j := rgv_of (fun a ha => by unfold rel at ha; rw [ga_st_row _ (by omega)]) (by rw [ga_st_ix (by omega)]) (by rw [ga_st_ix (by omega)])
theorem e_regret {M : gaM} {v1 : Int} (hG : 5000 ≤ G) (h : Inv n M) (hv1 : ok v1) : ∃ r Mc Mm, f_X5_regret G n M v1 = some (r, Mc) ∧ f_X6_regret G n Mc v1 = some (r, Mm) ∧ Inv n Mm := by
  obtain ⟨a1, a2, a3, a4, a5, a6, a7, a8, a9, a10, a11, a12, a13, a14, a15⟩ := h.1
  by_cases c1 : 0 ≤ v1 ∧ v1 < (n : Int)
  · obtain ⟨j, rfl⟩ : ∃ j : Nat, v1 = (j : Int) := ⟨v1.toNat, by omega⟩
    have hj : j < n := by omega
    obtain ⟨⟨g0, g1, g2, g3, g4, g5, g6, g7, g8, g9⟩, -, -⟩ := h.2.2.2.1 j hj
    have o2 := (h.okJ j hj).2
    by_cases d : M 115 j = 2
    · obtain ⟨Mc, m1, m2⟩ := p_rgC (n := n) (G := G) hG h hj d
      have hs : sq M Mc := m2
      have hi := hs.inv h
      have e115 := hs 115 (by omega) (by omega)
      have e1003 := hs 100 (by omega) (by omega)
      refine ⟨rgv M j, Mc, ga_st Mc 100 0 0, ?_, ?_, hi.th⟩
      · unfold f_X5_regret
        try simp (disch := (first | omega | (simp (disch := omega) only [ga_st_self, ga_st_id, ga_st_ix] <;> omega) | skip)) only [↓gb_of, ↓gb2_of, ↓gb3_of, ↓gB_eq, ↓gg_pos, ↓if_pos, ↓if_neg, ↓b_wi1, ↓b_wi0, ↓b_has1, ↓b_has0, ↓b_in1, ↓b_in0, ↓b_pl1, ↓b_pl0, ↓b_jm1, ↓b_jm0, ↓b_jc1, ↓b_jc0, ↓b_size, ↓b_get, ↓b_ref, ↓b_den, ↓b_gra, ↓b_don]
        try simp only [Int.toNat_natCast, tn300, tn4, Nat.reduceMul, Nat.reduceAdd]
        simp only [g6]
        try simp (disch := (first | omega | (simp (disch := omega) only [ga_st_self, ga_st_id, ga_st_ix] <;> omega) | skip)) only [↓gb_of, ↓gb2_of, ↓gb3_of, ↓gB_eq, ↓gg_pos, ↓if_pos, ↓if_neg, ↓b_wi1, ↓b_wi0, ↓b_has1, ↓b_has0, ↓b_in1, ↓b_in0, ↓b_pl1, ↓b_pl0, ↓b_jm1, ↓b_jm0, ↓b_jc1, ↓b_jc0, ↓b_size, ↓b_get, ↓b_ref, ↓b_den, ↓b_gra, ↓b_don]
        try simp only [Int.toNat_natCast, tn300, tn4, Nat.reduceMul, Nat.reduceAdd]
        rw [m1]
        rfl
      · have hr := p_rgM (n := n) (G := G) (M := ga_st Mc 100 0 0) (j := j) hG hi.th hj (by rw [ga_st_row _ (by decide), e115]; exact d)
        rw [rgv_th, hs.rg] at hr
        unfold f_X6_regret
        rw [gB_eq, b_jm1 (by rw [ga_st_ix (by decide), e1003]; omega) ⟨by omega, by omega⟩ (by rw [ga_st_ix (by decide), e1003]; exact ⟨by omega, by omega⟩)]
        try simp only [Int.toNat_natCast, tn300, tn4, Nat.reduceMul, Nat.reduceAdd]
        simp only [ga_st_row _ (show 115 ≠ 100 by decide), e115]
        rw [gg_pos (by decide), if_neg (by decide), gg_pos ⟨by omega, by omega⟩, gg_pos o2, if_pos d, gb_eq hr]
    · refine ⟨-1, M, ga_st M 100 0 0, ?_, ?_, h.th⟩
      · unfold f_X5_regret
        try simp (disch := (first | omega | (simp (disch := omega) only [ga_st_self, ga_st_id, ga_st_ix] <;> omega) | skip)) only [↓gb_of, ↓gb2_of, ↓gb3_of, ↓gB_eq, ↓gg_pos, ↓if_pos, ↓if_neg, ↓b_wi1, ↓b_wi0, ↓b_has1, ↓b_has0, ↓b_in1, ↓b_in0, ↓b_pl1, ↓b_pl0, ↓b_jm1, ↓b_jm0, ↓b_jc1, ↓b_jc0, ↓b_size, ↓b_get, ↓b_ref, ↓b_den, ↓b_gra, ↓b_don]
        try simp only [Int.toNat_natCast, tn300, tn4, Nat.reduceMul, Nat.reduceAdd]
        simp only [g6]
        try simp (disch := (first | omega | (simp (disch := omega) only [ga_st_self, ga_st_id, ga_st_ix] <;> omega) | skip)) only [↓gb_of, ↓gb2_of, ↓gb3_of, ↓gB_eq, ↓gg_pos, ↓if_pos, ↓if_neg, ↓b_wi1, ↓b_wi0, ↓b_has1, ↓b_has0, ↓b_in1, ↓b_in0, ↓b_pl1, ↓b_pl0, ↓b_jm1, ↓b_jm0, ↓b_jc1, ↓b_jc0, ↓b_size, ↓b_get, ↓b_ref, ↓b_den, ↓b_gra, ↓b_don]
      · unfold f_X6_regret
        rw [gB_eq, b_jm1 (by rw [ga_st_ix (by decide)]; omega) ⟨by omega, by omega⟩ (by rw [ga_st_ix (by decide)]; exact ⟨by omega, by omega⟩)]
        try simp only [Int.toNat_natCast, tn300, tn4, Nat.reduceMul, Nat.reduceAdd]
        simp only [ga_st_row _ (show 115 ≠ 100 by decide)]
        rw [gg_pos (by decide), if_neg (by decide), gg_pos ⟨by omega, by omega⟩, gg_pos o2, if_neg d]
  · refine ⟨-1, M, ga_st M 100 0 0, ?_, ?_, h.th⟩
    · unfold f_X5_regret
      try simp (disch := (first | omega | (simp (disch := omega) only [ga_st_self, ga_st_id, ga_st_ix] <;> omega) | skip)) only [↓gb_of, ↓gb2_of, ↓gb3_of, ↓gB_eq, ↓gg_pos, ↓if_pos, ↓if_neg, ↓b_wi1, ↓b_wi0, ↓b_has1, ↓b_has0, ↓b_in1, ↓b_in0, ↓b_pl1, ↓b_pl0, ↓b_jm1, ↓b_jm0, ↓b_jc1, ↓b_jc0, ↓b_size, ↓b_get, ↓b_ref, ↓b_den, ↓b_gra, ↓b_don]
    · unfold f_X6_regret
      try simp (disch := (first | omega | (simp (disch := omega) only [ga_st_self, ga_st_id, ga_st_ix] <;> omega) | skip)) only [↓gb_of, ↓gb2_of, ↓gb3_of, ↓gB_eq, ↓gg_pos, ↓if_pos, ↓if_neg, ↓b_wi1, ↓b_wi0, ↓b_has1, ↓b_has0, ↓b_in1, ↓b_in0, ↓b_pl1, ↓b_pl0, ↓b_jm1, ↓b_jm0, ↓b_jc1, ↓b_jc0, ↓b_size, ↓b_get, ↓b_ref, ↓b_den, ↓b_gra, ↓b_don]
-- worst: which JOB it is so far
def wS (M : gaM) : Nat → Option Nat
  | 0 => none
  | j + 1 => if M 115 j = 2 then (match wS M j with
    | none => some j
    | some i => if rgv M i < rgv M j then some j else some i) else wS M j
theorem wS_lt {M : gaM} : ∀ (j i : Nat), wS M j = some i → i < j ∧ M 115 i = 2
  | 0, i, h => by cases h
  | j + 1, i, h => by
    have h' : (if M 115 j = 2 then (match wS M j with
      | none => some j
      | some i => if rgv M i < rgv M j then some j else some i) else wS M j) = some i := h
    by_cases c : M 115 j = 2
    · rw [if_pos c] at h'
      cases hw : wS M j with
      | none =>
        rw [hw] at h'
        have := Option.some.inj h'
        exact ⟨by omega, by rw [← this]; exact c⟩
      | some i0 =>
        rw [hw] at h'
        have ih := wS_lt j i0 hw
        by_cases d : rgv M i0 < rgv M j
        · simp only [if_pos d] at h'
          have := Option.some.inj h'
          exact ⟨by omega, by rw [← this]; exact c⟩
        · simp only [if_neg d] at h'
          have := Option.some.inj h'
          rw [← this]
          exact ⟨by omega, ih.2⟩
    · rw [if_neg c] at h'
      have ih := wS_lt j i h'
      exact ⟨by omega, ih.2⟩
def wv (s : Option Nat) : Int := match s with
  | none => -2
  | some i => (i : Int)
def ww (M : gaM) (s : Option Nat) : Int := match s with
  | none => 0
  | some i => rgv M i
theorem p_wC {M0 : gaM} (hG : 5000 ≤ G) (h0 : Inv n M0) : ∀ (k j F : Nat) (M : gaM), sq M0 M → j + k = n → k < F → ∃ M', l_X5_worst_7 G n F M (wv (wS M0 j)) (ww M0 (wS M0 j)) (j : Int) = some (M', wv (wS M0 n)) ∧ sq M0 M' := by
  intro k
  induction k with
  | zero =>
    intro j F M hs hj hF
    obtain ⟨F, rfl⟩ : ∃ F1, F = F1 + 1 := ⟨F - 1, by omega⟩
    have h := hs.inv h0
    obtain ⟨a1, a2, a3, a4, a5, a6, a7, a8, a9, a10, a11, a12, a13, a14, a15⟩ := h.1
    have hjn : j = n := by omega
    subst hjn
    refine ⟨M, ?_, hs⟩
    rw [l_X5_worst_7]
    try simp (disch := (first | omega | (simp (disch := omega) only [ga_st_self, ga_st_id, ga_st_ix] <;> omega) | skip)) only [↓gb_of, ↓gb2_of, ↓gb3_of, ↓gB_eq, ↓gg_pos, ↓if_pos, ↓if_neg, ↓b_wi1, ↓b_wi0, ↓b_has1, ↓b_has0, ↓b_in1, ↓b_in0, ↓b_pl1, ↓b_pl0, ↓b_jm1, ↓b_jm0, ↓b_jc1, ↓b_jc0, ↓b_size, ↓b_get, ↓b_ref, ↓b_den, ↓b_gra, ↓b_don]
  | succ k ih =>
    intro j F M hs hj hF
    obtain ⟨F, rfl⟩ : ∃ F1, F = F1 + 1 := ⟨F - 1, by omega⟩
    have h := hs.inv h0
    obtain ⟨a1, a2, a3, a4, a5, a6, a7, a8, a9, a10, a11, a12, a13, a14, a15⟩ := h.1
    have hjn : j < n := by omega
    obtain ⟨⟨g0, g1, g2, g3, g4, g5, g6, g7, g8, g9⟩, -, -⟩ := h.2.2.2.1 j hjn
    have o2 := (h.okJ j hjn).2
    have e115 := hs 115 (by omega) (by omega)
    rw [l_X5_worst_7]
    try simp (disch := (first | omega | (simp (disch := omega) only [ga_st_self, ga_st_id, ga_st_ix] <;> omega) | skip)) only [↓gb_of, ↓gb2_of, ↓gb3_of, ↓gB_eq, ↓gg_pos, ↓if_pos, ↓if_neg, ↓b_wi1, ↓b_wi0, ↓b_has1, ↓b_has0, ↓b_in1, ↓b_in0, ↓b_pl1, ↓b_pl0, ↓b_jm1, ↓b_jm0, ↓b_jc1, ↓b_jc0, ↓b_size, ↓b_get, ↓b_ref, ↓b_den, ↓b_gra, ↓b_don]
    try simp only [Int.toNat_natCast, tn300, tn4, Nat.reduceMul, Nat.reduceAdd]
    simp only [g6]
    by_cases d : M 115 j = 2
    · obtain ⟨Mc, m1, m2⟩ := p_rgC (n := n) (G := G) hG h hjn d
      have hs' : sq M0 Mc := fun x x1 x2 => (m2 x x1 x2).trans (hs x x1 x2)
      rw [hs.rg] at m1
      have d0 : M0 115 j = 2 := by rw [← e115]; exact d
      obtain ⟨M', k1, k2⟩ := ih (j + 1) F Mc hs' (by omega) (by omega)
      refine ⟨M', ?_, k2⟩
      have bj := rgv_bd h0 hjn d0
      have hstep : wS M0 (j + 1) = (match wS M0 j with
        | none => some j
        | some i => if rgv M0 i < rgv M0 j then some j else some i) := by
        show (if M0 115 j = 2 then _ else _) = _
        rw [if_pos d0]
      rw [gg_pos o2, if_pos d]
      try simp only [Int.toNat_natCast, tn300, tn4, Nat.reduceMul, Nat.reduceAdd]
      rw [m1, gb2_of]
      cases hw : wS M0 j with
      | none =>
        rw [hw] at hstep
        rw [hstep] at k1
        rw [gg_pos (show ok (wv none) by decide), if_pos (show wv none = -2 from rfl), gb3_of]
        exact k1
      | some i =>
        have hi := wS_lt j i hw
        have bi := rgv_bd h0 (show i < n by omega) hi.2
        rw [hw] at hstep
        rw [gg_pos (show ok (wv (some i)) from ⟨by show -2147483648 ≤ (i : Int); omega, by show (i : Int) ≤ 2147483647; omega⟩), if_neg (show ¬ wv (some i) = -2 by show ¬ (i : Int) = -2; omega), gg_pos (show ok (rgv M0 j) from ⟨by omega, by omega⟩), gg_pos (show ok (ww M0 (some i)) from ⟨by show -2147483648 ≤ rgv M0 i; omega, by show rgv M0 i ≤ 2147483647; omega⟩)]
        by_cases c : rgv M0 i < rgv M0 j
        · simp only [if_pos c] at hstep
          rw [hstep] at k1
          rw [if_pos (show ww M0 (some i) < rgv M0 j from c), gb3_of]
          exact k1
        · simp only [if_neg c] at hstep
          rw [hstep] at k1
          rw [if_neg (show ¬ ww M0 (some i) < rgv M0 j from c), gb3_of]
          exact k1
    · obtain ⟨M', k1, k2⟩ := ih (j + 1) F M hs (by omega) (by omega)
      refine ⟨M', ?_, k2⟩
      have hstep : wS M0 (j + 1) = wS M0 j := by
        show (if M0 115 j = 2 then _ else _) = _
        rw [if_neg (by rw [← e115]; exact d)]
      rw [hstep] at k1
      rw [gg_pos o2, if_neg d, gb3_of]
      exact k1
theorem p_wM {M : gaM} (hG : 5000 ≤ G) (h : Inv n M) : ∀ (k j F : Nat), j + k = n → k < F → l_X6_worst_10 G n F M (wv (wS M j)) (j : Int) = some (wv (wS M n)) := by
  obtain ⟨a1, a2, a3, a4, a5, a6, a7, a8, a9, a10, a11, a12, a13, a14, a15⟩ := h.1
  intro k
  induction k with
  | zero =>
    intro j F hj hF
    obtain ⟨F, rfl⟩ : ∃ F1, F = F1 + 1 := ⟨F - 1, by omega⟩
    have hjn : j = n := by omega
    subst hjn
    rw [l_X6_worst_10]
    try simp (disch := (first | omega | (simp (disch := omega) only [ga_st_self, ga_st_id, ga_st_ix] <;> omega) | skip)) only [↓gb_of, ↓gb2_of, ↓gb3_of, ↓gB_eq, ↓gg_pos, ↓if_pos, ↓if_neg, ↓b_wi1, ↓b_wi0, ↓b_has1, ↓b_has0, ↓b_in1, ↓b_in0, ↓b_pl1, ↓b_pl0, ↓b_jm1, ↓b_jm0, ↓b_jc1, ↓b_jc0, ↓b_size, ↓b_get, ↓b_ref, ↓b_den, ↓b_gra, ↓b_don]
  | succ k ih =>
    intro j F hj hF
    obtain ⟨F, rfl⟩ : ∃ F1, F = F1 + 1 := ⟨F - 1, by omega⟩
    have hjn : j < n := by omega
    have o2 := (h.okJ j hjn).2
    have k1 := ih (j + 1) F (by omega) (by omega)
    rw [l_X6_worst_10]
    try simp only [Int.toNat_natCast, tn300, tn4, Nat.reduceMul, Nat.reduceAdd]
    rw [gg_pos (show ok (j : Int) from ⟨by omega, by omega⟩), gg_pos (show ok (M 100 3) from ⟨by omega, by omega⟩), if_pos (by omega), gg_pos ⟨by omega, by omega⟩, gg_pos o2]
    by_cases d : M 115 j = 2
    · have bj := rgv_bd h hjn d
      have hstep : wS M (j + 1) = (match wS M j with
        | none => some j
        | some i => if rgv M i < rgv M j then some j else some i) := by
        show (if M 115 j = 2 then _ else _) = _
        rw [if_pos d]
      rw [if_pos d]
      cases hw : wS M j with
      | none =>
        rw [hw] at hstep
        rw [hstep] at k1
        rw [gg_pos (show ok (wv none) by decide), if_pos (show wv none = -2 from rfl), gb_of]
        exact k1
      | some i =>
        have hi := wS_lt j i hw
        have bi := rgv_bd h (show i < n by omega) hi.2
        rw [hw] at hstep
        rw [gg_pos (show ok (wv (some i)) from ⟨by show -2147483648 ≤ (i : Int); omega, by show (i : Int) ≤ 2147483647; omega⟩), if_neg (show ¬ wv (some i) = -2 by show ¬ (i : Int) = -2; omega), gb_eq (p_rgM hG h hjn d), show wv (some i) = (i : Int) from rfl, gb_eq (p_rgM hG h (show i < n by omega) hi.2), gg_pos (show ok (rgv M j) from ⟨by omega, by omega⟩), gg_pos (show ok (rgv M i) from ⟨by omega, by omega⟩)]
        by_cases c : rgv M i < rgv M j
        · simp only [if_pos c] at hstep
          rw [hstep] at k1
          rw [if_pos c, gb_of]
          exact k1
        · simp only [if_neg c] at hstep
          rw [hstep] at k1
          rw [if_neg c, gb_of]
          exact k1
    · have hstep : wS M (j + 1) = wS M j := by
        show (if M 115 j = 2 then _ else _) = _
        rw [if_neg d]
      rw [hstep] at k1
      rw [if_neg d, gb_of]
      exact k1
theorem wS_of {M M' : gaM} (h1 : M' 115 = M 115) (h2 : ∀ j, rgv M' j = rgv M j) : ∀ j, wS M' j = wS M j
  | 0 => rfl
  | j + 1 => by
    show (if M' 115 j = 2 then (match wS M' j with
      | none => some j
      | some i => if rgv M' i < rgv M' j then some j else some i) else wS M' j) = (if M 115 j = 2 then (match wS M j with
      | none => some j
      | some i => if rgv M i < rgv M j then some j else some i) else wS M j)
    rw [wS_of h1 h2 j, h1]
    simp only [h2]
theorem e_worst {M : gaM} (hG : 5000 ≤ G) (h : Inv n M) : ∃ r Mc Mm, f_X5_worst G n M = some (r, Mc) ∧ f_X6_worst G n Mc = some (r, Mm) ∧ Inv n Mm := by
  have hn := h.1.2.2.2.2.2.1
  obtain ⟨Mc, m1, m2⟩ := p_wC (n := n) (G := G) hG h n 0 G M (fun _ _ _ => rfl) (by omega) (by omega)
  have hi := (m2.inv h).th
  have k1 := p_wM (n := n) (G := G) hG hi n 0 G (by omega) (by omega)
  rw [wS_of (M := M) (by rw [ga_st_row _ (by decide)]; exact m2 115 (by omega) (by omega)) (fun j => by rw [rgv_th, m2.rg]) n] at k1
  refine ⟨wv (wS M n), Mc, ga_st Mc 100 0 0, ?_, ?_, hi⟩
  · unfold f_X5_worst
    have m1' : l_X5_worst_7 G n G M (-2) 0 0 = some (Mc, wv (wS M n)) := m1
    rw [m1']
    rfl
  · unfold f_X6_worst
    have k1' : l_X6_worst_10 G n G (ga_st Mc 100 0 0) (-2) 0 = some (wv (wS M n)) := k1
    rw [gB_eq, gb_eq k1']
end R1

/-! ===== pure: the whole plan, the reference's side; lay ===== -/
section Q1
variable {n G : Nat}
theorem cst_stm {N B : gaM} {j : Nat} (hB : stm N B) : cst B j = cst N j := by
  funext p h
  unfold cst
  rw [hB.1 114 (by omega) (by omega), hB.1 107 (by omega) (by omega), hB.1 110 (by omega) (by omega), hB.1 108 (by omega) (by omega), hB.1 111 (by omega) (by omega)]
theorem b_cM {N B : gaM} {j p h : Nat} (hG : 5000 ≤ G) (hI : Inv n N) (hB : stm N B) (hj : j < n) (hp : (p : Int) < N 100 2) (hh : (h : Int) + N 111 j ≤ 300) : f_X6_costOf G n B (j : Int) (p : Int) (h : Int) = some (cst N j p h) := by
  obtain ⟨-, ⟨u1, u2, u3, u4, u5, u6, -⟩, -⟩ := hI.2.2.2.1 j hj
  have h4 := hI.1.2.2.1
  have h6 := hI.1.2.2.2.2.2.1
  rw [← cst_stm hB]
  have e111 := hB.1 111 (by omega) (by omega)
  have e110 := hB.1 110 (by omega) (by omega)
  exact p_costM hG (by omega) (by omega) (by rw [e111]; omega) (by rw [e110]; omega)
def Rm (s : pkT) (B : gaM) (j : Nat) : Prop := match s with
  | none => B 120 j = -1 ∧ B 121 j = -1 ∧ B 122 j = -1
  | some (p, h, c) => B 120 j = (p : Int) ∧ B 121 j = (h : Int) ∧ B 122 j = c ∧ 0 ≤ c ∧ c ≤ 30000 ∧ p < 4
def fr3 (j : Nat) (B B' : gaM) : Prop := (∀ a, a < 120 ∨ 122 < a → B' a = B a) ∧ ∀ a i, i ≠ j → B' a i = B a i
theorem fr3.rf {j : Nat} {B : gaM} : fr3 j B B := ⟨fun _ _ => rfl, fun _ _ _ => rfl⟩
theorem fr3.tr {j : Nat} {B B1 B2 : gaM} (h : fr3 j B B1) (h' : fr3 j B1 B2) : fr3 j B B2 := ⟨fun a q => (h'.1 a q).trans (h.1 a q), fun a i q => (h'.2 a i q).trans (h.2 a i q)⟩
theorem fr3.stm {j : Nat} {N B B' : gaM} (h : fr3 j B B') (hB : stm N B) : stm N B' := ⟨fun a h1 h2 => (h.1 a (by omega)).trans (hB.1 a h1 h2), fun b h1 h2 => by rw [h.1 100 (by omega)]; exact hB.2 b h1 h2⟩
theorem fr3_set {j : Nat} {B : gaM} {x y z : Int} : fr3 j B (ga_st (ga_st (ga_st B 120 j x) 121 j y) 122 j z) := by
  refine ⟨fun a q => ?_, fun a i q => ?_⟩
  · rw [ga_st_row _ (by omega), ga_st_row _ (by omega), ga_st_row _ (by omega)]
  · rw [ga_st_ix q, ga_st_ix q, ga_st_ix q]
theorem Rm_set {j : Nat} {B : gaM} {p h : Nat} {c : Int} (h0 : 0 ≤ c) (h1 : c ≤ 30000) (h2 : p < 4) : Rm (some (p, h, c)) (ga_st (ga_st (ga_st B 120 j (p : Int)) 121 j (h : Int)) 122 j c) j := by
  unfold Rm
  simp [ga_st]
  omega
theorem p_lay63 {N : gaM} {U : Nat → Nat → Int} {j h P : Nat} {v2 : Int} (hG : 5000 ≤ G) (hI : Inv n N) (hj : j < n) (hP : N 100 2 = (P : Int)) (hh : (h : Int) + N 111 j ≤ 300) (hU : ∀ p h, 0 ≤ U p h ∧ U p h ≤ 100) : ∀ (k p F : Nat) (B : gaM) (s : pkT), stm N B → (∀ x, x < 1200 → ok (B 119 x)) → (∀ p h, p < 4 → h < 300 → B 119 (300 * p + h) = U p h) → Rm s B j → p + k = P → k < F → ∃ B', l_X6_layOne_63 G n F B (j : Int) v2 (h : Int) (p : Int) = some B' ∧ Rm (pkP (pv N U j) h p k s) B' j ∧ fr3 j B B' := by
  obtain ⟨-, ⟨u1, u2, u3, u4, u5, u6, u7, u8, u9, -⟩, -⟩ := hI.2.2.2.1 j hj
  have h4 := hI.1.2.2.1
  have hn := hI.1.2.2.2.2.2.1
  intro k
  induction k with
  | zero =>
    intro p F B s hB hok hu hs hp hF
    obtain ⟨F, rfl⟩ : ∃ F1, F = F1 + 1 := ⟨F - 1, by omega⟩
    have e2 : B 100 2 = (P : Int) := by rw [hB.2 2 (by omega) (by omega)]; exact hP
    refine ⟨B, ?_, hs, fr3.rf⟩
    rw [l_X6_layOne_63]
    try simp (disch := (first | omega | (simp (disch := omega) only [ga_st_self, ga_st_id, ga_st_ix] <;> omega) | skip)) only [↓gb_of, ↓gb2_of, ↓gb3_of, ↓gB_eq, ↓gg_pos, ↓if_pos, ↓if_neg, ↓b_wi1, ↓b_wi0, ↓b_has1, ↓b_has0, ↓b_in1, ↓b_in0, ↓b_pl1, ↓b_pl0, ↓b_jm1, ↓b_jm0, ↓b_jc1, ↓b_jc0, ↓b_size, ↓b_get, ↓b_ref, ↓b_den, ↓b_gra, ↓b_don]
  | succ k ih =>
    intro p F B s hB hok hu hs hp hF
    obtain ⟨F, rfl⟩ : ∃ F1, F = F1 + 1 := ⟨F - 1, by omega⟩
    have e2 : B 100 2 = (P : Int) := by rw [hB.2 2 (by omega) (by omega)]; exact hP
    have e111 : B 111 j = N 111 j := by rw [hB.1 111 (by omega) (by omega)]
    have e106 : B 106 p = N 106 p := by rw [hB.1 106 (by omega) (by omega)]
    have b106 := hI.2.2.1.2.2.2 p (by omega)
    have hb := cst_bd (j := j) (p := p) (h := h) hI hj (by omega) hh
    have hroom : f_X6_hasRoom G n B (j : Int) (p : Int) (h : Int) = some (if ∀ i, i < (N 111 j).toNat → U p (h + i) < N 106 p then 1 else 0) := by
      rw [p_hasRoom (len := (N 111 j).toNat) hG (by omega) (by omega) (by rw [e111]; omega) (by omega) hok (by rw [e106]; exact ⟨by omega, by omega⟩), e106]
      have : (∀ i, i < (N 111 j).toNat → B 119 (300 * p + h + i) < N 106 p) ↔ (∀ i, i < (N 111 j).toNat → U p (h + i) < N 106 p) := by
        constructor
        · intro q i hi
          rw [← hu p (h + i) (by omega) (by omega), show 300 * p + (h + i) = 300 * p + h + i by omega]
          exact q i hi
        · intro q i hi
          rw [show 300 * p + h + i = 300 * p + (h + i) by omega, hu p (h + i) (by omega) (by omega)]
          exact q i hi
      simp only [this]
    have go : ∀ B1, fr3 j B B1 → Rm (pkS (pv N U j) h p s) B1 j → ∃ B', l_X6_layOne_63 G n F B1 (j : Int) v2 (h : Int) ((p : Int) + 1) = some B' ∧ Rm (pkP (pv N U j) h p (k + 1) s) B' j ∧ fr3 j B B' := by
      intro B1 hf hr
      obtain ⟨B', m1, m2, m3⟩ := ih (p + 1) F B1 (pkS (pv N U j) h p s) (hf.stm hB) (fun x hx => by rw [hf.1 119 (by omega)]; exact hok x hx) (fun q x q1 q2 => by rw [hf.1 119 (by omega)]; exact hu q x q1 q2) hr (by omega) (by omega)
      exact ⟨B', m1, m2, hf.tr m3⟩
    rw [l_X6_layOne_63, gg_pos (show ok (p : Int) from ⟨by omega, by omega⟩), e2, gg_pos (show ok (P : Int) from ⟨by omega, by omega⟩), if_pos (by omega), gb_eq hroom]
    by_cases d : ∀ i, i < (N 111 j).toNat → U p (h + i) < N 106 p
    · have ev : pv N U j p h = some (cst N j p h) := if_pos d
      rw [if_pos d, gg_pos (by decide), if_neg (by decide), gb_eq (b_cM hG hI hB hj (by omega) hh), gg_pos (show ix (j : Int) 40 from ⟨by omega, by omega⟩), Int.toNat_natCast]
      cases s with
      | none =>
        obtain ⟨z1, z2, z3⟩ := id hs
        rw [z1, gg_pos (by decide), if_pos rfl, gB_eq, gB_eq, gB_eq, gb_of]
        refine go _ fr3_set ?_
        have : pkS (pv N U j) h p none = some (p, h, cst N j p h) := by
          unfold pkS
          rw [ev]
        rw [this]
        exact Rm_set (by omega) (by omega) (by omega)
      | some t =>
        obtain ⟨p0, h0, c0⟩ := t
        obtain ⟨z1, z2, z3, z4, z5, z6⟩ := id hs
        have o0 : ok (p0 : Int) := ⟨by omega, by omega⟩
        have hp0 : ¬ (p0 : Int) = -1 := by omega
        · rw [z1, z3, gg_pos o0, if_neg hp0, gg_pos (show ok (cst N j p h) from ⟨by omega, by omega⟩), gg_pos (show ok c0 from ⟨by omega, by omega⟩)]
          by_cases c2 : cst N j p h < c0
          · rw [if_neg (by omega), gB_eq, gB_eq, gB_eq, gb_of]
            refine go _ fr3_set ?_
            have : pkS (pv N U j) h p (some (p0, h0, c0)) = some (p, h, cst N j p h) := by
              unfold pkS
              rw [ev]
              simp only [if_pos c2]
            rw [this]
            exact Rm_set (by omega) (by omega) (by omega)
          · rw [if_pos (by omega), gb_of]
            refine go B fr3.rf ?_
            have : pkS (pv N U j) h p (some (p0, h0, c0)) = some (p0, h0, c0) := by
              unfold pkS
              rw [ev]
              simp only [if_neg c2]
            rw [this]
            exact hs
    · have ev : pv N U j p h = none := if_neg d
      rw [if_neg d, gg_pos (by decide), if_pos rfl, gb_of]
      refine go B fr3.rf ?_
      have : pkS (pv N U j) h p s = s := by
        unfold pkS
        rw [ev]
      rw [this]
      exact hs
theorem Rm.okk {s : pkT} {B : gaM} {j : Nat} (h : Rm s B j) : ok (B 120 j) ∧ (B 120 j = -1 ↔ s.isSome = false) := by
  cases s with
  | none =>
    obtain ⟨z1, -⟩ := h
    rw [z1]
    exact ⟨by decide, ⟨fun _ => rfl, fun _ => rfl⟩⟩
  | some t =>
    obtain ⟨p0, h0, c0⟩ := t
    obtain ⟨z1, z2, z3, z4, z5, z6⟩ := h
    rw [z1]
    exact ⟨⟨by omega, by omega⟩, ⟨fun q => by omega, fun q => by cases q⟩⟩
theorem p_lay26 {N : gaM} {U : Nat → Nat → Int} {j P : Nat} (hG : 5000 ≤ G) (hI : Inv n N) (hj : j < n) (hP : N 100 2 = (P : Int)) (hU : ∀ p h, 0 ≤ U p h ∧ U p h ≤ 100) : ∀ (k h F : Nat) (B : gaM) (s : pkT), stm N B → (∀ x, x < 1200 → ok (B 119 x)) → (∀ p h, p < 4 → h < 300 → B 119 (300 * p + h) = U p h) → Rm s B j → (h : Int) + k = N 113 j - N 111 j + 1 ∨ (k = 0 ∧ N 113 j - N 111 j < (h : Int)) → h ≤ 400 → k < F → ∃ B', l_X6_layOne_26 G n F B (j : Int) (if bh N j then 1 else 0) (h : Int) = some B' ∧ Rm (pkH (pv N U j) P (decide (bh N j)) h k s) B' j ∧ fr3 j B B' := by
  obtain ⟨-, ⟨u1, u2, u3, u4, u5, u6, u7, u8, u9, -⟩, -⟩ := hI.2.2.2.1 j hj
  have h4 := hI.1.2.2.1
  have hn := hI.1.2.2.2.2.2.1
  intro k
  induction k with
  | zero =>
    intro h F B s hB hok hu hs hk hh hF
    obtain ⟨F, rfl⟩ : ∃ F1, F = F1 + 1 := ⟨F - 1, by omega⟩
    have e113 : B 113 j = N 113 j := by rw [hB.1 113 (by omega) (by omega)]
    have e111 : B 111 j = N 111 j := by rw [hB.1 111 (by omega) (by omega)]
    refine ⟨B, ?_, hs, fr3.rf⟩
    rw [l_X6_layOne_26, Int.toNat_natCast, e113, e111, gg_pos (show ix (j : Int) 40 from ⟨by omega, by omega⟩), gg_pos (show ok (h : Int) from ⟨by omega, by omega⟩), gg_pos (show ok (N 113 j - N 111 j) from ⟨by omega, by omega⟩), if_neg (by omega)]
  | succ k ih =>
    intro h F B s hB hok hu hs hk hh hF
    obtain ⟨F, rfl⟩ : ∃ F1, F = F1 + 1 := ⟨F - 1, by omega⟩
    have e113 : B 113 j = N 113 j := by rw [hB.1 113 (by omega) (by omega)]
    have e111 : B 111 j = N 111 j := by rw [hB.1 111 (by omega) (by omega)]
    obtain ⟨o1, o2⟩ := hs.okk
    obtain ⟨B1, m1, m2, m3⟩ := p_lay63 (n := n) (G := G) (N := N) (U := U) (j := j) (h := h) (P := P) (v2 := if bh N j then 1 else 0) hG hI hj hP (by omega) hU P 0 G B s hB hok hu hs (by omega) (by omega)
    have m1 : l_X6_layOne_63 G n G B (j : Int) (if bh N j then 1 else 0) (h : Int) 0 = some B1 := m1
    obtain ⟨B', k1, k2, k3⟩ := ih (h + 1) F B1 _ (m3.stm hB) (fun x hx => by rw [m3.1 119 (by omega)]; exact hok x hx) (fun q x q1 q2 => by rw [m3.1 119 (by omega)]; exact hu q x q1 q2) m2 (by omega) (by omega) (by omega)
    rw [l_X6_layOne_26, Int.toNat_natCast, e113, e111, gg_pos (show ix (j : Int) 40 from ⟨by omega, by omega⟩), gg_pos (show ok (h : Int) from ⟨by omega, by omega⟩), gg_pos (show ok (N 113 j - N 111 j) from ⟨by omega, by omega⟩), if_pos (by omega), gg_pos (show ok (if bh N j then (1 : Int) else 0) by split <;> decide)]
    show ∃ B', _ ∧ Rm (if decide (bh N j) = true ∧ s.isSome = true then s else pkH (pv N U j) P (decide (bh N j)) (h + 1) k (pkP (pv N U j) h 0 P s)) B' j ∧ _
    by_cases b : bh N j
    · simp only [if_pos b] at m1 k1 ⊢
      rw [if_neg (show ¬ (1 : Int) = 0 by decide), gg_pos o1]
      by_cases c : B 120 j = -1
      · rw [if_pos c, gb_eq m1, if_neg (by rw [o2.mp c]; simp)]
        exact ⟨B', k1, k2, m3.tr k3⟩
      · have hs1 : s.isSome = true := by
          cases hq : s.isSome with
          | true => rfl
          | false => exact absurd (o2.mpr hq) c
        rw [if_neg c, if_pos ⟨decide_eq_true b, hs1⟩]
        exact ⟨B, rfl, hs, fr3.rf⟩
    · simp only [if_neg b] at m1 k1 ⊢
      rw [if_pos (by trivial), gb_eq m1, if_neg (by simp [b])]
      exact ⟨B', k1, k2, m3.tr k3⟩
theorem p_layM {N B : gaM} {U : Nat → Nat → Int} {j : Nat} (hG : 5000 ≤ G) (h : Inv n N) (hB : stm N B) (h127 : ∀ y, y < n → B 127 (N 109 y).toNat = if bh N y then 1 else 0) (hj : j < n) (hU : ∀ p h, 0 ≤ U p h ∧ U p h ≤ 100) (hok : ∀ x, x < 1200 → ok (B 119 x)) (hu : ∀ p h, p < 4 → h < 300 → B 119 (300 * p + h) = U p h) (hs : Rm none B j) : ∃ B', f_X6_layOne G n B (j : Int) = some B' ∧ (∀ a, a < 119 ∨ 122 < a → B' a = B a) ∧ (∀ a i, a ≠ 119 → i ≠ j → B' a i = B a i) ∧ Rm (pick N U j) B' j ∧ ∀ p h, p < 4 → h < 300 → B' 119 (300 * p + h) = U p h + ct N (pick N U j) j p h := by
  obtain ⟨-, ⟨u1, u2, u3, u4, u5, u6, u7, u8, u9, -⟩, -⟩ := h.2.2.2.1 j hj
  have hpo := pick_ok (U := U) h hj
  obtain ⟨a1, a2, a3, a4, a5, a6, a7, a8, a9, a10, a11, a12, a13, a14, a15⟩ := h.1
  have e112 : B 112 j = N 112 j := by rw [hB.1 112 (by omega) (by omega)]
  have e109 : B 109 j = N 109 j := by rw [hB.1 109 (by omega) (by omega)]
  have e1004 : B 100 4 = N 100 4 := hB.2 4 (by omega) (by omega)
  obtain ⟨P, hPn⟩ : ∃ P : Nat, N 100 2 = (P : Int) := ⟨(N 100 2).toNat, by omega⟩
  obtain ⟨len, hlen⟩ : ∃ l : Nat, N 111 j = (l : Int) := ⟨(N 111 j).toNat, by omega⟩
  have hpa : max (N 100 4) (N 112 j) = (pa N j : Int) := by unfold pa; omega
  obtain ⟨B1, m1, m2, m3⟩ := p_lay26 (n := n) (G := G) (N := N) (U := U) (j := j) (P := P) hG h hj hPn hU (pkn N j) (pa N j) G B none hB hok hu hs (by unfold pkn; omega) (by omega) (by unfold pkn; omega)
  have hpk : pkH (pv N U j) P (decide (bh N j)) (pa N j) (pkn N j) none = pick N U j := by
    unfold pick
    rw [hPn, Int.toNat_natCast]
  rw [hpk] at m2
  have hgo : ∀ B', (gg (ok (B1 120 j)) <| if (B1 120 j) = (-1) then (some B1) else (gb (f_X6_puts G n B1 (j : Int) (B1 120 j) (B1 121 j) 1) fun M47 => some M47)) = some B' → f_X6_layOne G n B (j : Int) = some B' := by
    intro B' hh
    unfold f_X6_layOne
    rw [Int.toNat_natCast, e109, e112, e1004, h127 j hj, hpa, gg_pos (show ix (j : Int) 40 from ⟨by omega, by omega⟩), gg_pos (show ix (N 109 j) 6 from ⟨by omega, by omega⟩), gg_pos (show ok (N 100 4) from ⟨by omega, by omega⟩), gg_pos (show ok (N 112 j) from ⟨by omega, by omega⟩), gb_eq m1]
    exact hh
  cases hs2 : pick N U j with
  | none =>
    rw [hs2] at m2
    obtain ⟨z1, z2, z3⟩ := id m2
    refine ⟨B1, hgo B1 (by rw [z1, gg_pos (by decide), if_pos rfl]), fun a ha => m3.1 a (by omega), fun a i _ hi => m3.2 a i hi, m2, fun p x q1 q2 => ?_⟩
    rw [m3.1 119 (by omega), hu p x q1 q2]
    show _ = _ + (0 : Int)
    omega
  | some t =>
    obtain ⟨p, x, c⟩ := t
    rw [hs2] at m2
    obtain ⟨z1, z2, z3, z4, z5, z6⟩ := id m2
    obtain ⟨y1, y2, y3, y4, y5, -⟩ := hpo p x c hs2
    have hput := p_puts (n := n) (G := G) (M := B1) (j := j) (p := p) (h := x) (len := len) (d := 1) hG (by omega) z6 (by omega) (by rw [m3.1 111 (by omega), hB.1 111 (by omega) (by omega)]; exact hlen)
    refine ⟨setr B1 119 (adr (B1 119) (300 * p + x) len 1), hgo _ ?_, fun a ha => by rw [setr_ne (by omega)]; exact m3.1 a (by omega), fun a i ha hi => by rw [setr_ne ha]; exact m3.2 a i hi, ?_, fun q y q1 q2 => ?_⟩
    · rw [z1, z2, gg_pos (show ok (p : Int) from ⟨by omega, by omega⟩), if_neg (by omega)]
      exact gb_eq hput
    · show setr _ _ _ 120 j = _ ∧ setr _ _ _ 121 j = _ ∧ setr _ _ _ 122 j = _ ∧ _
      rw [setr_ne (by omega), setr_ne (by omega), setr_ne (by omega)]
      exact ⟨z1, z2, z3, z4, z5, z6⟩
    · show _ = _ + (if q = p ∧ x ≤ y ∧ y < x + (N 111 j).toNat then (1 : Int) else 0)
      rw [setr_self, hlen, Int.toNat_natCast]
      unfold adr
      rw [m3.1 119 (by omega), hu q y q1 q2]
      by_cases d : q = p ∧ x ≤ y ∧ y < x + len
      · rw [if_pos d, if_pos (by omega)]
      · rw [if_neg d, if_neg (by omega)]
        omega
theorem row119 {B : gaM} {U : Nat → Nat → Int} (hU : ∀ p h, 0 ≤ U p h ∧ U p h ≤ 100) (hu : ∀ p h, p < 4 → h < 300 → B 119 (300 * p + h) = U p h) : ∀ x, x < 1200 → ok (B 119 x) := by
  intro x hx
  have := hu (x / 300) (x % 300) (by omega) (by omega)
  have h2 := hU (x / 300) (x % 300)
  rw [show 300 * (x / 300) + x % 300 = x by omega] at this
  exact ⟨by omega, by omega⟩
def mlS (n : Nat) (N : gaM) (k : Nat) (B : gaM) : Prop := stm N B ∧ (∀ y, y < n → B 127 (N 109 y).toNat = if bh N y then 1 else 0) ∧ B 100 28 = ((oS N n).1 : Int) ∧ (∀ i, i < (oS N n).1 → B 123 i = ((oS N n).2 i : Int)) ∧ (∀ p h, p < 4 → h < 300 → B 119 (300 * p + h) = (plS n N (oS N n).2 k).1 p h) ∧ ∀ i, i < n → Rm ((plS n N (oS N n).2 k).2 i) B i
theorem p_ml {N : gaM} {c : Nat} (hG : 5000 ≤ G) (h : Inv n N) (hc : c = (oS N n).1) : ∀ (k i F : Nat) (B : gaM), mlS n N i B → i + k = c → k < F → ∃ B', l_X6_lays_159 G n F B (i : Int) = some B' ∧ mlS n N c B' ∧ ∀ a, a < 119 ∨ 122 < a → B' a = B a := by
  have hok := oS_ok (N := N) n
  have hn := h.1.2.2.2.2.2.1
  have ho1 := hok.1
  intro k
  induction k with
  | zero =>
    intro i F B hB hi hF
    obtain ⟨F, rfl⟩ : ∃ F1, F = F1 + 1 := ⟨F - 1, by omega⟩
    have e : i = c := by omega
    subst e
    have h28 := hB.2.2.1
    refine ⟨B, ?_, hB, fun _ _ => rfl⟩
    rw [l_X6_lays_159, h28]
    try simp (disch := (first | omega | (simp (disch := omega) only [ga_st_self, ga_st_id, ga_st_ix] <;> omega) | skip)) only [↓gb_of, ↓gb2_of, ↓gb3_of, ↓gB_eq, ↓gg_pos, ↓if_pos, ↓if_neg, ↓b_wi1, ↓b_wi0, ↓b_has1, ↓b_has0, ↓b_in1, ↓b_in0, ↓b_pl1, ↓b_pl0, ↓b_jm1, ↓b_jm0, ↓b_jc1, ↓b_jc0, ↓b_size, ↓b_get, ↓b_ref, ↓b_den, ↓b_gra, ↓b_don]
  | succ k ih =>
    intro i F B hB hi hF
    obtain ⟨F, rfl⟩ : ∃ F1, F = F1 + 1 := ⟨F - 1, by omega⟩
    obtain ⟨s1, s2, s3, s4, s5, s6⟩ := hB
    have hLi := hok.2.1 i (by omega)
    have hbd : ∀ p h, 0 ≤ (plS n N (oS N n).2 i).1 p h ∧ (plS n N (oS N n).2 i).1 p h ≤ 100 := fun p h => by
      have := plS_bd (n := n) (N := N) (L := (oS N n).2) (p := p) (h := h) i
      omega
    have hnone : (plS n N (oS N n).2 i).2 ((oS N n).2 i) = none := plS_none i (fun a ha => hok.2.2 a i ha (by omega))
    obtain ⟨B1, m1, m2, m3, m4, m5⟩ := p_layM (n := n) (G := G) (N := N) (B := B) (U := (plS n N (oS N n).2 i).1) (j := (oS N n).2 i) hG h s1 s2 hLi.1 hbd (row119 hbd s5) s5 (by have := s6 _ hLi.1; rw [hnone] at this; exact this)
    have hst : mlS n N (i + 1) B1 := by
      refine ⟨⟨fun a q1 q2 => (m2 a (by omega)).trans (s1.1 a q1 q2), fun b q1 q2 => by rw [m2 100 (by omega)]; exact s1.2 b q1 q2⟩, fun y hy => by rw [m2 127 (by omega)]; exact s2 y hy, by rw [m2 100 (by omega)]; exact s3, fun a ha => by rw [m2 123 (by omega)]; exact s4 a ha, m5, fun a ha => ?_⟩
      show Rm (if a = (oS N n).2 i then _ else _) B1 a
      by_cases d : a = (oS N n).2 i
      · rw [if_pos d, d]
        exact m4
      · rw [if_neg d]
        have := s6 a ha
        unfold Rm at *
        rw [m3 120 a (by omega) d, m3 121 a (by omega) d, m3 122 a (by omega) d]
        exact this
    obtain ⟨B', k1, k2, k3⟩ := ih (i + 1) F B1 hst (by omega) (by omega)
    refine ⟨B', ?_, k2, fun a ha => by rw [k3 a ha, m2 a ha]⟩
    rw [l_X6_lays_159, s3, gg_pos (show ok (i : Int) from ⟨by omega, by omega⟩), gg_pos (show ok ((oS N n).1 : Int) from ⟨by omega, by omega⟩), if_pos (by omega), gg_pos (show ix (i : Int) 40 from ⟨by omega, by omega⟩), Int.toNat_natCast, s4 i (by omega), gb_eq m1]
    exact k1
def frM (B B' : gaM) : Prop := (∀ a, a ≠ 100 → (a < 119 ∨ 123 < a) → a ≠ 127 → B' a = B a) ∧ ∀ b, b ≠ 28 → B' 100 b = B 100 b
theorem p_lays {N B : gaM} (hG : 5000 ≤ G) (h : Inv n N) (hB : stm N B) : ∃ B', f_X6_lays G n B = some B' ∧ frM B B' ∧ ∀ i, i < n → Rm (plF n N i) B' i := by
  have hn := h.1.2.2.2.2.2.1
  have hok := oS_ok (N := N) n
  obtain ⟨row, r1, r2⟩ := p_behM (n := n) (G := G) (N := N) hG h 6 0 G B hB (fun i hi => by omega) (by omega) (by omega)
  have r1 : l_X6_lays_2 G n G B 0 = some (setr B 127 row) := r1
  have hB1 := hB.set (i := 127) (f := row) (by omega)
  have hub : ubd n (setr B 127 row) := by
    obtain ⟨w1, w2, w3⟩ := h.ubd
    refine ⟨by rw [hB1.2 3 (by omega) (by omega)]; exact w1, w2, fun j hj => ?_⟩
    rw [hB1.1 115 (by omega) (by omega), hB1.1 116 (by omega) (by omega), hB1.1 117 (by omega) (by omega), hB1.1 111 (by omega) (by omega)]
    exact w3 j hj
  obtain ⟨u, e1, e2⟩ := p_uses (n := n) (G := G) hG hub
  have hu0 : ∀ p h, p < 4 → h < 300 → u (300 * p + h) = pU0 n N p h := by
    intro p x q1 q2
    rw [e2 p x q1 q2]
    unfold pU0
    refine sm_congr (fun i _ => ?_)
    unfold oc
    rw [hB1.1 115 (by omega) (by omega), hB1.1 116 (by omega) (by omega), hB1.1 117 (by omega) (by omega), hB1.1 111 (by omega) (by omega)]
  obtain ⟨B2, hB2⟩ : ∃ B2, B2 = ga_st (setr (setr B 127 row) 119 u) 100 28 0 := ⟨_, rfl⟩
  have s2 : stm N B2 := by
    have := hB1.set (i := 119) (f := u) (by omega)
    rw [hB2]
    exact ⟨fun a q1 q2 => by rw [ga_st_row _ (by omega)]; exact this.1 a q1 q2, fun b q1 q2 => by rw [ga_st_ix (by omega)]; exact this.2 b q1 q2⟩
  have h127 : ∀ y, y < n → B2 127 (N 109 y).toNat = if bh N y then 1 else 0 := by
    intro y hy
    obtain ⟨-, ⟨u1, u2, -⟩, -⟩ := h.2.2.2.1 y hy
    rw [hB2, ga_st_id (by omega), setr_ne (by omega), setr_self, r2 _ (by omega)]
  obtain ⟨B3, k1, k2, k3, k4, k5⟩ := p_ordM (n := n) (G := G) (N := N) hG h n 0 G B2 s2 h127 (by rw [hB2, ga_st_self]; rfl) (fun i hi => absurd hi (by show ¬ i < 0; omega)) (fun i hi => by omega) (by omega) (by omega)
  obtain ⟨B4, w1, w2, w3⟩ := p_ml (n := n) (G := G) (N := N) (c := (oS N n).1) hG h rfl (oS N n).1 0 G B3 ⟨k2.stm s2, fun y hy => by rw [k2.1 127 (by omega) (by omega)]; exact h127 y hy, k3, k4, fun p x q1 q2 => by rw [k2.1 119 (by omega) (by omega), hB2, ga_st_id (by omega), setr_self]; exact hu0 p x q1 q2, fun i hi => k5 i hi⟩ (by omega) (by omega)
  have k1 : l_X6_lays_48 G n G B2 0 = some B3 := k1
  have w1 : l_X6_lays_159 G n G B3 0 = some B4 := w1
  refine ⟨B4, ?_, ⟨fun a q1 q2 q3 => ?_, fun b q => ?_⟩, w2.2.2.2.2.2⟩
  · unfold f_X6_lays
    rw [gb_eq r1, gb_eq e1, gB_eq, ← hB2, gb_eq k1, gb_eq w1]
  · rw [w3 a (by omega), k2.1 a q1 (by omega), hB2, ga_st_row _ q1, setr_ne (by omega), setr_ne q3]
  · rw [w3 100 (by omega), k2.2 b q, hB2, ga_st_ix q, setr_ne (by omega), setr_ne (by omega)]
theorem p_layl {N : gaM} {pl : Nat → pkT} (hn : n ≤ 40) : ∀ (k j F : Nat) (B : gaM) (acc : Int), B 100 3 = (n : Int) → (∀ i, i < n → Rm (pl i) B i) → (∀ i, i < j → B 124 i = B 120 i ∧ B 125 i = B 121 i ∧ B 126 i = B 122 i) → j + k = n → k < F → ∃ B', l_X6_lay_21 G n F B acc (j : Int) = some (B', acc + sm (fun i => pk1 (pl i)) j k) ∧ (∀ a, (a < 124 ∨ 126 < a) → B' a = B a) ∧ ∀ i, i < n → B' 124 i = B 120 i ∧ B' 125 i = B 121 i ∧ B' 126 i = B 122 i := by
  intro k
  induction k with
  | zero =>
    intro j F B acc h3 hR hl hj hF
    obtain ⟨F, rfl⟩ : ∃ F1, F = F1 + 1 := ⟨F - 1, by omega⟩
    have e : j = n := by omega
    subst e
    refine ⟨B, ?_, fun _ _ => rfl, hl⟩
    rw [l_X6_lay_21]
    try simp (disch := (first | omega | (simp (disch := omega) only [ga_st_self, ga_st_id, ga_st_ix] <;> omega) | skip)) only [↓gb_of, ↓gb2_of, ↓gb3_of, ↓gB_eq, ↓gg_pos, ↓if_pos, ↓if_neg, ↓b_wi1, ↓b_wi0, ↓b_has1, ↓b_has0, ↓b_in1, ↓b_in0, ↓b_pl1, ↓b_pl0, ↓b_jm1, ↓b_jm0, ↓b_jc1, ↓b_jc0, ↓b_size, ↓b_get, ↓b_ref, ↓b_den, ↓b_gra, ↓b_don]
    simp [sm]
  | succ k ih =>
    intro j F B acc h3 hR hl hj hF
    obtain ⟨F, rfl⟩ : ∃ F1, F = F1 + 1 := ⟨F - 1, by omega⟩
    obtain ⟨B1, hB1⟩ : ∃ B1, B1 = ga_st (ga_st (ga_st B 124 j (B 120 j)) 125 j (B 121 j)) 126 j (B 122 j) := ⟨_, rfl⟩
    have r1 : ∀ a, (a < 124 ∨ 126 < a) → B1 a = B a := by
      intro a ha
      rw [hB1, ga_st_row _ (by omega), ga_st_row _ (by omega), ga_st_row _ (by omega)]
    obtain ⟨o1, o2⟩ := (hR j (by omega)).okk
    obtain ⟨B', k1, k2, k3⟩ := ih (j + 1) F B1 (acc + pk1 (pl j)) (by rw [r1 100 (by omega)]; exact h3) (fun i hi => by
      have := hR i hi
      unfold Rm at *
      rw [r1 120 (by omega), r1 121 (by omega), r1 122 (by omega)]
      exact this) (fun i hi => by
      rw [r1 120 (by omega), r1 121 (by omega), r1 122 (by omega), hB1]
      by_cases d : i = j
      · subst d
        simp (disch := omega) only [ga_st_id, ga_st_self]
        exact ⟨trivial, trivial, trivial⟩
      · simp (disch := omega) only [ga_st_id, ga_st_ix]
        exact hl i (by omega)) (by omega) (by omega)
    refine ⟨B', ?_, fun a ha => by rw [k2 a ha, r1 a ha], fun i hi => ?_⟩
    · have hB1' : ga_st (ga_st (ga_st B 124 j (B 120 j)) 125 j ((ga_st B 124 j (B 120 j)) 121 j)) 126 j ((ga_st (ga_st B 124 j (B 120 j)) 125 j ((ga_st B 124 j (B 120 j)) 121 j)) 122 j) = B1 := by
        rw [hB1]
        simp (disch := omega) only [ga_st_id]
      have hb : (if B1 120 j = -1 then some (0 : Int) else some 1) = some (pk1 (pl j)) := by
        rw [r1 120 (by omega)]
        cases hp : pl j with
        | none =>
          rw [hp] at o2
          rw [if_pos (o2.mpr rfl)]
          rfl
        | some t =>
          rw [hp] at o2
          rw [if_neg (fun q => by have := o2.mp q; cases this)]
          rfl
      rw [l_X6_lay_21, h3, gg_pos (show ok (j : Int) from ⟨by omega, by omega⟩), gg_pos (show ok (n : Int) from ⟨by omega, by omega⟩), if_pos (by omega), gg_pos (show ix (j : Int) 40 from ⟨by omega, by omega⟩), gB_eq, gB_eq, gB_eq, Int.toNat_natCast, hB1', gg_pos (by rw [r1 120 (by omega)]; exact o1), gb_eq hb, sm_first, ← Int.add_assoc]
      exact k1
    · have := k3 i hi
      rw [r1 120 (by omega), r1 121 (by omega), r1 122 (by omega)] at this
      exact this
theorem stc.rf {N : gaM} : stc N N := fun _ _ => rfl
theorem e_lay {M : gaM} (hG : 5000 ≤ G) (h : Inv n M) : ∃ r Mc Mm, f_X5_lay G n M = some (r, Mc) ∧ f_X6_lay G n Mc = some (r, Mm) ∧ Inv n Mm := by
  have hn := h.1.2.2.2.2.2.1
  have hP4 := h.1.2.2.1
  obtain ⟨A, m1, m2, m3, m4, m5, m6⟩ := p_planC (n := n) (G := G) (N := M) (A := M) (o := 4) hG (Or.inl rfl) h stc.rf (fun _ _ _ => rfl)
  have sA : stm M (ga_st A 100 0 0) := by
    refine ⟨fun a q1 q2 => ?_, fun b q1 q2 => ?_⟩
    · rw [ga_st_row _ (by omega), m2 a (by omega) (by omega) (by omega) (by omega) (by omega) (by omega)]
    · rw [ga_st_ix (by omega), m2 100 (by omega) (by omega) (by omega) (by omega) (by omega) (by omega)]
  obtain ⟨B1, k1, k2, k3⟩ := p_lays (n := n) (G := G) (N := M) hG h sA
  obtain ⟨B2, hB2⟩ : ∃ B2, B2 = ga_st B1 100 29 (B1 100 3) := ⟨_, rfl⟩
  have e3 : B1 100 3 = (n : Int) := by rw [k2.2 3 (by omega), sA.2 3 (by omega) (by omega)]; exact h.1.2.2.2.2.1
  have R2 : ∀ i, i < n → Rm (plF n M i) B2 i := by
    intro i hi
    have := k3 i hi
    unfold Rm at *
    rw [hB2, ga_st_id (by omega), ga_st_id (by omega), ga_st_id (by omega)]
    exact this
  obtain ⟨B3, w1, w2, w3⟩ := p_layl (n := n) (G := G) (N := M) (pl := plF n M) hn n 0 G B2 0 (by rw [hB2, ga_st_ix (by omega)]; exact e3) R2 (fun i hi => by omega) (by omega) (by omega)
  have w1 : l_X6_lay_21 G n G B2 0 0 = some (B3, 0 + sm (fun i => pk1 (plF n M i)) 0 n) := w1
  rw [Int.zero_add] at w1
  -- rows at the end
  have rA : ∀ a, a ≠ 6 → a ≠ 8 → (a < 61 ∨ 64 < a) → (a < 31 ∨ 34 < a) → (a < 40 ∨ 42 < a) → a ≠ 4 → a ≠ 100 → (a < 119 ∨ 127 < a) → B3 a = M a := by
    intro a q1 q2 q3 q4 q5 q6 q7 q8
    rw [w2 a (by omega), hB2, ga_st_row _ q7, k2.1 a q7 (by omega) (by omega), ga_st_row _ q7, m2 a q1 q2 q3 q4 (by omega) q6]
  have r4 : ∀ a, a < 100 → B3 a = A a := by
    intro a q
    rw [w2 a (by omega), hB2, ga_st_row _ (by omega), k2.1 a (by omega) (by omega) (by omega), ga_st_row _ (by omega)]
  have r100 : ∀ b, b ≠ 28 → b ≠ 29 → b ≠ 0 → B3 100 b = M 100 b := by
    intro b q1 q2 q3
    rw [w2 100 (by omega), hB2, ga_st_ix q2, k2.2 b q1, ga_st_ix q3, m2 100 (by omega) (by omega) (by omega) (by omega) (by omega) (by omega)]
  have r29 : B3 100 29 = (n : Int) := by rw [w2 100 (by omega), hB2, ga_st_self, e3]
  refine ⟨sm (fun i => pk1 (plF n M i)) 0 n, A, B3, ?_, ?_, ?_⟩
  · unfold f_X5_lay
    rw [gb_eq m1, m5]
  · unfold f_X6_lay
    rw [gB_eq, gb_eq k1, gB_eq, ← hB2, w1, gb2_of]
  · obtain ⟨iA0, iB0, iG0, iJ0, iR0, iD0, iL0⟩ := h
    refine ⟨?_, iB0.of (fun a ha => rA _ (by omega) (by omega) (by omega) (by omega) (by omega) (by omega) (by omega) (by omega)) (rA _ (by omega) (by omega) (by omega) (by omega) (by omega) (by omega) (by omega) (by omega)) (r100 2 (by omega) (by omega) (by omega)) hP4, iG0.of (fun a ha => rA _ (by omega) (by omega) (by omega) (by omega) (by omega) (by omega) (by omega) (by omega)) (rA _ (by omega) (by omega) (by omega) (by omega) (by omega) (by omega) (by omega) (by omega)) (rA _ (by omega) (by omega) (by omega) (by omega) (by omega) (by omega) (by omega) (by omega)) (r100 2 (by omega) (by omega) (by omega)) hP4, fun j hj => iJ.of (iJ0 j hj) (rA _ (by omega) (by omega) (by omega) (by omega) (by omega) (by omega) (by omega) (by omega)) (fun a h1 h3 => by rw [rA a (by omega) (by omega) (by omega) (by omega) (by omega) (by omega) (by omega) (by omega)]) (r100 2 (by omega) (by omega) (by omega)) (r100 4 (by omega) (by omega) (by omega)), ?_, iD0.of (rA _ (by omega) (by omega) (by omega) (by omega) (by omega) (by omega) (by omega) (by omega)) (fun j hj => ?_), ?_⟩
    · unfold iA at *
      rw [rA 0 (by omega) (by omega) (by omega) (by omega) (by omega) (by omega) (by omega) (by omega), rA 1 (by omega) (by omega) (by omega) (by omega) (by omega) (by omega) (by omega) (by omega), rA 2 (by omega) (by omega) (by omega) (by omega) (by omega) (by omega) (by omega) (by omega), r100 2 (by omega) (by omega) (by omega), r100 3 (by omega) (by omega) (by omega), r100 4 (by omega) (by omega) (by omega), r100 5 (by omega) (by omega) (by omega), r100 1 (by omega) (by omega) (by omega)]
      exact iA0
    · intro p x q1 q2 q3
      rw [r100 2 (by omega) (by omega) (by omega)] at q1
      rw [r100 4 (by omega) (by omega) (by omega)] at q2
      rw [r4 _ (by omega), m3 p x q1 q2 q3, rA 106 (by omega) (by omega) (by omega) (by omega) (by omega) (by omega) (by omega) (by omega)]
      congr 1
      refine sm_congr (fun i hi => ?_)
      unfold oc
      rw [rA 111 (by omega) (by omega) (by omega) (by omega) (by omega) (by omega) (by omega) (by omega), rA 115 (by omega) (by omega) (by omega) (by omega) (by omega) (by omega) (by omega) (by omega), rA 116 (by omega) (by omega) (by omega) (by omega) (by omega) (by omega) (by omega) (by omega), rA 117 (by omega) (by omega) (by omega) (by omega) (by omega) (by omega) (by omega) (by omega)]
    · rw [rA 109 (by omega) (by omega) (by omega) (by omega) (by omega) (by omega) (by omega) (by omega), rA 115 (by omega) (by omega) (by omega) (by omega) (by omega) (by omega) (by omega) (by omega), rA 117 (by omega) (by omega) (by omega) (by omega) (by omega) (by omega) (by omega) (by omega), rA 112 (by omega) (by omega) (by omega) (by omega) (by omega) (by omega) (by omega) (by omega)]
      exact ⟨rfl, rfl, rfl, rfl⟩
    · refine Or.inr ⟨n, r29, Nat.le_refl n, fun j hj => ?_, fun j q1 q2 => ?_, ?_⟩
      · have hR := R2 j hj
        have hC := m4 j (by omega)
        obtain ⟨t1, t2, t3⟩ := w3 j hj
        rw [t1, t2, t3, r4 40 (by omega), r4 41 (by omega), r4 42 (by omega)]
        cases hp : plF n M j with
        | none =>
          rw [hp] at hR hC
          obtain ⟨z1, z2, z3⟩ := hR
          have hC : A 40 j = -1 := hC
          rw [z1, z2, z3, hC]
          exact ⟨rfl, by omega, by omega, fun _ => ⟨rfl, rfl⟩, fun q => absurd rfl q⟩
        | some t =>
          obtain ⟨p, x, c⟩ := t
          rw [hp] at hR hC
          obtain ⟨z1, z2, z3, z4, z5, z6⟩ := hR
          obtain ⟨y1, y2, y3⟩ := hC
          have y1 : A 40 j = (p : Int) := y1
          have y2 : A 41 j = (x : Int) := y2
          have y3 : A 42 j = c := y3
          rw [z1, z2, z3, y1, y2, y3]
          exact ⟨rfl, by omega, by omega, fun q => by omega, fun _ => ⟨rfl, rfl⟩⟩
      · have hC := m4 j q2
        rw [r4 40 (by omega)]
        have hnone : plF n M j = none := plS_none _ (fun i hi => by
          have := (oS_ok (N := M) n).2.1 i hi
          omega)
        rw [hnone] at hC
        exact hC
      · rw [r4 4 (by omega), m6]
        refine sm_congr (fun i hi => ?_)
        rw [Nat.zero_add]
        unfold lc
        obtain ⟨t1, t2, t3⟩ := w3 i hi
        have hR := R2 i hi
        rw [t1, t3]
        cases hp : plF n M i with
        | none =>
          rw [hp] at hR
          rw [if_pos hR.1]
          rfl
        | some t =>
          obtain ⟨p, x, c⟩ := t
          rw [hp] at hR
          obtain ⟨z1, z2, z3, z4, z5, z6⟩ := hR
          rw [z1, z3, if_neg (by omega)]
          rfl
end Q1

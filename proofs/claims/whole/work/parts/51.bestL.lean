/-! ===== pure: the best LAYING together, the class ===== -/
def wq (N : gaM) : Nat → Nat × (Nat → Nat)
  | 0 => (0, fun _ => 0)
  | j + 1 => if N 115 j = 0 then ((wq N j).1 + 1, fun i => if i = (wq N j).1 then j else (wq N j).2 i) else wq N j
theorem wq_ok {N : gaM} : ∀ j, (wq N j).1 ≤ j ∧ (wq N j).1 = sm (cn N 0) 0 j ∧ ∀ i, i < (wq N j).1 → (wq N j).2 i < j ∧ N 115 ((wq N j).2 i) = 0
  | 0 => ⟨Nat.le_refl 0, rfl, fun i h => absurd h (by show ¬ i < 0; omega)⟩
  | j + 1 => by
    obtain ⟨h1, h2, h3⟩ := wq_ok (N := N) j
    have hs : sm (cn N 0) 0 (j + 1) = sm (cn N 0) 0 j + (if N 115 j = 0 then 1 else 0) := by
      show _ + cn N 0 (0 + j) = _
      rw [Nat.zero_add]
      rfl
    rw [wq]
    by_cases c : N 115 j = 0
    · rw [if_pos c] at hs ⊢
      refine ⟨by show (wq N j).1 + 1 ≤ j + 1; omega, by rw [hs, ← h2]; rfl, fun i hi => ?_⟩
      have hi : i < (wq N j).1 + 1 := hi
      show (if i = (wq N j).1 then j else (wq N j).2 i) < j + 1 ∧ N 115 (if i = (wq N j).1 then j else (wq N j).2 i) = 0
      by_cases d : i = (wq N j).1
      · rw [if_pos d]
        exact ⟨by omega, c⟩
      · rw [if_neg d]
        have := h3 i (by omega)
        exact ⟨by omega, this.2⟩
    · rw [if_neg c] at hs ⊢
      exact ⟨by omega, by rw [hs, Int.add_zero]; exact h2, fun i hi => ⟨by have := h3 i hi; omega, (h3 i hi).2⟩⟩
theorem wq_mono {N : gaM} {j : Nat} : ∀ d, (wq N j).1 ≤ (wq N (j + d)).1 ∧ ∀ i, i < (wq N j).1 → (wq N (j + d)).2 i = (wq N j).2 i
  | 0 => ⟨Nat.le_refl _, fun _ _ => rfl⟩
  | d + 1 => by
    obtain ⟨h1, h2⟩ := wq_mono (N := N) (j := j) d
    rw [show j + (d + 1) = j + d + 1 by omega, wq]
    by_cases c : N 115 (j + d) = 0
    · rw [if_pos c]
      refine ⟨by show _ ≤ (wq N (j + d)).1 + 1; omega, fun i hi => ?_⟩
      show (if i = (wq N (j + d)).1 then j + d else (wq N (j + d)).2 i) = _
      rw [if_neg (by omega)]
      exact h2 i hi
    · rw [if_neg c]
      exact ⟨h1, h2⟩
section BL
variable {n G : Nat}
def Co (n : Nat) (N : gaM) (j : Nat) (o : opt) : Prop := (o.1 : Int) < N 100 2 ∧ pa N j ≤ o.2.1 ∧ (o.2.1 : Int) ≤ N 113 j - N 111 j ∧ pv N (pU0 n N) j o.1 o.2.1 = some o.2.2
def lq (n : Nat) (N : gaM) (i : Nat) : Nat := if i < (wq N n).1 then (N 111 ((wq N n).2 i)).toNat else 0
theorem p_fillN {N A : gaM} {U : Nat → Nat → Int} {j P : Nat} (hG : 5000 ≤ G) (h : Inv n N) (hA : stc N A) (hj : j < n) (hU : ∀ p h, 0 ≤ U p h ∧ U p h ≤ 100) (hR : rmC N A U) (hPn : N 100 2 = (P : Int)) : ∃ M5, f_X1_fill G n A (200 + j) (max (A (200 + j) 3) (A 0 9)) (A (200 + j) 4) 0 = some M5 ∧ M5 6 1 = (P : Int) ∧ M5 6 2 = (pa N j : Int) ∧ M5 6 3 = N 113 j - N 111 j ∧ (∀ x, x ≠ 6 → (x < 61 ∨ 64 < x) → M5 x = A x) ∧ ∀ q x, q < P → pa N j ≤ x → (x : Int) ≤ N 113 j - N 111 j → M5 (61 + q) x = (pv N U j q x).getD (-1) := by
  obtain ⟨⟨g0, g1, g2, g3, g4, g5, g6, g7, g8, g9⟩, ⟨u1, u2, u3, u4, u5, u6, u7, u8, u9, u10, u11⟩, -⟩ := h.2.2.2.1 j hj
  have h' := h
  obtain ⟨a1, a2, a3, a4, a5, a6, a7, a8, a9, a10, a11, a12, a13, a14, a15⟩ := h.1
  have eJ := hA (200 + j) (by omega)
  have e0 := hA 0 (by omega)
  have e1 := hA 1 (by omega)
  obtain ⟨len, hlen⟩ : ∃ l : Nat, N 111 j = (l : Int) := ⟨(N 111 j).toNat, by omega⟩
  obtain ⟨e, he⟩ : ∃ e : Nat, N 113 j = (e : Int) := ⟨(N 113 j).toNat, by omega⟩
  have hpa : max (N 112 j) (N 100 4) = (pa N j : Int) := by unfold pa; omega
  obtain ⟨M5, m1, m2, m3, m4, m5, m6⟩ := p_fill (n := n) (G := G) (M := A) (w := 200 + j) (a := pa N j) (e := e) (len := len) (P := P) (v5 := 0) hG (Or.inl rfl) (by omega) (by omega) (by omega) (by omega) (by omega) (by omega) (by rw [eJ, g2]; exact hlen) (by rw [eJ, g1]; omega) (by rw [e1]; omega) (fun _ p y q1 q2 q3 => by
    have := hR p y (by omega) (by omega) q3
    have hu := hU p y
    have h6 := h.2.2.1.2.2.2 p (by omega)
    exact ⟨by omega, by omega⟩)
  refine ⟨M5, ?_, m2, m3, by rw [m4, he, hlen], m5, fun q x q1 q2 q3 => ?_⟩
  · rw [eJ, e0, g3, g4, a7, hpa, he]
    exact m1
  · rw [m6 q x q1 q2 (by omega)]
    have hc := cst_eq h hj (p := q) (h := x) (by omega) (by omega)
    rw [g2, hlen, Int.toNat_natCast] at hc
    unfold vl pv
    rw [eJ, hA (21 + q) (by omega), hA (11 + (N (200 + j) 1).toNat) (by rw [g1]; omega), hc, hlen, Int.toNat_natCast]
    by_cases d : ∀ i, i < len → U q (x + i) < N 106 q
    · rw [if_pos d, if_pos]
      · rfl
      intro i hi
      have := d i hi
      rw [hR q (x + i) (by omega) (by omega) (by omega)]
      omega
    · rw [if_neg d, if_neg]
      · rfl
      intro dd
      refine d (fun i hi => ?_)
      have := dd i hi
      rw [hR q (x + i) (by omega) (by omega) (by omega)] at this
      omega
theorem pU0_bd {N : gaM} (hn : n ≤ 40) (p h : Nat) : 0 ≤ pU0 n N p h ∧ pU0 n N p h ≤ 40 := by
  have := sm_bd (f := oc N p h) (a := 0) (lo := 0) (hi := 1) (k := n) (fun i _ => oc_bd)
  unfold pU0
  omega
theorem pv_bd {N : gaM} {U : Nat → Nat → Int} {j q x : Nat} {c : Int} (h : Inv n N) (hj : j < n) (hq : q < 4) (hx : (x : Int) ≤ N 113 j - N 111 j) (e : pv N U j q x = some c) : 0 ≤ c ∧ c ≤ 30000 := by
  obtain ⟨-, ⟨u1, u2, u3, u4, u5, u6, u7, u8, u9, -⟩, -⟩ := h.2.2.2.1 j hj
  have hb := cst_bd (j := j) (p := q) (h := x) h hj hq (by omega)
  unfold pv at e
  by_cases d : ∀ i, i < (N 111 j).toNat → U q (x + i) < N 106 q
  · rw [if_pos d] at e
    have := Option.some.inj e
    omega
  · rw [if_neg d] at e
    cases e
-- what the class has after j JOBS
def csL (n : Nat) (N : gaM) (j : Nat) (A0 A : gaM) : Prop := (∀ x, x ≠ 6 → x ≠ 7 → (x < 61 ∨ 64 < x) → (x < 71 ∨ 83 < x) → A x = A0 x) ∧ A 7 5 = ((wq N j).1 : Int) ∧ ∀ i, i < (wq N j).1 → A 83 i = N 111 ((wq N j).2 i) ∧ ∃ cnt e, LK i cnt e A ∧ KI (Co n N ((wq N j).2 i)) cnt e
theorem LK.fr {i i' cnt : Nat} {e : Nat → opt} {M M' : gaM} (h : LK i cnt e M) (hi : i < 3) (hi' : i' < 3) (hne : i ≠ i') (hf : frK i' M M') : LK i cnt e M' := by
  refine ⟨by rw [hf.2 i hne]; exact h.1, fun m hm => ?_⟩
  rw [hf.1 _ (by omega) (by omega) (by omega) (by omega), hf.1 _ (by omega) (by omega) (by omega) (by omega), hf.1 _ (by omega) (by omega) (by omega) (by omega)]
  exact h.2 m hm
theorem p_ltog {N A0 : gaM} (hG : 5000 ≤ G) (h : Inv n N) (hA : stc N A0) (hR : rmC N A0 (pU0 n N)) (hK : (wq N n).1 ≤ 3) : ∀ (k j F : Nat) (A : gaM), csL n N j A0 A → j + k = n → k < F → ∃ A', l_X5_leastTogether_9 G n F A (j : Int) = some A' ∧ csL n N n A0 A' := by
  have h' := h
  obtain ⟨a1, a2, a3, a4, a5, a6, a7, a8, a9, a10, a11, a12, a13, a14, a15⟩ := h.1
  intro k
  induction k with
  | zero =>
    intro j F A hc hj hF
    obtain ⟨F, rfl⟩ : ∃ F1, F = F1 + 1 := ⟨F - 1, by omega⟩
    have e : j = n := by omega
    subst e
    refine ⟨A, ?_, hc⟩
    have e2 : A 2 2 = (j : Int) := by rw [hc.1 2 (by omega) (by omega) (by omega) (by omega), hA 2 (by omega)]; exact a4
    rw [l_X5_leastTogether_9]
    try simp (disch := (first | omega | (simp (disch := omega) only [ga_st_self, ga_st_id, ga_st_ix] <;> omega) | skip)) only [↓gb_of, ↓gb2_of, ↓gb3_of, ↓gB_eq, ↓gg_pos, ↓if_pos, ↓if_neg, ↓b_wi1, ↓b_wi0, ↓b_has1, ↓b_has0, ↓b_in1, ↓b_in0, ↓b_pl1, ↓b_pl0, ↓b_jm1, ↓b_jm0, ↓b_jc1, ↓b_jc0, ↓b_size, ↓b_get, ↓b_ref, ↓b_den, ↓b_gra, ↓b_don]
  | succ k ih =>
    intro j F A hc hj hF
    obtain ⟨F, rfl⟩ : ∃ F1, F = F1 + 1 := ⟨F - 1, by omega⟩
    have hjn : j < n := by omega
    have sA : stc N A := fun a ha => by rw [hc.1 a (by omega) (by omega) (by omega) (by omega)]; exact hA a ha
    have e2 : A 2 2 = (n : Int) := by rw [sA 2 (by omega)]; exact a4
    obtain ⟨⟨g0, g1, g2, g3, g4, g5, g6, g7, g8, g9⟩, ⟨u1, u2, u3, u4, u5, u6, u7, u8, u9, -⟩, ⟨w1, w2, -⟩⟩ := h.2.2.2.1 j hjn
    have e6 : A (200 + j) 6 = N 115 j := by rw [sA (200 + j) (by omega), g6]
    rw [l_X5_leastTogether_9, b_size, e2, gg_pos (show ok (j : Int) from ⟨by omega, by omega⟩), gg_pos (show ok (n : Int) from ⟨by omega, by omega⟩), if_pos (by omega), b_get ⟨by omega, by omega⟩ e2, Int.toNat_natCast, e6, gg_pos (show ok (N 115 j) from ⟨by omega, by omega⟩)]
    by_cases d : N 115 j = 0
    · have hst : wq N (j + 1) = ((wq N j).1 + 1, fun i => if i = (wq N j).1 then j else (wq N j).2 i) := by
        rw [wq, if_pos d]
      obtain ⟨mo, -⟩ := wq_mono (N := N) (j := j + 1) (n - (j + 1))
      rw [show j + 1 + (n - (j + 1)) = n by omega, hst] at mo
      have mo : (wq N j).1 + 1 ≤ (wq N n).1 := mo
      obtain ⟨i, hi⟩ : ∃ i, i = (wq N j).1 := ⟨_, rfl⟩
      obtain ⟨P, hPn⟩ : ∃ P : Nat, N 100 2 = (P : Int) := ⟨(N 100 2).toNat, by omega⟩
      obtain ⟨M5, m1, m2, m3, m4, m5, m6⟩ := p_fillN (n := n) (G := G) (N := N) (A := A) (U := pU0 n N) (j := j) (P := P) hG h sA hjn (fun p x => by have := pU0_bd (N := N) a6 p x; omega) (fun p x q1 q2 q3 => by rw [hc.1 _ (by omega) (by omega) (by omega) (by omega)]; exact hR p x q1 q2 q3) hPn
      have h75 : M5 7 5 = (i : Int) := by rw [m5 7 (by omega) (by omega), hc.2.1, hi]
      obtain ⟨M6, hM6⟩ : ∃ M6, M6 = ga_st (ga_st (ga_st M5 7 5 ((i : Int) + 1)) 82 i 0) 83 i (N 111 j) := ⟨_, rfl⟩
      have r6 : ∀ a, a ≠ 7 → a ≠ 82 → a ≠ 83 → M6 a = M5 a := fun a q1 q2 q3 => by rw [hM6, ga_st_row _ q3, ga_st_row _ q2, ga_st_row _ q1]
      have hlk0 : LK i 0 (fun _ => (0, 0, 0)) M6 := ⟨by rw [hM6, ga_st_id (by omega), ga_st_self]; rfl, fun m hm => by omega⟩
      have hki0 : KI (inT (pv N (pU0 n N) j) P (pa N j) (N 113 j - N 111 j) 0 (pa N j)) 0 (fun _ => (0, 0, 0)) := ⟨by omega, fun m hm => by omega, fun m m' _ hm => by omega, fun m m' _ hm => by omega, fun o ho => by
        obtain ⟨q1, q2, q3, q4, q5⟩ := ho
        omega⟩
      obtain ⟨M7, cnt, e, k1, k2, k3, k4⟩ := p_add44 (n := n) (G := G) (T := pv N (pU0 n N) j) (P := P) (a := pa N j) (i := i) (last := N 113 j - N 111 j) hG (by omega) (by omega) (by unfold pa; omega) (by omega) (fun q x c q1 q2 q3 e => pv_bd h hjn (by omega) q3 e) P 0 G M6 0 (fun _ => (0, 0, 0)) (by omega) (by omega) (by rw [r6 6 (by omega) (by omega) (by omega)]; exact m2) (by rw [r6 6 (by omega) (by omega) (by omega)]; exact m3) (by rw [r6 6 (by omega) (by omega) (by omega)]; exact m4) (fun q x q1 q2 q3 => by rw [r6 _ (by omega) (by omega) (by omega)]; exact m6 q x q1 q2 q3) hlk0 hki0
      have k1 : l_X3_add_44 G n G M6 (i : Int) 0 = some M7 := k1
      have hadd : f_X3_add G n M5 (200 + j) = some M7 := by
        unfold f_X3_add
        have hw : (ga_st (ga_st M5 7 5 ((i : Int) + 1)) 82 i 0) (200 + j) 2 = N 111 j := by
          rw [ga_st_id (by omega), ga_st_id (by omega), m5 _ (by omega) (by omega), sA (200 + j) (by omega), g2]
        rw [h75, gg_pos (show ok (i : Int) from ⟨by omega, by omega⟩), if_neg (by omega), gB_eq, gg_pos (show ix (i : Int) 3 from ⟨by omega, by omega⟩), gB_eq, gB_eq, Int.toNat_natCast, hw, ← hM6, gb_eq k1]
      have hst2 : csL n N (j + 1) A0 M7 := by
        refine ⟨fun x q1 q2 q3 q4 => ?_, ?_, ?_⟩
        · rw [k4.1 x (by omega) (by omega) (by omega) (by omega), r6 x q2 (by omega) (by omega), m5 x q1 q3]
          exact hc.1 x q1 q2 q3 q4
        · rw [k4.1 7 (by omega) (by omega) (by omega) (by omega), hM6, ga_st_id (by omega), ga_st_id (by omega), ga_st_self, hst, hi]
          rfl
        · rw [hst]
          intro i' hi'
          have hi' : i' < (wq N j).1 + 1 := hi'
          show M7 83 i' = N 111 (if i' = (wq N j).1 then j else (wq N j).2 i') ∧ ∃ cnt e, LK i' cnt e M7 ∧ KI (Co n N (if i' = (wq N j).1 then j else (wq N j).2 i')) cnt e
          by_cases c : i' = (wq N j).1
          · rw [if_pos c]
            have c' : i' = i := by omega
            subst c'
            refine ⟨by rw [k4.1 83 (by omega) (by omega) (by omega) (by omega), hM6, ga_st_self], cnt, e, k2, k3.iff (fun o => ?_)⟩
            constructor
            · intro ⟨q1, q2, q3, q4, q5⟩
              exact ⟨by omega, q2, q3, q4⟩
            · intro ⟨q1, q2, q3, q4⟩
              exact ⟨by omega, q2, q3, q4, Or.inl (by omega)⟩
          · rw [if_neg c]
            obtain ⟨y1, cnt', e', y2, y3⟩ := hc.2.2 i' (by omega)
            refine ⟨?_, cnt', e', ?_, y3⟩
            · rw [k4.1 83 (by omega) (by omega) (by omega) (by omega), hM6, ga_st_ix (by omega), ga_st_id (by omega), ga_st_id (by omega), m5 83 (by omega) (by omega)]
              exact y1
            · refine LK.fr ?_ (by omega) (by omega) (by omega) k4
              refine ⟨?_, fun m hm => ?_⟩
              · rw [hM6, ga_st_id (by omega), ga_st_ix (by omega), ga_st_id (by omega), m5 82 (by omega) (by omega)]
                exact y2.1
              · rw [r6 _ (by omega) (by omega) (by omega), r6 _ (by omega) (by omega) (by omega), r6 _ (by omega) (by omega) (by omega), m5 _ (by omega) (by omega), m5 _ (by omega) (by omega), m5 _ (by omega) (by omega)]
                exact y2.2 m hm
      obtain ⟨A', z1, z2⟩ := ih (j + 1) F M7 hst2 (by omega) (by omega)
      refine ⟨A', ?_, z2⟩
      have q3 : ok (A (200 + j) 3) := by rw [sA (200 + j) (by omega), g3]; exact ⟨by omega, by omega⟩
      have q9 : ok (A 0 9) := by rw [sA 0 (by omega), a7]; exact ⟨by omega, by omega⟩
      rw [if_pos d, gg_pos q3, gg_pos q9, gb_eq m1, gb_eq hadd, gb_of]
      exact z1
    · have hst : wq N (j + 1) = wq N j := by
        rw [wq, if_neg d]
      obtain ⟨A', z1, z2⟩ := ih (j + 1) F A (by unfold csL at *; rw [hst]; exact hc) (by omega) (by omega)
      refine ⟨A', ?_, z2⟩
      rw [if_neg d, gb_of]
      exact z1
theorem Val_no {cap : Nat → Int} {l : Nat → Nat} {O : Nat → opt → Prop} {K j : Nat} {U : Nat → Nat → Int} (hj : j < K) (h : ∀ o, ¬ O j o) : ∀ t, ¬ Val cap l O K 0 U t := by
  intro t hv
  obtain ⟨f, f1, -⟩ := (Val_fun K 0 U t).mp hv
  have := (f1 j hj).1
  rw [Nat.zero_add] at this
  exact h _ this
theorem p_leastC {N A0 : gaM} (hG : 5000 ≤ G) (h : Inv n N) (hA : stc N A0) (hR : rmC N A0 (pU0 n N)) (hK : (wq N n).1 ≤ 3) : ∃ (b : Int) (A' : gaM) (Kp : Nat → opt → Prop), f_X5_leastTogether G n A0 = some (b, A') ∧ (∀ x, x ≠ 6 → x ≠ 7 → (x < 61 ∨ 64 < x) → (x < 71 ∨ 83 < x) → A' x = A0 x) ∧ -1 ≤ b ∧ b ≤ 200000 ∧ res (-1) b 0 (Val (N 106) (lq n N) Kp (wq N n).1 0 (pU0 n N)) ∧ (∀ i o, Kp i o → i < (wq N n).1 ∧ Co n N ((wq N n).2 i) o) ∧ ∀ i o, i < (wq N n).1 → Co n N ((wq N n).2 i) o → Kp i o ∨ ∃ e : Nat → opt, (∀ m, m < 47 → Kp i (e m) ∧ (e m).2.2 ≤ o.2.2) ∧ ∀ m m', m < m' → m' < 47 → ¬ ((e m).1 = (e m').1 ∧ (e m).2.1 = (e m').2.1) := by
  have h' := h
  obtain ⟨a1, a2, a3, a4, a5, a6, a7, a8, a9, a10, a11, a12, a13, a14, a15⟩ := h.1
  obtain ⟨A1, m1, m2⟩ := p_ltog (n := n) (G := G) (N := N) (A0 := A0) hG h hA hR hK n 0 G (ga_st A0 7 5 0) ⟨fun x q1 q2 q3 q4 => ga_st_row _ q2, by rw [ga_st_self]; rfl, fun i hi => absurd hi (by show ¬ i < 0; omega)⟩ (by omega) (by omega)
  obtain ⟨c1, c2, c3⟩ := m2
  have hch : ∀ i, ∃ ce : Nat × (Nat → opt), i < (wq N n).1 → A1 83 i = N 111 ((wq N n).2 i) ∧ LK i ce.1 ce.2 A1 ∧ KI (Co n N ((wq N n).2 i)) ce.1 ce.2 := by
    intro i
    by_cases c : i < (wq N n).1
    · obtain ⟨y1, cnt, e, y2, y3⟩ := c3 i c
      exact ⟨(cnt, e), fun _ => ⟨y1, y2, y3⟩⟩
    · exact ⟨(0, fun _ => (0, 0, 0)), fun q => absurd q c⟩
  obtain ⟨ce, hce⟩ := Classical.axiomOfChoice hch
  obtain ⟨K, hKK⟩ : ∃ K, K = (wq N n).1 := ⟨_, rfl⟩
  rw [← hKK] at c2 hK hce ⊢
  obtain ⟨w1, w2, w3⟩ := wq_ok (N := N) n
  rw [← hKK] at w3
  have hJ : ∀ i, i < K → (wq N n).2 i < n := fun i hi => (w3 i hi).1
  have hsub : ∀ i o, OptE K (fun i => (ce i).1) (fun i => (ce i).2) i o → i < K ∧ Co n N ((wq N n).2 i) o := by
    intro i o ⟨hi, m, q1, q2⟩
    have := (hce i hi).2.2.2.1 m q1
    refine ⟨hi, ?_⟩
    rw [← q2]
    exact this
  have hden : ∀ i o, i < K → Co n N ((wq N n).2 i) o → OptE K (fun i => (ce i).1) (fun i => (ce i).2) i o ∨ ∃ e : Nat → opt, (∀ m, m < 47 → OptE K (fun i => (ce i).1) (fun i => (ce i).2) i (e m) ∧ (e m).2.2 ≤ o.2.2) ∧ ∀ m m', m < m' → m' < 47 → ¬ ((e m).1 = (e m').1 ∧ (e m).2.1 = (e m').2.1) := by
    intro i o hi ho
    obtain ⟨k1, k2, k3, k4, k5⟩ := (hce i hi).2.2
    rcases k5 o ho with ⟨m, q1, q2⟩ | ⟨q1, q2⟩
    · exact Or.inl ⟨hi, m, q1, q2⟩
    · refine Or.inr ⟨(ce i).2, fun m hm => ⟨⟨hi, m, by show m < (ce i).1; omega, rfl⟩, ?_⟩, fun m m' r1 r2 => k4 m m' r1 (by omega)⟩
      have := k3 m 46 (by omega) (by omega)
      omega
  have hl1 : f_X3_clear G n A0 = some (ga_st A0 7 5 0) := by
    unfold f_X3_clear
    rw [gB_eq]
  have m1 : l_X5_leastTogether_9 G n G (ga_st A0 7 5 0) 0 = some A1 := m1
  have go : ∀ b, f_X3_least G n A1 = some (b, A1) → f_X5_leastTogether G n A0 = some (b, A1) := by
    intro b hb
    unfold f_X5_leastTogether
    rw [gb_eq hl1, gb_eq m1, hb]
    rfl
  by_cases hz : ∃ i, i < K ∧ (ce i).1 = 0
  · -- a JOB with no LAYING
    have hfind : ∀ (k i F : Nat), i + k = K → k < F → (∃ i', i ≤ i' ∧ i' < K ∧ (ce i').1 = 0) → l_X3_least_2 G n F A1 (i : Int) = some (-1, A1) := by
      intro k
      induction k with
      | zero =>
        intro i F hi hF hx
        obtain ⟨i', q1, q2, q3⟩ := hx
        omega
      | succ k ih =>
        intro i F hi hF hx
        obtain ⟨F, rfl⟩ : ∃ F1, F = F1 + 1 := ⟨F - 1, by omega⟩
        have h82 := (hce i (by omega)).2.1.1
        have h47 := (hce i (by omega)).2.2.1
        rw [l_X3_least_2, c2, Int.toNat_natCast, h82, gg_pos (show ok (i : Int) from ⟨by omega, by omega⟩), gg_pos (show ok (K : Int) from ⟨by omega, by omega⟩), if_pos (by omega), gg_pos (show ix (i : Int) 3 from ⟨by omega, by omega⟩), gg_pos (show ok ((ce i).1 : Int) from ⟨by omega, by omega⟩)]
        by_cases c : (ce i).1 = 0
        · rw [if_pos (by omega)]
        · rw [if_neg (by omega)]
          refine ih (i + 1) F (by omega) (by omega) ?_
          obtain ⟨i', q1, q2, q3⟩ := hx
          refine ⟨i', ?_, q2, q3⟩
          by_cases e : i' = i
          · subst e
            exact absurd q3 c
          · omega
    have hr := hfind K 0 G (by omega) (by omega) (by obtain ⟨i, q1, q2⟩ := hz; exact ⟨i, Nat.zero_le i, q1, q2⟩)
    refine ⟨-1, A1, OptE K (fun i => (ce i).1) (fun i => (ce i).2), go (-1) hr, c1, by omega, by omega, ?_, hsub, hden⟩
    obtain ⟨i, q1, q2⟩ := hz
    refine ⟨Or.inl rfl, fun q => absurd rfl q, fun t ht => absurd ht (Val_no q1 (fun o ho => ?_) t)⟩
    obtain ⟨-, m, r1, -⟩ := ho
    have r1 : m < (ce i).1 := r1
    omega
  · have hnz : ∀ i, i < K → 1 ≤ (ce i).1 := fun i hi => by
      by_cases c : (ce i).1 = 0
      · exact absurd ⟨i, hi, c⟩ hz
      · omega
    obtain ⟨P, hPn⟩ : ∃ P : Nat, N 100 2 = (P : Int) := ⟨(N 100 2).toNat, by omega⟩
    have hls : lsC A1 P (N 100 4) K (fun i => (ce i).1) (fun i => (ce i).2) (lq n N) := by
      refine ⟨c2, fun i hi => ?_⟩
      obtain ⟨y1, y2, y3⟩ := hce i hi
      obtain ⟨-, ⟨u1, u2, u3, u4, u5, u6, u7, u8, u9, -⟩, -⟩ := h.2.2.2.1 _ (hJ i hi)
      have hlq : lq n N i = (N 111 ((wq N n).2 i)).toNat := if_pos (by rw [← hKK]; exact hi)
      refine ⟨y2.1, by rw [y1, hlq]; omega, hnz i hi, y3.1, y3.2.2.1, fun m hm => ?_⟩
      obtain ⟨z1, z2, z3, z4, z5⟩ := y2.2 m hm
      obtain ⟨v1, v2, v3, v4⟩ := y3.2.1 m hm
      exact ⟨z1, z2, z3, by show ((ce i).2 m).1 < P; omega, by unfold pa at v2; show N 100 4 ≤ (((ce i).2 m).2.1 : Int); omega, by show ((ce i).2 m).2.1 + lq n N i ≤ 300; rw [hlq]; omega, z4, z5⟩
    obtain ⟨b, y1, y2, y3, y4⟩ := p_srch (n := n) (G := G) (P := P) (K := K) (now := N 100 4) (cap := N 106) hG hK (by omega) (fun p hp => by have := h.2.2.1.2.2.2 p (by omega); omega) (fun i hi => by
        obtain ⟨-, ⟨u1, u2, u3, u4, u5, u6, -⟩, -⟩ := h.2.2.2.1 _ (hJ i hi)
        have hlq : lq n N i = (N 111 ((wq N n).2 i)).toNat := if_pos (by rw [← hKK]; exact hi)
        rw [hlq]
        omega) K 0 5 A1 (pU0 n N) 0 (-1) (by omega) (by omega) hls (fun p x q1 q2 q3 => by rw [c1 _ (by omega) (by omega) (by omega) (by omega)]; exact hR p x (by omega) q2 q3) (fun p x => by have := pU0_bd (N := N) a6 p x; omega) (by omega) (by omega) (fun q => absurd rfl q)
    have hpass : ∀ (k i F : Nat), i + k = K → k < F → l_X3_least_2 G n F A1 (i : Int) = some (b, A1) := by
      intro k
      induction k with
      | zero =>
        intro i F hi hF
        obtain ⟨F, rfl⟩ : ∃ F1, F = F1 + 1 := ⟨F - 1, by omega⟩
        have y1 : f_X3_search G n 5 A1 0 0 (-1) = some (b, A1) := y1
        rw [l_X3_least_2, c2, gg_pos (show ok (i : Int) from ⟨by omega, by omega⟩), gg_pos (show ok (K : Int) from ⟨by omega, by omega⟩), if_neg (by omega), y1]
        rfl
      | succ k ih =>
        intro i F hi hF
        obtain ⟨F, rfl⟩ : ∃ F1, F = F1 + 1 := ⟨F - 1, by omega⟩
        have h82 := (hce i (by omega)).2.1.1
        have h47 := (hce i (by omega)).2.2.1
        have h1 := hnz i (by omega)
        rw [l_X3_least_2, c2, Int.toNat_natCast, h82, gg_pos (show ok (i : Int) from ⟨by omega, by omega⟩), gg_pos (show ok (K : Int) from ⟨by omega, by omega⟩), if_pos (by omega), gg_pos (show ix (i : Int) 3 from ⟨by omega, by omega⟩), gg_pos (show ok ((ce i).1 : Int) from ⟨by omega, by omega⟩), if_neg (by omega)]
        exact ih (i + 1) F (by omega) (by omega)
    exact ⟨b, A1, OptE K (fun i => (ce i).1) (fun i => (ce i).2), go b (hpass K 0 G (by omega) (by omega)), c1, y3, y4, y2, hsub, hden⟩
end BL

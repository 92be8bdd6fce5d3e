/-! ===== pure: the reference's search; best ===== -/
section BM
variable {n G : Nat}
theorem st_st {M : gaM} {a j : Nat} {v w : Int} : ga_st (ga_st M a j v) a j w = ga_st M a j w := by
  funext x y
  unfold ga_st
  by_cases c : x = a ∧ y = j
  · rw [if_pos c, if_pos c]
  · rw [if_neg c, if_neg c, if_neg c]
theorem st_id {M : gaM} {a j : Nat} {v : Int} (h : M a j = v) : ga_st M a j v = M := by
  funext x y
  unfold ga_st
  by_cases c : x = a ∧ y = j
  · rw [if_pos c, c.1, c.2, h]
  · rw [if_neg c]
theorem dec_cd {o : opt} (h1 : o.1 < 4) (h2 : o.2.1 < 300) : cd o % 4 = (o.1 : Int) ∧ cd o % 2048 / 4 = (o.2.1 : Int) ∧ cd o / 2048 = o.2.2 := by
  unfold cd
  omega
-- the reference's lists, from level i0 on
def lsM (B : gaM) (P K : Nat) (J : Nat → Nat) (cnt : Nat → Nat) (e : Nat → Nat → opt) (l : Nat → Nat) (i0 : Nat) : Prop := (∀ i, i < K → B 130 i = (J i : Int) ∧ J i < 40 ∧ B 111 (J i) = (l i : Int) ∧ l i ≤ 12) ∧ (∀ i, i0 ≤ i → i < K → B 131 i = (cnt i : Int) ∧ 1 ≤ cnt i ∧ cnt i ≤ 1200 ∧ srt (cnt i) (e i) ∧ ∀ m, m < cnt i → sgm B i m = cd (e i m) ∧ (e i m).1 < P ∧ (e i m).2.1 + l i ≤ 300 ∧ (e i m).2.1 < 300 ∧ 0 ≤ (e i m).2.2 ∧ (e i m).2.2 ≤ 30000) ∧ ∀ i k, i0 ≤ i → i + k = K → B 133 i = lw e k i
theorem lsM.of {B B' : gaM} {P K : Nat} {J : Nat → Nat} {cnt : Nat → Nat} {e : Nat → Nat → opt} {l : Nat → Nat} {i0 : Nat} (h : lsM B P K J cnt e l i0) (h1 : B' 130 = B 130) (h2 : B' 111 = B 111) (h3 : B' 131 = B 131) (h4 : B' 132 = B 132) (h5 : B' 133 = B 133) : lsM B' P K J cnt e l i0 := by
  refine ⟨fun i hi => by rw [h1, h2]; exact h.1 i hi, fun i q1 q2 => ?_, fun i k q1 q2 => by rw [h5]; exact h.2.2 i k q1 q2⟩
  have := h.2.1 i q1 q2
  unfold sgm at *
  rw [h3, h4]
  exact this
theorem p_try {P K : Nat} {cap : Nat → Int} {J : Nat → Nat} {cnt : Nat → Nat} {e : Nat → Nat → opt} {l : Nat → Nat} (hG : 5000 ≤ G) (hK : K ≤ 3) (hP : P ≤ 4) (hcap : ∀ p, p < P → 0 ≤ cap p ∧ cap p ≤ 9) : ∀ (k i d : Nat) (B : gaM) (U : Nat → Nat → Int) (s b : Int), i + k = K → k < d → lsM B P K J cnt e l 0 → (∀ p, p < P → B 106 p = cap p) → (∀ p h, p < 4 → h < 300 → B 119 (300 * p + h) = U p h) → (∀ p h, 0 ≤ U p h ∧ U p h ≤ 50 + i) → B 100 34 = b → 0 ≤ s ∧ s ≤ 30000 * i → -1 ≤ b ∧ b ≤ 200000 → (b ≠ -1 → s + lw e k i < b) → ∃ b', f_X6_tries G n d B (i : Int) (K : Int) s = some (ga_st B 100 34 b') ∧ res b b' s (Val cap l (OptE K cnt e) k i U) ∧ -1 ≤ b' ∧ b' ≤ 200000 := by
  intro k
  induction k with
  | zero =>
    intro i d B U s b hi hd hLS hC hu hU hB34 hs hb hsb
    obtain ⟨d, rfl⟩ : ∃ d1, d = d1 + 1 := ⟨d - 1, by omega⟩
    refine ⟨s, ?_, res_leaf hs.1 (fun q => ?_), by omega, by omega⟩
    · rw [f_X6_tries, gg_pos (show ok (i : Int) from ⟨by omega, by omega⟩), gg_pos (show ok (K : Int) from ⟨by omega, by omega⟩), if_pos (by omega), gB_eq]
    · have := hsb q
      have : s + 0 < b := this
      omega
  | succ k ih =>
    intro i d B U s b hi hd hLS hC hu hU hB34 hs hb hsb
    obtain ⟨d, rfl⟩ : ∃ d1, d = d1 + 1 := ⟨d - 1, by omega⟩
    obtain ⟨j130, jlt, j111, jl⟩ := hLS.1 i (by omega)
    obtain ⟨c131, c1, c12, hsrt, hm⟩ := hLS.2.1 i (by omega) (by omega)
    have h133 := hLS.2.2 (i + 1) k (by omega) (by omega)
    have hlow : ∀ o t', Val cap l (OptE K cnt e) k (i + 1) (addo U (l i) o) t' → lw e k (i + 1) ≤ t' := fun o t' => Val_low (fun i hi => (hLS.2.1 i (by omega) hi).2.2.2.1) k (i + 1) _ t'
    have hlb := lw_bd (K := K) (cnt := cnt) (e := e) (fun i hi => (hLS.2.1 i (by omega) hi).2.1) (fun i m hi hm => ((hLS.2.1 i (by omega) hi).2.2.2.2 m hm).2.2.2.2) k (i + 1) (by omega)
    have hU100 : ∀ p h, 0 ≤ U p h ∧ U p h ≤ 100 := fun p h => by have := hU p h; omega
    have loop : ∀ (q m F : Nat) (b : Int), m + q = cnt i → q < F → -1 ≤ b ∧ b ≤ 200000 → ∃ b', l_X6_tries_21 (f_X6_tries G n d) G n F (ga_st B 100 34 b) (i : Int) (K : Int) s ((1200 * i : Nat) : Int) (m : Int) = some (ga_st B 100 34 b') ∧ res b b' s (Vf cap U (l i) (e i) (cnt i) (fun o t' => Val cap l (OptE K cnt e) k (i + 1) (addo U (l i) o) t') m) ∧ -1 ≤ b' ∧ b' ≤ 200000 := by
      intro q
      induction q with
      | zero =>
        intro m F b hm2 hF hb
        obtain ⟨F, rfl⟩ : ∃ F1, F = F1 + 1 := ⟨F - 1, by omega⟩
        refine ⟨b, ?_, res_end (by omega), hb⟩
        rw [l_X6_tries_21, Int.toNat_natCast, ga_st_id (show 131 ≠ 100 by omega), c131, gg_pos (show ix (i : Int) 3 from ⟨by omega, by omega⟩), gg_pos (show ok (m : Int) from ⟨by omega, by omega⟩), gg_pos (show ok (cnt i : Int) from ⟨by omega, by omega⟩), if_neg (by omega)]
      | succ q ihq =>
        intro m F b hm2 hF hb
        obtain ⟨F, rfl⟩ : ∃ F1, F = F1 + 1 := ⟨F - 1, by omega⟩
        obtain ⟨z1, z2, z3, z4, z5, z6⟩ := hm m (by omega)
        obtain ⟨y1, y2, y3⟩ := dec_cd (o := e i m) (by omega) z4
        obtain ⟨Bb, hBb⟩ : ∃ Bb, Bb = ga_st B 100 34 b := ⟨_, rfl⟩
        have rb : ∀ a, a ≠ 100 → Bb a = B a := fun a ha => by rw [hBb, ga_st_row _ ha]
        have hroom : f_X6_hasRoom G n Bb (J i : Int) ((e i m).1 : Int) ((e i m).2.1 : Int) = some (if ∀ t, t < l i → Bb 119 (300 * (e i m).1 + (e i m).2.1 + t) < Bb 106 (e i m).1 then 1 else 0) := p_hasRoom hG jlt (by omega) (by rw [rb 111 (by omega)]; exact j111) z3 (by rw [rb 119 (by omega)]; exact row119 hU100 hu) (by rw [rb 106 (by omega), hC _ z2]; have := hcap _ z2; exact ⟨by omega, by omega⟩)
        have hfe : (∀ t, t < l i → Bb 119 (300 * (e i m).1 + (e i m).2.1 + t) < Bb 106 (e i m).1) ↔ fit cap U (l i) (e i m) := by
          rw [rb 119 (by omega), rb 106 (by omega), hC _ z2]
          constructor
          · intro h t ht
            have := h t ht
            rw [show 300 * (e i m).1 + (e i m).2.1 + t = 300 * (e i m).1 + ((e i m).2.1 + t) by omega, hu _ _ (by omega) (by omega)] at this
            exact this
          · intro h t ht
            have := h t ht
            rw [show 300 * (e i m).1 + (e i m).2.1 + t = 300 * (e i m).1 + ((e i m).2.1 + t) by omega, hu _ _ (by omega) (by omega)]
            exact this
        have b130 : Bb 130 i = (J i : Int) := by rw [rb 130 (by omega)]; exact j130
        have step : (b ≠ -1 → s + (e i m).2.2 + lw e k (i + 1) < b) → ∃ b', (gb (f_X6_hasRoom G n Bb (J i : Int) ((e i m).1 : Int) ((e i m).2.1 : Int)) fun r15 => gg (ok r15) <| gb (if r15 = 0 then (some Bb) else (gb (f_X6_puts G n Bb (J i : Int) ((e i m).1 : Int) ((e i m).2.1 : Int) 1) fun M18 => gb (f_X6_tries G n d M18 ((i : Int) + 1) (K : Int) (s + (e i m).2.2)) fun M19 => gb (f_X6_puts G n M19 (M19 130 i) ((e i m).1 : Int) ((e i m).2.1 : Int) (-1)) fun M20 => some M20)) fun M17 => l_X6_tries_21 (f_X6_tries G n d) G n F M17 (i : Int) (K : Int) s ((1200 * i : Nat) : Int) ((m : Int) + 1)) = some (ga_st B 100 34 b') ∧ res b b' s (Vf cap U (l i) (e i) (cnt i) (fun o t' => Val cap l (OptE K cnt e) k (i + 1) (addo U (l i) o) t') m) ∧ -1 ≤ b' ∧ b' ≤ 200000 := by
          intro hsb2
          rw [gb_eq hroom]
          by_cases c : ∀ t, t < l i → Bb 119 (300 * (e i m).1 + (e i m).2.1 + t) < Bb 106 (e i m).1
          · obtain ⟨B1, hB1⟩ : ∃ B1, B1 = setr Bb 119 (adr (Bb 119) (300 * (e i m).1 + (e i m).2.1) (l i) 1) := ⟨_, rfl⟩
            have hput := p_puts (n := n) (G := G) (M := Bb) (j := J i) (p := (e i m).1) (h := (e i m).2.1) (len := l i) (d := 1) hG jlt (by omega) z3 (by rw [rb 111 (by omega)]; exact j111)
            rw [← hB1] at hput
            have r1 : ∀ a, a ≠ 100 → a ≠ 119 → B1 a = B a := fun a q1 q2 => by rw [hB1, setr_ne q2, rb a q1]
            obtain ⟨b1, w1, w2, w3⟩ := ih (i + 1) d B1 (addo U (l i) (e i m)) (s + (e i m).2.2) b (by omega) (by omega) (hLS.of (r1 130 (by omega) (by omega)) (r1 111 (by omega) (by omega)) (r1 131 (by omega) (by omega)) (r1 132 (by omega) (by omega)) (r1 133 (by omega) (by omega))) (fun p hp => by rw [r1 106 (by omega) (by omega)]; exact hC p hp) (fun p x q1 q2 => by
                show _ = U p x + (if p = (e i m).1 ∧ (e i m).2.1 ≤ x ∧ x < (e i m).2.1 + l i then 1 else 0)
                rw [hB1, setr_self, rb 119 (by omega)]
                unfold adr
                rw [hu p x q1 q2]
                by_cases d1 : p = (e i m).1 ∧ (e i m).2.1 ≤ x ∧ x < (e i m).2.1 + l i
                · rw [if_pos d1, if_pos (by omega)]
                · rw [if_neg d1, if_neg (by omega), Int.add_zero]) (fun p x => by
                have := hU p x
                have := cto_bd (l := l i) (o := e i m) (p := p) (h := x)
                show 0 ≤ U p x + cto (l i) (e i m) p x ∧ U p x + cto (l i) (e i m) p x ≤ 50 + ((i + 1 : Nat) : Int)
                omega) (by rw [hB1, setr_ne (by omega), hBb, ga_st_self]) (by omega) hb hsb2
            have w1 : f_X6_tries G n d B1 ((i : Int) + 1) (K : Int) (s + (e i m).2.2) = some (ga_st B1 100 34 b1) := w1
            have t130 : (ga_st B1 100 34 b1) 130 i = (J i : Int) := by rw [ga_st_id (by omega), r1 130 (by omega) (by omega)]; exact j130
            have hput2 := p_puts (n := n) (G := G) (M := ga_st B1 100 34 b1) (j := J i) (p := (e i m).1) (h := (e i m).2.1) (len := l i) (d := -1) hG jlt (by omega) z3 (by rw [ga_st_id (by omega), r1 111 (by omega) (by omega)]; exact j111)
            have hback : setr (ga_st B1 100 34 b1) 119 (adr ((ga_st B1 100 34 b1) 119) (300 * (e i m).1 + (e i m).2.1) (l i) (-1)) = ga_st B 100 34 b1 := by
              rw [ga_st_row _ (by omega : 119 ≠ 100), hB1, setr_self, adr_back2, rb 119 (by omega), hBb]
              funext a x
              by_cases ha : a = 119
              · subst ha
                rw [setr_self, ga_st_id (by omega)]
              · rw [setr_ne ha]
                by_cases hx : a = 100 ∧ x = 34
                · rw [hx.1, hx.2, ga_st_self, ga_st_self]
                · unfold ga_st
                  rw [if_neg hx, if_neg hx, setr_ne ha, if_neg hx]
            rw [hback] at hput2
            obtain ⟨b', v1, v2, v3⟩ := ihq (m + 1) F b1 (by omega) (by omega) w3
            refine ⟨b', ?_, res_take (hfe.mp c) (by omega) w2 v2, v3⟩
            rw [if_pos c, gg_pos (by decide), if_neg (by decide), gb_eq hput, gb_eq w1, t130, gb_eq hput2, gb_of]
            exact v1
          · obtain ⟨b', v1, v2, v3⟩ := ihq (m + 1) F b (by omega) (by omega) hb
            refine ⟨b', ?_, res_skip (fun q => c (hfe.mpr q)) v2, v3⟩
            rw [if_neg c, gg_pos (by decide), if_pos rfl, gb_of, hBb]
            exact v1
        have x132 : Bb 132 (1200 * i + m) = cd (e i m) := by rw [rb 132 (by omega)]; exact z1
        have x131 : Bb 131 i = (cnt i : Int) := by rw [rb 131 (by omega)]; exact c131
        have x34 : Bb 100 34 = b := by rw [hBb, ga_st_self]
        have x133 : Bb 133 (i + 1) = lw e k (i + 1) := by rw [rb 133 (by omega)]; exact h133
        have hcd : 0 ≤ cd (e i m) ∧ cd (e i m) ≤ 2147483647 := by unfold cd; omega
        have hcd2 : 0 ≤ cd (e i m) % 2048 ∧ cd (e i m) % 2048 ≤ 2147483647 := by omega
        rw [← hBb, l_X6_tries_21, Int.toNat_natCast, x131, show (((1200 * i : Nat) : Int) + (m : Int)).toNat = 1200 * i + m by omega, x132, x34, show ((i : Int) + 1).toNat = i + 1 by omega, x133, y1, y2, y3, b130, gg_pos (show ix (i : Int) 3 from ⟨by omega, by omega⟩), gg_pos (show ok (m : Int) from ⟨by omega, by omega⟩), gg_pos (show ok (cnt i : Int) from ⟨by omega, by omega⟩), if_pos (by omega), gg_pos (show ix (((1200 * i : Nat) : Int) + (m : Int)) 3600 from ⟨by omega, by omega⟩), gg_pos hcd, gg_pos (show ok b from ⟨by omega, by omega⟩)]
        by_cases c : b = -1
        · rw [if_pos c, gg_pos hcd2]
          exact step (fun q => absurd c q)
        · rw [if_neg c, gg_pos (show ix ((i : Int) + 1) 4 from ⟨by omega, by omega⟩), gg_pos (show ok (s + (e i m).2.2 + lw e k (i + 1)) from ⟨by omega, by omega⟩)]
          by_cases c2 : b ≤ s + (e i m).2.2 + lw e k (i + 1)
          · rw [if_pos c2]
            exact ⟨b, by rw [hBb], res_cut c c2 hsrt hlow, hb⟩
          · rw [if_neg c2, gg_pos hcd2]
            exact step (fun _ => by omega)
    obtain ⟨b', w1, w2, w3⟩ := loop (cnt i) 0 G b (by omega) (by omega) hb
    refine ⟨b', ?_, res_iff w2 (Vf_Val (by omega)), w3⟩
    rw [st_id hB34] at w1
    have w1 : l_X6_tries_21 (f_X6_tries G n d) G n G B (i : Int) (K : Int) s ((1200 * i : Nat) : Int) 0 = some (ga_st B 100 34 b') := w1
    rw [f_X6_tries, gg_pos (show ok (i : Int) from ⟨by omega, by omega⟩), gg_pos (show ok (K : Int) from ⟨by omega, by omega⟩), if_neg (by omega), show (1200 * (i : Int)) = ((1200 * i : Nat) : Int) by omega]
    exact w1
theorem lw_congr {e e' : Nat → Nat → opt} : ∀ (k i : Nat), (∀ x, i ≤ x → e' x 0 = e x 0) → lw e' k i = lw e k i
  | 0, _, _ => rfl
  | k + 1, i, h => by
    show (e' i 0).2.2 + lw e' k (i + 1) = (e i 0).2.2 + lw e k (i + 1)
    rw [h i (Nat.le_refl i), lw_congr k (i + 1) (fun x hx => h x (by omega))]
def dcd (v : Int) : opt := ((v % 4).toNat, (v % 2048 / 4).toNat, v / 2048)
theorem dcd_cd {o : opt} (h1 : o.1 < 4) (h2 : o.2.1 < 300) : dcd (cd o) = o := by
  obtain ⟨y1, y2, y3⟩ := dec_cd h1 h2
  unfold dcd
  rw [y1, y2, y3, Int.toNat_natCast, Int.toNat_natCast]
-- what the search leaves
def frB (B B' : gaM) : Prop := (∀ a, a ≠ 100 → a ≠ 119 → (a < 130 ∨ 133 < a) → B' a = B a) ∧ ∀ b, b ≠ 1 → b ≠ 34 → B' 100 b = B 100 b
theorem frB.tr {B B1 B2 : gaM} (h : frB B B1) (h' : frB B1 B2) : frB B B2 := ⟨fun a q1 q2 q3 => (h'.1 a q1 q2 q3).trans (h.1 a q1 q2 q3), fun b q1 q2 => (h'.2 b q1 q2).trans (h.2 b q1 q2)⟩
theorem p_b71 {N : gaM} {P K : Nat} (hG : 5000 ≤ G) (h : Inv n N) (hKK : K = (wq N n).1) (hK : K ≤ 3) (hPn : N 100 2 = (P : Int)) : ∀ (i F : Nat) (B : gaM) (cnt : Nat → Nat) (e : Nat → Nat → opt), i ≤ K → i < F → stm N B → (∀ p h, p < 4 → h < 300 → B 119 (300 * p + h) = pU0 n N p h) → lsM B P K (wq N n).2 cnt e (lq n N) i → (∀ x o, i ≤ x → x < K → (Co n N ((wq N n).2 x) o ↔ ∃ m, m < cnt x ∧ e x m = o)) → ∃ b B', l_X6_best_71 G n F B (K : Int) ((i : Int) - 1) = some (b, B') ∧ frB B B' ∧ B' 100 1 = (if b = -1 then 4 else 0) ∧ res (-1) b 0 (Val (N 106) (lq n N) (fun x o => x < K ∧ Co n N ((wq N n).2 x) o) K 0 (pU0 n N)) := by
  have hn := h.1.2.2.2.2.2.1
  have h4 := h.1.2.2.1
  have hwq := wq_ok (N := N) n
  intro i
  induction i with
  | zero =>
    intro F B cnt e hiK hF hB hu hL hCo
    obtain ⟨F, rfl⟩ : ∃ F1, F = F1 + 1 := ⟨F - 1, by omega⟩
    obtain ⟨b, w1, w2, w3, w4⟩ := p_try (n := n) (G := G) (P := P) (K := K) (cap := N 106) (J := (wq N n).2) (cnt := cnt) (e := e) (l := lq n N) hG hK (by omega) (fun p hp => by have := h.2.2.1.2.2.2 p (by omega); omega) K 0 5 (ga_st B 100 34 (-1)) (pU0 n N) 0 (-1) (by omega) (by omega) (hL.of (ga_st_row _ (by omega)) (ga_st_row _ (by omega)) (ga_st_row _ (by omega)) (ga_st_row _ (by omega)) (ga_st_row _ (by omega))) (fun p hp => by rw [ga_st_id (by omega), hB.1 106 (by omega) (by omega)]) (fun p x q1 q2 => by rw [ga_st_id (by omega)]; exact hu p x q1 q2) (fun p x => by have := pU0_bd (N := N) hn p x; omega) (by rw [ga_st_self]) (by omega) (by omega) (fun q => absurd rfl q)
    rw [st_st] at w1
    have w1 : f_X6_tries G n 5 (ga_st B 100 34 (-1)) 0 (K : Int) 0 = some (ga_st B 100 34 b) := w1
    have hres : res (-1) b 0 (Val (N 106) (lq n N) (fun x o => x < K ∧ Co n N ((wq N n).2 x) o) K 0 (pU0 n N)) := res_iff w2 (fun t => ⟨Val_mono (fun x o q => ⟨q.1, (hCo x o (Nat.zero_le x) q.1).mpr q.2⟩) K 0 _ t, Val_mono (fun x o q => ⟨q.1, (hCo x o (Nat.zero_le x) q.1).mp q.2⟩) K 0 _ t⟩)
    rw [l_X6_best_71, gg_pos (show ok (((0 : Nat) : Int) - 1) from ⟨by omega, by omega⟩), if_neg (by omega), gB_eq, gb_eq w1, ga_st_self, gg_pos (show ok b from ⟨by omega, by omega⟩)]
    by_cases c : b = -1
    · rw [if_pos c, b_ref]
      refine ⟨-1, ga_st (ga_st B 100 34 b) 100 1 4, rfl, ⟨fun a q1 q2 q3 => by rw [ga_st_row _ q1, ga_st_row _ q1], fun x q1 q2 => by rw [ga_st_ix q1, ga_st_ix q2]⟩, by rw [ga_st_self, if_pos rfl], ?_⟩
      rw [← c]
      rw [c] at hres ⊢
      exact hres
    · rw [if_neg c, b_don]
      exact ⟨b, ga_st (ga_st B 100 34 b) 100 1 0, rfl, ⟨fun a q1 q2 q3 => by rw [ga_st_row _ q1, ga_st_row _ q1], fun x q1 q2 => by rw [ga_st_ix q1, ga_st_ix q2]⟩, by rw [ga_st_self, if_neg c], hres⟩
  | succ i ih =>
    intro F B cnt e hiK hF hB hu hL hCo
    obtain ⟨F, rfl⟩ : ∃ F1, F = F1 + 1 := ⟨F - 1, by omega⟩
    obtain ⟨j130, jlt, j111, jl⟩ := hL.1 i (by omega)
    have hJ := hwq.2.2 i (by omega)
    obtain ⟨-, ⟨u1, u2, u3, u4, u5, u6, u7, u8, u9, -⟩, -⟩ := h.2.2.2.1 _ hJ.1
    have hlq : lq n N i = (N 111 ((wq N n).2 i)).toNat := if_pos (by omega)
    obtain ⟨B1, c, m1, m2, m3, m4, m5, m6⟩ := p_lists (n := n) (G := G) (N := N) (B := B) (i := i) (j := (wq N n).2 i) hG h (by omega) hJ.1 hB hu
    rw [l_X6_best_71, show ((i + 1 : Nat) : Int) - 1 = (i : Int) by omega, gg_pos (show ok (i : Int) from ⟨by omega, by omega⟩), if_pos (by omega), gg_pos (show ix (i : Int) 3 from ⟨by omega, by omega⟩), Int.toNat_natCast, j130, gb_eq m1, m3.1, gg_pos (show ok (c : Int) from ⟨by omega, by omega⟩)]
    have fB : frB B B1 := ⟨fun a q1 q2 q3 => m2.1 a (by omega) (by omega), fun x q1 q2 => by rw [m2.1 100 (by omega) (by omega)]⟩
    by_cases hc : c = 0
    · rw [if_pos (by omega), b_ref]
      refine ⟨-1, ga_st B1 100 1 4, rfl, fB.tr ⟨fun a q1 q2 q3 => ga_st_row _ q1, fun x q1 q2 => ga_st_ix q1⟩, by rw [ga_st_self, if_pos rfl], ⟨Or.inl rfl, fun q => absurd rfl q, fun t ht => absurd ht (Val_no (j := i) (by omega) (fun o ho => ?_) t)⟩⟩
      obtain ⟨m, q1, -⟩ := m3.2.2 o ho.2
      omega
    · have hent : ∀ m, m < c → Co n N ((wq N n).2 i) (dcd (sgm B1 i m)) ∧ sgm B1 i m = cd (dcd (sgm B1 i m)) := by
        intro m hm
        obtain ⟨o, q1, q2⟩ := m3.2.1 m hm
        have q1' := q1
        obtain ⟨r1, r2, r3, r4⟩ := q1
        rw [q2, dcd_cd (by omega) (by omega)]
        exact ⟨q1', rfl⟩
      have hfirst := hent 0 (by omega)
      have hco0 := hfirst.1
      have hcb : ∀ m, m < c → 0 ≤ (dcd (sgm B1 i m)).2.2 ∧ (dcd (sgm B1 i m)).2.2 ≤ 30000 := fun m hm => by
        obtain ⟨⟨r1, r2, r3, r4⟩, -⟩ := hent m hm
        exact pv_bd h hJ.1 (by omega) r3 r4
      obtain ⟨B2, hB2⟩ : ∃ B2, B2 = ga_st B1 133 i (B1 133 (i + 1) + sgm B1 i 0 / 2048) := ⟨_, rfl⟩
      have f2 : frB B B2 := fB.tr (by
        rw [hB2]
        exact ⟨fun a q1 q2 q3 => ga_st_row _ (by omega), fun x q1 q2 => ga_st_id (by omega)⟩)
      have r2 : ∀ a, a ≠ 131 → a ≠ 132 → a ≠ 133 → B2 a = B a := fun a q1 q2 q3 => by rw [hB2, ga_st_row _ q3, m2.1 a q1 q2]
      have sg2 : ∀ x m, sgm B2 x m = sgm B1 x m := fun x m => by
        unfold sgm
        rw [hB2, ga_st_id (by omega)]
      have sgo : ∀ x m, i + 1 ≤ x → sgm B1 x m = sgm B x m := fun x m hx => by
        unfold sgm
        exact m2.2.2 _ (by omega)
      have hlw : ∀ k x, i + 1 ≤ x → lw (fun x => if x = i then (fun m => dcd (sgm B1 i m)) else e x) k x = lw e k x := fun k x hx => lw_congr k x (fun y hy => by
        show (if y = i then (fun m => dcd (sgm B1 i m)) else e y) 0 = e y 0
        rw [if_neg (by omega)])
      have hls : lsM B2 P K (wq N n).2 (fun x => if x = i then c else cnt x) (fun x => if x = i then (fun m => dcd (sgm B1 i m)) else e x) (lq n N) i := by
        refine ⟨fun x hx => ?_, fun x q1 q2 => ?_, fun x k q1 q2 => ?_⟩
        · rw [r2 130 (by omega) (by omega) (by omega), r2 111 (by omega) (by omega) (by omega)]
          exact hL.1 x hx
        · by_cases d : x = i
          · subst d
            simp only [if_true]
            refine ⟨by rw [hB2, ga_st_id (by omega)]; exact m3.1, by omega, m4, fun m m' s1 s2 => ?_, fun m hm => ?_⟩
            · show sgm B1 x m / 2048 ≤ sgm B1 x m' / 2048
              by_cases em : m = m'
              · rw [em]
                exact Int.le_refl _
              · have := m6 m m' (by omega) s2
                omega
            · obtain ⟨⟨v1, v2, v3, v4⟩, v5⟩ := hent m hm
              have hb := hcb m hm
              rw [sg2]
              exact ⟨v5, by omega, by rw [hlq]; omega, by omega, hb.1, hb.2⟩
          · simp only [if_neg d]
            obtain ⟨v1, v2, v3, v4, v5⟩ := hL.2.1 x (by omega) q2
            refine ⟨by rw [hB2, ga_st_id (by omega), m2.2.1 x d]; exact v1, v2, v3, v4, fun m hm => ?_⟩
            rw [sg2, sgo x m (by omega)]
            exact v5 m hm
        · by_cases d : x = i
          · subst d
            obtain ⟨k, rfl⟩ : ∃ k1, k = k1 + 1 := ⟨k - 1, by omega⟩
            rw [hB2, ga_st_self, m2.1 133 (by omega) (by omega), hL.2.2 (x + 1) k (by omega) (by omega)]
            show _ = ((if x = x then (fun m => dcd (sgm B1 x m)) else e x) 0).2.2 + lw (fun y => if y = x then (fun m => dcd (sgm B1 x m)) else e y) k (x + 1)
            rw [if_pos rfl, hlw k (x + 1) (Nat.le_refl _), Int.add_comm]
            rfl
          · rw [hB2, ga_st_ix d, m2.1 133 (by omega) (by omega), hlw k x (by omega)]
            exact hL.2.2 x k (by omega) q2
      obtain ⟨b, B', k1, k2, k3, k4⟩ := ih F B2 (fun x => if x = i then c else cnt x) (fun x => if x = i then (fun m => dcd (sgm B1 i m)) else e x) (by omega) (by omega) ⟨fun a q1 q2 => by rw [r2 a (by omega) (by omega) (by omega)]; exact hB.1 a q1 q2, fun x q1 q2 => by rw [r2 100 (by omega) (by omega) (by omega)]; exact hB.2 x q1 q2⟩ (fun p x q1 q2 => by rw [r2 119 (by omega) (by omega) (by omega)]; exact hu p x q1 q2) hls (fun x o q1 q2 => by
        by_cases d : x = i
        · subst d
          simp only [if_true]
          constructor
          · intro ho
            obtain ⟨m, s1, s2⟩ := m3.2.2 o ho
            refine ⟨m, s1, ?_⟩
            obtain ⟨v1, v2, v3, v4⟩ := ho
            rw [s2, dcd_cd (by omega) (by omega)]
          · intro ⟨m, s1, s2⟩
            rw [← s2]
            exact (hent m s1).1
        · simp only [if_neg d]
          exact hCo x o (by omega) q2)
      refine ⟨b, B', ?_, f2.tr k2, k3, k4⟩
      have hb0 := m5 0 (by omega)
      have e0 : B1 132 (1200 * i) = sgm B1 i 0 := rfl
      rw [if_neg (by omega), gg_pos (show ix ((i : Int) + 1) 4 from ⟨by omega, by omega⟩), gg_pos (show ix (1200 * (i : Int)) 3600 from ⟨by omega, by omega⟩), show (1200 * (i : Int)).toNat = 1200 * i by omega, e0, gg_pos (show 0 ≤ sgm B1 i 0 ∧ sgm B1 i 0 ≤ 2147483647 from ⟨by omega, by omega⟩), gg_pos (show ix (i : Int) 4 from ⟨by omega, by omega⟩), show ((i : Int) + 1).toNat = i + 1 by omega, gB_eq, ← hB2]
      exact k1
theorem p_b9 {N : gaM} (hG : 5000 ≤ G) (h : Inv n N) : ∀ (k j F : Nat) (B : gaM), stm N B → (wq N j).1 ≤ 3 → (∀ i, i < (wq N j).1 → B 130 i = ((wq N j).2 i : Int)) → j + k = n → k < F → ∃ b B', l_X6_best_9 G n F B ((wq N j).1 : Int) (j : Int) = some (b, B') ∧ frB B B' ∧ B' 100 1 = (if b = -1 then 4 else 0) ∧ ((wq N n).1 ≤ 3 → res (-1) b 0 (Val (N 106) (lq n N) (fun x o => x < (wq N n).1 ∧ Co n N ((wq N n).2 x) o) (wq N n).1 0 (pU0 n N))) ∧ (3 < (wq N n).1 → b = -1) := by
  have h' := h
  obtain ⟨a1, a2, a3, a4, a5, a6, a7, a8, a9, a10, a11, a12, a13, a14, a15⟩ := h.1
  intro k
  induction k with
  | zero =>
    intro j F B hB hK h130 hj hF
    obtain ⟨F, rfl⟩ : ∃ F1, F = F1 + 1 := ⟨F - 1, by omega⟩
    have e : j = n := by omega
    subst e
    have hub : ubd j B := by
      obtain ⟨w1, w2, w3⟩ := h.ubd
      refine ⟨by rw [hB.2 3 (by omega) (by omega)]; exact w1, w2, fun j hj => ?_⟩
      rw [hB.1 115 (by omega) (by omega), hB.1 116 (by omega) (by omega), hB.1 117 (by omega) (by omega), hB.1 111 (by omega) (by omega)]
      exact w3 j hj
    obtain ⟨u, e1, e2⟩ := p_uses (n := j) (G := G) hG hub
    have hu0 : ∀ p h, p < 4 → h < 300 → u (300 * p + h) = pU0 j N p h := by
      intro p x q1 q2
      rw [e2 p x q1 q2]
      unfold pU0
      refine sm_congr (fun i _ => ?_)
      unfold oc
      rw [hB.1 115 (by omega) (by omega), hB.1 116 (by omega) (by omega), hB.1 117 (by omega) (by omega), hB.1 111 (by omega) (by omega)]
    obtain ⟨P, hPn⟩ : ∃ P : Nat, N 100 2 = (P : Int) := ⟨(N 100 2).toNat, by omega⟩
    obtain ⟨B1, hB1⟩ : ∃ B1, B1 = ga_st (setr B 119 u) 133 (wq N j).1 0 := ⟨_, rfl⟩
    have r1 : ∀ a, a ≠ 119 → a ≠ 133 → B1 a = B a := fun a q1 q2 => by rw [hB1, ga_st_row _ q2, setr_ne q1]
    have hwq := wq_ok (N := N) j
    obtain ⟨b, B', k1, k2, k3, k4⟩ := p_b71 (n := j) (G := G) (N := N) (P := P) (K := (wq N j).1) hG h rfl hK hPn (wq N j).1 G B1 (fun _ => 0) (fun _ _ => (0, 0, 0)) (Nat.le_refl _) (by omega) ⟨fun a q1 q2 => by rw [r1 a (by omega) (by omega)]; exact hB.1 a q1 q2, fun x q1 q2 => by rw [r1 100 (by omega) (by omega)]; exact hB.2 x q1 q2⟩ (fun p x q1 q2 => by rw [hB1, ga_st_id (by omega), setr_self]; exact hu0 p x q1 q2) ⟨fun i hi => by
        have hJ := hwq.2.2 i hi
        obtain ⟨-, ⟨u1, u2, u3, u4, u5, u6, u7, u8, u9, -⟩, -⟩ := h.2.2.2.1 _ hJ.1
        have hlq : lq j N i = (N 111 ((wq N j).2 i)).toNat := if_pos hi
        rw [r1 130 (by omega) (by omega), r1 111 (by omega) (by omega), hB.1 111 (by omega) (by omega), hlq]
        exact ⟨h130 i hi, by omega, by omega, by omega⟩, fun i q1 q2 => by omega, fun i k q1 q2 => by
        have ei : i = (wq N j).1 := by omega
        have ek : k = 0 := by omega
        rw [ei, ek, hB1, ga_st_self]
        rfl⟩ (fun x o q1 q2 => by omega)
    refine ⟨b, B', ?_, (show frB B B1 from ⟨fun a q1 q2 q3 => r1 a q2 (by omega), fun x q1 q2 => by rw [r1 100 (by omega) (by omega)]⟩).tr k2, k3, fun _ => k4, fun q => by omega⟩
    have e3 : B 100 3 = (j : Int) := by rw [hB.2 3 (by omega) (by omega)]; exact a5
    rw [l_X6_best_9, e3, gg_pos (show ok (j : Int) from ⟨by omega, by omega⟩), gg_pos (show ok (j : Int) from ⟨by omega, by omega⟩), if_neg (by omega), gb_eq e1, gg_pos (show ix ((wq N j).1 : Int) 4 from ⟨by omega, by omega⟩), gB_eq, Int.toNat_natCast, ← hB1]
    exact k1
  | succ k ih =>
    intro j F B hB hK h130 hj hF
    obtain ⟨F, rfl⟩ : ∃ F1, F = F1 + 1 := ⟨F - 1, by omega⟩
    have hjn : j < n := by omega
    have e3 : B 100 3 = (n : Int) := by rw [hB.2 3 (by omega) (by omega)]; exact a5
    have e115 : B 115 j = N 115 j := by rw [hB.1 115 (by omega) (by omega)]
    obtain ⟨-, -, ⟨w1, w2, -⟩⟩ := h.2.2.2.1 j hjn
    have hwq := wq_ok (N := N) j
    rw [l_X6_best_9, e3, gg_pos (show ok (j : Int) from ⟨by omega, by omega⟩), gg_pos (show ok (n : Int) from ⟨by omega, by omega⟩), if_pos (by omega), gg_pos (show ix (j : Int) 40 from ⟨by omega, by omega⟩), Int.toNat_natCast, e115, gg_pos (show ok (N 115 j) from ⟨by omega, by omega⟩)]
    by_cases d : N 115 j = 0
    · have hst : wq N (j + 1) = ((wq N j).1 + 1, fun i => if i = (wq N j).1 then j else (wq N j).2 i) := by
        rw [wq, if_pos d]
      rw [if_pos d, gg_pos (show ok ((wq N j).1 : Int) from ⟨by omega, by omega⟩)]
      by_cases c : (wq N j).1 = 3
      · obtain ⟨mo, -⟩ := wq_mono (N := N) (j := j + 1) (n - (j + 1))
        rw [show j + 1 + (n - (j + 1)) = n by omega, hst] at mo
        have mo : (wq N j).1 + 1 ≤ (wq N n).1 := mo
        rw [if_pos (by omega), b_ref]
        exact ⟨-1, ga_st B 100 1 4, rfl, ⟨fun a q1 q2 q3 => ga_st_row _ q1, fun x q1 q2 => ga_st_ix q1⟩, by rw [ga_st_self, if_pos rfl], fun q => by omega, fun _ => rfl⟩
      · obtain ⟨b, B', k1, k2, k3⟩ := ih (j + 1) F (ga_st B 130 (wq N j).1 (j : Int)) (by rw [st_setr]; exact hB.set (by omega)) (by rw [hst]; show (wq N j).1 + 1 ≤ 3; omega) (by
          rw [hst]
          intro i hi
          have hi : i < (wq N j).1 + 1 := hi
          show _ = ((if i = (wq N j).1 then j else (wq N j).2 i : Nat) : Int)
          by_cases e : i = (wq N j).1
          · rw [if_pos e, e, ga_st_self]
          · rw [if_neg e, ga_st_ix e]
            exact h130 i (by omega)) (by omega) (by omega)
        refine ⟨b, B', ?_, (show frB B (ga_st B 130 (wq N j).1 (j : Int)) from ⟨fun a q1 q2 q3 => ga_st_row _ (by omega), fun x q1 q2 => ga_st_id (by omega)⟩).tr k2, k3⟩
        rw [if_neg (by omega), gg_pos (show ix ((wq N j).1 : Int) 3 from ⟨by omega, by omega⟩), gB_eq, Int.toNat_natCast]
        rw [hst] at k1
        exact k1
    · have hst : wq N (j + 1) = wq N j := by
        rw [wq, if_neg d]
      obtain ⟨b, B', k1, k2, k3⟩ := ih (j + 1) F B hB (by rw [hst]; exact hK) (by rw [hst]; exact h130) (by omega) (by omega)
      refine ⟨b, B', ?_, k2, k3⟩
      rw [if_neg d]
      rw [hst] at k1
      exact k1
theorem e_best {M : gaM} (hG : 5000 ≤ G) (h : Inv n M) : ∃ r Mc Mm, f_X5_best G n M = some (r, Mc) ∧ f_X6_best G n Mc = some (r, Mm) ∧ Inv n Mm := by
  have h' := h
  obtain ⟨a1, a2, a3, a4, a5, a6, a7, a8, a9, a10, a11, a12, a13, a14, a15⟩ := h.1
  have hwq := wq_ok (N := M) n
  have hcount : f_X5_countOf G n M 0 = some ((wq M n).1 : Int) := by
    rw [p_countC hG (by decide) h, hwq.2.1]
  -- the reference, from any class rows
  have ref : ∀ A : gaM, (∀ a, 100 ≤ a → a < 200 → A a = M a) → ∃ b B', f_X6_best G n A = some (b, B') ∧ frB (ga_st A 100 0 0) B' ∧ B' 100 1 = (if b = -1 then 4 else 0) ∧ ((wq M n).1 ≤ 3 → res (-1) b 0 (Val (M 106) (lq n M) (fun x o => x < (wq M n).1 ∧ Co n M ((wq M n).2 x) o) (wq M n).1 0 (pU0 n M))) ∧ (3 < (wq M n).1 → b = -1) := by
    intro A hA
    obtain ⟨b, B', k1, k2⟩ := p_b9 (n := n) (G := G) (N := M) hG h n 0 G (ga_st A 100 0 0) ⟨fun a q1 q2 => by rw [ga_st_row _ (by omega), hA a (by omega) (by omega)], fun b q1 q2 => by rw [ga_st_ix (by omega), hA 100 (by omega) (by omega)]⟩ (by show 0 ≤ 3; omega) (fun i hi => absurd hi (by show ¬ i < 0; omega)) (by omega) (by omega)
    refine ⟨b, B', ?_, k2⟩
    unfold f_X6_best
    rw [gB_eq]
    exact k1
  -- the end: the numbers stand as they did
  have fin : ∀ (A B' : gaM) (t : Int), 0 ≤ t ∧ t ≤ 4 → (∀ x, x ≠ 6 → x ≠ 7 → (x < 61 ∨ 64 < x) → (x < 71 ∨ 83 < x) → A x = M x) → frB (ga_st (ga_st A 0 10 t) 100 0 0) B' → B' 100 1 = t → Inv n B' := by
    intro A B' t ht hA hf h1
    have e0 : ∀ b, b ≠ 10 → B' 0 b = M 0 b := fun b hb => by rw [hf.1 0 (by omega) (by omega) (by omega), ga_st_id (by omega), ga_st_ix hb, hA 0 (by omega) (by omega) (by omega) (by omega)]
    have e010 : B' 0 10 = t := by rw [hf.1 0 (by omega) (by omega) (by omega), ga_st_id (by omega), ga_st_self]
    have er : ∀ x, x ≠ 0 → x ≠ 6 → x ≠ 7 → (x < 61 ∨ 64 < x) → (x < 71 ∨ 83 < x) → x ≠ 100 → x ≠ 119 → (x < 130 ∨ 133 < x) → B' x = M x := fun x q0 q1 q2 q3 q4 q5 q6 q7 => by rw [hf.1 x q5 q6 q7, ga_st_row _ q5, ga_st_row _ q0, hA x q1 q2 q3 q4]
    have e100 : ∀ b, b ≠ 1 → b ≠ 34 → b ≠ 0 → B' 100 b = M 100 b := fun b q1 q2 q3 => by rw [hf.2 b q1 q2, ga_st_ix q3, ga_st_id (by omega), hA 100 (by omega) (by omega) (by omega) (by omega)]
    refine h.sc ?_ (fun a ha => by unfold rel at ha; exact er a (by omega) (by omega) (by omega) (by omega) (by omega) (by omega) (by omega) (by omega)) (e100 2 (by omega) (by omega) (by omega)) (e100 4 (by omega) (by omega) (by omega)) (e100 29 (by omega) (by omega) (by omega)) (by rw [er 4 (by omega) (by omega) (by omega) (by omega) (by omega) (by omega) (by omega) (by omega)])
    unfold iA
    rw [er 1 (by omega) (by omega) (by omega) (by omega) (by omega) (by omega) (by omega) (by omega), er 2 (by omega) (by omega) (by omega) (by omega) (by omega) (by omega) (by omega) (by omega), e100 2 (by omega) (by omega) (by omega), e100 3 (by omega) (by omega) (by omega), e100 4 (by omega) (by omega) (by omega), e100 5 (by omega) (by omega) (by omega), e0 9 (by omega), e0 8 (by omega), e010, h1]
    exact ⟨a1, a2, a3, a4, a5, a6, a7, a8, a9, a10, a11, a12, rfl, ht.1, ht.2⟩
  by_cases hK : (wq M n).1 ≤ 3
  · obtain ⟨b, A', Kp, m1, m2, m3, m4, m5, m6, m7⟩ := p_leastC (n := n) (G := G) (N := M) (A0 := M) hG h stc.rf (fun p x q1 q2 q3 => h.2.2.2.2.1 p x q1 q2 q3) hK
    obtain ⟨t, ht⟩ : ∃ t : Int, t = if b = -1 then 4 else 0 := ⟨_, rfl⟩
    have ht4 : 0 ≤ t ∧ t ≤ 4 := by
      rw [ht]
      split <;> omega
    obtain ⟨b2, B', k1, k2, k3, k4, -⟩ := ref (ga_st A' 0 10 t) (fun a q1 q2 => by rw [ga_st_row _ (by omega), m2 a (by omega) (by omega) (by omega) (by omega)])
    have hb : b = b2 := by
      refine res_two m5 (k4 hK) (fun v hv => Val_mono (fun i o q => m6 i o q) _ _ _ _ hv) (fun v hv => ?_)
      have hx := exch (cap := M 106) (U := pU0 n M) (l := lq n M) (C := fun x o => x < (wq M n).1 ∧ Co n M ((wq M n).2 x) o) (Kp := Kp) (K := (wq M n).1) hK (fun i => by
        unfold lq
        by_cases c : i < (wq M n).1
        · obtain ⟨-, ⟨u1, u2, u3, u4, u5, u6, -⟩, -⟩ := h.2.2.2.1 _ (hwq.2.2 i c).1
          rw [if_pos c]
          omega
        · rw [if_neg c]
          omega) (fun i o hi ho => by
          obtain ⟨-, q1, q2, q3, q4⟩ := ho
          have hlq : lq n M i = (M 111 ((wq M n).2 i)).toNat := if_pos hi
          intro t ht
          rw [hlq] at ht
          unfold pv at q4
          by_cases d : ∀ i_1, i_1 < (M 111 ((wq M n).2 i)).toNat → pU0 n M o.1 (o.2.1 + i_1) < M 106 o.1
          · exact d t ht
          · rw [if_neg d] at q4
            cases q4) (fun i o hi ho => m6 i o ho) (fun i o hi ho => m7 i o hi ho.2) hv
      exact hx
    subst hb
    refine ⟨b, ga_st A' 0 10 t, B', ?_, k1, fin A' B' t ht4 m2 k2 (by rw [k3, ht])⟩
    have hl : f_X5_leastTogether G n M = some (b, A') := m1
    unfold f_X5_best
    rw [gb_eq hcount, gg_pos (show ok ((wq M n).1 : Int) from ⟨by omega, by omega⟩), if_pos (by omega), hl, gb2_of, gb2_of, gg_pos (show ok b from ⟨by omega, by omega⟩)]
    by_cases c : b = -1
    · rw [if_pos c] at ht
      rw [if_pos c, gb_of, gB_eq, ht]
    · rw [if_neg c] at ht
      rw [if_neg c, gb_of, gB_eq, ht]
  · obtain ⟨b2, B', k1, k2, k3, -, k5⟩ := ref (ga_st M 0 10 4) (fun a q1 q2 => by rw [ga_st_row _ (by omega)])
    have hb := k5 (by omega)
    subst hb
    refine ⟨-1, ga_st M 0 10 4, B', ?_, k1, fin M B' 4 (by omega) (fun _ _ _ _ _ => rfl) k2 (by rw [k3, if_pos rfl])⟩
    unfold f_X5_best
    rw [gb_eq hcount, gg_pos (show ok ((wq M n).1 : Int) from ⟨by omega, by omega⟩), if_neg (by omega), gb2_of, gg_pos (by decide), if_pos rfl, gb_of, gB_eq]
end BM

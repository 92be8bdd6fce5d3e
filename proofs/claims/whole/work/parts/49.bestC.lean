/-! ===== pure: the best LAYING together, the class's search ===== -/
section BC
variable {n G : Nat}
def lw (e : Nat → Nat → opt) : Nat → Nat → Int
  | 0, _ => 0
  | k + 1, i => (e i 0).2.2 + lw e k (i + 1)
def OptE (K : Nat) (cnt : Nat → Nat) (e : Nat → Nat → opt) (i : Nat) (o : opt) : Prop := i < K ∧ ∃ m, m < cnt i ∧ e i m = o
def srt (cnt : Nat) (e : Nat → opt) : Prop := ∀ m m', m ≤ m' → m' < cnt → (e m).2.2 ≤ (e m').2.2
theorem Val_low {cap : Nat → Int} {l : Nat → Nat} {K : Nat} {cnt : Nat → Nat} {e : Nat → Nat → opt} (hs : ∀ i, i < K → srt (cnt i) (e i)) : ∀ (k i : Nat) (U : Nat → Nat → Int) (t : Int), Val cap l (OptE K cnt e) k i U t → lw e k i ≤ t
  | 0, _, _, t, h => by
    have h : t = 0 := h
    show 0 ≤ t
    omega
  | k + 1, i, U, t, h => by
    obtain ⟨o, ⟨hi, m, h1, h2⟩, h3, t', h4, h5⟩ := h
    have a1 := Val_low hs k (i + 1) _ t' h4
    have a2 := hs i hi 0 m (Nat.zero_le m) h1
    rw [h2] at a2
    show (e i 0).2.2 + lw e k (i + 1) ≤ t
    omega
theorem lw_bd {K : Nat} {cnt : Nat → Nat} {e : Nat → Nat → opt} (h1 : ∀ i, i < K → 1 ≤ cnt i) (hb : ∀ i m, i < K → m < cnt i → 0 ≤ (e i m).2.2 ∧ (e i m).2.2 ≤ 30000) : ∀ (k i : Nat), i + k = K → 0 ≤ lw e k i ∧ lw e k i ≤ 30000 * k
  | 0, _, _ => by
    show 0 ≤ (0 : Int) ∧ (0 : Int) ≤ 30000 * (0 : Nat)
    omega
  | k + 1, i, h => by
    have a1 := lw_bd h1 hb k (i + 1) (by omega)
    have a2 := hb i 0 (by omega) (h1 i (by omega))
    show 0 ≤ (e i 0).2.2 + lw e k (i + 1) ∧ (e i 0).2.2 + lw e k (i + 1) ≤ _
    omega
theorem Vf_Val {cap : Nat → Int} {l : Nat → Nat} {K k i : Nat} {cnt : Nat → Nat} {e : Nat → Nat → opt} {U : Nat → Nat → Int} (hi : i < K) (t : Int) : Vf cap U (l i) (e i) (cnt i) (fun o t' => Val cap l (OptE K cnt e) k (i + 1) (addo U (l i) o) t') 0 t ↔ Val cap l (OptE K cnt e) (k + 1) i U t := by
  constructor
  · intro ⟨m, h1, h2, h3, t', h4, h5⟩
    exact ⟨e i m, ⟨hi, m, h2, rfl⟩, h3, t', h4, h5⟩
  · intro ⟨o, ⟨_, m, h1, h2⟩, h3, t', h4, h5⟩
    subst h2
    exact ⟨m, Nat.zero_le m, h1, h3, t', h4, h5⟩
-- the class's lists in its rows
def lsC (M : gaM) (P : Nat) (now : Int) (K : Nat) (cnt : Nat → Nat) (e : Nat → Nat → opt) (l : Nat → Nat) : Prop := M 7 5 = (K : Int) ∧ ∀ i, i < K → M 82 i = (cnt i : Int) ∧ M 83 i = (l i : Int) ∧ 1 ≤ cnt i ∧ cnt i ≤ 47 ∧ srt (cnt i) (e i) ∧ ∀ m, m < cnt i → M (71 + i) m = ((e i m).1 : Int) ∧ M (75 + i) m = ((e i m).2.1 : Int) ∧ M (79 + i) m = (e i m).2.2 ∧ (e i m).1 < P ∧ now ≤ ((e i m).2.1 : Int) ∧ (e i m).2.1 + l i ≤ 300 ∧ 0 ≤ (e i m).2.2 ∧ (e i m).2.2 ≤ 30000
theorem lsC.set {M : gaM} {P K p : Nat} {now : Int} {cnt : Nat → Nat} {e : Nat → Nat → opt} {l : Nat → Nat} {f : Nat → Int} (hK : K ≤ 3) (hp : p < 4) (h : lsC M P now K cnt e l) : lsC (setr M (31 + p) f) P now K cnt e l := by
  refine ⟨by rw [setr_ne (by omega)]; exact h.1, fun i hi => ?_⟩
  have := h.2 i hi
  rw [setr_ne (by omega), setr_ne (by omega), setr_ne (by omega), setr_ne (by omega), setr_ne (by omega)]
  exact this
theorem p_chf {M : gaM} {P K : Nat} {now : Int} {cnt : Nat → Nat} {e : Nat → Nat → opt} {l : Nat → Nat} (hK : K ≤ 3) (h : lsC M P now K cnt e l) : ∀ (k i F : Nat) (acc : Int), i + k = K → k < F → l_X3_cheapestFrom_4 G n M F acc (i : Int) = some (acc + lw e k i) := by
  intro k
  induction k with
  | zero =>
    intro i F acc hi hF
    obtain ⟨F, rfl⟩ : ∃ F1, F = F1 + 1 := ⟨F - 1, by omega⟩
    have h1 := h.1
    rw [l_X3_cheapestFrom_4]
    try simp (disch := (first | omega | (simp (disch := omega) only [ga_st_self, ga_st_id, ga_st_ix] <;> omega) | skip)) only [↓gb_of, ↓gb2_of, ↓gb3_of, ↓gB_eq, ↓gg_pos, ↓if_pos, ↓if_neg, ↓b_wi1, ↓b_wi0, ↓b_has1, ↓b_has0, ↓b_in1, ↓b_in0, ↓b_pl1, ↓b_pl0, ↓b_jm1, ↓b_jm0, ↓b_jc1, ↓b_jc0, ↓b_size, ↓b_get, ↓b_ref, ↓b_den, ↓b_gra, ↓b_don]
    show some acc = some (acc + 0)
    rw [Int.add_zero]
  | succ k ih =>
    intro i F acc hi hF
    obtain ⟨F, rfl⟩ : ∃ F1, F = F1 + 1 := ⟨F - 1, by omega⟩
    have h1 := h.1
    obtain ⟨-, -, c1, -, -, hm⟩ := h.2 i (by omega)
    have h3 := (hm 0 (by omega)).2.2.1
    rw [l_X3_cheapestFrom_4, h1, gg_pos (show ok (i : Int) from ⟨by omega, by omega⟩), gg_pos (show ok (K : Int) from ⟨by omega, by omega⟩), if_pos (by omega), gg_pos (show ix (i : Int) 3 from ⟨by omega, by omega⟩), gg_pos (show ix 0 47 from ⟨by omega, by omega⟩), Int.toNat_natCast, show (0 : Int).toNat = 0 from rfl, h3, show ((i : Int) + 1) = ((i + 1 : Nat) : Int) from rfl, ih (i + 1) F _ (by omega) (by omega)]
    show _ = some (acc + ((e i 0).2.2 + lw e k (i + 1)))
    rw [Int.add_assoc]
theorem adr_adr {f : Nat → Int} {a k : Nat} {d : Int} : adr (adr f a k d) a k (-d) = f := by
  funext x
  unfold adr
  by_cases c : a ≤ x ∧ x < a + k
  · rw [if_pos c, if_pos c]
    omega
  · rw [if_neg c, if_neg c]
theorem adr_back {f : Nat → Int} {a k : Nat} : adr (adr f a k (-1)) a k 1 = f := adr_adr (d := -1)
theorem adr_back2 {f : Nat → Int} {a k : Nat} : adr (adr f a k 1) a k (-1) = f := adr_adr (d := 1)
def rmU (M : gaM) (P : Nat) (now : Int) (cap : Nat → Int) (U : Nat → Nat → Int) : Prop := ∀ p h : Nat, p < P → now ≤ (h : Int) → h < 300 → M (31 + p) h = cap p - U p h
theorem p_srch {P K : Nat} {now : Int} {cap : Nat → Int} {cnt : Nat → Nat} {e : Nat → Nat → opt} {l : Nat → Nat} (hG : 5000 ≤ G) (hK : K ≤ 3) (hP : P ≤ 4) (hcap : ∀ p, p < P → 0 ≤ cap p ∧ cap p ≤ 9) (hl : ∀ i, i < K → l i ≤ 12) : ∀ (k i d : Nat) (M : gaM) (U : Nat → Nat → Int) (s b : Int), i + k = K → k < d → lsC M P now K cnt e l → rmU M P now cap U → (∀ p h, 0 ≤ U p h ∧ U p h ≤ 50 + i) → 0 ≤ s ∧ s ≤ 30000 * i → -1 ≤ b ∧ b ≤ 200000 → (b ≠ -1 → s + lw e k i < b) → ∃ b', f_X3_search G n d M (i : Int) s b = some (b', M) ∧ res b b' s (Val cap l (OptE K cnt e) k i U) ∧ -1 ≤ b' ∧ b' ≤ 200000 := by
  intro k
  induction k with
  | zero =>
    intro i d M U s b hi hd hLS hR hU hs hb hsb
    obtain ⟨d, rfl⟩ : ∃ d1, d = d1 + 1 := ⟨d - 1, by omega⟩
    have h1 := hLS.1
    refine ⟨s, ?_, res_leaf hs.1 (fun q => ?_), by omega, by omega⟩
    · rw [f_X3_search, h1, gg_pos (show ok (i : Int) from ⟨by omega, by omega⟩), gg_pos (show ok (K : Int) from ⟨by omega, by omega⟩), if_pos (by omega)]
    · have := hsb q
      have : s + 0 < b := this
      omega
  | succ k ih =>
    intro i d M U s b hi hd hLS hR hU hs hb hsb
    obtain ⟨d, rfl⟩ : ∃ d1, d = d1 + 1 := ⟨d - 1, by omega⟩
    have h1 := hLS.1
    obtain ⟨c82, c83, c1, c47, hsrt, hm⟩ := hLS.2 i (by omega)
    have hlow : ∀ o t', Val cap l (OptE K cnt e) k (i + 1) (addo U (l i) o) t' → lw e k (i + 1) ≤ t' := fun o t' => Val_low (fun i hi => (hLS.2 i hi).2.2.2.2.1) k (i + 1) _ t'
    have hlb := lw_bd (K := K) (cnt := cnt) (e := e) (fun i hi => (hLS.2 i hi).2.2.1) (fun i m hi hm => ((hLS.2 i hi).2.2.2.2.2 m hm).2.2.2.2.2.2) k (i + 1) (by omega)
    have hli := hl i (by omega)
    have loop : ∀ (q m F : Nat) (b : Int), m + q = cnt i → q < F → -1 ≤ b ∧ b ≤ 200000 → ∃ b', l_X3_search_26 (f_X3_search G n d) G n F M (i : Int) s b (lw e k (i + 1)) (m : Int) = some (b', M) ∧ res b b' s (Vf cap U (l i) (e i) (cnt i) (fun o t' => Val cap l (OptE K cnt e) k (i + 1) (addo U (l i) o) t') m) ∧ -1 ≤ b' ∧ b' ≤ 200000 := by
      intro q
      induction q with
      | zero =>
        intro m F b hm2 hF hb
        obtain ⟨F, rfl⟩ : ∃ F1, F = F1 + 1 := ⟨F - 1, by omega⟩
        refine ⟨b, ?_, res_end (by omega), hb⟩
        rw [l_X3_search_26, Int.toNat_natCast, c82, gg_pos (show ix (i : Int) 3 from ⟨by omega, by omega⟩), gg_pos (show ok (m : Int) from ⟨by omega, by omega⟩), gg_pos (show ok (cnt i : Int) from ⟨by omega, by omega⟩), if_neg (by omega)]
      | succ q ihq =>
        intro m F b hm2 hF hb
        obtain ⟨F, rfl⟩ : ∃ F1, F = F1 + 1 := ⟨F - 1, by omega⟩
        obtain ⟨z1, z2, z3, z4, z5, z6, z7, z8⟩ := hm m (by omega)
        have hfits : f_X2_fits G n M ((e i m).1 : Int) ((e i m).2.1 : Int) (l i : Int) = some (if ∀ t, t < l i → 0 < M (31 + (e i m).1) ((e i m).2.1 + t) then 1 else 0) := p_fits hG (by omega) (by omega) (fun x hx hx2 => by
          rw [hR (e i m).1 x z4 (by omega) hx]
          have := hU (e i m).1 x
          have := hcap (e i m).1 z4
          exact ⟨by omega, by omega⟩)
        have hfe : (∀ t, t < l i → 0 < M (31 + (e i m).1) ((e i m).2.1 + t)) ↔ fit cap U (l i) (e i m) := by
          constructor
          · intro h t ht
            have := h t ht
            rw [hR (e i m).1 _ z4 (by omega) (by omega)] at this
            omega
          · intro h t ht
            have := h t ht
            rw [hR (e i m).1 _ z4 (by omega) (by omega)]
            omega
        -- the step: fits or not, then on
        have step : (b ≠ -1 → s + (e i m).2.2 + lw e k (i + 1) < b) → ∃ b', (gb (f_X2_fits G n M ((e i m).1 : Int) ((e i m).2.1 : Int) (l i : Int)) fun r9 => gg (ok r9) <| gb2 (if r9 = 0 then (some (M, b)) else (gb (f_X2_take G n M ((e i m).1 : Int) ((e i m).2.1 : Int) (l i : Int)) fun M12 => gb2 (f_X3_search G n d M12 ((i : Int) + 1) (s + (e i m).2.2) b) fun r13 M13 => gb (f_X2_giveBack G n M13 ((e i m).1 : Int) ((e i m).2.1 : Int) (M13 83 i)) fun M14 => some (M14, r13))) fun M11 x5_11 => l_X3_search_26 (f_X3_search G n d) G n F M11 (i : Int) s x5_11 (lw e k (i + 1)) ((m : Int) + 1)) = some (b', M) ∧ res b b' s (Vf cap U (l i) (e i) (cnt i) (fun o t' => Val cap l (OptE K cnt e) k (i + 1) (addo U (l i) o) t') m) ∧ -1 ≤ b' ∧ b' ≤ 200000 := by
          intro hsb2
          rw [gb_eq hfits]
          by_cases c : ∀ t, t < l i → 0 < M (31 + (e i m).1) ((e i m).2.1 + t)
          · rw [if_pos c, gg_pos (by decide), if_neg (by decide), gb_eq (p_take hG (by omega) (by omega))]
            obtain ⟨M1, hM1⟩ : ∃ M1, M1 = setr M (31 + (e i m).1) (adr (M (31 + (e i m).1)) (e i m).2.1 (l i) (-1)) := ⟨_, rfl⟩
            rw [← hM1]
            have hback : setr M1 (31 + (e i m).1) (adr (M1 (31 + (e i m).1)) (e i m).2.1 (l i) 1) = M := by
              rw [hM1, setr_self, setr_setr, adr_back, setr_id]
            have hLS1 : lsC M1 P now K cnt e l := by rw [hM1]; exact hLS.set hK (by omega)
            obtain ⟨b1, y1, y2, y3⟩ := ih (i + 1) d M1 (addo U (l i) (e i m)) (s + (e i m).2.2) b (by omega) (by omega) hLS1 (fun p x q1 q2 q3 => by
              show _ = cap p - (U p x + (if p = (e i m).1 ∧ (e i m).2.1 ≤ x ∧ x < (e i m).2.1 + l i then 1 else 0))
              have hRp := hR p x q1 q2 q3
              by_cases d1 : p = (e i m).1
              · rw [hM1, d1, setr_self]
                rw [d1] at hRp
                unfold adr
                rw [hRp]
                by_cases d2 : (e i m).2.1 ≤ x ∧ x < (e i m).2.1 + l i
                · rw [if_pos d2, if_pos ⟨rfl, d2⟩]
                  omega
                · rw [if_neg d2, if_neg (fun r => d2 r.2)]
                  omega
              · rw [hM1, setr_ne (by omega), hRp, if_neg (fun r => d1 r.1)]
                omega) (fun p x => by
              have := hU p x
              have := cto_bd (l := l i) (o := e i m) (p := p) (h := x)
              show 0 ≤ U p x + cto (l i) (e i m) p x ∧ U p x + cto (l i) (e i m) p x ≤ 50 + ((i + 1 : Nat) : Int)
              omega) (by omega) hb hsb2
            obtain ⟨b', w1, w2, w3⟩ := ihq (m + 1) F b1 (by omega) (by omega) y3
            refine ⟨b', ?_, res_take (hfe.mp c) (by omega) y2 w2, w3⟩
            have y1 : f_X3_search G n d M1 ((i : Int) + 1) (s + (e i m).2.2) b = some (b1, M1) := y1
            have h83 : M1 83 i = (l i : Int) := by rw [hM1, setr_ne (by omega)]; exact c83
            rw [y1, gb2_of, h83, gb_eq (p_give hG (by omega) (by omega)), hback, gb2_of]
            exact w1
          · rw [if_neg c, gg_pos (by decide), if_pos rfl, gb2_of]
            obtain ⟨b', w1, w2, w3⟩ := ihq (m + 1) F b (by omega) (by omega) hb
            exact ⟨b', w1, res_skip (fun q => c (hfe.mpr q)) w2, w3⟩
        rw [l_X3_search_26, Int.toNat_natCast, Int.toNat_natCast, c82, z1, z2, z3, c83, gg_pos (show ix (i : Int) 3 from ⟨by omega, by omega⟩), gg_pos (show ok (m : Int) from ⟨by omega, by omega⟩), gg_pos (show ok (cnt i : Int) from ⟨by omega, by omega⟩), if_pos (by omega), gg_pos (show ix (m : Int) 47 from ⟨by omega, by omega⟩), gg_pos (show ok b from ⟨by omega, by omega⟩)]
        by_cases c : b = -1
        · rw [if_pos c]
          exact step (fun q => absurd c q)
        · rw [if_neg c, gg_pos (show ok (s + (e i m).2.2 + lw e k (i + 1)) from ⟨by omega, by omega⟩)]
          by_cases c2 : b ≤ s + (e i m).2.2 + lw e k (i + 1)
          · rw [if_pos c2]
            exact ⟨b, rfl, res_cut c c2 hsrt hlow, hb⟩
          · rw [if_neg c2]
            exact step (fun _ => by omega)
    obtain ⟨b', w1, w2, w3⟩ := loop (cnt i) 0 G b (by omega) (by omega) hb
    refine ⟨b', ?_, res_iff w2 (Vf_Val (by omega)), w3⟩
    have hch : f_X3_cheapestFrom G n M ((i : Int) + 1) = some (lw e k (i + 1)) := by
      have := p_chf (n := n) (G := G) hK hLS k (i + 1) G 0 (by omega) (by omega)
      rw [Int.zero_add] at this
      exact gb_eq this
    have w1 : l_X3_search_26 (f_X3_search G n d) G n G M (i : Int) s b (lw e k (i + 1)) 0 = some (b', M) := w1
    rw [f_X3_search, h1, gg_pos (show ok (i : Int) from ⟨by omega, by omega⟩), gg_pos (show ok (K : Int) from ⟨by omega, by omega⟩), if_neg (by omega), gb_eq hch]
    exact w1
end BC

/-! ===== pure: the class's table of prices ===== -/
section F1
variable {n G : Nat}
def opn (r : Nat → Int) (v5 : Int) (y : Nat) : Prop := v5 = 1 ∨ 0 < r y
def vl (g r : Nat → Int) (v5 : Int) (c : Int) (len b : Nat) : Int := if ∀ i, i < len → v5 = 1 ∨ 0 < r (b + i) then c + sm g b len else -1
theorem sm_drop {g : Nat → Int} {a k : Nat} : sm g a (k + 1) - g a = sm g (a + 1) k := by
  rw [sm_first]
  omega
theorem p_fillRow_l {a e len z6 z7 z8 : Nat} {v5 c : Int} (g r : Nat → Int) (h5 : v5 = 0 ∨ v5 = 1) (hl1 : 1 ≤ len) (hl : len ≤ 12) (he : e ≤ 300) (h68 : z6 ≠ z8) (h78 : z7 ≠ z8) (h86 : z8 ≠ 6) (hrok : v5 = 0 → ∀ y, a ≤ y → y < 300 → ok (r y)) :
    ∀ (k x F : Nat) (M : gaM) (sum : Int) (op : Nat), x + k = e ∨ (k = 0 ∧ e ≤ x) → a ≤ x → x ≤ 300 → k < F → M z6 = g → M z7 = r → M 6 2 = (a : Int) → (∀ m, m ≤ len → m = x - a ∨ (m = len ∧ len ≤ x - a) → sum = c + sm g (x - m) m) → op ≤ x - a → (∀ i, i < op → v5 = 1 ∨ 0 < r (x - 1 - i)) → (op < x - a → ¬ (v5 = 1 ∨ 0 < r (x - 1 - op))) →
    ∃ row, l_X1_fillRow_47 G n F M (e : Int) v5 z6 z7 z8 (len : Int) sum (op : Int) (x : Int) = some (setr M z8 row) ∧ ∀ b, row b = if a ≤ b ∧ x < b + len ∧ b + len ≤ e then vl g r v5 c len b else M z8 b := by
  intro k
  induction k with
  | zero =>
    intro x F M sum op hx hax hx3 hF hg hr h62 hs ho1 ho2 ho3
    obtain ⟨F, rfl⟩ : ∃ F1, F = F1 + 1 := ⟨F - 1, by omega⟩
    refine ⟨M z8, ?_, fun b => by rw [if_neg (by omega)]⟩
    rw [l_X1_fillRow_47]
    try simp only [Int.toNat_natCast, tn300, tn4, Nat.reduceMul, Nat.reduceAdd]
    try simp (disch := (first | omega | (simp (disch := omega) only [ga_st_self, ga_st_id, ga_st_ix] <;> omega) | skip)) only [↓gb_of, ↓gb2_of, ↓gb3_of, ↓gB_eq, ↓gg_pos, ↓if_pos, ↓if_neg, ↓b_wi1, ↓b_wi0, ↓b_has1, ↓b_has0, ↓b_in1, ↓b_in0, ↓b_pl1, ↓b_pl0, ↓b_jm1, ↓b_jm0, ↓b_jc1, ↓b_jc0, ↓b_size, ↓b_get, ↓b_ref, ↓b_den, ↓b_gra, ↓b_don]
    rw [setr_id]
  | succ k ih =>
    intro x F M sum op hx hax hx3 hF hg hr h62 hs ho1 ho2 ho3
    obtain ⟨F, rfl⟩ : ∃ F1, F = F1 + 1 := ⟨F - 1, by omega⟩
    -- the sum with this HOUR, and less the one that leaves
    obtain ⟨sum', hsum'⟩ : ∃ s' : Int, s' = (if (a : Int) < (x : Int) - (len : Int) + 1 then sum + g x - g (x - len) else sum + g x) := ⟨_, rfl⟩
    obtain ⟨op', hop'⟩ : ∃ o' : Nat, o' = (if v5 = 1 ∨ 0 < r x then op + 1 else 0) := ⟨_, rfl⟩
    have hsnew : ∀ m, m ≤ len → m = x + 1 - a ∨ (m = len ∧ len ≤ x + 1 - a) → sum' = c + sm g (x + 1 - m) m := by
      intro m hm hmm
      by_cases q : (a : Int) < (x : Int) - (len : Int) + 1
      · rw [if_pos q] at hsum'
        have hml : m = len := by omega
        have h1 := hs len (Nat.le_refl _) (Or.inr ⟨rfl, by omega⟩)
        have h2 := sm_drop (g := g) (a := x - len) (k := len)
        have h3 : sm g (x - len) (len + 1) = sm g (x - len) len + g (x - len + len) := rfl
        rw [show x - len + len = x by omega] at h3
        rw [hsum', hml, show x + 1 - len = x - len + 1 by omega, ← h2, h3, h1]
        omega
      · rw [if_neg q] at hsum'
        obtain ⟨m', rfl⟩ : ∃ m', m = m' + 1 := ⟨m - 1, by omega⟩
        have h1 := hs m' (by omega) (by omega)
        have h3 : sm g (x - m') (m' + 1) = sm g (x - m') m' + g (x - m' + m') := rfl
        rw [show x - m' + m' = x by omega] at h3
        rw [hsum', show x + 1 - (m' + 1) = x - m' by omega, h3, h1]
        omega
    have ho1' : op' ≤ x + 1 - a := by
      rw [hop']
      split <;> omega
    have ho2' : ∀ i, i < op' → v5 = 1 ∨ 0 < r (x + 1 - 1 - i) := by
      intro i hi
      by_cases q : v5 = 1 ∨ 0 < r x
      · rw [if_pos q] at hop'
        cases i with
        | zero => rw [show x + 1 - 1 - 0 = x by omega]; exact q
        | succ i =>
          have := ho2 i (by omega)
          rw [show x + 1 - 1 - (i + 1) = x - 1 - i by omega]
          exact this
      · rw [if_neg q] at hop'
        omega
    have ho3' : op' < x + 1 - a → ¬ (v5 = 1 ∨ 0 < r (x + 1 - 1 - op')) := by
      intro hlt
      by_cases q : v5 = 1 ∨ 0 < r x
      · rw [if_pos q] at hop'
        have := ho3 (by omega)
        rw [show x + 1 - 1 - op' = x - 1 - op by omega]
        exact this
      · rw [if_neg q] at hop'
        rw [hop', show x + 1 - 1 - 0 = x by omega]
        exact q
    have hval : (a : Int) ≤ (x : Int) - (len : Int) + 1 → (if (len : Int) ≤ (op' : Int) then sum' else -1) = vl g r v5 c len (x + 1 - len) := by
      intro hb
      unfold vl
      by_cases q : (len : Int) ≤ (op' : Int)
      · rw [if_pos q, if_pos]
        · exact hsnew len (Nat.le_refl _) (Or.inr ⟨rfl, by omega⟩)
        · intro i hi
          have := ho2' (len - 1 - i) (by omega)
          rw [show x + 1 - 1 - (len - 1 - i) = x + 1 - len + i by omega] at this
          exact this
      · rw [if_neg q, if_neg]
        intro hall
        have h1 := ho3' (by omega)
        have h2 := hall (len - 1 - op') (by omega)
        rw [show x + 1 - len + (len - 1 - op') = x + 1 - 1 - op' by omega] at h2
        exact h1 h2
    have hopen : (if v5 = 0 then gg (ok (r x)) (if 0 < r x then some ((op : Int) + 1) else some 0) else some ((op : Int) + 1)) = some (op' : Int) := by
      rcases h5 with q | q
      · rw [if_pos q, gg_pos (hrok q x hax (by omega)), hop']
        by_cases d : 0 < r x
        · rw [if_pos d, if_pos (Or.inr d)]
          rfl
        · rw [if_neg d, if_neg (by omega)]
          rfl
      · rw [if_neg (by omega), hop', if_pos (Or.inl q)]
        rfl
    have hsm : (if (a : Int) < (x : Int) - (len : Int) + 1 then gg (ix ((x : Int) - (len : Int) + 1 - 1) 300) (some (sum + g x - g ((x : Int) - (len : Int) + 1 - 1).toNat)) else some (sum + g x)) = some sum' := by
      by_cases q : (a : Int) < (x : Int) - (len : Int) + 1
      · rw [if_pos q] at hsum'
        rw [if_pos q, gg_pos ⟨by omega, by omega⟩, hsum', show ((x : Int) - (len : Int) + 1 - 1).toNat = x - len by omega]
      · rw [if_neg q] at hsum'
        rw [if_neg q, hsum']
    have key : ∀ M', M' z6 = g → M' z7 = r → M' 6 2 = (a : Int) → ∃ row, l_X1_fillRow_47 G n F M' (e : Int) v5 z6 z7 z8 (len : Int) sum' (op' : Int) ((x : Int) + 1) = some (setr M' z8 row) ∧ ∀ b, row b = if a ≤ b ∧ x + 1 < b + len ∧ b + len ≤ e then vl g r v5 c len b else M' z8 b := by
      intro M' q1 q2 q3
      exact ih (x + 1) F M' sum' op' (by omega) (by omega) (by omega) (by omega) q1 q2 q3 hsnew ho1' ho2' ho3'
    rw [l_X1_fillRow_47]
    try simp only [Int.toNat_natCast, tn300, tn4, Nat.reduceMul, Nat.reduceAdd]
    rw [hg, hr]
    simp only [h62]
    rw [gg_pos (show ok (x : Int) from ⟨by omega, by omega⟩), gg_pos (show ok (e : Int) from ⟨by omega, by omega⟩), if_pos (by omega), gg_pos (show ix (x : Int) 300 from ⟨by omega, by omega⟩), gg_pos (show ok ((x : Int) - (len : Int) + 1) from ⟨by omega, by omega⟩), gg_pos (show ok (a : Int) from ⟨by omega, by omega⟩), gb_eq hsm, gg_pos (show ok v5 from ⟨by omega, by omega⟩), gb_eq hopen]
    by_cases hb : (a : Int) ≤ (x : Int) - (len : Int) + 1
    · obtain ⟨row, k1, k2⟩ := key (ga_st M z8 (x + 1 - len) (vl g r v5 c len (x + 1 - len))) (by rw [ga_st_row _ h68]; exact hg) (by rw [ga_st_row _ h78]; exact hr) (by rw [ga_st_id (Ne.symm h86)]; exact h62)
      refine ⟨row, ?_, fun b => ?_⟩
      · have hv := hval hb
        have e1 : (if (len : Int) ≤ (op' : Int) then some sum' else some (-1)) = some (vl g r v5 c len (x + 1 - len)) := by
          rw [← hv]
          split <;> rfl
        rw [if_pos hb, gg_pos (show ok (op' : Int) from ⟨by omega, by omega⟩), gg_pos (show ok (len : Int) from ⟨by omega, by omega⟩), gb_eq e1, gg_pos (show ix ((x : Int) - (len : Int) + 1) 300 from ⟨by omega, by omega⟩), gB_eq, gb_of, show ((x : Int) - (len : Int) + 1).toNat = x + 1 - len by omega, k1, st_setr, setr_setr]
      · rw [k2]
        by_cases q : b = x + 1 - len
        · subst q
          rw [if_neg (by omega), ga_st_self, if_pos (by omega)]
        · rw [ga_st_ix q]
          by_cases d : a ≤ b ∧ x + 1 < b + len ∧ b + len ≤ e
          · rw [if_pos d, if_pos (by omega)]
          · rw [if_neg d, if_neg (by omega)]
    · obtain ⟨row, k1, k2⟩ := key M hg hr h62
      refine ⟨row, ?_, fun b => ?_⟩
      · rw [if_neg hb, gb_of]
        exact k1
      · rw [k2]
        by_cases d : a ≤ b ∧ x + 1 < b + len ∧ b + len ≤ e
        · rw [if_pos d, if_pos (by omega)]
        · rw [if_neg d, if_neg (by omega)]
/-- a row of the table -/
theorem p_fillRow {M : gaM} {w p a e len : Nat} {v5 : Int} (hG : 5000 ≤ G) (hp : p < 4) (h5 : v5 = 0 ∨ v5 = 1) (hw : 200 ≤ w) (hlen : M w 2 = (len : Int)) (hl1 : 1 ≤ len) (hl : len ≤ 12) (he : e ≤ 300) (ha : a ≤ 300) (hho : 0 ≤ M w 1 ∧ M w 1 < 4) (h62 : M 6 2 = (a : Int)) (hrok : v5 = 0 → ∀ y, a ≤ y → y < 300 → ok (M (31 + p) y)) :
    ∃ row, f_X1_fillRow G n M w (p : Int) (e : Int) v5 = some (setr M (61 + p) row) ∧ ∀ b, row b = if a ≤ b ∧ b + len ≤ e then vl (M (21 + p)) (M (31 + p)) v5 (M w 5 * M (11 + (M w 1).toNat) p) len b else M (61 + p) b := by
  have hc : f_X2_carriage G n M w (p : Int) = some (M w 5 * M (11 + (M w 1).toNat) p) := by
    unfold f_X2_carriage
    try simp only [Int.toNat_natCast, tn300, tn4, Nat.reduceMul, Nat.reduceAdd]
    try simp (disch := (first | omega | (simp (disch := omega) only [ga_st_self, ga_st_id, ga_st_ix] <;> omega) | skip)) only [↓gb_of, ↓gb2_of, ↓gb3_of, ↓gB_eq, ↓gg_pos, ↓if_pos, ↓if_neg, ↓b_wi1, ↓b_wi0, ↓b_has1, ↓b_has0, ↓b_in1, ↓b_in0, ↓b_pl1, ↓b_pl0, ↓b_jm1, ↓b_jm0, ↓b_jc1, ↓b_jc0, ↓b_size, ↓b_get, ↓b_ref, ↓b_den, ↓b_gra, ↓b_don]
  obtain ⟨row, k1, k2⟩ := p_fillRow_l (n := n) (G := G) (a := a) (e := e) (len := len) (z6 := 21 + p) (z7 := 31 + p) (z8 := 61 + p) (v5 := v5) (c := M w 5 * M (11 + (M w 1).toNat) p) (M (21 + p)) (M (31 + p)) h5 hl1 hl he (by omega) (by omega) (by omega) hrok (e - a) a G M (M w 5 * M (11 + (M w 1).toNat) p) 0 (by omega) (Nat.le_refl a) ha (by omega) rfl rfl h62 (fun m hm hmm => by
    have : m = 0 := by omega
    subst this
    simp [sm]) (by omega) (fun i hi => by omega) (fun q => by omega)
  refine ⟨row, ?_, fun b => ?_⟩
  · unfold f_X1_fillRow
    rw [gg_pos (show ix (p : Int) 4 from ⟨by omega, by omega⟩), gb_eq hc]
    try simp only [Int.toNat_natCast, tn300, tn4, Nat.reduceMul, Nat.reduceAdd]
    rw [hlen, h62]
    exact gb_eq k1
  · rw [k2]
    by_cases c : a ≤ b ∧ b + len ≤ e
    · rw [if_pos c, if_pos (by omega)]
    · rw [if_neg c, if_neg (by omega)]
theorem p_fill_l {w a e len P : Nat} {v5 : Int} (hG : 5000 ≤ G) (h5 : v5 = 0 ∨ v5 = 1) (hw : 200 ≤ w) (hl1 : 1 ≤ len) (hl : len ≤ 12) (he : e ≤ 300) (ha : a ≤ 300) (hP : P ≤ 4) :
    ∀ (k p F : Nat) (M : gaM), p + k = P → k < F → M w 2 = (len : Int) → 0 ≤ M w 1 ∧ M w 1 < 4 → M 6 2 = (a : Int) → M 6 1 = (P : Int) → (v5 = 0 → ∀ p y, p < P → a ≤ y → y < 300 → ok (M (31 + p) y)) → ∃ M', l_X1_fill_27 G n w F M (e : Int) v5 (p : Int) = some M' ∧ (∀ x, (x < 61 + p ∨ 61 + P ≤ x) → M' x = M x) ∧ ∀ q b, p ≤ q → q < P → M' (61 + q) b = if a ≤ b ∧ b + len ≤ e then vl (M (21 + q)) (M (31 + q)) v5 (M w 5 * M (11 + (M w 1).toNat) q) len b else M (61 + q) b := by
  intro k
  induction k with
  | zero =>
    intro p F M hp hF h2 h1 h62 h61 hr
    obtain ⟨F, rfl⟩ : ∃ F1, F = F1 + 1 := ⟨F - 1, by omega⟩
    refine ⟨M, ?_, fun _ _ => rfl, fun q b q1 q2 => by omega⟩
    rw [l_X1_fill_27]
    try simp (disch := (first | omega | (simp (disch := omega) only [ga_st_self, ga_st_id, ga_st_ix] <;> omega) | skip)) only [↓gb_of, ↓gb2_of, ↓gb3_of, ↓gB_eq, ↓gg_pos, ↓if_pos, ↓if_neg, ↓b_wi1, ↓b_wi0, ↓b_has1, ↓b_has0, ↓b_in1, ↓b_in0, ↓b_pl1, ↓b_pl0, ↓b_jm1, ↓b_jm0, ↓b_jc1, ↓b_jc0, ↓b_size, ↓b_get, ↓b_ref, ↓b_den, ↓b_gra, ↓b_don]
  | succ k ih =>
    intro p F M hp hF h2 h1 h62 h61 hr
    obtain ⟨F, rfl⟩ : ∃ F1, F = F1 + 1 := ⟨F - 1, by omega⟩
    obtain ⟨row, r1, r2⟩ := p_fillRow (n := n) (M := M) (p := p) (e := e) hG (by omega) h5 hw h2 hl1 hl he ha h1 h62 (fun q5 y => hr q5 p y (by omega))
    obtain ⟨M', m1, m2, m3⟩ := ih (p + 1) F (setr M (61 + p) row) (by omega) (by omega) (by rw [setr_ne (by omega)]; exact h2) (by rw [setr_ne (by omega)]; exact h1) (by rw [setr_ne (by omega)]; exact h62) (by rw [setr_ne (by omega)]; exact h61) (fun q5 q y q1 => by rw [setr_ne (by omega)]; exact hr q5 q y q1)
    refine ⟨M', ?_, fun x hx => ?_, fun q b q1 q2 => ?_⟩
    · rw [l_X1_fill_27]
      try simp (disch := (first | omega | (simp (disch := omega) only [ga_st_self, ga_st_id, ga_st_ix] <;> omega) | skip)) only [↓gb_of, ↓gb2_of, ↓gb3_of, ↓gB_eq, ↓gg_pos, ↓if_pos, ↓if_neg, ↓b_wi1, ↓b_wi0, ↓b_has1, ↓b_has0, ↓b_in1, ↓b_in0, ↓b_pl1, ↓b_pl0, ↓b_jm1, ↓b_jm0, ↓b_jc1, ↓b_jc0, ↓b_size, ↓b_get, ↓b_ref, ↓b_den, ↓b_gra, ↓b_don]
      rw [gb_eq r1, show ((p : Int) + 1) = ((p + 1 : Nat) : Int) from rfl, m1]
    · rw [m2 x (by omega), setr_ne (by omega)]
    · by_cases c : q = p
      · subst c
        rw [m2 (61 + q) (by omega), setr_self, r2]
      · rw [m3 q b (by omega) q2, setr_ne (by omega), setr_ne (by omega), setr_ne (by omega), setr_ne (by omega), setr_ne (by omega)]
/-- the table: what each LAYING costs, -1 where there is none -/
theorem p_fill {M : gaM} {w a e len P : Nat} {v5 : Int} (hG : 5000 ≤ G) (h5 : v5 = 0 ∨ v5 = 1) (hw : 200 ≤ w) (hl1 : 1 ≤ len) (hl : len ≤ 12) (he : e ≤ 300) (ha : a ≤ 300) (hP : P ≤ 4) (h2 : M w 2 = (len : Int)) (h1 : 0 ≤ M w 1 ∧ M w 1 < 4) (hk : M 1 0 = (P : Int)) (hr : v5 = 0 → ∀ p y, p < P → a ≤ y → y < 300 → ok (M (31 + p) y)) :
    ∃ M', f_X1_fill G n M w (a : Int) (e : Int) v5 = some M' ∧ M' 6 1 = (P : Int) ∧ M' 6 2 = (a : Int) ∧ M' 6 3 = (e : Int) - (len : Int) ∧ (∀ x, x ≠ 6 → (x < 61 ∨ 64 < x) → M' x = M x) ∧ ∀ q b, q < P → a ≤ b → b + len ≤ e → M' (61 + q) b = vl (M (21 + q)) (M (31 + q)) v5 (M w 5 * M (11 + (M w 1).toNat) q) len b := by
  obtain ⟨M', m1, m2, m3⟩ := p_fill_l (n := n) (G := G) (w := w) (a := a) (e := e) (len := len) (P := P) (v5 := v5) hG h5 hw hl1 hl he ha hP P 0 G (ga_st (ga_st (ga_st M 6 1 (P : Int)) 6 2 (a : Int)) 6 3 ((e : Int) - (len : Int))) (by omega) (by omega) (by simp (disch := omega) only [ga_st_id]; exact h2) (by simp (disch := omega) only [ga_st_id]; exact h1) (by simp [ga_st]) (by simp [ga_st]) (fun q5 p y q1 => by simp (disch := omega) only [ga_st_id]; exact hr q5 p y q1)
  refine ⟨M', ?_, ?_, ?_, ?_, fun x q1 q2 => ?_, fun q b q1 q2 q3 => ?_⟩
  · unfold f_X1_fill
    rw [gB_eq, gB_eq, gB_eq, hk, ga_st_id (by omega), ga_st_id (by omega), h2]
    exact gb_eq m1
  · rw [m2 6 (by omega)]
    simp [ga_st]
  · rw [m2 6 (by omega)]
    simp [ga_st]
  · rw [m2 6 (by omega)]
    simp [ga_st]
  · rw [m2 x (by omega), ga_st_row _ q1, ga_st_row _ q1, ga_st_row _ q1]
  · rw [m3 q b (by omega) q1, if_pos ⟨q2, q3⟩]
    simp (disch := omega) only [ga_st_row]
end F1

/-! ===== pure: the 47 cheapest LAYINGS of a JOB, kept by the class ===== -/
def posK (c : Int) (e : Nat → opt) : Nat → Nat
  | 0 => 0
  | m + 1 => if c < (e m).2.2 then posK c e m else m + 1
def insE (e : Nat → opt) (p : Nat) (o : opt) : Nat → opt := fun k => if k < p then e k else if k = p then o else e (k - 1)
theorem posK_le {c : Int} {e : Nat → opt} : ∀ m, posK c e m ≤ m
  | 0 => Nat.le_refl 0
  | m + 1 => by
    have := posK_le (c := c) (e := e) m
    show (if c < (e m).2.2 then posK c e m else m + 1) ≤ m + 1
    split <;> omega
theorem posK_hi {c : Int} {e : Nat → opt} {k : Nat} : ∀ m, posK c e m ≤ k → k < m → c < (e k).2.2
  | 0, _, h => by omega
  | m + 1, h1, h2 => by
    have h1 : (if c < (e m).2.2 then posK c e m else m + 1) ≤ k := h1
    by_cases d : c < (e m).2.2
    · rw [if_pos d] at h1
      by_cases d2 : k = m
      · subst d2; exact d
      · exact posK_hi m h1 (by omega)
    · rw [if_neg d] at h1
      omega
theorem posK_lo {c : Int} {e : Nat → opt} : ∀ m, 0 < posK c e m → (e (posK c e m - 1)).2.2 ≤ c
  | 0, h => absurd h (by show ¬ 0 < 0; omega)
  | m + 1, h => by
    have e1 : posK c e (m + 1) = if c < (e m).2.2 then posK c e m else m + 1 := rfl
    by_cases d : c < (e m).2.2
    · rw [if_pos d] at e1
      rw [e1] at h ⊢
      exact posK_lo m h
    · rw [if_neg d] at e1
      rw [e1]
      show (e m).2.2 ≤ c
      omega
def KI (Q : opt → Prop) (cnt : Nat) (e : Nat → opt) : Prop := cnt ≤ 47 ∧ (∀ m, m < cnt → Q (e m)) ∧ srt cnt e ∧ (∀ m m', m < m' → m' < cnt → ¬ ((e m).1 = (e m').1 ∧ (e m).2.1 = (e m').2.1)) ∧ ∀ o, Q o → (∃ m, m < cnt ∧ e m = o) ∨ (cnt = 47 ∧ (e 46).2.2 ≤ o.2.2)
theorem KI.iff {Q Q' : opt → Prop} {cnt : Nat} {e : Nat → opt} (h : KI Q cnt e) (hq : ∀ o, Q o ↔ Q' o) : KI Q' cnt e := ⟨h.1, fun m hm => (hq _).mp (h.2.1 m hm), h.2.2.1, h.2.2.2.1, fun o ho => h.2.2.2.2 o ((hq o).mpr ho)⟩
theorem srt_ins {m : Nat} {e : Nat → opt} {o : opt} (hs : srt m e) : srt (m + 1) (insE e (posK o.2.2 e m) o) := by
  intro a a' h1 h2
  have hp := posK_le (c := o.2.2) (e := e) m
  unfold insE
  by_cases c1 : a' < posK o.2.2 e m
  · rw [if_pos (by omega), if_pos c1]
    exact hs a a' h1 (by omega)
  · rw [if_neg c1]
    by_cases c2 : a' = posK o.2.2 e m
    · rw [if_pos c2]
      by_cases d1 : a < posK o.2.2 e m
      · rw [if_pos d1]
        have l1 := posK_lo (c := o.2.2) (e := e) m (by omega)
        have l2 := hs a (posK o.2.2 e m - 1) (by omega) (by omega)
        omega
      · rw [if_neg d1, if_pos (by omega)]
        omega
    · rw [if_neg c2]
      have l0 := posK_hi (c := o.2.2) (e := e) (k := a' - 1) m (by omega) (by omega)
      by_cases d1 : a < posK o.2.2 e m
      · rw [if_pos d1]
        exact hs a (a' - 1) (by omega) (by omega)
      · rw [if_neg d1]
        by_cases d2 : a = posK o.2.2 e m
        · rw [if_pos d2]
          omega
        · rw [if_neg d2]
          exact hs (a - 1) (a' - 1) (by omega) (by omega)
theorem dis_ins {m p : Nat} {e : Nat → opt} {o : opt} (hp : p ≤ m) (hd : ∀ a a', a < a' → a' < m → ¬ ((e a).1 = (e a').1 ∧ (e a).2.1 = (e a').2.1)) (hn : ∀ a, a < m → ¬ ((e a).1 = o.1 ∧ (e a).2.1 = o.2.1)) : ∀ a a', a < a' → a' < m + 1 → ¬ ((insE e p o a).1 = (insE e p o a').1 ∧ (insE e p o a).2.1 = (insE e p o a').2.1) := by
  intro a a' h1 h2
  unfold insE
  by_cases c1 : a < p
  · rw [if_pos c1]
    by_cases d1 : a' < p
    · rw [if_pos d1]
      exact hd a a' h1 (by omega)
    · rw [if_neg d1]
      by_cases d2 : a' = p
      · rw [if_pos d2]
        exact hn a (by omega)
      · rw [if_neg d2]
        exact hd a (a' - 1) (by omega) (by omega)
  · rw [if_neg c1, if_neg (by omega : ¬ a' < p), if_neg (by omega : ¬ a' = p)]
    by_cases c2 : a = p
    · rw [if_pos c2]
      intro q
      exact hn (a' - 1) (by omega) ⟨q.1.symm, q.2.symm⟩
    · rw [if_neg c2]
      exact hd (a - 1) (a' - 1) (by omega) (by omega)
theorem mem_ins {m p : Nat} {e : Nat → opt} {o : opt} (hp : p ≤ m) : (∃ a, a < m + 1 ∧ insE e p o a = o) ∧ ∀ a, a < m → ∃ a', a' < m + 1 ∧ insE e p o a' = e a := by
  refine ⟨⟨p, by omega, ?_⟩, fun a ha => ?_⟩
  · unfold insE
    rw [if_neg (by omega), if_pos rfl]
  · by_cases c : a < p
    · refine ⟨a, by omega, ?_⟩
      unfold insE
      rw [if_pos c]
    · refine ⟨a + 1, by omega, ?_⟩
      unfold insE
      rw [if_neg (by omega), if_neg (by omega)]
      rfl
theorem of_ins {m p : Nat} {e : Nat → opt} {o : opt} {Q : opt → Prop} (hp : p ≤ m) (hq : ∀ a, a < m → Q (e a)) (ho : Q o) : ∀ a, a < m + 1 → Q (insE e p o a) := by
  intro a ha
  unfold insE
  by_cases c : a < p
  · rw [if_pos c]
    exact hq a (by omega)
  · rw [if_neg c]
    by_cases c2 : a = p
    · rw [if_pos c2]
      exact ho
    · rw [if_neg c2]
      exact hq (a - 1) (by omega)
/-- one more LAYING, with a place left -/
theorem KI.add {Q : opt → Prop} {cnt : Nat} {e : Nat → opt} {o : opt} (h : KI Q cnt e) (hc : cnt < 47) (hn : ∀ a, a < cnt → ¬ ((e a).1 = o.1 ∧ (e a).2.1 = o.2.1)) : KI (fun x => Q x ∨ x = o) (cnt + 1) (insE e (posK o.2.2 e cnt) o) := by
  have hp := posK_le (c := o.2.2) (e := e) cnt
  obtain ⟨h1, h2, h3, h4, h5⟩ := h
  obtain ⟨g1, g2⟩ := mem_ins (m := cnt) (e := e) (o := o) hp
  refine ⟨by omega, of_ins (Q := fun x => Q x ∨ x = o) hp (fun a ha => Or.inl (h2 a ha)) (Or.inr rfl), srt_ins h3, dis_ins hp h4 hn, fun x hx => Or.inl ?_⟩
  rcases hx with q | q
  · rcases h5 x q with ⟨a, a1, a2⟩ | ⟨a1, -⟩
    · obtain ⟨a', b1, b2⟩ := g2 a a1
      exact ⟨a', b1, by rw [b2, a2]⟩
    · omega
  · rw [q]
    exact g1
/-- one more LAYING, when 47 are kept -/
theorem KI.put {Q : opt → Prop} {e : Nat → opt} {o : opt} (h : KI Q 47 e) (hlt : o.2.2 < (e 46).2.2) (hn : ∀ a, a < 47 → ¬ ((e a).1 = o.1 ∧ (e a).2.1 = o.2.1)) : KI (fun x => Q x ∨ x = o) 47 (insE e (posK o.2.2 e 46) o) := by
  have hp := posK_le (c := o.2.2) (e := e) 46
  obtain ⟨h1, h2, h3, h4, h5⟩ := h
  obtain ⟨g1, g2⟩ := mem_ins (m := 46) (e := e) (o := o) hp
  have hlast : (insE e (posK o.2.2 e 46) o 46).2.2 ≤ (e 46).2.2 := by
    unfold insE
    rw [if_neg (by omega)]
    by_cases c : 46 = posK o.2.2 e 46
    · rw [if_pos c]
      omega
    · rw [if_neg c]
      exact h3 45 46 (by omega) (by omega)
  refine ⟨by omega, of_ins (Q := fun x => Q x ∨ x = o) hp (fun a ha => Or.inl (h2 a (by omega))) (Or.inr rfl), srt_ins (fun a a' q1 q2 => h3 a a' q1 (by omega)), dis_ins hp (fun a a' q1 q2 => h4 a a' q1 (by omega)) (fun a ha => hn a (by omega)), fun x hx => ?_⟩
  rcases hx with q | q
  · rcases h5 x q with ⟨a, a1, a2⟩ | ⟨-, a2⟩
    · by_cases c : a = 46
      · subst c
        refine Or.inr ⟨rfl, ?_⟩
        rw [← a2]
        exact hlast
      · obtain ⟨a', b1, b2⟩ := g2 a (by omega)
        exact Or.inl ⟨a', b1, by rw [b2, a2]⟩
    · exact Or.inr ⟨rfl, by omega⟩
  · rw [q]
    exact Or.inl g1
theorem KI.no {Q : opt → Prop} {e : Nat → opt} {o : opt} (h : KI Q 47 e) (hle : (e 46).2.2 ≤ o.2.2) : KI (fun x => Q x ∨ x = o) 47 e := ⟨h.1, fun m hm => Or.inl (h.2.1 m hm), h.2.2.1, h.2.2.2.1, fun x hx => by
  rcases hx with q | q
  · exact h.2.2.2.2 x q
  · rw [q]
    exact Or.inr ⟨rfl, hle⟩⟩
section BK
variable {n G : Nat}
-- list i in the class's rows
def LK (i : Nat) (cnt : Nat) (e : Nat → opt) (M : gaM) : Prop := M 82 i = (cnt : Int) ∧ ∀ m, m < cnt → M (71 + i) m = ((e m).1 : Int) ∧ M (75 + i) m = ((e m).2.1 : Int) ∧ M (79 + i) m = (e m).2.2 ∧ 0 ≤ (e m).2.2 ∧ (e m).2.2 ≤ 30000
def frK (i : Nat) (M M' : gaM) : Prop := (∀ a, a ≠ 71 + i → a ≠ 75 + i → a ≠ 79 + i → a ≠ 82 → M' a = M a) ∧ ∀ b, b ≠ i → M' 82 b = M 82 b
theorem frK.tr {i : Nat} {M M1 M2 : gaM} (h : frK i M M1) (h' : frK i M1 M2) : frK i M M2 := ⟨fun a q1 q2 q3 q4 => (h'.1 a q1 q2 q3 q4).trans (h.1 a q1 q2 q3 q4), fun b q => (h'.2 b q).trans (h.2 b q)⟩
theorem frK.rf {i : Nat} {M : gaM} : frK i M M := ⟨fun _ _ _ _ _ => rfl, fun _ _ => rfl⟩
theorem p_keep_l {i : Nat} {v2 v3 c : Int} {e : Nat → opt} (hi : i < 3) (hc : 0 ≤ c ∧ c ≤ 30000) : ∀ (m F : Nat) (M : gaM), (∀ k, k < m → M (79 + i) k = (e k).2.2 ∧ 0 ≤ (e k).2.2 ∧ (e k).2.2 ≤ 30000) → m < 47 → m < F → ∃ M', l_X3_keep_47 G n F M (i : Int) v2 v3 c (m : Int) = some (M', ((posK c e m : Nat) : Int)) ∧ (∀ a, a ≠ 71 + i → a ≠ 75 + i → a ≠ 79 + i → M' a = M a) ∧ ∀ a, (a = 71 + i ∨ a = 75 + i ∨ a = 79 + i) → ∀ k, M' a k = if posK c e m < k ∧ k ≤ m then M a (k - 1) else M a k := by
  intro m
  induction m with
  | zero =>
    intro F M hM hm hF
    obtain ⟨F, rfl⟩ : ∃ F1, F = F1 + 1 := ⟨F - 1, by omega⟩
    refine ⟨M, ?_, fun _ _ _ _ => rfl, fun a _ k => by rw [if_neg (by omega)]⟩
    rw [l_X3_keep_47]
    try simp (disch := (first | omega | (simp (disch := omega) only [ga_st_self, ga_st_id, ga_st_ix] <;> omega) | skip)) only [↓gb_of, ↓gb2_of, ↓gb3_of, ↓gB_eq, ↓gg_pos, ↓if_pos, ↓if_neg, ↓b_wi1, ↓b_wi0, ↓b_has1, ↓b_has0, ↓b_in1, ↓b_in0, ↓b_pl1, ↓b_pl0, ↓b_jm1, ↓b_jm0, ↓b_jc1, ↓b_jc0, ↓b_size, ↓b_get, ↓b_ref, ↓b_den, ↓b_gra, ↓b_don]
    rfl
  | succ m ih =>
    intro F M hM hm hF
    obtain ⟨F, rfl⟩ : ∃ F1, F = F1 + 1 := ⟨F - 1, by omega⟩
    obtain ⟨k1, k2, k3⟩ := hM m (by omega)
    have e0 : posK c e (m + 1) = if c < (e m).2.2 then posK c e m else m + 1 := rfl
    rw [l_X3_keep_47, gg_pos (show ok ((m + 1 : Nat) : Int) from ⟨by omega, by omega⟩), if_pos (by omega), gg_pos (show ix (i : Int) 3 from ⟨by omega, by omega⟩), gg_pos (show ix (((m + 1 : Nat) : Int) - 1) 47 from ⟨by omega, by omega⟩), show (((m + 1 : Nat) : Int) - 1).toNat = m by omega, Int.toNat_natCast, Int.toNat_natCast, k1, gg_pos (show ok (e m).2.2 from ⟨by omega, by omega⟩), gg_pos (show ok c from ⟨by omega, by omega⟩)]
    by_cases d : c < (e m).2.2
    · rw [if_pos d] at e0
      obtain ⟨M1, hM1⟩ : ∃ M1, M1 = ga_st (ga_st (ga_st M (71 + i) (m + 1) (M (71 + i) m)) (75 + i) (m + 1) (M (75 + i) m)) (79 + i) (m + 1) (M (79 + i) m) := ⟨_, rfl⟩
      have f1 : ∀ a, a ≠ 71 + i → a ≠ 75 + i → a ≠ 79 + i → M1 a = M a := by
        intro a q1 q2 q3
        rw [hM1, ga_st_row _ q3, ga_st_row _ q2, ga_st_row _ q1]
      have f2 : ∀ a, (a = 71 + i ∨ a = 75 + i ∨ a = 79 + i) → ∀ k, M1 a k = if k = m + 1 then M a m else M a k := by
        intro a ha k
        by_cases q : k = m + 1
        · rw [if_pos q, q, hM1]
          rcases ha with r | r | r
          · rw [r, ga_st_id (by omega), ga_st_id (by omega), ga_st_self]
          · rw [r, ga_st_id (by omega), ga_st_self]
          · rw [r, ga_st_self]
        · rw [if_neg q, hM1, ga_st_ix q, ga_st_ix q, ga_st_ix q]
      obtain ⟨M', g1, g2, g3⟩ := ih F M1 (fun k hk => by
        rw [f2 (79 + i) (Or.inr (Or.inr rfl)) k, if_neg (by omega)]
        exact hM k (by omega)) (by omega) (by omega)
      have hp := posK_le (c := c) (e := e) m
      refine ⟨M', ?_, fun a q1 q2 q3 => by rw [g2 a q1 q2 q3, f1 a q1 q2 q3], fun a ha k => ?_⟩
      · have x1 : ga_st (ga_st (ga_st M (71 + i) (m + 1) (M (71 + i) m)) (75 + i) (m + 1) ((ga_st M (71 + i) (m + 1) (M (71 + i) m)) (75 + i) m)) (79 + i) (m + 1) ((ga_st (ga_st M (71 + i) (m + 1) (M (71 + i) m)) (75 + i) (m + 1) ((ga_st M (71 + i) (m + 1) (M (71 + i) m)) (75 + i) m)) (79 + i) m) = M1 := by
          rw [hM1]
          simp (disch := omega) only [ga_st_id]
        rw [if_pos d, gg_pos (show ix ((m + 1 : Nat) : Int) 47 from ⟨by omega, by omega⟩), gB_eq, gB_eq, gB_eq, x1, e0, show ((m + 1 : Nat) : Int) + (-1) = (m : Int) by omega]
        exact g1
      · rw [g3 a ha k, e0]
        by_cases q : k = m + 1
        · subst q
          rw [if_neg (by omega), if_pos (by omega), f2 a ha, if_pos rfl]
          rfl
        · by_cases q2 : posK c e m < k ∧ k ≤ m
          · rw [if_pos q2, if_pos (by omega), f2 a ha, if_neg (by omega)]
          · rw [if_neg q2, if_neg (by omega), f2 a ha, if_neg q]
    · rw [if_neg d] at e0
      rw [if_neg d]
      refine ⟨M, by rw [e0], fun _ _ _ _ => rfl, fun a _ k => by rw [e0, if_neg (by omega)]⟩
/-- the entries after the insertion -/
theorem ins_rows {i m : Nat} {e : Nat → opt} {o : opt} {M M' : gaM} (hM : ∀ k, k < m → M (71 + i) k = ((e k).1 : Int) ∧ M (75 + i) k = ((e k).2.1 : Int) ∧ M (79 + i) k = (e k).2.2 ∧ 0 ≤ (e k).2.2 ∧ (e k).2.2 ≤ 30000) (ho : 0 ≤ o.2.2 ∧ o.2.2 ≤ 30000) (g3 : ∀ a, (a = 71 + i ∨ a = 75 + i ∨ a = 79 + i) → ∀ k, M' a k = if posK o.2.2 e m < k ∧ k ≤ m then M a (k - 1) else M a k) : ∀ k, k < m + 1 → (ga_st (ga_st (ga_st M' (71 + i) (posK o.2.2 e m) (o.1 : Int)) (75 + i) (posK o.2.2 e m) (o.2.1 : Int)) (79 + i) (posK o.2.2 e m) o.2.2) (71 + i) k = ((insE e (posK o.2.2 e m) o k).1 : Int) ∧ (ga_st (ga_st (ga_st M' (71 + i) (posK o.2.2 e m) (o.1 : Int)) (75 + i) (posK o.2.2 e m) (o.2.1 : Int)) (79 + i) (posK o.2.2 e m) o.2.2) (75 + i) k = ((insE e (posK o.2.2 e m) o k).2.1 : Int) ∧ (ga_st (ga_st (ga_st M' (71 + i) (posK o.2.2 e m) (o.1 : Int)) (75 + i) (posK o.2.2 e m) (o.2.1 : Int)) (79 + i) (posK o.2.2 e m) o.2.2) (79 + i) k = (insE e (posK o.2.2 e m) o k).2.2 ∧ 0 ≤ (insE e (posK o.2.2 e m) o k).2.2 ∧ (insE e (posK o.2.2 e m) o k).2.2 ≤ 30000 := by
  intro k hk
  have hp := posK_le (c := o.2.2) (e := e) m
  by_cases c : k = posK o.2.2 e m
  · have e1 : insE e (posK o.2.2 e m) o k = o := by
      unfold insE
      rw [if_neg (by omega), if_pos c]
    rw [e1, ← c]
    simp (disch := omega) only [ga_st_id, ga_st_self]
    exact ⟨trivial, trivial, trivial, ho.1, ho.2⟩
  · rw [ga_st_ix c, ga_st_ix c, ga_st_ix c, ga_st_ix c, ga_st_ix c, ga_st_ix c, ga_st_ix c, ga_st_ix c, ga_st_ix c, g3 _ (Or.inl rfl), g3 _ (Or.inr (Or.inl rfl)), g3 _ (Or.inr (Or.inr rfl))]
    by_cases d : k < posK o.2.2 e m
    · have e1 : insE e (posK o.2.2 e m) o k = e k := by
        unfold insE
        rw [if_pos d]
      rw [e1, if_neg (by omega), if_neg (by omega), if_neg (by omega)]
      exact hM k (by omega)
    · have e1 : insE e (posK o.2.2 e m) o k = e (k - 1) := by
        unfold insE
        rw [if_neg d, if_neg c]
      rw [e1, if_pos (by omega), if_pos (by omega), if_pos (by omega)]
      exact hM (k - 1) (by omega)
theorem p_keep {i cnt : Nat} {e : Nat → opt} {o : opt} {M : gaM} {Q : opt → Prop} (hG : 5000 ≤ G) (hi : i < 3) (hL : LK i cnt e M) (hK : KI Q cnt e) (ho : 0 ≤ o.2.2 ∧ o.2.2 ≤ 30000) (hn : ∀ x, Q x → ¬ (x.1 = o.1 ∧ x.2.1 = o.2.1)) : ∃ M' cnt' e', f_X3_keep G n M (i : Int) (o.1 : Int) (o.2.1 : Int) o.2.2 = some M' ∧ LK i cnt' e' M' ∧ KI (fun x => Q x ∨ x = o) cnt' e' ∧ frK i M M' := by
  obtain ⟨l1, l2⟩ := hL
  have hn' : ∀ a, a < cnt → ¬ ((e a).1 = o.1 ∧ (e a).2.1 = o.2.1) := fun a ha => hn _ (hK.2.1 a ha)
  have h47 := hK.1
  unfold f_X3_keep
  rw [Int.toNat_natCast, l1, gg_pos (show ix (i : Int) 3 from ⟨by omega, by omega⟩), gg_pos (show ok (cnt : Int) from ⟨by omega, by omega⟩)]
  by_cases c : cnt = 47
  · subst c
    obtain ⟨z1, z2, z3, z4, z5⟩ := l2 46 (by omega)
    rw [if_pos (show ((47 : Nat) : Int) = 47 from rfl), show (46 : Int).toNat = 46 from rfl, z3, gg_pos (show ix 46 47 from ⟨by omega, by omega⟩), gg_pos (show ok o.2.2 from ⟨by omega, by omega⟩), gg_pos (show ok (e 46).2.2 from ⟨by omega, by omega⟩)]
    by_cases d : (e 46).2.2 ≤ o.2.2
    · rw [if_pos d]
      exact ⟨M, 47, e, rfl, ⟨l1, l2⟩, hK.no d, frK.rf⟩
    · obtain ⟨M', g1, g2, g3⟩ := p_keep_l (n := n) (G := G) (i := i) (v2 := (o.1 : Int)) (v3 := (o.2.1 : Int)) (c := o.2.2) (e := e) hi ho 46 G M (fun k hk => (l2 k (by omega)).2.2) (by omega) (by omega)
      have g1 : l_X3_keep_47 G n G M (i : Int) (o.1 : Int) (o.2.1 : Int) o.2.2 46 = some (M', ((posK o.2.2 e 46 : Nat) : Int)) := g1
      have hp := posK_le (c := o.2.2) (e := e) 46
      rw [if_neg d, g1, gb2_of, gg_pos (show ix ((posK o.2.2 e 46 : Nat) : Int) 47 from ⟨by omega, by omega⟩), gB_eq, gB_eq, gB_eq, Int.toNat_natCast]
      refine ⟨_, 47, insE e (posK o.2.2 e 46) o, rfl, ⟨?_, ins_rows (m := 46) (fun k hk => l2 k (by omega)) ho g3⟩, hK.put (by omega) hn', ⟨fun a q1 q2 q3 q4 => ?_, fun b q => ?_⟩⟩
      · rw [ga_st_id (by omega), ga_st_id (by omega), ga_st_id (by omega), g2 82 (by omega) (by omega) (by omega)]
        exact l1
      · rw [ga_st_row _ q3, ga_st_row _ q2, ga_st_row _ q1, g2 a q1 q2 q3]
      · rw [ga_st_id (by omega), ga_st_id (by omega), ga_st_id (by omega), g2 82 (by omega) (by omega) (by omega)]
  · obtain ⟨M0, hM0⟩ : ∃ M0, M0 = ga_st M 82 i ((cnt : Int) + 1) := ⟨_, rfl⟩
    have r0 : ∀ a, a ≠ 82 → M0 a = M a := fun a ha => by rw [hM0, ga_st_row _ ha]
    have l2' : ∀ k, k < cnt → M0 (71 + i) k = ((e k).1 : Int) ∧ M0 (75 + i) k = ((e k).2.1 : Int) ∧ M0 (79 + i) k = (e k).2.2 ∧ 0 ≤ (e k).2.2 ∧ (e k).2.2 ≤ 30000 := fun k hk => by
      rw [r0 _ (by omega), r0 _ (by omega), r0 _ (by omega)]
      exact l2 k hk
    obtain ⟨M', g1, g2, g3⟩ := p_keep_l (n := n) (G := G) (i := i) (v2 := (o.1 : Int)) (v3 := (o.2.1 : Int)) (c := o.2.2) (e := e) hi ho cnt G M0 (fun k hk => (l2' k hk).2.2) (by omega) (by omega)
    have hp := posK_le (c := o.2.2) (e := e) cnt
    rw [if_neg (by omega), gB_eq, ← hM0, g1, gb2_of, gg_pos (show ix ((posK o.2.2 e cnt : Nat) : Int) 47 from ⟨by omega, by omega⟩), gB_eq, gB_eq, gB_eq, Int.toNat_natCast]
    refine ⟨_, cnt + 1, insE e (posK o.2.2 e cnt) o, rfl, ⟨?_, ins_rows (m := cnt) l2' ho g3⟩, hK.add (by omega) hn', ⟨fun a q1 q2 q3 q4 => ?_, fun b q => ?_⟩⟩
    · rw [ga_st_id (by omega), ga_st_id (by omega), ga_st_id (by omega), g2 82 (by omega) (by omega) (by omega), hM0, ga_st_self]
      rfl
    · rw [ga_st_row _ q3, ga_st_row _ q2, ga_st_row _ q1, g2 a q1 q2 q3, r0 a q4]
    · rw [ga_st_id (by omega), ga_st_id (by omega), ga_st_id (by omega), g2 82 (by omega) (by omega) (by omega), hM0, ga_st_ix q]
-- all LAYINGS of a table
def inT (T : Nat → Nat → Option Int) (P a : Nat) (last : Int) (p0 h0 : Nat) (o : opt) : Prop := o.1 < P ∧ a ≤ o.2.1 ∧ (o.2.1 : Int) ≤ last ∧ T o.1 o.2.1 = some o.2.2 ∧ (o.1 < p0 ∨ (o.1 = p0 ∧ o.2.1 < h0))
theorem p_add59 {T : Nat → Nat → Option Int} {P a i p : Nat} {last : Int} (hG : 5000 ≤ G) (hi : i < 3) (hP : P ≤ 4) (hp : p < P) (hl : -400 ≤ last ∧ last < 300) (hT : ∀ q x c, q < P → a ≤ x → (x : Int) ≤ last → T q x = some c → 0 ≤ c ∧ c ≤ 30000) : ∀ (k h F : Nat) (M : gaM) (cnt : Nat) (e : Nat → opt), (h : Int) + k = last + 1 ∨ (k = 0 ∧ last < (h : Int)) → a ≤ h → h ≤ 400 → k < F → M 6 3 = last → (∀ q x, q < P → a ≤ x → (x : Int) ≤ last → M (61 + q) x = (T q x).getD (-1)) → LK i cnt e M → KI (inT T P a last p h) cnt e → ∃ M' cnt' e', l_X3_add_59 G n F M (i : Int) (p : Int) (h : Int) = some M' ∧ LK i cnt' e' M' ∧ KI (inT T P a last (p + 1) a) cnt' e' ∧ frK i M M' := by
  intro k
  induction k with
  | zero =>
    intro h F M cnt e hk hh hh4 hF h63 ht hL hK
    obtain ⟨F, rfl⟩ : ∃ F1, F = F1 + 1 := ⟨F - 1, by omega⟩
    refine ⟨M, cnt, e, ?_, hL, hK.iff (fun o => ?_), frK.rf⟩
    · rw [l_X3_add_59, h63, gg_pos (show ok (h : Int) from ⟨by omega, by omega⟩), gg_pos (show ok last from ⟨by omega, by omega⟩), if_neg (by omega)]
    · constructor
      · intro ⟨q1, q2, q3, q4, q5⟩
        exact ⟨q1, q2, q3, q4, by omega⟩
      · intro ⟨q1, q2, q3, q4, q5⟩
        exact ⟨q1, q2, q3, q4, by omega⟩
  | succ k ih =>
    intro h F M cnt e hk hh hh4 hF h63 ht hL hK
    obtain ⟨F, rfl⟩ : ∃ F1, F = F1 + 1 := ⟨F - 1, by omega⟩
    have htp := ht p h hp hh (by omega)
    rw [l_X3_add_59, h63, gg_pos (show ok (h : Int) from ⟨by omega, by omega⟩), gg_pos (show ok last from ⟨by omega, by omega⟩), if_pos (by omega), gg_pos (show ix (p : Int) 4 from ⟨by omega, by omega⟩), gg_pos (show ix (h : Int) 300 from ⟨by omega, by omega⟩), Int.toNat_natCast, Int.toNat_natCast, htp]
    cases hv : T p h with
    | none =>
      obtain ⟨M', cnt', e', k1, k2, k3, k4⟩ := ih (h + 1) F M cnt e (by omega) (by omega) (by omega) (by omega) h63 ht hL (hK.iff (fun o => by
        constructor
        · intro ⟨q1, q2, q3, q4, q5⟩
          exact ⟨q1, q2, q3, q4, by omega⟩
        · intro ⟨q1, q2, q3, q4, q5⟩
          refine ⟨q1, q2, q3, q4, ?_⟩
          by_cases d : o.1 = p ∧ o.2.1 = h
          · rw [d.1, d.2, hv] at q4
            cases q4
          · omega))
      refine ⟨M', cnt', e', ?_, k2, k3, k4⟩
      show (gg (ok (-1)) _) = _
      rw [gg_pos (by decide), if_pos (show (none : Option Int).getD (-1) = -1 from rfl), gb_of]
      exact k1
    | some c =>
      have hb := hT p h c hp hh (by omega) hv
      obtain ⟨M1, cnt1, e1, m1, m2, m3, m4⟩ := p_keep (n := n) (G := G) (o := (p, h, c)) hG hi hL hK hb (fun x hx q => by
        obtain ⟨q1, q2, q3, q4, q5⟩ := hx
        have q' : x.1 = p ∧ x.2.1 = h := q
        omega)
      have m1 : f_X3_keep G n M (i : Int) (p : Int) (h : Int) c = some M1 := m1
      obtain ⟨M', cnt', e', k1, k2, k3, k4⟩ := ih (h + 1) F M1 cnt1 e1 (by omega) (by omega) (by omega) (by omega) (by rw [m4.1 6 (by omega) (by omega) (by omega) (by omega)]; exact h63) (fun q x q1 q2 q3 => by rw [m4.1 _ (by omega) (by omega) (by omega) (by omega)]; exact ht q x q1 q2 q3) m2 (m3.iff (fun o => by
        constructor
        · intro q
          rcases q with ⟨q1, q2, q3, q4, q5⟩ | q
          · exact ⟨q1, q2, q3, q4, by omega⟩
          · rw [q]
            exact ⟨hp, hh, by show (h : Int) ≤ last; omega, hv, Or.inr ⟨rfl, by show h < h + 1; omega⟩⟩
        · intro ⟨q1, q2, q3, q4, q5⟩
          by_cases d : o.1 = p ∧ o.2.1 = h
          · rw [d.1, d.2, hv] at q4
            have q4 := Option.some.inj q4
            refine Or.inr ?_
            obtain ⟨o1, o2, o3⟩ := o
            have d1 : o1 = p := d.1
            have d2 : o2 = h := d.2
            have d3 : c = o3 := q4
            rw [d1, d2, d3]
          · exact Or.inl ⟨q1, q2, q3, q4, by omega⟩))
      refine ⟨M', cnt', e', ?_, k2, k3, m4.tr k4⟩
      show (gg (ok c) _) = _
      rw [gg_pos ⟨by omega, by omega⟩]
      show gb (if c = -1 then _ else gb (f_X3_keep G n M (i : Int) (p : Int) (h : Int) c) _) _ = _
      rw [if_neg (by omega), gb_eq m1, gb_of]
      exact k1
theorem p_add44 {T : Nat → Nat → Option Int} {P a i : Nat} {last : Int} (hG : 5000 ≤ G) (hi : i < 3) (hP : P ≤ 4) (ha : a ≤ 300) (hl : -400 ≤ last ∧ last < 300) (hT : ∀ q x c, q < P → a ≤ x → (x : Int) ≤ last → T q x = some c → 0 ≤ c ∧ c ≤ 30000) : ∀ (k p F : Nat) (M : gaM) (cnt : Nat) (e : Nat → opt), p + k = P → k < F → M 6 1 = (P : Int) → M 6 2 = (a : Int) → M 6 3 = last → (∀ q x, q < P → a ≤ x → (x : Int) ≤ last → M (61 + q) x = (T q x).getD (-1)) → LK i cnt e M → KI (inT T P a last p a) cnt e → ∃ M' cnt' e', l_X3_add_44 G n F M (i : Int) (p : Int) = some M' ∧ LK i cnt' e' M' ∧ KI (inT T P a last P a) cnt' e' ∧ frK i M M' := by
  intro k
  induction k with
  | zero =>
    intro p F M cnt e hp hF h61 h62 h63 ht hL hK
    obtain ⟨F, rfl⟩ : ∃ F1, F = F1 + 1 := ⟨F - 1, by omega⟩
    have e1 : p = P := by omega
    subst e1
    refine ⟨M, cnt, e, ?_, hL, hK, frK.rf⟩
    rw [l_X3_add_44]
    try simp (disch := (first | omega | (simp (disch := omega) only [ga_st_self, ga_st_id, ga_st_ix] <;> omega) | skip)) only [↓gb_of, ↓gb2_of, ↓gb3_of, ↓gB_eq, ↓gg_pos, ↓if_pos, ↓if_neg, ↓b_wi1, ↓b_wi0, ↓b_has1, ↓b_has0, ↓b_in1, ↓b_in0, ↓b_pl1, ↓b_pl0, ↓b_jm1, ↓b_jm0, ↓b_jc1, ↓b_jc0, ↓b_size, ↓b_get, ↓b_ref, ↓b_den, ↓b_gra, ↓b_don]
  | succ k ih =>
    intro p F M cnt e hp hF h61 h62 h63 ht hL hK
    obtain ⟨F, rfl⟩ : ∃ F1, F = F1 + 1 := ⟨F - 1, by omega⟩
    obtain ⟨M1, cnt1, e1, m1, m2, m3, m4⟩ := p_add59 (n := n) (G := G) (T := T) (P := P) (a := a) (i := i) (p := p) (last := last) hG hi hP (by omega) hl hT (last + 1 - a).toNat a G M cnt e (by omega) (Nat.le_refl a) (by omega) (by omega) h63 ht hL hK
    have r6 : M1 6 = M 6 := m4.1 6 (by omega) (by omega) (by omega) (by omega)
    obtain ⟨M', cnt', e', k1, k2, k3, k4⟩ := ih (p + 1) F M1 cnt1 e1 (by omega) (by omega) (by rw [r6]; exact h61) (by rw [r6]; exact h62) (by rw [r6]; exact h63) (fun q x q1 q2 q3 => by rw [m4.1 _ (by omega) (by omega) (by omega) (by omega)]; exact ht q x q1 q2 q3) m2 m3
    refine ⟨M', cnt', e', ?_, k2, k3, m4.tr k4⟩
    rw [l_X3_add_44, h61, h62, gg_pos (show ok (p : Int) from ⟨by omega, by omega⟩), gg_pos (show ok (P : Int) from ⟨by omega, by omega⟩), if_pos (by omega), gb_eq m1]
    exact k1
end BK

/-! ===== pure: the LAYING of one JOB, and of all ===== -/
def pU0 (n : Nat) (N : gaM) (p h : Nat) : Int := sm (oc N p h) 0 n
def pv (N : gaM) (U : Nat → Nat → Int) (j p h : Nat) : Option Int := if ∀ i, i < (N 111 j).toNat → U p (h + i) < N 106 p then some (cst N j p h) else none
def pa (N : gaM) (j : Nat) : Nat := (max (N 112 j) (N 100 4)).toNat
def pkn (N : gaM) (j : Nat) : Nat := (N 113 j - N 111 j - max (N 112 j) (N 100 4) + 1).toNat
def pick (N : gaM) (U : Nat → Nat → Int) (j : Nat) : pkT := pkH (pv N U j) (N 100 2).toNat (decide (bh N j)) (pa N j) (pkn N j) none
def ct (N : gaM) (s : pkT) (j p h : Nat) : Int := match s with
  | none => 0
  | some (q, x, _) => if p = q ∧ x ≤ h ∧ h < x + (N 111 j).toNat then 1 else 0
def plS (n : Nat) (N : gaM) (L : Nat → Nat) : Nat → (Nat → Nat → Int) × (Nat → pkT)
  | 0 => (pU0 n N, fun _ => none)
  | k + 1 => (fun p h => (plS n N L k).1 p h + ct N (pick N (plS n N L k).1 (L k)) (L k) p h, fun i => if i = L k then pick N (plS n N L k).1 (L k) else (plS n N L k).2 i)
def pk1 (s : pkT) : Int := match s with
  | none => 0
  | some _ => 1
theorem ct_bd {N : gaM} {s : pkT} {j p h : Nat} : 0 ≤ ct N s j p h ∧ ct N s j p h ≤ 1 := by
  cases s with
  | none => exact ⟨Int.le_refl 0, show (0 : Int) ≤ 1 by decide⟩
  | some t =>
    obtain ⟨q, x, c⟩ := t
    show 0 ≤ (if p = q ∧ x ≤ h ∧ h < x + (N 111 j).toNat then (1 : Int) else 0) ∧ (if p = q ∧ x ≤ h ∧ h < x + (N 111 j).toNat then (1 : Int) else 0) ≤ 1
    split <;> omega
theorem oc_bd {N : gaM} {p h j : Nat} : 0 ≤ oc N p h j ∧ oc N p h j ≤ 1 := by
  unfold oc
  split <;> omega
theorem plS_bd {n : Nat} {N : gaM} {L : Nat → Nat} {p h : Nat} : ∀ k, 0 ≤ (plS n N L k).1 p h ∧ (plS n N L k).1 p h ≤ n + k
  | 0 => by
    have := sm_bd (f := oc N p h) (a := 0) (lo := 0) (hi := 1) (k := n) (fun i _ => oc_bd)
    show 0 ≤ sm (oc N p h) 0 n ∧ sm (oc N p h) 0 n ≤ _
    omega
  | k + 1 => by
    have := plS_bd (n := n) (N := N) (L := L) (p := p) (h := h) k
    have h2 := ct_bd (N := N) (s := pick N (plS n N L k).1 (L k)) (j := L k) (p := p) (h := h)
    show 0 ≤ (plS n N L k).1 p h + ct N (pick N (plS n N L k).1 (L k)) (L k) p h ∧ (plS n N L k).1 p h + ct N (pick N (plS n N L k).1 (L k)) (L k) p h ≤ _
    omega
theorem plS_none {n : Nat} {N : gaM} {L : Nat → Nat} {x : Nat} : ∀ k, (∀ i, i < k → L i ≠ x) → (plS n N L k).2 x = none
  | 0, _ => rfl
  | k + 1, h => by
    show (if x = L k then pick N (plS n N L k).1 (L k) else (plS n N L k).2 x) = none
    rw [if_neg (fun e => h k (by omega) e.symm)]
    exact plS_none k (fun i hi => h i (by omega))
theorem plS_val {n : Nat} {N : gaM} {L : Nat → Nat} {i : Nat} : ∀ k, (∀ a b, a < b → b < k → L a ≠ L b) → i < k → (plS n N L k).2 (L i) = pick N (plS n N L i).1 (L i)
  | 0, _, h => by omega
  | k + 1, hd, h => by
    show (if L i = L k then pick N (plS n N L k).1 (L k) else (plS n N L k).2 (L i)) = _
    by_cases e : i = k
    · subst e
      rw [if_pos rfl]
    · rw [if_neg (hd i k (by omega) (by omega))]
      exact plS_val k (fun a b q1 q2 => hd a b q1 (by omega)) (by omega)
theorem plS_sum {n : Nat} {N : gaM} {L : Nat → Nat} {c p h : Nat} (hd : ∀ a b, a < b → b < c → L a ≠ L b) : ∀ k, k ≤ c → (plS n N L k).1 p h = pU0 n N p h + sm (fun i => ct N ((plS n N L c).2 (L i)) (L i) p h) 0 k
  | 0, _ => by
    show pU0 n N p h = pU0 n N p h + 0
    omega
  | k + 1, hk => by
    show (plS n N L k).1 p h + ct N (pick N (plS n N L k).1 (L k)) (L k) p h = pU0 n N p h + (sm (fun i => ct N ((plS n N L c).2 (L i)) (L i) p h) 0 k + ct N ((plS n N L c).2 (L (0 + k))) (L (0 + k)) p h)
    rw [plS_sum hd k (by omega), Nat.zero_add, plS_val c hd (by omega)]
    omega
-- what a picked LAYING keeps
def okL (N : gaM) (j p h : Nat) (c : Int) : Prop := (p : Int) < N 100 2 ∧ N 112 j ≤ (h : Int) ∧ N 100 4 ≤ (h : Int) ∧ (h : Int) + N 111 j ≤ N 113 j ∧ c = cst N j p h ∧ 0 ≤ c ∧ c ≤ 30000
theorem pick_ok {n : Nat} {N : gaM} {U : Nat → Nat → Int} {j : Nat} (hI : Inv n N) (hj : j < n) : ∀ p h c, pick N U j = some (p, h, c) → okL N j p h c := by
  have h4 := hI.1.2.2.1
  obtain ⟨-, ⟨u1, u2, u3, u4, u5, u6, u7, u8, u9, -⟩, -⟩ := hI.2.2.2.1 j hj
  refine pkH_all (v := pv N U j) (Q := okL N j) (pkn N j) (pa N j) none (fun p x c hp hx hx2 e => ?_) (fun a b c e => by cases e)
  have hpx : (p : Int) < N 100 2 := by omega
  unfold pa at hx hx2
  unfold pkn at hx2
  unfold pv at e
  by_cases q : ∀ i, i < (N 111 j).toNat → U p (x + i) < N 106 p
  · rw [if_pos q] at e
    have e' := Option.some.inj e
    have hb := cst_bd (j := j) (p := p) (h := x) hI hj (by omega) (by omega)
    exact ⟨hpx, by omega, by omega, by omega, e'.symm, by omega, by omega⟩
  · rw [if_neg q] at e
    cases e
theorem plS_ok {n : Nat} {N : gaM} (hI : Inv n N) {x p h : Nat} {c : Int} : ∀ k, k ≤ (oS N n).1 → (plS n N (oS N n).2 k).2 x = some (p, h, c) → x < n ∧ N 115 x = 0 ∧ okL N x p h c
  | 0, _, e => by cases e
  | k + 1, hk, e => by
    have e' : (if x = (oS N n).2 k then pick N (plS n N (oS N n).2 k).1 ((oS N n).2 k) else (plS n N (oS N n).2 k).2 x) = some (p, h, c) := e
    by_cases q : x = (oS N n).2 k
    · rw [if_pos q] at e'
      have ho := (oS_ok (N := N) n).2.1 k (by omega)
      rw [← q] at e' ho
      exact ⟨ho.1, ho.2, pick_ok hI ho.1 p h c e'⟩
    · rw [if_neg q] at e'
      exact plS_ok hI k (by omega) e'
theorem sm_upd {f g : Nat → Int} {j : Nat} : ∀ n, j < n → (∀ i, i ≠ j → g i = f i) → sm g 0 n = sm f 0 n + (g j - f j)
  | 0, h, _ => by omega
  | n + 1, h, e => by
    show sm g 0 n + g (0 + n) = sm f 0 n + f (0 + n) + (g j - f j)
    rw [Nat.zero_add]
    by_cases c : j = n
    · subst c
      rw [sm_congr (f := g) (g := f) (fun i hi => e _ (by omega))]
      omega
    · rw [sm_upd n (by omega) e, e n (fun q => c q.symm)]
      omega
section P1
variable {n G : Nat}
def frP (o : Nat) (A A' : gaM) : Prop := ∀ a, a ≠ 6 → (a < 61 ∨ 64 < a) → (a < 31 ∨ 34 < a) → (a < 10 * o ∨ 10 * o + 2 < a) → a ≠ o → A' a = A a
theorem frP.tr {o : Nat} {A A1 A2 : gaM} (h : frP o A A1) (h' : frP o A1 A2) : frP o A A2 := fun a q1 q2 q3 q4 q5 => (h' a q1 q2 q3 q4 q5).trans (h a q1 q2 q3 q4 q5)
theorem frP.stc {o : Nat} {N A A' : gaM} (ho : o = 4 ∨ o = 5) (h : frP o A A') (hA : stc N A) : stc N A' := fun a ha => (h a (by omega) (by omega) (by omega) (by omega) (by omega)).trans (hA a ha)
def PlC (o : Nat) (A : gaM) (pl : Nat → pkT) : Prop := ∀ i, i < 40 → match pl i with
  | none => A (10 * o) i = -1
  | some (p, h, c) => A (10 * o) i = (p : Int) ∧ A (10 * o + 1) i = (h : Int) ∧ A (10 * o + 2) i = c
def rmC (N A : gaM) (V : Nat → Nat → Int) : Prop := ∀ p h : Nat, (p : Int) < N 100 2 → N 100 4 ≤ (h : Int) → h < 300 → A (31 + p) h = N 106 p - V p h
theorem p_layC {N A : gaM} {U : Nat → Nat → Int} {o j : Nat} {pl : Nat → pkT} (hG : 5000 ≤ G) (ho : o = 4 ∨ o = 5) (h : Inv n N) (hA : stc N A) (hj : j < n) (hU : ∀ p h, 0 ≤ U p h ∧ U p h ≤ 100) (hR : rmC N A U) (hP : PlC o A pl) (hpj : pl j = none) :
    ∃ A', f_X5_layOne G n A o (j : Int) = some A' ∧ frP o A A' ∧ rmC N A' (fun p h => U p h + ct N (pick N U j) j p h) ∧ PlC o A' (fun i => if i = j then pick N U j else pl i) ∧ A' o 3 = A o 3 + pk1 (pick N U j) ∧ A' o 4 = A o 4 + pkc (pick N U j) := by
  obtain ⟨⟨g0, g1, g2, g3, g4, g5, g6, g7, g8, g9⟩, ⟨u1, u2, u3, u4, u5, u6, u7, u8, u9, u10, u11⟩, -⟩ := h.2.2.2.1 j hj
  have hpo := pick_ok (U := U) h hj
  have h' := h
  obtain ⟨a1, a2, a3, a4, a5, a6, a7, a8, a9, a10, a11, a12, a13, a14, a15⟩ := h.1
  have eJ := hA (200 + j) (by omega)
  have e0 := hA 0 (by omega)
  have e1 := hA 1 (by omega)
  have e2 : A 2 2 = (n : Int) := by rw [hA 2 (by omega)]; exact a4
  obtain ⟨P, hPn⟩ : ∃ P : Nat, N 100 2 = (P : Int) := ⟨(N 100 2).toNat, by omega⟩
  obtain ⟨len, hlen⟩ : ∃ l : Nat, N 111 j = (l : Int) := ⟨(N 111 j).toNat, by omega⟩
  obtain ⟨e, he⟩ : ∃ e : Nat, N 113 j = (e : Int) := ⟨(N 113 j).toNat, by omega⟩
  have hpa : max (N 112 j) (N 100 4) = (pa N j : Int) := by unfold pa; omega
  obtain ⟨a, ha⟩ : ∃ a, a = pa N j := ⟨_, rfl⟩
  rw [← ha] at hpa
  obtain ⟨M5, m1, m2, m3, m4, m5, m6⟩ := p_fill (n := n) (G := G) (M := A) (w := 200 + j) (a := a) (e := e) (len := len) (P := P) (v5 := 0) hG (Or.inl rfl) (by omega) (by omega) (by omega) (by omega) (by omega) (by omega) (by rw [eJ, g2]; exact hlen) (by rw [eJ, g1]; omega) (by rw [e1]; omega) (fun _ p y q1 q2 q3 => by
    have := hR p y (by omega) (by omega) q3
    have hu := hU p y
    have h6 := h.2.2.1.2.2.2 p (by omega)
    exact ⟨by omega, by omega⟩)
  have hT : ∀ q x, q < P → a ≤ x → (x : Int) ≤ (e : Int) - (len : Int) → vt (fun p h => M5 (61 + p) h) q x = pv N U j q x ∧ -1 ≤ M5 (61 + q) x ∧ M5 (61 + q) x ≤ 30000 := by
    intro q x q1 q2 q3
    have hb := cst_bd (j := j) (p := q) (h := x) h hj (by omega) (by omega)
    have hv : M5 (61 + q) x = if ∀ i, i < len → U q (x + i) < N 106 q then cst N j q x else -1 := by
      rw [m6 q x q1 q2 (by omega), ← cst_eq h hj (by omega) (by omega), eJ, hA (21 + q) (by omega), hA (11 + (N (200 + j) 1).toNat) (by omega)]
      unfold vl
      rw [g2, hlen, Int.toNat_natCast]
      by_cases d : ∀ i, i < len → U q (x + i) < N 106 q
      · rw [if_pos d, if_pos]
        intro i hi
        have := d i hi
        rw [hR q (x + i) (by omega) (by omega) (by omega)]
        omega
      · rw [if_neg d, if_neg]
        intro dd
        refine d (fun i hi => ?_)
        have := dd i hi
        rw [hR q (x + i) (by omega) (by omega) (by omega)] at this
        omega
    unfold vt pv
    rw [hlen, Int.toNat_natCast]
    simp only [hv]
    by_cases d : ∀ i, i < len → U q (x + i) < N 106 q
    · simp only [if_pos d]
      rw [if_neg (by omega)]
      exact ⟨rfl, by omega, by omega⟩
    · simp only [if_neg d]
      exact ⟨rfl, by omega, by omega⟩
  have hpk : pkH (vt (fun p h => M5 (61 + p) h)) P (decide (bh N j)) a (pkn N j) none = pick N U j := by
    unfold pick
    rw [hPn, Int.toNat_natCast, ← ha]
    exact pkH_congr _ _ _ (fun p x q1 q2 q3 => (hT p x q1 q2 (by unfold pkn at q3; omega)).1)
  have f5 : frP o A M5 := fun x q1 q2 q3 q4 q5 => m5 x q1 (by omega)
  have hbe := p_isBehind (G := G) h (f5.stc ho hA) hj
  have hkk : (a : Int) + (pkn N j : Int) = (e : Int) - (len : Int) + 1 ∨ (pkn N j = 0 ∧ (e : Int) - (len : Int) < (a : Int)) := by unfold pkn; omega
  have hTT : ∀ q x, q < P → a ≤ x → (x : Int) ≤ (e : Int) - (len : Int) → M5 (61 + q) x = (fun p h => M5 (61 + p) h) q x ∧ -1 ≤ (fun p h => M5 (61 + p) h) q x ∧ (fun p h => M5 (61 + p) h) q x ≤ 30000 := fun q x q1 q2 q3 => ⟨rfl, (hT q x q1 q2 q3).2⟩
  have hpick : ∃ M8, (if (if bh N j then (1 : Int) else 0) = 0 then (gb (f_X1_pickCheapest G n M5) fun M9 => some M9) else (gb (f_X1_pickSoonest G n M5) fun M10 => some M10)) = some M8 ∧ Rc (pick N U j) M8 ∧ fr6 M5 M8 := by
    rw [← hpk]
    by_cases b : bh N j
    · obtain ⟨M8, k1, k2, k3⟩ := p_pickSo (n := n) (G := G) (M := M5) (P := P) (a := a) (k := pkn N j) (last := (e : Int) - (len : Int)) (T := fun p h => M5 (61 + p) h) hG (by omega) (by omega) (by omega) hkk m2 m3 m4 hTT
      refine ⟨M8, ?_, ?_, k3⟩
      · rw [if_pos b, if_neg (by decide)]
        exact gb_eq k1
      · rw [decide_eq_true b]
        exact k2
    · obtain ⟨M8, k1, k2, k3⟩ := p_pickC (n := n) (G := G) (M := M5) (P := P) (a := a) (k := pkn N j) (last := (e : Int) - (len : Int)) (T := fun p h => M5 (61 + p) h) hG (by omega) (by omega) (by omega) hkk m2 m3 m4 hTT
      refine ⟨M8, ?_, ?_, k3⟩
      · rw [if_neg b, if_pos rfl]
        exact gb_eq k1
      · rw [decide_eq_false b]
        exact k2
  obtain ⟨M8, k1, k2, k3⟩ := hpick
  have f8 : frP o A M8 := fun x q1 q2 q3 q4 q5 => (k3.1 x q1).trans (f5 x q1 q2 q3 q4 q5)
  have n8 : ∀ x, x ≠ 6 → (x < 61 ∨ 64 < x) → M8 x = A x := fun x q1 q2 => (k3.1 x q1).trans (m5 x q1 q2)
  have hgo : ∀ A', (gg (ok (M8 6 6)) <| if (M8 6 6) = (-1) then (some M8) else (gb (f_X0_put G n M8 o (j : Int) (M8 6 4) (M8 6 5) (M8 6 6)) fun M12 => gb (f_X2_take G n M12 (M12 6 4) (M12 6 5) (M12 (200 + j) 2)) fun M13 => some M13)) = some A' → f_X5_layOne G n A o (j : Int) = some A' := by
    intro A' hh
    unfold f_X5_layOne
    rw [b_get ⟨by omega, by omega⟩ e2, Int.toNat_natCast]
    have q3 : A (200 + j) 3 = N 112 j := by rw [eJ, g3]
    have q4 : A (200 + j) 4 = (e : Int) := by rw [eJ, g4, he]
    have q9 : A 0 9 = N 100 4 := by rw [e0, a7]
    rw [q3, q4, q9, hpa, gg_pos (show ok (N 112 j) from ⟨by omega, by omega⟩), gg_pos (show ok (N 100 4) from ⟨by omega, by omega⟩), gb_eq m1, gb_eq hbe, gg_pos (show ok (if bh N j then (1 : Int) else 0) by split <;> decide), gb_eq k1]
    exact hh
  cases hs : pick N U j with
  | none =>
    rw [hs] at k2
    have k2 : M8 6 6 = -1 := k2
    refine ⟨M8, hgo M8 (by rw [k2, gg_pos (by decide), if_pos rfl]), f8, fun p x q1 q2 q3 => ?_, fun i hi => ?_, ?_, ?_⟩
    · rw [n8 _ (by omega) (by omega), hR p x q1 q2 q3]
      show N 106 p - U p x = N 106 p - (U p x + 0)
      omega
    · have := hP i hi
      by_cases c : i = j
      · subst c
        simp only [if_true]
        rw [hpj] at this
        rw [n8 _ (by omega) (by omega)]
        exact this
      · simp only [if_neg c]
        rw [n8 _ (by omega) (by omega), n8 _ (by omega) (by omega), n8 _ (by omega) (by omega)]
        exact this
    · rw [n8 o (by omega) (by omega)]
      show _ = A o 3 + 0
      omega
    · rw [n8 o (by omega) (by omega)]
      show _ = A o 4 + 0
      omega
  | some t =>
    obtain ⟨p, x, c⟩ := t
    rw [hs] at k2
    obtain ⟨z1, z2, z3, z4, z5⟩ := k2
    obtain ⟨y1, y2, y3, y4, y5, -⟩ := hpo p x c hs
    obtain ⟨M12, h12⟩ : ∃ M12, M12 = ga_st (ga_st (ga_st (ga_st (ga_st M8 (10 * o) j (p : Int)) (10 * o + 1) j (x : Int)) (10 * o + 2) j c) o 3 (M8 o 3 + 1)) o 4 (M8 o 4 + c) := ⟨_, rfl⟩
    have hput : f_X0_put G n M8 o (j : Int) (p : Int) (x : Int) c = some M12 := by
      unfold f_X0_put
      rw [gg_pos (show ix (j : Int) 40 from ⟨by omega, by omega⟩), gB_eq, gB_eq, gB_eq, gB_eq, gB_eq, Int.toNat_natCast, h12]
      congr 2
      · simp (disch := omega) only [ga_st_id]
      · simp (disch := omega) only [ga_st_id, ga_st_ix]
    have r12 : ∀ y, (y < 10 * o ∨ 10 * o + 2 < y) → y ≠ o → M12 y = M8 y := by
      intro y q1 q2
      rw [h12]
      simp (disch := omega) only [ga_st_row]
    have htake := p_take (n := n) (G := G) (M := M12) (p := p) (h := x) (len := len) hG (by omega) (by omega)
    refine ⟨setr M12 (31 + p) (adr (M12 (31 + p)) x len (-1)), hgo _ ?_, fun y q1 q2 q3 q4 q5 => ?_, fun q y q1 q2 q3 => ?_, fun i hi => ?_, ?_, ?_⟩
    · rw [z1, z2, z3, gg_pos (show ok c from ⟨by omega, by omega⟩), if_neg (by omega), gb_eq hput, r12 6 (by omega) (by omega), r12 (200 + j) (by omega) (by omega), z1, z2, n8 (200 + j) (by omega) (by omega), eJ, g2, hlen]
      exact gb_eq htake
    · rw [setr_ne (by omega), r12 y q4 q5]
      exact f8 y q1 q2 q3 q4 q5
    · show _ = N 106 q - (U q y + (if q = p ∧ x ≤ y ∧ y < x + (N 111 j).toNat then 1 else 0))
      rw [hlen, Int.toNat_natCast]
      by_cases d : q = p
      · subst d
        rw [setr_self]
        unfold adr
        rw [r12 _ (by omega) (by omega), n8 _ (by omega) (by omega), hR q y q1 q2 q3]
        by_cases d2 : x ≤ y ∧ y < x + len
        · rw [if_pos d2, if_pos (by omega)]
          omega
        · rw [if_neg d2, if_neg (by omega)]
          omega
      · rw [setr_ne (by omega), r12 _ (by omega) (by omega), n8 _ (by omega) (by omega), hR q y q1 q2 q3, if_neg (by omega)]
        omega
    · have := hP i hi
      rw [setr_ne (by omega), setr_ne (by omega), setr_ne (by omega)]
      by_cases d : i = j
      · subst d
        simp only [if_true]
        rw [h12]
        simp (disch := omega) only [ga_st_id, ga_st_self]
        exact ⟨trivial, trivial, trivial⟩
      · simp only [if_neg d]
        rw [h12]
        simp (disch := omega) only [ga_st_id, ga_st_ix]
        rw [n8 _ (by omega) (by omega), n8 _ (by omega) (by omega), n8 _ (by omega) (by omega)]
        exact this
    · rw [setr_ne (by omega), h12, ga_st_ix (by omega), ga_st_self, n8 o (by omega) (by omega)]
      rfl
    · rw [setr_ne (by omega), h12, ga_st_self, n8 o (by omega) (by omega)]
      rfl
end P1

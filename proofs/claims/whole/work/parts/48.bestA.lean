/-! ===== pure: the best LAYING together, in the abstract ===== -/
abbrev opt : Type := Nat × Nat × Int
def cto (l : Nat) (o : opt) (p h : Nat) : Int := if p = o.1 ∧ o.2.1 ≤ h ∧ h < o.2.1 + l then 1 else 0
def fit (cap : Nat → Int) (U : Nat → Nat → Int) (l : Nat) (o : opt) : Prop := ∀ t, t < l → U o.1 (o.2.1 + t) < cap o.1
def addo (U : Nat → Nat → Int) (l : Nat) (o : opt) : Nat → Nat → Int := fun p h => U p h + cto l o p h
def Val (cap : Nat → Int) (l : Nat → Nat) (Opt : Nat → opt → Prop) : Nat → Nat → (Nat → Nat → Int) → Int → Prop
  | 0, _, _, t => t = 0
  | k + 1, i, U, t => ∃ o, Opt i o ∧ fit cap U (l i) o ∧ ∃ t', Val cap l Opt k (i + 1) (addo U (l i) o) t' ∧ t = o.2.2 + t'
def res (b b' s : Int) (V : Int → Prop) : Prop := (b' = b ∨ ∃ t, V t ∧ b' = s + t) ∧ (b ≠ -1 → b' ≠ -1 ∧ b' ≤ b) ∧ ∀ t, V t → b' ≠ -1 ∧ b' ≤ s + t
def Vf (cap : Nat → Int) (U : Nat → Nat → Int) (li : Nat) (e : Nat → opt) (cnt : Nat) (W : opt → Int → Prop) (m0 : Nat) (t : Int) : Prop := ∃ m, m0 ≤ m ∧ m < cnt ∧ fit cap U li (e m) ∧ ∃ t', W (e m) t' ∧ t = (e m).2.2 + t'
section BA
variable {cap : Nat → Int} {U : Nat → Nat → Int} {li cnt m0 : Nat} {e : Nat → opt} {W : opt → Int → Prop} {b b1 b' s low : Int}
theorem cto_bd {l : Nat} {o : opt} {p h : Nat} : 0 ≤ cto l o p h ∧ cto l o p h ≤ 1 := by
  unfold cto
  split <;> omega
theorem res_end (h : cnt ≤ m0) : res b b s (Vf cap U li e cnt W m0) := ⟨Or.inl rfl, fun q => ⟨q, Int.le_refl b⟩, fun t ht => by
  obtain ⟨m, h1, h2, -⟩ := ht
  omega⟩
theorem res_cut (hb : b ≠ -1) (hc : b ≤ s + (e m0).2.2 + low) (hs : ∀ m m', m ≤ m' → m' < cnt → (e m).2.2 ≤ (e m').2.2) (hl : ∀ o t', W o t' → low ≤ t') : res b b s (Vf cap U li e cnt W m0) := ⟨Or.inl rfl, fun q => ⟨q, Int.le_refl b⟩, fun t ht => by
  obtain ⟨m, h1, h2, h3, t', h4, h5⟩ := ht
  have := hs m0 m h1 h2
  have := hl _ _ h4
  exact ⟨hb, by omega⟩⟩
theorem res_skip (hf : ¬ fit cap U li (e m0)) (h : res b b' s (Vf cap U li e cnt W (m0 + 1))) : res b b' s (Vf cap U li e cnt W m0) := by
  obtain ⟨h1, h2, h3⟩ := h
  refine ⟨?_, h2, fun t ht => ?_⟩
  · rcases h1 with q | ⟨t, ⟨m, r1, r2⟩, q⟩
    · exact Or.inl q
    · exact Or.inr ⟨t, ⟨m, by omega, r2⟩, q⟩
  · obtain ⟨m, r1, r2, r3, r4⟩ := ht
    by_cases c : m = m0
    · subst c
      exact absurd r3 hf
    · exact h3 t ⟨m, by omega, r2, r3, r4⟩
theorem res_take (hf : fit cap U li (e m0)) (hm : m0 < cnt) (h : res b b1 (s + (e m0).2.2) (W (e m0))) (h' : res b1 b' s (Vf cap U li e cnt W (m0 + 1))) : res b b' s (Vf cap U li e cnt W m0) := by
  obtain ⟨h1, h2, h3⟩ := h
  obtain ⟨k1, k2, k3⟩ := h'
  refine ⟨?_, fun q => ?_, fun t ht => ?_⟩
  · rcases k1 with q | ⟨t, ⟨m, r1, r2⟩, q⟩
    · rcases h1 with q2 | ⟨t, r1, r2⟩
      · exact Or.inl (q.trans q2)
      · exact Or.inr ⟨(e m0).2.2 + t, ⟨m0, Nat.le_refl m0, hm, hf, t, r1, rfl⟩, by omega⟩
    · exact Or.inr ⟨t, ⟨m, by omega, r2⟩, q⟩
  · have a := h2 q
    have c := k2 a.1
    exact ⟨c.1, by omega⟩
  · obtain ⟨m, r1, r2, r3, t', r4, r5⟩ := ht
    by_cases c : m = m0
    · subst c
      have a := h3 t' r4
      have d := k2 a.1
      exact ⟨d.1, by omega⟩
    · exact k3 t ⟨m, by omega, r2, r3, t', r4, r5⟩
theorem res_leaf (h0 : 0 ≤ s) (hb : b ≠ -1 → s ≤ b) : res b s s (fun t => t = 0) := ⟨Or.inr ⟨0, rfl, by omega⟩, fun q => ⟨by omega, hb q⟩, fun t ht => ⟨by omega, by omega⟩⟩
theorem res_iff {V V' : Int → Prop} (h : res b b' s V) (hv : ∀ t, V t ↔ V' t) : res b b' s V' := by
  obtain ⟨h1, h2, h3⟩ := h
  refine ⟨?_, h2, fun t ht => h3 t ((hv t).mpr ht)⟩
  rcases h1 with q | ⟨t, r1, r2⟩
  · exact Or.inl q
  · exact Or.inr ⟨t, (hv t).mp r1, r2⟩
theorem res_two {V1 V2 : Int → Prop} {c1 c2 : Int} (h1 : res (-1) c1 0 V1) (h2 : res (-1) c2 0 V2) (hs : ∀ t, V1 t → V2 t) (hx : ∀ t, V2 t → ∃ t', V1 t' ∧ t' ≤ t) : c1 = c2 := by
  obtain ⟨a1, -, a3⟩ := h1
  obtain ⟨d1, -, d3⟩ := h2
  rcases a1 with q | ⟨t, r1, r2⟩
  · rcases d1 with q2 | ⟨t2, s1, s2⟩
    · omega
    · obtain ⟨t', u1, u2⟩ := hx t2 s1
      exact absurd q (a3 t' u1).1
  · have e1 := d3 t (hs t r1)
    rcases d1 with q2 | ⟨t2, s1, s2⟩
    · exact absurd q2 e1.1
    · obtain ⟨t', u1, u2⟩ := hx t2 s1
      have e2 := a3 t' u1
      omega
theorem Val_mono {l : Nat → Nat} {O1 O2 : Nat → opt → Prop} (h : ∀ i o, O1 i o → O2 i o) : ∀ (k i : Nat) (U : Nat → Nat → Int) (t : Int), Val cap l O1 k i U t → Val cap l O2 k i U t
  | 0, _, _, _, hv => hv
  | k + 1, i, U, t, hv => by
    obtain ⟨o, h1, h2, t', h3, h4⟩ := hv
    exact ⟨o, h i o h1, h2, t', Val_mono h k (i + 1) _ t' h3, h4⟩
/-- a value is a choice for each JOB -/
theorem Val_fun {l : Nat → Nat} {O : Nat → opt → Prop} : ∀ (k i : Nat) (U : Nat → Nat → Int) (t : Int), Val cap l O k i U t ↔ ∃ f : Nat → opt, (∀ m, m < k → O (i + m) (f (i + m)) ∧ fit cap (fun p h => U p h + sm (fun q => cto (l q) (f q) p h) i m) (l (i + m)) (f (i + m))) ∧ t = sm (fun q => (f q).2.2) i k
  | 0, i, U, t => ⟨fun h => ⟨fun _ => (0, 0, 0), fun m hm => by omega, h⟩, fun ⟨f, _, h⟩ => h⟩
  | k + 1, i, U, t => by
    constructor
    · intro hv
      obtain ⟨o, h1, h2, t', h3, h4⟩ := hv
      obtain ⟨f, f1, f2⟩ := (Val_fun k (i + 1) _ t').mp h3
      refine ⟨fun q => if q = i then o else f q, fun m hm => ?_, ?_⟩
      · cases m with
        | zero =>
          simp only [Nat.add_zero, if_true]
          refine ⟨h1, fun t ht => ?_⟩
          have := h2 t ht
          show U o.1 (o.2.1 + t) + 0 < cap o.1
          omega
        | succ m =>
          have := f1 m (by omega)
          rw [show i + (m + 1) = i + 1 + m by omega]
          simp only [if_neg (show ¬ i + 1 + m = i by omega)]
          refine ⟨this.1, fun t ht => ?_⟩
          have h6 := this.2 t ht
          have e1 : sm (fun q => cto (l q) (if q = i then o else f q) (f (i + 1 + m)).1 ((f (i + 1 + m)).2.1 + t)) i (m + 1) = cto (l i) o (f (i + 1 + m)).1 ((f (i + 1 + m)).2.1 + t) + sm (fun q => cto (l q) (f q) (f (i + 1 + m)).1 ((f (i + 1 + m)).2.1 + t)) (i + 1) m := by
            rw [sm_first]
            simp only [if_true]
            congr 1
            refine sm_congr (fun a _ => ?_)
            simp only [if_neg (show ¬ i + 1 + a = i by omega)]
          show U _ _ + sm (fun q => cto (l q) (if q = i then o else f q) (f (i + 1 + m)).1 ((f (i + 1 + m)).2.1 + t)) i (m + 1) < _
          rw [e1]
          have h6 : U (f (i + 1 + m)).1 ((f (i + 1 + m)).2.1 + t) + cto (l i) o (f (i + 1 + m)).1 ((f (i + 1 + m)).2.1 + t) + sm (fun q => cto (l q) (f q) (f (i + 1 + m)).1 ((f (i + 1 + m)).2.1 + t)) (i + 1) m < cap (f (i + 1 + m)).1 := h6
          omega
      · rw [sm_first, h4, f2]
        simp only [if_true]
        congr 1
        refine sm_congr (fun a _ => ?_)
        simp only [if_neg (show ¬ i + 1 + a = i by omega)]
    · intro ⟨f, f1, f2⟩
      have h0 := f1 0 (by omega)
      refine ⟨f i, h0.1, fun t ht => ?_, sm (fun q => (f q).2.2) (i + 1) k, (Val_fun k (i + 1) _ _).mpr ⟨f, fun m hm => ?_, rfl⟩, ?_⟩
      · have := h0.2 t ht
        have : U (f i).1 ((f i).2.1 + t) + 0 < cap (f i).1 := this
        omega
      · have := f1 (m + 1) (by omega)
        rw [show i + (m + 1) = i + 1 + m by omega] at this
        refine ⟨this.1, fun t ht => ?_⟩
        have h6 := this.2 t ht
        have h6 : U (f (i + 1 + m)).1 ((f (i + 1 + m)).2.1 + t) + sm (fun q => cto (l q) (f q) (f (i + 1 + m)).1 ((f (i + 1 + m)).2.1 + t)) i (m + 1) < cap (f (i + 1 + m)).1 := h6
        rw [sm_first] at h6
        show U _ _ + cto (l i) (f i) _ _ + sm _ (i + 1) m < _
        omega
      · rw [f2, sm_first]
theorem pigeon : ∀ (N : Nat) (f : Nat → Nat), (∀ i, i ≤ N → f i < N) → ∃ i j, i < j ∧ j ≤ N ∧ f i = f j
  | 0, f, h => absurd (h 0 (Nat.le_refl 0)) (by omega)
  | N + 1, f, h => by
    by_cases c : ∃ i, i ≤ N ∧ f i = f (N + 1)
    · obtain ⟨i, h1, h2⟩ := c
      exact ⟨i, N + 1, by omega, Nat.le_refl _, h2⟩
    · have hn : ∀ i, i ≤ N → f i ≠ f (N + 1) := fun i hi e => c ⟨i, hi, e⟩
      have hv := h (N + 1) (Nat.le_refl _)
      obtain ⟨i, j, h1, h2, h3⟩ := pigeon N (fun i => if f (N + 1) < f i then f i - 1 else f i) (fun i hi => by
        have h1 := h i (by omega)
        have h2 := hn i hi
        show (if f (N + 1) < f i then f i - 1 else f i) < N
        split <;> omega)
      refine ⟨i, j, h1, by omega, ?_⟩
      have a1 := hn i (by omega)
      have a2 := hn j h2
      have h3 : (if f (N + 1) < f i then f i - 1 else f i) = (if f (N + 1) < f j then f j - 1 else f j) := h3
      split at h3 <;> split at h3 <;> omega
theorem sm_one {g : Nat → Int} {j : Nat} : ∀ K, j < K → (∀ q, q < K → q ≠ j → g q = 0) → sm g 0 K = g j
  | 0, h, _ => by omega
  | K + 1, h, e => by
    show sm g 0 K + g (0 + K) = g j
    rw [Nat.zero_add]
    by_cases c : j = K
    · subst c
      have := sm_bd (f := g) (a := 0) (lo := 0) (hi := 0) (k := j) (fun i hi => by rw [Nat.zero_add, e i (by omega) (by omega)]; omega)
      omega
    · rw [sm_one K (by omega) (fun q q1 q2 => e q (by omega) q2), e K (by omega) (by omega)]
      omega
theorem sm_le {f g : Nat → Int} {a : Nat} : ∀ k, (∀ i, i < k → f (a + i) ≤ g (a + i)) → sm f a k ≤ sm g a k
  | 0, _ => Int.le_refl 0
  | k + 1, h => by
    have h1 := sm_le k (fun i hi => h i (by omega))
    have h2 := h k (by omega)
    show sm f a k + f (a + k) ≤ sm g a k + g (a + k)
    omega
theorem sm_mono {f : Nat → Int} (h : ∀ i, 0 ≤ f i) {a k : Nat} : ∀ m, sm f a k ≤ sm f a (k + m)
  | 0 => Int.le_refl _
  | m + 1 => by
    have := sm_mono h (a := a) (k := k) m
    have h2 := h (a + (k + m))
    show sm f a k ≤ sm f a (k + m) + f (a + (k + m))
    omega
/-- each choice in its HOURS together within the ROOM -/
def Fea (cap : Nat → Int) (U : Nat → Nat → Int) (l : Nat → Nat) (C : Nat → opt → Prop) (K : Nat) (f : Nat → opt) : Prop := ∀ i, i < K → C i (f i) ∧ ∀ t, t < l i → U (f i).1 ((f i).2.1 + t) + sm (fun q => cto (l q) (f q) (f i).1 ((f i).2.1 + t)) 0 K ≤ cap (f i).1
theorem cto_self {l t : Nat} {o : opt} (h : t < l) : cto l o o.1 (o.2.1 + t) = 1 := if_pos ⟨rfl, by omega, by omega⟩
theorem Fea_iff {l : Nat → Nat} {C : Nat → opt → Prop} {K : Nat} {f : Nat → opt} : (∀ m, m < K → C (0 + m) (f (0 + m)) ∧ fit cap (fun p h => U p h + sm (fun q => cto (l q) (f q) p h) 0 m) (l (0 + m)) (f (0 + m))) ↔ Fea cap U l C K f := by
  constructor
  · intro h i hi
    have hh := h i hi
    rw [Nat.zero_add] at hh
    refine ⟨hh.1, fun t ht => ?_⟩
    have key : ∀ m, i + 1 + m ≤ K → U (f i).1 ((f i).2.1 + t) + sm (fun q => cto (l q) (f q) (f i).1 ((f i).2.1 + t)) 0 (i + 1 + m) ≤ cap (f i).1 := by
      intro m
      induction m with
      | zero =>
        intro _
        show U _ _ + (sm _ 0 i + cto (l (0 + i)) (f (0 + i)) _ _) ≤ _
        rw [Nat.zero_add, cto_self ht]
        have := hh.2 t ht
        have : U (f i).1 ((f i).2.1 + t) + sm (fun q => cto (l q) (f q) (f i).1 ((f i).2.1 + t)) 0 i < cap (f i).1 := this
        omega
      | succ m ih =>
        intro hm
        have h1 := ih (by omega)
        show U _ _ + (sm _ 0 (i + 1 + m) + cto (l (0 + (i + 1 + m))) (f (0 + (i + 1 + m))) _ _) ≤ _
        rw [Nat.zero_add]
        by_cases c : (f i).1 = (f (i + 1 + m)).1 ∧ (f (i + 1 + m)).2.1 ≤ (f i).2.1 + t ∧ (f i).2.1 + t < (f (i + 1 + m)).2.1 + l (i + 1 + m)
        · have e1 : cto (l (i + 1 + m)) (f (i + 1 + m)) (f i).1 ((f i).2.1 + t) = 1 := if_pos c
          have h2 := (h (i + 1 + m) (by omega)).2
          rw [Nat.zero_add] at h2
          have h3 := h2 ((f i).2.1 + t - (f (i + 1 + m)).2.1) (by omega)
          rw [← c.1, show (f (i + 1 + m)).2.1 + ((f i).2.1 + t - (f (i + 1 + m)).2.1) = (f i).2.1 + t by omega] at h3
          have h3 : U (f i).1 ((f i).2.1 + t) + sm (fun q => cto (l q) (f q) (f i).1 ((f i).2.1 + t)) 0 (i + 1 + m) < cap (f i).1 := h3
          rw [e1]
          omega
        · have e1 : cto (l (i + 1 + m)) (f (i + 1 + m)) (f i).1 ((f i).2.1 + t) = 0 := if_neg c
          rw [e1]
          omega
    have := key (K - (i + 1)) (by omega)
    rw [show i + 1 + (K - (i + 1)) = K by omega] at this
    exact this
  · intro h m hm
    rw [Nat.zero_add]
    refine ⟨(h m hm).1, fun t ht => ?_⟩
    have h1 := (h m hm).2 t ht
    have h2 := sm_mono (f := fun q => cto (l q) (f q) (f m).1 ((f m).2.1 + t)) (fun _ => cto_bd.1) (a := 0) (k := m + 1) (K - (m + 1))
    rw [show m + 1 + (K - (m + 1)) = K by omega] at h2
    have h3 : sm (fun q => cto (l q) (f q) (f m).1 ((f m).2.1 + t)) 0 (m + 1) = sm (fun q => cto (l q) (f q) (f m).1 ((f m).2.1 + t)) 0 m + 1 := by
      show _ + cto (l (0 + m)) (f (0 + m)) _ _ = _
      rw [Nat.zero_add, cto_self ht]
    show U _ _ + sm _ 0 m < _
    omega
theorem exch_one {l : Nat → Nat} {C : Nat → opt → Prop} {K j : Nat} {f : Nat → opt} {o : opt} (hf : Fea cap U l C K f) (hj : j < K) (ho : C j o) (hfit : fit cap U (l j) o) (hno : ∀ m, m < K → m ≠ j → ∀ t, t < l j → cto (l m) (f m) o.1 (o.2.1 + t) = 0) : Fea cap U l C K (fun q => if q = j then o else f q) := by
  intro i hi
  by_cases c : i = j
  · subst c
    simp only [if_true]
    refine ⟨ho, fun t ht => ?_⟩
    rw [sm_one (g := fun q => cto (l q) (if q = i then o else f q) o.1 (o.2.1 + t)) (j := i) K hi (fun q q1 q2 => by
      simp only [if_neg q2]
      exact hno q q1 q2 t ht)]
    simp only [if_true]
    rw [cto_self ht]
    have := hfit t ht
    omega
  · simp only [if_neg c]
    refine ⟨(hf i hi).1, fun t ht => ?_⟩
    have h1 := (hf i hi).2 t ht
    have h2 := sm_le (f := fun q => cto (l q) (if q = j then o else f q) (f i).1 ((f i).2.1 + t)) (g := fun q => cto (l q) (f q) (f i).1 ((f i).2.1 + t)) (a := 0) K (fun q hq => by
      rw [Nat.zero_add]
      by_cases d : q = j
      · subst d
        simp only [if_true]
        by_cases d2 : (f i).1 = o.1 ∧ o.2.1 ≤ (f i).2.1 + t ∧ (f i).2.1 + t < o.2.1 + l q
        · have h3 := hno i hi c ((f i).2.1 + t - o.2.1) (by omega)
          rw [show o.2.1 + ((f i).2.1 + t - o.2.1) = (f i).2.1 + t by omega, ← d2.1, cto_self ht] at h3
          omega
        · have e1 : cto (l q) o (f i).1 ((f i).2.1 + t) = 0 := if_neg d2
          rw [e1]
          exact cto_bd.1
      · simp only [if_neg d]
        exact Int.le_refl _)
    omega
theorem free_one {l : Nat → Nat} {K j : Nat} {f e : Nat → opt} (hK : K ≤ 3) (hj : j < K) (hl : ∀ i, l i ≤ 12) (hd : ∀ m m', m < m' → m' < 47 → ¬ ((e m).1 = (e m').1 ∧ (e m).2.1 = (e m').2.1)) : ∃ m, m < 47 ∧ ∀ q, q < K → q ≠ j → ∀ t, t < l j → cto (l q) (f q) (e m).1 ((e m).2.1 + t) = 0 := by
  refine Classical.byContradiction (fun hno => ?_)
  have hb : ∀ m, ∃ c, m < 47 → c < 46 ∧ ∃ q, q < K ∧ q ≠ j ∧ (e m).1 = (f q).1 ∧ (f q).2.1 ≤ (e m).2.1 + 11 ∧ (e m).2.1 + 11 - (f q).2.1 ≤ 22 ∧ c = 23 * (if q < j then q else q - 1) + ((e m).2.1 + 11 - (f q).2.1) := by
    intro m
    by_cases hm : m < 47
    · have h1 : ¬ ∀ q, q < K → q ≠ j → ∀ t, t < l j → cto (l q) (f q) (e m).1 ((e m).2.1 + t) = 0 := fun q => hno ⟨m, hm, q⟩
      obtain ⟨q, h1⟩ := Classical.not_forall.mp h1
      obtain ⟨q1, h1⟩ := Classical.not_forall.mp h1
      obtain ⟨q2, h1⟩ := Classical.not_forall.mp h1
      obtain ⟨t, h1⟩ := Classical.not_forall.mp h1
      obtain ⟨ht, h1⟩ := Classical.not_forall.mp h1
      have hlj := hl j
      have hlq := hl q
      by_cases d : (e m).1 = (f q).1 ∧ (f q).2.1 ≤ (e m).2.1 + t ∧ (e m).2.1 + t < (f q).2.1 + l q
      · refine ⟨_, fun _ => ⟨?_, q, q1, q2, d.1, by omega, by omega, rfl⟩⟩
        split <;> omega
      · exact absurd (show cto (l q) (f q) (e m).1 ((e m).2.1 + t) = 0 from if_neg d) h1
    · exact ⟨0, fun q => absurd q hm⟩
  obtain ⟨g, hg⟩ := Classical.axiomOfChoice hb
  obtain ⟨m, m', h1, h2, h3⟩ := pigeon 46 g (fun i hi => (hg i (by omega)).1)
  obtain ⟨-, q, q1, q2, q3, q4, q5, q6⟩ := hg m (by omega)
  obtain ⟨-, r, r1, r2, r3, r4, r5, r6⟩ := hg m' (by omega)
  have hqr : q = r := by
    rw [q6, r6] at h3
    split at h3 <;> split at h3 <;> omega
  subst hqr
  refine hd m m' h1 (by omega) ⟨by rw [q3, r3], ?_⟩
  rw [q6, r6] at h3
  omega
/-- who keeps the 47 cheapest of each loses nothing -/
theorem exch {l : Nat → Nat} {C Kp : Nat → opt → Prop} {K : Nat} (hK : K ≤ 3) (hl : ∀ i, l i ≤ 12) (hfit : ∀ i o, i < K → C i o → fit cap U (l i) o) (hsub : ∀ i o, i < K → Kp i o → C i o) (hden : ∀ i o, i < K → C i o → Kp i o ∨ ∃ e : Nat → opt, (∀ m, m < 47 → Kp i (e m) ∧ (e m).2.2 ≤ o.2.2) ∧ ∀ m m', m < m' → m' < 47 → ¬ ((e m).1 = (e m').1 ∧ (e m).2.1 = (e m').2.1)) {t : Int} (hv : Val cap l C K 0 U t) : ∃ t', Val cap l Kp K 0 U t' ∧ t' ≤ t := by
  obtain ⟨f, f1, f2⟩ := (Val_fun K 0 U t).mp hv
  have key : ∀ j, j ≤ K → ∃ f', Fea cap U l C K f' ∧ (∀ i, i < j → Kp i (f' i)) ∧ sm (fun q => (f' q).2.2) 0 K ≤ t := by
    intro j
    induction j with
    | zero => exact fun _ => ⟨f, Fea_iff.mp f1, fun i hi => by omega, by omega⟩
    | succ j ih =>
      intro hj
      obtain ⟨f', g1, g2, g3⟩ := ih (by omega)
      rcases hden j (f' j) (by omega) (g1 j (by omega)).1 with q | ⟨e, e1, e2⟩
      · refine ⟨f', g1, fun i hi => ?_, g3⟩
        by_cases c : i = j
        · subst c; exact q
        · exact g2 i (by omega)
      · obtain ⟨m, m1, m2⟩ := free_one (f := f') (e := e) hK (show j < K by omega) hl e2
        refine ⟨fun q => if q = j then e m else f' q, exch_one g1 (by omega) (hsub j _ (by omega) (e1 m m1).1) (hfit j _ (by omega) (hsub j _ (by omega) (e1 m m1).1)) m2, fun i hi => ?_, ?_⟩
        · by_cases c : i = j
          · subst c
            simp only [if_true]
            exact (e1 m m1).1
          · simp only [if_neg c]
            exact g2 i (by omega)
        · have := sm_upd (f := fun q => (f' q).2.2) (g := fun q => (if q = j then e m else f' q).2.2) (j := j) K (by omega) (fun i hi => by simp only [if_neg hi])
          simp only [if_true] at this
          have h4 := (e1 m m1).2
          show sm (fun q => (if q = j then e m else f' q).2.2) 0 K ≤ t
          omega
  obtain ⟨f', g1, g2, g3⟩ := key K (Nat.le_refl K)
  refine ⟨_, (Val_fun K 0 U _).mpr ⟨f', fun m hm => ?_, rfl⟩, g3⟩
  have := (Fea_iff.mpr g1) m hm
  rw [Nat.zero_add] at this ⊢
  exact ⟨g2 m hm, this.2⟩
end BA

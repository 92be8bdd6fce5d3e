/-! ===== pure: sums, the invariant ===== -/
def sm (f : Nat → Int) (a : Nat) : Nat → Int
  | 0 => 0
  | k + 1 => sm f a k + f (a + k)
theorem sm_congr {f g : Nat → Int} {a b : Nat} : ∀ {k : Nat}, (∀ i, i < k → f (a + i) = g (b + i)) → sm f a k = sm g b k
  | 0, _ => rfl
  | k + 1, h => by
    show sm f a k + f (a + k) = sm g b k + g (b + k)
    rw [sm_congr (fun i hi => h i (by omega)), h k (by omega)]
theorem sm_first {f : Nat → Int} : ∀ (k a : Nat), sm f a (k + 1) = f a + sm f (a + 1) k
  | 0, a => by show 0 + f (a + 0) = f a + 0; simp
  | k + 1, a => by
    show sm f a (k + 1) + f (a + (k + 1)) = f a + (sm f (a + 1) k + f (a + 1 + k))
    rw [sm_first k a, show a + 1 + k = a + (k + 1) by omega]
    omega
theorem sm_bd {f : Nat → Int} {a : Nat} {lo hi : Int} : ∀ {k : Nat}, (∀ i, i < k → lo ≤ f (a + i) ∧ f (a + i) ≤ hi) → k * lo ≤ sm f a k ∧ sm f a k ≤ k * hi
  | 0, _ => by simp [sm]
  | k + 1, h => by
    have h1 := sm_bd (k := k) (fun i hi => h i (by omega))
    have h2 := h k (by omega)
    show _ ≤ sm f a k + f (a + k) ∧ sm f a k + f (a + k) ≤ _
    rw [Int.natCast_add, Int.add_mul, Int.add_mul]
    simp only [Int.natCast_one, Int.one_mul]
    omega
theorem ok_of {x : Int} (h1 : -2147483648 ≤ x) (h2 : x ≤ 2147483647) : ok x := ⟨h1, h2⟩
-- one BEGUN JOB's ROOM in an HOUR
def oc (M : gaM) (p h : Nat) (j : Nat) : Int := if M 115 j = 1 ∧ M 116 j = (p : Int) ∧ M 117 j ≤ (h : Int) ∧ (h : Int) < M 117 j + M 111 j then 1 else 0
-- one JOB's part of an OWNER's DELAY
def dl (M : gaM) (o : Nat) (j : Nat) : Int := if M 109 j = (o : Int) ∧ (M 115 j = 1 ∨ M 115 j = 2) then M 117 j - M 112 j else 0
def lc (M : gaM) (j : Nat) : Int := if M 124 j = -1 then 0 else M 126 j
def iA (n : Nat) (M : gaM) : Prop := M 1 0 = M 100 2 ∧ 0 ≤ M 100 2 ∧ M 100 2 ≤ 4 ∧ M 2 2 = (n : Int) ∧ M 100 3 = (n : Int) ∧ n ≤ 40 ∧ M 0 9 = M 100 4 ∧ 0 ≤ M 100 4 ∧ M 100 4 ≤ 299 ∧ M 0 8 = M 100 5 ∧ 1 ≤ M 100 5 ∧ M 100 5 ≤ 500 ∧ M 0 10 = M 100 1 ∧ 0 ≤ M 100 1 ∧ M 100 1 ≤ 4
def iB (M : gaM) : Prop := (∀ a b : Nat, (a : Int) < M 100 2 → (b : Int) < M 100 2 → M (11 + a) b = M 107 (4 * a + b)) ∧ (∀ a b : Nat, a < 4 → b < 4 → 0 ≤ M 107 (4 * a + b) ∧ M 107 (4 * a + b) ≤ 99) ∧ (∀ a b : Nat, a < 4 → b < 4 → M 100 2 ≤ (a : Int) ∨ M 100 2 ≤ (b : Int) → M 107 (4 * a + b) = if a = b then 0 else 1) ∧ ∀ a : Nat, a < 4 → M (11 + a) a = 0
def iG (M : gaM) : Prop := (∀ p h : Nat, (p : Int) < M 100 2 → h < 300 → M (21 + p) h = M 108 (300 * p + h)) ∧ (∀ p h : Nat, p < 4 → h < 300 → 0 ≤ M 108 (300 * p + h) ∧ M 108 (300 * p + h) ≤ 999) ∧ (∀ p h : Nat, p < 4 → h < 300 → M 100 2 ≤ (p : Int) → M 108 (300 * p + h) = 500) ∧ ∀ p : Nat, (p : Int) < M 100 2 → 1 ≤ M 106 p ∧ M 106 p ≤ 9
-- a JOB: the same on both sides, and what it may hold
def iJ1 (M : gaM) (j : Nat) : Prop := M (200 + j) 0 = M 109 j ∧ M (200 + j) 1 = M 110 j ∧ M (200 + j) 2 = M 111 j ∧ M (200 + j) 3 = M 112 j ∧ M (200 + j) 4 = M 113 j ∧ M (200 + j) 5 = M 114 j ∧ M (200 + j) 6 = M 115 j ∧ M (200 + j) 7 = M 116 j ∧ M (200 + j) 8 = M 117 j ∧ M (200 + j) 9 = M 118 j
def iJ2 (M : gaM) (j : Nat) : Prop := 0 ≤ M 109 j ∧ M 109 j < 6 ∧ 0 ≤ M 110 j ∧ M 110 j < M 100 2 ∧ 1 ≤ M 111 j ∧ M 111 j ≤ 12 ∧ 0 ≤ M 112 j ∧ M 112 j + M 111 j ≤ M 113 j ∧ M 113 j ≤ 300 ∧ 0 ≤ M 114 j ∧ M 114 j ≤ 99
def iJ3 (M : gaM) (j : Nat) : Prop := 0 ≤ M 115 j ∧ M 115 j ≤ 3 ∧ (M 115 j = 1 ∨ M 115 j = 2 → 0 ≤ M 116 j ∧ M 116 j < M 100 2 ∧ M 112 j ≤ M 117 j ∧ M 117 j + M 111 j ≤ M 113 j) ∧ (M 115 j = 1 → M 117 j < M 100 4 ∧ M 100 4 < M 117 j + M 111 j) ∧ (M 115 j = 2 → M 117 j + M 111 j ≤ M 100 4) ∧ 0 ≤ M 118 j ∧ M 118 j ≤ 9801 + 999 * M 100 4 ∧ (M 115 j = 0 → M 118 j = 0)
def iR (n : Nat) (M : gaM) : Prop := ∀ p h : Nat, (p : Int) < M 100 2 → M 100 4 ≤ (h : Int) → h < 300 → M (31 + p) h = M 106 p - sm (oc M p h) 0 n
def iD (n : Nat) (M : gaM) : Prop := ∀ o : Nat, o < 6 → M 3 o = sm (dl M o) 0 n
def iL (n : Nat) (M : gaM) : Prop := (M 100 29 = -1 ∧ M 4 4 = -1 ∧ ∀ i : Nat, i < 40 → M 40 i = -1) ∨ ∃ L : Nat, M 100 29 = (L : Int) ∧ L ≤ n ∧ (∀ j : Nat, j < L → M 40 j = M 124 j ∧ -1 ≤ M 124 j ∧ M 124 j ≤ 3 ∧ (M 124 j = -1 → M 125 j = -1 ∧ M 126 j = -1) ∧ (M 124 j ≠ -1 → M 41 j = M 125 j ∧ M 42 j = M 126 j)) ∧ (∀ j : Nat, L ≤ j → j < 40 → M 40 j = -1) ∧ M 4 4 = sm (lc M) 0 L
def Inv (n : Nat) (M : gaM) : Prop := iA n M ∧ iB M ∧ iG M ∧ (∀ j : Nat, j < n → iJ1 M j ∧ iJ2 M j ∧ iJ3 M j) ∧ iR n M ∧ iD n M ∧ iL n M
-- what a change elsewhere leaves
def eqOn (S : Nat → Prop) (M M' : gaM) : Prop := ∀ a, S a → M' a = M a
theorem iB.of {M M' : gaM} (h : iB M) (h1 : ∀ a, a < 4 → M' (11 + a) = M (11 + a)) (h2 : M' 107 = M 107) (h3 : M' 100 2 = M 100 2) (hP : M 100 2 ≤ 4) : iB M' := by
  obtain ⟨g1, g2, g3, g4⟩ := h
  refine ⟨fun a b ha hb => ?_, fun a b ha hb => ?_, fun a b ha hb hc => ?_, fun a ha => ?_⟩
  · rw [h3] at ha hb; rw [h1 a (by omega), h2]; exact g1 a b ha hb
  · rw [h2]; exact g2 a b ha hb
  · rw [h3] at hc; rw [h2]; exact g3 a b ha hb hc
  · rw [h1 a ha]; exact g4 a ha
theorem iG.of {M M' : gaM} (h : iG M) (h1 : ∀ a, a < 4 → M' (21 + a) = M (21 + a)) (h2 : M' 108 = M 108) (h4 : M' 106 = M 106) (h3 : M' 100 2 = M 100 2) (hP : M 100 2 ≤ 4) : iG M' := by
  obtain ⟨g1, g2, g3, g4⟩ := h
  refine ⟨fun a b ha hb => ?_, fun a b ha hb => ?_, fun a b ha hb hc => ?_, fun a ha => ?_⟩
  · rw [h3] at ha; rw [h1 a (by omega), h2]; exact g1 a b ha hb
  · rw [h2]; exact g2 a b ha hb
  · rw [h3] at hc; rw [h2]; exact g3 a b ha hb hc
  · rw [h3] at ha; rw [h4]; exact g4 a ha
theorem iJ.of {M M' : gaM} {j : Nat} (h : iJ1 M j ∧ iJ2 M j ∧ iJ3 M j) (h1 : M' (200 + j) = M (200 + j)) (h2 : ∀ a, 109 ≤ a → a ≤ 118 → M' a j = M a j) (h3 : M' 100 2 = M 100 2) (h4 : M' 100 4 = M 100 4) : iJ1 M' j ∧ iJ2 M' j ∧ iJ3 M' j := by
  obtain ⟨g1, g2, g3⟩ := h
  unfold iJ1 iJ2 iJ3 at *
  rw [h1, h2 109 (by omega) (by omega), h2 110 (by omega) (by omega), h2 111 (by omega) (by omega), h2 112 (by omega) (by omega), h2 113 (by omega) (by omega), h2 114 (by omega) (by omega), h2 115 (by omega) (by omega), h2 116 (by omega) (by omega), h2 117 (by omega) (by omega), h2 118 (by omega) (by omega), h3, h4]
  exact ⟨g1, g2, g3⟩
theorem iR.of {n : Nat} {M M' : gaM} (h : iR n M) (h1 : ∀ a, a < 4 → M' (31 + a) = M (31 + a)) (h2 : M' 106 = M 106) (h5 : ∀ j, j < n → M' 115 j = M 115 j ∧ M' 116 j = M 116 j ∧ M' 117 j = M 117 j ∧ M' 111 j = M 111 j) (h3 : M' 100 2 = M 100 2) (h4 : M' 100 4 = M 100 4) (hP : M 100 2 ≤ 4) : iR n M' := by
  intro p hh hp hn h3h
  rw [h3] at hp
  rw [h4] at hn
  rw [h1 p (by omega), h2, h p hh hp hn h3h]
  congr 1
  refine sm_congr (fun i hi => ?_)
  rw [Nat.zero_add]
  unfold oc
  obtain ⟨q1, q2, q3, q4⟩ := h5 i hi
  rw [q1, q2, q3, q4]
theorem iD.of {n : Nat} {M M' : gaM} (h : iD n M) (h1 : M' 3 = M 3) (h5 : ∀ j, j < n → M' 109 j = M 109 j ∧ M' 115 j = M 115 j ∧ M' 117 j = M 117 j ∧ M' 112 j = M 112 j) : iD n M' := by
  intro o ho
  rw [h1, h o ho]
  refine sm_congr (fun i hi => ?_)
  rw [Nat.zero_add]
  unfold dl
  obtain ⟨q1, q2, q3, q4⟩ := h5 i hi
  rw [q1, q2, q3, q4]
theorem iL.of {n : Nat} {M M' : gaM} (h : iL n M) (h0 : M' 100 29 = M 100 29) (h1 : M' 4 4 = M 4 4) (h2 : M' 40 = M 40) (h3 : M' 41 = M 41) (h4 : M' 42 = M 42) (h5 : M' 124 = M 124) (h6 : M' 125 = M 125) (h7 : M' 126 = M 126) : iL n M' := by
  unfold iL at *
  have e : lc M' = lc M := by
    funext j
    unfold lc
    rw [h5, h7]
  rw [h0, h1, h2, h3, h4, h5, h6, h7, e]
  exact h

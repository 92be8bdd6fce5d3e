/-! ===== the skeleton: which cells there are (class: 0 .. 83, reference: 100 .. 133, JOBS: 200 .. , the list's array: e) ===== -/
def gr_X5 (k : Nat) : Option (Option Nat) := match k with
  | 0 => some (some (1))
  | 1 => some (some (2))
  | 2 => some (some (3))
  | 3 => some (some (4))
  | 4 => some (some (5))
  | 5 => some (some (6))
  | 6 => some (some (7))
  | 7 => some (some (8))
  | _ => none
def gr_X2 (k : Nat) : Option (Option Nat) := match k with
  | 1 => some (some (10))
  | 2 => some (some (20))
  | 3 => some (some (30))
  | _ => none
def gr_AL (e : Nat) (k : Nat) : Option (Option Nat) := match k with
  | 1 => some (some (e))
  | _ => none
def gr_X0 (o : Nat) (k : Nat) : Option (Option Nat) := match k with
  | 0 => some (some (10 * o))
  | 1 => some (some (10 * o + 1))
  | 2 => some (some (10 * o + 2))
  | _ => none
def gr_X1 (k : Nat) : Option (Option Nat) := match k with
  | 0 => some (some (60))
  | _ => none
def gr_X3 (k : Nat) : Option (Option Nat) := match k with
  | 0 => some (some (70))
  | 1 => some (some (74))
  | 2 => some (some (78))
  | 3 => some (some (82))
  | 4 => some (some (83))
  | _ => none
def gr_X4 (k : Nat) : Option (Option Nat) := match k with
  | _ => none
def gr_X6 (k : Nat) : Option (Option Nat) := match k with
  | 6 => some (some (106))
  | 7 => some (some (107))
  | 8 => some (some (108))
  | 9 => some (some (109))
  | 10 => some (some (110))
  | 11 => some (some (111))
  | 12 => some (some (112))
  | 13 => some (some (113))
  | 14 => some (some (114))
  | 15 => some (some (115))
  | 16 => some (some (116))
  | 17 => some (some (117))
  | 18 => some (some (118))
  | 19 => some (some (119))
  | 20 => some (some (120))
  | 21 => some (some (121))
  | 22 => some (some (122))
  | 23 => some (some (123))
  | 24 => some (some (124))
  | 25 => some (some (125))
  | 26 => some (some (126))
  | 27 => some (some (127))
  | 30 => some (some (130))
  | 31 => some (some (131))
  | 32 => some (some (132))
  | 33 => some (some (133))
  | _ => none
def gk (n e cp : Nat) : gaK := fun id => match id with
  | 0 => some (.inr (.inl (5, gr_X5)))
  | 1 => some (.inr (.inl (2, gr_X2)))
  | 2 => some (.inr (.inl (7, gr_AL e)))
  | 3 => some (.inl 6)
  | 4 => some (.inr (.inl (0, gr_X0 4)))
  | 5 => some (.inr (.inl (0, gr_X0 5)))
  | 6 => some (.inr (.inl (1, gr_X1)))
  | 7 => some (.inr (.inl (3, gr_X3)))
  | 8 => some (.inl 40)
  | 10 => some (.inr (.inr (2, 4, fun j => some (11 + j))))
  | 11 => some (.inl 4)
  | 12 => some (.inl 4)
  | 13 => some (.inl 4)
  | 14 => some (.inl 4)
  | 20 => some (.inr (.inr (2, 4, fun j => some (21 + j))))
  | 21 => some (.inl 300)
  | 22 => some (.inl 300)
  | 23 => some (.inl 300)
  | 24 => some (.inl 300)
  | 30 => some (.inr (.inr (2, 4, fun j => some (31 + j))))
  | 31 => some (.inl 300)
  | 32 => some (.inl 300)
  | 33 => some (.inl 300)
  | 34 => some (.inl 300)
  | 40 => some (.inl 40)
  | 41 => some (.inl 40)
  | 42 => some (.inl 40)
  | 50 => some (.inl 40)
  | 51 => some (.inl 40)
  | 52 => some (.inl 40)
  | 60 => some (.inr (.inr (2, 4, fun j => some (61 + j))))
  | 61 => some (.inl 300)
  | 62 => some (.inl 300)
  | 63 => some (.inl 300)
  | 64 => some (.inl 300)
  | 70 => some (.inr (.inr (2, 3, fun j => some (71 + j))))
  | 71 => some (.inl 47)
  | 72 => some (.inl 47)
  | 73 => some (.inl 47)
  | 74 => some (.inr (.inr (2, 3, fun j => some (75 + j))))
  | 75 => some (.inl 47)
  | 76 => some (.inl 47)
  | 77 => some (.inl 47)
  | 78 => some (.inr (.inr (2, 3, fun j => some (79 + j))))
  | 79 => some (.inl 47)
  | 80 => some (.inl 47)
  | 81 => some (.inl 47)
  | 82 => some (.inl 3)
  | 83 => some (.inl 3)
  | 100 => some (.inr (.inl (6, gr_X6)))
  | 106 => some (.inl 4)
  | 107 => some (.inl 16)
  | 108 => some (.inl 1200)
  | 109 => some (.inl 40)
  | 110 => some (.inl 40)
  | 111 => some (.inl 40)
  | 112 => some (.inl 40)
  | 113 => some (.inl 40)
  | 114 => some (.inl 40)
  | 115 => some (.inl 40)
  | 116 => some (.inl 40)
  | 117 => some (.inl 40)
  | 118 => some (.inl 40)
  | 119 => some (.inl 1200)
  | 120 => some (.inl 40)
  | 121 => some (.inl 40)
  | 122 => some (.inl 40)
  | 123 => some (.inl 40)
  | 124 => some (.inl 40)
  | 125 => some (.inl 40)
  | 126 => some (.inl 40)
  | 127 => some (.inr (.inr (1, 6, fun _ => none)))
  | 130 => some (.inl 3)
  | 131 => some (.inl 3)
  | 132 => some (.inl 3600)
  | 133 => some (.inl 4)
  | _ => if 200 ≤ id ∧ id < 200 + n then some (.inr (.inl (4, gr_X4))) else if id = e ∧ 300 ≤ e then some (.inr (.inr (3, cp, fun j => if j < n then some (200 + j) else none))) else none
def gh (n e cp : Nat) : Prop := n ≤ 40 ∧ n ≤ cp ∧ cp ≤ 1000 ∧ ((e = 99 ∧ cp = 0) ∨ 300 ≤ e)
section SK
variable {n e cp : Nat}
theorem gk_r10 {x : Int} (h : ix x 4) : gk n e cp (11 + x.toNat) = some (.inl 4) := by
  obtain ⟨h1, h2⟩ := h
  have h3 : x.toNat = 0 ∨ x.toNat = 1 ∨ x.toNat = 2 ∨ x.toNat = 3 := by omega
  rcases h3 with h | h | h | h <;> rw [h] <;> rfl
theorem gk_r20 {x : Int} (h : ix x 4) : gk n e cp (21 + x.toNat) = some (.inl 300) := by
  obtain ⟨h1, h2⟩ := h
  have h3 : x.toNat = 0 ∨ x.toNat = 1 ∨ x.toNat = 2 ∨ x.toNat = 3 := by omega
  rcases h3 with h | h | h | h <;> rw [h] <;> rfl
theorem gk_r30 {x : Int} (h : ix x 4) : gk n e cp (31 + x.toNat) = some (.inl 300) := by
  obtain ⟨h1, h2⟩ := h
  have h3 : x.toNat = 0 ∨ x.toNat = 1 ∨ x.toNat = 2 ∨ x.toNat = 3 := by omega
  rcases h3 with h | h | h | h <;> rw [h] <;> rfl
theorem gk_r60 {x : Int} (h : ix x 4) : gk n e cp (61 + x.toNat) = some (.inl 300) := by
  obtain ⟨h1, h2⟩ := h
  have h3 : x.toNat = 0 ∨ x.toNat = 1 ∨ x.toNat = 2 ∨ x.toNat = 3 := by omega
  rcases h3 with h | h | h | h <;> rw [h] <;> rfl
theorem gk_r70 {x : Int} (h : ix x 3) : gk n e cp (71 + x.toNat) = some (.inl 47) := by
  obtain ⟨h1, h2⟩ := h
  have h3 : x.toNat = 0 ∨ x.toNat = 1 ∨ x.toNat = 2 := by omega
  rcases h3 with h | h | h <;> rw [h] <;> rfl
theorem gk_r74 {x : Int} (h : ix x 3) : gk n e cp (75 + x.toNat) = some (.inl 47) := by
  obtain ⟨h1, h2⟩ := h
  have h3 : x.toNat = 0 ∨ x.toNat = 1 ∨ x.toNat = 2 := by omega
  rcases h3 with h | h | h <;> rw [h] <;> rfl
theorem gk_r78 {x : Int} (h : ix x 3) : gk n e cp (79 + x.toNat) = some (.inl 47) := by
  obtain ⟨h1, h2⟩ := h
  have h3 : x.toNat = 0 ∨ x.toNat = 1 ∨ x.toNat = 2 := by omega
  rcases h3 with h | h | h <;> rw [h] <;> rfl
theorem gk_pl {o : Nat} (h : o = 4 ∨ o = 5) : gk n e cp o = some (.inr (.inl (0, gr_X0 o))) := by rcases h with rfl | rfl <;> rfl
theorem gk_pa0 {o : Nat} (h : o = 4 ∨ o = 5) : gk n e cp (10 * o) = some (.inl 40) := by rcases h with rfl | rfl <;> rfl
theorem gk_pa1 {o : Nat} (h : o = 4 ∨ o = 5) : gk n e cp (10 * o + 1) = some (.inl 40) := by rcases h with rfl | rfl <;> rfl
theorem gk_pa2 {o : Nat} (h : o = 4 ∨ o = 5) : gk n e cp (10 * o + 2) = some (.inl 40) := by rcases h with rfl | rfl <;> rfl
theorem gk_big {id : Nat} (h : 134 ≤ id) : gk n e cp id = if 200 ≤ id ∧ id < 200 + n then some (.inr (.inl (4, gr_X4))) else if id = e ∧ 300 ≤ e then some (.inr (.inr (3, cp, fun j => if j < n then some (200 + j) else none))) else none := by
  unfold gk
  split <;> first | omega | rfl
theorem gk_w {i : Nat} (h : i < n) : gk n e cp (200 + i) = some (.inr (.inl (4, gr_X4))) := by
  rw [gk_big (by omega), if_pos ⟨by omega, by omega⟩]
theorem gk_e (hg : gh n e cp) (hc : 0 < cp) : gk n e cp e = some (.inr (.inr (3, cp, fun j => if j < n then some (200 + j) else none))) := by
  obtain ⟨h1, h2, h3, h4⟩ := hg
  rw [gk_big (by omega), if_neg (by omega), if_pos (by omega)]
/-- the list's get: the i-th JOB -/
def f_get (n : Nat) (M : gaM) (i : Int) : Option Nat := gg (ix i n ∧ M 2 2 = (n : Int)) (some (200 + i.toNat))
theorem gk_get {M : gaM} {i : Int} {r : Nat} (h : f_get n M i = some r) : gk n e cp r = some (.inr (.inl (4, gr_X4))) := by
  obtain ⟨⟨⟨h1, h2⟩, -⟩, h⟩ := gg_some h
  cases h
  exact gk_w (by omega)
end SK

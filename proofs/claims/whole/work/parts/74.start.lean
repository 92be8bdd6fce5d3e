/-! ===== the first state: both objects new (printed) ===== -/
def K00 : gaK := fun _ => none
def M00 : gaM := fun _ _ => 0
def K01 : gaK := Kup K00 0 (.inr (.inl (5, gn_X5)))
def M01 : gaM := setr M00 0 (fun _ => 0)
def K02 : gaK := Kcl K01
def M02 : gaM := clM M01
def K03 : gaK := Kup K02 100 (.inr (.inl (6, gn_X6)))
def M03 : gaM := setr M02 100 (fun _ => 0)
def K04 : gaK := Kmd K03
def M04 : gaM := mdM M03
theorem rf_X5 : (rfu (rfu (rfu (rfu (rfu (rfu (rfu (rfu gn_X5 0 (some 1)) 1 (some 2)) 2 (some 3)) 3 (some 4)) 4 (some 5)) 5 (some 6)) 6 (some 7)) 7 (some 8)) = gr_X5 := by
  funext k
  match k with
  | 0 => rfl
  | 1 => rfl
  | 2 => rfl
  | 3 => rfl
  | 4 => rfl
  | 5 => rfl
  | 6 => rfl
  | 7 => rfl
  | k + 8 =>
    unfold rfu
    simp only [show ¬ k + 8 = 0 by omega, show ¬ k + 8 = 1 by omega, show ¬ k + 8 = 2 by omega, show ¬ k + 8 = 3 by omega, show ¬ k + 8 = 4 by omega, show ¬ k + 8 = 5 by omega, show ¬ k + 8 = 6 by omega, show ¬ k + 8 = 7 by omega]
    rfl
theorem rf_X2 : (rfu (rfu (rfu gn_X2 1 (some 10)) 2 (some 20)) 3 (some 30)) = gr_X2 := by
  funext k
  match k with
  | 0 => rfl
  | 1 => rfl
  | 2 => rfl
  | 3 => rfl
  | k + 4 =>
    unfold rfu
    simp only [show ¬ k + 4 = 1 by omega, show ¬ k + 4 = 2 by omega, show ¬ k + 4 = 3 by omega]
    rfl
theorem rf_X1 : (rfu gn_X1 0 (some 60)) = gr_X1 := by
  funext k
  match k with
  | 0 => rfl
  | k + 1 =>
    unfold rfu
    simp only [show ¬ k + 1 = 0 by omega]
    rfl
theorem rf_X3 : (rfu (rfu (rfu (rfu (rfu gn_X3 0 (some 70)) 1 (some 74)) 2 (some 78)) 3 (some 82)) 4 (some 83)) = gr_X3 := by
  funext k
  match k with
  | 0 => rfl
  | 1 => rfl
  | 2 => rfl
  | 3 => rfl
  | 4 => rfl
  | k + 5 =>
    unfold rfu
    simp only [show ¬ k + 5 = 0 by omega, show ¬ k + 5 = 1 by omega, show ¬ k + 5 = 2 by omega, show ¬ k + 5 = 3 by omega, show ¬ k + 5 = 4 by omega]
    rfl
theorem rf_X6 : (rfu (rfu (rfu (rfu (rfu (rfu (rfu (rfu (rfu (rfu (rfu (rfu (rfu (rfu (rfu (rfu (rfu (rfu (rfu (rfu (rfu (rfu (rfu (rfu (rfu (rfu gn_X6 6 (some 106)) 7 (some 107)) 8 (some 108)) 9 (some 109)) 10 (some 110)) 11 (some 111)) 12 (some 112)) 13 (some 113)) 14 (some 114)) 15 (some 115)) 16 (some 116)) 17 (some 117)) 18 (some 118)) 19 (some 119)) 20 (some 120)) 21 (some 121)) 22 (some 122)) 23 (some 123)) 24 (some 124)) 25 (some 125)) 26 (some 126)) 27 (some 127)) 30 (some 130)) 31 (some 131)) 32 (some 132)) 33 (some 133)) = gr_X6 := by
  funext k
  match k with
  | 0 => rfl
  | 1 => rfl
  | 2 => rfl
  | 3 => rfl
  | 4 => rfl
  | 5 => rfl
  | 6 => rfl
  | 7 => rfl
  | 8 => rfl
  | 9 => rfl
  | 10 => rfl
  | 11 => rfl
  | 12 => rfl
  | 13 => rfl
  | 14 => rfl
  | 15 => rfl
  | 16 => rfl
  | 17 => rfl
  | 18 => rfl
  | 19 => rfl
  | 20 => rfl
  | 21 => rfl
  | 22 => rfl
  | 23 => rfl
  | 24 => rfl
  | 25 => rfl
  | 26 => rfl
  | 27 => rfl
  | 28 => rfl
  | 29 => rfl
  | 30 => rfl
  | 31 => rfl
  | 32 => rfl
  | 33 => rfl
  | k + 34 =>
    unfold rfu
    simp only [show ¬ k + 34 = 6 by omega, show ¬ k + 34 = 7 by omega, show ¬ k + 34 = 8 by omega, show ¬ k + 34 = 9 by omega, show ¬ k + 34 = 10 by omega, show ¬ k + 34 = 11 by omega, show ¬ k + 34 = 12 by omega, show ¬ k + 34 = 13 by omega, show ¬ k + 34 = 14 by omega, show ¬ k + 34 = 15 by omega, show ¬ k + 34 = 16 by omega, show ¬ k + 34 = 17 by omega, show ¬ k + 34 = 18 by omega, show ¬ k + 34 = 19 by omega, show ¬ k + 34 = 20 by omega, show ¬ k + 34 = 21 by omega, show ¬ k + 34 = 22 by omega, show ¬ k + 34 = 23 by omega, show ¬ k + 34 = 24 by omega, show ¬ k + 34 = 25 by omega, show ¬ k + 34 = 26 by omega, show ¬ k + 34 = 27 by omega, show ¬ k + 34 = 30 by omega, show ¬ k + 34 = 31 by omega, show ¬ k + 34 = 32 by omega, show ¬ k + 34 = 33 by omega]
    rfl
theorem rf_AL : (rfu gn_AL 1 (some 99)) = gr_AL 99 := by
  funext k
  match k with
  | 0 => rfl
  | 1 => rfl
  | k + 2 =>
    unfold rfu
    simp only [show ¬ k + 2 = 1 by omega]
    rfl
set_option maxRecDepth 20000 in
theorem gk0_0 {id : Nat} {sk : gaS} (h0 : 0 ≤ id) (h1 : id < 30) (h : gk 0 99 0 id = some sk) : K04 id = some sk := by
  obtain ⟨k, rfl⟩ : ∃ k, id = 0 + k := ⟨id - 0, by omega⟩
  have hk : k < 30 := by omega
  match k, hk, h with
  | 0, _, h => exact Eq.trans (congrArg (fun r => some (Sum.inr (Sum.inl (5, r)) : gaS)) rf_X5) h
  | 1, _, h => exact Eq.trans (congrArg (fun r => some (Sum.inr (Sum.inl (2, r)) : gaS)) rf_X2) h
  | 2, _, h => exact Eq.trans (congrArg (fun r => some (Sum.inr (Sum.inl (7, r)) : gaS)) rf_AL) h
  | 3, _, h => exact h
  | 4, _, h => exact Eq.trans (congrArg (fun r => some (Sum.inr (Sum.inl (0, r)) : gaS)) (rfu3 (o := 4))) h
  | 5, _, h => exact Eq.trans (congrArg (fun r => some (Sum.inr (Sum.inl (0, r)) : gaS)) (rfu3 (o := 5))) h
  | 6, _, h => exact Eq.trans (congrArg (fun r => some (Sum.inr (Sum.inl (1, r)) : gaS)) rf_X1) h
  | 7, _, h => exact Eq.trans (congrArg (fun r => some (Sum.inr (Sum.inl (3, r)) : gaS)) rf_X3) h
  | 8, _, h => exact h
  | 9, _, h => exact absurd h (fun q => by cases q)
  | 10, _, h => exact h
  | 11, _, h => exact h
  | 12, _, h => exact h
  | 13, _, h => exact h
  | 14, _, h => exact h
  | 15, _, h => exact absurd h (fun q => by cases q)
  | 16, _, h => exact absurd h (fun q => by cases q)
  | 17, _, h => exact absurd h (fun q => by cases q)
  | 18, _, h => exact absurd h (fun q => by cases q)
  | 19, _, h => exact absurd h (fun q => by cases q)
  | 20, _, h => exact h
  | 21, _, h => exact h
  | 22, _, h => exact h
  | 23, _, h => exact h
  | 24, _, h => exact h
  | 25, _, h => exact absurd h (fun q => by cases q)
  | 26, _, h => exact absurd h (fun q => by cases q)
  | 27, _, h => exact absurd h (fun q => by cases q)
  | 28, _, h => exact absurd h (fun q => by cases q)
  | 29, _, h => exact absurd h (fun q => by cases q)
  | k + 30, h, _ => exact absurd h (by omega)
set_option maxRecDepth 20000 in
theorem gk0_30 {id : Nat} {sk : gaS} (h0 : 30 ≤ id) (h1 : id < 60) (h : gk 0 99 0 id = some sk) : K04 id = some sk := by
  obtain ⟨k, rfl⟩ : ∃ k, id = 30 + k := ⟨id - 30, by omega⟩
  have hk : k < 30 := by omega
  match k, hk, h with
  | 0, _, h => exact h
  | 1, _, h => exact h
  | 2, _, h => exact h
  | 3, _, h => exact h
  | 4, _, h => exact h
  | 5, _, h => exact absurd h (fun q => by cases q)
  | 6, _, h => exact absurd h (fun q => by cases q)
  | 7, _, h => exact absurd h (fun q => by cases q)
  | 8, _, h => exact absurd h (fun q => by cases q)
  | 9, _, h => exact absurd h (fun q => by cases q)
  | 10, _, h => exact h
  | 11, _, h => exact h
  | 12, _, h => exact h
  | 13, _, h => exact absurd h (fun q => by cases q)
  | 14, _, h => exact absurd h (fun q => by cases q)
  | 15, _, h => exact absurd h (fun q => by cases q)
  | 16, _, h => exact absurd h (fun q => by cases q)
  | 17, _, h => exact absurd h (fun q => by cases q)
  | 18, _, h => exact absurd h (fun q => by cases q)
  | 19, _, h => exact absurd h (fun q => by cases q)
  | 20, _, h => exact h
  | 21, _, h => exact h
  | 22, _, h => exact h
  | 23, _, h => exact absurd h (fun q => by cases q)
  | 24, _, h => exact absurd h (fun q => by cases q)
  | 25, _, h => exact absurd h (fun q => by cases q)
  | 26, _, h => exact absurd h (fun q => by cases q)
  | 27, _, h => exact absurd h (fun q => by cases q)
  | 28, _, h => exact absurd h (fun q => by cases q)
  | 29, _, h => exact absurd h (fun q => by cases q)
  | k + 30, h, _ => exact absurd h (by omega)
set_option maxRecDepth 20000 in
theorem gk0_60 {id : Nat} {sk : gaS} (h0 : 60 ≤ id) (h1 : id < 90) (h : gk 0 99 0 id = some sk) : K04 id = some sk := by
  obtain ⟨k, rfl⟩ : ∃ k, id = 60 + k := ⟨id - 60, by omega⟩
  have hk : k < 30 := by omega
  match k, hk, h with
  | 0, _, h => exact h
  | 1, _, h => exact h
  | 2, _, h => exact h
  | 3, _, h => exact h
  | 4, _, h => exact h
  | 5, _, h => exact absurd h (fun q => by cases q)
  | 6, _, h => exact absurd h (fun q => by cases q)
  | 7, _, h => exact absurd h (fun q => by cases q)
  | 8, _, h => exact absurd h (fun q => by cases q)
  | 9, _, h => exact absurd h (fun q => by cases q)
  | 10, _, h => exact h
  | 11, _, h => exact h
  | 12, _, h => exact h
  | 13, _, h => exact h
  | 14, _, h => exact h
  | 15, _, h => exact h
  | 16, _, h => exact h
  | 17, _, h => exact h
  | 18, _, h => exact h
  | 19, _, h => exact h
  | 20, _, h => exact h
  | 21, _, h => exact h
  | 22, _, h => exact h
  | 23, _, h => exact h
  | 24, _, h => exact absurd h (fun q => by cases q)
  | 25, _, h => exact absurd h (fun q => by cases q)
  | 26, _, h => exact absurd h (fun q => by cases q)
  | 27, _, h => exact absurd h (fun q => by cases q)
  | 28, _, h => exact absurd h (fun q => by cases q)
  | 29, _, h => exact absurd h (fun q => by cases q)
  | k + 30, h, _ => exact absurd h (by omega)
set_option maxRecDepth 20000 in
theorem gk0_90 {id : Nat} {sk : gaS} (h0 : 90 ≤ id) (h1 : id < 120) (h : gk 0 99 0 id = some sk) : K04 id = some sk := by
  obtain ⟨k, rfl⟩ : ∃ k, id = 90 + k := ⟨id - 90, by omega⟩
  have hk : k < 30 := by omega
  match k, hk, h with
  | 0, _, h => exact absurd h (fun q => by cases q)
  | 1, _, h => exact absurd h (fun q => by cases q)
  | 2, _, h => exact absurd h (fun q => by cases q)
  | 3, _, h => exact absurd h (fun q => by cases q)
  | 4, _, h => exact absurd h (fun q => by cases q)
  | 5, _, h => exact absurd h (fun q => by cases q)
  | 6, _, h => exact absurd h (fun q => by cases q)
  | 7, _, h => exact absurd h (fun q => by cases q)
  | 8, _, h => exact absurd h (fun q => by cases q)
  | 9, _, h => exact h
  | 10, _, h => exact Eq.trans (congrArg (fun r => some (Sum.inr (Sum.inl (6, r)) : gaS)) rf_X6) h
  | 11, _, h => exact absurd h (fun q => by cases q)
  | 12, _, h => exact absurd h (fun q => by cases q)
  | 13, _, h => exact absurd h (fun q => by cases q)
  | 14, _, h => exact absurd h (fun q => by cases q)
  | 15, _, h => exact absurd h (fun q => by cases q)
  | 16, _, h => exact h
  | 17, _, h => exact h
  | 18, _, h => exact h
  | 19, _, h => exact h
  | 20, _, h => exact h
  | 21, _, h => exact h
  | 22, _, h => exact h
  | 23, _, h => exact h
  | 24, _, h => exact h
  | 25, _, h => exact h
  | 26, _, h => exact h
  | 27, _, h => exact h
  | 28, _, h => exact h
  | 29, _, h => exact h
  | k + 30, h, _ => exact absurd h (by omega)
set_option maxRecDepth 20000 in
theorem gk0_120 {id : Nat} {sk : gaS} (h0 : 120 ≤ id) (h1 : id < 134) (h : gk 0 99 0 id = some sk) : K04 id = some sk := by
  obtain ⟨k, rfl⟩ : ∃ k, id = 120 + k := ⟨id - 120, by omega⟩
  have hk : k < 14 := by omega
  match k, hk, h with
  | 0, _, h => exact h
  | 1, _, h => exact h
  | 2, _, h => exact h
  | 3, _, h => exact h
  | 4, _, h => exact h
  | 5, _, h => exact h
  | 6, _, h => exact h
  | 7, _, h => exact h
  | 8, _, h => exact absurd h (fun q => by cases q)
  | 9, _, h => exact absurd h (fun q => by cases q)
  | 10, _, h => exact h
  | 11, _, h => exact h
  | 12, _, h => exact h
  | 13, _, h => exact h
  | k + 14, h, _ => exact absurd h (by omega)
theorem gk0_in : ∀ (id : Nat) (sk : gaS), gk 0 99 0 id = some sk → K04 id = some sk := by
  intro id sk h
  by_cases c0 : id < 30
  · exact gk0_0 (by omega) c0 h
  by_cases c30 : id < 60
  · exact gk0_30 (by omega) c30 h
  by_cases c60 : id < 90
  · exact gk0_60 (by omega) c60 h
  by_cases c90 : id < 120
  · exact gk0_90 (by omega) c90 h
  by_cases c120 : id < 134
  · exact gk0_120 (by omega) c120 h
  rw [gk_big (by omega), if_neg (by omega), if_neg (by omega)] at h
  cases h
set_option maxRecDepth 20000 in
theorem m7 : M04 107 = fun x => if x < 16 then (if x / 4 = x % 4 then 0 else 1) else 0 := rfl
set_option maxRecDepth 20000 in
theorem m8 : M04 108 = fun x => if x < 1200 then 500 else 0 := rfl
set_option maxRecDepth 20000 in
theorem inv0 : Inv 0 M04 := by
  have z2 : M04 100 2 = 0 := rfl
  have z4 : M04 100 4 = 0 := rfl
  have z5 : M04 100 5 = 24 := rfl
  have z1 : M04 100 1 = 0 := rfl
  have f7 : ∀ a b : Nat, a < 4 → b < 4 → M04 107 (4 * a + b) = if a = b then 0 else 1 := by
    intro a b ha hb
    rw [m7]
    show (if 4 * a + b < 16 then (if (4 * a + b) / 4 = (4 * a + b) % 4 then (0 : Int) else 1) else 0) = _
    rw [if_pos (by omega)]
    by_cases c : a = b
    · rw [if_pos (by omega), if_pos c]
    · rw [if_neg (by omega), if_neg c]
  have f8 : ∀ p h : Nat, p < 4 → h < 300 → M04 108 (300 * p + h) = 500 := by
    intro p h hp hh
    rw [m8]
    show (if 300 * p + h < 1200 then (500 : Int) else 0) = 500
    rw [if_pos (by omega)]
  refine ⟨⟨rfl, by rw [z2]; decide, by rw [z2]; decide, rfl, rfl, by decide, rfl, by rw [z4]; decide, by rw [z4]; decide, rfl, by rw [z5]; decide, by rw [z5]; decide, rfl, by rw [z1]; decide, by rw [z1]; decide⟩, ⟨fun a b ha => ?_, fun a b ha hb => ?_, fun a b ha hb _ => f7 a b ha hb, fun a ha => ?_⟩, ⟨fun p h hp => ?_, fun p h hp hh => ?_, fun p h hp hh _ => f8 p h hp hh, fun p hp => ?_⟩, fun j hj => ?_, fun p h hp => ?_, fun o ho => ?_, .inl ⟨rfl, rfl, fun i hi => ?_⟩⟩
  · rw [z2] at ha; omega
  · rw [f7 a b ha hb]
    by_cases c : a = b
    · rw [if_pos c]; decide
    · rw [if_neg c]; decide
  · match a, ha with
    | 0, _ => rfl
    | 1, _ => rfl
    | 2, _ => rfl
    | 3, _ => rfl
    | a + 4, h => exact absurd h (by omega)
  · rw [z2] at hp; omega
  · rw [f8 p h hp hh]; decide
  · rw [z2] at hp; omega
  · omega
  · rw [z2] at hp; omega
  · show (0 : Int) = sm (dl M04 o) 0 0
    rfl
  · show (if i < 40 then (-1 : Int) else 0) = -1
    rw [if_pos hi]

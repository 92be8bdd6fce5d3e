/-! ===== pure: the calls that have no loops of their own ===== -/
def rel (a : Nat) : Prop := a = 3 ∨ (11 ≤ a ∧ a ≤ 14) ∨ (21 ≤ a ∧ a ≤ 24) ∨ (31 ≤ a ∧ a ≤ 34) ∨ (40 ≤ a ∧ a ≤ 42) ∨ (106 ≤ a ∧ a ≤ 118) ∨ (124 ≤ a ∧ a ≤ 126) ∨ 200 ≤ a
theorem Inv.sc {n : Nat} {M M' : gaM} (h : Inv n M) (hA : iA n M') (hr : ∀ a, rel a → M' a = M a) (h2 : M' 100 2 = M 100 2) (h4 : M' 100 4 = M 100 4) (h29 : M' 100 29 = M 100 29) (h44 : M' 4 4 = M 4 4) : Inv n M' := by
  obtain ⟨iA0, iB0, iG0, iJ0, iR0, iD0, iL0⟩ := h
  have hP : M 100 2 ≤ 4 := iA0.2.2.1
  have e : ∀ a, rel a → ∀ b, M' a b = M a b := fun a ha b => by rw [hr a ha]
  refine ⟨hA, iB0.of (fun a ha => hr _ (by unfold rel; omega)) (hr _ (by unfold rel; omega)) h2 hP, iG0.of (fun a ha => hr _ (by unfold rel; omega)) (hr _ (by unfold rel; omega)) (hr _ (by unfold rel; omega)) h2 hP, fun j hj => iJ.of (iJ0 j hj) (hr _ (by unfold rel; omega)) (fun a h1 h3 => e a (by unfold rel; omega) j) h2 h4, iR0.of (fun a ha => hr _ (by unfold rel; omega)) (hr _ (by unfold rel; omega)) (fun j hj => ⟨e _ (by unfold rel; omega) j, e _ (by unfold rel; omega) j, e _ (by unfold rel; omega) j, e _ (by unfold rel; omega) j⟩) h2 h4 hP, iD0.of (hr _ (by unfold rel; omega)) (fun j hj => ⟨e _ (by unfold rel; omega) j, e _ (by unfold rel; omega) j, e _ (by unfold rel; omega) j, e _ (by unfold rel; omega) j⟩), iL0.of h29 h44 (hr _ (by unfold rel; omega)) (hr _ (by unfold rel; omega)) (hr _ (by unfold rel; omega)) (hr _ (by unfold rel; omega)) (hr _ (by unfold rel; omega)) (hr _ (by unfold rel; omega))⟩
theorem gg_true {α : Type} {x : Option α} : gg True x = x := if_pos trivial
theorem f_get_eq {n : Nat} {M : gaM} {j : Nat} (hj : j < n) (h : M 2 2 = (n : Int)) : f_get n M (j : Int) = some (200 + j) := by
  unfold f_get
  rw [gg_pos ⟨⟨by omega, by omega⟩, h⟩, Int.toNat_natCast]
section BS
variable {n G : Nat} {M : gaM} {α : Type} {k : Int → Option α} {kM : Int → gaM → Option α} {kN : Nat → Option α} {v v0 v1 v2 : Int}
theorem gb2_of {β γ : Type} {a : β} {b : γ} {k : β → γ → Option α} : gb2 (some (a, b)) k = k a b := rfl
theorem gb3_of {β γ δ : Type} {a : β} {b : γ} {c : δ} {k : β → γ → δ → Option α} : gb3 (some (a, b, c)) k = k a b c := rfl
theorem b_wi1 (h : v1 ≤ v0 ∧ v0 ≤ v2) (h0 : ok v0) (h1 : ok v1) (h2 : ok v2) : gb (f_X5_within G n M v0 v1 v2) k = k 1 := by
  unfold f_X5_within
  rw [gg_pos h0, gg_pos h1, if_pos h.1, gg_pos h2, if_pos h.2, gb_of]
theorem b_wi0 (h : v0 < v1 ∨ v2 < v0) (h0 : ok v0) (h1 : ok v1) (h2 : ok v2) : gb (f_X5_within G n M v0 v1 v2) k = k 0 := by
  unfold f_X5_within
  rw [gg_pos h0, gg_pos h1]
  by_cases c : v1 ≤ v0
  · rw [if_pos c, gg_pos h2, if_neg (by omega), gb_of]
  · rw [if_neg c, gb_of]
theorem b_in1 (h : v1 ≤ v0 ∧ v0 ≤ v2) (h0 : ok v0) (h1 : ok v1) (h2 : ok v2) : gb (f_X6_in G n M v0 v1 v2) k = k 1 := b_wi1 (M := M) (n := n) (G := G) h h0 h1 h2
theorem b_in0 (h : v0 < v1 ∨ v2 < v0) (h0 : ok v0) (h1 : ok v1) (h2 : ok v2) : gb (f_X6_in G n M v0 v1 v2) k = k 0 := b_wi0 (M := M) (n := n) (G := G) h h0 h1 h2
theorem b_has1 (h : 0 ≤ v ∧ v < M 1 0) (h0 : ok v) (h1 : ok (M 1 0)) : gb (f_X2_has G n M v) k = k 1 := by
  unfold f_X2_has
  rw [gg_pos h0, if_pos h.1, gg_pos h1, if_pos h.2, gb_of]
theorem b_has0 (h : v < 0 ∨ M 1 0 ≤ v) (h0 : ok v) (h1 : ok (M 1 0)) : gb (f_X2_has G n M v) k = k 0 := by
  unfold f_X2_has
  rw [gg_pos h0]
  by_cases c : 0 ≤ v
  · rw [if_pos c, gg_pos h1, if_neg (by omega), gb_of]
  · rw [if_neg c, gb_of]
theorem b_pl1 (h : 0 ≤ v ∧ v < M 100 2) (h0 : ok v) (h1 : ok (M 100 2)) : gb (f_X6_isPlace G n M v) k = k 1 := by
  unfold f_X6_isPlace
  rw [gg_pos h0, if_pos h.1, gg_pos h1, if_pos h.2, gb_of]
theorem b_pl0 (h : v < 0 ∨ M 100 2 ≤ v) (h0 : ok v) (h1 : ok (M 100 2)) : gb (f_X6_isPlace G n M v) k = k 0 := by
  unfold f_X6_isPlace
  rw [gg_pos h0]
  by_cases c : 0 ≤ v
  · rw [if_pos c, gg_pos h1, if_neg (by omega), gb_of]
  · rw [if_neg c, gb_of]
theorem b_jm1 (h : 0 ≤ v ∧ v < M 100 3) (h0 : ok v) (h1 : ok (M 100 3)) : gb (f_X6_isJob G n M v) k = k 1 := by
  unfold f_X6_isJob
  rw [gg_pos h0, if_pos h.1, gg_pos h1, if_pos h.2, gb_of]
theorem b_jm0 (h : v < 0 ∨ M 100 3 ≤ v) (h0 : ok v) (h1 : ok (M 100 3)) : gb (f_X6_isJob G n M v) k = k 0 := by
  unfold f_X6_isJob
  rw [gg_pos h0]
  by_cases c : 0 ≤ v
  · rw [if_pos c, gg_pos h1, if_neg (by omega), gb_of]
  · rw [if_neg c, gb_of]
theorem b_size : gb (f_Jx4a65c_size_8abf5 G n M) k = k (M 2 2) := rfl
theorem b_jc1 (h : 0 ≤ v ∧ v < M 2 2) (h0 : ok v) (h1 : ok (M 2 2)) : gb (f_X5_isJob G n M v) k = k 1 := by
  unfold f_X5_isJob
  rw [gg_pos h0, if_pos h.1, b_size, gg_pos h1, if_pos h.2, gb_of]
theorem b_jc0 (h : v < 0 ∨ M 2 2 ≤ v) (h0 : ok v) (h1 : ok (M 2 2)) : gb (f_X5_isJob G n M v) k = k 0 := by
  unfold f_X5_isJob
  rw [gg_pos h0]
  by_cases c : 0 ≤ v
  · rw [if_pos c, b_size, gg_pos h1, if_neg (by omega), gb_of]
  · rw [if_neg c, gb_of]
theorem b_get (h : 0 ≤ v ∧ v < (n : Int)) (h2 : M 2 2 = (n : Int)) : gb (f_get n M v) kN = kN (200 + v.toNat) := by
  unfold f_get
  rw [gg_pos ⟨h, h2⟩, gb_of]
theorem b_ref : gb2 (f_X6_refused G n M v) kM = kM (-1) (ga_st M 100 1 v) := rfl
theorem b_den : gb2 (f_X6_denied G n M v) kM = kM 0 (ga_st M 100 1 v) := rfl
theorem b_gra : gb2 (f_X6_granted G n M) kM = kM 1 (ga_st M 100 1 0) := rfl
theorem b_don : gb2 (f_X6_done G n M v) kM = kM v (ga_st M 100 1 0) := rfl
end BS
section EZ
variable {n G : Nat} {M : gaM}
theorem e_patience {v1 : Int} (h : Inv n M) (hv : ok v1) : ∃ r Mc Mm, f_X5_patience G n M v1 = some (r, Mc) ∧ f_X6_patience G n Mc v1 = some (r, Mm) ∧ Inv n Mm := by
  obtain ⟨a1, a2, a3, a4, a5, a6, a7, a8, a9, a10, a11, a12, a13, a14, a15⟩ := h.1
  by_cases hc : 1 ≤ v1
  · by_cases hd : v1 ≤ 500
    · have e1 : f_X5_patience G n M v1 = some (1, ga_st (ga_st M 0 10 0) 0 8 v1) := by
        try simp (disch := (first | omega | (simp (disch := omega) only [ga_st_self, ga_st_id, ga_st_ix] <;> omega) | skip)) only [f_X5_patience, ↓gb_of, ↓gb2_of, ↓gb3_of, ↓gB_eq, ↓gg_pos, ↓if_pos, ↓if_neg, ↓b_wi1, ↓b_wi0, ↓b_has1, ↓b_has0, ↓b_in1, ↓b_in0, ↓b_pl1, ↓b_pl0, ↓b_jm1, ↓b_jm0, ↓b_jc1, ↓b_jc0, ↓b_size, ↓b_get, ↓b_ref, ↓b_den, ↓b_gra, ↓b_don]
      have e2 : f_X6_patience G n (ga_st (ga_st M 0 10 0) 0 8 v1) v1 = some (1, ga_st (ga_st (ga_st (ga_st (ga_st M 0 10 0) 0 8 v1) 100 0 0) 100 5 v1) 100 1 0) := by
        try simp (disch := (first | omega | (simp (disch := omega) only [ga_st_self, ga_st_id, ga_st_ix] <;> omega) | skip)) only [f_X6_patience, ↓gb_of, ↓gb2_of, ↓gb3_of, ↓gB_eq, ↓gg_pos, ↓if_pos, ↓if_neg, ↓b_wi1, ↓b_wi0, ↓b_has1, ↓b_has0, ↓b_in1, ↓b_in0, ↓b_pl1, ↓b_pl0, ↓b_jm1, ↓b_jm0, ↓b_jc1, ↓b_jc0, ↓b_size, ↓b_get, ↓b_ref, ↓b_den, ↓b_gra, ↓b_don]
      exact ⟨_, _, _, e1, e2, h.sc (by unfold iA; simp [ga_st]; try omega) (by intro a ha; unfold rel at ha; simp (disch := omega) only [ga_st_row]) (by simp [ga_st]) (by simp [ga_st]) (by simp [ga_st]) (by simp [ga_st])⟩
    · have e1 : f_X5_patience G n M v1 = some (0, ga_st M 0 10 2) := by
        try simp (disch := (first | omega | (simp (disch := omega) only [ga_st_self, ga_st_id, ga_st_ix] <;> omega) | skip)) only [f_X5_patience, ↓gb_of, ↓gb2_of, ↓gb3_of, ↓gB_eq, ↓gg_pos, ↓if_pos, ↓if_neg, ↓b_wi1, ↓b_wi0, ↓b_has1, ↓b_has0, ↓b_in1, ↓b_in0, ↓b_pl1, ↓b_pl0, ↓b_jm1, ↓b_jm0, ↓b_jc1, ↓b_jc0, ↓b_size, ↓b_get, ↓b_ref, ↓b_den, ↓b_gra, ↓b_don]
      have e2 : f_X6_patience G n (ga_st M 0 10 2) v1 = some (0, ga_st (ga_st (ga_st M 0 10 2) 100 0 0) 100 1 2) := by
        try simp (disch := (first | omega | (simp (disch := omega) only [ga_st_self, ga_st_id, ga_st_ix] <;> omega) | skip)) only [f_X6_patience, ↓gb_of, ↓gb2_of, ↓gb3_of, ↓gB_eq, ↓gg_pos, ↓if_pos, ↓if_neg, ↓b_wi1, ↓b_wi0, ↓b_has1, ↓b_has0, ↓b_in1, ↓b_in0, ↓b_pl1, ↓b_pl0, ↓b_jm1, ↓b_jm0, ↓b_jc1, ↓b_jc0, ↓b_size, ↓b_get, ↓b_ref, ↓b_den, ↓b_gra, ↓b_don]
      exact ⟨_, _, _, e1, e2, h.sc (by unfold iA; simp [ga_st]; try omega) (by intro a ha; unfold rel at ha; simp (disch := omega) only [ga_st_row]) (by simp [ga_st]) (by simp [ga_st]) (by simp [ga_st]) (by simp [ga_st])⟩
  · have e1 : f_X5_patience G n M v1 = some (0, ga_st M 0 10 2) := by
      try simp (disch := (first | omega | (simp (disch := omega) only [ga_st_self, ga_st_id, ga_st_ix] <;> omega) | skip)) only [f_X5_patience, ↓gb_of, ↓gb2_of, ↓gb3_of, ↓gB_eq, ↓gg_pos, ↓if_pos, ↓if_neg, ↓b_wi1, ↓b_wi0, ↓b_has1, ↓b_has0, ↓b_in1, ↓b_in0, ↓b_pl1, ↓b_pl0, ↓b_jm1, ↓b_jm0, ↓b_jc1, ↓b_jc0, ↓b_size, ↓b_get, ↓b_ref, ↓b_den, ↓b_gra, ↓b_don]
    have e2 : f_X6_patience G n (ga_st M 0 10 2) v1 = some (0, ga_st (ga_st (ga_st M 0 10 2) 100 0 0) 100 1 2) := by
      try simp (disch := (first | omega | (simp (disch := omega) only [ga_st_self, ga_st_id, ga_st_ix] <;> omega) | skip)) only [f_X6_patience, ↓gb_of, ↓gb2_of, ↓gb3_of, ↓gB_eq, ↓gg_pos, ↓if_pos, ↓if_neg, ↓b_wi1, ↓b_wi0, ↓b_has1, ↓b_has0, ↓b_in1, ↓b_in0, ↓b_pl1, ↓b_pl0, ↓b_jm1, ↓b_jm0, ↓b_jc1, ↓b_jc0, ↓b_size, ↓b_get, ↓b_ref, ↓b_den, ↓b_gra, ↓b_don]
    exact ⟨_, _, _, e1, e2, h.sc (by unfold iA; simp [ga_st]; try omega) (by intro a ha; unfold rel at ha; simp (disch := omega) only [ga_st_row]) (by simp [ga_st]) (by simp [ga_st]) (by simp [ga_st]) (by simp [ga_st])⟩
theorem e_trouble (h : Inv n M) : ∃ r Mm, f_X5_trouble G n M = some r ∧ f_X6_trouble G n M = some (r, Mm) ∧ Inv n Mm := by
  obtain ⟨a1, a2, a3, a4, a5, a6, a7, a8, a9, a10, a11, a12, a13, a14, a15⟩ := h.1
  refine ⟨M 0 10, ga_st M 100 0 0, rfl, ?_, h.sc (by unfold iA; simp [ga_st]; try omega) (by intro a ha; unfold rel at ha; simp (disch := omega) only [ga_st_row]) (by simp [ga_st]) (by simp [ga_st]) (by simp [ga_st]) (by simp [ga_st])⟩
  unfold f_X6_trouble
  rw [gB_eq, a13]
  simp [ga_st]
theorem e_told {v1 v2 : Int} (h : Inv n M) (hv1 : ok v1) (hv2 : ok v2) : ∃ r Mm, f_X5_told G n M v1 v2 = some r ∧ f_X6_told G n M v1 v2 = some (r, Mm) ∧ Inv n Mm := by
  obtain ⟨a1, a2, a3, a4, a5, a6, a7, a8, a9, a10, a11, a12, a13, a14, a15⟩ := h.1
  have hi : Inv n (ga_st M 100 0 0) := h.sc (by unfold iA; simp [ga_st]; try omega) (by intro a ha; unfold rel at ha; simp (disch := omega) only [ga_st_row]) (by simp [ga_st]) (by simp [ga_st]) (by simp [ga_st]) (by simp [ga_st])
  by_cases c1 : 0 ≤ v1
  · by_cases c2 : v1 < M 100 2
    · by_cases c3 : 0 ≤ v2
      · by_cases c4 : v2 ≤ 299
        · refine ⟨M (21 + v1.toNat) v2.toNat, _, ?_, ?_, hi⟩
          · try simp (disch := (first | omega | (simp (disch := omega) only [ga_st_self, ga_st_id, ga_st_ix] <;> omega) | skip)) only [f_X5_told, ↓gb_of, ↓gb2_of, ↓gb3_of, ↓gB_eq, ↓gg_pos, ↓if_pos, ↓if_neg, ↓b_wi1, ↓b_wi0, ↓b_has1, ↓b_has0, ↓b_in1, ↓b_in0, ↓b_pl1, ↓b_pl0, ↓b_jm1, ↓b_jm0, ↓b_jc1, ↓b_jc0, ↓b_size, ↓b_get, ↓b_ref, ↓b_den, ↓b_gra, ↓b_don]
          · try simp (disch := (first | omega | (simp (disch := omega) only [ga_st_self, ga_st_id, ga_st_ix] <;> omega) | skip)) only [f_X6_told, ↓gb_of, ↓gb2_of, ↓gb3_of, ↓gB_eq, ↓gg_pos, ↓if_pos, ↓if_neg, ↓b_wi1, ↓b_wi0, ↓b_has1, ↓b_has0, ↓b_in1, ↓b_in0, ↓b_pl1, ↓b_pl0, ↓b_jm1, ↓b_jm0, ↓b_jc1, ↓b_jc0, ↓b_size, ↓b_get, ↓b_ref, ↓b_den, ↓b_gra, ↓b_don]
            have g := h.2.2.1.1 v1.toNat v2.toNat (by omega) (by omega)
            rw [g, show ((300 * v1) + v2).toNat = 300 * v1.toNat + v2.toNat by omega]
            simp [ga_st]
        · refine ⟨-1, _, ?_, ?_, hi⟩
          · try simp (disch := (first | omega | (simp (disch := omega) only [ga_st_self, ga_st_id, ga_st_ix] <;> omega) | skip)) only [f_X5_told, ↓gb_of, ↓gb2_of, ↓gb3_of, ↓gB_eq, ↓gg_pos, ↓if_pos, ↓if_neg, ↓b_wi1, ↓b_wi0, ↓b_has1, ↓b_has0, ↓b_in1, ↓b_in0, ↓b_pl1, ↓b_pl0, ↓b_jm1, ↓b_jm0, ↓b_jc1, ↓b_jc0, ↓b_size, ↓b_get, ↓b_ref, ↓b_den, ↓b_gra, ↓b_don]
          · try simp (disch := (first | omega | (simp (disch := omega) only [ga_st_self, ga_st_id, ga_st_ix] <;> omega) | skip)) only [f_X6_told, ↓gb_of, ↓gb2_of, ↓gb3_of, ↓gB_eq, ↓gg_pos, ↓if_pos, ↓if_neg, ↓b_wi1, ↓b_wi0, ↓b_has1, ↓b_has0, ↓b_in1, ↓b_in0, ↓b_pl1, ↓b_pl0, ↓b_jm1, ↓b_jm0, ↓b_jc1, ↓b_jc0, ↓b_size, ↓b_get, ↓b_ref, ↓b_den, ↓b_gra, ↓b_don]
      · refine ⟨-1, _, ?_, ?_, hi⟩
        · try simp (disch := (first | omega | (simp (disch := omega) only [ga_st_self, ga_st_id, ga_st_ix] <;> omega) | skip)) only [f_X5_told, ↓gb_of, ↓gb2_of, ↓gb3_of, ↓gB_eq, ↓gg_pos, ↓if_pos, ↓if_neg, ↓b_wi1, ↓b_wi0, ↓b_has1, ↓b_has0, ↓b_in1, ↓b_in0, ↓b_pl1, ↓b_pl0, ↓b_jm1, ↓b_jm0, ↓b_jc1, ↓b_jc0, ↓b_size, ↓b_get, ↓b_ref, ↓b_den, ↓b_gra, ↓b_don]
        · try simp (disch := (first | omega | (simp (disch := omega) only [ga_st_self, ga_st_id, ga_st_ix] <;> omega) | skip)) only [f_X6_told, ↓gb_of, ↓gb2_of, ↓gb3_of, ↓gB_eq, ↓gg_pos, ↓if_pos, ↓if_neg, ↓b_wi1, ↓b_wi0, ↓b_has1, ↓b_has0, ↓b_in1, ↓b_in0, ↓b_pl1, ↓b_pl0, ↓b_jm1, ↓b_jm0, ↓b_jc1, ↓b_jc0, ↓b_size, ↓b_get, ↓b_ref, ↓b_den, ↓b_gra, ↓b_don]
    · refine ⟨-1, _, ?_, ?_, hi⟩
      · try simp (disch := (first | omega | (simp (disch := omega) only [ga_st_self, ga_st_id, ga_st_ix] <;> omega) | skip)) only [f_X5_told, ↓gb_of, ↓gb2_of, ↓gb3_of, ↓gB_eq, ↓gg_pos, ↓if_pos, ↓if_neg, ↓b_wi1, ↓b_wi0, ↓b_has1, ↓b_has0, ↓b_in1, ↓b_in0, ↓b_pl1, ↓b_pl0, ↓b_jm1, ↓b_jm0, ↓b_jc1, ↓b_jc0, ↓b_size, ↓b_get, ↓b_ref, ↓b_den, ↓b_gra, ↓b_don]
      · try simp (disch := (first | omega | (simp (disch := omega) only [ga_st_self, ga_st_id, ga_st_ix] <;> omega) | skip)) only [f_X6_told, ↓gb_of, ↓gb2_of, ↓gb3_of, ↓gB_eq, ↓gg_pos, ↓if_pos, ↓if_neg, ↓b_wi1, ↓b_wi0, ↓b_has1, ↓b_has0, ↓b_in1, ↓b_in0, ↓b_pl1, ↓b_pl0, ↓b_jm1, ↓b_jm0, ↓b_jc1, ↓b_jc0, ↓b_size, ↓b_get, ↓b_ref, ↓b_den, ↓b_gra, ↓b_don]
  · refine ⟨-1, _, ?_, ?_, hi⟩
    · try simp (disch := (first | omega | (simp (disch := omega) only [ga_st_self, ga_st_id, ga_st_ix] <;> omega) | skip)) only [f_X5_told, ↓gb_of, ↓gb2_of, ↓gb3_of, ↓gB_eq, ↓gg_pos, ↓if_pos, ↓if_neg, ↓b_wi1, ↓b_wi0, ↓b_has1, ↓b_has0, ↓b_in1, ↓b_in0, ↓b_pl1, ↓b_pl0, ↓b_jm1, ↓b_jm0, ↓b_jc1, ↓b_jc0, ↓b_size, ↓b_get, ↓b_ref, ↓b_den, ↓b_gra, ↓b_don]
    · try simp (disch := (first | omega | (simp (disch := omega) only [ga_st_self, ga_st_id, ga_st_ix] <;> omega) | skip)) only [f_X6_told, ↓gb_of, ↓gb2_of, ↓gb3_of, ↓gB_eq, ↓gg_pos, ↓if_pos, ↓if_neg, ↓b_wi1, ↓b_wi0, ↓b_has1, ↓b_has0, ↓b_in1, ↓b_in0, ↓b_pl1, ↓b_pl0, ↓b_jm1, ↓b_jm0, ↓b_jc1, ↓b_jc0, ↓b_size, ↓b_get, ↓b_ref, ↓b_den, ↓b_gra, ↓b_don]
theorem e_about {v1 v2 : Int} (h : Inv n M) (hv1 : ok v1) (hv2 : ok v2) : ∃ r Mm, f_X5_about G n M v1 v2 = some r ∧ f_X6_about G n M v1 v2 = some (r, Mm) ∧ Inv n Mm := by
  obtain ⟨a1, a2, a3, a4, a5, a6, a7, a8, a9, a10, a11, a12, a13, a14, a15⟩ := h.1
  have hi : Inv n (ga_st M 100 0 0) := h.sc (by unfold iA; simp [ga_st]; try omega) (by intro a ha; unfold rel at ha; simp (disch := omega) only [ga_st_row]) (by simp [ga_st]) (by simp [ga_st]) (by simp [ga_st]) (by simp [ga_st])
  by_cases c1 : 0 ≤ v1 ∧ v1 < (n : Int)
  · obtain ⟨j, rfl⟩ : ∃ j : Nat, v1 = (j : Int) := ⟨v1.toNat, by omega⟩
    have hj : j < n := by omega
    obtain ⟨⟨g0, g1, g2, g3, g4, g5, g6, g7, g8, g9⟩, -⟩ := h.2.2.2.1 j hj
    have t0 : ∀ r, f_X4_tell G n M (200 + j) v2 = some r → f_X5_about G n M (j : Int) v2 = some r := by
      intro r hr
      try simp (disch := (first | omega | (simp (disch := omega) only [ga_st_self, ga_st_id, ga_st_ix] <;> omega) | skip)) only [f_X5_about, ↓gb_of, ↓gb2_of, ↓gb3_of, ↓gB_eq, ↓gg_pos, ↓if_pos, ↓if_neg, ↓b_wi1, ↓b_wi0, ↓b_has1, ↓b_has0, ↓b_in1, ↓b_in0, ↓b_pl1, ↓b_pl0, ↓b_jm1, ↓b_jm0, ↓b_jc1, ↓b_jc0, ↓b_size, ↓b_get, ↓b_ref, ↓b_den, ↓b_gra, ↓b_don]
      rw [Int.toNat_natCast, gb_eq hr]
    by_cases d0 : v2 = 0
    · exact ⟨M 115 j, _, t0 _ (by rw [← g6]; try simp (disch := (first | omega | (simp (disch := omega) only [ga_st_self, ga_st_id, ga_st_ix] <;> omega) | skip)) only [f_X4_tell, ↓gb_of, ↓gb2_of, ↓gb3_of, ↓gB_eq, ↓gg_pos, ↓if_pos, ↓if_neg, ↓b_wi1, ↓b_wi0, ↓b_has1, ↓b_has0, ↓b_in1, ↓b_in0, ↓b_pl1, ↓b_pl0, ↓b_jm1, ↓b_jm0, ↓b_jc1, ↓b_jc0, ↓b_size, ↓b_get, ↓b_ref, ↓b_den, ↓b_gra, ↓b_don]), by try simp (disch := (first | omega | (simp (disch := omega) only [ga_st_self, ga_st_id, ga_st_ix] <;> omega) | skip)) only [f_X6_about, ↓gb_of, ↓gb2_of, ↓gb3_of, ↓gB_eq, ↓gg_pos, ↓if_pos, ↓if_neg, ↓b_wi1, ↓b_wi0, ↓b_has1, ↓b_has0, ↓b_in1, ↓b_in0, ↓b_pl1, ↓b_pl0, ↓b_jm1, ↓b_jm0, ↓b_jc1, ↓b_jc0, ↓b_size, ↓b_get, ↓b_ref, ↓b_den, ↓b_gra, ↓b_don]; rw [Int.toNat_natCast]; simp [ga_st], hi⟩
    by_cases d1 : v2 = 1
    · exact ⟨M 116 j, _, t0 _ (by rw [← g7]; try simp (disch := (first | omega | (simp (disch := omega) only [ga_st_self, ga_st_id, ga_st_ix] <;> omega) | skip)) only [f_X4_tell, ↓gb_of, ↓gb2_of, ↓gb3_of, ↓gB_eq, ↓gg_pos, ↓if_pos, ↓if_neg, ↓b_wi1, ↓b_wi0, ↓b_has1, ↓b_has0, ↓b_in1, ↓b_in0, ↓b_pl1, ↓b_pl0, ↓b_jm1, ↓b_jm0, ↓b_jc1, ↓b_jc0, ↓b_size, ↓b_get, ↓b_ref, ↓b_den, ↓b_gra, ↓b_don]), by try simp (disch := (first | omega | (simp (disch := omega) only [ga_st_self, ga_st_id, ga_st_ix] <;> omega) | skip)) only [f_X6_about, ↓gb_of, ↓gb2_of, ↓gb3_of, ↓gB_eq, ↓gg_pos, ↓if_pos, ↓if_neg, ↓b_wi1, ↓b_wi0, ↓b_has1, ↓b_has0, ↓b_in1, ↓b_in0, ↓b_pl1, ↓b_pl0, ↓b_jm1, ↓b_jm0, ↓b_jc1, ↓b_jc0, ↓b_size, ↓b_get, ↓b_ref, ↓b_den, ↓b_gra, ↓b_don]; rw [Int.toNat_natCast]; simp [ga_st], hi⟩
    by_cases d2 : v2 = 2
    · exact ⟨M 117 j, _, t0 _ (by rw [← g8]; try simp (disch := (first | omega | (simp (disch := omega) only [ga_st_self, ga_st_id, ga_st_ix] <;> omega) | skip)) only [f_X4_tell, ↓gb_of, ↓gb2_of, ↓gb3_of, ↓gB_eq, ↓gg_pos, ↓if_pos, ↓if_neg, ↓b_wi1, ↓b_wi0, ↓b_has1, ↓b_has0, ↓b_in1, ↓b_in0, ↓b_pl1, ↓b_pl0, ↓b_jm1, ↓b_jm0, ↓b_jc1, ↓b_jc0, ↓b_size, ↓b_get, ↓b_ref, ↓b_den, ↓b_gra, ↓b_don]), by try simp (disch := (first | omega | (simp (disch := omega) only [ga_st_self, ga_st_id, ga_st_ix] <;> omega) | skip)) only [f_X6_about, ↓gb_of, ↓gb2_of, ↓gb3_of, ↓gB_eq, ↓gg_pos, ↓if_pos, ↓if_neg, ↓b_wi1, ↓b_wi0, ↓b_has1, ↓b_has0, ↓b_in1, ↓b_in0, ↓b_pl1, ↓b_pl0, ↓b_jm1, ↓b_jm0, ↓b_jc1, ↓b_jc0, ↓b_size, ↓b_get, ↓b_ref, ↓b_den, ↓b_gra, ↓b_don]; rw [Int.toNat_natCast]; simp [ga_st], hi⟩
    by_cases d3 : v2 = 3
    · exact ⟨M 118 j, _, t0 _ (by rw [← g9]; try simp (disch := (first | omega | (simp (disch := omega) only [ga_st_self, ga_st_id, ga_st_ix] <;> omega) | skip)) only [f_X4_tell, ↓gb_of, ↓gb2_of, ↓gb3_of, ↓gB_eq, ↓gg_pos, ↓if_pos, ↓if_neg, ↓b_wi1, ↓b_wi0, ↓b_has1, ↓b_has0, ↓b_in1, ↓b_in0, ↓b_pl1, ↓b_pl0, ↓b_jm1, ↓b_jm0, ↓b_jc1, ↓b_jc0, ↓b_size, ↓b_get, ↓b_ref, ↓b_den, ↓b_gra, ↓b_don]), by try simp (disch := (first | omega | (simp (disch := omega) only [ga_st_self, ga_st_id, ga_st_ix] <;> omega) | skip)) only [f_X6_about, ↓gb_of, ↓gb2_of, ↓gb3_of, ↓gB_eq, ↓gg_pos, ↓if_pos, ↓if_neg, ↓b_wi1, ↓b_wi0, ↓b_has1, ↓b_has0, ↓b_in1, ↓b_in0, ↓b_pl1, ↓b_pl0, ↓b_jm1, ↓b_jm0, ↓b_jc1, ↓b_jc0, ↓b_size, ↓b_get, ↓b_ref, ↓b_den, ↓b_gra, ↓b_don]; rw [Int.toNat_natCast]; simp [ga_st], hi⟩
    by_cases d4 : v2 = 4
    · exact ⟨M 109 j, _, t0 _ (by rw [← g0]; try simp (disch := (first | omega | (simp (disch := omega) only [ga_st_self, ga_st_id, ga_st_ix] <;> omega) | skip)) only [f_X4_tell, ↓gb_of, ↓gb2_of, ↓gb3_of, ↓gB_eq, ↓gg_pos, ↓if_pos, ↓if_neg, ↓b_wi1, ↓b_wi0, ↓b_has1, ↓b_has0, ↓b_in1, ↓b_in0, ↓b_pl1, ↓b_pl0, ↓b_jm1, ↓b_jm0, ↓b_jc1, ↓b_jc0, ↓b_size, ↓b_get, ↓b_ref, ↓b_den, ↓b_gra, ↓b_don]), by try simp (disch := (first | omega | (simp (disch := omega) only [ga_st_self, ga_st_id, ga_st_ix] <;> omega) | skip)) only [f_X6_about, ↓gb_of, ↓gb2_of, ↓gb3_of, ↓gB_eq, ↓gg_pos, ↓if_pos, ↓if_neg, ↓b_wi1, ↓b_wi0, ↓b_has1, ↓b_has0, ↓b_in1, ↓b_in0, ↓b_pl1, ↓b_pl0, ↓b_jm1, ↓b_jm0, ↓b_jc1, ↓b_jc0, ↓b_size, ↓b_get, ↓b_ref, ↓b_den, ↓b_gra, ↓b_don]; rw [Int.toNat_natCast]; simp [ga_st], hi⟩
    by_cases d5 : v2 = 5
    · exact ⟨M 110 j, _, t0 _ (by rw [← g1]; try simp (disch := (first | omega | (simp (disch := omega) only [ga_st_self, ga_st_id, ga_st_ix] <;> omega) | skip)) only [f_X4_tell, ↓gb_of, ↓gb2_of, ↓gb3_of, ↓gB_eq, ↓gg_pos, ↓if_pos, ↓if_neg, ↓b_wi1, ↓b_wi0, ↓b_has1, ↓b_has0, ↓b_in1, ↓b_in0, ↓b_pl1, ↓b_pl0, ↓b_jm1, ↓b_jm0, ↓b_jc1, ↓b_jc0, ↓b_size, ↓b_get, ↓b_ref, ↓b_den, ↓b_gra, ↓b_don]), by try simp (disch := (first | omega | (simp (disch := omega) only [ga_st_self, ga_st_id, ga_st_ix] <;> omega) | skip)) only [f_X6_about, ↓gb_of, ↓gb2_of, ↓gb3_of, ↓gB_eq, ↓gg_pos, ↓if_pos, ↓if_neg, ↓b_wi1, ↓b_wi0, ↓b_has1, ↓b_has0, ↓b_in1, ↓b_in0, ↓b_pl1, ↓b_pl0, ↓b_jm1, ↓b_jm0, ↓b_jc1, ↓b_jc0, ↓b_size, ↓b_get, ↓b_ref, ↓b_den, ↓b_gra, ↓b_don]; rw [Int.toNat_natCast]; simp [ga_st], hi⟩
    by_cases d6 : v2 = 6
    · exact ⟨M 111 j, _, t0 _ (by rw [← g2]; try simp (disch := (first | omega | (simp (disch := omega) only [ga_st_self, ga_st_id, ga_st_ix] <;> omega) | skip)) only [f_X4_tell, ↓gb_of, ↓gb2_of, ↓gb3_of, ↓gB_eq, ↓gg_pos, ↓if_pos, ↓if_neg, ↓b_wi1, ↓b_wi0, ↓b_has1, ↓b_has0, ↓b_in1, ↓b_in0, ↓b_pl1, ↓b_pl0, ↓b_jm1, ↓b_jm0, ↓b_jc1, ↓b_jc0, ↓b_size, ↓b_get, ↓b_ref, ↓b_den, ↓b_gra, ↓b_don]), by try simp (disch := (first | omega | (simp (disch := omega) only [ga_st_self, ga_st_id, ga_st_ix] <;> omega) | skip)) only [f_X6_about, ↓gb_of, ↓gb2_of, ↓gb3_of, ↓gB_eq, ↓gg_pos, ↓if_pos, ↓if_neg, ↓b_wi1, ↓b_wi0, ↓b_has1, ↓b_has0, ↓b_in1, ↓b_in0, ↓b_pl1, ↓b_pl0, ↓b_jm1, ↓b_jm0, ↓b_jc1, ↓b_jc0, ↓b_size, ↓b_get, ↓b_ref, ↓b_den, ↓b_gra, ↓b_don]; rw [Int.toNat_natCast]; simp [ga_st], hi⟩
    by_cases d7 : v2 = 7
    · exact ⟨M 112 j, _, t0 _ (by rw [← g3]; try simp (disch := (first | omega | (simp (disch := omega) only [ga_st_self, ga_st_id, ga_st_ix] <;> omega) | skip)) only [f_X4_tell, ↓gb_of, ↓gb2_of, ↓gb3_of, ↓gB_eq, ↓gg_pos, ↓if_pos, ↓if_neg, ↓b_wi1, ↓b_wi0, ↓b_has1, ↓b_has0, ↓b_in1, ↓b_in0, ↓b_pl1, ↓b_pl0, ↓b_jm1, ↓b_jm0, ↓b_jc1, ↓b_jc0, ↓b_size, ↓b_get, ↓b_ref, ↓b_den, ↓b_gra, ↓b_don]), by try simp (disch := (first | omega | (simp (disch := omega) only [ga_st_self, ga_st_id, ga_st_ix] <;> omega) | skip)) only [f_X6_about, ↓gb_of, ↓gb2_of, ↓gb3_of, ↓gB_eq, ↓gg_pos, ↓if_pos, ↓if_neg, ↓b_wi1, ↓b_wi0, ↓b_has1, ↓b_has0, ↓b_in1, ↓b_in0, ↓b_pl1, ↓b_pl0, ↓b_jm1, ↓b_jm0, ↓b_jc1, ↓b_jc0, ↓b_size, ↓b_get, ↓b_ref, ↓b_den, ↓b_gra, ↓b_don]; rw [Int.toNat_natCast]; simp [ga_st], hi⟩
    by_cases d8 : v2 = 8
    · exact ⟨M 113 j, _, t0 _ (by rw [← g4]; try simp (disch := (first | omega | (simp (disch := omega) only [ga_st_self, ga_st_id, ga_st_ix] <;> omega) | skip)) only [f_X4_tell, ↓gb_of, ↓gb2_of, ↓gb3_of, ↓gB_eq, ↓gg_pos, ↓if_pos, ↓if_neg, ↓b_wi1, ↓b_wi0, ↓b_has1, ↓b_has0, ↓b_in1, ↓b_in0, ↓b_pl1, ↓b_pl0, ↓b_jm1, ↓b_jm0, ↓b_jc1, ↓b_jc0, ↓b_size, ↓b_get, ↓b_ref, ↓b_den, ↓b_gra, ↓b_don]), by try simp (disch := (first | omega | (simp (disch := omega) only [ga_st_self, ga_st_id, ga_st_ix] <;> omega) | skip)) only [f_X6_about, ↓gb_of, ↓gb2_of, ↓gb3_of, ↓gB_eq, ↓gg_pos, ↓if_pos, ↓if_neg, ↓b_wi1, ↓b_wi0, ↓b_has1, ↓b_has0, ↓b_in1, ↓b_in0, ↓b_pl1, ↓b_pl0, ↓b_jm1, ↓b_jm0, ↓b_jc1, ↓b_jc0, ↓b_size, ↓b_get, ↓b_ref, ↓b_den, ↓b_gra, ↓b_don]; rw [Int.toNat_natCast]; simp [ga_st], hi⟩
    by_cases d9 : v2 = 9
    · exact ⟨M 114 j, _, t0 _ (by rw [← g5]; try simp (disch := (first | omega | (simp (disch := omega) only [ga_st_self, ga_st_id, ga_st_ix] <;> omega) | skip)) only [f_X4_tell, ↓gb_of, ↓gb2_of, ↓gb3_of, ↓gB_eq, ↓gg_pos, ↓if_pos, ↓if_neg, ↓b_wi1, ↓b_wi0, ↓b_has1, ↓b_has0, ↓b_in1, ↓b_in0, ↓b_pl1, ↓b_pl0, ↓b_jm1, ↓b_jm0, ↓b_jc1, ↓b_jc0, ↓b_size, ↓b_get, ↓b_ref, ↓b_den, ↓b_gra, ↓b_don]), by try simp (disch := (first | omega | (simp (disch := omega) only [ga_st_self, ga_st_id, ga_st_ix] <;> omega) | skip)) only [f_X6_about, ↓gb_of, ↓gb2_of, ↓gb3_of, ↓gB_eq, ↓gg_pos, ↓if_pos, ↓if_neg, ↓b_wi1, ↓b_wi0, ↓b_has1, ↓b_has0, ↓b_in1, ↓b_in0, ↓b_pl1, ↓b_pl0, ↓b_jm1, ↓b_jm0, ↓b_jc1, ↓b_jc0, ↓b_size, ↓b_get, ↓b_ref, ↓b_den, ↓b_gra, ↓b_don]; rw [Int.toNat_natCast]; simp [ga_st], hi⟩
    exact ⟨-1, _, t0 _ (by try simp (disch := (first | omega | (simp (disch := omega) only [ga_st_self, ga_st_id, ga_st_ix] <;> omega) | skip)) only [f_X4_tell, ↓gb_of, ↓gb2_of, ↓gb3_of, ↓gB_eq, ↓gg_pos, ↓if_pos, ↓if_neg, ↓b_wi1, ↓b_wi0, ↓b_has1, ↓b_has0, ↓b_in1, ↓b_in0, ↓b_pl1, ↓b_pl0, ↓b_jm1, ↓b_jm0, ↓b_jc1, ↓b_jc0, ↓b_size, ↓b_get, ↓b_ref, ↓b_den, ↓b_gra, ↓b_don]), by try simp (disch := (first | omega | (simp (disch := omega) only [ga_st_self, ga_st_id, ga_st_ix] <;> omega) | skip)) only [f_X6_about, ↓gb_of, ↓gb2_of, ↓gb3_of, ↓gB_eq, ↓gg_pos, ↓if_pos, ↓if_neg, ↓b_wi1, ↓b_wi0, ↓b_has1, ↓b_has0, ↓b_in1, ↓b_in0, ↓b_pl1, ↓b_pl0, ↓b_jm1, ↓b_jm0, ↓b_jc1, ↓b_jc0, ↓b_size, ↓b_get, ↓b_ref, ↓b_den, ↓b_gra, ↓b_don], hi⟩
  · refine ⟨-1, _, ?_, ?_, hi⟩
    · try simp (disch := (first | omega | (simp (disch := omega) only [ga_st_self, ga_st_id, ga_st_ix] <;> omega) | skip)) only [f_X5_about, ↓gb_of, ↓gb2_of, ↓gb3_of, ↓gB_eq, ↓gg_pos, ↓if_pos, ↓if_neg, ↓b_wi1, ↓b_wi0, ↓b_has1, ↓b_has0, ↓b_in1, ↓b_in0, ↓b_pl1, ↓b_pl0, ↓b_jm1, ↓b_jm0, ↓b_jc1, ↓b_jc0, ↓b_size, ↓b_get, ↓b_ref, ↓b_den, ↓b_gra, ↓b_don]
    · try simp (disch := (first | omega | (simp (disch := omega) only [ga_st_self, ga_st_id, ga_st_ix] <;> omega) | skip)) only [f_X6_about, ↓gb_of, ↓gb2_of, ↓gb3_of, ↓gB_eq, ↓gg_pos, ↓if_pos, ↓if_neg, ↓b_wi1, ↓b_wi0, ↓b_has1, ↓b_has0, ↓b_in1, ↓b_in0, ↓b_pl1, ↓b_pl0, ↓b_jm1, ↓b_jm0, ↓b_jc1, ↓b_jc0, ↓b_size, ↓b_get, ↓b_ref, ↓b_den, ↓b_gra, ↓b_don]
end EZ

/-! ===== the machine: job, whole ===== -/
theorem gk_lo0 {n e cp id : Nat} (h0 : 0 ≤ id) (h1 : id < 30) (h2 : id ≠ 2) (he : id ≠ e) : gk n e cp id = gk 0 1000 0 id := by
  obtain ⟨k, rfl⟩ : ∃ k, id = 0 + k := ⟨id - 0, by omega⟩
  have hk : k < 30 := by omega
  match k, hk, h2, he with
  | 0, _, _, _ => rfl
  | 1, _, _, _ => rfl
  | 2, _, h2, _ => exact absurd rfl h2
  | 3, _, _, _ => rfl
  | 4, _, _, _ => rfl
  | 5, _, _, _ => rfl
  | 6, _, _, _ => rfl
  | 7, _, _, _ => rfl
  | 8, _, _, _ => rfl
  | 9, _, _, he => exact (show gk n e cp 9 = none from if_neg (fun q => he q.1)).trans (show gk 0 1000 0 9 = none from rfl).symm
  | 10, _, _, _ => rfl
  | 11, _, _, _ => rfl
  | 12, _, _, _ => rfl
  | 13, _, _, _ => rfl
  | 14, _, _, _ => rfl
  | 15, _, _, he => exact (show gk n e cp 15 = none from if_neg (fun q => he q.1)).trans (show gk 0 1000 0 15 = none from rfl).symm
  | 16, _, _, he => exact (show gk n e cp 16 = none from if_neg (fun q => he q.1)).trans (show gk 0 1000 0 16 = none from rfl).symm
  | 17, _, _, he => exact (show gk n e cp 17 = none from if_neg (fun q => he q.1)).trans (show gk 0 1000 0 17 = none from rfl).symm
  | 18, _, _, he => exact (show gk n e cp 18 = none from if_neg (fun q => he q.1)).trans (show gk 0 1000 0 18 = none from rfl).symm
  | 19, _, _, he => exact (show gk n e cp 19 = none from if_neg (fun q => he q.1)).trans (show gk 0 1000 0 19 = none from rfl).symm
  | 20, _, _, _ => rfl
  | 21, _, _, _ => rfl
  | 22, _, _, _ => rfl
  | 23, _, _, _ => rfl
  | 24, _, _, _ => rfl
  | 25, _, _, he => exact (show gk n e cp 25 = none from if_neg (fun q => he q.1)).trans (show gk 0 1000 0 25 = none from rfl).symm
  | 26, _, _, he => exact (show gk n e cp 26 = none from if_neg (fun q => he q.1)).trans (show gk 0 1000 0 26 = none from rfl).symm
  | 27, _, _, he => exact (show gk n e cp 27 = none from if_neg (fun q => he q.1)).trans (show gk 0 1000 0 27 = none from rfl).symm
  | 28, _, _, he => exact (show gk n e cp 28 = none from if_neg (fun q => he q.1)).trans (show gk 0 1000 0 28 = none from rfl).symm
  | 29, _, _, he => exact (show gk n e cp 29 = none from if_neg (fun q => he q.1)).trans (show gk 0 1000 0 29 = none from rfl).symm
  | k + 30, h, _, _ => exact absurd h (by omega)
theorem gk_lo30 {n e cp id : Nat} (h0 : 30 ≤ id) (h1 : id < 60) (h2 : id ≠ 2) (he : id ≠ e) : gk n e cp id = gk 0 1000 0 id := by
  obtain ⟨k, rfl⟩ : ∃ k, id = 30 + k := ⟨id - 30, by omega⟩
  have hk : k < 30 := by omega
  match k, hk, h2, he with
  | 0, _, _, _ => rfl
  | 1, _, _, _ => rfl
  | 2, _, _, _ => rfl
  | 3, _, _, _ => rfl
  | 4, _, _, _ => rfl
  | 5, _, _, he => exact (show gk n e cp 35 = none from if_neg (fun q => he q.1)).trans (show gk 0 1000 0 35 = none from rfl).symm
  | 6, _, _, he => exact (show gk n e cp 36 = none from if_neg (fun q => he q.1)).trans (show gk 0 1000 0 36 = none from rfl).symm
  | 7, _, _, he => exact (show gk n e cp 37 = none from if_neg (fun q => he q.1)).trans (show gk 0 1000 0 37 = none from rfl).symm
  | 8, _, _, he => exact (show gk n e cp 38 = none from if_neg (fun q => he q.1)).trans (show gk 0 1000 0 38 = none from rfl).symm
  | 9, _, _, he => exact (show gk n e cp 39 = none from if_neg (fun q => he q.1)).trans (show gk 0 1000 0 39 = none from rfl).symm
  | 10, _, _, _ => rfl
  | 11, _, _, _ => rfl
  | 12, _, _, _ => rfl
  | 13, _, _, he => exact (show gk n e cp 43 = none from if_neg (fun q => he q.1)).trans (show gk 0 1000 0 43 = none from rfl).symm
  | 14, _, _, he => exact (show gk n e cp 44 = none from if_neg (fun q => he q.1)).trans (show gk 0 1000 0 44 = none from rfl).symm
  | 15, _, _, he => exact (show gk n e cp 45 = none from if_neg (fun q => he q.1)).trans (show gk 0 1000 0 45 = none from rfl).symm
  | 16, _, _, he => exact (show gk n e cp 46 = none from if_neg (fun q => he q.1)).trans (show gk 0 1000 0 46 = none from rfl).symm
  | 17, _, _, he => exact (show gk n e cp 47 = none from if_neg (fun q => he q.1)).trans (show gk 0 1000 0 47 = none from rfl).symm
  | 18, _, _, he => exact (show gk n e cp 48 = none from if_neg (fun q => he q.1)).trans (show gk 0 1000 0 48 = none from rfl).symm
  | 19, _, _, he => exact (show gk n e cp 49 = none from if_neg (fun q => he q.1)).trans (show gk 0 1000 0 49 = none from rfl).symm
  | 20, _, _, _ => rfl
  | 21, _, _, _ => rfl
  | 22, _, _, _ => rfl
  | 23, _, _, he => exact (show gk n e cp 53 = none from if_neg (fun q => he q.1)).trans (show gk 0 1000 0 53 = none from rfl).symm
  | 24, _, _, he => exact (show gk n e cp 54 = none from if_neg (fun q => he q.1)).trans (show gk 0 1000 0 54 = none from rfl).symm
  | 25, _, _, he => exact (show gk n e cp 55 = none from if_neg (fun q => he q.1)).trans (show gk 0 1000 0 55 = none from rfl).symm
  | 26, _, _, he => exact (show gk n e cp 56 = none from if_neg (fun q => he q.1)).trans (show gk 0 1000 0 56 = none from rfl).symm
  | 27, _, _, he => exact (show gk n e cp 57 = none from if_neg (fun q => he q.1)).trans (show gk 0 1000 0 57 = none from rfl).symm
  | 28, _, _, he => exact (show gk n e cp 58 = none from if_neg (fun q => he q.1)).trans (show gk 0 1000 0 58 = none from rfl).symm
  | 29, _, _, he => exact (show gk n e cp 59 = none from if_neg (fun q => he q.1)).trans (show gk 0 1000 0 59 = none from rfl).symm
  | k + 30, h, _, _ => exact absurd h (by omega)
theorem gk_lo60 {n e cp id : Nat} (h0 : 60 ≤ id) (h1 : id < 90) (h2 : id ≠ 2) (he : id ≠ e) : gk n e cp id = gk 0 1000 0 id := by
  obtain ⟨k, rfl⟩ : ∃ k, id = 60 + k := ⟨id - 60, by omega⟩
  have hk : k < 30 := by omega
  match k, hk, h2, he with
  | 0, _, _, _ => rfl
  | 1, _, _, _ => rfl
  | 2, _, _, _ => rfl
  | 3, _, _, _ => rfl
  | 4, _, _, _ => rfl
  | 5, _, _, he => exact (show gk n e cp 65 = none from if_neg (fun q => he q.1)).trans (show gk 0 1000 0 65 = none from rfl).symm
  | 6, _, _, he => exact (show gk n e cp 66 = none from if_neg (fun q => he q.1)).trans (show gk 0 1000 0 66 = none from rfl).symm
  | 7, _, _, he => exact (show gk n e cp 67 = none from if_neg (fun q => he q.1)).trans (show gk 0 1000 0 67 = none from rfl).symm
  | 8, _, _, he => exact (show gk n e cp 68 = none from if_neg (fun q => he q.1)).trans (show gk 0 1000 0 68 = none from rfl).symm
  | 9, _, _, he => exact (show gk n e cp 69 = none from if_neg (fun q => he q.1)).trans (show gk 0 1000 0 69 = none from rfl).symm
  | 10, _, _, _ => rfl
  | 11, _, _, _ => rfl
  | 12, _, _, _ => rfl
  | 13, _, _, _ => rfl
  | 14, _, _, _ => rfl
  | 15, _, _, _ => rfl
  | 16, _, _, _ => rfl
  | 17, _, _, _ => rfl
  | 18, _, _, _ => rfl
  | 19, _, _, _ => rfl
  | 20, _, _, _ => rfl
  | 21, _, _, _ => rfl
  | 22, _, _, _ => rfl
  | 23, _, _, _ => rfl
  | 24, _, _, he => exact (show gk n e cp 84 = none from if_neg (fun q => he q.1)).trans (show gk 0 1000 0 84 = none from rfl).symm
  | 25, _, _, he => exact (show gk n e cp 85 = none from if_neg (fun q => he q.1)).trans (show gk 0 1000 0 85 = none from rfl).symm
  | 26, _, _, he => exact (show gk n e cp 86 = none from if_neg (fun q => he q.1)).trans (show gk 0 1000 0 86 = none from rfl).symm
  | 27, _, _, he => exact (show gk n e cp 87 = none from if_neg (fun q => he q.1)).trans (show gk 0 1000 0 87 = none from rfl).symm
  | 28, _, _, he => exact (show gk n e cp 88 = none from if_neg (fun q => he q.1)).trans (show gk 0 1000 0 88 = none from rfl).symm
  | 29, _, _, he => exact (show gk n e cp 89 = none from if_neg (fun q => he q.1)).trans (show gk 0 1000 0 89 = none from rfl).symm
  | k + 30, h, _, _ => exact absurd h (by omega)
theorem gk_lo90 {n e cp id : Nat} (h0 : 90 ≤ id) (h1 : id < 120) (h2 : id ≠ 2) (he : id ≠ e) : gk n e cp id = gk 0 1000 0 id := by
  obtain ⟨k, rfl⟩ : ∃ k, id = 90 + k := ⟨id - 90, by omega⟩
  have hk : k < 30 := by omega
  match k, hk, h2, he with
  | 0, _, _, he => exact (show gk n e cp 90 = none from if_neg (fun q => he q.1)).trans (show gk 0 1000 0 90 = none from rfl).symm
  | 1, _, _, he => exact (show gk n e cp 91 = none from if_neg (fun q => he q.1)).trans (show gk 0 1000 0 91 = none from rfl).symm
  | 2, _, _, he => exact (show gk n e cp 92 = none from if_neg (fun q => he q.1)).trans (show gk 0 1000 0 92 = none from rfl).symm
  | 3, _, _, he => exact (show gk n e cp 93 = none from if_neg (fun q => he q.1)).trans (show gk 0 1000 0 93 = none from rfl).symm
  | 4, _, _, he => exact (show gk n e cp 94 = none from if_neg (fun q => he q.1)).trans (show gk 0 1000 0 94 = none from rfl).symm
  | 5, _, _, he => exact (show gk n e cp 95 = none from if_neg (fun q => he q.1)).trans (show gk 0 1000 0 95 = none from rfl).symm
  | 6, _, _, he => exact (show gk n e cp 96 = none from if_neg (fun q => he q.1)).trans (show gk 0 1000 0 96 = none from rfl).symm
  | 7, _, _, he => exact (show gk n e cp 97 = none from if_neg (fun q => he q.1)).trans (show gk 0 1000 0 97 = none from rfl).symm
  | 8, _, _, he => exact (show gk n e cp 98 = none from if_neg (fun q => he q.1)).trans (show gk 0 1000 0 98 = none from rfl).symm
  | 9, _, _, he => exact (show gk n e cp 99 = none from if_neg (fun q => he q.1)).trans (show gk 0 1000 0 99 = none from rfl).symm
  | 10, _, _, _ => rfl
  | 11, _, _, he => exact (show gk n e cp 101 = none from if_neg (fun q => he q.1)).trans (show gk 0 1000 0 101 = none from rfl).symm
  | 12, _, _, he => exact (show gk n e cp 102 = none from if_neg (fun q => he q.1)).trans (show gk 0 1000 0 102 = none from rfl).symm
  | 13, _, _, he => exact (show gk n e cp 103 = none from if_neg (fun q => he q.1)).trans (show gk 0 1000 0 103 = none from rfl).symm
  | 14, _, _, he => exact (show gk n e cp 104 = none from if_neg (fun q => he q.1)).trans (show gk 0 1000 0 104 = none from rfl).symm
  | 15, _, _, he => exact (show gk n e cp 105 = none from if_neg (fun q => he q.1)).trans (show gk 0 1000 0 105 = none from rfl).symm
  | 16, _, _, _ => rfl
  | 17, _, _, _ => rfl
  | 18, _, _, _ => rfl
  | 19, _, _, _ => rfl
  | 20, _, _, _ => rfl
  | 21, _, _, _ => rfl
  | 22, _, _, _ => rfl
  | 23, _, _, _ => rfl
  | 24, _, _, _ => rfl
  | 25, _, _, _ => rfl
  | 26, _, _, _ => rfl
  | 27, _, _, _ => rfl
  | 28, _, _, _ => rfl
  | 29, _, _, _ => rfl
  | k + 30, h, _, _ => exact absurd h (by omega)
theorem gk_lo120 {n e cp id : Nat} (h0 : 120 ≤ id) (h1 : id < 134) (h2 : id ≠ 2) (he : id ≠ e) : gk n e cp id = gk 0 1000 0 id := by
  obtain ⟨k, rfl⟩ : ∃ k, id = 120 + k := ⟨id - 120, by omega⟩
  have hk : k < 14 := by omega
  match k, hk, h2, he with
  | 0, _, _, _ => rfl
  | 1, _, _, _ => rfl
  | 2, _, _, _ => rfl
  | 3, _, _, _ => rfl
  | 4, _, _, _ => rfl
  | 5, _, _, _ => rfl
  | 6, _, _, _ => rfl
  | 7, _, _, _ => rfl
  | 8, _, _, he => exact (show gk n e cp 128 = none from if_neg (fun q => he q.1)).trans (show gk 0 1000 0 128 = none from rfl).symm
  | 9, _, _, he => exact (show gk n e cp 129 = none from if_neg (fun q => he q.1)).trans (show gk 0 1000 0 129 = none from rfl).symm
  | 10, _, _, _ => rfl
  | 11, _, _, _ => rfl
  | 12, _, _, _ => rfl
  | 13, _, _, _ => rfl
  | k + 14, h, _, _ => exact absurd h (by omega)
theorem gk_lo {n e cp id : Nat} (h1 : id < 134) (h2 : id ≠ 2) (he : id ≠ e) : gk n e cp id = gk 0 1000 0 id := by
  by_cases c0 : id < 30
  · exact gk_lo0 (by omega) c0 h2 he
  by_cases c30 : id < 60
  · exact gk_lo30 (by omega) c30 h2 he
  by_cases c60 : id < 90
  · exact gk_lo60 (by omega) c60 h2 he
  by_cases c90 : id < 120
  · exact gk_lo90 (by omega) c90 h2 he
  by_cases c120 : id < 134
  · exact gk_lo120 (by omega) c120 h2 he
  omega
def gj (n e cp : Nat) : Prop := gh n e cp ∧ ((e = 99 ∧ cp = 0 ∧ n = 0) ∨ (300 ≤ e ∧ e < 300 + n ∧ 10 ≤ cp ∧ cp ≤ 600))
theorem gk_mn {n e cp i x : Nat} {sk : gaS} (h : gk n e cp i = some sk) (hm : mnt sk x) : x < 134 ∨ (200 ≤ x ∧ x < 200 + n) ∨ x = e := by
  unfold gk at h
  split at h
  all_goals first
    | (cases h; exact absurd hm mnt_inl)
    | (cases h; obtain ⟨k, hk⟩ := hm; first | (unfold gr_X5 at hk; split at hk <;> cases hk <;> omega) | (unfold gr_X2 at hk; split at hk <;> cases hk <;> omega) | (unfold gr_AL at hk; split at hk <;> cases hk <;> omega) | (unfold gr_X0 at hk; split at hk <;> cases hk <;> omega) | (unfold gr_X1 at hk; split at hk <;> cases hk <;> omega) | (unfold gr_X3 at hk; split at hk <;> cases hk <;> omega) | (unfold gr_X6 at hk; split at hk <;> cases hk <;> omega))
    | (cases h; obtain ⟨j, hj, q⟩ := hm; have := Option.some.inj q; omega)
    | (cases h; obtain ⟨j, hj, q⟩ := hm; cases q)
    | skip
  split at h
  · cases h
    obtain ⟨k, hk⟩ := hm
    cases hk
  · split at h
    · cases h
      obtain ⟨j, hj, q⟩ := hm
      have q : (if j < n then some (200 + j) else none) = some x := q
      by_cases c : j < n
      · rw [if_pos c] at q
        have := Option.some.inj q
        omega
      · rw [if_neg c] at q
        cases q
    · cases h
theorem gk_frh {n e cp x : Nat} (h1 : 200 + n ≤ x) (h2 : x ≠ e) : frh (gk n e cp) x := by
  refine ⟨?_, fun i sk hi hm => ?_, by omega⟩
  · rw [gk_big (by omega), if_neg (by omega), if_neg (fun q => h2 q.1)]
  · have := gk_mn hi hm
    omega
theorem gk_chg {n e cp e' cp' id : Nat} (h1 : id ≠ 2) (h2 : id ≠ e) (h3 : id ≠ e') (h4 : id ≠ 200 + n) : gk (n + 1) e' cp' id = gk n e cp id := by
  by_cases c0 : id < 134
  · rw [gk_lo c0 h1 h3, gk_lo c0 h1 h2]
  rw [gk_big (by omega), gk_big (by omega)]
  by_cases c : 200 ≤ id ∧ id < 200 + n
  · rw [if_pos c, if_pos (by omega)]
  · rw [if_neg c, if_neg (by omega), if_neg (fun q => h3 q.1), if_neg (fun q => h2 q.1)]
theorem gk_99 {n e cp e' : Nat} (h : e = 99 ∨ 300 ≤ e) (h2 : e ≠ e') (hn : n ≤ 40) : gk n e' cp e = none := by
  rcases h with rfl | h
  · exact (show gk n e' cp 99 = none from if_neg (fun q => h2 q.1))
  · rw [gk_big (by omega), if_neg (by omega), if_neg (fun q => h2 q.1)]
theorem gk_in {n e cp e' cp' : Nat} {K1 : gaK} (he : e = 99 ∨ 300 ≤ e) (hn : n < 40) (h1 : K1 e' = some (.inr (.inr (3, cp', fun j => if j < n + 1 then some (200 + j) else none)))) (hg : gh (n + 1) e' cp') (h2 : K1 2 = some (.inr (.inl (7, gr_AL e')))) (h3 : K1 (200 + n) = some (.inr (.inl (4, gr_X4)))) (h4 : ∀ id, id ≠ 2 → id ≠ e' → id ≠ 200 + n → K1 id = gk n e cp id) : ∀ (id : Nat) (sk : gaS), gk (n + 1) e' cp' id = some sk → K1 id = some sk := by
  intro id sk h
  by_cases c1 : id = e'
  · subst c1
    rw [gk_e hg (by have := hg.2.1; omega)] at h
    rw [h1]
    exact h
  by_cases c2 : id = 2
  · subst c2
    rw [h2]
    exact h
  by_cases c3 : id = 200 + n
  · subst c3
    rw [gk_w (by omega)] at h
    rw [h3]
    exact h
  by_cases c4 : id = e
  · subst c4
    rw [gk_99 he c1 (by omega)] at h
    cases h
  rw [h4 id c2 c1 c3, ← gk_chg (cp' := cp') c2 c4 c1 c3]
  exact h
theorem rfu_AL {e e1 : Nat} : rfu (gr_AL e) 1 (some e1) = gr_AL e1 := by
  funext k
  unfold rfu gr_AL
  match k with
  | 0 => rfl
  | 1 => rfl
  | k + 2 => rfl
theorem njb_eq {M : gaM} {n : Nat} {c v1 v2 v3 v4 v5 v6 : Int} : ga_st (ga_st (mwk M n v1 v2 v3 v4 v5 v6) 2 0 c) 2 2 ((n : Int) + 1) = njb M n c v1 v2 v3 v4 v5 v6 := by
  rw [mwk_eq]
  rfl
theorem t_job {n e cp G : Nat} (hj : gj n e cp) (hn : n < 40) {M : gaM} {v1 v2 v3 v4 v5 v6 : Int} (hf : f_X5_troubleOfJob G n M v1 v2 v3 v4 v5 v6 = some 0) (hs : M 2 2 = (n : Int)) : ∃ (e' cp' mc ms : Nat) (K1 : gaK) (c0 : Int), gj (n + 1) e' cp' ∧ mc ≤ 2 ∧ ms ≤ 100 ∧ (∀ i, gk n e cp i ≠ none → K1 i ≠ none) ∧ (∀ (id : Nat) (sk : gaS), gk (n + 1) e' cp' id = some sk → K1 id = some sk) ∧ ga_MetA yX5_job cX5_job 7 (some .int) 7 mc ms (gk n e cp) M [.inr (some 0), .inl v1, .inl v2, .inl v3, .inl v4, .inl v5, .inl v6] (some (.inl (n : Int))) K1 (njb M n c0 v1 v2 v3 v4 v5 v6) := by
  obtain ⟨hg, hj⟩ := hj
  have hg' := hg
  obtain ⟨g1, g2, g3, g4⟩ := hg'
  have hw0 : 200 + n ≠ e := by omega
  have hfr : frh (gk n e cp) (200 + n) := gk_frh (Nat.le_refl _) hw0
  have hs2 : mwk M n v1 v2 v3 v4 v5 v6 2 2 = (n : Int) := by
    rw [mwk_eq, setr_ne (by omega), ga_st_id (by decide)]
    exact hs
  obtain ⟨c0, hc0⟩ : ∃ c0, mwk M n v1 v2 v3 v4 v5 v6 2 0 + 1 = c0 := ⟨_, rfl⟩
  obtain ⟨Ka, eKa⟩ : ∃ Ka, Ka = Kup (gk n e cp) (200 + n) (.inr (.inl (4, gr_X4))) := ⟨_, rfl⟩
  have ka2 : Ka 2 = some (.inr (.inl (7, gr_AL e))) := by rw [eKa, Kup_ne (by omega)]; rfl
  have kaw : Ka (200 + n) = some (.inr (.inl (4, gr_X4))) := by rw [eKa, Kup_self]
  have kae : 0 < cp → Ka e = some (.inr (.inr (3, cp, fun j => if j < n then some (200 + j) else none))) := fun q => by rw [eKa, Kup_ne (Ne.symm hw0)]; exact gk_e hg q
  have ka0 : Ka 0 = some (.inr (.inl (5, gr_X5))) := by rw [eKa, Kup_ne (by omega)]; rfl
  have kax : ∀ id, id ≠ 200 + n → Ka id = gk n e cp id := fun id h => by rw [eKa, Kup_ne h]
  have kad : ∀ i, gk n e cp i ≠ none → Ka i ≠ none := by rw [eKa]; exact Kup_dom
  have kel : ∀ j, j < n → ∀ w, (if j < n then some (200 + j) else none) = some w → ∃ rf, Ka w = some (.inr (.inl (4, rf))) := fun j hj w hw => by
    rw [if_pos hj] at hw
    have hw := Option.some.inj hw
    subst hw
    exact ⟨gr_X4, by rw [kax _ (by omega)]; exact gk_w hj⟩
  have kfr : frh Ka (300 + n) := by
    rw [eKa]
    exact (gk_frh (by omega) (by omega)).up (by omega) (fun ⟨k, hk⟩ => by cases hk)
  by_cases hcp : n < cp
  · have he : 300 ≤ e ∧ e < 300 + n ∧ 10 ≤ cp ∧ cp ≤ 600 := by omega
    have hb := t_add3R (M := ga_st (mwk M n v1 v2 v3 v4 v5 v6) 2 0 c0) (n := n) ka2 rfl (kae (by omega)) kaw (by omega) (by omega) hcp (by omega)
    have ha := t_add1 (n := n) (c0 := c0) ka2 kaw hs2 hc0 Kup_dom hb
    have hY := t_jobY (n := n) (e := e) (cp := cp) (G := G) (c0 := c0) (rf := gr_AL e) hg eKa hf hfr ha (Kup_dom) (by rw [Kup_ne (by omega)]; exact ka0) (by rw [Kup_ne (by omega)]; exact ka2) rfl
    rw [njb_eq] at hY
    have hg1 : gh (n + 1) e cp := ⟨by omega, by omega, by omega, by omega⟩
    refine ⟨e, cp, _, _, _, c0, ⟨hg1, .inr (by omega)⟩, by decide, by decide, fun i h => Kup_dom _ (kad i h), gk_in (e := e) (cp := cp) (by omega) hn ?_ hg1 ?_ ?_ ?_, hY⟩
    · rw [Kup_self]
      congr 6
      funext j
      by_cases c1 : j = n
      · rw [if_pos c1, if_pos (by omega), c1]
      · rw [if_neg c1]
        by_cases c2 : j < n
        · rw [if_pos c2, if_pos (by omega)]
        · rw [if_neg c2, if_neg (by omega)]
    · rw [Kup_ne (by omega)]; exact ka2
    · rw [Kup_ne (by omega)]; exact kaw
    · intro id q1 q2 q3
      rw [Kup_ne q2]
      exact kax id q3
  · have hcn : cp = n := by omega
    rcases hj with ⟨rfl, hc1, hn0⟩ | he
    · subst hn0
      subst hc1
      have hG := t_grow1A (M := ga_st (mwk M 0 v1 v2 v3 v4 v5 v6) 2 0 c0) ka2 kfr
      have hG0 := t_grow0 (s := 0) ka2 (by rw [ga_st_ix (by decide)]; exact hs2) Kg0_dom hG
      have hb := t_add3G (n := 0) (e := 99) (e1 := 300 + 0) ka2 (.inr ⟨rfl, rfl⟩) kaw (by decide) (by decide) Kg0_dom hG0 (Kup_self) rfl (show Kg0 Ka (300 + 0) (300 + 0) = _ by unfold Kg0; rw [Kup_ne (by omega), Kup_self]) (show Kg0 Ka (300 + 0) (200 + 0) = _ by unfold Kg0; rw [Kup_ne (by omega), Kup_ne (by omega)]; exact kaw) (by decide) (by decide)
      have ha := t_add1 (n := 0) (c0 := c0) ka2 kaw hs2 hc0 (fun i h => Kup_dom _ (Kg0_dom i h)) hb
      have hY := t_jobY (n := 0) (e := 99) (cp := 0) (G := G) (c0 := c0) (rf := rfu (gr_AL 99) 1 (some (300 + 0))) hg eKa hf hfr ha (fun i h => Kup_dom _ (Kg0_dom i h)) (by rw [Kup_ne (by omega)]; unfold Kg0; rw [Kup_ne (by omega), Kup_ne (by omega)]; exact ka0) (by rw [Kup_ne (by omega)]; exact Kup_self) rfl
      rw [njb_eq] at hY
      have hg1 : gh (0 + 1) (300 + 0) 10 := ⟨by omega, by omega, by omega, by omega⟩
      refine ⟨300 + 0, 10, _, _, _, c0, ⟨hg1, .inr (by omega)⟩, by decide, by decide, fun i h => Kup_dom _ (Kg0_dom _ (kad i h)), gk_in (e := 99) (cp := 0) (by omega) hn ?_ hg1 ?_ ?_ ?_, hY⟩
      · rw [Kup_self]
        congr 6
        funext j
        by_cases c1 : j = 0
        · rw [if_pos c1, if_pos (by omega), c1]
        · rw [if_neg c1, if_neg (by omega)]
      · rw [Kup_ne (by omega)]
        unfold Kg0
        rw [Kup_self, rfu_AL]
      · rw [Kup_ne (by omega)]
        unfold Kg0
        rw [Kup_ne (by omega), Kup_ne (by omega)]
        exact kaw
      · intro id q1 q2 q3
        rw [Kup_ne q2]
        unfold Kg0
        rw [Kup_ne q1, Kup_ne q2]
        exact kax id q3
    · subst hcn
      have hG := t_grow1 (M := ga_st (mwk M cp v1 v2 v3 v4 v5 v6) 2 0 c0) (n := cp) ka2 (kae (by omega)) kel (by omega) kfr
      have hG0 := t_grow0 (s := (cp : Int)) ka2 (by rw [ga_st_ix (by decide)]; exact hs2) Kgr_dom hG
      have hb := t_add3G (n := cp) (e := e) (e1 := 300 + cp) (N := cp + cp / 2) (g1 := fun j => if j < cp then (if j < cp then some (200 + j) else none) else none) ka2 (.inl ⟨_, kae (by omega)⟩) kaw (by omega) (by omega) Kgr_dom hG0 Kup_self rfl (show Kgr Ka e (300 + cp) (cp + cp / 2) cp _ (300 + cp) = _ by unfold Kgr Kcp; rw [Kup_ne (by omega), Kup_self]) (show Kgr Ka e (300 + cp) (cp + cp / 2) cp _ (200 + cp) = _ by unfold Kgr; rw [Kup_ne (by omega), Kcp_ne (by omega)]; exact kaw) (by omega) (by omega)
      have ha := t_add1 (n := cp) (c0 := c0) ka2 kaw hs2 hc0 (fun i h => Kup_dom _ (Kgr_dom i h)) hb
      have hY := t_jobY (n := cp) (e := e) (cp := cp) (G := G) (c0 := c0) (rf := rfu (gr_AL e) 1 (some (300 + cp))) hg eKa hf hfr ha (fun i h => Kup_dom _ (Kgr_dom i h)) (by rw [Kup_ne (by omega)]; unfold Kgr; rw [Kup_ne (by omega), Kcp_ne (by omega)]; exact ka0) (by rw [Kup_ne (by omega)]; exact Kup_self) rfl
      rw [njb_eq] at hY
      have hg1 : gh (cp + 1) (300 + cp) (cp + cp / 2) := ⟨by omega, by omega, by omega, by omega⟩
      refine ⟨300 + cp, cp + cp / 2, _, _, _, c0, ⟨hg1, .inr (by omega)⟩, by decide, by omega, fun i h => Kup_dom _ (Kgr_dom _ (kad i h)), gk_in (e := e) (cp := cp) (by omega) hn ?_ hg1 ?_ ?_ ?_, hY⟩
      · rw [Kup_self]
        congr 6
        funext j
        by_cases c1 : j = cp
        · rw [if_pos c1, if_pos (by omega), c1]
        · rw [if_neg c1]
          by_cases c2 : j < cp
          · simp [c2]
            omega
          · rw [if_neg c2, if_neg (by omega)]
      · rw [Kup_ne (by omega)]
        unfold Kgr
        rw [Kup_self, rfu_AL]
      · rw [Kup_ne (by omega)]
        unfold Kgr
        rw [Kup_ne (by omega), Kcp_ne (by omega)]
        exact kaw
      · intro id q1 q2 q3
        rw [Kup_ne q2]
        unfold Kgr
        rw [Kup_ne q1, Kcp_ne q2]
        exact kax id q3

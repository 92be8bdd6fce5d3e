/-! ===== the machine: the list's add, job ===== -/
set_option maxRecDepth 20000 in
theorem t_add3R {K : gaK} {M : gaM} {e cp n w : Nat} {g rf rw_ : Nat → _} (hk2 : K 2 = some (.inr (.inl (7, rf)))) (hr2 : rf 2 = none) (hke : K e = some (.inr (.inr (3, cp, g)))) (hkw : K w = some (.inr (.inl (4, rw_)))) (he : e ≠ 99) (hee : e ≠ 2) (hn : n < cp) (hcp : cp ≤ 1000) : ga_MetA yJx4a65c_add_72be8 cJx4a65c_add_72be8 4 none 5 0 0 K M [.inr (some 2), .inr (some w), .inr (some e), .inl (n : Int)] none (Kup K e (.inr (.inr (3, cp, fun j => if j = n then some w else g j)))) (ga_st M 2 2 ((n : Int) + 1)) := by
  refine ga_metA (own := RJx4a65c) (by decide) rfl (Nat.le_of_ble_eq_true rfl) (fun X ad Z => ?_)
  refine ga_il3 Z.C eJx4a65c_add_72be8_0 ?_
  refine ga_al2 Z.C eJx4a65c_add_72be8_1 ?_
  refine ga_alen Z.C Z.K eJx4a65c_add_72be8_2 (.inr ⟨3, g, hke, .inr rfl⟩) ?_
  refine ga_icmp_ne Z.C eJx4a65c_add_72be8_3 ⟨by omega, by omega⟩ ⟨by omega, by omega⟩ (fun hc => absurd hc (by omega)) (fun hc => ?_)
  refine ga_al2 Z.C eJx4a65c_add_72be8_11 ?_
  refine ga_il3 Z.C eJx4a65c_add_72be8_12 ?_
  refine ga_al1 Z.C eJx4a65c_add_72be8_13 ?_
  refine z_aast (N := cp) (g := g) (i := (n : Int)) Z eJx4a65c_add_72be8_14 hke he hkw (by omega) ⟨by omega, by omega⟩ (fun X Z => ?_)
  refine ga_al0 Z.C eJx4a65c_add_72be8_15 ?_
  refine ga_il3 Z.C eJx4a65c_add_72be8_16 ?_
  refine ga_push Z.C eJx4a65c_add_72be8_17 ?_
  refine ga_iadd Z.C eJx4a65c_add_72be8_18 ?_
  refine ga_putI Z.C Z.K eJx4a65c_add_72be8_19 lRJx4a65c_48 (by intro q hq; cases hq; exact ⟨rfl, rfl⟩) (by rw [Kup_ne (Ne.symm hee)]; exact hk2) hr2 rfl ?_
  exact z_vret Z (fun _ _ h => h) eJx4a65c_add_72be8_22
set_option maxRecDepth 20000 in
theorem t_add3G {K K1 : gaK} {M : gaM} {e e1 n w N : Nat} {g1 : Nat → Option Nat} {rf rf1 rw_ : Nat → Option (Option Nat)} (hk2 : K 2 = some (.inr (.inl (7, rf)))) (hke : (∃ g, K e = some (.inr (.inr (3, n, g)))) ∨ (e = 99 ∧ n = 0)) (hkw : K w = some (.inr (.inl (4, rw_)))) (hn : n < N) (hN : N ≤ 1000) (hdom : ∀ i, K i ≠ none → K1 i ≠ none) (hG : ga_MetA yJx4a65c_grow_d5877 cJx4a65c_grow_d5877 1 (some oAr) 4 1 N K M [.inr (some 2)] (some (.inr (some e1))) K1 M) (h12 : K1 2 = some (.inr (.inl (7, rf1)))) (hr2 : rf1 2 = none) (h1e : K1 e1 = some (.inr (.inr (3, N, g1)))) (h1w : K1 w = some (.inr (.inl (4, rw_)))) (he : e1 ≠ 99) (hee : e1 ≠ 2) : ga_MetA yJx4a65c_add_72be8 cJx4a65c_add_72be8 4 none 5 1 N K M [.inr (some 2), .inr (some w), .inr (some e), .inl (n : Int)] none (Kup K1 e1 (.inr (.inr (3, N, fun j => if j = n then some w else g1 j)))) (ga_st M 2 2 ((n : Int) + 1)) := by
  refine ga_metA (own := RJx4a65c) (by decide) rfl (Nat.le_of_ble_eq_true rfl) (fun X ad Z => ?_)
  refine ga_il3 Z.C eJx4a65c_add_72be8_0 ?_
  refine ga_al2 Z.C eJx4a65c_add_72be8_1 ?_
  refine z_alenL Z eJx4a65c_add_72be8_2 hke ?_
  have hle : K e ≠ none ∨ pin e := by
    rcases hke with ⟨g, q⟩ | ⟨q, -⟩
    · exact .inl (nn q)
    · exact .inr (by omega)
  refine ga_icmp_ne Z.C eJx4a65c_add_72be8_3 ⟨by omega, by omega⟩ ⟨by omega, by omega⟩ (fun hc => ?_) (fun hc => absurd rfl hc)
  refine ga_al0 Z.C eJx4a65c_add_72be8_6 ?_
  refine z_callV (ci := 7) (id := 2) (c := 0) (d := 0) (mc := 1) (ms := N) (rest := []) [] (by rw [Nat.zero_add, Nat.zero_add]; exact Z) eJx4a65c_add_72be8_7 nRJx4a65c_129 mJx4a65c_grow_d5877 vJx4a65c_grow_d5877 hk2 hG (by decide) rfl rfl (Nat.le_of_ble_eq_true rfl) hdom ⟨.inl (nn hk2), .inl (nn hkw), hle, trivial⟩ trivial (fun X Z => ?_)
  refine ga_as2 Z.C eJx4a65c_add_72be8_10 ?_
  refine ga_al2 Z.C eJx4a65c_add_72be8_11 ?_
  refine ga_il3 Z.C eJx4a65c_add_72be8_12 ?_
  refine ga_al1 Z.C eJx4a65c_add_72be8_13 ?_
  refine z_aast (N := N) (g := g1) (i := (n : Int)) Z eJx4a65c_add_72be8_14 h1e he h1w (by omega) ⟨by omega, by omega⟩ (fun X Z => ?_)
  refine ga_al0 Z.C eJx4a65c_add_72be8_15 ?_
  refine ga_il3 Z.C eJx4a65c_add_72be8_16 ?_
  refine ga_push Z.C eJx4a65c_add_72be8_17 ?_
  refine ga_iadd Z.C eJx4a65c_add_72be8_18 ?_
  refine ga_putI Z.C Z.K eJx4a65c_add_72be8_19 lRJx4a65c_48 (by intro q hq; cases hq; exact ⟨rfl, rfl⟩) (by rw [Kup_ne (Ne.symm hee)]; exact h12) hr2 rfl ?_
  exact z_vret Z (fun _ _ h => h) eJx4a65c_add_72be8_22
set_option maxRecDepth 20000 in
theorem t_add1 {K K1 : gaK} {M : gaM} {e n w mc ms : Nat} {rw_ : Nat → Option (Option Nat)} {c0 : Int} (hk2 : K 2 = some (.inr (.inl (7, gr_AL e)))) (hkw : K w = some (.inr (.inl (4, rw_)))) (hs : M 2 2 = (n : Int)) (hc : M 2 0 + 1 = c0) (hdom : ∀ i, K i ≠ none → K1 i ≠ none) (hA : ga_MetA yJx4a65c_add_72be8 cJx4a65c_add_72be8 4 none 5 mc ms K (ga_st M 2 0 c0) [.inr (some 2), .inr (some w), .inr (some e), .inl (n : Int)] none K1 (ga_st (ga_st M 2 0 c0) 2 2 ((n : Int) + 1))) : ga_MetA yJx4a65c_add_9ea2d cJx4a65c_add_9ea2d 2 (some .boolean) 6 mc ms K M [.inr (some 2), .inr (some w)] (some (.inl 1)) K1 (ga_st (ga_st M 2 0 c0) 2 2 ((n : Int) + 1)) := by
  refine ga_metA (own := RJx4a65c) (by decide) rfl (Nat.le_of_ble_eq_true rfl) (fun X ad Z => ?_)
  refine ga_al0 Z.C eJx4a65c_add_9ea2d_0 ?_
  refine ga_dup Z.C eJx4a65c_add_9ea2d_1 ?_
  refine ga_getI Z.C Z.K eJx4a65c_add_9ea2d_2 lRJx4a65c_63 hk2 rfl ?_
  refine ga_push Z.C eJx4a65c_add_9ea2d_5 ?_
  refine ga_iadd Z.C eJx4a65c_add_9ea2d_6 ?_
  rw [hc]
  refine ga_putI Z.C Z.K eJx4a65c_add_9ea2d_7 lRJx4a65c_63 (by intro q hq; cases hq; exact ⟨rfl, rfl⟩) hk2 rfl rfl ?_
  refine ga_al0 Z.C eJx4a65c_add_9ea2d_10 ?_
  refine ga_al1 Z.C eJx4a65c_add_9ea2d_11 ?_
  refine ga_al0 Z.C eJx4a65c_add_9ea2d_12 ?_
  refine ga_getR Z.C Z.K eJx4a65c_add_9ea2d_13 lRJx4a65c_9 hk2 rfl ?_
  refine ga_al0 Z.C eJx4a65c_add_9ea2d_16 ?_
  refine ga_getI Z.C Z.K eJx4a65c_add_9ea2d_17 lRJx4a65c_48 hk2 rfl ?_
  rw [ga_st_ix (show (2 : Nat) ≠ 0 by decide), hs]
  refine z_callV (ci := 7) (id := 2) (c := 0) (d := 0) (mc := mc) (ms := ms) (rest := []) [.inr (some w), .inr (some e), .inl (n : Int)] (by rw [Nat.zero_add, Nat.zero_add]; exact Z) eJx4a65c_add_9ea2d_20 nRJx4a65c_131 mJx4a65c_add_72be8 vJx4a65c_add_72be8 hk2 hA (by decide) rfl rfl (Nat.le_of_ble_eq_true rfl) hdom ⟨.inl (nn hk2), .inl (nn hkw), trivial⟩ trivial (fun X Z => ?_)
  refine ga_push Z.C eJx4a65c_add_9ea2d_23 ?_
  exact z_zret Z (.inr rfl) (fun _ _ h => h) eJx4a65c_add_9ea2d_24
set_option maxRecDepth 20000 in
theorem t_size2 {K : gaK} {M : gaM} {rf : Nat → Option (Option Nat)} {s : Int} (hk2 : K 2 = some (.inr (.inl (7, rf)))) (hr : rf 2 = none) (hs : M 2 2 = s) : ga_Met yJx4a65c_size_8abf5 cJx4a65c_size_8abf5 1 (some .int) 0 K M [.inr (some 2)] (some (.inl s)) M := by
  refine ga_met (own := RJx4a65c) (by decide) rfl (Nat.le_of_ble_eq_true rfl) ?_
  intro X C hK T
  refine ga_al0 C eJx4a65c_size_8abf5_0 ?_
  refine ga_getI C hK eJx4a65c_size_8abf5_1 lRJx4a65c_48 hk2 hr ?_
  rw [hs]
  exact ga_iret C T eJx4a65c_size_8abf5_4
theorem df_X4 : ∀ k, k < 10 → dfl 4 gr_X4 k := by
  intro k hk
  match k, hk with
  | 0, _ => exact .inl ⟨rfl, rfl⟩
  | 1, _ => exact .inl ⟨rfl, rfl⟩
  | 2, _ => exact .inl ⟨rfl, rfl⟩
  | 3, _ => exact .inl ⟨rfl, rfl⟩
  | 4, _ => exact .inl ⟨rfl, rfl⟩
  | 5, _ => exact .inl ⟨rfl, rfl⟩
  | 6, _ => exact .inl ⟨rfl, rfl⟩
  | 7, _ => exact .inl ⟨rfl, rfl⟩
  | 8, _ => exact .inl ⟨rfl, rfl⟩
  | 9, _ => exact .inl ⟨rfl, rfl⟩
  | k + 10, h => omega
set_option maxRecDepth 20000 in
/-- job refused -/
theorem t_jobN {n e cp G : Nat} (hg : gh n e cp) {M : gaM} {v1 v2 v3 v4 v5 v6 t : Int} (hf : f_X5_troubleOfJob G n M v1 v2 v3 v4 v5 v6 = some t) (ht : t ≠ 0) (ho : ok t) : ga_MetA yX5_job cX5_job 7 (some .int) 7 0 0 (gk n e cp) M [.inr (some 0), .inl v1, .inl v2, .inl v3, .inl v4, .inl v5, .inl v6] (some (.inl (-1))) (gk n e cp) (ga_st M 0 10 t) := by
  refine ga_metA (own := RX5) (by decide) rfl (Nat.le_of_ble_eq_true rfl) (fun X ad Z => ?_)
  refine ga_al0 Z.C eX5_job_0 ?_
  refine ga_al0 Z.C eX5_job_1 ?_
  refine ga_il1 Z.C eX5_job_2 ?_
  refine ga_il2 Z.C eX5_job_3 ?_
  refine ga_il3 Z.C eX5_job_4 ?_
  refine ga_il4 Z.C eX5_job_5 ?_
  refine ga_il5 Z.C eX5_job_7 ?_
  refine ga_il6 Z.C eX5_job_9 ?_
  refine ga_callV (ci := 5) (id := 0) (rest := [.inr (some 0)]) [.inl v1, .inl v2, .inl v3, .inl v4, .inl v5, .inl v6] Z.C Z.K eX5_job_11 nRX5_97 mX5_troubleOfJob vX5_troubleOfJob rfl (t_X5_troubleOfJob hg hf) (by decide) rfl rfl (Nat.le_of_ble_eq_true rfl) ?_
  refine ga_putI Z.C Z.K eX5_job_14 lRX5_61 (by intro q hq; cases hq; exact ⟨rfl, rfl⟩) (show gk n e cp 0 = _ from rfl) rfl rfl ?_
  refine ga_al0 Z.C eX5_job_17 ?_
  refine ga_getI Z.C Z.K eX5_job_18 lRX5_61 (show gk n e cp 0 = _ from rfl) rfl ?_
  rw [ga_st_self]
  refine ga_if_eq Z.C eX5_job_21 ho (fun hc => absurd hc ht) (fun hc => ?_)
  refine ga_push Z.C eX5_job_24 ?_
  exact z_iret Z (fun _ _ h => h) eX5_job_25
def mwk (M : gaM) (n : Nat) (v1 v2 v3 v4 v5 v6 : Int) : gaM := wkM (setr (ga_st M 0 10 0) (200 + n) (fun _ => 0)) (200 + n) v1 v2 v3 v4 v5 v6
theorem mwk_eq {M : gaM} {n : Nat} {v1 v2 v3 v4 v5 v6 : Int} : mwk M n v1 v2 v3 v4 v5 v6 = setr (ga_st M 0 10 0) (200 + n) (jrow v1 v2 v3 v4 v5 v6) := by
  funext a b
  unfold mwk wkM
  by_cases ea : a = 200 + n
  · subst ea
    match b with
    | 0 => simp [ga_st, setr, jrow]
    | 1 => simp [ga_st, setr, jrow]
    | 2 => simp [ga_st, setr, jrow]
    | 3 => simp [ga_st, setr, jrow]
    | 4 => simp [ga_st, setr, jrow]
    | 5 => simp [ga_st, setr, jrow]
    | 6 => simp [ga_st, setr, jrow]
    | 7 => simp [ga_st, setr, jrow]
    | 8 => simp [ga_st, setr, jrow]
    | 9 => simp [ga_st, setr, jrow]
    | b + 10 => simp [ga_st, setr, jrow]
  · simp [ga_st, setr, ea]
set_option maxRecDepth 20000 in
/-- job taken, over what the list's add does -/
theorem t_jobY {n e cp G mc ms : Nat} (hg : gh n e cp) {M : gaM} {K1 Ka : gaK} (eKa : Ka = Kup (gk n e cp) (200 + n) (.inr (.inl (4, gr_X4)))) {rf : Nat → Option (Option Nat)} {c0 v1 v2 v3 v4 v5 v6 : Int} (hf : f_X5_troubleOfJob G n M v1 v2 v3 v4 v5 v6 = some 0) (hfr : frh (gk n e cp) (200 + n)) (hA : ga_MetA yJx4a65c_add_9ea2d cJx4a65c_add_9ea2d 2 (some .boolean) 6 mc ms Ka (mwk M n v1 v2 v3 v4 v5 v6) [.inr (some 2), .inr (some (200 + n))] (some (.inl 1)) K1 (ga_st (ga_st (mwk M n v1 v2 v3 v4 v5 v6) 2 0 c0) 2 2 ((n : Int) + 1))) (hdom : ∀ i, Ka i ≠ none → K1 i ≠ none) (h10 : K1 0 = some (.inr (.inl (5, gr_X5)))) (h12 : K1 2 = some (.inr (.inl (7, rf)))) (hr2 : rf 2 = none) : ga_MetA yX5_job cX5_job 7 (some .int) 7 (mc + 1) (ms + 10) (gk n e cp) M [.inr (some 0), .inl v1, .inl v2, .inl v3, .inl v4, .inl v5, .inl v6] (some (.inl (n : Int))) K1 (ga_st (ga_st (mwk M n v1 v2 v3 v4 v5 v6) 2 0 c0) 2 2 ((n : Int) + 1)) := by
  subst eKa
  refine ga_metA (own := RX5) (by decide) rfl (Nat.le_of_ble_eq_true rfl) (fun X ad Z => ?_)
  have k2 : Kup (gk n e cp) (200 + n) (.inr (.inl (4, gr_X4))) 2 = some (.inr (.inl (7, gr_AL e))) := by rw [Kup_ne (by omega)]; rfl
  refine ga_al0 Z.C eX5_job_0 ?_
  refine ga_al0 Z.C eX5_job_1 ?_
  refine ga_il1 Z.C eX5_job_2 ?_
  refine ga_il2 Z.C eX5_job_3 ?_
  refine ga_il3 Z.C eX5_job_4 ?_
  refine ga_il4 Z.C eX5_job_5 ?_
  refine ga_il5 Z.C eX5_job_7 ?_
  refine ga_il6 Z.C eX5_job_9 ?_
  refine ga_callV (ci := 5) (id := 0) (rest := [.inr (some 0)]) [.inl v1, .inl v2, .inl v3, .inl v4, .inl v5, .inl v6] Z.C Z.K eX5_job_11 nRX5_97 mX5_troubleOfJob vX5_troubleOfJob rfl (t_X5_troubleOfJob hg hf) (by decide) rfl rfl (Nat.le_of_ble_eq_true rfl) ?_
  refine ga_putI Z.C Z.K eX5_job_14 lRX5_61 (by intro q hq; cases hq; exact ⟨rfl, rfl⟩) (show gk n e cp 0 = _ from rfl) rfl rfl ?_
  refine ga_al0 Z.C eX5_job_17 ?_
  refine ga_getI Z.C Z.K eX5_job_18 lRX5_61 (show gk n e cp 0 = _ from rfl) rfl ?_
  rw [ga_st_self]
  refine ga_if_eq Z.C eX5_job_21 (by decide) (fun hc => ?_) (fun hc => absurd rfl hc)
  refine ga_al0 Z.C eX5_job_26 ?_
  refine ga_getR Z.C Z.K eX5_job_27 lRX5_19 (show gk n e cp 0 = _ from rfl) rfl ?_
  refine z_new (id := 200 + n) (ci := 4) (N := 10) (c := mc) (d := ms) (rf := gr_X4) Z eX5_job_30 rfl rfl cnRX5_101 ciRX4 niRX4 hfr (okl_fr (K := gk n e cp) ⟨.inl (fun q => by cases q), trivial⟩ ⟨.inl (fun q => by cases q), trivial⟩ hfr) (dfl_F df_X4) (fun X Z => ?_)
  refine ga_dup Z.C eX5_job_33 ?_
  refine ga_il1 Z.C eX5_job_34 ?_
  refine ga_il2 Z.C eX5_job_35 ?_
  refine ga_il3 Z.C eX5_job_36 ?_
  refine ga_il4 Z.C eX5_job_37 ?_
  refine ga_il5 Z.C eX5_job_39 ?_
  refine ga_il6 Z.C eX5_job_41 ?_
  refine z_callI (id := 200 + n) (c := mc) (d := ms) (mc := 0) (ms := 0) (rest := [.inr (some (200 + n)), .inr (some 2)]) [.inl v1, .inl v2, .inl v3, .inl v4, .inl v5, .inl v6] Z eX5_job_43 nRX5_103 mX4_init rfl iX4_init (t_X4_init Kup_self) (by decide) rfl rfl (Nat.le_of_ble_eq_true rfl) (fun _ h => h) ⟨.inl (by rw [Kup_ne (by omega)]; exact fun q => by cases q), trivial⟩ ⟨.inl (nn Kup_self), .inl (nn k2), trivial⟩ (fun X Z => ?_)
  refine z_callV (ci := 7) (id := 2) (c := 0) (d := 0) (mc := mc) (ms := ms) (rest := []) [.inr (some (200 + n))] (by rw [Nat.zero_add, Nat.zero_add]; exact Z) eX5_job_46 nRX5_106 mJx4a65c_add_9ea2d vJx4a65c_add_9ea2d k2 hA (by decide) rfl rfl (Nat.le_of_ble_eq_true rfl) hdom ⟨.inl (by rw [Kup_ne (by omega)]; exact fun q => by cases q), trivial⟩ trivial (fun X Z => ?_)
  refine ga_pop Z.C eX5_job_49 ?_
  refine ga_al0 Z.C eX5_job_50 ?_
  refine ga_getR Z.C Z.K eX5_job_51 lRX5_19 h10 rfl ?_
  refine ga_callV (ci := 7) (id := 2) (rest := []) [] Z.C Z.K eX5_job_54 nRX5_109 mJx4a65c_size_8abf5 vJx4a65c_size_8abf5 h12 (t_size2 h12 hr2 (ga_st_self _ _ _ _)) (by decide) rfl rfl (Nat.le_of_ble_eq_true rfl) ?_
  refine ga_push Z.C eX5_job_57 ?_
  refine ga_isub Z.C eX5_job_58 ?_
  rw [show (n : Int) + 1 - 1 = (n : Int) by omega]
  exact z_iret Z (fun _ _ h => h) eX5_job_59

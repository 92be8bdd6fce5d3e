/-! ===== the machine: Work's constructor, the JDK's two, Plan's ===== -/
def wkM (M : gaM) (w : Nat) (v1 v2 v3 v4 v5 v6 : Int) : gaM := ga_st (ga_st (ga_st (ga_st (ga_st (ga_st (ga_st (ga_st (ga_st (ga_st M w 0 v1) w 1 v2) w 2 v3) w 3 v4) w 4 v5) w 5 v6) w 6 0) w 7 (-1)) w 8 (-1)) w 9 0
set_option maxRecDepth 20000 in
theorem t_X4_init {K : gaK} {M : gaM} {w : Nat} {v1 v2 v3 v4 v5 v6 : Int} (hk : K w = some (.inr (.inl (4, gr_X4)))) : ga_MetA yX4_init cX4_init 7 none 1 0 0 K M [.inr (some w), .inl v1, .inl v2, .inl v3, .inl v4, .inl v5, .inl v6] none K (wkM M w v1 v2 v3 v4 v5 v6) := by
  refine ga_metA (own := RX4) (by decide) rfl (Nat.le_of_ble_eq_true rfl) (fun X ad CA hK hn T => ?_)
  have C := CA.1
  refine ga_al0 C eX4_init_0 ?_
  refine ga_oinit CA eX4_init_1 noRX4_3 oi_i oi_c (by decide) (by decide) ?_
  refine ga_al0 C eX4_init_4 ?_
  refine ga_il1 C eX4_init_5 ?_
  refine ga_putIF CA hK hn eX4_init_6 lRX4_9 (by intro q hq; cases hq; exact ⟨rfl, rfl, rfl⟩) hk rfl ?_
  refine ga_al0 C eX4_init_9 ?_
  refine ga_il2 C eX4_init_10 ?_
  refine ga_putIF CA hK hn eX4_init_11 lRX4_15 (by intro q hq; cases hq; exact ⟨rfl, rfl, rfl⟩) hk rfl ?_
  refine ga_al0 C eX4_init_14 ?_
  refine ga_il3 C eX4_init_15 ?_
  refine ga_putIF CA hK hn eX4_init_16 lRX4_18 (by intro q hq; cases hq; exact ⟨rfl, rfl, rfl⟩) hk rfl ?_
  refine ga_al0 C eX4_init_19 ?_
  refine ga_il4 C eX4_init_20 ?_
  refine ga_putIF CA hK hn eX4_init_22 lRX4_21 (by intro q hq; cases hq; exact ⟨rfl, rfl, rfl⟩) hk rfl ?_
  refine ga_al0 C eX4_init_25 ?_
  refine ga_il5 C eX4_init_26 ?_
  refine ga_putIF CA hK hn eX4_init_28 lRX4_24 (by intro q hq; cases hq; exact ⟨rfl, rfl, rfl⟩) hk rfl ?_
  refine ga_al0 C eX4_init_31 ?_
  refine ga_il6 C eX4_init_32 ?_
  refine ga_putIF CA hK hn eX4_init_34 lRX4_27 (by intro q hq; cases hq; exact ⟨rfl, rfl, rfl⟩) hk rfl ?_
  refine ga_al0 C eX4_init_37 ?_
  refine ga_push C eX4_init_38 ?_
  refine ga_putI C hK eX4_init_39 lRX4_30 (by intro q hq; cases hq; exact ⟨rfl, rfl⟩) hk rfl rfl ?_
  refine ga_al0 C eX4_init_42 ?_
  refine ga_push C eX4_init_43 ?_
  refine ga_putI C hK eX4_init_44 lRX4_33 (by intro q hq; cases hq; exact ⟨rfl, rfl⟩) hk rfl rfl ?_
  refine ga_al0 C eX4_init_47 ?_
  refine ga_push C eX4_init_48 ?_
  refine ga_putI C hK eX4_init_49 lRX4_36 (by intro q hq; cases hq; exact ⟨rfl, rfl⟩) hk rfl rfl ?_
  refine ga_al0 C eX4_init_52 ?_
  refine ga_push C eX4_init_53 ?_
  refine ga_putI C hK eX4_init_54 lRX4_39 (by intro q hq; cases hq; exact ⟨rfl, rfl⟩) hk rfl rfl ?_
  exact ga_vretA CA T (fun i sk h => by rw [hK]; exact h) eX4_init_57
set_option maxRecDepth 20000 in
theorem t_ac_init {K : gaK} {M : gaM} {w : Nat} : ga_MetA yJxa1e45_init_da8c8 cJxa1e45_init_da8c8 1 none 1 0 0 K M [.inr (some w)] none K M := by
  refine ga_metA (own := RJxa1e45) (by decide) rfl (Nat.le_of_ble_eq_true rfl) (fun X ad CA hK hn T => ?_)
  have C := CA.1
  refine ga_al0 C eJxa1e45_init_da8c8_0 ?_
  refine ga_oinit CA eJxa1e45_init_da8c8_1 noRJxa1e45_1 oi_i oi_c (by decide) (by decide) ?_
  exact ga_vretA CA T (fun i sk h => by rw [hK]; exact h) eJxa1e45_init_da8c8_4
set_option maxRecDepth 20000 in
theorem t_al_init {K : gaK} {M : gaM} {w : Nat} {rf : Nat → Option (Option Nat)} (hk : K w = some (.inr (.inl (7, rf)))) (hr : rf 0 = none) : ga_MetA yJxc12de_init_da8c8 cJxc12de_init_da8c8 1 none 2 0 0 K M [.inr (some w)] none K (ga_st M w 0 0) := by
  refine ga_metA (own := RJxc12de) (by decide) rfl (Nat.le_of_ble_eq_true rfl) (fun X ad CA hK hn T => ?_)
  have C := CA.1
  refine ga_al0 C eJxc12de_init_da8c8_0 ?_
  refine ga_callI (c := 0) (d := 0) (mc := 0) (ms := 0) (id := w) (rest := []) [] CA hK eJxc12de_init_da8c8_1 nRJxc12de_1 mJxa1e45_init_da8c8 rfl iJxa1e45_init_da8c8 t_ac_init (by decide) rfl rfl (by decide) (fun v hv i e => by
    have hv : some v = some (.inr (some w)) := by simpa using hv
    have hv := Option.some.inj hv
    rw [hv] at e
    cases e
    rw [hk]
    exact fun q => by cases q) (fun v hv => by cases hv) (fun ad1 ha CA1 => ?_)
  have C1 := CA1.1
  have hK1 : ga_K (ga_jp X ad1 K 0 0) = K := ga_jp_K
  have T1 : ga_RtA (ga_jp X ad1 K 0 0) none none K (ga_st M w 0 0) K ad 0 0 := T.jp (c := 0) (d := 0) (fun i h => by rw [hK]; exact h) (fun i h => ha i (by rw [hK] at h; exact h))
  refine ga_al0 C1 eJxc12de_init_da8c8_4 ?_
  refine ga_push C1 eJxc12de_init_da8c8_5 ?_
  refine ga_putI C1 hK1 eJxc12de_init_da8c8_6 lRJxc12de_7 (by intro q hq; cases hq; exact ⟨rfl, rfl⟩) hk hr rfl ?_
  exact ga_vretA CA1 T1 (fun i sk h => by rw [hK1]; exact h) eJxc12de_init_da8c8_9

/-! ===== the machine: Work's constructor, the JDK's two, Plan's ===== -/
def wkM (M : gaM) (w : Nat) (v1 v2 v3 v4 v5 v6 : Int) : gaM := ga_st (ga_st (ga_st (ga_st (ga_st (ga_st (ga_st (ga_st (ga_st (ga_st M w 0 v1) w 1 v2) w 2 v3) w 3 v4) w 4 v5) w 5 v6) w 6 0) w 7 (-1)) w 8 (-1)) w 9 0
set_option maxRecDepth 20000 in
theorem t_X4_init {K : gaK} {M : gaM} {w : Nat} {v1 v2 v3 v4 v5 v6 : Int} (hk : K w = some (.inr (.inl (4, gr_X4)))) : ga_MetA yX4_init cX4_init 7 none 1 0 0 K M [.inr (some w), .inl v1, .inl v2, .inl v3, .inl v4, .inl v5, .inl v6] none K (wkM M w v1 v2 v3 v4 v5 v6) := by
  refine ga_metA (own := RX4) (by decide) rfl (Nat.le_of_ble_eq_true rfl) (fun X ad Z => ?_)
  have C := Z.C
  have hK := Z.K
  refine ga_al0 C eX4_init_0 ?_
  refine z_oinit Z eX4_init_1 noRX4_3 oi_i oi_c (by decide) (by decide) ?_
  refine ga_al0 C eX4_init_4 ?_
  refine ga_il1 C eX4_init_5 ?_
  refine z_putIF Z rfl eX4_init_6 lRX4_9 (by intro q hq; cases hq; exact ⟨rfl, rfl, rfl⟩) hk rfl ?_
  refine ga_al0 C eX4_init_9 ?_
  refine ga_il2 C eX4_init_10 ?_
  refine z_putIF Z rfl eX4_init_11 lRX4_15 (by intro q hq; cases hq; exact ⟨rfl, rfl, rfl⟩) hk rfl ?_
  refine ga_al0 C eX4_init_14 ?_
  refine ga_il3 C eX4_init_15 ?_
  refine z_putIF Z rfl eX4_init_16 lRX4_18 (by intro q hq; cases hq; exact ⟨rfl, rfl, rfl⟩) hk rfl ?_
  refine ga_al0 C eX4_init_19 ?_
  refine ga_il4 C eX4_init_20 ?_
  refine z_putIF Z rfl eX4_init_22 lRX4_21 (by intro q hq; cases hq; exact ⟨rfl, rfl, rfl⟩) hk rfl ?_
  refine ga_al0 C eX4_init_25 ?_
  refine ga_il5 C eX4_init_26 ?_
  refine z_putIF Z rfl eX4_init_28 lRX4_24 (by intro q hq; cases hq; exact ⟨rfl, rfl, rfl⟩) hk rfl ?_
  refine ga_al0 C eX4_init_31 ?_
  refine ga_il6 C eX4_init_32 ?_
  refine z_putIF Z rfl eX4_init_34 lRX4_27 (by intro q hq; cases hq; exact ⟨rfl, rfl, rfl⟩) hk rfl ?_
  refine ga_al0 C eX4_init_37 ?_
  refine ga_push C eX4_init_38 ?_
  refine ga_putI C hK eX4_init_39 lRX4_30 (by intro q hq; cases hq; exact ⟨rfl, rfl⟩) hk rfl rfl ?_
  refine ga_al0 C eX4_init_42 ?_
  refine ga_push C eX4_init_43 ?_
  refine ga_putI C hK eX4_init_44 lRX4_33 (by intro q hq; cases hq; exact ⟨rfl, rfl⟩) hk rfl rfl ?_
  refine ga_al0 C eX4_init_47 ?_
  refine ga_push C eX4_init_48 ?_
  refine ga_putI C hK eX4_init_49 lRX4_36 (by intro q hq; cases hq; exact ⟨rfl, rfl⟩) hk rfl rfl ?_
  refine ga_al0 C eX4_init_52 ?_
  refine ga_push C eX4_init_53 ?_
  refine ga_putI C hK eX4_init_54 lRX4_39 (by intro q hq; cases hq; exact ⟨rfl, rfl⟩) hk rfl rfl ?_
  exact z_vret Z (fun _ _ h => h) eX4_init_57
set_option maxRecDepth 20000 in
theorem t_ac_init {K : gaK} {M : gaM} {w : Nat} : ga_MetA yJxa1e45_init_da8c8 cJxa1e45_init_da8c8 1 none 1 0 0 K M [.inr (some w)] none K M := by
  refine ga_metA (own := RJxa1e45) (by decide) rfl (Nat.le_of_ble_eq_true rfl) (fun X ad Z => ?_)
  have C := Z.C
  have hK := Z.K
  refine ga_al0 C eJxa1e45_init_da8c8_0 ?_
  refine z_oinit Z eJxa1e45_init_da8c8_1 noRJxa1e45_1 oi_i oi_c (by decide) (by decide) ?_
  exact z_vret Z (fun _ _ h => h) eJxa1e45_init_da8c8_4
theorem okl_1 {K : gaK} {w : Nat} (h : K w ≠ none) : okl K [some (.inr (some w))] := ⟨.inl h, trivial⟩
set_option maxRecDepth 20000 in
theorem t_al_init {K : gaK} {M : gaM} {w : Nat} {rf : Nat → Option (Option Nat)} (hk : K w = some (.inr (.inl (7, rf)))) (hr : rf 0 = none) : ga_MetA yJxc12de_init_da8c8 cJxc12de_init_da8c8 1 none 2 0 0 K M [.inr (some w)] none K (ga_st M w 0 0) := by
  refine ga_metA (own := RJxc12de) (by decide) rfl (Nat.le_of_ble_eq_true rfl) (fun X ad Z => ?_)
  refine ga_al0 Z.C eJxc12de_init_da8c8_0 ?_
  refine z_callI (c := 0) (d := 0) (mc := 0) (ms := 0) (id := w) (rest := []) [] Z eJxc12de_init_da8c8_1 nRJxc12de_1 mJxa1e45_init_da8c8 rfl iJxa1e45_init_da8c8 t_ac_init (by decide) rfl rfl (by decide) (fun _ h => h) (okl_1 (by rw [hk]; exact fun q => by cases q)) trivial (fun X Z => ?_)
  refine ga_al0 Z.C eJxc12de_init_da8c8_4 ?_
  refine ga_push Z.C eJxc12de_init_da8c8_5 ?_
  refine ga_putI Z.C Z.K eJxc12de_init_da8c8_6 lRJxc12de_7 (by intro q hq; cases hq; exact ⟨rfl, rfl⟩) hk hr rfl ?_
  exact z_vret Z (fun _ _ h => h) eJxc12de_init_da8c8_9
set_option maxRecDepth 20000 in
theorem t_AL_init {K : gaK} {M : gaM} {w : Nat} {rf : Nat → Option (Option Nat)} (hk : K w = some (.inr (.inl (7, rf)))) (hr : rf 0 = none) : ga_MetA yJx4a65c_init_da8c8 cJx4a65c_init_da8c8 1 none 3 0 0 K M [.inr (some w)] none (Kup K w (.inr (.inl (7, rfu rf 1 (some 99))))) (ga_st M w 0 0) := by
  refine ga_metA (own := RJx4a65c) (by decide) rfl (Nat.le_of_ble_eq_true rfl) (fun X ad Z => ?_)
  refine ga_al0 Z.C eJx4a65c_init_da8c8_0 ?_
  refine z_callI (c := 0) (d := 0) (mc := 0) (ms := 0) (id := w) (rest := []) [] Z eJx4a65c_init_da8c8_1 nRJx4a65c_1 mJxc12de_init_da8c8 rfl iJxc12de_init_da8c8 (t_al_init hk hr) (by decide) rfl rfl (by decide) (fun _ h => h) (okl_1 (by rw [hk]; exact fun q => by cases q)) trivial (fun X Z => ?_)
  refine ga_al0 Z.C eJx4a65c_init_da8c8_4 ?_
  refine z_gets Z eJx4a65c_init_da8c8_5 lsRJx4a65c_39 ?_
  refine z_putRN (ty := .array (.object "java/lang/Object")) Z eJx4a65c_init_da8c8_8 lRJx4a65c_9 (by intro q hq; cases hq; exact ⟨rfl, rfl⟩) nar_a fit_a hk (fun X Z => ?_)
  exact z_vret Z (fun _ _ h => h) eJx4a65c_init_da8c8_11
def gn_X0 (k : Nat) : Option (Option Nat) := match k with
  | 0 => some none
  | 1 => some none
  | 2 => some none
  | _ => none
theorem gn_X0_m {id : Nat} : ¬ mnt (.inr (.inl (0, gn_X0))) id := by
  intro ⟨k, hk⟩
  unfold gn_X0 at hk
  split at hk <;> cases hk
def Kpl (K : gaK) (o : Nat) : gaK := Kup (Kup (Kup (Kup (Kup (Kup K (10 * o) (.inl 40)) o (.inr (.inl (0, rfu gn_X0 0 (some (10 * o)))))) (10 * o + 1) (.inl 40)) o (.inr (.inl (0, rfu (rfu gn_X0 0 (some (10 * o))) 1 (some (10 * o + 1)))))) (10 * o + 2) (.inl 40)) o (.inr (.inl (0, rfu (rfu (rfu gn_X0 0 (some (10 * o))) 1 (some (10 * o + 1))) 2 (some (10 * o + 2)))))
def plM (M : gaM) (o : Nat) : gaM := ga_st (ga_st (setr (setr (setr M (10 * o + 1) (fun _ => 0)) (10 * o + 2) (fun _ => 0)) (10 * o) (fun x => if x < 40 then -1 else 0)) o 3 0) o 4 (-1)
theorem rfu3 {o : Nat} : rfu (rfu (rfu gn_X0 0 (some (10 * o))) 1 (some (10 * o + 1))) 2 (some (10 * o + 2)) = gr_X0 o := by
  funext k
  unfold rfu gn_X0 gr_X0
  match k with
  | 0 => rfl
  | 1 => rfl
  | 2 => rfl
  | k + 3 => rfl
theorem setr_comm {M : gaM} {i j : Nat} {f g : Nat → Int} (h : i ≠ j) : setr (setr M i f) j g = setr (setr M j g) i f := by
  funext a
  unfold setr
  by_cases e : a = j
  · rw [if_pos e, if_neg (by omega), if_pos e]
  · rw [if_neg e]
    by_cases e2 : a = i
    · rw [if_pos e2, if_pos e2]
    · rw [if_neg e2, if_neg e2, if_neg e]
theorem frv2 {o id : Nat} {x : Option gaV} (h : o ≠ id) (hx : x = none) : frv id [some (.inr (some o)), x] [.inr (some o)] := by
  subst hx
  refine ⟨fun v hv => ?_, fun v hv => ?_⟩
  · have : v = .inr (some o) := by simpa using hv
    rw [this]
    intro q
    cases q
    exact h rfl
  · have : v = .inr (some o) := by simpa using hv
    rw [this]
    intro q
    cases q
    exact h rfl
theorem Kpl_fr {K : gaK} {o x : Nat} (hk : K o = some (.inr (.inl (0, gn_X0)))) (h : frh K x) (h1 : x ≠ o) (h2 : ¬ (10 * o ≤ x ∧ x ≤ 10 * o + 2)) : frh (Kpl K o) x := fr_fi Kup_self (fr_fi Kup_self (fr_fi hk h (by omega) (by omega)) (by omega) (by omega)) (by omega) (by omega)
theorem Kpl_dom {K : gaK} {o : Nat} : ∀ i, K i ≠ none → Kpl K o i ≠ none := fun i h => Kup_dom _ (Kup_dom _ (Kup_dom _ (Kup_dom _ (Kup_dom _ (Kup_dom _ h)))))
set_option maxRecDepth 20000 in
theorem t_X0_init {K : gaK} {M : gaM} {o : Nat} (ho : o = 4 ∨ o = 5) (hk : K o = some (.inr (.inl (0, gn_X0)))) (f0 : ∀ x, 10 * o ≤ x → x ≤ 10 * o + 2 → frh K x) : ga_MetA yX0_init cX0_init 2 none 1 3 120 K M [.inr (some o)] none (Kpl K o) (plM M o) := by
  refine ga_metA (own := RX0) (by decide) rfl (Nat.le_of_ble_eq_true rfl) (fun X ad Z => ?_)
  refine ga_al0 Z.C eX0_init_0 ?_
  refine z_oinit Z eX0_init_1 noRX0_3 oi_i oi_c (by decide) (by decide) ?_
  refine ga_al0 Z.C eX0_init_4 ?_
  refine ga_push Z.C eX0_init_5 ?_
  refine z_fi (10 * o) (c := 2) (d := 80) (o := o) (N := 40) Z rfl eX0_init_7 eX0_init_9 lRX0_9 (by intro q hq; cases hq; exact ⟨rfl, rfl, rfl⟩) rfl (by decide) ar_int hk (by omega) (f0 _ (by omega) (by omega)) (frv2 (by omega) rfl) (fun X K1 eK1 hk1 hf Z => ?_)
  have f1 : ∀ x, 10 * o + 1 ≤ x → x ≤ 10 * o + 2 → frh K1 x := fun x h1 h2 => hf x (f0 x (by omega) h2) (by omega) (by omega)
  clear hf
  refine ga_al0 Z.C eX0_init_12 ?_
  refine ga_push Z.C eX0_init_13 ?_
  refine z_fi (10 * o + 1) (c := 1) (d := 40) (o := o) (N := 40) Z rfl eX0_init_15 eX0_init_17 lRX0_15 (by intro q hq; cases hq; exact ⟨rfl, rfl, rfl⟩) rfl (by decide) ar_int hk1 (by omega) (f1 _ (by omega) (by omega)) (frv2 (by omega) rfl) (fun X K2 eK2 hk2 hf Z => ?_)
  have f2 : ∀ x, 10 * o + 2 ≤ x → x ≤ 10 * o + 2 → frh K2 x := fun x h1 h2 => hf x (f1 x (by omega) h2) (by omega) (by omega)
  clear hf
  refine ga_al0 Z.C eX0_init_20 ?_
  refine ga_push Z.C eX0_init_21 ?_
  refine z_fi (10 * o + 2) (c := 0) (d := 0) (o := o) (N := 40) Z rfl eX0_init_23 eX0_init_25 lRX0_18 (by intro q hq; cases hq; exact ⟨rfl, rfl, rfl⟩) rfl (by decide) ar_int hk2 (by omega) (f2 _ (by omega) (by omega)) (frv2 (by omega) rfl) (fun X K3 eK3 hk3 hf Z => ?_)
  clear hf f2 f1
  have h30 : K3 (10 * o) = some (.inl 40) := by rw [eK3, Kup_ne (by omega), Kup_ne (by omega), eK2, Kup_ne (by omega), Kup_ne (by omega), eK1, Kup_ne (by omega), Kup_self]
  have hK3 : K3 = Kpl K o := by rw [eK3, eK2, eK1]; rfl
  have C := Z.C
  have hK := Z.K
  rw [hK3] at Z
  obtain ⟨M3, hM3⟩ : ∃ M3, M3 = setr (setr M (10 * o + 1) (fun _ => 0)) (10 * o + 2) (fun _ => 0) := ⟨_, rfl⟩
  have eM : setr (setr (setr M (10 * o) (fun _ => 0)) (10 * o + 1) (fun _ => 0)) (10 * o + 2) (fun _ => 0) = setr M3 (10 * o) (fun x => if x < 0 then -1 else 0) := by
    rw [hM3, setr_comm (i := 10 * o) (j := 10 * o + 1) (by omega), setr_comm (i := 10 * o) (j := 10 * o + 2) (by omega)]
    congr 1
  have L : ∀ (k i : Nat), i + k = 40 → ga_W X (setr M3 (10 * o) (fun x => if x < i then -1 else 0)) 30 [some (.inr (some o)), some (.inl (i : Int))] [] := by
    intro k
    induction k with
    | zero =>
      intro i hi
      have e : i = 40 := by omega
      subst e
      refine ga_il1 C eX0_init_30 ?_
      refine ga_push C eX0_init_31 ?_
      refine ga_icmp_ge C eX0_init_33 (by decide) (by decide) (fun hc => absurd hc (by decide)) (fun hc => ?_)
      refine ga_al0 C eX0_init_49 ?_
      refine ga_push C eX0_init_50 ?_
      refine ga_putI C hK eX0_init_51 lRX0_21 (by intro q hq; cases hq; exact ⟨rfl, rfl⟩) hk3 rfl rfl ?_
      refine ga_al0 C eX0_init_54 ?_
      refine ga_push C eX0_init_55 ?_
      refine ga_putI C hK eX0_init_56 lRX0_25 (by intro q hq; cases hq; exact ⟨rfl, rfl⟩) hk3 rfl rfl ?_
      have Z : ga_Z (ga_T none none (Kpl K o) (ga_st (ga_st (setr M3 (10 * o) (fun x => if x < 40 then -1 else 0)) o 3 0) o 4 (-1)) K ad) X cX0_init RX0 1 "<init>" 0 0 (Kpl K o) := by
        rw [hM3]
        exact Z
      exact z_vret Z (fun _ _ h => h) eX0_init_59
    | succ k ih =>
      intro i hi
      refine ga_il1 C eX0_init_30 ?_
      refine ga_push C eX0_init_31 ?_
      refine ga_icmp_ge C eX0_init_33 ⟨by omega, by omega⟩ (by decide) (fun hc => ?_) (fun hc => absurd (show (i : Int) < 40 by omega) hc)
      refine ga_al0 C eX0_init_36 ?_
      refine ga_getR C hK eX0_init_37 lRX0_9 hk3 rfl ?_
      refine ga_il1 C eX0_init_40 ?_
      refine ga_push C eX0_init_41 ?_
      refine ga_iast C hK eX0_init_42 h30 (by decide) ⟨by omega, by omega⟩ (M1 := setr M3 (10 * o) (fun x => if x < i + 1 then -1 else 0)) ?_ ?_
      · rw [Int.toNat_natCast, st_setr, setr_self, setr_setr]
        congr 1
        funext x
        unfold upr
        by_cases e : x = i
        · rw [if_pos e, if_pos (by omega)]
        · rw [if_neg e]
          show (if x < i + 1 then (-1 : Int) else 0) = (if x < i then -1 else 0)
          by_cases e2 : x < i
          · rw [if_pos e2, if_pos (by omega)]
          · rw [if_neg e2, if_neg (by omega)]
      refine ga_ii1 C eX0_init_43 ?_
      refine ga_goto C eX0_init_46 ?_
      exact ih (i + 1) (by omega)
  refine ga_push C eX0_init_28 ?_
  refine ga_is1 C eX0_init_29 ?_
  rw [eM]
  exact L 40 0 (by omega)

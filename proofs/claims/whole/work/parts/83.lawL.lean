/-! ===== the law: its loop, its beginning ===== -/
set_option maxRecDepth 20000 in
theorem l_loop {b L : Nat} {xs : Nat → Int32} {nm : String} (hL : L ≤ 3584) : ∀ (r : Nat) (X : gaX) (n e cp c d : Nat) (i : Int) (M : gaM), ga_Z (lT b L xs) X cL_law RL 1000 nm c d (gk n e cp) → gj n e cp → Inv n M → 0 ≤ i → i ≤ 100000 → (L : Int) ≤ i + 7 * (r : Int) → 2 * r ≤ c → 100 * r ≤ d → ga_W X M 18 (lvL i) [] := by
  intro r
  induction r with
  | zero =>
    intro X n e cp c d i M Z hj hI h0 h1 h2 h3 h4
    refine ga_il3 Z.C eL_law_18 ?_
    refine ga_al0 Z.C eL_law_19 ?_
    refine z_slen Z eL_law_20 ?_
    refine ga_push Z.C eL_law_21 ?_
    refine ga_isub Z.C eL_law_23 ?_
    refine ga_icmp_gt Z.C eL_law_24 ⟨by omega, by omega⟩ ⟨by omega, by omega⟩ (fun hc => absurd hc (by omega)) (fun hc => ?_)
    refine ga_push Z.C eL_law_784 ?_
    exact z_lret Z eL_law_785
  | succ r ih =>
    intro X n e cp c d i M Z hj hI h0 h1 h2 h3 h4
    refine ga_il3 Z.C eL_law_18 ?_
    refine ga_al0 Z.C eL_law_19 ?_
    refine z_slen Z eL_law_20 ?_
    refine ga_push Z.C eL_law_21 ?_
    refine ga_isub Z.C eL_law_23 ?_
    refine ga_icmp_gt Z.C eL_law_24 ⟨by omega, by omega⟩ ⟨by omega, by omega⟩ (fun hc => ?_) (fun hc => ?_)
    · refine ga_al0 Z.C eL_law_27 ?_
      refine ga_il3 Z.C eL_law_28 ?_
      refine z_sld Z eL_law_29 ⟨by omega, by omega⟩ hL ?_
      refine ga_push Z.C eL_law_30 ?_
      refine ga_iand31 Z.C eL_law_32 (fun v hv0 hv1 => ?_)
      refine lc_all Z hj hI ⟨by omega, by omega⟩ hL (by omega) (by omega) hv0 hv1 ?_
      intro X' n' e' cp' c' d' Mm Z' hj' hI' hc' hd'
      refine ga_ii3 Z'.C eL_law_778 ?_
      refine ga_goto Z'.C eL_law_781 ?_
      exact ih X' n' e' cp' c' d' (i + 7) Mm Z' hj' hI' (by omega) (by omega) (by omega) (by omega) (by omega)
    · refine ga_push Z.C eL_law_784 ?_
      exact z_lret Z eL_law_785
theorem fr00 {x : Nat} (h : ¬ pin x) : frh K00 x := ⟨rfl, fun i sk hi => (by cases hi), h⟩
theorem k01 : K01 0 = some (.inr (.inl (5, gn_X5))) := Kup_self
theorem k020 : K02 0 ≠ none := fun q => by cases q
set_option maxRecDepth 20000 in
theorem l_body {b L : Nat} {xs : Nat → Int32} {nm : String} {X : gaX} (hL : L ≤ 3584) (Z : ga_Z (lT b L xs) X cL_law RL 1000 nm 600000 7302250 K00) : ga_W X M00 0 [some (.inr (some 98)), none, none, none] [] := by
  have f1 : ∀ x, 1 ≤ x → x ≤ 83 → frh K01 x := fun x h1 h2 => (fr00 (by omega)).up (by omega) gm_X5
  have f2 : ∀ x, 100 ≤ x → x ≤ 133 → frh K02 x := fun x h1 h2 => Kcl_fr k01 ((fr00 (by omega)).up (by omega) gm_X5) (by omega)
  refine z_new (id := 0) (ci := 5) (N := 11) (c := 599999) (d := 7302239) (rf := gn_X5) Z eL_law_0 rfl rfl cnRL_7 ciRX5 niRX5 (fr00 (by decide)) (okl_fr (K := K00) ⟨.inr (by decide), trivial⟩ trivial (fr00 (by decide))) (dfl_F df_X5) (fun X Z => ?_)
  refine ga_dup Z.C eL_law_3 ?_
  refine z_callI (id := 0) (c := 599951) (d := 7297853) (mc := 48) (ms := 4386) (rest := [.inr (some 0)]) (K1 := K02) (M1 := M02) [] Z eL_law_4 nRL_9 mX5_init rfl iX5_init (t_X5_init (K := K01) (M := M01) k01 f1) (by decide) rfl rfl (Nat.le_of_ble_eq_true rfl) Kcl_dom ⟨.inr (by decide), trivial⟩ ⟨.inl (nn k01), trivial⟩ (fun X Z => ?_)
  refine ga_as1 Z.C eL_law_7 ?_
  refine z_new (id := 100) (ci := 6) (N := 35) (c := 599950) (d := 7297818) (rf := gn_X6) Z eL_law_8 rfl rfl cnRL_10 ciRX6 niRX6 (f2 100 (by decide) (by decide)) (okl_fr (K := K02) ⟨.inr (by decide), .inl k020, trivial⟩ trivial (f2 100 (by decide) (by decide))) (dfl_F df_X6) (fun X Z => ?_)
  refine ga_dup Z.C eL_law_11 ?_
  refine z_callI (id := 100) (c := 599924) (d := 7291102) (mc := 26) (ms := 6716) (rest := [.inr (some 100)]) (K1 := K04) (M1 := M04) [] Z eL_law_12 nRL_12 mX6_init rfl iX6_init (t_X6_init (K := K03) (M := M03) Kup_self (fun x h1 h2 => (f2 x (by omega) (by omega)).up (by omega) gm_X6)) (by decide) rfl rfl (Nat.le_of_ble_eq_true rfl) Kmd_dom ⟨.inr (by decide), .inl (Kup_dom _ k020), trivial⟩ ⟨.inl (nn Kup_self), trivial⟩ (fun X Z => ?_)
  refine ga_as2 Z.C eL_law_15 ?_
  refine ga_push Z.C eL_law_16 ?_
  refine ga_is3 Z.C eL_law_17 ?_
  refine z_sub Z gk0_in (fun X Z => ?_)
  exact l_loop hL 512 X 0 99 0 599924 7291102 0 M04 Z ⟨⟨by decide, by decide, by decide, by decide⟩, .inl ⟨rfl, rfl, rfl⟩⟩ inv0 (by decide) (by decide) (by omega) (by decide) (by decide)

/-! ===== the machine: the constructors of Sites, Prices, Trio (printed by wip/whole/ctorp.py) ===== -/
def gn_X2 (k : Nat) : Option (Option Nat) := match k with
  | 1 => some none
  | 2 => some none
  | 3 => some none
  | _ => none
def Ksi (K : gaK) : gaK := (Kup (Kmn (Kup (Kmn (Kup (Kmn K 10 4 4) 1 (.inr (.inl (2, (rfu gn_X2 1 (some 10)))))) 20 4 300) 1 (.inr (.inl (2, (rfu (rfu gn_X2 1 (some 10)) 2 (some 20)))))) 30 4 300) 1 (.inr (.inl (2, (rfu (rfu (rfu gn_X2 1 (some 10)) 2 (some 20)) 3 (some 30))))))
def siM (M : gaM) : gaM := (Mmn (Mmn (Mmn (ga_st M 1 0 0) 10 4) 20 4) 30 4)
theorem Ksi_fr {K : gaK} {x : Nat} (hk : K 1 = some (.inr (.inl (2, gn_X2)))) (h : frh K x) (h1 : x ≠ 1) (h2 : ¬ (10 ≤ x ∧ x ≤ 34)) : frh (Ksi K) x := (fr_fm Kup_self (fr_fm Kup_self (fr_fm hk h (by omega) (by omega)) (by omega) (by omega)) (by omega) (by omega))
theorem Ksi_dom {K : gaK} : ∀ i, K i ≠ none → Ksi K i ≠ none := fun i h => (Kup_dom _ (Kmn_dom _ (Kup_dom _ (Kmn_dom _ (Kup_dom _ (Kmn_dom _ h))))))
set_option maxRecDepth 20000 in
theorem t_X2_init {K : gaK} {M : gaM} (hk : K 1 = some (.inr (.inl (2, gn_X2)))) (f0 : ∀ x, 10 ≤ x → x ≤ 34 → frh K x) : ga_MetA yX2_init cX2_init 1 none 1 15 2428 K M [.inr (some 1)] none (Ksi K) (siM M) := by
  refine ga_metA (own := RX2) (by decide) rfl (Nat.le_of_ble_eq_true rfl) (fun X ad Z => ?_)
  have fr0 : ∀ x, 10 ≤ x → x ≤ 34 → frh K x := f0
  have hk0 := hk
  refine ga_al0 Z.C eX2_init_0 ?_
  refine z_oinit Z eX2_init_1 noRX2_3 oi_i oi_c (by decide) (by decide) ?_
  refine ga_al0 Z.C eX2_init_4 ?_
  refine ga_push Z.C eX2_init_5 ?_
  refine ga_putI Z.C Z.K eX2_init_6 lRX2_9 (by intro q hq; cases hq; exact ⟨rfl, rfl⟩) hk0 rfl rfl ?_
  refine ga_al0 Z.C eX2_init_9 ?_
  refine ga_push Z.C eX2_init_10 ?_
  refine ga_push Z.C eX2_init_11 ?_
  refine z_fm 10 (c := 10) (d := 2408) (o := 1) (N := 4) (m := 4) Z rfl eX2_init_12 eX2_init_16 lRX2_17 (by intro q hq; cases hq; exact ⟨rfl, rfl, rfl⟩) rfl rfl (by decide) (by decide) cmRX2_15 ar_int hk0 (by decide) (fun x h1 h2 => fr0 x (by omega) (by omega)) (frv_of (lo := 10) (hi := 14) rfl) (fun X K1 eK1 hk1 hf Z => ?_)
  have fr1 : ∀ x, 15 ≤ x → x ≤ 34 → frh K1 x := fun x h1 h2 => hf x (fr0 x (by omega) h2) (by omega) (by omega)
  clear hf
  refine ga_al0 Z.C eX2_init_19 ?_
  refine ga_push Z.C eX2_init_20 ?_
  refine ga_push Z.C eX2_init_21 ?_
  refine z_fm 20 (c := 5) (d := 1204) (o := 1) (N := 4) (m := 300) Z rfl eX2_init_24 eX2_init_28 lRX2_20 (by intro q hq; cases hq; exact ⟨rfl, rfl, rfl⟩) rfl rfl (by decide) (by decide) cmRX2_15 ar_int hk1 (by decide) (fun x h1 h2 => fr1 x (by omega) (by omega)) (frv_of (lo := 20) (hi := 24) rfl) (fun X K2 eK2 hk2 hf Z => ?_)
  have fr2 : ∀ x, 25 ≤ x → x ≤ 34 → frh K2 x := fun x h1 h2 => hf x (fr1 x (by omega) h2) (by omega) (by omega)
  clear hf
  refine ga_al0 Z.C eX2_init_31 ?_
  refine ga_push Z.C eX2_init_32 ?_
  refine ga_push Z.C eX2_init_33 ?_
  refine z_fm 30 (c := 0) (d := 0) (o := 1) (N := 4) (m := 300) Z rfl eX2_init_36 eX2_init_40 lRX2_23 (by intro q hq; cases hq; exact ⟨rfl, rfl, rfl⟩) rfl rfl (by decide) (by decide) cmRX2_15 ar_int hk2 (by decide) (fun x h1 h2 => fr2 x (by omega) (by omega)) (frv_of (lo := 30) (hi := 34) rfl) (fun X K3 eK3 hk3 hf Z => ?_)
  have fr3 : ∀ x, 35 ≤ x → x ≤ 34 → frh K3 x := fun x h1 h2 => hf x (fr2 x (by omega) h2) (by omega) (by omega)
  clear hf
  subst eK3
  subst eK2
  subst eK1
  exact z_vret Z (fun _ _ h => h) eX2_init_43
def gn_X1 (k : Nat) : Option (Option Nat) := match k with
  | 0 => some none
  | _ => none
def Kpr (K : gaK) : gaK := (Kup (Kmn K 60 4 300) 6 (.inr (.inl (1, (rfu gn_X1 0 (some 60))))))
def prM (M : gaM) : gaM := (ga_st (ga_st (ga_st (ga_st (ga_st (ga_st (Mmn M 60 4) 6 1 0) 6 2 0) 6 3 (-1)) 6 4 (-1)) 6 5 (-1)) 6 6 (-1))
theorem Kpr_fr {K : gaK} {x : Nat} (hk : K 6 = some (.inr (.inl (1, gn_X1)))) (h : frh K x) (h1 : x ≠ 6) (h2 : ¬ (60 ≤ x ∧ x ≤ 64)) : frh (Kpr K) x := (fr_fm hk h (by omega) (by omega))
theorem Kpr_dom {K : gaK} : ∀ i, K i ≠ none → Kpr K i ≠ none := fun i h => (Kup_dom _ (Kmn_dom _ h))
set_option maxRecDepth 20000 in
theorem t_X1_init {K : gaK} {M : gaM} (hk : K 6 = some (.inr (.inl (1, gn_X1)))) (f0 : ∀ x, 60 ≤ x → x ≤ 64 → frh K x) : ga_MetA yX1_init cX1_init 1 none 1 5 1204 K M [.inr (some 6)] none (Kpr K) (prM M) := by
  refine ga_metA (own := RX1) (by decide) rfl (Nat.le_of_ble_eq_true rfl) (fun X ad Z => ?_)
  have fr0 : ∀ x, 60 ≤ x → x ≤ 64 → frh K x := f0
  have hk0 := hk
  refine ga_al0 Z.C eX1_init_0 ?_
  refine z_oinit Z eX1_init_1 noRX1_3 oi_i oi_c (by decide) (by decide) ?_
  refine ga_al0 Z.C eX1_init_4 ?_
  refine ga_push Z.C eX1_init_5 ?_
  refine ga_push Z.C eX1_init_6 ?_
  refine z_fm 60 (c := 0) (d := 0) (o := 6) (N := 4) (m := 300) Z rfl eX1_init_9 eX1_init_13 lRX1_11 (by intro q hq; cases hq; exact ⟨rfl, rfl, rfl⟩) rfl rfl (by decide) (by decide) cmRX1_9 ar_int hk0 (by decide) (fun x h1 h2 => fr0 x (by omega) (by omega)) (frv_of (lo := 60) (hi := 64) rfl) (fun X K1 eK1 hk1 hf Z => ?_)
  have fr1 : ∀ x, 65 ≤ x → x ≤ 64 → frh K1 x := fun x h1 h2 => hf x (fr0 x (by omega) h2) (by omega) (by omega)
  clear hf
  refine ga_al0 Z.C eX1_init_16 ?_
  refine ga_push Z.C eX1_init_17 ?_
  refine ga_putI Z.C Z.K eX1_init_18 lRX1_16 (by intro q hq; cases hq; exact ⟨rfl, rfl⟩) hk1 rfl rfl ?_
  refine ga_al0 Z.C eX1_init_21 ?_
  refine ga_push Z.C eX1_init_22 ?_
  refine ga_putI Z.C Z.K eX1_init_23 lRX1_20 (by intro q hq; cases hq; exact ⟨rfl, rfl⟩) hk1 rfl rfl ?_
  refine ga_al0 Z.C eX1_init_26 ?_
  refine ga_push Z.C eX1_init_27 ?_
  refine ga_putI Z.C Z.K eX1_init_28 lRX1_23 (by intro q hq; cases hq; exact ⟨rfl, rfl⟩) hk1 rfl rfl ?_
  refine ga_al0 Z.C eX1_init_31 ?_
  refine ga_push Z.C eX1_init_32 ?_
  refine ga_putI Z.C Z.K eX1_init_33 lRX1_26 (by intro q hq; cases hq; exact ⟨rfl, rfl⟩) hk1 rfl rfl ?_
  refine ga_al0 Z.C eX1_init_36 ?_
  refine ga_push Z.C eX1_init_37 ?_
  refine ga_putI Z.C Z.K eX1_init_38 lRX1_29 (by intro q hq; cases hq; exact ⟨rfl, rfl⟩) hk1 rfl rfl ?_
  refine ga_al0 Z.C eX1_init_41 ?_
  refine ga_push Z.C eX1_init_42 ?_
  refine ga_putI Z.C Z.K eX1_init_43 lRX1_32 (by intro q hq; cases hq; exact ⟨rfl, rfl⟩) hk1 rfl rfl ?_
  subst eK1
  exact z_vret Z (fun _ _ h => h) eX1_init_46
def gn_X3 (k : Nat) : Option (Option Nat) := match k with
  | 0 => some none
  | 1 => some none
  | 2 => some none
  | 3 => some none
  | 4 => some none
  | _ => none
def Ktr (K : gaK) : gaK := (Kup (Kup (Kup (Kup (Kup (Kmn (Kup (Kmn (Kup (Kmn K 70 3 47) 7 (.inr (.inl (3, (rfu gn_X3 0 (some 70)))))) 74 3 47) 7 (.inr (.inl (3, (rfu (rfu gn_X3 0 (some 70)) 1 (some 74)))))) 78 3 47) 7 (.inr (.inl (3, (rfu (rfu (rfu gn_X3 0 (some 70)) 1 (some 74)) 2 (some 78)))))) 82 (.inl 3)) 7 (.inr (.inl (3, (rfu (rfu (rfu (rfu gn_X3 0 (some 70)) 1 (some 74)) 2 (some 78)) 3 (some 82)))))) 83 (.inl 3)) 7 (.inr (.inl (3, (rfu (rfu (rfu (rfu (rfu gn_X3 0 (some 70)) 1 (some 74)) 2 (some 78)) 3 (some 82)) 4 (some 83))))))
def trM (M : gaM) : gaM := (ga_st (setr (setr (Mmn (Mmn (Mmn M 70 3) 74 3) 78 3) 82 (fun _ => 0)) 83 (fun _ => 0)) 7 5 0)
theorem Ktr_fr {K : gaK} {x : Nat} (hk : K 7 = some (.inr (.inl (3, gn_X3)))) (h : frh K x) (h1 : x ≠ 7) (h2 : ¬ (70 ≤ x ∧ x ≤ 83)) : frh (Ktr K) x := (fr_fi Kup_self (fr_fi Kup_self (fr_fm Kup_self (fr_fm Kup_self (fr_fm hk h (by omega) (by omega)) (by omega) (by omega)) (by omega) (by omega)) (by omega) (by omega)) (by omega) (by omega))
theorem Ktr_dom {K : gaK} : ∀ i, K i ≠ none → Ktr K i ≠ none := fun i h => (Kup_dom _ (Kup_dom _ (Kup_dom _ (Kup_dom _ (Kup_dom _ (Kmn_dom _ (Kup_dom _ (Kmn_dom _ (Kup_dom _ (Kmn_dom _ h))))))))))
set_option maxRecDepth 20000 in
theorem t_X3_init {K : gaK} {M : gaM} (hk : K 7 = some (.inr (.inl (3, gn_X3)))) (f0 : ∀ x, 70 ≤ x → x ≤ 83 → frh K x) : ga_MetA yX3_init cX3_init 1 none 1 14 438 K M [.inr (some 7)] none (Ktr K) (trM M) := by
  refine ga_metA (own := RX3) (by decide) rfl (Nat.le_of_ble_eq_true rfl) (fun X ad Z => ?_)
  have fr0 : ∀ x, 70 ≤ x → x ≤ 83 → frh K x := f0
  have hk0 := hk
  refine ga_al0 Z.C eX3_init_0 ?_
  refine z_oinit Z eX3_init_1 noRX3_3 oi_i oi_c (by decide) (by decide) ?_
  refine ga_al0 Z.C eX3_init_4 ?_
  refine ga_push Z.C eX3_init_5 ?_
  refine ga_push Z.C eX3_init_6 ?_
  refine z_fm 70 (c := 10) (d := 294) (o := 7) (N := 3) (m := 47) Z rfl eX3_init_8 eX3_init_12 lRX3_13 (by intro q hq; cases hq; exact ⟨rfl, rfl, rfl⟩) rfl rfl (by decide) (by decide) cmRX3_11 ar_int hk0 (by decide) (fun x h1 h2 => fr0 x (by omega) (by omega)) (frv_of (lo := 70) (hi := 73) rfl) (fun X K1 eK1 hk1 hf Z => ?_)
  have fr1 : ∀ x, 74 ≤ x → x ≤ 83 → frh K1 x := fun x h1 h2 => hf x (fr0 x (by omega) h2) (by omega) (by omega)
  clear hf
  refine ga_al0 Z.C eX3_init_15 ?_
  refine ga_push Z.C eX3_init_16 ?_
  refine ga_push Z.C eX3_init_17 ?_
  refine z_fm 74 (c := 6) (d := 150) (o := 7) (N := 3) (m := 47) Z rfl eX3_init_19 eX3_init_23 lRX3_16 (by intro q hq; cases hq; exact ⟨rfl, rfl, rfl⟩) rfl rfl (by decide) (by decide) cmRX3_11 ar_int hk1 (by decide) (fun x h1 h2 => fr1 x (by omega) (by omega)) (frv_of (lo := 74) (hi := 77) rfl) (fun X K2 eK2 hk2 hf Z => ?_)
  have fr2 : ∀ x, 78 ≤ x → x ≤ 83 → frh K2 x := fun x h1 h2 => hf x (fr1 x (by omega) h2) (by omega) (by omega)
  clear hf
  refine ga_al0 Z.C eX3_init_26 ?_
  refine ga_push Z.C eX3_init_27 ?_
  refine ga_push Z.C eX3_init_28 ?_
  refine z_fm 78 (c := 2) (d := 6) (o := 7) (N := 3) (m := 47) Z rfl eX3_init_30 eX3_init_34 lRX3_19 (by intro q hq; cases hq; exact ⟨rfl, rfl, rfl⟩) rfl rfl (by decide) (by decide) cmRX3_11 ar_int hk2 (by decide) (fun x h1 h2 => fr2 x (by omega) (by omega)) (frv_of (lo := 78) (hi := 81) rfl) (fun X K3 eK3 hk3 hf Z => ?_)
  have fr3 : ∀ x, 82 ≤ x → x ≤ 83 → frh K3 x := fun x h1 h2 => hf x (fr2 x (by omega) h2) (by omega) (by omega)
  clear hf
  refine ga_al0 Z.C eX3_init_37 ?_
  refine ga_push Z.C eX3_init_38 ?_
  refine z_fi 82 (c := 1) (d := 3) (o := 7) (N := 3) Z rfl eX3_init_39 eX3_init_41 lRX3_22 (by intro q hq; cases hq; exact ⟨rfl, rfl, rfl⟩) rfl (by decide) ar_int hk3 (by decide) (fr3 82 (by decide) (by decide)) (frv_of (lo := 82) (hi := 82) rfl 82 (Nat.le_refl _) (Nat.le_refl _)) (fun X K4 eK4 hk4 hf Z => ?_)
  have fr4 : ∀ x, 83 ≤ x → x ≤ 83 → frh K4 x := fun x h1 h2 => hf x (fr3 x (by omega) h2) (by omega) (by omega)
  clear hf
  refine ga_al0 Z.C eX3_init_44 ?_
  refine ga_push Z.C eX3_init_45 ?_
  refine z_fi 83 (c := 0) (d := 0) (o := 7) (N := 3) Z rfl eX3_init_46 eX3_init_48 lRX3_26 (by intro q hq; cases hq; exact ⟨rfl, rfl, rfl⟩) rfl (by decide) ar_int hk4 (by decide) (fr4 83 (by decide) (by decide)) (frv_of (lo := 83) (hi := 83) rfl 83 (Nat.le_refl _) (Nat.le_refl _)) (fun X K5 eK5 hk5 hf Z => ?_)
  have fr5 : ∀ x, 84 ≤ x → x ≤ 83 → frh K5 x := fun x h1 h2 => hf x (fr4 x (by omega) h2) (by omega) (by omega)
  clear hf
  refine ga_al0 Z.C eX3_init_51 ?_
  refine ga_push Z.C eX3_init_52 ?_
  refine ga_putI Z.C Z.K eX3_init_53 lRX3_29 (by intro q hq; cases hq; exact ⟨rfl, rfl⟩) hk5 rfl rfl ?_
  subst eK5
  subst eK4
  subst eK3
  subst eK2
  subst eK1
  exact z_vret Z (fun _ _ h => h) eX3_init_56

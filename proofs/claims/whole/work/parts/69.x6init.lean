/-! ===== the machine: the reference's constructor (printed by wip/whole/ctor4.py) ===== -/
def gn_X6 (k : Nat) : Option (Option Nat) := match k with
  | 6 => some none
  | 7 => some none
  | 8 => some none
  | 9 => some none
  | 10 => some none
  | 11 => some none
  | 12 => some none
  | 13 => some none
  | 14 => some none
  | 15 => some none
  | 16 => some none
  | 17 => some none
  | 18 => some none
  | 19 => some none
  | 20 => some none
  | 21 => some none
  | 22 => some none
  | 23 => some none
  | 24 => some none
  | 25 => some none
  | 26 => some none
  | 27 => some none
  | 30 => some none
  | 31 => some none
  | 32 => some none
  | 33 => some none
  | _ => none
theorem df_X6 : ∀ k, k < 35 → dfl 6 gn_X6 k := by
  intro k hk
  match k, hk with
  | 0, _ => exact .inl ⟨rfl, rfl⟩
  | 1, _ => exact .inl ⟨rfl, rfl⟩
  | 2, _ => exact .inl ⟨rfl, rfl⟩
  | 3, _ => exact .inl ⟨rfl, rfl⟩
  | 4, _ => exact .inl ⟨rfl, rfl⟩
  | 5, _ => exact .inl ⟨rfl, rfl⟩
  | 6, _ => exact .inr ⟨rfl, rfl⟩
  | 7, _ => exact .inr ⟨rfl, rfl⟩
  | 8, _ => exact .inr ⟨rfl, rfl⟩
  | 9, _ => exact .inr ⟨rfl, rfl⟩
  | 10, _ => exact .inr ⟨rfl, rfl⟩
  | 11, _ => exact .inr ⟨rfl, rfl⟩
  | 12, _ => exact .inr ⟨rfl, rfl⟩
  | 13, _ => exact .inr ⟨rfl, rfl⟩
  | 14, _ => exact .inr ⟨rfl, rfl⟩
  | 15, _ => exact .inr ⟨rfl, rfl⟩
  | 16, _ => exact .inr ⟨rfl, rfl⟩
  | 17, _ => exact .inr ⟨rfl, rfl⟩
  | 18, _ => exact .inr ⟨rfl, rfl⟩
  | 19, _ => exact .inr ⟨rfl, rfl⟩
  | 20, _ => exact .inr ⟨rfl, rfl⟩
  | 21, _ => exact .inr ⟨rfl, rfl⟩
  | 22, _ => exact .inr ⟨rfl, rfl⟩
  | 23, _ => exact .inr ⟨rfl, rfl⟩
  | 24, _ => exact .inr ⟨rfl, rfl⟩
  | 25, _ => exact .inr ⟨rfl, rfl⟩
  | 26, _ => exact .inr ⟨rfl, rfl⟩
  | 27, _ => exact .inr ⟨rfl, rfl⟩
  | 28, _ => exact .inl ⟨rfl, rfl⟩
  | 29, _ => exact .inl ⟨rfl, rfl⟩
  | 30, _ => exact .inr ⟨rfl, rfl⟩
  | 31, _ => exact .inr ⟨rfl, rfl⟩
  | 32, _ => exact .inr ⟨rfl, rfl⟩
  | 33, _ => exact .inr ⟨rfl, rfl⟩
  | 34, _ => exact .inl ⟨rfl, rfl⟩
  | k + 35, h => omega
theorem gm_X6 {x : Nat} : ¬ mnt (.inr (.inl (6, gn_X6))) x := by
  intro ⟨k, hk⟩
  unfold gn_X6 at hk
  split at hk <;> cases hk
def Kmd (K : gaK) : gaK := (Kup (Kup (Kup (Kup (Kup (Kup (Kup (Kup (Kup (Kup (Kup (Kup (Kup (Kup (Kup (Kup (Kup (Kup (Kup (Kup (Kup (Kup (Kup (Kup (Kup (Kup (Kup (Kup (Kup (Kup (Kup (Kup (Kup (Kup (Kup (Kup (Kup (Kup (Kup (Kup (Kup (Kup (Kup (Kup (Kup (Kup (Kup (Kup (Kup (Kup (Kup (Kup K 106 (.inl 4)) 100 (.inr (.inl (6, (rfu gn_X6 6 (some 106)))))) 107 (.inl 16)) 100 (.inr (.inl (6, (rfu (rfu gn_X6 6 (some 106)) 7 (some 107)))))) 108 (.inl 1200)) 100 (.inr (.inl (6, (rfu (rfu (rfu gn_X6 6 (some 106)) 7 (some 107)) 8 (some 108)))))) 109 (.inl 40)) 100 (.inr (.inl (6, (rfu (rfu (rfu (rfu gn_X6 6 (some 106)) 7 (some 107)) 8 (some 108)) 9 (some 109)))))) 110 (.inl 40)) 100 (.inr (.inl (6, (rfu (rfu (rfu (rfu (rfu gn_X6 6 (some 106)) 7 (some 107)) 8 (some 108)) 9 (some 109)) 10 (some 110)))))) 111 (.inl 40)) 100 (.inr (.inl (6, (rfu (rfu (rfu (rfu (rfu (rfu gn_X6 6 (some 106)) 7 (some 107)) 8 (some 108)) 9 (some 109)) 10 (some 110)) 11 (some 111)))))) 112 (.inl 40)) 100 (.inr (.inl (6, (rfu (rfu (rfu (rfu (rfu (rfu (rfu gn_X6 6 (some 106)) 7 (some 107)) 8 (some 108)) 9 (some 109)) 10 (some 110)) 11 (some 111)) 12 (some 112)))))) 113 (.inl 40)) 100 (.inr (.inl (6, (rfu (rfu (rfu (rfu (rfu (rfu (rfu (rfu gn_X6 6 (some 106)) 7 (some 107)) 8 (some 108)) 9 (some 109)) 10 (some 110)) 11 (some 111)) 12 (some 112)) 13 (some 113)))))) 114 (.inl 40)) 100 (.inr (.inl (6, (rfu (rfu (rfu (rfu (rfu (rfu (rfu (rfu (rfu gn_X6 6 (some 106)) 7 (some 107)) 8 (some 108)) 9 (some 109)) 10 (some 110)) 11 (some 111)) 12 (some 112)) 13 (some 113)) 14 (some 114)))))) 115 (.inl 40)) 100 (.inr (.inl (6, (rfu (rfu (rfu (rfu (rfu (rfu (rfu (rfu (rfu (rfu gn_X6 6 (some 106)) 7 (some 107)) 8 (some 108)) 9 (some 109)) 10 (some 110)) 11 (some 111)) 12 (some 112)) 13 (some 113)) 14 (some 114)) 15 (some 115)))))) 116 (.inl 40)) 100 (.inr (.inl (6, (rfu (rfu (rfu (rfu (rfu (rfu (rfu (rfu (rfu (rfu (rfu gn_X6 6 (some 106)) 7 (some 107)) 8 (some 108)) 9 (some 109)) 10 (some 110)) 11 (some 111)) 12 (some 112)) 13 (some 113)) 14 (some 114)) 15 (some 115)) 16 (some 116)))))) 117 (.inl 40)) 100 (.inr (.inl (6, (rfu (rfu (rfu (rfu (rfu (rfu (rfu (rfu (rfu (rfu (rfu (rfu gn_X6 6 (some 106)) 7 (some 107)) 8 (some 108)) 9 (some 109)) 10 (some 110)) 11 (some 111)) 12 (some 112)) 13 (some 113)) 14 (some 114)) 15 (some 115)) 16 (some 116)) 17 (some 117)))))) 118 (.inl 40)) 100 (.inr (.inl (6, (rfu (rfu (rfu (rfu (rfu (rfu (rfu (rfu (rfu (rfu (rfu (rfu (rfu gn_X6 6 (some 106)) 7 (some 107)) 8 (some 108)) 9 (some 109)) 10 (some 110)) 11 (some 111)) 12 (some 112)) 13 (some 113)) 14 (some 114)) 15 (some 115)) 16 (some 116)) 17 (some 117)) 18 (some 118)))))) 119 (.inl 1200)) 100 (.inr (.inl (6, (rfu (rfu (rfu (rfu (rfu (rfu (rfu (rfu (rfu (rfu (rfu (rfu (rfu (rfu gn_X6 6 (some 106)) 7 (some 107)) 8 (some 108)) 9 (some 109)) 10 (some 110)) 11 (some 111)) 12 (some 112)) 13 (some 113)) 14 (some 114)) 15 (some 115)) 16 (some 116)) 17 (some 117)) 18 (some 118)) 19 (some 119)))))) 120 (.inl 40)) 100 (.inr (.inl (6, (rfu (rfu (rfu (rfu (rfu (rfu (rfu (rfu (rfu (rfu (rfu (rfu (rfu (rfu (rfu gn_X6 6 (some 106)) 7 (some 107)) 8 (some 108)) 9 (some 109)) 10 (some 110)) 11 (some 111)) 12 (some 112)) 13 (some 113)) 14 (some 114)) 15 (some 115)) 16 (some 116)) 17 (some 117)) 18 (some 118)) 19 (some 119)) 20 (some 120)))))) 121 (.inl 40)) 100 (.inr (.inl (6, (rfu (rfu (rfu (rfu (rfu (rfu (rfu (rfu (rfu (rfu (rfu (rfu (rfu (rfu (rfu (rfu gn_X6 6 (some 106)) 7 (some 107)) 8 (some 108)) 9 (some 109)) 10 (some 110)) 11 (some 111)) 12 (some 112)) 13 (some 113)) 14 (some 114)) 15 (some 115)) 16 (some 116)) 17 (some 117)) 18 (some 118)) 19 (some 119)) 20 (some 120)) 21 (some 121)))))) 122 (.inl 40)) 100 (.inr (.inl (6, (rfu (rfu (rfu (rfu (rfu (rfu (rfu (rfu (rfu (rfu (rfu (rfu (rfu (rfu (rfu (rfu (rfu gn_X6 6 (some 106)) 7 (some 107)) 8 (some 108)) 9 (some 109)) 10 (some 110)) 11 (some 111)) 12 (some 112)) 13 (some 113)) 14 (some 114)) 15 (some 115)) 16 (some 116)) 17 (some 117)) 18 (some 118)) 19 (some 119)) 20 (some 120)) 21 (some 121)) 22 (some 122)))))) 123 (.inl 40)) 100 (.inr (.inl (6, (rfu (rfu (rfu (rfu (rfu (rfu (rfu (rfu (rfu (rfu (rfu (rfu (rfu (rfu (rfu (rfu (rfu (rfu gn_X6 6 (some 106)) 7 (some 107)) 8 (some 108)) 9 (some 109)) 10 (some 110)) 11 (some 111)) 12 (some 112)) 13 (some 113)) 14 (some 114)) 15 (some 115)) 16 (some 116)) 17 (some 117)) 18 (some 118)) 19 (some 119)) 20 (some 120)) 21 (some 121)) 22 (some 122)) 23 (some 123)))))) 124 (.inl 40)) 100 (.inr (.inl (6, (rfu (rfu (rfu (rfu (rfu (rfu (rfu (rfu (rfu (rfu (rfu (rfu (rfu (rfu (rfu (rfu (rfu (rfu (rfu gn_X6 6 (some 106)) 7 (some 107)) 8 (some 108)) 9 (some 109)) 10 (some 110)) 11 (some 111)) 12 (some 112)) 13 (some 113)) 14 (some 114)) 15 (some 115)) 16 (some 116)) 17 (some 117)) 18 (some 118)) 19 (some 119)) 20 (some 120)) 21 (some 121)) 22 (some 122)) 23 (some 123)) 24 (some 124)))))) 125 (.inl 40)) 100 (.inr (.inl (6, (rfu (rfu (rfu (rfu (rfu (rfu (rfu (rfu (rfu (rfu (rfu (rfu (rfu (rfu (rfu (rfu (rfu (rfu (rfu (rfu gn_X6 6 (some 106)) 7 (some 107)) 8 (some 108)) 9 (some 109)) 10 (some 110)) 11 (some 111)) 12 (some 112)) 13 (some 113)) 14 (some 114)) 15 (some 115)) 16 (some 116)) 17 (some 117)) 18 (some 118)) 19 (some 119)) 20 (some 120)) 21 (some 121)) 22 (some 122)) 23 (some 123)) 24 (some 124)) 25 (some 125)))))) 126 (.inl 40)) 100 (.inr (.inl (6, (rfu (rfu (rfu (rfu (rfu (rfu (rfu (rfu (rfu (rfu (rfu (rfu (rfu (rfu (rfu (rfu (rfu (rfu (rfu (rfu (rfu gn_X6 6 (some 106)) 7 (some 107)) 8 (some 108)) 9 (some 109)) 10 (some 110)) 11 (some 111)) 12 (some 112)) 13 (some 113)) 14 (some 114)) 15 (some 115)) 16 (some 116)) 17 (some 117)) 18 (some 118)) 19 (some 119)) 20 (some 120)) 21 (some 121)) 22 (some 122)) 23 (some 123)) 24 (some 124)) 25 (some 125)) 26 (some 126)))))) 127 (.inr (.inr (1, 6, fun _ => none)))) 100 (.inr (.inl (6, (rfu (rfu (rfu (rfu (rfu (rfu (rfu (rfu (rfu (rfu (rfu (rfu (rfu (rfu (rfu (rfu (rfu (rfu (rfu (rfu (rfu (rfu gn_X6 6 (some 106)) 7 (some 107)) 8 (some 108)) 9 (some 109)) 10 (some 110)) 11 (some 111)) 12 (some 112)) 13 (some 113)) 14 (some 114)) 15 (some 115)) 16 (some 116)) 17 (some 117)) 18 (some 118)) 19 (some 119)) 20 (some 120)) 21 (some 121)) 22 (some 122)) 23 (some 123)) 24 (some 124)) 25 (some 125)) 26 (some 126)) 27 (some 127)))))) 130 (.inl 3)) 100 (.inr (.inl (6, (rfu (rfu (rfu (rfu (rfu (rfu (rfu (rfu (rfu (rfu (rfu (rfu (rfu (rfu (rfu (rfu (rfu (rfu (rfu (rfu (rfu (rfu (rfu gn_X6 6 (some 106)) 7 (some 107)) 8 (some 108)) 9 (some 109)) 10 (some 110)) 11 (some 111)) 12 (some 112)) 13 (some 113)) 14 (some 114)) 15 (some 115)) 16 (some 116)) 17 (some 117)) 18 (some 118)) 19 (some 119)) 20 (some 120)) 21 (some 121)) 22 (some 122)) 23 (some 123)) 24 (some 124)) 25 (some 125)) 26 (some 126)) 27 (some 127)) 30 (some 130)))))) 131 (.inl 3)) 100 (.inr (.inl (6, (rfu (rfu (rfu (rfu (rfu (rfu (rfu (rfu (rfu (rfu (rfu (rfu (rfu (rfu (rfu (rfu (rfu (rfu (rfu (rfu (rfu (rfu (rfu (rfu gn_X6 6 (some 106)) 7 (some 107)) 8 (some 108)) 9 (some 109)) 10 (some 110)) 11 (some 111)) 12 (some 112)) 13 (some 113)) 14 (some 114)) 15 (some 115)) 16 (some 116)) 17 (some 117)) 18 (some 118)) 19 (some 119)) 20 (some 120)) 21 (some 121)) 22 (some 122)) 23 (some 123)) 24 (some 124)) 25 (some 125)) 26 (some 126)) 27 (some 127)) 30 (some 130)) 31 (some 131)))))) 132 (.inl 3600)) 100 (.inr (.inl (6, (rfu (rfu (rfu (rfu (rfu (rfu (rfu (rfu (rfu (rfu (rfu (rfu (rfu (rfu (rfu (rfu (rfu (rfu (rfu (rfu (rfu (rfu (rfu (rfu (rfu gn_X6 6 (some 106)) 7 (some 107)) 8 (some 108)) 9 (some 109)) 10 (some 110)) 11 (some 111)) 12 (some 112)) 13 (some 113)) 14 (some 114)) 15 (some 115)) 16 (some 116)) 17 (some 117)) 18 (some 118)) 19 (some 119)) 20 (some 120)) 21 (some 121)) 22 (some 122)) 23 (some 123)) 24 (some 124)) 25 (some 125)) 26 (some 126)) 27 (some 127)) 30 (some 130)) 31 (some 131)) 32 (some 132)))))) 133 (.inl 4)) 100 (.inr (.inl (6, (rfu (rfu (rfu (rfu (rfu (rfu (rfu (rfu (rfu (rfu (rfu (rfu (rfu (rfu (rfu (rfu (rfu (rfu (rfu (rfu (rfu (rfu (rfu (rfu (rfu (rfu gn_X6 6 (some 106)) 7 (some 107)) 8 (some 108)) 9 (some 109)) 10 (some 110)) 11 (some 111)) 12 (some 112)) 13 (some 113)) 14 (some 114)) 15 (some 115)) 16 (some 116)) 17 (some 117)) 18 (some 118)) 19 (some 119)) 20 (some 120)) 21 (some 121)) 22 (some 122)) 23 (some 123)) 24 (some 124)) 25 (some 125)) 26 (some 126)) 27 (some 127)) 30 (some 130)) 31 (some 131)) 32 (some 132)) 33 (some 133))))))
def mdS (M : gaM) : gaM := (setr (setr (setr (setr (ga_st (setr (setr (setr (setr (setr (setr (setr (setr (setr (setr (setr (setr (setr (setr (setr (setr (setr (setr (setr (setr (setr (setr (ga_st M 100 5 24) 106 (fun _ => 0)) 107 (fun _ => 0)) 108 (fun _ => 0)) 109 (fun _ => 0)) 110 (fun _ => 0)) 111 (fun _ => 0)) 112 (fun _ => 0)) 113 (fun _ => 0)) 114 (fun _ => 0)) 115 (fun _ => 0)) 116 (fun _ => 0)) 117 (fun _ => 0)) 118 (fun _ => 0)) 119 (fun _ => 0)) 120 (fun _ => 0)) 121 (fun _ => 0)) 122 (fun _ => 0)) 123 (fun _ => 0)) 124 (fun _ => 0)) 125 (fun _ => 0)) 126 (fun _ => 0)) 127 (fun _ => 0)) 100 29 (-1)) 130 (fun _ => 0)) 131 (fun _ => 0)) 132 (fun _ => 0)) 133 (fun _ => 0))
theorem Kmd_fr {K : gaK} {x : Nat} (hk : K 100 = some (.inr (.inl (6, gn_X6)))) (h : frh K x) (h1 : x ≠ 100) (h2 : ¬ (106 ≤ x ∧ x ≤ 133)) : frh (Kmd K) x := (fr_fi Kup_self (fr_fi Kup_self (fr_fi Kup_self (fr_fi Kup_self (fr_fz Kup_self (fr_fi Kup_self (fr_fi Kup_self (fr_fi Kup_self (fr_fi Kup_self (fr_fi Kup_self (fr_fi Kup_self (fr_fi Kup_self (fr_fi Kup_self (fr_fi Kup_self (fr_fi Kup_self (fr_fi Kup_self (fr_fi Kup_self (fr_fi Kup_self (fr_fi Kup_self (fr_fi Kup_self (fr_fi Kup_self (fr_fi Kup_self (fr_fi Kup_self (fr_fi Kup_self (fr_fi Kup_self (fr_fi hk h (by omega) (by omega)) (by omega) (by omega)) (by omega) (by omega)) (by omega) (by omega)) (by omega) (by omega)) (by omega) (by omega)) (by omega) (by omega)) (by omega) (by omega)) (by omega) (by omega)) (by omega) (by omega)) (by omega) (by omega)) (by omega) (by omega)) (by omega) (by omega)) (by omega) (by omega)) (by omega) (by omega)) (by omega) (by omega)) (by omega) (by omega)) (by omega) (by omega)) (by omega) (by omega)) (by omega) (by omega)) (by omega) (by omega)) (by omega) (by omega)) (by omega) (by omega)) (by omega) (by omega)) (by omega) (by omega)) (by omega) (by omega))
theorem Kmd_dom {K : gaK} : ∀ i, K i ≠ none → Kmd K i ≠ none := fun i h => (Kup_dom _ (Kup_dom _ (Kup_dom _ (Kup_dom _ (Kup_dom _ (Kup_dom _ (Kup_dom _ (Kup_dom _ (Kup_dom _ (Kup_dom _ (Kup_dom _ (Kup_dom _ (Kup_dom _ (Kup_dom _ (Kup_dom _ (Kup_dom _ (Kup_dom _ (Kup_dom _ (Kup_dom _ (Kup_dom _ (Kup_dom _ (Kup_dom _ (Kup_dom _ (Kup_dom _ (Kup_dom _ (Kup_dom _ (Kup_dom _ (Kup_dom _ (Kup_dom _ (Kup_dom _ (Kup_dom _ (Kup_dom _ (Kup_dom _ (Kup_dom _ (Kup_dom _ (Kup_dom _ (Kup_dom _ (Kup_dom _ (Kup_dom _ (Kup_dom _ (Kup_dom _ (Kup_dom _ (Kup_dom _ (Kup_dom _ (Kup_dom _ (Kup_dom _ (Kup_dom _ (Kup_dom _ (Kup_dom _ (Kup_dom _ (Kup_dom _ (Kup_dom _ h))))))))))))))))))))))))))))))))))))))))))))))))))))
def mdM (M : gaM) : gaM := setr (setr (mdS M) 108 (fun x => if x < 1200 then 500 else 0)) 107 (fun x => if x < 16 then (if x / 4 = x % 4 then 0 else 1) else 0)
set_option maxRecDepth 20000 in
theorem t_X6_init {K : gaK} {M : gaM} (hk : K 100 = some (.inr (.inl (6, gn_X6)))) (f0 : ∀ x, 106 ≤ x → x ≤ 133 → frh K x) : ga_MetA yX6_init cX6_init 3 none 1 26 6716 K M [.inr (some 100)] none (Kmd K) (mdM M) := by
  refine ga_metA (own := RX6) (by decide) rfl (Nat.le_of_ble_eq_true rfl) (fun X ad Z => ?_)
  have fr0 : ∀ x, 106 ≤ x → x ≤ 133 → frh K x := f0
  have hk0 := hk
  refine ga_al0 Z.C eX6_init_0 ?_
  refine z_oinit Z eX6_init_1 noRX6_10 oi_i oi_c (by decide) (by decide) ?_
  refine ga_al0 Z.C eX6_init_4 ?_
  refine ga_push Z.C eX6_init_5 ?_
  refine ga_putI Z.C Z.K eX6_init_7 lRX6_16 (by intro q hq; cases hq; exact ⟨rfl, rfl⟩) hk0 rfl rfl ?_
  refine ga_al0 Z.C eX6_init_10 ?_
  refine ga_push Z.C eX6_init_11 ?_
  refine z_fi 106 (c := 25) (d := 6712) (o := 100) (N := 4) Z rfl eX6_init_12 eX6_init_14 lRX6_19 (by intro q hq; cases hq; exact ⟨rfl, rfl, rfl⟩) rfl (by decide) ar_int hk0 (by decide) (fr0 106 (by decide) (by decide)) (frv_of (lo := 106) (hi := 106) rfl 106 (Nat.le_refl _) (Nat.le_refl _)) (fun X K1 eK1 hk1 hf Z => ?_)
  have fr1 : ∀ x, 107 ≤ x → x ≤ 133 → frh K1 x := fun x h1 h2 => hf x (fr0 x (by omega) h2) (by omega) (by omega)
  clear hf
  refine ga_al0 Z.C eX6_init_17 ?_
  refine ga_push Z.C eX6_init_18 ?_
  refine z_fi 107 (c := 24) (d := 6696) (o := 100) (N := 16) Z rfl eX6_init_20 eX6_init_22 lRX6_23 (by intro q hq; cases hq; exact ⟨rfl, rfl, rfl⟩) rfl (by decide) ar_int hk1 (by decide) (fr1 107 (by decide) (by decide)) (frv_of (lo := 107) (hi := 107) rfl 107 (Nat.le_refl _) (Nat.le_refl _)) (fun X K2 eK2 hk2 hf Z => ?_)
  have fr2 : ∀ x, 108 ≤ x → x ≤ 133 → frh K2 x := fun x h1 h2 => hf x (fr1 x (by omega) h2) (by omega) (by omega)
  clear hf
  refine ga_al0 Z.C eX6_init_25 ?_
  refine ga_push Z.C eX6_init_26 ?_
  refine z_fi 108 (c := 23) (d := 5496) (o := 100) (N := 1200) Z rfl eX6_init_29 eX6_init_31 lRX6_26 (by intro q hq; cases hq; exact ⟨rfl, rfl, rfl⟩) rfl (by decide) ar_int hk2 (by decide) (fr2 108 (by decide) (by decide)) (frv_of (lo := 108) (hi := 108) rfl 108 (Nat.le_refl _) (Nat.le_refl _)) (fun X K3 eK3 hk3 hf Z => ?_)
  have fr3 : ∀ x, 109 ≤ x → x ≤ 133 → frh K3 x := fun x h1 h2 => hf x (fr2 x (by omega) h2) (by omega) (by omega)
  clear hf
  refine ga_al0 Z.C eX6_init_34 ?_
  refine ga_push Z.C eX6_init_35 ?_
  refine z_fi 109 (c := 22) (d := 5456) (o := 100) (N := 40) Z rfl eX6_init_37 eX6_init_39 lRX6_29 (by intro q hq; cases hq; exact ⟨rfl, rfl, rfl⟩) rfl (by decide) ar_int hk3 (by decide) (fr3 109 (by decide) (by decide)) (frv_of (lo := 109) (hi := 109) rfl 109 (Nat.le_refl _) (Nat.le_refl _)) (fun X K4 eK4 hk4 hf Z => ?_)
  have fr4 : ∀ x, 110 ≤ x → x ≤ 133 → frh K4 x := fun x h1 h2 => hf x (fr3 x (by omega) h2) (by omega) (by omega)
  clear hf
  refine ga_al0 Z.C eX6_init_42 ?_
  refine ga_push Z.C eX6_init_43 ?_
  refine z_fi 110 (c := 21) (d := 5416) (o := 100) (N := 40) Z rfl eX6_init_45 eX6_init_47 lRX6_32 (by intro q hq; cases hq; exact ⟨rfl, rfl, rfl⟩) rfl (by decide) ar_int hk4 (by decide) (fr4 110 (by decide) (by decide)) (frv_of (lo := 110) (hi := 110) rfl 110 (Nat.le_refl _) (Nat.le_refl _)) (fun X K5 eK5 hk5 hf Z => ?_)
  have fr5 : ∀ x, 111 ≤ x → x ≤ 133 → frh K5 x := fun x h1 h2 => hf x (fr4 x (by omega) h2) (by omega) (by omega)
  clear hf
  refine ga_al0 Z.C eX6_init_50 ?_
  refine ga_push Z.C eX6_init_51 ?_
  refine z_fi 111 (c := 20) (d := 5376) (o := 100) (N := 40) Z rfl eX6_init_53 eX6_init_55 lRX6_35 (by intro q hq; cases hq; exact ⟨rfl, rfl, rfl⟩) rfl (by decide) ar_int hk5 (by decide) (fr5 111 (by decide) (by decide)) (frv_of (lo := 111) (hi := 111) rfl 111 (Nat.le_refl _) (Nat.le_refl _)) (fun X K6 eK6 hk6 hf Z => ?_)
  have fr6 : ∀ x, 112 ≤ x → x ≤ 133 → frh K6 x := fun x h1 h2 => hf x (fr5 x (by omega) h2) (by omega) (by omega)
  clear hf
  refine ga_al0 Z.C eX6_init_58 ?_
  refine ga_push Z.C eX6_init_59 ?_
  refine z_fi 112 (c := 19) (d := 5336) (o := 100) (N := 40) Z rfl eX6_init_61 eX6_init_63 lRX6_38 (by intro q hq; cases hq; exact ⟨rfl, rfl, rfl⟩) rfl (by decide) ar_int hk6 (by decide) (fr6 112 (by decide) (by decide)) (frv_of (lo := 112) (hi := 112) rfl 112 (Nat.le_refl _) (Nat.le_refl _)) (fun X K7 eK7 hk7 hf Z => ?_)
  have fr7 : ∀ x, 113 ≤ x → x ≤ 133 → frh K7 x := fun x h1 h2 => hf x (fr6 x (by omega) h2) (by omega) (by omega)
  clear hf
  refine ga_al0 Z.C eX6_init_66 ?_
  refine ga_push Z.C eX6_init_67 ?_
  refine z_fi 113 (c := 18) (d := 5296) (o := 100) (N := 40) Z rfl eX6_init_69 eX6_init_71 lRX6_41 (by intro q hq; cases hq; exact ⟨rfl, rfl, rfl⟩) rfl (by decide) ar_int hk7 (by decide) (fr7 113 (by decide) (by decide)) (frv_of (lo := 113) (hi := 113) rfl 113 (Nat.le_refl _) (Nat.le_refl _)) (fun X K8 eK8 hk8 hf Z => ?_)
  have fr8 : ∀ x, 114 ≤ x → x ≤ 133 → frh K8 x := fun x h1 h2 => hf x (fr7 x (by omega) h2) (by omega) (by omega)
  clear hf
  refine ga_al0 Z.C eX6_init_74 ?_
  refine ga_push Z.C eX6_init_75 ?_
  refine z_fi 114 (c := 17) (d := 5256) (o := 100) (N := 40) Z rfl eX6_init_77 eX6_init_79 lRX6_44 (by intro q hq; cases hq; exact ⟨rfl, rfl, rfl⟩) rfl (by decide) ar_int hk8 (by decide) (fr8 114 (by decide) (by decide)) (frv_of (lo := 114) (hi := 114) rfl 114 (Nat.le_refl _) (Nat.le_refl _)) (fun X K9 eK9 hk9 hf Z => ?_)
  have fr9 : ∀ x, 115 ≤ x → x ≤ 133 → frh K9 x := fun x h1 h2 => hf x (fr8 x (by omega) h2) (by omega) (by omega)
  clear hf
  refine ga_al0 Z.C eX6_init_82 ?_
  refine ga_push Z.C eX6_init_83 ?_
  refine z_fi 115 (c := 16) (d := 5216) (o := 100) (N := 40) Z rfl eX6_init_85 eX6_init_87 lRX6_47 (by intro q hq; cases hq; exact ⟨rfl, rfl, rfl⟩) rfl (by decide) ar_int hk9 (by decide) (fr9 115 (by decide) (by decide)) (frv_of (lo := 115) (hi := 115) rfl 115 (Nat.le_refl _) (Nat.le_refl _)) (fun X K10 eK10 hk10 hf Z => ?_)
  have fr10 : ∀ x, 116 ≤ x → x ≤ 133 → frh K10 x := fun x h1 h2 => hf x (fr9 x (by omega) h2) (by omega) (by omega)
  clear hf
  refine ga_al0 Z.C eX6_init_90 ?_
  refine ga_push Z.C eX6_init_91 ?_
  refine z_fi 116 (c := 15) (d := 5176) (o := 100) (N := 40) Z rfl eX6_init_93 eX6_init_95 lRX6_50 (by intro q hq; cases hq; exact ⟨rfl, rfl, rfl⟩) rfl (by decide) ar_int hk10 (by decide) (fr10 116 (by decide) (by decide)) (frv_of (lo := 116) (hi := 116) rfl 116 (Nat.le_refl _) (Nat.le_refl _)) (fun X K11 eK11 hk11 hf Z => ?_)
  have fr11 : ∀ x, 117 ≤ x → x ≤ 133 → frh K11 x := fun x h1 h2 => hf x (fr10 x (by omega) h2) (by omega) (by omega)
  clear hf
  refine ga_al0 Z.C eX6_init_98 ?_
  refine ga_push Z.C eX6_init_99 ?_
  refine z_fi 117 (c := 14) (d := 5136) (o := 100) (N := 40) Z rfl eX6_init_101 eX6_init_103 lRX6_53 (by intro q hq; cases hq; exact ⟨rfl, rfl, rfl⟩) rfl (by decide) ar_int hk11 (by decide) (fr11 117 (by decide) (by decide)) (frv_of (lo := 117) (hi := 117) rfl 117 (Nat.le_refl _) (Nat.le_refl _)) (fun X K12 eK12 hk12 hf Z => ?_)
  have fr12 : ∀ x, 118 ≤ x → x ≤ 133 → frh K12 x := fun x h1 h2 => hf x (fr11 x (by omega) h2) (by omega) (by omega)
  clear hf
  refine ga_al0 Z.C eX6_init_106 ?_
  refine ga_push Z.C eX6_init_107 ?_
  refine z_fi 118 (c := 13) (d := 5096) (o := 100) (N := 40) Z rfl eX6_init_109 eX6_init_111 lRX6_56 (by intro q hq; cases hq; exact ⟨rfl, rfl, rfl⟩) rfl (by decide) ar_int hk12 (by decide) (fr12 118 (by decide) (by decide)) (frv_of (lo := 118) (hi := 118) rfl 118 (Nat.le_refl _) (Nat.le_refl _)) (fun X K13 eK13 hk13 hf Z => ?_)
  have fr13 : ∀ x, 119 ≤ x → x ≤ 133 → frh K13 x := fun x h1 h2 => hf x (fr12 x (by omega) h2) (by omega) (by omega)
  clear hf
  refine ga_al0 Z.C eX6_init_114 ?_
  refine ga_push Z.C eX6_init_115 ?_
  refine z_fi 119 (c := 12) (d := 3896) (o := 100) (N := 1200) Z rfl eX6_init_118 eX6_init_120 lRX6_59 (by intro q hq; cases hq; exact ⟨rfl, rfl, rfl⟩) rfl (by decide) ar_int hk13 (by decide) (fr13 119 (by decide) (by decide)) (frv_of (lo := 119) (hi := 119) rfl 119 (Nat.le_refl _) (Nat.le_refl _)) (fun X K14 eK14 hk14 hf Z => ?_)
  have fr14 : ∀ x, 120 ≤ x → x ≤ 133 → frh K14 x := fun x h1 h2 => hf x (fr13 x (by omega) h2) (by omega) (by omega)
  clear hf
  refine ga_al0 Z.C eX6_init_123 ?_
  refine ga_push Z.C eX6_init_124 ?_
  refine z_fi 120 (c := 11) (d := 3856) (o := 100) (N := 40) Z rfl eX6_init_126 eX6_init_128 lRX6_62 (by intro q hq; cases hq; exact ⟨rfl, rfl, rfl⟩) rfl (by decide) ar_int hk14 (by decide) (fr14 120 (by decide) (by decide)) (frv_of (lo := 120) (hi := 120) rfl 120 (Nat.le_refl _) (Nat.le_refl _)) (fun X K15 eK15 hk15 hf Z => ?_)
  have fr15 : ∀ x, 121 ≤ x → x ≤ 133 → frh K15 x := fun x h1 h2 => hf x (fr14 x (by omega) h2) (by omega) (by omega)
  clear hf
  refine ga_al0 Z.C eX6_init_131 ?_
  refine ga_push Z.C eX6_init_132 ?_
  refine z_fi 121 (c := 10) (d := 3816) (o := 100) (N := 40) Z rfl eX6_init_134 eX6_init_136 lRX6_65 (by intro q hq; cases hq; exact ⟨rfl, rfl, rfl⟩) rfl (by decide) ar_int hk15 (by decide) (fr15 121 (by decide) (by decide)) (frv_of (lo := 121) (hi := 121) rfl 121 (Nat.le_refl _) (Nat.le_refl _)) (fun X K16 eK16 hk16 hf Z => ?_)
  have fr16 : ∀ x, 122 ≤ x → x ≤ 133 → frh K16 x := fun x h1 h2 => hf x (fr15 x (by omega) h2) (by omega) (by omega)
  clear hf
  refine ga_al0 Z.C eX6_init_139 ?_
  refine ga_push Z.C eX6_init_140 ?_
  refine z_fi 122 (c := 9) (d := 3776) (o := 100) (N := 40) Z rfl eX6_init_142 eX6_init_144 lRX6_68 (by intro q hq; cases hq; exact ⟨rfl, rfl, rfl⟩) rfl (by decide) ar_int hk16 (by decide) (fr16 122 (by decide) (by decide)) (frv_of (lo := 122) (hi := 122) rfl 122 (Nat.le_refl _) (Nat.le_refl _)) (fun X K17 eK17 hk17 hf Z => ?_)
  have fr17 : ∀ x, 123 ≤ x → x ≤ 133 → frh K17 x := fun x h1 h2 => hf x (fr16 x (by omega) h2) (by omega) (by omega)
  clear hf
  refine ga_al0 Z.C eX6_init_147 ?_
  refine ga_push Z.C eX6_init_148 ?_
  refine z_fi 123 (c := 8) (d := 3736) (o := 100) (N := 40) Z rfl eX6_init_150 eX6_init_152 lRX6_71 (by intro q hq; cases hq; exact ⟨rfl, rfl, rfl⟩) rfl (by decide) ar_int hk17 (by decide) (fr17 123 (by decide) (by decide)) (frv_of (lo := 123) (hi := 123) rfl 123 (Nat.le_refl _) (Nat.le_refl _)) (fun X K18 eK18 hk18 hf Z => ?_)
  have fr18 : ∀ x, 124 ≤ x → x ≤ 133 → frh K18 x := fun x h1 h2 => hf x (fr17 x (by omega) h2) (by omega) (by omega)
  clear hf
  refine ga_al0 Z.C eX6_init_155 ?_
  refine ga_push Z.C eX6_init_156 ?_
  refine z_fi 124 (c := 7) (d := 3696) (o := 100) (N := 40) Z rfl eX6_init_158 eX6_init_160 lRX6_74 (by intro q hq; cases hq; exact ⟨rfl, rfl, rfl⟩) rfl (by decide) ar_int hk18 (by decide) (fr18 124 (by decide) (by decide)) (frv_of (lo := 124) (hi := 124) rfl 124 (Nat.le_refl _) (Nat.le_refl _)) (fun X K19 eK19 hk19 hf Z => ?_)
  have fr19 : ∀ x, 125 ≤ x → x ≤ 133 → frh K19 x := fun x h1 h2 => hf x (fr18 x (by omega) h2) (by omega) (by omega)
  clear hf
  refine ga_al0 Z.C eX6_init_163 ?_
  refine ga_push Z.C eX6_init_164 ?_
  refine z_fi 125 (c := 6) (d := 3656) (o := 100) (N := 40) Z rfl eX6_init_166 eX6_init_168 lRX6_77 (by intro q hq; cases hq; exact ⟨rfl, rfl, rfl⟩) rfl (by decide) ar_int hk19 (by decide) (fr19 125 (by decide) (by decide)) (frv_of (lo := 125) (hi := 125) rfl 125 (Nat.le_refl _) (Nat.le_refl _)) (fun X K20 eK20 hk20 hf Z => ?_)
  have fr20 : ∀ x, 126 ≤ x → x ≤ 133 → frh K20 x := fun x h1 h2 => hf x (fr19 x (by omega) h2) (by omega) (by omega)
  clear hf
  refine ga_al0 Z.C eX6_init_171 ?_
  refine ga_push Z.C eX6_init_172 ?_
  refine z_fi 126 (c := 5) (d := 3616) (o := 100) (N := 40) Z rfl eX6_init_174 eX6_init_176 lRX6_80 (by intro q hq; cases hq; exact ⟨rfl, rfl, rfl⟩) rfl (by decide) ar_int hk20 (by decide) (fr20 126 (by decide) (by decide)) (frv_of (lo := 126) (hi := 126) rfl 126 (Nat.le_refl _) (Nat.le_refl _)) (fun X K21 eK21 hk21 hf Z => ?_)
  have fr21 : ∀ x, 127 ≤ x → x ≤ 133 → frh K21 x := fun x h1 h2 => hf x (fr20 x (by omega) h2) (by omega) (by omega)
  clear hf
  refine ga_al0 Z.C eX6_init_179 ?_
  refine ga_push Z.C eX6_init_180 ?_
  refine z_fz 127 (c := 4) (d := 3610) (o := 100) (N := 6) Z rfl eX6_init_182 eX6_init_184 lRX6_83 (by intro q hq; cases hq; exact ⟨rfl, rfl, rfl⟩) rfl (by decide) ar_boolean hk21 (by decide) (fr21 127 (by decide) (by decide)) (frv_of (lo := 127) (hi := 127) rfl 127 (Nat.le_refl _) (Nat.le_refl _)) (fun X K22 eK22 hk22 hf Z => ?_)
  have fr22 : ∀ x, 128 ≤ x → x ≤ 133 → frh K22 x := fun x h1 h2 => hf x (fr21 x (by omega) h2) (by omega) (by omega)
  clear hf
  refine ga_al0 Z.C eX6_init_187 ?_
  refine ga_push Z.C eX6_init_188 ?_
  refine ga_putI Z.C Z.K eX6_init_189 lRX6_87 (by intro q hq; cases hq; exact ⟨rfl, rfl⟩) hk22 rfl rfl ?_
  refine ga_al0 Z.C eX6_init_192 ?_
  refine ga_push Z.C eX6_init_193 ?_
  refine z_fi 130 (c := 3) (d := 3607) (o := 100) (N := 3) Z rfl eX6_init_194 eX6_init_196 lRX6_90 (by intro q hq; cases hq; exact ⟨rfl, rfl, rfl⟩) rfl (by decide) ar_int hk22 (by decide) (fr22 130 (by decide) (by decide)) (frv_of (lo := 130) (hi := 130) rfl 130 (Nat.le_refl _) (Nat.le_refl _)) (fun X K23 eK23 hk23 hf Z => ?_)
  have fr23 : ∀ x, 131 ≤ x → x ≤ 133 → frh K23 x := fun x h1 h2 => hf x (fr22 x (by omega) h2) (by omega) (by omega)
  clear hf
  refine ga_al0 Z.C eX6_init_199 ?_
  refine ga_push Z.C eX6_init_200 ?_
  refine z_fi 131 (c := 2) (d := 3604) (o := 100) (N := 3) Z rfl eX6_init_201 eX6_init_203 lRX6_93 (by intro q hq; cases hq; exact ⟨rfl, rfl, rfl⟩) rfl (by decide) ar_int hk23 (by decide) (fr23 131 (by decide) (by decide)) (frv_of (lo := 131) (hi := 131) rfl 131 (Nat.le_refl _) (Nat.le_refl _)) (fun X K24 eK24 hk24 hf Z => ?_)
  have fr24 : ∀ x, 132 ≤ x → x ≤ 133 → frh K24 x := fun x h1 h2 => hf x (fr23 x (by omega) h2) (by omega) (by omega)
  clear hf
  refine ga_al0 Z.C eX6_init_206 ?_
  refine ga_push Z.C eX6_init_207 ?_
  refine z_fi 132 (c := 1) (d := 4) (o := 100) (N := 3600) Z rfl eX6_init_210 eX6_init_212 lRX6_96 (by intro q hq; cases hq; exact ⟨rfl, rfl, rfl⟩) rfl (by decide) ar_int hk24 (by decide) (fr24 132 (by decide) (by decide)) (frv_of (lo := 132) (hi := 132) rfl 132 (Nat.le_refl _) (Nat.le_refl _)) (fun X K25 eK25 hk25 hf Z => ?_)
  have fr25 : ∀ x, 133 ≤ x → x ≤ 133 → frh K25 x := fun x h1 h2 => hf x (fr24 x (by omega) h2) (by omega) (by omega)
  clear hf
  refine ga_al0 Z.C eX6_init_215 ?_
  refine ga_push Z.C eX6_init_216 ?_
  refine z_fi 133 (c := 0) (d := 0) (o := 100) (N := 4) Z rfl eX6_init_217 eX6_init_219 lRX6_99 (by intro q hq; cases hq; exact ⟨rfl, rfl, rfl⟩) rfl (by decide) ar_int hk25 (by decide) (fr25 133 (by decide) (by decide)) (frv_of (lo := 133) (hi := 133) rfl 133 (Nat.le_refl _) (Nat.le_refl _)) (fun X K26 eK26 hk26 hf Z => ?_)
  have fr26 : ∀ x, 134 ≤ x → x ≤ 133 → frh K26 x := fun x h1 h2 => hf x (fr25 x (by omega) h2) (by omega) (by omega)
  clear hf
  have h108 : K26 108 = some (.inl 1200) := by rw [eK26, eK25, eK24, eK23, eK22, eK21, eK20, eK19, eK18, eK17, eK16, eK15, eK14, eK13, eK12, eK11, eK10, eK9, eK8, eK7, eK6, eK5, eK4, eK3, eK2, eK1]; rfl
  have h107 : K26 107 = some (.inl 16) := by rw [eK26, eK25, eK24, eK23, eK22, eK21, eK20, eK19, eK18, eK17, eK16, eK15, eK14, eK13, eK12, eK11, eK10, eK9, eK8, eK7, eK6, eK5, eK4, eK3, eK2, eK1]; rfl
  have hKf : K26 = Kmd K := by rw [eK26, eK25, eK24, eK23, eK22, eK21, eK20, eK19, eK18, eK17, eK16, eK15, eK14, eK13, eK12, eK11, eK10, eK9, eK8, eK7, eK6, eK5, eK4, eK3, eK2, eK1]; rfl
  clear fr0 fr1 fr2 fr3 fr4 fr5 fr6 fr7 fr8 fr9 fr10 fr11 fr12 fr13 fr14 fr15 fr16 fr17 fr18 fr19 fr20 fr21 fr22 fr23 fr24 fr25 fr26
  clear eK1 eK2 eK3 eK4 eK5 eK6 eK7 eK8 eK9 eK10 eK11 eK12 eK13 eK14 eK15 eK16 eK17 eK18 eK19 eK20 eK21 eK22 eK23 eK24 eK25 eK26
  show ga_W X (mdS M) 222 [some (.inr (some 100)), none, none] []
  have hz8 : mdS M 108 = fun _ => 0 := rfl
  have hz7 : mdS M 107 = fun _ => 0 := rfl
  have hZ : ga_Z (ga_T none none (Kmd K) (setr (setr (mdS M) 108 (fun x => if x < 1200 then 500 else 0)) 107 (fun x => if x < 16 then (if x / 4 = x % 4 then 0 else 1) else 0)) K ad) X cX6_init RX6 1 yX6_init.name 0 0 (Kmd K) := by
    rw [hKf] at Z
    exact Z
  have C := Z.C
  have hK := Z.K
  clear Z
  generalize hS : mdS M = S at hz8 hz7 hZ ⊢
  -- the fares
  have L2 : ∀ (k i : Nat), i + k = 4 → ga_W X (setr (setr S 108 (fun x => if x < 1200 then 500 else 0)) 107 (fun x => if x < 4 * i then (if x / 4 = x % 4 then 0 else 1) else 0)) 248 [some (.inr (some 100)), some (.inl (i : Int)), none] [] := by
    intro k
    induction k with
    | zero =>
      intro i hi
      have e : i = 4 := by omega
      subst e
      refine ga_il1 C eX6_init_248 ?_
      refine ga_push C eX6_init_249 ?_
      refine ga_icmp_ge C eX6_init_250 (by decide) (by decide) (fun hc => absurd hc (by decide)) (fun hc => ?_)
      exact z_vret hZ (fun _ _ h => h) eX6_init_292
    | succ k ih =>
      intro i hi
      refine ga_il1 C eX6_init_248 ?_
      refine ga_push C eX6_init_249 ?_
      refine ga_icmp_ge C eX6_init_250 ⟨by omega, by omega⟩ (by decide) (fun hc => ?_) (fun hc => absurd (show (i : Int) < 4 by omega) hc)
      refine ga_push C eX6_init_253 ?_
      refine ga_is2 C eX6_init_254 ?_
      have L3 : ∀ (r j : Nat), j + r = 4 → ga_W X (setr (setr S 108 (fun x => if x < 1200 then 500 else 0)) 107 (fun x => if x < 4 * i + j then (if x / 4 = x % 4 then 0 else 1) else 0)) 255 [some (.inr (some 100)), some (.inl (i : Int)), some (.inl (j : Int))] [] := by
        intro r
        induction r with
        | zero =>
          intro j hj
          have e : j = 4 := by omega
          subst e
          refine ga_il2 C eX6_init_255 ?_
          refine ga_push C eX6_init_256 ?_
          refine ga_icmp_ge C eX6_init_257 (by decide) (by decide) (fun hc => absurd hc (by decide)) (fun hc => ?_)
          refine ga_ii1 C eX6_init_286 ?_
          refine ga_goto C eX6_init_289 ?_
          refine ga_forget [true, true, false] rfl ?_
          have := ih (i + 1) (by omega)
          rw [show 4 * (i + 1) = 4 * i + 4 by omega] at this
          exact this
        | succ r ihr =>
          intro j hj
          refine ga_il2 C eX6_init_255 ?_
          refine ga_push C eX6_init_256 ?_
          refine ga_icmp_ge C eX6_init_257 ⟨by omega, by omega⟩ (by decide) (fun hc => ?_) (fun hc => absurd (show (j : Int) < 4 by omega) hc)
          refine ga_al0 C eX6_init_260 ?_
          refine ga_getR C hK eX6_init_261 lRX6_23 hk26 rfl ?_
          refine ga_push C eX6_init_264 ?_
          refine ga_il1 C eX6_init_265 ?_
          refine ga_imul C eX6_init_266 ?_
          refine ga_il2 C eX6_init_267 ?_
          refine ga_iadd C eX6_init_268 ?_
          refine ga_il1 C eX6_init_269 ?_
          refine ga_il2 C eX6_init_270 ?_
          have key : ∀ v : Int, v = (if (i : Int) = (j : Int) then 0 else 1) → ga_W X (setr (setr S 108 (fun x => if x < 1200 then 500 else 0)) 107 (fun x => if x < 4 * i + j then (if x / 4 = x % 4 then 0 else 1) else 0)) 279 [some (.inr (some 100)), some (.inl (i : Int)), some (.inl (j : Int))] [.inl v, .inl (4 * (i : Int) + (j : Int)), .inr (some 107)] := by
            intro v hv
            refine ga_iast C hK eX6_init_279 h107 (by decide) ⟨by omega, by omega⟩ (M1 := setr (setr S 108 (fun x => if x < 1200 then 500 else 0)) 107 (fun x => if x < 4 * i + (j + 1) then (if x / 4 = x % 4 then 0 else 1) else 0)) ?_ ?_
            · rw [st_setr, setr_self, setr_setr]
              congr 1
              funext x
              unfold upr
              have et : (4 * (i : Int) + (j : Int)).toNat = 4 * i + j := by omega
              rw [et]
              by_cases e : x = 4 * i + j
              · rw [if_pos e, if_pos (by omega), hv]
                by_cases e2 : i = j
                · rw [if_pos (by omega), if_pos (by omega)]
                · rw [if_neg (by omega), if_neg (by omega)]
              · rw [if_neg e]
                show (if x < 4 * i + (j + 1) then (if x / 4 = x % 4 then (0 : Int) else 1) else 0) = (if x < 4 * i + j then (if x / 4 = x % 4 then 0 else 1) else 0)
                by_cases e2 : x < 4 * i + j
                · rw [if_pos e2, if_pos (by omega)]
                · rw [if_neg e2, if_neg (by omega)]
            refine ga_ii2 C eX6_init_280 ?_
            refine ga_goto C eX6_init_283 ?_
            exact ihr (j + 1) (by omega)
          refine ga_icmp_ne C eX6_init_271 ⟨by omega, by omega⟩ ⟨by omega, by omega⟩ (fun hc => ?_) (fun hc => ?_)
          · refine ga_push C eX6_init_274 ?_
            refine ga_goto C eX6_init_275 ?_
            exact key 0 (by rw [if_pos hc])
          · refine ga_push C eX6_init_278 ?_
            exact key 1 (by rw [if_neg hc])
      exact L3 4 0 (by omega)
  -- the greens
  have L1 : ∀ (k i : Nat), i + k = 1200 → ga_W X (setr S 108 (fun x => if x < i then 500 else 0)) 224 [some (.inr (some 100)), some (.inl (i : Int)), none] [] := by
    intro k
    induction k with
    | zero =>
      intro i hi
      have e : i = 1200 := by omega
      subst e
      refine ga_il1 C eX6_init_224 ?_
      refine ga_push C eX6_init_225 ?_
      refine ga_icmp_ge C eX6_init_228 (by decide) (by decide) (fun hc => absurd hc (by decide)) (fun hc => ?_)
      refine ga_push C eX6_init_246 ?_
      refine ga_is1 C eX6_init_247 ?_
      have := L2 4 0 (by omega)
      have e7 : setr (setr S 108 (fun x => if x < 1200 then 500 else 0)) 107 (fun x => if x < 4 * 0 then (if x / 4 = x % 4 then 0 else 1) else 0) = setr S 108 (fun x => if x < 1200 then 500 else 0) := by
        have : (fun x => if x < 4 * 0 then (if x / 4 = x % 4 then 0 else 1) else 0) = (setr S 108 (fun x => if x < 1200 then 500 else 0)) 107 := by
          rw [setr_ne (by decide), hz7]
          funext x
          rw [if_neg (by omega)]
        rw [this, setr_id]
      rw [e7] at this
      exact this
    | succ k ih =>
      intro i hi
      refine ga_il1 C eX6_init_224 ?_
      refine ga_push C eX6_init_225 ?_
      refine ga_icmp_ge C eX6_init_228 ⟨by omega, by omega⟩ (by decide) (fun hc => ?_) (fun hc => absurd (show (i : Int) < 1200 by omega) hc)
      refine ga_al0 C eX6_init_231 ?_
      refine ga_getR C hK eX6_init_232 lRX6_26 hk26 rfl ?_
      refine ga_il1 C eX6_init_235 ?_
      refine ga_push C eX6_init_236 ?_
      refine ga_iast C hK eX6_init_239 h108 (by decide) ⟨by omega, by omega⟩ (M1 := setr S 108 (fun x => if x < i + 1 then 500 else 0)) ?_ ?_
      · rw [Int.toNat_natCast, st_setr, setr_self, setr_setr]
        congr 1
        funext x
        unfold upr
        by_cases e : x = i
        · rw [if_pos e, if_pos (by omega)]
        · rw [if_neg e]
          show (if x < i + 1 then (500 : Int) else 0) = (if x < i then 500 else 0)
          by_cases e2 : x < i
          · rw [if_pos e2, if_pos (by omega)]
          · rw [if_neg e2, if_neg (by omega)]
      refine ga_ii1 C eX6_init_240 ?_
      refine ga_goto C eX6_init_243 ?_
      exact ih (i + 1) (by omega)
  refine ga_push C eX6_init_222 ?_
  refine ga_is1 C eX6_init_223 ?_
  have := L1 1200 0 (by omega)
  have e8 : setr S 108 (fun x => if x < 0 then 500 else 0) = S := by
    have : (fun x => if x < 0 then 500 else 0) = S 108 := by
      rw [hz8]
      funext x
      rw [if_neg (by omega)]
    rw [this, setr_id]
  rw [e8] at this
  exact this

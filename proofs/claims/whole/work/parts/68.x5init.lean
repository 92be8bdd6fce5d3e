/-! ===== the machine: GreenHours' constructor (printed by wip/whole/ctor3.py) ===== -/
def dfl (ci : Nat) (rf : Nat → Option (Option Nat)) (k : Nat) : Prop := (defaultValue (gaTy ci k) = .int 0 ∧ rf k = none) ∨ (defaultValue (gaTy ci k) = .null ∧ rf k = some none)
theorem dfl_F {ci N id : Nat} {rf : Nat → Option (Option Nat)} {M : gaM} (h : ∀ k, k < N → dfl ci rf k) : ∀ (k : Nat), k < N → ∀ (ad : Nat → Nat), defaultValue (gaTy ci k) = ga_F ad (setr M id (fun _ => 0)) id rf k := by
  intro k hk ad
  unfold ga_F
  rcases h k hk with ⟨h1, h2⟩ | ⟨h1, h2⟩
  · rw [h1, h2, setr_self]
    rfl
  · rw [h1, h2]
    rfl
theorem fr_fo {K : gaK} {o id ci k x : Nat} {rf : Nat → Option (Option Nat)} (hk : K o = some (.inr (.inl (ci, rf)))) (hx : frh K x) (h1 : x ≠ id) (h2 : x ≠ o) : frh (Kup K o (.inr (.inl (ci, rfu rf k (some id))))) x :=
  hx.up h2 (mnt_rfu (hx.2.1 o _ hk) (fun q => h1 (Option.some.inj q).symm))
section FO
variable {T : gaX → gaK → Nat → Nat → Prop} {X : gaX} {cc : ByteArray} {own nm : String} {dp c d : Nat} {K K2 : gaK} {M M2 : gaM} {pc p1 p2 p3 p4 : Nat} {lv : List (Option gaV)}
theorem z_fo {ix1 ix3 ix4 ci ci2 k o N mc ms d' maxL : Nat} {q : vw_C} {rf rf2 : Nat → Option (Option Nat)} {y : MethodName} {cy : ByteArray} {tn : String} (id : Nat) (Z : ga_Z T X cc own dp nm (c + mc + 1) (d + ms + N) K) (hin : nm = "<init>") (d1 : gd cc pc (.new ix1) 3 p1) (d2 : gd cc p1 .dup 1 p2) (d3 : gd cc p2 (.invokespecial ix3) 3 p3) (d4 : gd cc p3 (.putfield ix4) 3 p4) (hq : gaT[ci2]? = some q) (hN : q.2.2 = N) (hcl : Cond.classLink own ix1 q.1 ∈ gaTb) (hinst : Cond.instantiable q.1 N ∈ gaTb) (hini : Cond.initialized q.1 ∈ gaTb) (hf : frh K id) (hv : frv id lv [.inr (some o)]) (hrf : ∀ k, k < N → dfl ci2 rf2 k) (hl : Cond.methodLink own ix3 y ∈ gaTb) (hm : ga_wm y cy maxL none 0) (hyn : y.name = "<init>") (hi : Cond.instanceMethod y ∈ gaTb) (hM : ga_MetA y cy maxL none d' mc ms (Kup K id (.inr (.inl (ci2, rf2)))) (setr M id (fun _ => 0)) [.inr (some id)] none K2 M2) (hd : d' < dp) (hdom : ∀ i, Kup K id (.inr (.inl (ci2, rf2))) i ≠ none → K2 i ≠ none) (hlv : okl (Kup K id (.inr (.inl (ci2, rf2)))) lv) (f : ga_fld own ix4 ci k) (hw : fty own ci k (.object tn)) (hk : K o = some (.inr (.inl (ci, rf)))) (hk2 : K2 o = some (.inr (.inl (ci, rf))))
    (kk : ∀ X' K', K' = Kup K2 o (.inr (.inl (ci, rfu rf k (some id)))) → K' o = some (.inr (.inl (ci, rfu rf k (some id)))) → ga_Z T X' cc own dp nm c d K' → ga_W X' M2 p4 lv []) : ga_W X M pc lv [.inr (some o)] := by
  refine z_new (rf := rf2) Z d1 hq hN hcl hinst hini hf hv (dfl_F hrf) (fun X1 Z1 => ?_)
  refine ga_dup Z1.C d2 ?_
  refine z_callI (id := id) (rest := [.inr (some id), .inr (some o)]) [] Z1 d3 hl hm hyn hi hM hd rfl rfl (Nat.le_of_ble_eq_true rfl) hdom hlv ⟨.inl (by rw [Kup_self]; exact fun q => by cases q), .inl (Kup_dom _ (by rw [hk]; exact fun q => by cases q)), trivial⟩ (fun X2 Z2 => ?_)
  refine z_putRF (ty := .object tn) Z2 hin d4 f hw nar_o fit_o hk2 (fun X3 Z3 => ?_)
  exact kk X3 _ rfl Kup_self Z3
end FO
def gn_X5 (k : Nat) : Option (Option Nat) := match k with
  | 0 => some none
  | 1 => some none
  | 2 => some none
  | 3 => some none
  | 4 => some none
  | 5 => some none
  | 6 => some none
  | 7 => some none
  | _ => none
def gn_AL (k : Nat) : Option (Option Nat) := match k with
  | 1 => some none
  | _ => none
theorem df_X5 : ∀ k, k < 11 → dfl 5 gn_X5 k := by
  intro k hk
  match k, hk with
  | 0, _ => exact .inr ⟨rfl, rfl⟩
  | 1, _ => exact .inr ⟨rfl, rfl⟩
  | 2, _ => exact .inr ⟨rfl, rfl⟩
  | 3, _ => exact .inr ⟨rfl, rfl⟩
  | 4, _ => exact .inr ⟨rfl, rfl⟩
  | 5, _ => exact .inr ⟨rfl, rfl⟩
  | 6, _ => exact .inr ⟨rfl, rfl⟩
  | 7, _ => exact .inr ⟨rfl, rfl⟩
  | 8, _ => exact .inl ⟨rfl, rfl⟩
  | 9, _ => exact .inl ⟨rfl, rfl⟩
  | 10, _ => exact .inl ⟨rfl, rfl⟩
  | k + 11, h => omega
theorem gm_X5 {x : Nat} : ¬ mnt (.inr (.inl (5, gn_X5))) x := by
  intro ⟨k, hk⟩
  unfold gn_X5 at hk
  split at hk <;> cases hk
theorem df_AL : ∀ k, k < 3 → dfl 7 gn_AL k := by
  intro k hk
  match k, hk with
  | 0, _ => exact .inl ⟨rfl, rfl⟩
  | 1, _ => exact .inr ⟨rfl, rfl⟩
  | 2, _ => exact .inl ⟨rfl, rfl⟩
  | k + 3, h => omega
theorem gm_AL {x : Nat} : ¬ mnt (.inr (.inl (7, gn_AL))) x := by
  intro ⟨k, hk⟩
  unfold gn_AL at hk
  split at hk <;> cases hk
theorem df_X2 : ∀ k, k < 4 → dfl 2 gn_X2 k := by
  intro k hk
  match k, hk with
  | 0, _ => exact .inl ⟨rfl, rfl⟩
  | 1, _ => exact .inr ⟨rfl, rfl⟩
  | 2, _ => exact .inr ⟨rfl, rfl⟩
  | 3, _ => exact .inr ⟨rfl, rfl⟩
  | k + 4, h => omega
theorem gm_X2 {x : Nat} : ¬ mnt (.inr (.inl (2, gn_X2))) x := by
  intro ⟨k, hk⟩
  unfold gn_X2 at hk
  split at hk <;> cases hk
theorem df_X0 : ∀ k, k < 5 → dfl 0 gn_X0 k := by
  intro k hk
  match k, hk with
  | 0, _ => exact .inr ⟨rfl, rfl⟩
  | 1, _ => exact .inr ⟨rfl, rfl⟩
  | 2, _ => exact .inr ⟨rfl, rfl⟩
  | 3, _ => exact .inl ⟨rfl, rfl⟩
  | 4, _ => exact .inl ⟨rfl, rfl⟩
  | k + 5, h => omega
theorem gm_X0 {x : Nat} : ¬ mnt (.inr (.inl (0, gn_X0))) x := by
  intro ⟨k, hk⟩
  unfold gn_X0 at hk
  split at hk <;> cases hk
theorem df_X1 : ∀ k, k < 7 → dfl 1 gn_X1 k := by
  intro k hk
  match k, hk with
  | 0, _ => exact .inr ⟨rfl, rfl⟩
  | 1, _ => exact .inl ⟨rfl, rfl⟩
  | 2, _ => exact .inl ⟨rfl, rfl⟩
  | 3, _ => exact .inl ⟨rfl, rfl⟩
  | 4, _ => exact .inl ⟨rfl, rfl⟩
  | 5, _ => exact .inl ⟨rfl, rfl⟩
  | 6, _ => exact .inl ⟨rfl, rfl⟩
  | k + 7, h => omega
theorem gm_X1 {x : Nat} : ¬ mnt (.inr (.inl (1, gn_X1))) x := by
  intro ⟨k, hk⟩
  unfold gn_X1 at hk
  split at hk <;> cases hk
theorem df_X3 : ∀ k, k < 6 → dfl 3 gn_X3 k := by
  intro k hk
  match k, hk with
  | 0, _ => exact .inr ⟨rfl, rfl⟩
  | 1, _ => exact .inr ⟨rfl, rfl⟩
  | 2, _ => exact .inr ⟨rfl, rfl⟩
  | 3, _ => exact .inr ⟨rfl, rfl⟩
  | 4, _ => exact .inr ⟨rfl, rfl⟩
  | 5, _ => exact .inl ⟨rfl, rfl⟩
  | k + 6, h => omega
theorem gm_X3 {x : Nat} : ¬ mnt (.inr (.inl (3, gn_X3))) x := by
  intro ⟨k, hk⟩
  unfold gn_X3 at hk
  split at hk <;> cases hk
def Kcl (K : gaK) : gaK := (Kup (Kup (Kup (Ktr (Kup (Kup (Kpr (Kup (Kup (Kpl (Kup (Kup (Kpl (Kup (Kup (Kup (Kup (Kup (Kup (Kup (Ksi (Kup K 1 (.inr (.inl (2, gn_X2))))) 0 (.inr (.inl (5, (rfu gn_X5 0 (some 1)))))) 2 (.inr (.inl (7, gn_AL)))) 2 (.inr (.inl (7, rfu gn_AL 1 (some 99))))) 0 (.inr (.inl (5, (rfu (rfu gn_X5 0 (some 1)) 1 (some 2)))))) 3 (.inl 6)) 0 (.inr (.inl (5, (rfu (rfu (rfu gn_X5 0 (some 1)) 1 (some 2)) 2 (some 3)))))) 4 (.inr (.inl (0, gn_X0)))) 4) 0 (.inr (.inl (5, (rfu (rfu (rfu (rfu gn_X5 0 (some 1)) 1 (some 2)) 2 (some 3)) 3 (some 4)))))) 5 (.inr (.inl (0, gn_X0)))) 5) 0 (.inr (.inl (5, (rfu (rfu (rfu (rfu (rfu gn_X5 0 (some 1)) 1 (some 2)) 2 (some 3)) 3 (some 4)) 4 (some 5)))))) 6 (.inr (.inl (1, gn_X1))))) 0 (.inr (.inl (5, (rfu (rfu (rfu (rfu (rfu (rfu gn_X5 0 (some 1)) 1 (some 2)) 2 (some 3)) 3 (some 4)) 4 (some 5)) 5 (some 6)))))) 7 (.inr (.inl (3, gn_X3))))) 0 (.inr (.inl (5, (rfu (rfu (rfu (rfu (rfu (rfu (rfu gn_X5 0 (some 1)) 1 (some 2)) 2 (some 3)) 3 (some 4)) 4 (some 5)) 5 (some 6)) 6 (some 7)))))) 8 (.inl 40)) 0 (.inr (.inl (5, (rfu (rfu (rfu (rfu (rfu (rfu (rfu (rfu gn_X5 0 (some 1)) 1 (some 2)) 2 (some 3)) 3 (some 4)) 4 (some 5)) 5 (some 6)) 6 (some 7)) 7 (some 8))))))
def clM (M : gaM) : gaM := (ga_st (ga_st (ga_st (setr (trM (setr (prM (setr (plM (setr (plM (setr (setr (ga_st (setr (siM (setr M 1 (fun _ => 0))) 2 (fun _ => 0)) 2 0 0) 3 (fun _ => 0)) 4 (fun _ => 0)) 4) 5 (fun _ => 0)) 5) 6 (fun _ => 0))) 7 (fun _ => 0))) 8 (fun _ => 0)) 0 8 24) 0 9 0) 0 10 0)
set_option maxRecDepth 20000 in
theorem t_X5_init {K : gaK} {M : gaM} (hk : K 0 = some (.inr (.inl (5, gn_X5)))) (f0 : ∀ x, 1 ≤ x → x ≤ 83 → frh K x) : ga_MetA yX5_init cX5_init 1 none 4 48 4386 K M [.inr (some 0)] none (Kcl K) (clM M) := by
  refine ga_metA (own := RX5) (by decide) rfl (Nat.le_of_ble_eq_true rfl) (fun X ad Z => ?_)
  have hk0 := hk
  have fr0 : ∀ x, 1 ≤ x → x ≤ 83 → frh K x := f0
  refine ga_al0 Z.C eX5_init_0 ?_
  refine z_oinit Z eX5_init_1 noRX5_1 oi_i oi_c (by decide) (by decide) ?_
  refine ga_al0 Z.C eX5_init_4 ?_
  refine z_fo 1 (c := 32) (d := 1954) (o := 0) (N := 4) (mc := 15) (ms := 2428) (rf2 := gn_X2) (tn := "GreenHours$Sites") Z rfl eX5_init_5 eX5_init_8 eX5_init_9 eX5_init_12 rfl rfl cnRX5_7 ciRX2 niRX2 (fr0 1 (by decide) (by decide) ) (frv_of (lo := 1) (hi := 1) rfl 1 (Nat.le_refl _) (Nat.le_refl _)) df_X2 nRX5_9 mX2_init rfl iX2_init (t_X2_init Kup_self (fun x h1 h2 => (fr0 x (by omega) (by omega) ).up (by omega) gm_X2)) (by decide) Ksi_dom (okl_1 (Kup_dom _ (by rw [hk0]; exact fun q => by cases q))) lRX5_10 (by intro q hq; cases hq; exact ⟨rfl, rfl, rfl⟩) hk0 (show (Ksi (Kup K 1 (.inr (.inl (2, gn_X2))))) 0 = _ from hk0) (fun X K1 eK1 hk1 Z => ?_)
  have fr1 : ∀ x, 2 ≤ x → x ≤ 83 → ¬ (10 ≤ x ∧ x ≤ 34) → frh K1 x := fun x h1 h2 u0 => by
    rw [eK1]
    exact fr_fo (show (Ksi (Kup K 1 (.inr (.inl (2, gn_X2))))) 0 = _ from hk0) (Ksi_fr Kup_self ((fr0 x (by omega) h2 ).up (id' := 1) (by omega) gm_X2) (by omega) (by omega)) (by omega) (by omega)
  refine ga_al0 Z.C eX5_init_15 ?_
  refine z_fo 2 (c := 31) (d := 1951) (o := 0) (N := 3) (mc := 0) (ms := 0) (rf2 := gn_AL) (tn := "java/util/ArrayList") Z rfl eX5_init_16 eX5_init_19 eX5_init_20 eX5_init_23 rfl rfl cnRX5_16 ciRJx4a65c niRJx4a65c (fr1 2 (by decide) (by decide) (by omega)) (frv_of (lo := 2) (hi := 2) rfl 2 (Nat.le_refl _) (Nat.le_refl _)) df_AL nRX5_18 mJx4a65c_init_da8c8 rfl iJx4a65c_init_da8c8 (t_AL_init (rf := gn_AL) Kup_self rfl) (by decide) Kup_dom (okl_1 (Kup_dom _ (by rw [hk1]; exact fun q => by cases q))) lRX5_19 (by intro q hq; cases hq; exact ⟨rfl, rfl, rfl⟩) hk1 (show (Kup (Kup K1 2 (.inr (.inl (7, gn_AL)))) 2 (.inr (.inl (7, rfu gn_AL 1 (some 99))))) 0 = _ from hk1) (fun X K2 eK2 hk2 Z => ?_)
  have fr2 : ∀ x, 3 ≤ x → x ≤ 83 → ¬ (10 ≤ x ∧ x ≤ 34) → frh K2 x := fun x h1 h2 u0 => by
    rw [eK2]
    exact fr_fo (show (Kup (Kup K1 2 (.inr (.inl (7, gn_AL)))) 2 (.inr (.inl (7, rfu gn_AL 1 (some 99))))) 0 = _ from hk1) (((fr1 x (by omega) h2 u0).up (id' := 2) (by omega) gm_AL).up (id' := 2) (by omega) (mnt_rfu gm_AL (fun q => by have := Option.some.inj q; omega))) (by omega) (by omega)
  refine ga_al0 Z.C eX5_init_26 ?_
  refine ga_push Z.C eX5_init_27 ?_
  refine z_fi 3 (c := 30) (d := 1945) (o := 0) (N := 6) Z rfl eX5_init_29 eX5_init_31 lRX5_23 (by intro q hq; cases hq; exact ⟨rfl, rfl, rfl⟩) rfl (by decide) ar_int hk2 (by decide) (fr2 3 (by decide) (by decide) (by omega)) (frv_of (lo := 3) (hi := 3) rfl 3 (Nat.le_refl _) (Nat.le_refl _)) (fun X K3 eK3 hk3 hf Z => ?_)
  have fr3 : ∀ x, 4 ≤ x → x ≤ 83 → ¬ (10 ≤ x ∧ x ≤ 34) → frh K3 x := fun x h1 h2 u0 => hf x (fr2 x (by omega) h2 u0) (by omega) (by omega)
  clear hf
  refine ga_al0 Z.C eX5_init_34 ?_
  refine z_fo 4 (c := 26) (d := 1820) (o := 0) (N := 5) (mc := 3) (ms := 120) (rf2 := gn_X0) (tn := "GreenHours$Plan") Z rfl eX5_init_35 eX5_init_38 eX5_init_39 eX5_init_42 rfl rfl cnRX5_27 ciRX0 niRX0 (fr3 4 (by decide) (by decide) (by omega)) (frv_of (lo := 4) (hi := 4) rfl 4 (Nat.le_refl _) (Nat.le_refl _)) df_X0 nRX5_29 mX0_init rfl iX0_init (t_X0_init (o := 4) (by decide) Kup_self (fun x h1 h2 => (fr3 x (by omega) (by omega) (by omega)).up (by omega) gm_X0)) (by decide) Kpl_dom (okl_1 (Kup_dom _ (by rw [hk3]; exact fun q => by cases q))) lRX5_30 (by intro q hq; cases hq; exact ⟨rfl, rfl, rfl⟩) hk3 (show (Kpl (Kup K3 4 (.inr (.inl (0, gn_X0)))) 4) 0 = _ from hk3) (fun X K4 eK4 hk4 Z => ?_)
  have fr4 : ∀ x, 5 ≤ x → x ≤ 83 → ¬ (10 ≤ x ∧ x ≤ 34) → ¬ (40 ≤ x ∧ x ≤ 42) → frh K4 x := fun x h1 h2 u0 u1 => by
    rw [eK4]
    exact fr_fo (show (Kpl (Kup K3 4 (.inr (.inl (0, gn_X0)))) 4) 0 = _ from hk3) (Kpl_fr Kup_self ((fr3 x (by omega) h2 u0).up (id' := 4) (by omega) gm_X0) (by omega) (by omega)) (by omega) (by omega)
  refine ga_al0 Z.C eX5_init_45 ?_
  refine z_fo 5 (c := 22) (d := 1695) (o := 0) (N := 5) (mc := 3) (ms := 120) (rf2 := gn_X0) (tn := "GreenHours$Plan") Z rfl eX5_init_46 eX5_init_49 eX5_init_50 eX5_init_53 rfl rfl cnRX5_27 ciRX0 niRX0 (fr4 5 (by decide) (by decide) (by omega) (by omega)) (frv_of (lo := 5) (hi := 5) rfl 5 (Nat.le_refl _) (Nat.le_refl _)) df_X0 nRX5_29 mX0_init rfl iX0_init (t_X0_init (o := 5) (by decide) Kup_self (fun x h1 h2 => (fr4 x (by omega) (by omega) (by omega) (by omega)).up (by omega) gm_X0)) (by decide) Kpl_dom (okl_1 (Kup_dom _ (by rw [hk4]; exact fun q => by cases q))) lRX5_34 (by intro q hq; cases hq; exact ⟨rfl, rfl, rfl⟩) hk4 (show (Kpl (Kup K4 5 (.inr (.inl (0, gn_X0)))) 5) 0 = _ from hk4) (fun X K5 eK5 hk5 Z => ?_)
  have fr5 : ∀ x, 6 ≤ x → x ≤ 83 → ¬ (10 ≤ x ∧ x ≤ 34) → ¬ (40 ≤ x ∧ x ≤ 42) → ¬ (50 ≤ x ∧ x ≤ 52) → frh K5 x := fun x h1 h2 u0 u1 u2 => by
    rw [eK5]
    exact fr_fo (show (Kpl (Kup K4 5 (.inr (.inl (0, gn_X0)))) 5) 0 = _ from hk4) (Kpl_fr Kup_self ((fr4 x (by omega) h2 u0 u1).up (id' := 5) (by omega) gm_X0) (by omega) (by omega)) (by omega) (by omega)
  refine ga_al0 Z.C eX5_init_56 ?_
  refine z_fo 6 (c := 16) (d := 484) (o := 0) (N := 7) (mc := 5) (ms := 1204) (rf2 := gn_X1) (tn := "GreenHours$Prices") Z rfl eX5_init_57 eX5_init_60 eX5_init_61 eX5_init_64 rfl rfl cnRX5_37 ciRX1 niRX1 (fr5 6 (by decide) (by decide) (by omega) (by omega) (by omega)) (frv_of (lo := 6) (hi := 6) rfl 6 (Nat.le_refl _) (Nat.le_refl _)) df_X1 nRX5_39 mX1_init rfl iX1_init (t_X1_init Kup_self (fun x h1 h2 => (fr5 x (by omega) (by omega) (by omega) (by omega) (by omega)).up (by omega) gm_X1)) (by decide) Kpr_dom (okl_1 (Kup_dom _ (by rw [hk5]; exact fun q => by cases q))) lRX5_40 (by intro q hq; cases hq; exact ⟨rfl, rfl, rfl⟩) hk5 (show (Kpr (Kup K5 6 (.inr (.inl (1, gn_X1))))) 0 = _ from hk5) (fun X K6 eK6 hk6 Z => ?_)
  have fr6 : ∀ x, 7 ≤ x → x ≤ 83 → ¬ (10 ≤ x ∧ x ≤ 34) → ¬ (40 ≤ x ∧ x ≤ 42) → ¬ (50 ≤ x ∧ x ≤ 52) → ¬ (60 ≤ x ∧ x ≤ 64) → frh K6 x := fun x h1 h2 u0 u1 u2 u3 => by
    rw [eK6]
    exact fr_fo (show (Kpr (Kup K5 6 (.inr (.inl (1, gn_X1))))) 0 = _ from hk5) (Kpr_fr Kup_self ((fr5 x (by omega) h2 u0 u1 u2).up (id' := 6) (by omega) gm_X1) (by omega) (by omega)) (by omega) (by omega)
  refine ga_al0 Z.C eX5_init_67 ?_
  refine z_fo 7 (c := 1) (d := 40) (o := 0) (N := 6) (mc := 14) (ms := 438) (rf2 := gn_X3) (tn := "GreenHours$Trio") Z rfl eX5_init_68 eX5_init_71 eX5_init_72 eX5_init_75 rfl rfl cnRX5_44 ciRX3 niRX3 (fr6 7 (by decide) (by decide) (by omega) (by omega) (by omega) (by omega)) (frv_of (lo := 7) (hi := 7) rfl 7 (Nat.le_refl _) (Nat.le_refl _)) df_X3 nRX5_46 mX3_init rfl iX3_init (t_X3_init Kup_self (fun x h1 h2 => (fr6 x (by omega) (by omega) (by omega) (by omega) (by omega) (by omega)).up (by omega) gm_X3)) (by decide) Ktr_dom (okl_1 (Kup_dom _ (by rw [hk6]; exact fun q => by cases q))) lRX5_47 (by intro q hq; cases hq; exact ⟨rfl, rfl, rfl⟩) hk6 (show (Ktr (Kup K6 7 (.inr (.inl (3, gn_X3))))) 0 = _ from hk6) (fun X K7 eK7 hk7 Z => ?_)
  have fr7 : ∀ x, 8 ≤ x → x ≤ 83 → ¬ (10 ≤ x ∧ x ≤ 34) → ¬ (40 ≤ x ∧ x ≤ 42) → ¬ (50 ≤ x ∧ x ≤ 52) → ¬ (60 ≤ x ∧ x ≤ 64) → ¬ (70 ≤ x ∧ x ≤ 83) → frh K7 x := fun x h1 h2 u0 u1 u2 u3 u4 => by
    rw [eK7]
    exact fr_fo (show (Ktr (Kup K6 7 (.inr (.inl (3, gn_X3))))) 0 = _ from hk6) (Ktr_fr Kup_self ((fr6 x (by omega) h2 u0 u1 u2 u3).up (id' := 7) (by omega) gm_X3) (by omega) (by omega)) (by omega) (by omega)
  refine ga_al0 Z.C eX5_init_78 ?_
  refine ga_push Z.C eX5_init_79 ?_
  refine z_fi 8 (c := 0) (d := 0) (o := 0) (N := 40) Z rfl eX5_init_81 eX5_init_83 lRX5_51 (by intro q hq; cases hq; exact ⟨rfl, rfl, rfl⟩) rfl (by decide) ar_int hk7 (by decide) (fr7 8 (by decide) (by decide) (by omega) (by omega) (by omega) (by omega) (by omega)) (frv_of (lo := 8) (hi := 8) rfl 8 (Nat.le_refl _) (Nat.le_refl _)) (fun X K8 eK8 hk8 hf Z => ?_)
  have fr8 : ∀ x, 9 ≤ x → x ≤ 83 → ¬ (10 ≤ x ∧ x ≤ 34) → ¬ (40 ≤ x ∧ x ≤ 42) → ¬ (50 ≤ x ∧ x ≤ 52) → ¬ (60 ≤ x ∧ x ≤ 64) → ¬ (70 ≤ x ∧ x ≤ 83) → frh K8 x := fun x h1 h2 u0 u1 u2 u3 u4 => hf x (fr7 x (by omega) h2 u0 u1 u2 u3 u4) (by omega) (by omega)
  clear hf
  refine ga_al0 Z.C eX5_init_86 ?_
  refine ga_push Z.C eX5_init_87 ?_
  refine ga_putI Z.C Z.K eX5_init_89 lRX5_54 (by intro q hq; cases hq; exact ⟨rfl, rfl⟩) hk8 rfl rfl ?_
  refine ga_al0 Z.C eX5_init_92 ?_
  refine ga_push Z.C eX5_init_93 ?_
  refine ga_putI Z.C Z.K eX5_init_94 lRX5_58 (by intro q hq; cases hq; exact ⟨rfl, rfl⟩) hk8 rfl rfl ?_
  refine ga_al0 Z.C eX5_init_97 ?_
  refine ga_push Z.C eX5_init_98 ?_
  refine ga_putI Z.C Z.K eX5_init_99 lRX5_61 (by intro q hq; cases hq; exact ⟨rfl, rfl⟩) hk8 rfl rfl ?_
  subst eK8
  subst eK7
  subst eK6
  subst eK5
  subst eK4
  subst eK3
  subst eK2
  subst eK1
  exact z_vret Z (fun _ _ h => h) eX5_init_102

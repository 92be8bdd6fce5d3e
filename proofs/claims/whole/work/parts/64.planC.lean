/-! ===== the machine: Plan's constructor ===== -/
theorem frh.up {K : gaK} {id id' : Nat} {sk : gaS} (h : frh K id) (hn : id ≠ id') (hm : ¬ mnt sk id) : frh (Kup K id' sk) id := by
  refine ⟨by rw [Kup_ne hn]; exact h.1, fun i s hi => ?_⟩
  by_cases e : i = id'
  · rw [e, Kup_self] at hi
    cases hi
    exact hm
  · rw [Kup_ne e] at hi
    exact h.2 i s hi
theorem mnt_rfu {ci k id : Nat} {rf : Nat → Option (Option Nat)} {r : Option Nat} (h : ¬ mnt (.inr (.inl (ci, rf))) id) (hr : r ≠ some id) : ¬ mnt (.inr (.inl (ci, rfu rf k r))) id := by
  intro ⟨j, hj⟩
  unfold rfu at hj
  by_cases e : j = k
  · rw [if_pos e] at hj
    exact hr (Option.some.inj hj)
  · rw [if_neg e] at hj
    exact h ⟨j, hj⟩
theorem mnt_inl {n id : Nat} : ¬ mnt (.inl n) id := fun h => h
def gn_X0 (k : Nat) : Option (Option Nat) := match k with
  | 0 => some none
  | 1 => some none
  | 2 => some none
  | _ => none
theorem gn_X0_m {id : Nat} : ¬ mnt (.inr (.inl (0, gn_X0))) id := by
  intro ⟨k, hk⟩
  unfold gn_X0 at hk
  split at hk <;> cases hk
def Kpl (K : gaK) (o : Nat) : gaK := Kup (Kup (Kup (Kup K (10 * o) (.inl 40)) (10 * o + 1) (.inl 40)) (10 * o + 2) (.inl 40)) o (.inr (.inl (0, gr_X0 o)))
def plM (M : gaM) (o : Nat) : gaM := ga_st (ga_st (setr (setr (setr M (10 * o + 1) (fun _ => 0)) (10 * o + 2) (fun _ => 0)) (10 * o) (fun x => if x < 40 then -1 else 0)) o 3 0) o 4 (-1)
theorem rfu3 {o : Nat} : rfu (rfu (rfu gn_X0 0 (some (10 * o))) 1 (some (10 * o + 1))) 2 (some (10 * o + 2)) = gr_X0 o := by
  funext k
  unfold rfu gn_X0 gr_X0
  match k with
  | 0 => rfl
  | 1 => rfl
  | 2 => rfl
  | k + 3 => rfl
theorem setr_comm {M : gaM} {i j : Nat} {f g : Nat → Int} (h : i ≠ j) : setr (setr M i f) j g = setr (setr M j g) i f := by
  funext a
  unfold setr
  by_cases e : a = j
  · rw [if_pos e, if_neg (by omega), if_pos e]
  · rw [if_neg e]
    by_cases e2 : a = i
    · rw [if_pos e2, if_pos e2]
    · rw [if_neg e2, if_neg e2, if_neg e]
theorem frv2 {o id : Nat} {x : Option gaV} (h : o ≠ id) (hx : x = none) : frv id [some (.inr (some o)), x] [.inr (some o)] := by
  subst hx
  refine ⟨fun v hv => ?_, fun v hv => ?_⟩
  · have : v = .inr (some o) := by simpa using hv
    rw [this]
    intro q
    cases q
    exact h rfl
  · have : v = .inr (some o) := by simpa using hv
    rw [this]
    intro q
    cases q
    exact h rfl
set_option maxRecDepth 20000 in
theorem t_X0_init {K : gaK} {M : gaM} {o : Nat} (ho : o = 4 ∨ o = 5) (hk : K o = some (.inr (.inl (0, gn_X0)))) (f0 : frh K (10 * o)) (f1 : frh K (10 * o + 1)) (f2 : frh K (10 * o + 2)) : ga_MetA yX0_init cX0_init 2 none 1 3 120 K M [.inr (some o)] none (Kpl K o) (plM M o) := by
  refine ga_metA (own := RX0) (by decide) rfl (Nat.le_of_ble_eq_true rfl) (fun X ad CA hK hn T => ?_)
  have hn : ga_nm X = "<init>" := hn
  have C := CA.1
  refine ga_al0 C eX0_init_0 ?_
  refine ga_oinit CA eX0_init_1 noRX0_3 oi_i oi_c (by decide) (by decide) ?_
  refine ga_al0 C eX0_init_4 ?_
  refine ga_push C eX0_init_5 ?_
  refine ga_newi (id := 10 * o) (N := 40) (c := 2) (d := 80) CA eX0_init_7 rfl (by decide) ar_int (by rw [hK]; exact f0) (frv2 (by omega) rfl) (fun a CA => ?_)
  have T := T.up (a := a) (sk := .inl 40) (c := 2) (d := 80) (N := 40) f0.1
  have hn := (ga_up_nm (X := X) (id := 10 * o) (a := a) (sk := .inl 40) (ds := 40)).trans hn
  have hK : ga_K (ga_up X (10 * o) a (.inl 40) 40) = Kup K (10 * o) (.inl 40) := by rw [ga_up_K, hK]
  generalize ga_up X (10 * o) a (.inl 40) 40 = X at CA T hn hK ⊢
  refine ga_putRF (ty := .array .int) CA hK hn eX0_init_9 lRX0_9 (by intro q hq; cases hq; exact ⟨rfl, rfl, rfl⟩) (fun a => by cases a <;> rfl) (fun a => by cases a <;> rfl) (show Kup K (10 * o) (.inl 40) o = _ by rw [Kup_ne (by omega)]; exact hk) (fun CA => ?_)
  have T := T.rk (id := o) (sk := .inr (.inl (0, rfu gn_X0 0 (some (10 * o)))))
  have hn := (ga_rk_nm (X := X) (id := o) (sk := .inr (.inl (0, rfu gn_X0 0 (some (10 * o)))))).trans hn
  have hK : ga_K (ga_rk X o (.inr (.inl (0, rfu gn_X0 0 (some (10 * o)))))) = Kup (Kup K (10 * o) (.inl 40)) o (.inr (.inl (0, rfu gn_X0 0 (some (10 * o))))) := by rw [ga_rk_K, hK]
  generalize ga_rk X o (.inr (.inl (0, rfu gn_X0 0 (some (10 * o))))) = X at CA T hn hK ⊢
  have C := CA.1
  have m1 : ∀ id, id ≠ 10 * o → ¬ mnt (.inr (.inl (0, rfu gn_X0 0 (some (10 * o))))) id := fun id h => mnt_rfu gn_X0_m (fun q => h (Option.some.inj q).symm)
  have g1 := (f1.up (id' := 10 * o) (by omega) (mnt_inl (n := 40))).up (id' := o) (by omega) (m1 _ (by omega))
  have g2 := (f2.up (id' := 10 * o) (by omega) (mnt_inl (n := 40))).up (id' := o) (by omega) (m1 _ (by omega))
  obtain ⟨K2, hK2⟩ : ∃ K2, K2 = Kup (Kup K (10 * o) (.inl 40)) o (.inr (.inl (0, rfu gn_X0 0 (some (10 * o))))) := ⟨_, rfl⟩
  have g1 : frh K2 (10 * o + 1) := by rw [hK2]; exact g1
  have g2 : frh K2 (10 * o + 2) := by rw [hK2]; exact g2
  rw [← hK2] at hK
  have hk2 : K2 o = some (.inr (.inl (0, rfu gn_X0 0 (some (10 * o))))) := by rw [hK2, Kup_self]
  have h20 : K2 (10 * o) = some (.inl 40) := by rw [hK2, Kup_ne (by omega), Kup_self]
  have h2x : ∀ x, x ≠ o → x ≠ 10 * o → K2 x = K x := fun x q1 q2 => by rw [hK2, Kup_ne q1, Kup_ne q2]
  refine ga_al0 C eX0_init_12 ?_
  refine ga_push C eX0_init_13 ?_
  refine ga_newi (id := 10 * o + 1) (N := 40) (c := 1) (d := 40) CA eX0_init_15 rfl (by decide) ar_int (by rw [hK]; exact g1) (frv2 (by omega) rfl) (fun a CA => ?_)
  have T := T.up (a := a) (sk := .inl 40) (c := 1) (d := 40) (N := 40) f1.1
  have hn := (ga_up_nm (X := X) (id := 10 * o + 1) (a := a) (sk := .inl 40) (ds := 40)).trans hn
  have hK : ga_K (ga_up X (10 * o + 1) a (.inl 40) 40) = Kup K2 (10 * o + 1) (.inl 40) := by rw [ga_up_K, hK]
  generalize ga_up X (10 * o + 1) a (.inl 40) 40 = X at CA T hn hK ⊢
  refine ga_putRF (ty := .array .int) CA hK hn eX0_init_17 lRX0_15 (by intro q hq; cases hq; exact ⟨rfl, rfl, rfl⟩) (fun a => by cases a <;> rfl) (fun a => by cases a <;> rfl) (show Kup K2 (10 * o + 1) (.inl 40) o = _ by rw [Kup_ne (by omega)]; exact hk2) (fun CA => ?_)
  obtain ⟨r2, hr2⟩ : ∃ r2, r2 = rfu (rfu gn_X0 0 (some (10 * o))) 1 (some (10 * o + 1)) := ⟨_, rfl⟩
  rw [← hr2] at CA ⊢
  have T := T.rk (id := o) (sk := .inr (.inl (0, r2)))
  have hn := (ga_rk_nm (X := X) (id := o) (sk := .inr (.inl (0, r2)))).trans hn
  have hK : ga_K (ga_rk X o (.inr (.inl (0, r2)))) = Kup (Kup K2 (10 * o + 1) (.inl 40)) o (.inr (.inl (0, r2))) := by rw [ga_rk_K, hK]
  generalize ga_rk X o (.inr (.inl (0, r2))) = X at CA T hn hK ⊢
  have C := CA.1
  have m2 : ¬ mnt (.inr (.inl (0, r2))) (10 * o + 2) := by
    rw [hr2]
    exact mnt_rfu (m1 _ (by omega)) (fun q => by have := Option.some.inj q; omega)
  have g2 := (g2.up (id' := 10 * o + 1) (by omega) (mnt_inl (n := 40))).up (id' := o) (by omega) m2
  obtain ⟨K3, hK3⟩ : ∃ K3, K3 = Kup (Kup K2 (10 * o + 1) (.inl 40)) o (.inr (.inl (0, r2))) := ⟨_, rfl⟩
  have g2 : frh K3 (10 * o + 2) := by rw [hK3]; exact g2
  rw [← hK3] at hK
  have hk3 : K3 o = some (.inr (.inl (0, r2))) := by rw [hK3, Kup_self]
  have h30 : K3 (10 * o) = some (.inl 40) := by rw [hK3, Kup_ne (by omega), Kup_ne (by omega)]; exact h20
  have h31 : K3 (10 * o + 1) = some (.inl 40) := by rw [hK3, Kup_ne (by omega), Kup_self]
  have h3x : ∀ x, x ≠ o → x ≠ 10 * o → x ≠ 10 * o + 1 → K3 x = K x := fun x q1 q2 q3 => by rw [hK3, Kup_ne q1, Kup_ne q3]; exact h2x x q1 q2
  refine ga_al0 C eX0_init_20 ?_
  refine ga_push C eX0_init_21 ?_
  refine ga_newi (id := 10 * o + 2) (N := 40) (c := 0) (d := 0) CA eX0_init_23 rfl (by decide) ar_int (by rw [hK]; exact g2) (frv2 (by omega) rfl) (fun a CA => ?_)
  have T := T.up (a := a) (sk := .inl 40) (c := 0) (d := 0) (N := 40) f2.1
  have hn := (ga_up_nm (X := X) (id := 10 * o + 2) (a := a) (sk := .inl 40) (ds := 40)).trans hn
  have hK : ga_K (ga_up X (10 * o + 2) a (.inl 40) 40) = Kup K3 (10 * o + 2) (.inl 40) := by rw [ga_up_K, hK]
  generalize ga_up X (10 * o + 2) a (.inl 40) 40 = X at CA T hn hK ⊢
  refine ga_putRF (ty := .array .int) CA hK hn eX0_init_25 lRX0_18 (by intro q hq; cases hq; exact ⟨rfl, rfl, rfl⟩) (fun a => by cases a <;> rfl) (fun a => by cases a <;> rfl) (show Kup K3 (10 * o + 2) (.inl 40) o = _ by rw [Kup_ne (by omega)]; exact hk3) (fun CA => ?_)
  have hr3 : rfu r2 2 (some (10 * o + 2)) = gr_X0 o := by rw [hr2]; exact rfu3
  rw [hr3] at CA ⊢
  have T := T.rk (id := o) (sk := .inr (.inl (0, gr_X0 o)))
  have hK : ga_K (ga_rk X o (.inr (.inl (0, gr_X0 o)))) = Kup (Kup K3 (10 * o + 2) (.inl 40)) o (.inr (.inl (0, gr_X0 o))) := by rw [ga_rk_K, hK]
  generalize ga_rk X o (.inr (.inl (0, gr_X0 o))) = X at CA T hK ⊢
  have C := CA.1
  obtain ⟨K4, hK4⟩ : ∃ K4, K4 = Kup (Kup K3 (10 * o + 2) (.inl 40)) o (.inr (.inl (0, gr_X0 o))) := ⟨_, rfl⟩
  rw [← hK4] at hK
  have hk4 : K4 o = some (.inr (.inl (0, gr_X0 o))) := by rw [hK4, Kup_self]
  have h40 : K4 (10 * o) = some (.inl 40) := by rw [hK4, Kup_ne (by omega), Kup_ne (by omega)]; exact h30
  have hsub : ∀ (id : Nat) (sk : gaS), Kpl K o id = some sk → K4 id = some sk := by
    intro id sk h
    unfold Kpl at h
    by_cases e1 : id = o
    · rw [e1, Kup_self] at h
      rw [e1, hk4]
      exact h
    · rw [Kup_ne e1] at h
      by_cases e2 : id = 10 * o + 2
      · rw [e2, Kup_self] at h
        rw [e2, hK4, Kup_ne (by omega), Kup_self]
        exact h
      · rw [Kup_ne e2] at h
        rw [hK4, Kup_ne e1, Kup_ne e2]
        by_cases e3 : id = 10 * o + 1
        · rw [e3, Kup_self] at h
          rw [e3, h31]
          exact h
        · rw [Kup_ne e3] at h
          by_cases e4 : id = 10 * o
          · rw [e4, Kup_self] at h
            rw [e4, h30]
            exact h
          · rw [Kup_ne e4] at h
            rw [h3x id e1 e4 e3]
            exact h
  obtain ⟨M3, hM3⟩ : ∃ M3, M3 = setr (setr M (10 * o + 1) (fun _ => 0)) (10 * o + 2) (fun _ => 0) := ⟨_, rfl⟩
  have eM : setr (setr (setr M (10 * o) (fun _ => 0)) (10 * o + 1) (fun _ => 0)) (10 * o + 2) (fun _ => 0) = setr M3 (10 * o) (fun x => if x < 0 then -1 else 0) := by
    rw [hM3, setr_comm (i := 10 * o) (j := 10 * o + 1) (by omega), setr_comm (i := 10 * o) (j := 10 * o + 2) (by omega)]
    congr 1
  have L : ∀ (k i : Nat), i + k = 40 → ga_W X (setr M3 (10 * o) (fun x => if x < i then -1 else 0)) 30 [some (.inr (some o)), some (.inl (i : Int))] [] := by
    intro k
    induction k with
    | zero =>
      intro i hi
      have e : i = 40 := by omega
      subst e
      refine ga_il1 C eX0_init_30 ?_
      refine ga_push C eX0_init_31 ?_
      refine ga_icmp_ge C eX0_init_33 (by decide) (by decide) (fun hc => absurd hc (by decide)) (fun hc => ?_)
      refine ga_al0 C eX0_init_49 ?_
      refine ga_push C eX0_init_50 ?_
      refine ga_putI C hK eX0_init_51 lRX0_21 (by intro q hq; cases hq; exact ⟨rfl, rfl⟩) hk4 rfl rfl ?_
      refine ga_al0 C eX0_init_54 ?_
      refine ga_push C eX0_init_55 ?_
      refine ga_putI C hK eX0_init_56 lRX0_25 (by intro q hq; cases hq; exact ⟨rfl, rfl⟩) hk4 rfl rfl ?_
      have T : ga_RtA X none none (Kpl K o) (ga_st (ga_st (setr M3 (10 * o) (fun x => if x < 40 then -1 else 0)) o 3 0) o 4 (-1)) K ad 0 0 := by
        rw [hM3]
        exact T
      exact ga_vretA CA T (fun id sk h => by rw [hK]; exact hsub id sk h) eX0_init_59
    | succ k ih =>
      intro i hi
      refine ga_il1 C eX0_init_30 ?_
      refine ga_push C eX0_init_31 ?_
      refine ga_icmp_ge C eX0_init_33 ⟨by omega, by omega⟩ (by decide) (fun hc => ?_) (fun hc => absurd (show (i : Int) < 40 by omega) hc)
      refine ga_al0 C eX0_init_36 ?_
      refine ga_getR C hK eX0_init_37 lRX0_9 hk4 rfl ?_
      refine ga_il1 C eX0_init_40 ?_
      refine ga_push C eX0_init_41 ?_
      refine ga_iast C hK eX0_init_42 h40 (by decide) ⟨by omega, by omega⟩ (M1 := setr M3 (10 * o) (fun x => if x < i + 1 then -1 else 0)) ?_ ?_
      · rw [Int.toNat_natCast, st_setr, setr_self, setr_setr]
        congr 1
        funext x
        unfold upr
        by_cases e : x = i
        · rw [if_pos e, if_pos (by omega)]
        · rw [if_neg e]
          show (if x < i + 1 then (-1 : Int) else 0) = (if x < i then -1 else 0)
          by_cases e2 : x < i
          · rw [if_pos e2, if_pos (by omega)]
          · rw [if_neg e2, if_neg (by omega)]
      refine ga_ii1 C eX0_init_43 ?_
      refine ga_goto C eX0_init_46 ?_
      exact ih (i + 1) (by omega)
  refine ga_push C eX0_init_28 ?_
  refine ga_is1 C eX0_init_29 ?_
  rw [eM]
  exact L 40 0 (by omega)

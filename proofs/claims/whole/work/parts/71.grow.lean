/-! ===== the machine: the list grows ===== -/
set_option maxRecDepth 20000 in
theorem t_newLength {K : gaK} {M : gaM} {o h : Int} (ho : 1 ≤ o ∧ o ≤ 1000) (hh : 1 ≤ h ∧ h ≤ 1000) : ga_Met yJ8_newLength_cabcc cJ8_newLength_cabcc 4 (some .int) 1 K M [.inl o, .inl 1, .inl h] (some (.inl (o + h))) M := by
  refine ga_met (own := RJ8) (by decide) rfl (Nat.le_of_ble_eq_true rfl) ?_
  intro X C hK T
  refine ga_il0 C eJ8_newLength_cabcc_0 ?_
  refine ga_il1 C eJ8_newLength_cabcc_1 ?_
  refine ga_il2 C eJ8_newLength_cabcc_2 ?_
  refine ga_max C eJ8_newLength_cabcc_3 nRJ8_194 (by decide) (by decide) ⟨by omega, by omega⟩ (Nat.le_of_ble_eq_true rfl) ?_
  rw [show max (1 : Int) h = h by omega]
  refine ga_iadd C eJ8_newLength_cabcc_6 ?_
  refine ga_is3 C eJ8_newLength_cabcc_7 ?_
  refine ga_push C eJ8_newLength_cabcc_8 ?_
  refine ga_il3 C eJ8_newLength_cabcc_9 ?_
  refine ga_icmp_ge C eJ8_newLength_cabcc_10 (by decide) ⟨by omega, by omega⟩ (fun hc => ?_) (fun hc => absurd (show (0 : Int) < o + h by omega) hc)
  refine ga_il3 C eJ8_newLength_cabcc_13 ?_
  refine ga_ldc C kRJ8_200 eJ8_newLength_cabcc_14 ?_
  refine ga_icmp_gt C eJ8_newLength_cabcc_16 ⟨by omega, by omega⟩ (by decide) (fun hc => ?_) (fun hc => absurd (show o + h ≤ 2147483639 by omega) hc)
  refine ga_il3 C eJ8_newLength_cabcc_19 ?_
  exact ga_iret C T eJ8_newLength_cabcc_20
abbrev oAr : FieldType := .array (.object "java/lang/Object")
def Kcp (K : gaK) (e1 N n : Nat) (g : Nat → Option Nat) : gaK := Kup (Kup K e1 (.inr (.inr (3, N, fun _ => none)))) e1 (.inr (.inr (3, N, fun j => if j < n then g j else none)))
theorem Kcp_dom {K : gaK} {e1 N n : Nat} {g : Nat → Option Nat} : ∀ i, K i ≠ none → Kcp K e1 N n g i ≠ none := fun i h => Kup_dom _ (Kup_dom _ h)
theorem fr_ne {K : gaK} {x y : Nat} {sk : gaS} (hf : frh K x) (hk : K y = some sk) : y ≠ x := fun e => nn hk (by rw [e]; exact hf.1)
set_option maxRecDepth 20000 in
theorem t_copy3 {K : gaK} {M : gaM} {e0 e1 n N : Nat} {g : Nat → Option Nat} (hk0 : K e0 = some (.inr (.inr (3, n, g)))) (hel : ∀ j, j < n → ∀ w, g j = some w → ∃ rf, K w = some (.inr (.inl (4, rf)))) (hn : n ≤ N) (hN : N ≤ 1000) (hf : frh K e1) : ga_MetA yJ7_copyOf_6403c cJ7_copyOf_6403c 4 (some oAr) 1 1 N K M [.inr (some e0), .inl (N : Int), .inr (some 97)] (some (.inr (some e1))) (Kcp K e1 N n g) M := by
  refine ga_metA (own := RJ7) (by decide) rfl (Nat.le_of_ble_eq_true rfl) (fun X ad Z => ?_)
  have h01 := fr_ne hf hk0
  refine ga_al2 Z.C eJ7_copyOf_6403c_0 ?_
  refine z_ldcM Z eJ7_copyOf_6403c_1 caRJ7_110 ?_
  refine ga_acmp_neS Z.C eJ7_copyOf_6403c_3 ?_
  refine ga_il1 Z.C eJ7_copyOf_6403c_6 ?_
  refine z_newq (id := e1) (N := N) (c := 0) (d := 0) (by rw [Nat.zero_add, Nat.zero_add]; exact Z) eJ7_copyOf_6403c_7 rfl (by omega) caRJ7_2 hf (okl_fr (K := K) ⟨.inl (nn hk0), .inr (by decide), trivial⟩ trivial hf) (fun X Z => ?_)
  refine ga_goto Z.C eJ7_copyOf_6403c_10 ?_
  refine ga_as3 Z.C eJ7_copyOf_6403c_24 ?_
  refine ga_al0 Z.C eJ7_copyOf_6403c_25 ?_
  refine ga_push Z.C eJ7_copyOf_6403c_26 ?_
  refine ga_al3 Z.C eJ7_copyOf_6403c_27 ?_
  refine ga_push Z.C eJ7_copyOf_6403c_28 ?_
  refine ga_al0 Z.C eJ7_copyOf_6403c_29 ?_
  have hk0' : Kup K e1 (.inr (.inr (3, N, fun _ => none))) e0 = some (.inr (.inr (3, n, g))) := by rw [Kup_ne h01]; exact hk0
  refine ga_alen Z.C Z.K eJ7_copyOf_6403c_30 (.inr ⟨3, g, hk0', .inr rfl⟩) ?_
  refine ga_il1 Z.C eJ7_copyOf_6403c_31 ?_
  refine ga_min Z.C eJ7_copyOf_6403c_32 nRJ7_304 (by decide) ⟨by omega, by omega⟩ ⟨by omega, by omega⟩ (Nat.le_of_ble_eq_true rfl) ?_
  rw [show min (n : Int) (N : Int) = (n : Int) by omega]
  refine z_copy Z eJ7_copyOf_6403c_35 ac_l hk0' Kup_self (fun q => hf.2.2 (by omega)) hn (by omega) (fun j hj w hw => ?_) (by decide) (fun X Z => ?_)
  · obtain ⟨rf, h⟩ := hel j hj w hw
    exact ⟨rf, by rw [Kup_ne (fr_ne hf h)]; exact h⟩
  refine ga_al3 Z.C eJ7_copyOf_6403c_38 ?_
  exact z_aret Z (.inr ⟨_, rfl⟩) (fun _ _ h => h) eJ7_copyOf_6403c_39
set_option maxRecDepth 20000 in
theorem t_copy2 {K : gaK} {M : gaM} {e0 e1 n N : Nat} {g : Nat → Option Nat} (hk0 : K e0 = some (.inr (.inr (3, n, g)))) (hel : ∀ j, j < n → ∀ w, g j = some w → ∃ rf, K w = some (.inr (.inl (4, rf)))) (hn : n ≤ N) (hN : N ≤ 1000) (hf : frh K e1) : ga_MetA yJ7_copyOf_1904c cJ7_copyOf_1904c 2 (some oAr) 2 1 N K M [.inr (some e0), .inl (N : Int)] (some (.inr (some e1))) (Kcp K e1 N n g) M := by
  refine ga_metA (own := RJ7) (by decide) rfl (Nat.le_of_ble_eq_true rfl) (fun X ad Z => ?_)
  refine ga_al0 Z.C eJ7_copyOf_1904c_0 ?_
  refine ga_il1 Z.C eJ7_copyOf_1904c_1 ?_
  refine ga_al0 Z.C eJ7_copyOf_1904c_2 ?_
  refine z_getC Z eJ7_copyOf_1904c_3 gc_l hk0 (by decide) (Nat.le_of_ble_eq_true rfl) ?_
  refine z_callS (c := 0) (d := 0) (mc := 1) (ms := N) (rest := []) [.inr (some e0), .inl (N : Int), .inr (some 97)] (by rw [Nat.zero_add, Nat.zero_add]; exact Z) eJ7_copyOf_1904c_6 nRJ7_300 mJ7_copyOf_6403c sJ7_copyOf_6403c (t_copy3 hk0 hel hn hN hf) (by decide) rfl rfl (Nat.le_of_ble_eq_true rfl) Kcp_dom ⟨.inl (nn hk0), trivial⟩ trivial (fun X Z => ?_)
  exact z_aret Z (.inr ⟨_, rfl⟩) (fun _ _ h => h) eJ7_copyOf_1904c_9
-- the list with a new array of N places, the first n taken over
def Kgr (K : gaK) (e e1 N n : Nat) (g : Nat → Option Nat) : gaK := Kup (Kcp K e1 N n g) 2 (.inr (.inl (7, rfu (gr_AL e) 1 (some e1))))
theorem Kgr_dom {K : gaK} {e e1 N n : Nat} {g : Nat → Option Nat} : ∀ i, K i ≠ none → Kgr K e e1 N n g i ≠ none := fun i h => Kup_dom _ (Kcp_dom _ h)
theorem Kcp_ne {K : gaK} {e1 N n x : Nat} {g : Nat → Option Nat} (h : x ≠ e1) : Kcp K e1 N n g x = K x := by
  unfold Kcp
  rw [Kup_ne h, Kup_ne h]
set_option maxRecDepth 20000 in
/-- an array that is full: half as much again -/
theorem t_grow1 {K : gaK} {M : gaM} {e e1 n : Nat} {g : Nat → Option Nat} (hk2 : K 2 = some (.inr (.inl (7, gr_AL e)))) (hke : K e = some (.inr (.inr (3, n, g)))) (hel : ∀ j, j < n → ∀ w, g j = some w → ∃ rf, K w = some (.inr (.inl (4, rf)))) (hn : 2 ≤ n ∧ n ≤ 600) (hf : frh K e1) : ga_MetA yJx4a65c_grow_92f84 cJx4a65c_grow_92f84 4 (some oAr) 3 1 (n + n / 2) K M [.inr (some 2), .inl ((n : Int) + 1)] (some (.inr (some e1))) (Kgr K e e1 (n + n / 2) n g) M := by
  refine ga_metA (own := RJx4a65c) (by decide) rfl (Nat.le_of_ble_eq_true rfl) (fun X ad Z => ?_)
  refine ga_al0 Z.C eJx4a65c_grow_92f84_0 ?_
  refine ga_getR Z.C Z.K eJx4a65c_grow_92f84_1 lRJx4a65c_9 hk2 rfl ?_
  refine ga_alen Z.C Z.K eJx4a65c_grow_92f84_4 (.inr ⟨3, g, hke, .inr rfl⟩) ?_
  refine ga_is2 Z.C eJx4a65c_grow_92f84_5 ?_
  refine ga_il2 Z.C eJx4a65c_grow_92f84_6 ?_
  refine ga_if_gt Z.C eJx4a65c_grow_92f84_7 ⟨by omega, by omega⟩ (fun hc => absurd hc (by omega)) (fun hc => ?_)
  refine ga_il2 Z.C eJx4a65c_grow_92f84_20 ?_
  refine ga_il1 Z.C eJx4a65c_grow_92f84_21 ?_
  refine ga_il2 Z.C eJx4a65c_grow_92f84_22 ?_
  refine ga_isub Z.C eJx4a65c_grow_92f84_23 ?_
  rw [show (n : Int) + 1 - (n : Int) = 1 by omega]
  refine ga_il2 Z.C eJx4a65c_grow_92f84_24 ?_
  refine ga_push Z.C eJx4a65c_grow_92f84_25 ?_
  refine ga_ishr1 Z.C eJx4a65c_grow_92f84_26 ⟨by omega, by omega⟩ ?_
  refine ga_callS (rest := []) [.inl (n : Int), .inl 1, .inl ((n : Int) / 2)] Z.C Z.K eJx4a65c_grow_92f84_27 nRJx4a65c_73 mJ8_newLength_cabcc sJ8_newLength_cabcc (t_newLength ⟨by omega, by omega⟩ ⟨by omega, by omega⟩) (by decide) rfl rfl (Nat.le_of_ble_eq_true rfl) ?_
  refine ga_is3 Z.C eJx4a65c_grow_92f84_30 ?_
  refine ga_al0 Z.C eJx4a65c_grow_92f84_31 ?_
  refine ga_al0 Z.C eJx4a65c_grow_92f84_32 ?_
  refine ga_getR Z.C Z.K eJx4a65c_grow_92f84_33 lRJx4a65c_9 hk2 rfl ?_
  refine ga_il3 Z.C eJx4a65c_grow_92f84_36 ?_
  rw [show (n : Int) + (n : Int) / 2 = ((n + n / 2 : Nat) : Int) by omega]
  refine z_callS (c := 0) (d := 0) (mc := 1) (ms := n + n / 2) (rest := [.inr (some 2)]) [.inr (some e), .inl ((n + n / 2 : Nat) : Int)] (by rw [Nat.zero_add, Nat.zero_add]; exact Z) eJx4a65c_grow_92f84_37 nRJx4a65c_66 mJ7_copyOf_1904c sJ7_copyOf_1904c (t_copy2 hke hel (by omega) (by omega) hf) (by decide) rfl rfl (Nat.le_of_ble_eq_true rfl) Kcp_dom ⟨.inl (nn hk2), trivial⟩ ⟨.inl (nn hk2), trivial⟩ (fun X Z => ?_)
  refine ga_dup_x1 Z.C eJx4a65c_grow_92f84_40 ?_
  refine z_putRN (ty := oAr) Z eJx4a65c_grow_92f84_41 lRJx4a65c_9 (by intro q hq; cases hq; exact ⟨rfl, rfl⟩) nar_a fit_a (by rw [Kcp_ne (fr_ne hf hk2)]; exact hk2) (fun X Z => ?_)
  exact z_aret Z (.inr ⟨_, rfl⟩) (fun _ _ h => h) eJx4a65c_grow_92f84_44
def Kg0 (K : gaK) (e1 : Nat) : gaK := Kup (Kup K e1 (.inr (.inr (3, 10, fun _ => none)))) 2 (.inr (.inl (7, rfu (gr_AL 99) 1 (some e1))))
theorem Kg0_dom {K : gaK} {e1 : Nat} : ∀ i, K i ≠ none → Kg0 K e1 i ≠ none := fun i h => Kup_dom _ (Kup_dom _ h)
set_option maxRecDepth 20000 in
/-- the first array: ten places -/
theorem t_grow1A {K : gaK} {M : gaM} {e1 : Nat} (hk2 : K 2 = some (.inr (.inl (7, gr_AL 99)))) (hf : frh K e1) : ga_MetA yJx4a65c_grow_92f84 cJx4a65c_grow_92f84 4 (some oAr) 3 1 10 K M [.inr (some 2), .inl (0 + 1)] (some (.inr (some e1))) (Kg0 K e1) M := by
  refine ga_metA (own := RJx4a65c) (by decide) rfl (Nat.le_of_ble_eq_true rfl) (fun X ad Z => ?_)
  refine ga_al0 Z.C eJx4a65c_grow_92f84_0 ?_
  refine ga_getR Z.C Z.K eJx4a65c_grow_92f84_1 lRJx4a65c_9 hk2 rfl ?_
  refine z_alenL Z eJx4a65c_grow_92f84_4 (.inr ⟨rfl, rfl⟩) ?_
  refine ga_is2 Z.C eJx4a65c_grow_92f84_5 ?_
  refine ga_il2 Z.C eJx4a65c_grow_92f84_6 ?_
  refine ga_if_gt Z.C eJx4a65c_grow_92f84_7 (by decide) (fun hc => ?_) (fun hc => absurd (by decide) hc)
  refine ga_al0 Z.C eJx4a65c_grow_92f84_10 ?_
  refine ga_getR Z.C Z.K eJx4a65c_grow_92f84_11 lRJx4a65c_9 hk2 rfl ?_
  refine z_gets Z eJx4a65c_grow_92f84_14 lsRJx4a65c_39 ?_
  refine ga_acmp_eqS Z.C eJx4a65c_grow_92f84_17 ?_
  refine ga_al0 Z.C eJx4a65c_grow_92f84_45 ?_
  refine ga_push Z.C eJx4a65c_grow_92f84_46 ?_
  refine ga_il1 Z.C eJx4a65c_grow_92f84_48 ?_
  refine ga_max Z.C eJx4a65c_grow_92f84_49 nRJx4a65c_79 (by decide) (by decide) (by decide) (Nat.le_of_ble_eq_true rfl) ?_
  refine z_newq (id := e1) (N := 10) (c := 0) (d := 0) Z eJx4a65c_grow_92f84_52 (by decide) (by decide) caRJx4a65c_7 hf (okl_fr (K := K) ⟨.inl (nn hk2), trivial⟩ ⟨.inl (nn hk2), trivial⟩ hf) (fun X Z => ?_)
  refine ga_dup_x1 Z.C eJx4a65c_grow_92f84_55 ?_
  refine z_putRN (ty := oAr) Z eJx4a65c_grow_92f84_56 lRJx4a65c_9 (by intro q hq; cases hq; exact ⟨rfl, rfl⟩) nar_a fit_a (by rw [Kup_ne (fr_ne hf hk2)]; exact hk2) (fun X Z => ?_)
  exact z_aret Z (.inr ⟨_, rfl⟩) (fun _ _ h => h) eJx4a65c_grow_92f84_59
set_option maxRecDepth 20000 in
theorem t_grow0 {K K1 : gaK} {M : gaM} {e e1 N : Nat} {s : Int} (hk2 : K 2 = some (.inr (.inl (7, gr_AL e)))) (hs : M 2 2 = s) (hdom : ∀ i, K i ≠ none → K1 i ≠ none) (hM : ga_MetA yJx4a65c_grow_92f84 cJx4a65c_grow_92f84 4 (some oAr) 3 1 N K M [.inr (some 2), .inl (s + 1)] (some (.inr (some e1))) K1 M) : ga_MetA yJx4a65c_grow_d5877 cJx4a65c_grow_d5877 1 (some oAr) 4 1 N K M [.inr (some 2)] (some (.inr (some e1))) K1 M := by
  refine ga_metA (own := RJx4a65c) (by decide) rfl (Nat.le_of_ble_eq_true rfl) (fun X ad Z => ?_)
  refine ga_al0 Z.C eJx4a65c_grow_d5877_0 ?_
  refine ga_al0 Z.C eJx4a65c_grow_d5877_1 ?_
  refine ga_getI Z.C Z.K eJx4a65c_grow_d5877_2 lRJx4a65c_48 hk2 rfl ?_
  rw [hs]
  refine ga_push Z.C eJx4a65c_grow_d5877_5 ?_
  refine ga_iadd Z.C eJx4a65c_grow_d5877_6 ?_
  refine z_callV (ci := 7) (id := 2) (c := 0) (d := 0) (mc := 1) (ms := N) (rest := []) [.inl (s + 1)] (by rw [Nat.zero_add, Nat.zero_add]; exact Z) eJx4a65c_grow_d5877_7 nRJx4a65c_69 mJx4a65c_grow_92f84 vJx4a65c_grow_92f84 hk2 hM (by decide) rfl rfl (Nat.le_of_ble_eq_true rfl) hdom (okl_1 (nn hk2)) trivial (fun X Z => ?_)
  exact z_aret Z (.inr ⟨_, rfl⟩) (fun _ _ h => h) eJx4a65c_grow_d5877_10
